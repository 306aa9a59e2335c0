/-! The term: parts, places, guards. Written by wip/whole/gen/c61.py. -/
theorem bdP_l {x : Nat} {F : PS → Nat ⊕ PS} : bdP (.inl x) F = .inl x := rfl
theorem bdP_r {S : PS} {F : PS → Nat ⊕ PS} : bdP (.inr S) F = F S := rfl
theorem PR.st {g : Nat → Nat → Int} {tm n i : Nat} {c : Int} {X : Nat → Int} {S : PS} (hS : PR g tm X n S) : PR (u2 g (tm + 2) i c) tm X n (stP i c S) := by
  obtain ⟨p1, p2, p3, p4, p5, p6, p7, p8, p9⟩ := hS
  exact ⟨by rw [u2_ne (by omega)]; exact p1, by rw [u2_ne (by omega)]; exact p2, by rw [u2_ne (by omega)]; exact p3, by rw [u2_ne (by omega)]; exact p4, by rw [u2_eq, p5]; rfl, by rw [u2_ne (by omega)]; exact p6, by rw [u2_ne (by omega)]; exact p7, by rw [u2_ne (by omega)]; exact p8, p9⟩
theorem PR.en {g : Nat → Nat → Int} {tm n i : Nat} {X : Nat → Int} {S : PS} (hS : PR g tm X n S) : PR (u2 g (tm + 4) i (S.2.1 : Int)) tm X n (enP i S) := by
  obtain ⟨p1, p2, p3, p4, p5, p6, p7, p8, p9⟩ := hS
  exact ⟨by rw [u2_ne (by omega)]; exact p1, by rw [u2_ne (by omega)]; exact p2, by rw [u2_ne (by omega)]; exact p3, by rw [u2_ne (by omega)]; exact p4, by rw [u2_ne (by omega)]; exact p5, by rw [u2_ne (by omega)]; exact p6, by rw [u2_eq, p7]; rfl, by rw [u2_ne (by omega)]; exact p8, p9⟩
theorem adP_at {k r : Int} {S S1 : PS} (h : adP k r S = .inr S1) : S1.1 = S.1 ∧ S.2.1 < 50 ∧ S1.2.1 = S.2.1 + 1 := by
  unfold adP at h
  split at h
  · cases h; exact ⟨rfl, by assumption, rfl⟩
  · cases h
theorem if_inr {c : Prop} [Decidable c] {x : Nat} {A S : PS} (h : (if c then (.inr A : Nat ⊕ PS) else .inl x) = .inr S) : c ∧ S = A := by
  split at h
  · cases h; exact ⟨by assumption, rfl⟩
  · cases h
theorem if_inl {c : Prop} [Decidable c] {x y : Nat} {A : PS} (h : (if c then (.inr A : Nat ⊕ PS) else .inl x) = .inl y) : ¬ c ∧ y = x := by
  split at h
  · cases h
  · cases h; exact ⟨by assumption, rfl⟩
theorem c74 {P : Pg} {d : Nat} {u : Mm} {g : Nat → Nat → Int} {tm n : Nat} {X : Nat → Int} {S : PS} {b : Int} (hTm : TmA u tm) (hX : ∀ i, i < n → 0 ≤ X i ∧ X i < 65536) (hn : n ≤ 120) (hS : PR g tm X n S) (hc : pk X n S.1 ≠ 0) : Ec P (d + 2) 74 [vR tm, vI b] (sI u g) (PQ u g tm X n (meP (pk X n) b S) none) := by
  obtain ⟨k0, k1, k2, k3, k4, k5, k6, k7, k8, k9, k10⟩ := id hTm
  obtain ⟨p1, p2, p3, p4, p5, p6, p7, p8, p9, p10⟩ := id hS
  have hlt := pkz_lt hc
  generalize hR : meP (pk X n) b S = R
  unfold meP at hR
  change Ef P _ 74 0 [some (vR tm), some (vI b), none] [] _ _
  refine ef_aload_n (pc := 0) d74_0 rfl ?_
  refine ef_iconst (pc := 1) d74_1 (by decide) ?_
  refine ef_iconst (pc := 2) d74_2 (by decide) ?_
  refine ef_callV (pc := 3) d74_3 lm_6_76 (as := [_, _]) rfl rfl (by assumption) rfl rfl (by decide) (Nat.le_of_ble_eq_true rfl) rfl (Nat.le_of_ble_eq_true rfl) ?_
  refine Ec.imp (c75 hTm hX hn hS (Or.inl rfl)) ?_
  rintro r3 u3 ⟨g1, o1, hq1⟩
  rcases hq1.symm with ⟨x1, e1, rfl, rfl⟩ | ⟨S1, e1, rfl, rfl, s1⟩
  · rw [e1, bdP_l] at hR
    exact (show pHs P 74 = [] ∧ _ from ⟨rfl, _, o1, Or.inr ⟨x1, hR.symm, rfl, rfl⟩⟩)
  rw [e1, bdP_r] at hR
  have a1 := adP_at e1
  have t3 := s1.2.2.1
  rw [a1.1] at t3
  have hrg := pk_rg (X := X) (n := n) (a := (nxP S1).1) hX
  have s2 := s1.nx (by omega)
  rw [a1.1] at s2
  refine ef_istore_n (pc := 6) d74_6 (ls' := [_, _, _]) rfl ?_
  refine ef_aload_n (pc := 7) d74_7 rfl ?_
  refine ef_dup (pc := 8) d74_8 rfl ?_
  refine eg_getI (pc := 9) d74_9 lf_6_42 (by assumption) (by decide) ?_
  try simp (disch := omega) only [u2_ne, u2_at, u2_ni, ur_ne, ur_eq]
  rw [t3]
  refine ef_iconst (pc := 12) d74_12 (by decide) ?_
  refine ef_iadd (pc := 13) d74_13 (z := ((S.1 + 1 : Nat) : Int)) (by omega) ⟨by omega, by omega⟩ ?_
  refine eg_putI (pc := 14) d74_14 pf_74_42 (by assumption) (by decide) ?_
  refine ef_aload_n (pc := 17) d74_17 rfl ?_
  refine eg_getR (pc := 18) d74_18 lf_6_15 (by assumption) (by decide) (by assumption) ?_
  refine ef_iload_n (pc := 21) d74_21 rfl ?_
  refine ef_aload_n (pc := 22) d74_22 rfl ?_
  refine ef_iload_n (pc := 23) d74_23 rfl ?_
  refine ef_callV (pc := 24) d74_24 lm_6_80 (as := [_]) rfl rfl (by assumption) rfl rfl (by decide) (Nat.le_of_ble_eq_true rfl) rfl (Nat.le_of_ble_eq_true rfl) ?_
  refine Ec.imp (c76 hTm hX hn s2) ?_
  rintro r24 u24 ⟨g3, o3, hq3⟩
  rcases hq3.symm with ⟨x3, e3, rfl, rfl⟩ | ⟨S3, e3, rfl, rfl, s3⟩
  · obtain ⟨k30, rfl⟩ := if_inl e3
    rw [show nmP (pk X n) b S.2.1 (nxP S1) = .inl 0 from if_neg k30] at hR
    exact (show pHs P 74 = [] ∧ _ from ⟨rfl, _, (o1.up (by omega) (by omega) (by omega)).trans o3, Or.inr ⟨_, hR.symm, rfl, rfl⟩⟩)
  obtain ⟨k30, rfl⟩ := if_inr e3
  have hRe : nmP (pk X n) b S.2.1 (nxP S1) = _ := if_pos k30
  rw [hRe] at hR
  refine eg_cast (pc := 27) d74_27 (i := S.2.1) (w := pk X n (nxP S1).1) (by assumption) (rfl) (by omega) (by omega) ?_
  refine ef_vret (pc := 28) d74_28 rfl ?_
  exact ⟨_, ((o1.up (by omega) (by omega) (by omega)).trans o3).st hrg, Or.inl ⟨_, hR.symm, rfl, rfl, s3.st⟩⟩
theorem c79 {P : Pg} {d : Nat} {u : Mm} {g : Nat → Nat → Int} {tm n : Nat} {X : Nat → Int} {S : PS} {dep : Nat} {b : Int} {F : PS → Nat ⊕ PS} (hTm : TmA u tm) (hX : ∀ i, i < n → 0 ≤ X i ∧ X i < 65536) (hn : n ≤ 120) (hS : PR g tm X n S) (hd : dep ≤ 100) (hproc : ∀ (S : PS) (g : Nat → Nat → Int), PR g tm X n S → Ec P (d + 2) 70 [vR tm, vI ((dep + 1 : Nat) : Int), vI b] (sI u g) (PQ u g tm X n (prP (pk X n) F S) none)) : Ec P (d + 3) 79 [vR tm, vI (dep : Int), vI b] (sI u g) (PQ u g tm X n (plP (pk X n) b F S) none) := by
  obtain ⟨k0, k1, k2, k3, k4, k5, k6, k7, k8, k9, k10⟩ := id hTm
  obtain ⟨p1, p2, p3, p4, p5, p6, p7, p8, p9, p10⟩ := id hS
  generalize hR : plP (pk X n) b F S = R
  unfold plP at hR
  change Ef P _ 79 0 [some (vR tm), some (vI (dep : Int)), some (vI b), none] [] _ _
  refine ef_aload_n (pc := 0) d79_0 rfl ?_
  refine ef_iconst (pc := 1) d79_1 (by decide) ?_
  refine ef_iconst (pc := 2) d79_2 (by decide) ?_
  refine ef_callV (pc := 3) d79_3 lm_6_76 (as := [_, _]) rfl rfl (by assumption) rfl rfl (by decide) (Nat.le_of_ble_eq_true rfl) rfl (Nat.le_of_ble_eq_true rfl) ?_
  refine Ec.imp (c75 hTm hX hn hS (Or.inl rfl)) ?_
  rintro r3 u3 ⟨g1, o1, hq1⟩
  rcases hq1.symm with ⟨x1, e1, rfl, rfl⟩ | ⟨S1, e1, rfl, rfl, s1⟩
  · rw [e1, bdP_l] at hR
    exact (show pHs P 79 = [] ∧ _ from ⟨rfl, _, o1, Or.inr ⟨x1, hR.symm, rfl, rfl⟩⟩)
  rw [e1, bdP_r] at hR
  have a1 := adP_at e1
  have hrg := pk_rg (X := X) (n := n) (a := S1.1) hX
  refine ef_istore_n (pc := 6) d79_6 (ls' := [_, _, _, _]) rfl ?_
  refine ef_aload_n (pc := 7) d79_7 rfl ?_
  refine eg_getR (pc := 8) d79_8 lf_6_15 (by assumption) (by decide) (by assumption) ?_
  refine ef_iload_n (pc := 11) d79_11 rfl ?_
  refine ef_aload_n (pc := 12) d79_12 rfl ?_
  refine ef_iload_n (pc := 13) d79_13 rfl ?_
  refine ef_callV (pc := 14) d79_14 lm_6_80 (as := [_]) rfl rfl (by assumption) rfl rfl (by decide) (Nat.le_of_ble_eq_true rfl) rfl (Nat.le_of_ble_eq_true rfl) ?_
  refine Ec.imp (c76 hTm hX hn s1) ?_
  rintro r14 u14 ⟨g2, o2, hq2⟩
  rcases hq2.symm with ⟨x2, e2, rfl, rfl⟩ | ⟨S2, e2, rfl, rfl, s2⟩
  · obtain ⟨k20, rfl⟩ := if_inl e2
    rw [show nmP (pk X n) b S.2.1 S1 = .inl 0 from if_neg k20, bdP_l] at hR
    exact (show pHs P 79 = [] ∧ _ from ⟨rfl, _, o1.trans o2, Or.inr ⟨_, hR.symm, rfl, rfl⟩⟩)
  obtain ⟨k20, rfl⟩ := if_inr e2
  have hRe : nmP (pk X n) b S.2.1 S1 = _ := if_pos k20
  rw [hRe, bdP_r] at hR
  refine eg_cast (pc := 17) d79_17 (i := S.2.1) (w := pk X n S1.1) (by assumption) (rfl) (by omega) (by omega) ?_
  have s3 := s2.st (i := S.2.1) (c := pk X n S1.1)
  have o3 := (o1.trans o2).st (i := S.2.1) hrg
  refine ef_aload_n (pc := 18) d79_18 rfl ?_
  refine ef_bipush (pc := 19) d79_19 (by decide) ?_
  refine ef_callV (pc := 21) d79_21 lm_6_62 (as := [_]) rfl rfl (by assumption) rfl rfl (by decide) (Nat.le_of_ble_eq_true rfl) rfl (Nat.le_of_ble_eq_true rfl) ?_
  refine Ec.imp (c73 hTm hX hn s3 (by decide)) ?_
  rintro r21 u21 ⟨g4, o4, hq4⟩
  rcases hq4.symm with ⟨x4, e4, rfl, rfl⟩ | ⟨S4, e4, rfl, rfl, s4⟩
  · rw [e4, bdP_l] at hR
    exact (show pHs P 79 = [] ∧ _ from ⟨rfl, _, o3.trans o4, Or.inr ⟨x4, hR.symm, rfl, rfl⟩⟩)
  rw [e4, bdP_r] at hR
  refine ef_aload_n (pc := 24) d79_24 rfl ?_
  refine ef_iload_n (pc := 25) d79_25 rfl ?_
  refine ef_iconst (pc := 26) d79_26 (by decide) ?_
  refine ef_iadd (pc := 27) d79_27 (z := ((dep + 1 : Nat) : Int)) (by omega) ⟨by omega, by omega⟩ ?_
  refine ef_iload_n (pc := 28) d79_28 rfl ?_
  refine ef_callV (pc := 29) d79_29 lm_6_45 (as := [_, _]) rfl rfl (by assumption) rfl rfl (by decide) (Nat.le_of_ble_eq_true rfl) rfl (Nat.le_of_ble_eq_true rfl) ?_
  refine Ec.imp (hproc _ _ s4) ?_
  rintro r29 u29 ⟨g5, o5, hq5⟩
  rcases hq5.symm with ⟨x5, e5, rfl, rfl⟩ | ⟨S5, e5, rfl, rfl, s5⟩
  · rw [e5, bdP_l] at hR
    exact (show pHs P 79 = [] ∧ _ from ⟨rfl, _, (o3.trans o4).trans o5, Or.inr ⟨x5, hR.symm, rfl, rfl⟩⟩)
  rw [e5, bdP_r] at hR
  refine ef_aload_n (pc := 32) d79_32 rfl ?_
  refine ef_bipush (pc := 33) d79_33 (by decide) ?_
  refine ef_callV (pc := 35) d79_35 lm_6_62 (as := [_]) rfl rfl (by assumption) rfl rfl (by decide) (Nat.le_of_ble_eq_true rfl) rfl (Nat.le_of_ble_eq_true rfl) ?_
  refine Ec.imp (c73 hTm hX hn s5 (by decide)) ?_
  rintro r35 u35 ⟨g6, o6, hq6⟩
  rcases hq6.symm with ⟨x6, e6, rfl, rfl⟩ | ⟨S6, e6, rfl, rfl, s6⟩
  · rw [e6, bdP_l] at hR
    exact (show pHs P 79 = [] ∧ _ from ⟨rfl, _, ((o3.trans o4).trans o5).trans o6, Or.inr ⟨x6, hR.symm, rfl, rfl⟩⟩)
  rw [e6, bdP_r] at hR
  have t1 := s6.1
  refine ef_aload_n (pc := 38) d79_38 rfl ?_
  refine eg_getR (pc := 39) d79_39 lf_6_23 (by assumption) (by decide) (by assumption) ?_
  refine ef_iload_n (pc := 42) d79_42 rfl ?_
  refine ef_aload_n (pc := 43) d79_43 rfl ?_
  refine eg_getI (pc := 44) d79_44 lf_6_39 (by assumption) (by decide) ?_
  try simp (disch := omega) only [u2_ne, u2_at, u2_ni, ur_ne, ur_eq]
  rw [t1]
  refine eg_iast (pc := 47) d79_47 (i := S.2.1) (by assumption) (rfl) (by omega) rfl ?_
  refine ef_vret (pc := 48) d79_48 rfl ?_
  exact ⟨_, (((o3.trans o4).trans o5).trans o6).up (by omega) (by omega) (by omega), Or.inl ⟨_, hR.symm, rfl, rfl, s6.en⟩⟩
theorem c80 {P : Pg} {d : Nat} {u : Mm} {g : Nat → Nat → Int} {tm n : Nat} {X : Nat → Int} {S : PS} {dep : Nat} {b : Int} {F : Int → PS → Nat ⊕ PS} (hTm : TmA u tm) (hX : ∀ i, i < n → 0 ≤ X i ∧ X i < 65536) (hn : n ≤ 120) (hS : PR g tm X n S) (hsv : mS u (pSv P) = none) (hd : dep ≤ 100) (hpart : ∀ (b : Int) (S : PS) (g : Nat → Nat → Int), PR g tm X n S → Ec P (d + 3) 71 [vR tm, vI ((dep + 1 : Nat) : Int), vI b] (sI u g) (PQ u g tm X n (F b S) none)) : Ec P (d + 4) 80 [vR tm, vI (dep : Int), vI b] (sI u g) (PQ u g tm X n (guP (pk X n) b F S) none) := by
  obtain ⟨k0, k1, k2, k3, k4, k5, k6, k7, k8, k9, k10⟩ := id hTm
  have main : ∀ (r : Int) (S : PS) (g : Nat → Nat → Int), r = 0 ∨ r = 1 → PR g tm X n S → Ef P (d + 4) 80 29 [some (vR tm), some (vI (dep : Int)), some (vI b), some (vI r), none, none, none] [] (sI u g) (PQ u g tm X n (grP (pk X n) b r F S) none) := by
    intro r S g hr hS
    obtain ⟨p1, p2, p3, p4, p5, p6, p7, p8, p9, p10⟩ := id hS
    have hrg := pk_rg (X := X) (n := n) (a := S.1) hX
    have hixr : -1 ≤ ixC (pk X n S.1) ∧ ixC (pk X n S.1) ≤ 3 := by
      unfold ixC
      (repeat split) <;> omega
    generalize hR : grP (pk X n) b r F S = R
    unfold grP at hR
    generalize hkk : ixC (pk X n S.1) = kk at hR hixr
    have rest : ∀ (b' : Int) (S2 : PS) (g2 : Nat → Nat → Int), OC tm g g2 → PR g2 tm X n S2 → S.2.1 < 50 → (bdP (skP (pk X n) 46 S2) fun S3 => bdP (F (if kk = 3 then bI (fun x y => x ||| y) b (bitF (S3.2.2.2.1 S.2.1)) else b) S3) fun S4 => .inr (enP S.2.1 S4)) = R → b' = (if kk = 3 then bI (fun x y => x ||| y) b (bitF (S2.2.2.2.1 S.2.1)) else b) → Ef P (d + 4) 80 122 [some (vR tm), some (vI (dep : Int)), some (vI b), some (vI r), some (vI kk), some (vI (S.2.1 : Int)), some (vI b')] [] (sI u g2) (PQ u g tm X n R none) := by
      intro b' S2 g2 o2 s2 h50 hR hb'
      refine ef_aload_n (pc := 122) d80_122 rfl ?_
      refine ef_bipush (pc := 123) d80_123 (by decide) ?_
      refine ef_callV (pc := 125) d80_125 lm_6_62 (as := [_]) rfl rfl (by assumption) rfl rfl (by decide) (Nat.le_of_ble_eq_true rfl) rfl (Nat.le_of_ble_eq_true rfl) ?_
      refine Ec.imp (c73 hTm hX hn s2 (by decide)) ?_
      rintro r125 u125 ⟨g3, o3, hq3⟩
      rcases hq3.symm with ⟨x3, e3, rfl, rfl⟩ | ⟨S3, e3, rfl, rfl, s3⟩
      · rw [e3, bdP_l] at hR
        exact (show pHs P 80 = [] ∧ _ from ⟨rfl, _, o2.trans o3, Or.inr ⟨x3, hR.symm, rfl, rfl⟩⟩)
      rw [e3, bdP_r] at hR
      have hS3 : S3 = nxP S2 := (if_inr e3).2
      subst hS3
      rw [show (nxP S2).2.2.2.1 S.2.1 = S2.2.2.2.1 S.2.1 from rfl, ← hb'] at hR
      refine ef_aload_n (pc := 128) d80_128 rfl ?_
      refine ef_iload_n (pc := 129) d80_129 rfl ?_
      refine ef_iconst (pc := 130) d80_130 (by decide) ?_
      refine ef_iadd (pc := 131) d80_131 (z := ((dep + 1 : Nat) : Int)) (by omega) ⟨by omega, by omega⟩ ?_
      refine ef_iload (pc := 132) d80_132 rfl ?_
      refine ef_callV (pc := 134) d80_134 lm_6_52 (as := [_, _]) rfl rfl (by assumption) rfl rfl (by decide) (Nat.le_of_ble_eq_true rfl) rfl (Nat.le_of_ble_eq_true rfl) ?_
      refine Ec.imp (hpart _ _ _ s3) ?_
      rintro r134 u134 ⟨g4, o4, hq4⟩
      rcases hq4.symm with ⟨x4, e4, rfl, rfl⟩ | ⟨S4, e4, rfl, rfl, s4⟩
      · rw [e4, bdP_l] at hR
        exact (show pHs P 80 = [] ∧ _ from ⟨rfl, _, (o2.trans o3).trans o4, Or.inr ⟨x4, hR.symm, rfl, rfl⟩⟩)
      rw [e4, bdP_r] at hR
      have t1 := s4.1
      refine ef_aload_n (pc := 137) d80_137 rfl ?_
      refine eg_getR (pc := 138) d80_138 lf_6_23 (by assumption) (by decide) (by assumption) ?_
      refine ef_iload (pc := 141) d80_141 rfl ?_
      refine ef_aload_n (pc := 143) d80_143 rfl ?_
      refine eg_getI (pc := 144) d80_144 lf_6_39 (by assumption) (by decide) ?_
      try simp (disch := omega) only [u2_ne, u2_at, u2_ni, ur_ne, ur_eq]
      rw [t1]
      refine eg_iast (pc := 147) d80_147 (i := S.2.1) (by assumption) (rfl) (by omega) rfl ?_
      refine ef_vret (pc := 148) d80_148 rfl ?_
      exact ⟨_, ((o2.trans o3).trans o4).up (by omega) (by omega) (by omega), Or.inl ⟨_, hR.symm, rfl, rfl, s4.en⟩⟩
    refine ef_ldcS (pc := 29) d80_29 (show tLs 6 84 = some 1 by decide +kernel) ?_
    refine ef_aload_n (pc := 31) d80_31 rfl ?_
    refine ef_callV (pc := 32) d80_32 lm_6_58 (as := []) rfl rfl (by assumption) rfl rfl (by decide) (Nat.le_of_ble_eq_true rfl) rfl (Nat.le_of_ble_eq_true rfl) ?_
    refine Ec.imp (c72 hTm hX hn hS) ?_
    rintro r32 u32 ⟨rfl, rfl⟩
    refine ef_callT (pc := 35) d80_35 lm_6_86 (as := [_]) rfl rfl rfl rfl (Nat.le_of_ble_eq_true rfl) rfl (Nat.le_of_ble_eq_true rfl) ?_
    refine Ec.imp (c166 hsv hrg.1 hrg.2) ?_
    rintro r35 u35 ⟨rfl, rfl⟩
    rw [hkk]
    refine ef_istore (pc := 38) d80_38 (ls' := [_, _, _, _, _, _, _]) rfl ?_
    refine ef_iload (pc := 40) d80_40 rfl ?_
    refine ef_if_ge (pc := 42) d80_42 (t := 53) rfl (fun h42 => ?_) (fun h42 => ?_)
    · rw [if_neg (by omega)] at hR
      have hlt : S.1 < n := ixC_lt (by rw [hkk]; omega)
      refine ef_aload_n (pc := 53) d80_53 rfl ?_
      refine ef_iload (pc := 54) d80_54 rfl ?_
      refine ef_iload_n (pc := 56) d80_56 rfl ?_
      refine ef_callV (pc := 57) d80_57 lm_6_76 (as := [_, _]) rfl rfl (by assumption) rfl rfl (by decide) (Nat.le_of_ble_eq_true rfl) rfl (Nat.le_of_ble_eq_true rfl) ?_
      refine Ec.imp (c75 hTm hX hn hS hr) ?_
      rintro r57 u57 ⟨g1, o1, hq1⟩
      rcases hq1.symm with ⟨x1, e1, rfl, rfl⟩ | ⟨S1, e1, rfl, rfl, s1⟩
      · rw [e1, bdP_l] at hR
        exact (show pHs P 80 = [] ∧ _ from ⟨rfl, _, o1, Or.inr ⟨x1, hR.symm, rfl, rfl⟩⟩)
      rw [e1, bdP_r] at hR
      have a1 := adP_at e1
      have t3 := s1.2.2.1
      rw [a1.1] at t3
      have hrg1 := pk_rg (X := X) (n := n) (a := (nxP S1).1) hX
      have s2 := s1.nx (by omega)
      rw [a1.1] at s2
      have o2 := o1.up (a := tm) (i := 7) (x := ((S.1 + 1 : Nat) : Int)) (by omega) (by omega) (by omega)
      refine ef_istore (pc := 60) d80_60 (ls' := [_, _, _, _, _, _, _]) rfl ?_
      refine ef_aload_n (pc := 62) d80_62 rfl ?_
      refine ef_dup (pc := 63) d80_63 rfl ?_
      refine eg_getI (pc := 64) d80_64 lf_6_42 (by assumption) (by decide) ?_
      try simp (disch := omega) only [u2_ne, u2_at, u2_ni, ur_ne, ur_eq]
      rw [t3]
      refine ef_iconst (pc := 67) d80_67 (by decide) ?_
      refine ef_iadd (pc := 68) d80_68 (z := ((S.1 + 1 : Nat) : Int)) (by omega) ⟨by omega, by omega⟩ ?_
      refine eg_putI (pc := 69) d80_69 pf_80_42 (by assumption) (by decide) ?_
      refine ef_iload_n (pc := 72) d80_72 rfl ?_
      refine ef_istore (pc := 73) d80_73 (ls' := [_, _, _, _, _, _, _]) rfl ?_
      refine ef_iload (pc := 75) d80_75 rfl ?_
      refine ef_iconst (pc := 77) d80_77 (by decide) ?_
      refine ef_icmp_ne (pc := 78) d80_78 (t := 110) rfl (fun h78 => ?_) (fun h78 => ?_)
      · rw [if_neg h78] at hR
        refine ef_aload_n (pc := 110) d80_110 rfl ?_
        refine eg_getR (pc := 111) d80_111 lf_6_15 (by assumption) (by decide) (by assumption) ?_
        refine ef_iload (pc := 114) d80_114 rfl ?_
        refine ef_aload_n (pc := 116) d80_116 rfl ?_
        refine ef_iload_n (pc := 117) d80_117 rfl ?_
        refine ef_callV (pc := 118) d80_118 lm_6_80 (as := [_]) rfl rfl (by assumption) rfl rfl (by decide) (Nat.le_of_ble_eq_true rfl) rfl (Nat.le_of_ble_eq_true rfl) ?_
        refine Ec.imp (c76 hTm hX hn s2) ?_
        rintro r118 u118 ⟨g3, o3, hq3⟩
        rcases hq3.symm with ⟨x3, e3, rfl, rfl⟩ | ⟨S3, e3, rfl, rfl, s3⟩
        · obtain ⟨k30, rfl⟩ := if_inl e3
          rw [show nmP (pk X n) b S.2.1 (nxP S1) = .inl 0 from if_neg k30, bdP_l] at hR
          exact (show pHs P 80 = [] ∧ _ from ⟨rfl, _, o2.trans o3, Or.inr ⟨_, hR.symm, rfl, rfl⟩⟩)
        obtain ⟨k30, rfl⟩ := if_inr e3
        have hRe : nmP (pk X n) b S.2.1 (nxP S1) = _ := if_pos k30
        rw [hRe, bdP_r] at hR
        refine eg_cast (pc := 121) d80_121 (i := S.2.1) (w := pk X n (nxP S1).1) (by assumption) (rfl) (by omega) (by omega) ?_
        have s4 := s3.st (i := S.2.1) (c := pk X n (nxP S1).1)
        have o4 := (o2.trans o3).st (i := S.2.1) hrg1
        first
        | exact rest _ _ _ o4 s4 a1.2.1 hR (by rw [if_neg h78])
        | exact rest _ _ _ o4 s4 a1.2.1 hR (by rw [if_pos h3]; show _ = bI (fun x y => x ||| y) b (bitF (u1 S1.2.2.2.1 S.2.1 (pk X n (nxP S1).1) S.2.1)); rw [u1_eq])
      · have h3 : kk = 3 := h78
        rw [if_pos h3] at hR
        refine ef_aload_n (pc := 81) d80_81 rfl ?_
        refine eg_getR (pc := 82) d80_82 lf_6_15 (by assumption) (by decide) (by assumption) ?_
        refine ef_iload (pc := 85) d80_85 rfl ?_
        refine ef_aload_n (pc := 87) d80_87 rfl ?_
        refine ef_callV (pc := 88) d80_88 lm_6_92 (as := []) rfl rfl (by assumption) rfl rfl (by decide) (Nat.le_of_ble_eq_true rfl) rfl (Nat.le_of_ble_eq_true rfl) ?_
        refine Ec.imp (c81 hTm hX hn s2) ?_
        rintro r88 u88 ⟨g3, o3, hq3⟩
        rcases hq3.symm with ⟨x3, e3, rfl, rfl⟩ | ⟨S3, e3, rfl, rfl, s3⟩
        · obtain ⟨k30, rfl⟩ := if_inl e3
          rw [show ltP (pk X n) S.2.1 (nxP S1) = .inl 0 from if_neg k30, bdP_l] at hR
          exact (show pHs P 80 = [] ∧ _ from ⟨rfl, _, o2.trans o3, Or.inr ⟨_, hR.symm, rfl, rfl⟩⟩)
        obtain ⟨k30, rfl⟩ := if_inr e3
        have hRe : ltP (pk X n) S.2.1 (nxP S1) = _ := if_pos k30
        rw [hRe, bdP_r] at hR
        refine eg_cast (pc := 91) d80_91 (i := S.2.1) (w := pk X n (nxP S1).1) (by assumption) (rfl) (by omega) (by omega) ?_
        have s4 := s3.st (i := S.2.1) (c := pk X n (nxP S1).1)
        have o4 := (o2.trans o3).st (i := S.2.1) hrg1
        refine ef_iload (pc := 92) d80_92 rfl ?_
        refine ef_aload_n (pc := 94) d80_94 rfl ?_
        refine eg_getR (pc := 95) d80_95 lf_6_15 (by assumption) (by decide) (by assumption) ?_
        refine ef_iload (pc := 98) d80_98 rfl ?_
        refine eg_cald (pc := 100) d80_100 (i := S.2.1) (by assumption) (rfl) (by omega) ?_
        try simp (disch := omega) only [u2_ne, u2_at, u2_ni, ur_ne, ur_eq]
        refine ef_callS (pc := 101) d80_101 lm_6_95 (as := [_]) rfl rfl rfl (Nat.le_of_ble_eq_true rfl) rfl (Nat.le_of_ble_eq_true rfl) ?_
        refine Ec.imp (c78 hrg1.1 hrg1.2) ?_
        rintro r101 u101 ⟨rfl, rfl⟩
        refine ef_ior (pc := 104) d80_104 rfl ?_
        refine ef_istore (pc := 105) d80_105 (ls' := [_, _, _, _, _, _, _]) rfl ?_
        refine ef_goto (pc := 107) d80_107 (t := 122) rfl ?_
        first
        | exact rest _ _ _ o4 s4 a1.2.1 hR (by rw [if_neg h78])
        | exact rest _ _ _ o4 s4 a1.2.1 hR (by rw [if_pos h3]; show _ = bI (fun x y => x ||| y) b (bitF (u1 S1.2.2.2.1 S.2.1 (pk X n (nxP S1).1) S.2.1)); rw [u1_eq])
    · rw [if_pos (by omega)] at hR
      refine Ef.thr (pc := 45) (x := 0) (m := 6) d80_45 (show tLc 6 49 = none by decide +kernel) (show tLx 6 49 = some (0, 6) by decide +kernel) rfl (by decide +kernel) (by decide) ?_
      exact ⟨g, OC.refl, Or.inr ⟨0, hR.symm, rfl, rfl⟩⟩
  obtain ⟨p1, p2, p3, p4, p5, p6, p7, p8, p9, p10⟩ := id hS
  unfold guP
  change Ef P _ 80 0 [some (vR tm), some (vI (dep : Int)), some (vI b), none, none, none, none] [] _ _
  refine ef_aload_n (pc := 0) d80_0 rfl ?_
  refine ef_callV (pc := 1) d80_1 lm_6_58 (as := []) rfl rfl (by assumption) rfl rfl (by decide) (Nat.le_of_ble_eq_true rfl) rfl (Nat.le_of_ble_eq_true rfl) ?_
  refine Ec.imp (c72 hTm hX hn hS) ?_
  rintro r1 u1 ⟨rfl, rfl⟩
  refine ef_bipush (pc := 4) d80_4 (by decide) ?_
  refine ef_icmp_ne (pc := 6) d80_6 (t := 13) rfl (fun h6 => ?_) (fun h6 => ?_)
  · rw [if_neg h6]
    refine ef_iconst (pc := 13) d80_13 (by decide) ?_
    refine ef_istore_n (pc := 14) d80_14 (ls' := [_, _, _, _, _, _, _]) rfl ?_
    refine ef_iload_n (pc := 15) d80_15 rfl ?_
    refine ef_if_eqT (pc := 16) d80_16 (t := 29) rfl (by decide) ?_
    exact main 0 S g (Or.inl rfl) hS
  · have h33 : pk X n S.1 = 33 := h6
    have hlt : S.1 < n := pkz_lt (X := X) (by rw [h33]; decide)
    rw [if_pos h33]
    refine ef_iconst (pc := 9) d80_9 (by decide) ?_
    refine ef_goto (pc := 10) d80_10 (t := 14) rfl ?_
    refine ef_istore_n (pc := 14) d80_14 (ls' := [_, _, _, _, _, _, _]) rfl ?_
    refine ef_iload_n (pc := 15) d80_15 rfl ?_
    refine ef_if_eqF (pc := 16) d80_16 (t := 29) rfl (by decide) ?_
    refine ef_aload_n (pc := 19) d80_19 rfl ?_
    refine ef_dup (pc := 20) d80_20 rfl ?_
    refine eg_getI (pc := 21) d80_21 lf_6_42 (by assumption) (by decide) ?_
    rw [p3]
    refine ef_iconst (pc := 24) d80_24 (by decide) ?_
    refine ef_iadd (pc := 25) d80_25 (z := ((S.1 + 1 : Nat) : Int)) (by omega) ⟨by omega, by omega⟩ ?_
    refine eg_putI (pc := 26) d80_26 pf_80_42 (by assumption) (by decide) ?_
    refine Ef.imp (main 1 (nxP S) _ (Or.inr rfl) (hS.nx hlt)) ?_
    rintro r1 u1 ⟨g1, o1, h1⟩
    exact ⟨g1, (OC.refl.up (by omega) (by omega) (by omega)).trans o1, h1⟩
theorem lp_end {K : Nat → Int} {F : PS → Nat ⊕ PS} {k : Nat} {S : PS} (h : ¬ K S.1 = 124) : lpP K F k S = .inr S := by
  cases k with
  | zero => rfl
  | succ k => rw [lpP, if_neg h]
theorem c70 {P : Pg} {d : Nat} {u : Mm} {g : Nat → Nat → Int} {tm n : Nat} {X : Nat → Int} {S : PS} {dep : Nat} {b : Int} {F : PS → Nat ⊕ PS} (hTm : TmA u tm) (hX : ∀ i, i < n → 0 ≤ X i ∧ X i < 65536) (hn : n ≤ 120) (hS : PR g tm X n S) (hmo : ∀ S S', F S = .inr S' → S.1 ≤ S'.1) (hpart : ∀ (S : PS) (g : Nat → Nat → Int), PR g tm X n S → Ec P d 71 [vR tm, vI (dep : Int), vI b] (sI u g) (PQ u g tm X n (F S) none)) : Ec P (d + 1) 70 [vR tm, vI (dep : Int), vI b] (sI u g) (PQ u g tm X n (prP (pk X n) F S) none) := by
  obtain ⟨k0, k1, k2, k3, k4, k5, k6, k7, k8, k9, k10⟩ := id hTm
  have loop : ∀ (k : Nat) (S1 : PS) (g1 : Nat → Nat → Int) (R : Nat ⊕ PS), 121 ≤ S1.1 + k → OC tm g g1 → PR g1 tm X n S1 → lpP (pk X n) F k S1 = R → Ef P (d + 1) 70 6 [some (vR tm), some (vI (dep : Int)), some (vI b)] [] (sI u g1) (PQ u g tm X n R none) := by
    intro k
    induction k with
    | zero =>
      intro S1 g1 R hk o1 s1 hR
      have := s1.2.2.2.2.2.2.2.2.1
      omega
    | succ k ih =>
      intro S1 g1 R hk o1 s1 hR
      obtain ⟨p1, p2, p3, p4, p5, p6, p7, p8, p9, p10⟩ := id s1
      refine ef_aload_n (pc := 6) d70_6 rfl ?_
      refine eg_getI (pc := 7) d70_7 lf_6_42 (by assumption) (by decide) ?_
      rw [p3]
      refine ef_aload_n (pc := 10) d70_10 rfl ?_
      refine eg_getI (pc := 11) d70_11 lf_6_35 (by assumption) (by decide) ?_
      rw [p2]
      refine ef_icmp_ge (pc := 14) d70_14 (t := 50) rfl (fun h14 => ?_) (fun h14 => ?_)
      · have hne : ¬ pk X n S1.1 = 124 := by rw [pk, if_neg (by omega)]; decide
        refine ef_vret (pc := 50) d70_50 rfl ?_
        rw [lp_end hne] at hR
        exact ⟨_, o1, Or.inl ⟨_, hR.symm, rfl, rfl, s1⟩⟩
      · have hlt : S1.1 < n := by omega
        have hpk : pk X n S1.1 = X S1.1 := if_pos hlt
        refine ef_aload_n (pc := 17) d70_17 rfl ?_
        refine eg_getR (pc := 18) d70_18 lf_6_26 (by assumption) (by decide) (by assumption) ?_
        refine ef_aload_n (pc := 21) d70_21 rfl ?_
        refine eg_getI (pc := 22) d70_22 lf_6_42 (by assumption) (by decide) ?_
        rw [p3]
        refine eg_cald (pc := 25) d70_25 (i := S1.1) (by assumption) (rfl) (by omega) ?_
        rw [p8, ← hpk]
        refine ef_bipush (pc := 26) d70_26 (by decide) ?_
        refine ef_icmp_ne (pc := 28) d70_28 (t := 50) rfl (fun h28 => ?_) (fun h28 => ?_)
        · have hne := h28
          refine ef_vret (pc := 50) d70_50 rfl ?_
          rw [lp_end hne] at hR
          exact ⟨_, o1, Or.inl ⟨_, hR.symm, rfl, rfl, s1⟩⟩
        · have h124 : pk X n S1.1 = 124 := h28
          rw [lpP, if_pos h124] at hR
          refine ef_aload_n (pc := 31) d70_31 rfl ?_
          refine ef_dup (pc := 32) d70_32 rfl ?_
          refine eg_getI (pc := 33) d70_33 lf_6_42 (by assumption) (by decide) ?_
          rw [p3]
          refine ef_iconst (pc := 36) d70_36 (by decide) ?_
          refine ef_iadd (pc := 37) d70_37 (z := ((S1.1 + 1 : Nat) : Int)) (by omega) ⟨by omega, by omega⟩ ?_
          refine eg_putI (pc := 38) d70_38 pf_70_42 (by assumption) (by decide) ?_
          refine ef_aload_n (pc := 41) d70_41 rfl ?_
          refine ef_iload_n (pc := 42) d70_42 rfl ?_
          refine ef_iload_n (pc := 43) d70_43 rfl ?_
          refine ef_callV (pc := 44) d70_44 lm_6_52 (as := [_, _]) rfl rfl (by assumption) rfl rfl (by decide) (Nat.le_of_ble_eq_true rfl) rfl (Nat.le_of_ble_eq_true rfl) ?_
          refine Ec.imp (hpart _ _ (s1.nx hlt)) ?_
          rintro r44 u44 ⟨g2, o2, hq2⟩
          rcases hq2.symm with ⟨x2, e2, rfl, rfl⟩ | ⟨S2, e2, rfl, rfl, s2⟩
          · rw [e2, bdP_l] at hR
            exact (show pHs P 70 = [] ∧ _ from ⟨rfl, _, (o1.up (by omega) (by omega) (by omega)).trans o2, Or.inr ⟨x2, hR.symm, rfl, rfl⟩⟩)
          rw [e2, bdP_r] at hR
          have hm2 := hmo _ _ e2
          rw [show (nxP S1).1 = S1.1 + 1 from rfl] at hm2
          refine ef_goto (pc := 47) d70_47 (t := 6) rfl ?_
          exact ih S2 g2 R (by omega) ((o1.up (by omega) (by omega) (by omega)).trans o2) s2 hR
  generalize hR : prP (pk X n) F S = R
  unfold prP at hR
  change Ef P _ 70 0 [some (vR tm), some (vI (dep : Int)), some (vI b)] [] _ _
  refine ef_aload_n (pc := 0) d70_0 rfl ?_
  refine ef_iload_n (pc := 1) d70_1 rfl ?_
  refine ef_iload_n (pc := 2) d70_2 rfl ?_
  refine ef_callV (pc := 3) d70_3 lm_6_52 (as := [_, _]) rfl rfl (by assumption) rfl rfl (by decide) (Nat.le_of_ble_eq_true rfl) rfl (Nat.le_of_ble_eq_true rfl) ?_
  refine Ec.imp (hpart _ _ hS) ?_
  rintro r3 u3 ⟨g1, o1, hq1⟩
  rcases hq1.symm with ⟨x1, e1, rfl, rfl⟩ | ⟨S1, e1, rfl, rfl, s1⟩
  · rw [e1, bdP_l] at hR
    exact (show pHs P 70 = [] ∧ _ from ⟨rfl, _, o1, Or.inr ⟨x1, hR.symm, rfl, rfl⟩⟩)
  rw [e1, bdP_r] at hR
  exact loop 121 S1 g1 R (by omega) o1 s1 hR
theorem bd_mo {r : Nat ⊕ PS} {F : PS → Nat ⊕ PS} {a : Nat} {S' : PS} (h : bdP r F = .inr S') (hr : ∀ S1, r = .inr S1 → a ≤ S1.1) (hF : ∀ S1, F S1 = .inr S' → S1.1 ≤ S'.1) : a ≤ S'.1 := by
  cases r with
  | inl x => cases h
  | inr S1 => exact Nat.le_trans (hr S1 rfl) (hF S1 h)
theorem sk_mo {K : Nat → Int} {c : Int} {S S' : PS} (h : skP K c S = .inr S') : S.1 ≤ S'.1 := by rw [(if_inr h).2]; exact Nat.le_succ _
theorem nm_mo {K : Nat → Int} {b : Int} {i : Nat} {S S' : PS} (h : nmP K b i S = .inr S') : S.1 ≤ S'.1 := by rw [(if_inr h).2]; exact Nat.le_succ _
theorem lt_mo {K : Nat → Int} {i : Nat} {S S' : PS} (h : ltP K i S = .inr S') : S.1 ≤ S'.1 := by rw [(if_inr h).2]; exact Nat.le_succ _
theorem nx_mo {S : PS} : S.1 ≤ (nxP S).1 := Nat.le_succ _
theorem lp_mo {K : Nat → Int} {F : PS → Nat ⊕ PS} (hF : ∀ S S', F S = .inr S' → S.1 ≤ S'.1) : ∀ (k : Nat) (S S' : PS), lpP K F k S = .inr S' → S.1 ≤ S'.1 := by
  intro k
  induction k with
  | zero => intro S S' h; cases h; exact Nat.le_refl _
  | succ k ih =>
    intro S S' h
    rw [lpP] at h
    split at h
    · exact bd_mo h (fun S1 h1 => Nat.le_trans nx_mo (hF _ _ h1)) (fun S1 h1 => ih _ _ h1)
    · cases h; exact Nat.le_refl _
theorem pr_mo {K : Nat → Int} {F : PS → Nat ⊕ PS} (hF : ∀ S S', F S = .inr S' → S.1 ≤ S'.1) {S S' : PS} (h : prP K F S = .inr S') : S.1 ≤ S'.1 := bd_mo h (fun S1 h1 => hF _ _ h1) (fun S1 h1 => lp_mo hF _ _ _ h1)
theorem gr_mo {K : Nat → Int} {b r : Int} {F : Int → PS → Nat ⊕ PS} (hF : ∀ b S S', F b S = .inr S' → S.1 ≤ S'.1) {S S' : PS} (h : grP K b r F S = .inr S') : S.1 ≤ S'.1 := by
  unfold grP at h
  split at h
  · cases h
  · refine bd_mo h (fun S1 h1 => Nat.le_of_eq (adP_at h1).1.symm) (fun S1 h1 => ?_)
    refine bd_mo h1 (fun S2 h2 => ?_) (fun S2 h2 => bd_mo h2 (fun S3 h3 => sk_mo h3) (fun S3 h3 => bd_mo h3 (fun S4 h4 => hF _ _ _ h4) (fun S4 h4 => by cases h4; exact Nat.le_refl _)))
    split at h2
    · exact Nat.le_trans nx_mo (lt_mo h2)
    · exact Nat.le_trans nx_mo (nm_mo h2)
theorem pt_mo {K : Nat → Int} : ∀ (f : Nat) (b : Int) (S S' : PS), ptP K f b S = .inr S' → S.1 ≤ S'.1 := by
  intro f
  induction f with
  | zero => intro b S S' h; cases h
  | succ f ih =>
    intro b S S' h
    rw [ptP] at h
    split at h
    · cases h; exact nx_mo
    · split at h
      · exact bd_mo h (fun S1 h1 => Nat.le_trans nx_mo (pr_mo (ih b) h1)) (fun S1 h1 => sk_mo h1)
      · split at h
        · exact bd_mo h (fun S1 h1 => Nat.le_of_eq (adP_at h1).1.symm) (fun S1 h1 => Nat.le_trans nx_mo (nm_mo h1))
        · split at h
          · exact bd_mo h (fun S1 h1 => Nat.le_of_eq (adP_at h1).1.symm) (fun S1 h1 => bd_mo h1 (fun S2 h2 => nm_mo h2) (fun S2 h2 => bd_mo h2 (fun S3 h3 => sk_mo h3) (fun S3 h3 => bd_mo h3 (fun S4 h4 => pr_mo (ih b) h4) (fun S4 h4 => bd_mo h4 (fun S5 h5 => sk_mo h5) (fun S5 h5 => by cases h5; exact Nat.le_refl _)))))
          · unfold guP at h
            split at h
            · exact Nat.le_trans nx_mo (gr_mo ih h)
            · exact gr_mo ih h
theorem c71 {P : Pg} {u : Mm} {tm n : Nat} {X : Nat → Int} (hTm : TmA u tm) (hX : ∀ i, i < n → 0 ≤ X i ∧ X i < 65536) (hn : n ≤ 120) (hsv : mS u (pSv P) = none) : ∀ (f dep : Nat) (b : Int) (S : PS) (g : Nat → Nat → Int), dep + f = 9 → PR g tm X n S → Ec P (3 * f + 8) 71 [vR tm, vI (dep : Int), vI b] (sI u g) (PQ u g tm X n (ptP (pk X n) f b S) none) := by
  obtain ⟨k0, k1, k2, k3, k4, k5, k6, k7, k8, k9, k10⟩ := id hTm
  intro f
  induction f with
  | zero =>
    intro dep b S g hdf hS
    change Ef P _ 71 0 [some (vR tm), some (vI (dep : Int)), some (vI b), none] [] _ _
    refine ef_iload_n (pc := 0) d71_0 rfl ?_
    refine ef_bipush (pc := 1) d71_1 (by decide) ?_
    refine ef_icmp_leF (pc := 3) d71_3 (t := 14) rfl (by omega) ?_
    refine Ef.thr (pc := 6) (x := 1) (m := 6) d71_6 (show tLc 6 55 = none by decide +kernel) (show tLx 6 55 = some (1, 6) by decide +kernel) rfl (by decide +kernel) (by decide) ?_
    exact ⟨g, OC.refl, Or.inr ⟨1, rfl, rfl, rfl⟩⟩
  | succ f ih =>
    intro dep b S g hdf hS
    obtain ⟨p1, p2, p3, p4, p5, p6, p7, p8, p9, p10⟩ := id hS
    have h70 : ∀ (S : PS) (g : Nat → Nat → Int), PR g tm X n S → Ec P (3 * f + 7 + 2) 70 [vR tm, vI ((dep + 1 : Nat) : Int), vI b] (sI u g) (PQ u g tm X n (prP (pk X n) (ptP (pk X n) f b) S) none) := fun S g hS => c70 hTm hX hn hS (pt_mo f b) (fun S g hS => ih (dep + 1) b S g (by omega) hS)
    generalize hR : ptP (pk X n) (f + 1) b S = R
    rw [ptP] at hR
    change Ef P _ 71 0 [some (vR tm), some (vI (dep : Int)), some (vI b), none] [] _ _
    refine ef_iload_n (pc := 0) d71_0 rfl ?_
    refine ef_bipush (pc := 1) d71_1 (by decide) ?_
    refine ef_icmp_leT (pc := 3) d71_3 (t := 14) rfl (by omega) ?_
    refine ef_aload_n (pc := 14) d71_14 rfl ?_
    refine ef_callV (pc := 15) d71_15 lm_6_58 (as := []) rfl rfl (by assumption) rfl rfl (by decide) (Nat.le_of_ble_eq_true rfl) rfl (Nat.le_of_ble_eq_true rfl) ?_
    refine Ec.imp (c72 hTm hX hn hS) ?_
    rintro r15 u15 ⟨rfl, rfl⟩
    refine ef_istore_n (pc := 18) d71_18 (ls' := [_, _, _, _]) rfl ?_
    refine ef_iload_n (pc := 19) d71_19 rfl ?_
    refine ef_bipush (pc := 20) d71_20 (by decide) ?_
    refine ef_icmp_ne (pc := 22) d71_22 (t := 38) rfl (fun h22 => ?_) (fun h22 => ?_)
    · rw [if_neg h22] at hR
      refine ef_iload_n (pc := 38) d71_38 rfl ?_
      refine ef_bipush (pc := 39) d71_39 (by decide) ?_
      refine ef_icmp_ne (pc := 41) d71_41 (t := 71) rfl (fun h41 => ?_) (fun h41 => ?_)
      · rw [if_neg h41] at hR
        refine ef_iload_n (pc := 71) d71_71 rfl ?_
        refine ef_bipush (pc := 72) d71_72 (by decide) ?_
        refine ef_icmp_ne (pc := 74) d71_74 (t := 85) rfl (fun h74 => ?_) (fun h74 => ?_)
        · rw [if_neg h74] at hR
          refine ef_iload_n (pc := 85) d71_85 rfl ?_
          refine ef_bipush (pc := 86) d71_86 (by decide) ?_
          refine ef_icmp_lt (pc := 88) d71_88 (t := 106) rfl (fun h88 => ?_) (fun h88 => ?_)
          · rw [if_neg (by omega)] at hR
            refine ef_aload_n (pc := 106) d71_106 rfl ?_
            refine ef_iload_n (pc := 107) d71_107 rfl ?_
            refine ef_iload_n (pc := 108) d71_108 rfl ?_
            refine ef_callV (pc := 109) d71_109 lm_6_73 (as := [_, _]) rfl rfl (by assumption) rfl rfl (by decide) (Nat.le_of_ble_eq_true rfl) rfl (Nat.le_of_ble_eq_true rfl) ?_
            refine Ec.imp (Ec.deep (by omega) (c80 (d := 3 * f + 5) hTm hX hn hS hsv (by omega) (fun b S g hS => ih (dep + 1) b S g (by omega) hS))) ?_
            rintro r109 u109 ⟨g1, o1, hq1⟩
            rcases hq1.symm with ⟨x1, e1, rfl, rfl⟩ | ⟨S1, e1, rfl, rfl, s1⟩
            · rw [e1] at hR
              exact (show pHs P 71 = [] ∧ _ from ⟨rfl, _, o1, Or.inr ⟨x1, hR.symm, rfl, rfl⟩⟩)
            rw [e1] at hR
            refine ef_vret (pc := 112) d71_112 rfl ?_
            first
            | exact ⟨_, o1, Or.inl ⟨_, hR.symm, rfl, rfl, s1⟩⟩
            | exact ⟨_, OC.refl.up (by omega) (by omega) (by omega), Or.inl ⟨_, hR.symm, rfl, rfl, hS.nx hlt⟩⟩
            | exact ⟨_, ((OC.refl.up (by omega) (by omega) (by omega)).trans o1).trans o2, Or.inl ⟨_, hR.symm, rfl, rfl, s2⟩⟩
          · refine ef_iload_n (pc := 91) d71_91 rfl ?_
            refine ef_bipush (pc := 92) d71_92 (by decide) ?_
            refine ef_icmp_gt (pc := 94) d71_94 (t := 106) rfl (fun h94 => ?_) (fun h94 => ?_)
            · rw [if_neg (by omega)] at hR
              refine ef_aload_n (pc := 106) d71_106 rfl ?_
              refine ef_iload_n (pc := 107) d71_107 rfl ?_
              refine ef_iload_n (pc := 108) d71_108 rfl ?_
              refine ef_callV (pc := 109) d71_109 lm_6_73 (as := [_, _]) rfl rfl (by assumption) rfl rfl (by decide) (Nat.le_of_ble_eq_true rfl) rfl (Nat.le_of_ble_eq_true rfl) ?_
              refine Ec.imp (Ec.deep (by omega) (c80 (d := 3 * f + 5) hTm hX hn hS hsv (by omega) (fun b S g hS => ih (dep + 1) b S g (by omega) hS))) ?_
              rintro r109 u109 ⟨g1, o1, hq1⟩
              rcases hq1.symm with ⟨x1, e1, rfl, rfl⟩ | ⟨S1, e1, rfl, rfl, s1⟩
              · rw [e1] at hR
                exact (show pHs P 71 = [] ∧ _ from ⟨rfl, _, o1, Or.inr ⟨x1, hR.symm, rfl, rfl⟩⟩)
              rw [e1] at hR
              refine ef_vret (pc := 112) d71_112 rfl ?_
              first
              | exact ⟨_, o1, Or.inl ⟨_, hR.symm, rfl, rfl, s1⟩⟩
              | exact ⟨_, OC.refl.up (by omega) (by omega) (by omega), Or.inl ⟨_, hR.symm, rfl, rfl, hS.nx hlt⟩⟩
              | exact ⟨_, ((OC.refl.up (by omega) (by omega) (by omega)).trans o1).trans o2, Or.inl ⟨_, hR.symm, rfl, rfl, s2⟩⟩
            · rw [if_pos (by omega)] at hR
              refine ef_aload_n (pc := 97) d71_97 rfl ?_
              refine ef_iload_n (pc := 98) d71_98 rfl ?_
              refine ef_iload_n (pc := 99) d71_99 rfl ?_
              refine ef_callV (pc := 100) d71_100 lm_6_70 (as := [_, _]) rfl rfl (by assumption) rfl rfl (by decide) (Nat.le_of_ble_eq_true rfl) rfl (Nat.le_of_ble_eq_true rfl) ?_
              refine Ec.imp (c79 (d := 3 * f + 7) hTm hX hn hS (by omega) h70) ?_
              rintro r100 u100 ⟨g1, o1, hq1⟩
              rcases hq1.symm with ⟨x1, e1, rfl, rfl⟩ | ⟨S1, e1, rfl, rfl, s1⟩
              · rw [e1] at hR
                exact (show pHs P 71 = [] ∧ _ from ⟨rfl, _, o1, Or.inr ⟨x1, hR.symm, rfl, rfl⟩⟩)
              rw [e1] at hR
              refine ef_goto (pc := 103) d71_103 (t := 112) rfl ?_
              refine ef_vret (pc := 112) d71_112 rfl ?_
              first
              | exact ⟨_, o1, Or.inl ⟨_, hR.symm, rfl, rfl, s1⟩⟩
              | exact ⟨_, OC.refl.up (by omega) (by omega) (by omega), Or.inl ⟨_, hR.symm, rfl, rfl, hS.nx hlt⟩⟩
              | exact ⟨_, ((OC.refl.up (by omega) (by omega) (by omega)).trans o1).trans o2, Or.inl ⟨_, hR.symm, rfl, rfl, s2⟩⟩
        · have hk : pk X n S.1 = 39 := h74
          rw [if_pos hk] at hR
          refine ef_aload_n (pc := 77) d71_77 rfl ?_
          refine ef_iload_n (pc := 78) d71_78 rfl ?_
          refine ef_callV (pc := 79) d71_79 lm_6_66 (as := [_]) rfl rfl (by assumption) rfl rfl (by decide) (Nat.le_of_ble_eq_true rfl) rfl (Nat.le_of_ble_eq_true rfl) ?_
          refine Ec.imp (c74 hTm hX hn hS (by rw [hk]; decide)) ?_
          rintro r79 u79 ⟨g1, o1, hq1⟩
          rcases hq1.symm with ⟨x1, e1, rfl, rfl⟩ | ⟨S1, e1, rfl, rfl, s1⟩
          · rw [e1] at hR
            exact (show pHs P 71 = [] ∧ _ from ⟨rfl, _, o1, Or.inr ⟨x1, hR.symm, rfl, rfl⟩⟩)
          rw [e1] at hR
          refine ef_goto (pc := 82) d71_82 (t := 112) rfl ?_
          refine ef_vret (pc := 112) d71_112 rfl ?_
          first
          | exact ⟨_, o1, Or.inl ⟨_, hR.symm, rfl, rfl, s1⟩⟩
          | exact ⟨_, OC.refl.up (by omega) (by omega) (by omega), Or.inl ⟨_, hR.symm, rfl, rfl, hS.nx hlt⟩⟩
          | exact ⟨_, ((OC.refl.up (by omega) (by omega) (by omega)).trans o1).trans o2, Or.inl ⟨_, hR.symm, rfl, rfl, s2⟩⟩
      · have hk : pk X n S.1 = 40 := h41
        have hlt : S.1 < n := pkz_lt (X := X) (by rw [hk]; decide)
        rw [if_pos hk] at hR
        refine ef_aload_n (pc := 44) d71_44 rfl ?_
        refine ef_dup (pc := 45) d71_45 rfl ?_
        refine eg_getI (pc := 46) d71_46 lf_6_42 (by assumption) (by decide) ?_
        try simp (disch := omega) only [u2_ne, u2_at, u2_ni, ur_ne, ur_eq]
        rw [p3]
        refine ef_iconst (pc := 49) d71_49 (by decide) ?_
        refine ef_iadd (pc := 50) d71_50 (z := ((S.1 + 1 : Nat) : Int)) (by omega) ⟨by omega, by omega⟩ ?_
        refine eg_putI (pc := 51) d71_51 pf_71_42 (by assumption) (by decide) ?_
        refine ef_aload_n (pc := 54) d71_54 rfl ?_
        refine ef_iload_n (pc := 55) d71_55 rfl ?_
        refine ef_iconst (pc := 56) d71_56 (by decide) ?_
        refine ef_iadd (pc := 57) d71_57 (z := ((dep + 1 : Nat) : Int)) (by omega) ⟨by omega, by omega⟩ ?_
        refine ef_iload_n (pc := 58) d71_58 rfl ?_
        refine ef_callV (pc := 59) d71_59 lm_6_45 (as := [_, _]) rfl rfl (by assumption) rfl rfl (by decide) (Nat.le_of_ble_eq_true rfl) rfl (Nat.le_of_ble_eq_true rfl) ?_
        refine Ec.imp (Ec.deep (by omega) (h70 _ _ (hS.nx hlt))) ?_
        rintro r59 u59 ⟨g1, o1, hq1⟩
        rcases hq1.symm with ⟨x1, e1, rfl, rfl⟩ | ⟨S1, e1, rfl, rfl, s1⟩
        · rw [e1, bdP_l] at hR
          exact (show pHs P 71 = [] ∧ _ from ⟨rfl, _, (OC.refl.up (by omega) (by omega) (by omega)).trans o1, Or.inr ⟨x1, hR.symm, rfl, rfl⟩⟩)
        rw [e1, bdP_r] at hR
        refine ef_aload_n (pc := 62) d71_62 rfl ?_
        refine ef_bipush (pc := 63) d71_63 (by decide) ?_
        refine ef_callV (pc := 65) d71_65 lm_6_62 (as := [_]) rfl rfl (by assumption) rfl rfl (by decide) (Nat.le_of_ble_eq_true rfl) rfl (Nat.le_of_ble_eq_true rfl) ?_
        refine Ec.imp (c73 hTm hX hn s1 (by decide)) ?_
        rintro r65 u65 ⟨g2, o2, hq2⟩
        rcases hq2.symm with ⟨x2, e2, rfl, rfl⟩ | ⟨S2, e2, rfl, rfl, s2⟩
        · rw [e2] at hR
          exact (show pHs P 71 = [] ∧ _ from ⟨rfl, _, ((OC.refl.up (by omega) (by omega) (by omega)).trans o1).trans o2, Or.inr ⟨x2, hR.symm, rfl, rfl⟩⟩)
        rw [e2] at hR
        refine ef_goto (pc := 68) d71_68 (t := 112) rfl ?_
        refine ef_vret (pc := 112) d71_112 rfl ?_
        first
        | exact ⟨_, o1, Or.inl ⟨_, hR.symm, rfl, rfl, s1⟩⟩
        | exact ⟨_, OC.refl.up (by omega) (by omega) (by omega), Or.inl ⟨_, hR.symm, rfl, rfl, hS.nx hlt⟩⟩
        | exact ⟨_, ((OC.refl.up (by omega) (by omega) (by omega)).trans o1).trans o2, Or.inl ⟨_, hR.symm, rfl, rfl, s2⟩⟩
    · have hk : pk X n S.1 = 48 := h22
      have hlt : S.1 < n := pkz_lt (X := X) (by rw [hk]; decide)
      rw [if_pos hk] at hR
      refine ef_aload_n (pc := 25) d71_25 rfl ?_
      refine ef_dup (pc := 26) d71_26 rfl ?_
      refine eg_getI (pc := 27) d71_27 lf_6_42 (by assumption) (by decide) ?_
      try simp (disch := omega) only [u2_ne, u2_at, u2_ni, ur_ne, ur_eq]
      rw [p3]
      refine ef_iconst (pc := 30) d71_30 (by decide) ?_
      refine ef_iadd (pc := 31) d71_31 (z := ((S.1 + 1 : Nat) : Int)) (by omega) ⟨by omega, by omega⟩ ?_
      refine eg_putI (pc := 32) d71_32 pf_71_42 (by assumption) (by decide) ?_
      refine ef_goto (pc := 35) d71_35 (t := 112) rfl ?_
      refine ef_vret (pc := 112) d71_112 rfl ?_
      first
      | exact ⟨_, o1, Or.inl ⟨_, hR.symm, rfl, rfl, s1⟩⟩
      | exact ⟨_, OC.refl.up (by omega) (by omega) (by omega), Or.inl ⟨_, hR.symm, rfl, rfl, hS.nx hlt⟩⟩
      | exact ⟨_, ((OC.refl.up (by omega) (by omega) (by omega)).trans o1).trans o2, Or.inl ⟨_, hR.symm, rfl, rfl, s2⟩⟩
