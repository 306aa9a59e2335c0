/-! The term: parsing. Written by wip/whole/gen/c60.py. -/
/-- at, size, kinds, names, replicas, ends -/
abbrev PS : Type := Nat × (Nat × ((Nat → Int) × ((Nat → Int) × ((Nat → Int) × (Nat → Int)))))
def pk (X : Nat → Int) (n a : Nat) : Int := if a < n then X a else 0
def nxP (S : PS) : PS := (S.1 + 1, S.2)
def skP (K : Nat → Int) (c : Int) (S : PS) : Nat ⊕ PS := if K S.1 = c then .inr (nxP S) else .inl 0
def adP (k r : Int) (S : PS) : Nat ⊕ PS := if S.2.1 < 50 then .inr (S.1, (S.2.1 + 1, (u1 S.2.2.1 S.2.1 k, (S.2.2.2.1, (u1 S.2.2.2.2.1 S.2.1 r, u1 S.2.2.2.2.2 S.2.1 ((S.2.1 + 1 : Nat) : Int)))))) else .inl 1
def bitF (c : Int) : Int := bI (fun x y => x <<< (y &&& 31)) 1 (c - 120)
def isL (c : Int) : Bool := decide (120 ≤ c ∧ c ≤ 122)
def isN (b c : Int) : Bool := (isL c && decide (bI (fun x y => x &&& y) b (bitF c) ≠ 0)) || decide (97 ≤ c ∧ c ≤ 102)
def stP (i : Nat) (c : Int) (S : PS) : PS := (S.1, (S.2.1, (S.2.2.1, (u1 S.2.2.2.1 i c, S.2.2.2.2))))
def nmP (K : Nat → Int) (b : Int) (i : Nat) (S : PS) : Nat ⊕ PS := if isN b (K S.1) = true then .inr (stP i (K S.1) (nxP S)) else .inl 0
def ltP (K : Nat → Int) (i : Nat) (S : PS) : Nat ⊕ PS := if isL (K S.1) = true then .inr (stP i (K S.1) (nxP S)) else .inl 0
def enP (i : Nat) (S : PS) : PS := (S.1, (S.2.1, (S.2.2.1, (S.2.2.2.1, (S.2.2.2.2.1, u1 S.2.2.2.2.2 i (S.2.1 : Int))))))
def bdP (r : Nat ⊕ PS) (F : PS → Nat ⊕ PS) : Nat ⊕ PS := match r with
  | .inl x => .inl x
  | .inr S => F S
def lpP (K : Nat → Int) (F : PS → Nat ⊕ PS) : Nat → PS → Nat ⊕ PS
  | 0, S => .inr S
  | k + 1, S => if K S.1 = 124 then bdP (F (nxP S)) (lpP K F k) else .inr S
def prP (K : Nat → Int) (F : PS → Nat ⊕ PS) (S : PS) : Nat ⊕ PS := bdP (F S) (lpP K F 121)
/-- the body of a place; a guard behind its sign's place -/
def plP (K : Nat → Int) (b : Int) (F : PS → Nat ⊕ PS) (S : PS) : Nat ⊕ PS := bdP (adP 4 0 S) fun S1 => bdP (nmP K b S.2.1 S1) fun S2 => bdP (skP K 91 S2) fun S3 => bdP (prP K F S3) fun S4 => bdP (skP K 93 S4) fun S5 => .inr (enP S.2.1 S5)
def grP (K : Nat → Int) (b r : Int) (F : Int → PS → Nat ⊕ PS) (S : PS) : Nat ⊕ PS := if ixC (K S.1) < 0 then .inl 0 else
  bdP (adP (ixC (K S.1)) r S) fun S1 => bdP (if ixC (K S.1) = 3 then ltP K S.2.1 (nxP S1) else nmP K b S.2.1 (nxP S1)) fun S2 => bdP (skP K 46 S2) fun S3 =>
  bdP (F (if ixC (K S.1) = 3 then bI (fun x y => x ||| y) b (bitF (S3.2.2.2.1 S.2.1)) else b) S3) fun S4 => .inr (enP S.2.1 S4)
def guP (K : Nat → Int) (b : Int) (F : Int → PS → Nat ⊕ PS) (S : PS) : Nat ⊕ PS := if K S.1 = 33 then grP K b 1 F (nxP S) else grP K b 0 F S
def meP (K : Nat → Int) (b : Int) (S : PS) : Nat ⊕ PS := bdP (adP 5 0 S) fun S1 => nmP K b S.2.1 (nxP S1)
def ptP (K : Nat → Int) : Nat → Int → PS → Nat ⊕ PS
  | 0, _, _ => .inl 1
  | f + 1, b, S => if K S.1 = 48 then .inr (nxP S)
    else if K S.1 = 40 then bdP (prP K (ptP K f b) (nxP S)) (skP K 41)
    else if K S.1 = 39 then meP K b S
    else if 97 ≤ K S.1 ∧ K S.1 ≤ 122 then plP K b (ptP K f b) S
    else guP K b (ptP K f) S
/-- where the parser stands -/
def PI (n : Nat) (S : PS) : Prop := S.1 ≤ n ∧ S.2.1 ≤ 50
def PR (g : Nat → Nat → Int) (tm : Nat) (X : Nat → Int) (n : Nat) (S : PS) : Prop := g tm 4 = (S.2.1 : Int) ∧ g tm 6 = (n : Int) ∧ g tm 7 = (S.1 : Int) ∧ g (tm + 1) = S.2.2.1 ∧ g (tm + 2) = S.2.2.2.1 ∧ g (tm + 3) = S.2.2.2.2.1 ∧ g (tm + 4) = S.2.2.2.2.2 ∧ g (tm + 5) = X ∧ PI n S
def CR (g : Nat → Nat → Int) (tm : Nat) : Prop := ∀ k, 0 ≤ g (tm + 2) k ∧ g (tm + 2) k < 65536
def OC (tm : Nat) (g g' : Nat → Nat → Int) : Prop := Off tm (tm + 6) g g' ∧ (CR g tm → CR g' tm)
theorem OC.refl {tm : Nat} {g : Nat → Nat → Int} : OC tm g g := ⟨Off.refl, id⟩
theorem OC.trans {tm : Nat} {g g1 g2 : Nat → Nat → Int} (h : OC tm g g1) (k : OC tm g1 g2) : OC tm g g2 := ⟨h.1.trans k.1, fun x => k.2 (h.2 x)⟩
theorem OC.up {tm a i : Nat} {x : Int} {g g1 : Nat → Nat → Int} (h : OC tm g g1) (h1 : tm ≤ a) (h2 : a < tm + 6) (h3 : a ≠ tm + 2) : OC tm g (u2 g1 a i x) := ⟨h.1.up h1 h2, fun y k => by rw [u2_ne (Ne.symm h3)]; exact h.2 y k⟩
theorem OC.st {tm i : Nat} {x : Int} {g g1 : Nat → Nat → Int} (h : OC tm g g1) (h1 : 0 ≤ x ∧ x < 65536) : OC tm g (u2 g1 (tm + 2) i x) := ⟨h.1.up (by omega) (by omega), fun y k => by
  by_cases hk : k = i
  · subst hk; rw [u2_at]; exact h1
  · rw [u2_ni hk]; exact h.2 y k⟩
def PQ (u : Mm) (g : Nat → Nat → Int) (tm : Nat) (X : Nat → Int) (n : Nat) (R : Nat ⊕ PS) (v : Option Vl) (r : Option Vl ⊕ (Nat × Nat)) (u' : Mm) : Prop := ∃ g', OC tm g g' ∧ ((∃ S', R = .inr S' ∧ u' = sI u g' ∧ r = .inl v ∧ PR g' tm X n S') ∨ (∃ x, R = .inl x ∧ u' = sI (mHole u 6) g' ∧ r = .inr (x, mT u)))
theorem pkz_lt {X : Nat → Int} {n a : Nat} (h : pk X n a ≠ 0) : a < n := by
  unfold pk at h
  split at h
  · assumption
  · exact absurd rfl h
theorem pk_rg {X : Nat → Int} {n a : Nat} (hX : ∀ i, i < n → 0 ≤ X i ∧ X i < 65536) : 0 ≤ pk X n a ∧ pk X n a < 65536 := by
  unfold pk
  split
  · exact hX a (by assumption)
  · exact ⟨by decide, by decide⟩
theorem isL_lt {X : Nat → Int} {n a : Nat} (h : isL (pk X n a) = true) : a < n := by
  have h2 := of_decide_eq_true h
  exact pkz_lt (X := X) (by omega)
theorem isN_lt {b : Int} {X : Nat → Int} {n a : Nat} (h : isN b (pk X n a) = true) : a < n := by
  unfold isN at h
  rcases Bool.or_eq_true _ _ ▸ h with h | h
  · exact isL_lt (Bool.and_eq_true _ _ ▸ h).1
  · have h2 := of_decide_eq_true h
    exact pkz_lt (X := X) (by omega)
theorem ixC_lt {X : Nat → Int} {n a : Nat} (h : ¬ ixC (pk X n a) < 0) : a < n := by
  refine pkz_lt (X := X) fun h0 => h ?_
  rw [h0]
  decide
theorem PI.nx {n : Nat} {S : PS} (h : PI n S) (hl : S.1 < n) : PI n (nxP S) := ⟨by show S.1 + 1 ≤ n; omega, h.2⟩
theorem c72 {P : Pg} {d : Nat} {u : Mm} {g : Nat → Nat → Int} {tm n : Nat} {X : Nat → Int} {S : PS} (hTm : TmA u tm) (hX : ∀ i, i < n → 0 ≤ X i ∧ X i < 65536) (hn : n ≤ 120) (hS : PR g tm X n S) : Ec P d 72 [vR tm] (sI u g) (fun r u' => u' = sI u g ∧ r = .inl (some (vI (pk X n S.1)))) := by
  obtain ⟨k0, k1, k2, k3, k4, k5, k6, k7, k8, k9, k10⟩ := id hTm
  obtain ⟨p1, p2, p3, p4, p5, p6, p7, p8, p9, p10⟩ := id hS
  change Ef P _ 72 0 [some (vR tm)] [] _ _
  refine ef_aload_n (pc := 0) d72_0 rfl ?_
  refine eg_getI (pc := 1) d72_1 lf_6_42 (by assumption) (by decide) ?_
  rw [p3]
  refine ef_aload_n (pc := 4) d72_4 rfl ?_
  refine eg_getI (pc := 5) d72_5 lf_6_35 (by assumption) (by decide) ?_
  rw [p2]
  refine ef_icmp_ge (pc := 8) d72_8 (t := 23) rfl (fun h8 => ?_) (fun h8 => ?_)
  · rw [pk, if_neg (by omega)]
    refine ef_iconst (pc := 23) d72_23 (by decide) ?_
    refine ef_cret (pc := 24) d72_24 rfl (by omega) (by omega) ?_
    exact ⟨rfl, rfl⟩
  · have hlt : S.1 < n := by omega
    have hXa := hX S.1 hlt
    rw [pk, if_pos hlt]
    refine ef_aload_n (pc := 11) d72_11 rfl ?_
    refine eg_getR (pc := 12) d72_12 lf_6_26 (by assumption) (by decide) (by assumption) ?_
    refine ef_aload_n (pc := 15) d72_15 rfl ?_
    refine eg_getI (pc := 16) d72_16 lf_6_42 (by assumption) (by decide) ?_
    rw [p3]
    refine eg_cald (pc := 19) d72_19 (i := S.1) (by assumption) (rfl) (by omega) ?_
    rw [p8]
    refine ef_goto (pc := 20) d72_20 (t := 24) rfl ?_
    refine ef_cret (pc := 24) d72_24 rfl (by omega) (by omega) ?_
    exact ⟨rfl, rfl⟩
theorem c77 {P : Pg} {d : Nat} {u : Mm} {c : Int} : Ec P d 77 [vI c] u (fun r u' => u' = u ∧ r = .inl (some (vI (b01 (isL c))))) := by
  change Ef P _ 77 0 [some (vI c)] [] _ _
  refine ef_iload_n (pc := 0) d77_0 rfl ?_
  refine ef_bipush (pc := 1) d77_1 (by decide) ?_
  refine ef_icmp_lt (pc := 3) d77_3 (t := 16) rfl (fun h3 => ?_) (fun h3 => ?_)
  · rw [show isL c = false from decide_eq_false (by omega)]
    refine ef_iconst (pc := 16) d77_16 (by decide) ?_
    refine ef_zret (pc := 17) d77_17 rfl (by omega) ?_
    exact ⟨rfl, rfl⟩
  · refine ef_iload_n (pc := 6) d77_6 rfl ?_
    refine ef_bipush (pc := 7) d77_7 (by decide) ?_
    refine ef_icmp_gt (pc := 9) d77_9 (t := 16) rfl (fun h9 => ?_) (fun h9 => ?_)
    · rw [show isL c = false from decide_eq_false (by omega)]
      refine ef_iconst (pc := 16) d77_16 (by decide) ?_
      refine ef_zret (pc := 17) d77_17 rfl (by omega) ?_
      exact ⟨rfl, rfl⟩
    · rw [show isL c = true from decide_eq_true (by omega)]
      refine ef_iconst (pc := 12) d77_12 (by decide) ?_
      refine ef_goto (pc := 13) d77_13 (t := 17) rfl ?_
      refine ef_zret (pc := 17) d77_17 rfl (by omega) ?_
      exact ⟨rfl, rfl⟩
theorem c78 {P : Pg} {d : Nat} {u : Mm} {c : Int} (h0 : 0 ≤ c) (h1 : c < 65536) : Ec P d 78 [vI c] u (fun r u' => u' = u ∧ r = .inl (some (vI (bitF c)))) := by
  change Ef P _ 78 0 [some (vI c)] [] _ _
  refine ef_iconst (pc := 0) d78_0 (by decide) ?_
  refine ef_iload_n (pc := 1) d78_1 rfl ?_
  refine ef_bipush (pc := 2) d78_2 (by decide) ?_
  refine ef_isub (pc := 4) d78_4 rfl ⟨by omega, by omega⟩ ?_
  refine ef_ishl (pc := 5) d78_5 rfl ?_
  refine ef_iret (pc := 6) d78_6 rfl ?_
  exact ⟨rfl, rfl⟩
theorem PR.nx {g : Nat → Nat → Int} {tm n : Nat} {X : Nat → Int} {S : PS} (hS : PR g tm X n S) (hlt : S.1 < n) : PR (u2 g tm 7 ((S.1 + 1 : Nat) : Int)) tm X n (nxP S) := by
  obtain ⟨p1, p2, p3, p4, p5, p6, p7, p8, p9, p10⟩ := id hS
  exact ⟨by rw [u2_ni (by omega)]; exact p1, by rw [u2_ni (by omega)]; exact p2, u2_at, by rw [u2_ne (by omega)]; exact p4, by rw [u2_ne (by omega)]; exact p5, by rw [u2_ne (by omega)]; exact p6, by rw [u2_ne (by omega)]; exact p7, by rw [u2_ne (by omega)]; exact p8, PI.nx ⟨p9, p10⟩ hlt⟩
theorem c73 {P : Pg} {d : Nat} {u : Mm} {g : Nat → Nat → Int} {tm n : Nat} {X : Nat → Int} {S : PS} {c : Int} (hTm : TmA u tm) (hX : ∀ i, i < n → 0 ≤ X i ∧ X i < 65536) (hn : n ≤ 120) (hS : PR g tm X n S) (hc : c ≠ 0) : Ec P (d + 1) 73 [vR tm, vI c] (sI u g) (PQ u g tm X n (skP (pk X n) c S) none) := by
  obtain ⟨k0, k1, k2, k3, k4, k5, k6, k7, k8, k9, k10⟩ := id hTm
  obtain ⟨p1, p2, p3, p4, p5, p6, p7, p8, p9, p10⟩ := id hS
  change Ef P _ 73 0 [some (vR tm), some (vI c)] [] _ _
  refine ef_aload_n (pc := 0) d73_0 rfl ?_
  refine ef_callV (pc := 1) d73_1 lm_6_58 (as := []) rfl rfl (by assumption) rfl rfl (by decide) (Nat.le_of_ble_eq_true rfl) rfl (Nat.le_of_ble_eq_true rfl) ?_
  refine Ec.imp (c72 hTm hX hn hS) ?_
  rintro r1 u1 ⟨rfl, rfl⟩
  refine ef_iload_n (pc := 4) d73_4 rfl ?_
  refine ef_icmp_eq (pc := 5) d73_5 (t := 16) rfl (fun h5 => ?_) (fun h5 => ?_)
  · have hlt : S.1 < n := pkz_lt (X := X) (by rw [h5]; exact hc)
    refine ef_aload_n (pc := 16) d73_16 rfl ?_
    refine ef_dup (pc := 17) d73_17 rfl ?_
    refine eg_getI (pc := 18) d73_18 lf_6_42 (by assumption) (by decide) ?_
    try simp (disch := omega) only [u2_ne, u2_at, u2_ni, ur_ne, ur_eq]
    rw [p3]
    refine ef_iconst (pc := 21) d73_21 (by decide) ?_
    refine ef_iadd (pc := 22) d73_22 (z := ((S.1 + 1 : Nat) : Int)) (by omega) ⟨by omega, by omega⟩ ?_
    refine eg_putI (pc := 23) d73_23 pf_73_42 (by assumption) (by decide) ?_
    refine ef_vret (pc := 26) d73_26 rfl ?_
    exact ⟨_, OC.refl.up (by omega) (by omega) (by omega), Or.inl ⟨_, if_pos h5, rfl, rfl, hS.nx hlt⟩⟩
  · refine Ef.thr (pc := 8) (x := 0) (m := 6) d73_8 (show tLc 6 49 = none by decide +kernel) (show tLx 6 49 = some (0, 6) by decide +kernel) rfl (by decide +kernel) (by decide) ?_
    exact ⟨g, OC.refl, Or.inr ⟨0, if_neg h5, rfl, rfl⟩⟩
theorem c75 {P : Pg} {d : Nat} {u : Mm} {g : Nat → Nat → Int} {tm n : Nat} {X : Nat → Int} {S : PS} {k r : Int} (hTm : TmA u tm) (hX : ∀ i, i < n → 0 ≤ X i ∧ X i < 65536) (hn : n ≤ 120) (hS : PR g tm X n S) (hr : r = 0 ∨ r = 1) : Ec P d 75 [vR tm, vI k, vI r] (sI u g) (PQ u g tm X n (adP k r S) (some (vI (S.2.1 : Int)))) := by
  obtain ⟨k0, k1, k2, k3, k4, k5, k6, k7, k8, k9, k10⟩ := id hTm
  obtain ⟨p1, p2, p3, p4, p5, p6, p7, p8, p9, p10⟩ := id hS
  change Ef P _ 75 0 [some (vR tm), some (vI k), some (vI r), none] [] _ _
  refine ef_aload_n (pc := 0) d75_0 rfl ?_
  refine eg_getI (pc := 1) d75_1 lf_6_39 (by assumption) (by decide) ?_
  rw [p1]
  refine ef_bipush (pc := 4) d75_4 (by decide) ?_
  refine ef_icmp_lt (pc := 6) d75_6 (t := 17) rfl (fun h6 => ?_) (fun h6 => ?_)
  · have hlt : S.2.1 < 50 := by omega
    refine ef_aload_n (pc := 17) d75_17 rfl ?_
    refine ef_dup (pc := 18) d75_18 rfl ?_
    refine eg_getI (pc := 19) d75_19 lf_6_39 (by assumption) (by decide) ?_
    rw [p1]
    refine ef_dup_x1 (pc := 22) d75_22 rfl rfl ?_
    refine ef_iconst (pc := 23) d75_23 (by decide) ?_
    refine ef_iadd (pc := 24) d75_24 (z := ((S.2.1 + 1 : Nat) : Int)) (by omega) ⟨by omega, by omega⟩ ?_
    refine eg_putI (pc := 25) d75_25 pf_75_39 (by assumption) (by decide) ?_
    refine ef_istore_n (pc := 28) d75_28 (ls' := [_, _, _, _]) rfl ?_
    refine ef_aload_n (pc := 29) d75_29 rfl ?_
    refine eg_getR (pc := 30) d75_30 lf_6_9 (by assumption) (by decide) (by assumption) ?_
    refine ef_iload_n (pc := 33) d75_33 rfl ?_
    refine ef_iload_n (pc := 34) d75_34 rfl ?_
    refine eg_iast (pc := 35) d75_35 (i := S.2.1) (by assumption) (rfl) (by omega) rfl ?_
    refine ef_aload_n (pc := 36) d75_36 rfl ?_
    refine eg_getR (pc := 37) d75_37 lf_6_19 (by assumption) (by decide) (by assumption) ?_
    refine ef_iload_n (pc := 40) d75_40 rfl ?_
    refine ef_iload_n (pc := 41) d75_41 rfl ?_
    refine eg_bast (pc := 42) d75_42 (i := S.2.1) (w := r) (by assumption) (rfl) (by omega) (by rcases hr with h | h <;> rw [h] <;> decide) ?_
    refine ef_aload_n (pc := 43) d75_43 rfl ?_
    refine eg_getR (pc := 44) d75_44 lf_6_23 (by assumption) (by decide) (by assumption) ?_
    refine ef_iload_n (pc := 47) d75_47 rfl ?_
    refine ef_aload_n (pc := 48) d75_48 rfl ?_
    refine eg_getI (pc := 49) d75_49 lf_6_39 (by assumption) (by decide) ?_
    try simp (disch := omega) only [u2_ne, u2_at, u2_ni, ur_ne, ur_eq]
    refine eg_iast (pc := 52) d75_52 (i := S.2.1) (by assumption) (rfl) (by omega) rfl ?_
    refine ef_iload_n (pc := 53) d75_53 rfl ?_
    refine ef_iret (pc := 54) d75_54 rfl ?_
    refine ⟨_, (((OC.refl.up (by omega) (by omega) (by omega)).up (by omega) (by omega) (by omega)).up (by omega) (by omega) (by omega)).up (by omega) (by omega) (by omega), Or.inl ⟨_, if_pos hlt, rfl, rfl, ?_⟩⟩
    refine ⟨?_, ?_, ?_, ?_, ?_, ?_, ?_, ?_, ⟨p9, ?_⟩⟩
    · rw [u2_ne (by omega), u2_ne (by omega), u2_ne (by omega), u2_at]
    · rw [u2_ne (by omega), u2_ne (by omega), u2_ne (by omega), u2_ni (by omega)]; exact p2
    · rw [u2_ne (by omega), u2_ne (by omega), u2_ne (by omega), u2_ni (by omega)]; exact p3
    · rw [u2_ne (by omega), u2_ne (by omega), u2_eq, u2_ne (by omega), p4]
    · rw [u2_ne (by omega), u2_ne (by omega), u2_ne (by omega), u2_ne (by omega), p5]
    · rw [u2_ne (by omega), u2_eq, u2_ne (by omega), u2_ne (by omega), p6]
    · rw [u2_eq, u2_ne (by omega), u2_ne (by omega), u2_ne (by omega), p7]
    · rw [u2_ne (by omega), u2_ne (by omega), u2_ne (by omega), u2_ne (by omega), p8]
    · show S.2.1 + 1 ≤ 50; omega
  · refine Ef.thr (pc := 9) (x := 1) (m := 6) d75_9 (show tLc 6 55 = none by decide +kernel) (show tLx 6 55 = some (1, 6) by decide +kernel) rfl (by decide +kernel) (by decide) ?_
    exact ⟨g, OC.refl, Or.inr ⟨1, if_neg (by omega), rfl, rfl⟩⟩
theorem c76 {P : Pg} {d : Nat} {u : Mm} {g : Nat → Nat → Int} {tm n : Nat} {X : Nat → Int} {S : PS} {b : Int} (hTm : TmA u tm) (hX : ∀ i, i < n → 0 ≤ X i ∧ X i < 65536) (hn : n ≤ 120) (hS : PR g tm X n S) : Ec P (d + 1) 76 [vR tm, vI b] (sI u g) (PQ u g tm X n (if isN b (pk X n S.1) = true then .inr (nxP S) else .inl 0) (some (vI (pk X n S.1)))) := by
  obtain ⟨k0, k1, k2, k3, k4, k5, k6, k7, k8, k9, k10⟩ := id hTm
  obtain ⟨p1, p2, p3, p4, p5, p6, p7, p8, p9, p10⟩ := id hS
  have hrg := pk_rg (X := X) (n := n) (a := S.1) hX
  have yes : isN b (pk X n S.1) = true → ∀ v3, Ef P (d + 1) 76 51 [some (vR tm), some (vI b), some (vI (pk X n S.1)), v3] [] (sI u g) (PQ u g tm X n (if isN b (pk X n S.1) = true then .inr (nxP S) else .inl 0) (some (vI (pk X n S.1)))) := by
    intro hy v3
    have hlt := isN_lt hy
    refine ef_aload_n (pc := 51) d76_51 rfl ?_
    refine ef_dup (pc := 52) d76_52 rfl ?_
    refine eg_getI (pc := 53) d76_53 lf_6_42 (by assumption) (by decide) ?_
    rw [p3]
    refine ef_iconst (pc := 56) d76_56 (by decide) ?_
    refine ef_iadd (pc := 57) d76_57 (z := ((S.1 + 1 : Nat) : Int)) (by omega) ⟨by omega, by omega⟩ ?_
    refine eg_putI (pc := 58) d76_58 pf_76_42 (by assumption) (by decide) ?_
    refine ef_iload_n (pc := 61) d76_61 rfl ?_
    refine ef_cret (pc := 62) d76_62 rfl (by omega) (by omega) ?_
    exact ⟨_, OC.refl.up (by omega) (by omega) (by omega), Or.inl ⟨_, if_pos hy, rfl, rfl, hS.nx hlt⟩⟩
  have no : isN b (pk X n S.1) = false → ∀ v3, Ef P (d + 1) 76 43 [some (vR tm), some (vI b), some (vI (pk X n S.1)), v3] [] (sI u g) (PQ u g tm X n (if isN b (pk X n S.1) = true then .inr (nxP S) else .inl 0) (some (vI (pk X n S.1)))) := by
    intro hy v3
    refine Ef.thr (pc := 43) (x := 0) (m := 6) d76_43 (show tLc 6 49 = none by decide +kernel) (show tLx 6 49 = some (0, 6) by decide +kernel) rfl (by decide +kernel) (by decide) ?_
    exact ⟨g, OC.refl, Or.inr ⟨0, if_neg (by rw [hy]; decide), rfl, rfl⟩⟩
  have nol : (isL (pk X n S.1) && decide (bI (fun x y => x &&& y) b (bitF (pk X n S.1)) ≠ 0)) = false → ∀ v3, Ef P (d + 1) 76 25 [some (vR tm), some (vI b), some (vI (pk X n S.1)), v3] [] (sI u g) (PQ u g tm X n (if isN b (pk X n S.1) = true then .inr (nxP S) else .inl 0) (some (vI (pk X n S.1)))) := by
    intro hl v3
    refine ef_iconst (pc := 25) d76_25 (by decide) ?_
    refine ef_istore_n (pc := 26) d76_26 (ls' := [_, _, _, _]) rfl ?_
    refine ef_iload_n (pc := 27) d76_27 rfl ?_
    refine ef_if_neF (pc := 28) d76_28 (t := 51) rfl (by decide) ?_
    refine ef_iload_n (pc := 31) d76_31 rfl ?_
    refine ef_bipush (pc := 32) d76_32 (by decide) ?_
    refine ef_icmp_lt (pc := 34) d76_34 (t := 43) rfl (fun h34 => ?_) (fun h34 => ?_)
    · exact no (by unfold isN; rw [hl, Bool.false_or]; exact decide_eq_false (by omega)) _
    · refine ef_iload_n (pc := 37) d76_37 rfl ?_
      refine ef_bipush (pc := 38) d76_38 (by decide) ?_
      refine ef_icmp_le (pc := 40) d76_40 (t := 51) rfl (fun h40 => ?_) (fun h40 => ?_)
      · exact yes (by unfold isN; rw [hl, Bool.false_or]; exact decide_eq_true (by omega)) _
      · exact no (by unfold isN; rw [hl, Bool.false_or]; exact decide_eq_false (by omega)) _
  change Ef P _ 76 0 [some (vR tm), some (vI b), none, none] [] _ _
  refine ef_aload_n (pc := 0) d76_0 rfl ?_
  refine ef_callV (pc := 1) d76_1 lm_6_58 (as := []) rfl rfl (by assumption) rfl rfl (by decide) (Nat.le_of_ble_eq_true rfl) rfl (Nat.le_of_ble_eq_true rfl) ?_
  refine Ec.imp (c72 hTm hX hn hS) ?_
  rintro r1 u1 ⟨rfl, rfl⟩
  refine ef_istore_n (pc := 4) d76_4 (ls' := [_, _, _, _]) rfl ?_
  refine ef_iload_n (pc := 5) d76_5 rfl ?_
  refine ef_callS (pc := 6) d76_6 lm_6_99 (as := [_]) rfl rfl rfl (Nat.le_of_ble_eq_true rfl) rfl (Nat.le_of_ble_eq_true rfl) ?_
  refine Ec.imp (c77) ?_
  rintro r6 u6 ⟨rfl, rfl⟩
  refine ef_if_eq (pc := 9) d76_9 (t := 25) rfl (fun h9 => ?_) (fun h9 => ?_)
  · have hl := b01_t h9
    first
    | exact nol (by rw [hl, Bool.false_and]) _
    | exact nol (by rw [hz, Bool.and_false]) _
  · have hl := b01_f h9
    refine ef_iload_n (pc := 12) d76_12 rfl ?_
    refine ef_iload_n (pc := 13) d76_13 rfl ?_
    refine ef_callS (pc := 14) d76_14 lm_6_95 (as := [_]) rfl rfl rfl (Nat.le_of_ble_eq_true rfl) rfl (Nat.le_of_ble_eq_true rfl) ?_
    refine Ec.imp (c78 hrg.1 hrg.2) ?_
    rintro r14 u14 ⟨rfl, rfl⟩
    refine ef_iand (pc := 17) d76_17 rfl ?_
    refine ef_if_eq (pc := 18) d76_18 (t := 25) rfl (fun h18 => ?_) (fun h18 => ?_)
    · have hz : decide (bI (fun x y => x &&& y) b (bitF (pk X n S.1)) ≠ 0) = false := decide_eq_false (fun hh => hh h18)
      first
      | exact nol (by rw [hl, Bool.false_and]) _
      | exact nol (by rw [hz, Bool.and_false]) _
    · have hz : decide (bI (fun x y => x &&& y) b (bitF (pk X n S.1)) ≠ 0) = true := decide_eq_true h18
      refine ef_iconst (pc := 21) d76_21 (by decide) ?_
      refine ef_goto (pc := 22) d76_22 (t := 26) rfl ?_
      refine ef_istore_n (pc := 26) d76_26 (ls' := [_, _, _, _]) rfl ?_
      refine ef_iload_n (pc := 27) d76_27 rfl ?_
      refine ef_if_neT (pc := 28) d76_28 (t := 51) rfl (by decide) ?_
      exact yes (by unfold isN; rw [hl, hz]; rfl) _
theorem c81 {P : Pg} {d : Nat} {u : Mm} {g : Nat → Nat → Int} {tm n : Nat} {X : Nat → Int} {S : PS} (hTm : TmA u tm) (hX : ∀ i, i < n → 0 ≤ X i ∧ X i < 65536) (hn : n ≤ 120) (hS : PR g tm X n S) : Ec P (d + 1) 81 [vR tm] (sI u g) (PQ u g tm X n (if isL (pk X n S.1) = true then .inr (nxP S) else .inl 0) (some (vI (pk X n S.1)))) := by
  obtain ⟨k0, k1, k2, k3, k4, k5, k6, k7, k8, k9, k10⟩ := id hTm
  obtain ⟨p1, p2, p3, p4, p5, p6, p7, p8, p9, p10⟩ := id hS
  have hrg := pk_rg (X := X) (n := n) (a := S.1) hX
  change Ef P _ 81 0 [some (vR tm), none] [] _ _
  refine ef_aload_n (pc := 0) d81_0 rfl ?_
  refine ef_callV (pc := 1) d81_1 lm_6_58 (as := []) rfl rfl (by assumption) rfl rfl (by decide) (Nat.le_of_ble_eq_true rfl) rfl (Nat.le_of_ble_eq_true rfl) ?_
  refine Ec.imp (c72 hTm hX hn hS) ?_
  rintro r1 u1 ⟨rfl, rfl⟩
  refine ef_istore_n (pc := 4) d81_4 (ls' := [_, _]) rfl ?_
  refine ef_iload_n (pc := 5) d81_5 rfl ?_
  refine ef_callS (pc := 6) d81_6 lm_6_99 (as := [_]) rfl rfl rfl (Nat.le_of_ble_eq_true rfl) rfl (Nat.le_of_ble_eq_true rfl) ?_
  refine Ec.imp (c77) ?_
  rintro r6 u6 ⟨rfl, rfl⟩
  refine ef_if_ne (pc := 9) d81_9 (t := 20) rfl (fun h9 => ?_) (fun h9 => ?_)
  · have hl := b01_f h9
    have hlt := isL_lt hl
    refine ef_aload_n (pc := 20) d81_20 rfl ?_
    refine ef_dup (pc := 21) d81_21 rfl ?_
    refine eg_getI (pc := 22) d81_22 lf_6_42 (by assumption) (by decide) ?_
    try simp (disch := omega) only [u2_ne, u2_at, u2_ni, ur_ne, ur_eq]
    rw [p3]
    refine ef_iconst (pc := 25) d81_25 (by decide) ?_
    refine ef_iadd (pc := 26) d81_26 (z := ((S.1 + 1 : Nat) : Int)) (by omega) ⟨by omega, by omega⟩ ?_
    refine eg_putI (pc := 27) d81_27 pf_81_42 (by assumption) (by decide) ?_
    refine ef_iload_n (pc := 30) d81_30 rfl ?_
    refine ef_cret (pc := 31) d81_31 rfl (by omega) (by omega) ?_
    exact ⟨_, OC.refl.up (by omega) (by omega) (by omega), Or.inl ⟨_, if_pos hl, rfl, rfl, hS.nx hlt⟩⟩
  · have hl := b01_t h9
    refine Ef.thr (pc := 12) (x := 0) (m := 6) d81_12 (show tLc 6 49 = none by decide +kernel) (show tLx 6 49 = some (0, 6) by decide +kernel) rfl (by decide +kernel) (by decide) ?_
    exact ⟨g, OC.refl, Or.inr ⟨0, if_neg (by rw [hl]; decide), rfl, rfl⟩⟩
