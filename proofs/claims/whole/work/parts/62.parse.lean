/-! The term: a text parsed. Written by wip/whole/gen/c62.py. -/
def pkL (T : List Int) (a : Nat) : Int := match T[a]? with
  | some c => c
  | none => 0
def nsp (W : List Int) : List Int := W.filter (fun c => decide (c ≠ 32))
def paF (T : List Int) (S : PS) : Nat ⊕ PS := bdP (prP (pkL T) (ptP (pkL T) 8 0) S) fun S => if S.1 < T.length then .inl 0 else .inr S
theorem pk_pkL {X : Nat → Int} {T : List Int} (h : Row X T) : pk X T.length = pkL T := by
  funext a
  unfold pk pkL
  by_cases ha : a < T.length
  · rw [if_pos ha, List.getElem?_eq_getElem ha]
    exact h a _ (List.getElem?_eq_getElem ha)
  · rw [if_neg ha, List.getElem?_eq_none (by omega)]
theorem nsp_take_y {W : List Int} {i : Nat} {c : Int} (h : W[i]? = some c) (hc : ¬ c = 32) : nsp (W.take (i + 1)) = nsp (W.take i) ++ [c] := by
  unfold nsp
  rw [List.take_add_one, h, List.filter_append]
  simp [hc]
theorem nsp_take_n {W : List Int} {i : Nat} {c : Int} (h : W[i]? = some c) (hc : c = 32) : nsp (W.take (i + 1)) = nsp (W.take i) := by
  unfold nsp
  rw [List.take_add_one, h, List.filter_append]
  simp [hc]
theorem nsp_len {W : List Int} : (nsp W).length ≤ W.length := List.length_filter_le _ _
theorem nsp_rg {W : List Int} (h : ∀ c, c ∈ W → 0 ≤ c ∧ c < 65536) : ∀ c, c ∈ nsp W → 0 ≤ c ∧ c < 65536 := fun c hc => h c (List.mem_filter.mp hc).1
theorem Row.rg {X : Nat → Int} {T : List Int} (h : Row X T) (hc : ∀ c, c ∈ T → 0 ≤ c ∧ c < 65536) : ∀ i, i < T.length → 0 ≤ X i ∧ X i < 65536 := fun i hi => by
  rw [h i _ (List.getElem?_eq_getElem hi)]
  exact hc _ (List.getElem_mem hi)

theorem c69 {P : Pg} {u : Mm} {g : Nat → Nat → Int} {tm aw : Nat} {W : List Int} (hTm : TmA u tm) (hsv : mS u (pSv P) = none) (haw : mS u aw = some (1, 120)) (hdj : aw < tm ∨ tm + 6 ≤ aw) (hW : Row (g aw) W) (hl : W.length ≤ 120) (hc : ∀ c, c ∈ W → 0 ≤ c ∧ c < 65536) : Ec P 50 69 [vR tm, vR aw, vI (W.length : Int)] (sI u g) (fun r u' => ∃ g', OC tm g g' ∧ ((∃ S', paF (nsp W) (0, (0, (g (tm + 1), (g (tm + 2), (g (tm + 3), g (tm + 4)))))) = .inr S' ∧ u' = sI u g' ∧ r = .inl none ∧ PR g' tm (g' (tm + 5)) (nsp W).length S') ∨ (∃ x, paF (nsp W) (0, (0, (g (tm + 1), (g (tm + 2), (g (tm + 3), g (tm + 4)))))) = .inl x ∧ u' = sI (mHole u 6) g' ∧ r = .inr (x, mT u)))) := by
  obtain ⟨k0, k1, k2, k3, k4, k5, k6, k7, k8, k9, k10⟩ := id hTm
  have hn120 : (nsp W).length ≤ 120 := Nat.le_trans nsp_len hl
  have loop : ∀ i, i ≤ W.length → ∀ g1, OC tm g g1 → g1 tm 6 = ((nsp (W.take i)).length : Int) → Row (g1 (tm + 5)) (nsp (W.take i)) → (∀ k, 1 ≤ k → k ≤ 4 → g1 (tm + k) = g (tm + k)) → Ef P 50 69 7 [some (vR tm), some (vR aw), some (vI (W.length : Int)), some (vI (i : Int))] [] (sI u g1) (fun r u' => ∃ g', OC tm g g' ∧ ((∃ S', paF (nsp W) (0, (0, (g (tm + 1), (g (tm + 2), (g (tm + 3), g (tm + 4)))))) = .inr S' ∧ u' = sI u g' ∧ r = .inl none ∧ PR g' tm (g' (tm + 5)) (nsp W).length S') ∨ (∃ x, paF (nsp W) (0, (0, (g (tm + 1), (g (tm + 2), (g (tm + 3), g (tm + 4)))))) = .inl x ∧ u' = sI (mHole u 6) g' ∧ r = .inr (x, mT u)))) := by
    refine nat_loop W.length ?_
    intro i hi ih g1 o1 f6 r5 rr
    have hni : (nsp (W.take i)).length ≤ i := Nat.le_trans nsp_len (by rw [List.length_take]; omega)
    have hwr : Row (g1 aw) W := by rw [o1.1 aw (by omega)]; exact hW
    refine ef_iload_n (pc := 7) d69_7 rfl ?_
    refine ef_iload_n (pc := 8) d69_8 rfl ?_
    refine ef_icmp_ge (pc := 9) d69_9 (t := 45) rfl (fun h9 => ?_) (fun h9 => ?_)
    · have hii : i = W.length := by omega
      subst hii
      rw [List.take_length] at f6 r5
      have s1 : PR (u2 (u2 g1 tm 4 0) tm 7 0) tm (g1 (tm + 5)) (nsp W).length (0, (0, (g (tm + 1), (g (tm + 2), (g (tm + 3), g (tm + 4)))))) := by
        refine ⟨?_, ?_, ?_, ?_, ?_, ?_, ?_, ?_, Nat.zero_le _, Nat.zero_le _⟩
        · rw [u2_ni (by omega), u2_at]; rfl
        · rw [u2_ni (by omega), u2_ni (by omega)]; exact f6
        · rw [u2_at]; rfl
        · rw [u2_ne (by omega), u2_ne (by omega)]; exact rr 1 (by omega) (by omega)
        · rw [u2_ne (by omega), u2_ne (by omega)]; exact rr 2 (by omega) (by omega)
        · rw [u2_ne (by omega), u2_ne (by omega)]; exact rr 3 (by omega) (by omega)
        · rw [u2_ne (by omega), u2_ne (by omega)]; exact rr 4 (by omega) (by omega)
        · rw [u2_ne (by omega), u2_ne (by omega)]
      have o2 := (o1.up (a := tm) (i := 4) (x := 0) (by omega) (by omega) (by omega)).up (a := tm) (i := 7) (x := 0) (by omega) (by omega) (by omega)
      have hX := r5.rg (nsp_rg hc)
      have hK := pk_pkL r5
      have h70 := c70 (P := P) (dep := 1) (b := 0) hTm hX hn120 s1 (pt_mo 8 0) (fun S g hS => c71 hTm hX hn120 hsv 8 1 0 S g (by omega) hS)
      rw [hK] at h70
      generalize hR : paF (nsp W) (0, (0, (g (tm + 1), (g (tm + 2), (g (tm + 3), g (tm + 4)))))) = R
      unfold paF at hR
      refine ef_aload_n (pc := 45) d69_45 rfl ?_
      refine ef_iconst (pc := 46) d69_46 (by decide) ?_
      refine eg_putI (pc := 47) d69_47 pf_69_39 (by assumption) (by decide) ?_
      refine ef_aload_n (pc := 50) d69_50 rfl ?_
      refine ef_iconst (pc := 51) d69_51 (by decide) ?_
      refine eg_putI (pc := 52) d69_52 pf_69_42 (by assumption) (by decide) ?_
      refine ef_aload_n (pc := 55) d69_55 rfl ?_
      refine ef_iconst (pc := 56) d69_56 (by decide) ?_
      refine ef_iconst (pc := 57) d69_57 (by decide) ?_
      refine ef_callV (pc := 58) d69_58 lm_6_45 (as := [_, _]) rfl rfl (by assumption) rfl rfl (by decide) (Nat.le_of_ble_eq_true rfl) rfl (Nat.le_of_ble_eq_true rfl) ?_
      refine Ec.imp (Ec.deep (by omega) h70) ?_
      rintro r58 u58 ⟨g3, o3, hq3⟩
      rcases hq3.symm with ⟨x3, e3, rfl, rfl⟩ | ⟨S3, e3, rfl, rfl, s3⟩
      · rw [e3, bdP_l] at hR
        exact (show pHs P 69 = [] ∧ _ from ⟨rfl, _, o2.trans o3, Or.inr ⟨x3, hR.symm, rfl, rfl⟩⟩)
      rw [e3, bdP_r] at hR
      have t3 := s3.2.2.1
      have t2 := s3.2.1
      have t8 := s3.2.2.2.2.2.2.2.1
      refine ef_aload_n (pc := 61) d69_61 rfl ?_
      refine eg_getI (pc := 62) d69_62 lf_6_42 (by assumption) (by decide) ?_
      try simp (disch := omega) only [u2_ne, u2_at, u2_ni, ur_ne, ur_eq]
      rw [t3]
      refine ef_aload_n (pc := 65) d69_65 rfl ?_
      refine eg_getI (pc := 66) d69_66 lf_6_35 (by assumption) (by decide) ?_
      try simp (disch := omega) only [u2_ne, u2_at, u2_ni, ur_ne, ur_eq]
      rw [t2]
      refine ef_icmp_ge (pc := 69) d69_69 (t := 80) rfl (fun h69 => ?_) (fun h69 => ?_)
      · rw [if_neg (by omega)] at hR
        refine ef_vret (pc := 80) d69_80 rfl ?_
        exact ⟨g3, o2.trans o3, Or.inl ⟨S3, hR.symm, rfl, rfl, by rw [t8]; exact s3⟩⟩
      · rw [if_pos (by omega)] at hR
        refine Ef.thr (pc := 72) (x := 0) (m := 6) d69_72 (show tLc 6 49 = none by decide +kernel) (show tLx 6 49 = some (0, 6) by decide +kernel) rfl (by decide +kernel) (by decide) ?_
        exact ⟨g3, o2.trans o3, Or.inr ⟨0, hR.symm, rfl, rfl⟩⟩
    · have hlt : i < W.length := by omega
      obtain ⟨c, hci, -⟩ := get_of_lt hlt
      have hcr := hc c (List.mem_of_getElem? hci)
      have hv := hwr i c hci
      refine ef_aload_n (pc := 12) d69_12 rfl ?_
      refine ef_iload_n (pc := 13) d69_13 rfl ?_
      refine eg_cald (pc := 14) d69_14 (i := i) (by assumption) (rfl) (by omega) ?_
      rw [hv]
      refine ef_bipush (pc := 15) d69_15 (by decide) ?_
      refine ef_icmp_eq (pc := 17) d69_17 (t := 39) rfl (fun h17 => ?_) (fun h17 => ?_)
      · have hnx := nsp_take_n hci h17
        refine ef_iinc (pc := 39) d69_39 (ls' := [_, _, _, _]) (z := ((i + 1 : Nat) : Int)) rfl (by decide) (by omega) ⟨by omega, by omega⟩ rfl ?_
        refine ef_goto (pc := 42) d69_42 (t := 7) rfl ?_
        first
        | exact ih hlt _ o1 (by rw [hnx]; exact f6) (by rw [hnx]; exact r5) rr
        | (refine ih hlt _ ((o1.up (by omega) (by omega) (by omega)).up (by omega) (by omega) (by omega)) ?_ ?_ ?_
           · rw [u2_ne (by omega), u2_at, hnx, List.length_append]; rfl
           · rw [u2_eq, u2_ne (by omega), hnx]; exact Row_app r5
           · intro k h1 h4; rw [u2_ne (by omega), u2_ne (by omega)]; exact rr k h1 h4)
      · have hnx := nsp_take_y hci h17
        refine ef_aload_n (pc := 20) d69_20 rfl ?_
        refine eg_getR (pc := 21) d69_21 lf_6_26 (by assumption) (by decide) (by assumption) ?_
        refine ef_aload_n (pc := 24) d69_24 rfl ?_
        refine ef_dup (pc := 25) d69_25 rfl ?_
        refine eg_getI (pc := 26) d69_26 lf_6_35 (by assumption) (by decide) ?_
        rw [f6]
        refine ef_dup_x1 (pc := 29) d69_29 rfl rfl ?_
        refine ef_iconst (pc := 30) d69_30 (by decide) ?_
        refine ef_iadd (pc := 31) d69_31 (z := (((nsp (W.take i)).length + 1 : Nat) : Int)) (by omega) ⟨by omega, by omega⟩ ?_
        refine eg_putI (pc := 32) d69_32 pf_69_35 (by assumption) (by decide) ?_
        refine ef_aload_n (pc := 35) d69_35 rfl ?_
        refine ef_iload_n (pc := 36) d69_36 rfl ?_
        refine eg_cald (pc := 37) d69_37 (i := i) (by assumption) (rfl) (by omega) ?_
        try simp (disch := omega) only [u2_ne, u2_at, u2_ni, ur_ne, ur_eq]
        rw [hv]
        refine eg_cast (pc := 38) d69_38 (i := (nsp (W.take i)).length) (w := c) (by assumption) (rfl) (by omega) (by omega) ?_
        refine ef_iinc (pc := 39) d69_39 (ls' := [_, _, _, _]) (z := ((i + 1 : Nat) : Int)) rfl (by decide) (by omega) ⟨by omega, by omega⟩ rfl ?_
        refine ef_goto (pc := 42) d69_42 (t := 7) rfl ?_
        first
        | exact ih hlt _ o1 (by rw [hnx]; exact f6) (by rw [hnx]; exact r5) rr
        | (refine ih hlt _ ((o1.up (by omega) (by omega) (by omega)).up (by omega) (by omega) (by omega)) ?_ ?_ ?_
           · rw [u2_ne (by omega), u2_at, hnx, List.length_append]; rfl
           · rw [u2_eq, u2_ne (by omega), hnx]; exact Row_app r5
           · intro k h1 h4; rw [u2_ne (by omega), u2_ne (by omega)]; exact rr k h1 h4)
  change Ef P _ 69 0 [some (vR tm), some (vR aw), some (vI (W.length : Int)), none] [] _ _
  refine ef_aload_n (pc := 0) d69_0 rfl ?_
  refine ef_iconst (pc := 1) d69_1 (by decide) ?_
  refine eg_putI (pc := 2) d69_2 pf_69_35 (by assumption) (by decide) ?_
  refine ef_iconst (pc := 5) d69_5 (by decide) ?_
  refine ef_istore_n (pc := 6) d69_6 (ls' := [_, _, _, _]) rfl ?_
  refine loop 0 (Nat.zero_le _) _ (OC.refl.up (by omega) (by omega) (by omega)) ?_ ?_ ?_
  · rw [u2_at]; rfl
  · intro i c hh; cases hh
  · intro k h1 h4; rw [u2_ne (by omega)]
