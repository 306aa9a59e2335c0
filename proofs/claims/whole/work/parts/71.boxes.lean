/-! The class: counting, redexes, exploring told, writing. Written by wip/whole/gen/c71.py. -/
theorem c14 {P : Pg} {d : Nat} {u : Mm} {g : Nat → Nat → Int} {h s t r q : Nat} {A : SS} {st i : Int} (hB : BxA u h s t r q) (hS : SR g s A) (hst : g h 8 = st) : Ec P d 14 [vR h, vI i] (sI u g) (fun x u' => (¬ (0 ≤ i ∧ i ≤ 4) ∧ u' = sI (mHole u 6) g ∧ x = .inr (3, mT u)) ∨ ((0 ≤ i ∧ i ≤ 4) ∧ u' = sI u g ∧ x = .inl (some (vI (if i = 0 then (A.1.length : Int) else if i = 1 then (A.2.1.length : Int) else if i = 2 then (A.2.2.1.length : Int) else if i = 3 then A.2.2.2.1 else st))))) := by
  obtain ⟨a0, a1, a2, a3, a4, a5, a6, a7, a8, a9, a10, a11, a12, a13, a14, a15, a16, a17, a18, a19, a20, a21⟩ := id hB
  obtain ⟨q0, q1, q2, q3, q4, hP, hG, hM, hL⟩ := id a15
  obtain ⟨b0, b1, b2, b3, b4, b5, b6, b7, b8, b9, b10⟩ := id hP
  obtain ⟨d0, d1, d2, d3, d4, d5, d6, d7, d8, d9, d10⟩ := id hG
  obtain ⟨e0, e1, e2, e3, e4, e5, e6, e7, e8, e9, e10⟩ := id hM
  have w0 := hS.1.1
  have w1 := hS.2.1.1
  have w2 := hS.2.2.1.1
  have w3 := hS.2.2.2.1
  change Ef P _ 14 0 [some (vR h), some (vI i)] [] _ _
  refine ef_iload_n (pc := 0) d14_0 rfl ?_
  by_cases hw0 : i = 0
  · subst hw0
    refine ef_table (pc := 1) d14_1 (off := 35) (by decide) (t := 36) rfl ?_
    refine ef_aload_n (pc := 36) d14_36 rfl ?_
    refine eg_getR (pc := 37) d14_37 lf_0_30 (by assumption) (by decide) (by assumption) ?_
    refine eg_getR (pc := 40) d14_40 lf_0_138 (by assumption) (by decide) (by assumption) ?_
    refine eg_getI (pc := 43) d14_43 lf_0_142 (by assumption) (by decide) ?_
    rw [w0]
    refine ef_iret (pc := 46) d14_46 rfl ?_
    exact Or.inr ⟨by decide, rfl, rfl⟩
  by_cases hw1 : i = 1
  · subst hw1
    refine ef_table (pc := 1) d14_1 (off := 46) (by decide) (t := 47) rfl ?_
    refine ef_aload_n (pc := 47) d14_47 rfl ?_
    refine eg_getR (pc := 48) d14_48 lf_0_30 (by assumption) (by decide) (by assumption) ?_
    refine eg_getR (pc := 51) d14_51 lf_0_145 (by assumption) (by decide) (by assumption) ?_
    refine eg_getI (pc := 54) d14_54 lf_0_142 (by assumption) (by decide) ?_
    rw [w1]
    refine ef_iret (pc := 57) d14_57 rfl ?_
    exact Or.inr ⟨by decide, rfl, rfl⟩
  by_cases hw2 : i = 2
  · subst hw2
    refine ef_table (pc := 1) d14_1 (off := 57) (by decide) (t := 58) rfl ?_
    refine ef_aload_n (pc := 58) d14_58 rfl ?_
    refine eg_getR (pc := 59) d14_59 lf_0_30 (by assumption) (by decide) (by assumption) ?_
    refine eg_getR (pc := 62) d14_62 lf_0_148 (by assumption) (by decide) (by assumption) ?_
    refine eg_getI (pc := 65) d14_65 lf_0_142 (by assumption) (by decide) ?_
    rw [w2]
    refine ef_iret (pc := 68) d14_68 rfl ?_
    exact Or.inr ⟨by decide, rfl, rfl⟩
  by_cases hw3 : i = 3
  · subst hw3
    refine ef_table (pc := 1) d14_1 (off := 68) (by decide) (t := 69) rfl ?_
    refine ef_aload_n (pc := 69) d14_69 rfl ?_
    refine eg_getR (pc := 70) d14_70 lf_0_30 (by assumption) (by decide) (by assumption) ?_
    refine eg_getI (pc := 73) d14_73 lf_0_151 (by assumption) (by decide) ?_
    rw [w3]
    refine ef_iret (pc := 76) d14_76 rfl ?_
    exact Or.inr ⟨by decide, rfl, rfl⟩
  by_cases hw4 : i = 4
  · subst hw4
    refine ef_table (pc := 1) d14_1 (off := 76) (by decide) (t := 77) rfl ?_
    refine ef_aload_n (pc := 77) d14_77 rfl ?_
    refine eg_getI (pc := 78) d14_78 lf_0_83 (by assumption) (by decide) ?_
    rw [hst]
    refine ef_iret (pc := 81) d14_81 rfl ?_
    exact Or.inr ⟨by decide, rfl, rfl⟩
  refine ef_table (pc := 1) d14_1 (off := 81) (by rw [tsw, if_pos (by omega)]) (t := 82) rfl ?_
  refine Ef.thr (pc := 82) (x := 3) (m := 6) d14_82 (show tLc 0 115 = none by decide +kernel) (show tLx 0 115 = some (3, 6) by decide +kernel) rfl (by decide +kernel) (by decide) ?_
  exact Or.inl ⟨by omega, rfl, rfl⟩
theorem c10 {P : Pg} {d : Nat} {u : Mm} {g : Nat → Nat → Int} {h s t r q : Nat} {R : List Rd} {st k i : Int} (hB : BxA u h s t r q) (hR : Rf g r R) (hl : R.length ≤ 1200) (hst : g h 8 = st) (hin : ∀ j, j < R.length → inR (st - g (r + 4) j)) : Ec P (d + 1) 10 [vR h, vI k, vI i] (sI u g) (fun x u' => (¬ ((0 ≤ k ∧ k < (R.length : Int)) ∧ (0 ≤ i ∧ i ≤ 3)) ∧ u' = sI (mHole u 6) g ∧ x = .inr (3, mT u)) ∨ (∃ (n : Nat) (w : Rd), k = (n : Int) ∧ R[n]? = some w ∧ (0 ≤ i ∧ i ≤ 3) ∧ u' = sI u g ∧ x = .inl (some (vI (if i = 0 then w.1 else if i = 1 then w.2.1 else if i = 2 then w.2.2 else st - g (r + 4) n))))) := by
  obtain ⟨a0, a1, a2, a3, a4, a5, a6, a7, a8, a9, a10, a11, a12, a13, a14, a15, a16, a17, a18, a19, a20, a21⟩ := id hB
  obtain ⟨b0, b1, b2, b3, b4, b5, b6, b7, b8⟩ := id a17
  have w0 := hR.1
  change Ef P _ 10 0 [some (vR h), some (vI k), some (vI i)] [] _ _
  refine ef_aload_n (pc := 0) d10_0 rfl ?_
  refine eg_getR (pc := 1) d10_1 lf_0_40 (by assumption) (by decide) (by assumption) ?_
  refine ef_iload_n (pc := 4) d10_4 rfl ?_
  refine ef_callV (pc := 5) d10_5 lm_0_111 (as := [_]) rfl rfl (by assumption) rfl rfl (by decide) (Nat.le_of_ble_eq_true rfl) rfl (Nat.le_of_ble_eq_true rfl) ?_
  refine Ec.imp (c42 a17 w0) ?_
  rintro r5 u5 ⟨rfl, rfl⟩
  refine ef_if_ne (pc := 8) d10_8 (t := 19) rfl (fun h8 => ?_) (fun h8 => ?_)
  · have hk : 0 ≤ k ∧ k < (R.length : Int) := by
      by_cases hh : 0 ≤ k ∧ k < (R.length : Int)
      · exact hh
      · rw [if_neg hh] at h8; exact absurd rfl h8
    obtain ⟨n, rfl⟩ : ∃ n : Nat, k = (n : Int) := ⟨k.toNat, by omega⟩
    have hn : n < R.length := by omega
    obtain ⟨w, hw, -⟩ := get_of_lt hn
    obtain ⟨v1, v2, v3⟩ := hR.2 n w hw
    refine ef_iload_n (pc := 19) d10_19 rfl ?_
    by_cases hw0 : i = 0
    · subst hw0
      refine ef_table (pc := 20) d10_20 (off := 32) (by decide) (t := 52) rfl ?_
      refine ef_aload_n (pc := 52) d10_52 rfl ?_
      refine eg_getR (pc := 53) d10_53 lf_0_40 (by assumption) (by decide) (by assumption) ?_
      refine eg_getR (pc := 56) d10_56 lf_0_118 (by assumption) (by decide) (by assumption) ?_
      refine ef_iload_n (pc := 59) d10_59 rfl ?_
      refine eg_iald (pc := 60) d10_60 (i := n) (by assumption) (rfl) (by omega) ?_
      rw [v1]
      refine ef_iret (pc := 61) d10_61 rfl ?_
      exact Or.inr ⟨n, w, rfl, hw, by decide, rfl, rfl⟩
    by_cases hw1 : i = 1
    · subst hw1
      refine ef_table (pc := 20) d10_20 (off := 42) (by decide) (t := 62) rfl ?_
      refine ef_aload_n (pc := 62) d10_62 rfl ?_
      refine eg_getR (pc := 63) d10_63 lf_0_40 (by assumption) (by decide) (by assumption) ?_
      refine eg_getR (pc := 66) d10_66 lf_0_122 (by assumption) (by decide) (by assumption) ?_
      refine ef_iload_n (pc := 69) d10_69 rfl ?_
      refine eg_iald (pc := 70) d10_70 (i := n) (by assumption) (rfl) (by omega) ?_
      rw [v2]
      refine ef_iret (pc := 71) d10_71 rfl ?_
      exact Or.inr ⟨n, w, rfl, hw, by decide, rfl, rfl⟩
    by_cases hw2 : i = 2
    · subst hw2
      refine ef_table (pc := 20) d10_20 (off := 52) (by decide) (t := 72) rfl ?_
      refine ef_aload_n (pc := 72) d10_72 rfl ?_
      refine eg_getR (pc := 73) d10_73 lf_0_40 (by assumption) (by decide) (by assumption) ?_
      refine eg_getR (pc := 76) d10_76 lf_0_125 (by assumption) (by decide) (by assumption) ?_
      refine ef_iload_n (pc := 79) d10_79 rfl ?_
      refine eg_iald (pc := 80) d10_80 (i := n) (by assumption) (rfl) (by omega) ?_
      rw [v3]
      refine ef_iret (pc := 81) d10_81 rfl ?_
      exact Or.inr ⟨n, w, rfl, hw, by decide, rfl, rfl⟩
    by_cases hw3 : i = 3
    · subst hw3
      refine ef_table (pc := 20) d10_20 (off := 62) (by decide) (t := 82) rfl ?_
      refine ef_aload_n (pc := 82) d10_82 rfl ?_
      refine eg_getI (pc := 83) d10_83 lf_0_83 (by assumption) (by decide) ?_
      rw [hst]
      refine ef_aload_n (pc := 86) d10_86 rfl ?_
      refine eg_getR (pc := 87) d10_87 lf_0_40 (by assumption) (by decide) (by assumption) ?_
      refine eg_getR (pc := 90) d10_90 lf_0_128 (by assumption) (by decide) (by assumption) ?_
      refine ef_iload_n (pc := 93) d10_93 rfl ?_
      refine eg_iald (pc := 94) d10_94 (i := n) (by assumption) (rfl) (by omega) ?_
      refine ef_isub (pc := 95) d10_95 rfl (hin n hn) ?_
      refine ef_iret (pc := 96) d10_96 rfl ?_
      exact Or.inr ⟨n, w, rfl, hw, by decide, rfl, rfl⟩
    refine ef_table (pc := 20) d10_20 (off := 77) (by rw [tsw, if_pos (by omega)]) (t := 97) rfl ?_
    refine Ef.thr (pc := 97) (x := 3) (m := 6) d10_97 (show tLc 0 115 = none by decide +kernel) (show tLx 0 115 = some (3, 6) by decide +kernel) rfl (by decide +kernel) (by decide) ?_
    exact Or.inl ⟨fun hh => by omega, rfl, rfl⟩
  · have hno : ¬ (0 ≤ k ∧ k < (R.length : Int)) := by intro hh; rw [if_pos hh] at h8; exact absurd h8 (by decide)
    refine Ef.thr (pc := 11) (x := 3) (m := 6) d10_11 (show tLc 0 115 = none by decide +kernel) (show tLx 0 115 = some (3, 6) by decide +kernel) rfl (by decide +kernel) (by decide) ?_
    exact Or.inl ⟨fun hh => hno hh.1, rfl, rfl⟩
theorem c22 {P : Pg} {d : Nat} {u : Mm} {g : Nat → Nat → Int} {h s t r q : Nat} {X : XR} {i : Int} (hB : BxA u h s t r q) (hX : CvX g (h + 66) X) : Ec P (d + 1) 22 [vR h, vI i] (sI u g) (fun x u' => (¬ (0 ≤ i ∧ i ≤ 4) ∧ u' = sI (mHole u 6) g ∧ x = .inr (3, mT u)) ∨ ((0 ≤ i ∧ i ≤ 4) ∧ u' = sI u g ∧ x = .inl (some (vI (if i = 0 then (X.1 : Int) else if i = 1 then X.2.1 else if i = 2 then X.2.2.1 else if i = 3 then X.2.2.2.1 else X.2.2.2.2))))) := by
  obtain ⟨a0, a1, a2, a3, a4, a5, a6, a7, a8, a9, a10, a11, a12, a13, a14, a15, a16, a17, a18, a19, a20, a21⟩ := id hB
  obtain ⟨y0, y1, y2, y3, y4, y5, y6, y7⟩ := id a19
  obtain ⟨x1, x2, x3, x4, x5, x6, x7⟩ := hX
  change Ef P _ 22 0 [some (vR h), some (vI i)] [] _ _
  refine ef_iload_n (pc := 0) d22_0 rfl ?_
  by_cases hw0 : i = 0
  · subst hw0
    refine ef_table (pc := 1) d22_1 (off := 35) (by decide) (t := 36) rfl ?_
    refine ef_aload_n (pc := 36) d22_36 rfl ?_
    refine eg_getR (pc := 37) d22_37 lf_0_56 (by assumption) (by decide) (by assumption) ?_
    refine eg_getI (pc := 40) d22_40 lf_0_192 (by assumption) (by decide) ?_
    rw [x1]
    refine ef_iret (pc := 43) d22_43 rfl ?_
    exact Or.inr ⟨by decide, rfl, rfl⟩
  by_cases hw1 : i = 1
  · subst hw1
    refine ef_table (pc := 1) d22_1 (off := 43) (by decide) (t := 44) rfl ?_
    refine ef_aload_n (pc := 44) d22_44 rfl ?_
    refine eg_getR (pc := 45) d22_45 lf_0_56 (by assumption) (by decide) (by assumption) ?_
    refine eg_getZ (pc := 48) d22_48 lf_0_193 (by assumption) (by decide) ?_
    rw [x2]
    refine ef_if_eq (pc := 51) d22_51 (t := 58) rfl (fun h51 => ?_) (fun h51 => ?_)
    · have hz : X.2.1 = 0 := h51
      refine ef_iconst (pc := 58) d22_58 (by decide) ?_
      refine ef_iret (pc := 59) d22_59 rfl ?_
      refine Or.inr ⟨by decide, rfl, ?_⟩
      rw [if_neg (by decide), if_pos rfl, hz]
    · have hz : X.2.1 = 1 := by rcases x7 with h | h; exact absurd h h51; exact h
      refine ef_iconst (pc := 54) d22_54 (by decide) ?_
      refine ef_goto (pc := 55) d22_55 (t := 59) rfl ?_
      refine ef_iret (pc := 59) d22_59 rfl ?_
      refine Or.inr ⟨by decide, rfl, ?_⟩
      rw [if_neg (by decide), if_pos rfl, hz]
  by_cases hw2 : i = 2
  · subst hw2
    refine ef_table (pc := 1) d22_1 (off := 59) (by decide) (t := 60) rfl ?_
    refine ef_aload_n (pc := 60) d22_60 rfl ?_
    refine eg_getR (pc := 61) d22_61 lf_0_56 (by assumption) (by decide) (by assumption) ?_
    refine eg_getI (pc := 64) d22_64 lf_0_197 (by assumption) (by decide) ?_
    rw [x3]
    refine ef_iret (pc := 67) d22_67 rfl ?_
    exact Or.inr ⟨by decide, rfl, rfl⟩
  by_cases hw3 : i = 3
  · subst hw3
    refine ef_table (pc := 1) d22_1 (off := 67) (by decide) (t := 68) rfl ?_
    refine ef_aload_n (pc := 68) d22_68 rfl ?_
    refine eg_getR (pc := 69) d22_69 lf_0_56 (by assumption) (by decide) (by assumption) ?_
    refine eg_getI (pc := 72) d22_72 lf_0_200 (by assumption) (by decide) ?_
    rw [x4]
    refine ef_iret (pc := 75) d22_75 rfl ?_
    exact Or.inr ⟨by decide, rfl, rfl⟩
  by_cases hw4 : i = 4
  · subst hw4
    refine ef_table (pc := 1) d22_1 (off := 75) (by decide) (t := 76) rfl ?_
    refine ef_aload_n (pc := 76) d22_76 rfl ?_
    refine eg_getR (pc := 77) d22_77 lf_0_56 (by assumption) (by decide) (by assumption) ?_
    refine ef_callV (pc := 80) d22_80 lm_0_203 (as := []) rfl rfl (by assumption) rfl rfl (by decide) (Nat.le_of_ble_eq_true rfl) rfl (Nat.le_of_ble_eq_true rfl) ?_
    refine Ec.imp (c28 a19 x1 x5) ?_
    rintro r80 u80 ⟨rfl, rfl⟩
    refine ef_iret (pc := 83) d22_83 rfl ?_
    refine Or.inr ⟨by decide, rfl, ?_⟩
    rw [← x6]
    rfl
  refine ef_table (pc := 1) d22_1 (off := 83) (by rw [tsw, if_pos (by omega)]) (t := 84) rfl ?_
  refine Ef.thr (pc := 84) (x := 3) (m := 6) d22_84 (show tLc 0 115 = none by decide +kernel) (show tLx 0 115 = some (3, 6) by decide +kernel) rfl (by decide +kernel) (by decide) ?_
  exact Or.inl ⟨by omega, rfl, rfl⟩
def byF (e : Int64) (i : Nat) : Int := bI (fun x y => x &&& y) ((e >>> ((Int32.ofInt (8 * (i : Int))).toInt64 &&& 63)).toInt32.toInt) 255
def okB (e : Int64) (n : Nat) : Bool := (List.range n).all (fun k => decide (32 ≤ byF e k ∧ byF e k ≤ 126))
def byL (e : Int64) (n : Nat) : List Int := (List.range n).map (byF e)
theorem c5 {P : Pg} {d : Nat} {u : Mm} {e : Int64} {i : Nat} (hi : i < 1000) : Ec P d 5 [vL e, vI (i : Int)] u (fun x u' => u' = u ∧ x = .inl (some (vI (byF e i)))) := by
  change Ef P _ 5 0 [some (vL e), none, some (vI (i : Int))] [] _ _
  refine ef_lload_n (pc := 0) d5_0 rfl ?_
  refine ef_bipush (pc := 1) d5_1 (by decide) ?_
  refine ef_iload_n (pc := 3) d5_3 rfl ?_
  refine ef_imul (pc := 4) d5_4 rfl ⟨by omega, by omega⟩ ?_
  refine ef_lshr (pc := 5) d5_5 ?_
  refine ef_l2i (pc := 6) d5_6 ?_
  refine ef_sipush (pc := 7) d5_7 (by decide) ?_
  refine ef_iand (pc := 10) d5_10 rfl ?_
  refine ef_iret (pc := 11) d5_11 rfl ?_
  exact ⟨rfl, rfl⟩
theorem okB_y {e : Int64} {n : Nat} (h : okB e n = true) {k : Nat} (hk : k < n) : 32 ≤ byF e k ∧ byF e k ≤ 126 := of_decide_eq_true (List.all_eq_true.mp h k (List.mem_range.mpr hk))
theorem okB_n {e : Int64} {n k : Nat} (hk : k < n) (h : ¬ (32 ≤ byF e k ∧ byF e k ≤ 126)) : okB e n = false := by
  cases hq : okB e n
  · rfl
  · exact absurd (okB_y hq hk) h
theorem c4 {P : Pg} {d : Nat} {u : Mm} {e : Int64} {n : Nat} (hn : n ≤ 8) : Ec P (d + 1) 4 [vL e, vI (n : Int)] u (fun x u' => u' = u ∧ x = .inl (some (vI (b01 (okB e n))))) := by
  have loop : ∀ i, i ≤ n → (∀ k, k < i → 32 ≤ byF e k ∧ byF e k ≤ 126) → ∀ v4, Ef P (d + 1) 4 2 [some (vL e), none, some (vI (n : Int)), some (vI (i : Int)), v4] [] u (fun x u' => u' = u ∧ x = .inl (some (vI (b01 (okB e n))))) := by
    refine nat_loop n ?_
    intro i hi ih hb v4
    refine ef_iload_n (pc := 2) d4_2 rfl ?_
    refine ef_iload_n (pc := 3) d4_3 rfl ?_
    refine ef_icmp_ge (pc := 4) d4_4 (t := 36) rfl (fun h4 => ?_) (fun h4 => ?_)
    · rw [show okB e n = true from List.all_eq_true.mpr (fun k hk => decide_eq_true (hb k (by have := List.mem_range.mp hk; omega)))]
      refine ef_iconst (pc := 36) d4_36 (by decide) ?_
      refine ef_zret (pc := 37) d4_37 rfl (by omega) ?_
      exact ⟨rfl, rfl⟩
    · have hlt : i < n := by omega
      refine ef_lload_n (pc := 7) d4_7 rfl ?_
      refine ef_iload_n (pc := 8) d4_8 rfl ?_
      refine ef_callS (pc := 9) d4_9 lm_0_78 (as := [_, _]) rfl rfl rfl (Nat.le_of_ble_eq_true rfl) rfl (Nat.le_of_ble_eq_true rfl) ?_
      refine Ec.imp (c5 (by omega)) ?_
      rintro r9 u9 ⟨rfl, rfl⟩
      refine ef_istore (pc := 12) d4_12 (ls' := [_, _, _, _, _]) rfl ?_
      refine ef_iload (pc := 14) d4_14 rfl ?_
      refine ef_bipush (pc := 16) d4_16 (by decide) ?_
      refine ef_icmp_lt (pc := 18) d4_18 (t := 28) rfl (fun h18 => ?_) (fun h18 => ?_)
      · rw [okB_n hlt (by omega)]
        refine ef_iconst (pc := 28) d4_28 (by decide) ?_
        refine ef_zret (pc := 29) d4_29 rfl (by omega) ?_
        exact ⟨rfl, rfl⟩
      · refine ef_iload (pc := 21) d4_21 rfl ?_
        refine ef_bipush (pc := 23) d4_23 (by decide) ?_
        refine ef_icmp_le (pc := 25) d4_25 (t := 30) rfl (fun h25 => ?_) (fun h25 => ?_)
        · refine ef_iinc (pc := 30) d4_30 (ls' := [_, _, _, _, _]) (z := ((i + 1 : Nat) : Int)) rfl (by decide) (by omega) ⟨by omega, by omega⟩ rfl ?_
          refine ef_goto (pc := 33) d4_33 (t := 2) rfl ?_
          refine ih hlt (fun k hk => ?_) _
          by_cases hki : k = i
          · subst hki; exact ⟨by omega, by omega⟩
          · exact hb k (by omega)
        · rw [okB_n hlt (by omega)]
          refine ef_iconst (pc := 28) d4_28 (by decide) ?_
          refine ef_zret (pc := 29) d4_29 rfl (by omega) ?_
          exact ⟨rfl, rfl⟩
  change Ef P _ 4 0 [some (vL e), none, some (vI (n : Int)), none, none] [] _ _
  refine ef_iconst (pc := 0) d4_0 (by decide) ?_
  refine ef_istore_n (pc := 1) d4_1 (ls' := [_, _, _, _, _]) rfl ?_
  exact loop 0 (Nat.zero_le _) (fun k hk => absurd hk (by omega)) _
theorem c3 {P : Pg} {d : Nat} {u : Mm} {g : Nat → Nat → Int} {h s t r q : Nat} {W : List Int} {e : Int64} {n : Int} (hB : BxA u h s t r q) (hW : CvW g h W) : Ec P (d + 2) 3 [vR h, vL e, vI n] (sI u g) (fun x u' => (¬ ((1 ≤ n ∧ n ≤ 8) ∧ okB e n.toNat = true) ∧ u' = sI (mHole u 6) g ∧ x = .inr (0, mT u)) ∨ (((1 ≤ n ∧ n ≤ 8) ∧ okB e n.toNat = true) ∧ ((120 < (W.length : Int) + n ∧ u' = sI (mHole u 6) g ∧ x = .inr (1, mT u)) ∨ ((W.length : Int) + n ≤ 120 ∧ ∃ g', u' = sI u g' ∧ x = .inl (some (vI ((W.length : Int) + n))) ∧ Off h (h + 2) g g' ∧ CvW g' h (W ++ byL e n.toNat) ∧ ∀ k, k ≠ 1 → g' h k = g h k)))) := by
  obtain ⟨a0, a1, a2, a3, a4, a5, a6, a7, a8, a9, a10, a11, a12, a13, a14, a15, a16, a17, a18, a19, a20, a21⟩ := id hB
  obtain ⟨w1, w2, w3, w4⟩ := id hW
  have main : ∀ m : Nat, n = (m : Int) → 1 ≤ m → m ≤ 8 → okB e m = true → W.length + m ≤ 120 → ∀ i, i ≤ m → ∀ g1, Off (h + 1) (h + 2) g g1 → Row (g1 (h + 1)) (W ++ byL e i) → Ef P (d + 2) 3 49 [some (vR h), some (vL e), none, some (vI (m : Int)), some (vI (i : Int))] [] (sI u g1) (fun x u' => ∃ g', u' = sI u g' ∧ x = .inl (some (vI ((W.length : Int) + (m : Int)))) ∧ Off h (h + 2) g g' ∧ CvW g' h (W ++ byL e m) ∧ ∀ k, k ≠ 1 → g' h k = g h k) := by
    intro m hm h1 h8 hok hlen
    refine nat_loop m ?_
    intro i hi ih g1 o1 r1
    have q1 : g1 h 1 = (W.length : Int) := by rw [o1 h (by omega)]; exact w1
    have bl : ∀ j, (byL e j).length = j := fun j => by unfold byL; rw [List.length_map, List.length_range]
    refine ef_iload (pc := 49) d3_49 rfl ?_
    refine ef_iload_n (pc := 51) d3_51 rfl ?_
    refine ef_icmp_ge (pc := 52) d3_52 (t := 80) rfl (fun h52 => ?_) (fun h52 => ?_)
    · have him : i = m := by omega
      subst him
      refine ef_aload_n (pc := 80) d3_80 rfl ?_
      refine ef_dup (pc := 81) d3_81 rfl ?_
      refine eg_getI (pc := 82) d3_82 lf_0_71 (by assumption) (by decide) ?_
      rw [q1]
      refine ef_iload_n (pc := 85) d3_85 rfl ?_
      refine ef_iadd (pc := 86) d3_86 rfl ⟨by omega, by omega⟩ ?_
      refine eg_putI (pc := 87) d3_87 pf_3_71 (by assumption) (by decide) ?_
      refine ef_aload_n (pc := 90) d3_90 rfl ?_
      refine eg_getI (pc := 91) d3_91 lf_0_71 (by assumption) (by decide) ?_
      rw [u2_at]
      refine ef_iret (pc := 94) d3_94 rfl ?_
      refine ⟨_, rfl, rfl, (o1.wide (by omega) (by omega)).up (by omega) (by omega), ⟨?_, ?_, ?_, ?_⟩, ?_⟩
      · rw [u2_at, List.length_append, bl]; omega
      · rw [u2_ne (by omega)]; exact r1
      · rw [List.length_append, bl]; omega
      · intro c hc
        rcases List.mem_append.mp hc with hc | hc
        · exact w4 c hc
        · obtain ⟨k, hk, rfl⟩ := List.mem_map.mp hc
          exact okB_y hok (List.mem_range.mp hk)
      · intro k hk; rw [u2_ni hk, o1 h (by omega)]
    · have hlt : i < m := by omega
      have hby := okB_y hok hlt
      refine ef_aload_n (pc := 55) d3_55 rfl ?_
      refine eg_getR (pc := 56) d3_56 lf_0_9 (by assumption) (by decide) (by assumption) ?_
      refine ef_aload_n (pc := 59) d3_59 rfl ?_
      refine eg_getI (pc := 60) d3_60 lf_0_71 (by assumption) (by decide) ?_
      rw [q1]
      refine ef_iload (pc := 63) d3_63 rfl ?_
      refine ef_iadd (pc := 65) d3_65 (z := ((W.length + i : Nat) : Int)) (by omega) ⟨by omega, by omega⟩ ?_
      refine ef_lload_n (pc := 66) d3_66 rfl ?_
      refine ef_iload (pc := 67) d3_67 rfl ?_
      refine ef_callS (pc := 69) d3_69 lm_0_78 (as := [_, _]) rfl rfl rfl (Nat.le_of_ble_eq_true rfl) rfl (Nat.le_of_ble_eq_true rfl) ?_
      refine Ec.imp (c5 (by omega)) ?_
      rintro r69 u69 ⟨rfl, rfl⟩
      refine ef_i2c (pc := 72) d3_72 rfl ?_
      refine eg_cast (pc := 73) d3_73 (i := W.length + i) (w := byF e i) (by assumption) (rfl) (by omega) (by omega) ?_
      refine ef_iinc (pc := 74) d3_74 (ls' := [_, _, _, _, _]) (z := ((i + 1 : Nat) : Int)) rfl (by decide) (by omega) ⟨by omega, by omega⟩ rfl ?_
      refine ef_goto (pc := 77) d3_77 (t := 49) rfl ?_
      refine ih hlt _ (o1.up (by omega) (by omega)) ?_
      rw [u2_eq, show byL e (i + 1) = byL e i ++ [byF e i] by unfold byL; rw [List.range_succ, List.map_append]; rfl, ← List.append_assoc]
      have := Row_app (c := byF e i) r1
      rw [List.length_append, bl] at this
      exact this
  change Ef P _ 3 0 [some (vR h), some (vL e), none, some (vI n), none] [] _ _
  refine ef_iload_n (pc := 0) d3_0 rfl ?_
  refine ef_iconst (pc := 1) d3_1 (by decide) ?_
  refine ef_icmp_lt (pc := 2) d3_2 (t := 19) rfl (fun h2 => ?_) (fun h2 => ?_)
  · have hno : ¬ ((1 ≤ n ∧ n ≤ 8) ∧ okB e n.toNat = true) := fun hh => by omega
    refine Ef.thr (pc := 19) (x := 0) (m := 6) d3_19 (show tLc 0 68 = none by decide +kernel) (show tLx 0 68 = some (0, 6) by decide +kernel) rfl (by decide +kernel) (by decide) ?_
    exact Or.inl ⟨hno, rfl, rfl⟩
  · refine ef_iload_n (pc := 5) d3_5 rfl ?_
    refine ef_bipush (pc := 6) d3_6 (by decide) ?_
    refine ef_icmp_gt (pc := 8) d3_8 (t := 19) rfl (fun h8 => ?_) (fun h8 => ?_)
    · have hno : ¬ ((1 ≤ n ∧ n ≤ 8) ∧ okB e n.toNat = true) := fun hh => by omega
      refine Ef.thr (pc := 19) (x := 0) (m := 6) d3_19 (show tLc 0 68 = none by decide +kernel) (show tLx 0 68 = some (0, 6) by decide +kernel) rfl (by decide +kernel) (by decide) ?_
      exact Or.inl ⟨hno, rfl, rfl⟩
    · obtain ⟨m, rfl⟩ : ∃ m : Nat, n = (m : Int) := ⟨n.toNat, by omega⟩
      rw [Int.toNat_natCast]
      refine ef_lload_n (pc := 11) d3_11 rfl ?_
      refine ef_iload_n (pc := 12) d3_12 rfl ?_
      refine ef_callS (pc := 13) d3_13 lm_0_64 (as := [_, _]) rfl rfl rfl (Nat.le_of_ble_eq_true rfl) rfl (Nat.le_of_ble_eq_true rfl) ?_
      refine Ec.imp (c4 (by omega)) ?_
      rintro r13 u13 ⟨rfl, rfl⟩
      refine ef_if_ne (pc := 16) d3_16 (t := 27) rfl (fun h16 => ?_) (fun h16 => ?_)
      · have hok := b01_f h16
        have hy : (1 ≤ (m : Int) ∧ (m : Int) ≤ 8) ∧ okB e m = true := ⟨⟨by omega, by omega⟩, hok⟩
        refine ef_aload_n (pc := 27) d3_27 rfl ?_
        refine eg_getI (pc := 28) d3_28 lf_0_71 (by assumption) (by decide) ?_
        try simp (disch := omega) only [u2_ne, u2_at, u2_ni, ur_ne, ur_eq]
        rw [w1]
        refine ef_iload_n (pc := 31) d3_31 rfl ?_
        refine ef_iadd (pc := 32) d3_32 rfl ⟨by omega, by omega⟩ ?_
        refine ef_bipush (pc := 33) d3_33 (by decide) ?_
        refine ef_icmp_le (pc := 35) d3_35 (t := 46) rfl (fun h35 => ?_) (fun h35 => ?_)
        · refine ef_iconst (pc := 46) d3_46 (by decide) ?_
          refine ef_istore (pc := 47) d3_47 (ls' := [_, _, _, _, _]) rfl ?_
          refine Ef.imp (main m rfl (by omega) (by omega) hok (by omega) 0 (Nat.zero_le _) g Off.refl (by show Row (g (h + 1)) (W ++ byL e 0); rw [show byL e 0 = [] from rfl, List.append_nil]; exact w2)) ?_
          intro x u1 hx
          exact Or.inr ⟨hy, Or.inr ⟨by omega, hx⟩⟩
        · refine Ef.thr (pc := 38) (x := 1) (m := 6) d3_38 (show tLc 0 75 = none by decide +kernel) (show tLx 0 75 = some (1, 6) by decide +kernel) rfl (by decide +kernel) (by decide) ?_
          exact Or.inr ⟨hy, Or.inl ⟨by omega, rfl, rfl⟩⟩
      · have hok := b01_t h16
        have hno : ¬ ((1 ≤ (m : Int) ∧ (m : Int) ≤ 8) ∧ okB e m = true) := fun hh => by rw [hok] at hh; cases hh.2
        refine Ef.thr (pc := 19) (x := 0) (m := 6) d3_19 (show tLc 0 68 = none by decide +kernel) (show tLx 0 68 = some (0, 6) by decide +kernel) rfl (by decide +kernel) (by decide) ?_
        exact Or.inl ⟨hno, rfl, rfl⟩
