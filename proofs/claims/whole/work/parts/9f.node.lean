/-! The model: a node added. Written by wip/whole/gen/c9f.py. -/
def NdQ (g g' : Nat → Nat → Int) (m n o : Nat) (C : List Nat) (kk r : Int) : Prop := g' m 4 = ((n + 1 : Nat) : Int) ∧ (∀ f, f ≠ 4 → g' m f = g m f) ∧ (∀ a, a ≠ m → a ≠ m + 3 → a ≠ m + 4 → a ≠ m + 6 → a ≠ m + 7 → a ≠ m + 8 → g' a = g a) ∧ g' (m + 3) n = kk ∧ (∀ i, i ≠ n → g' (m + 3) i = g (m + 3) i) ∧ g' (m + 4) n = r ∧ (∀ i, i ≠ n → g' (m + 4) i = g (m + 4) i) ∧ g' (m + 6) n = -1 ∧ (∀ i, i ≠ n → i ≠ o → g' (m + 6) i = g (m + 6) i) ∧ (∀ i, i ≠ o → g' (m + 7) i = g (m + 7) i) ∧ (∀ i, i ≠ n → i ∉ C → g' (m + 8) i = g (m + 8) i) ∧ OW g' m o (C ++ [n])
theorem c102 {P : Pg} {d : Nat} {u : Mm} {g : Nat → Nat → Int} {m : Nat} {k ow sz : Nat} {kk r : Int} {C : List Nat} (hM : MdA u m) (h4 : g m 4 = (sz : Int)) (hsz : sz ≤ 50) (h14 : g m 14 = ((k + 1 : Nat) : Int)) (hk : k < 20) (ho : g (m + 10) k = (ow : Int)) (hw : OW g m ow C) (ho2 : ow < sz ∨ ow = 50) (hC : ∀ c, c ∈ C → c < sz) (h1 : g m 1 = 0) (hr : r = 0 ∨ r = 1) : Ec P (d + 1) 102 [vR m, vI kk, vI r] (sI u g) (fun x u' => (sz = 50 ∧ x = .inl (some (vI 0)) ∧ u' = sI u (u2 g m 1 2)) ∨ (sz < 50 ∧ x = .inl (some (vI (sz : Int))) ∧ ∃ g', u' = sI u g' ∧ NdQ g g' m sz ow C kk r)) := by
  have s0 := hM.1
  have f8 : mF u m 8 = some (m + 3) := (hM.2 2 (by decide)).1
  have s8 : mS u (m + 3) = some (0, 51) := (hM.2 2 (by decide)).2
  have f9 : mF u m 9 = some (m + 4) := (hM.2 3 (by decide)).1
  have s9 : mS u (m + 4) = some (2, 51) := (hM.2 3 (by decide)).2
  have f11 : mF u m 11 = some (m + 6) := (hM.2 5 (by decide)).1
  have s11 : mS u (m + 6) = some (0, 51) := (hM.2 5 (by decide)).2
  have f12 : mF u m 12 = some (m + 7) := (hM.2 6 (by decide)).1
  have s12 : mS u (m + 7) = some (0, 51) := (hM.2 6 (by decide)).2
  have f13 : mF u m 13 = some (m + 8) := (hM.2 7 (by decide)).1
  have s13 : mS u (m + 8) = some (0, 51) := (hM.2 7 (by decide)).2
  have f16 : mF u m 16 = some (m + 10) := (hM.2 9 (by decide)).1
  have s16 : mS u (m + 10) = some (0, 20) := (hM.2 9 (by decide)).2
  obtain ⟨w1, w2, w3, w4⟩ := id hw
  have ho51 : ow < 51 := by omega
  change Ef P _ 102 0 [some (vR m), some (vI kk), some (vI r), none, none] [] _ _
  refine ef_aload_n (pc := 0) d102_0 rfl ?_
  refine eg_getI (pc := 1) d102_1 lf_8_167 (by assumption) (by decide) ?_
  rw [h4]
  refine ef_bipush (pc := 4) d102_4 (by decide) ?_
  refine ef_icmp_ne (pc := 6) d102_6 (t := 16) rfl (fun h6 => ?_) (fun h6 => ?_)
  · refine ef_aload_n (pc := 16) d102_16 rfl ?_
    refine eg_getI (pc := 17) d102_17 lf_8_167 (by assumption) (by decide) ?_
    rw [h4]
    refine ef_istore_n (pc := 20) d102_20 (ls' := [_, _, _, _, _]) rfl ?_
    refine ef_aload_n (pc := 21) d102_21 rfl ?_
    refine ef_dup (pc := 22) d102_22 rfl ?_
    refine eg_getI (pc := 23) d102_23 lf_8_167 (by assumption) (by decide) ?_
    rw [h4]
    refine ef_iconst (pc := 26) d102_26 (by decide) ?_
    refine ef_iadd (pc := 27) d102_27 (z := ((sz + 1 : Nat) : Int)) (by omega) ⟨by omega, by omega⟩ ?_
    refine eg_putI (pc := 28) d102_28 pf_102_167 (by assumption) (by decide) ?_
    refine ef_aload_n (pc := 31) d102_31 rfl ?_
    refine eg_getR (pc := 32) d102_32 lf_8_16 (by assumption) (by decide) (by assumption) ?_
    refine ef_iload_n (pc := 35) d102_35 rfl ?_
    refine ef_iload_n (pc := 36) d102_36 rfl ?_
    refine eg_iast (pc := 37) d102_37 (i := sz) (by assumption) (rfl) (by omega) rfl ?_
    refine ef_aload_n (pc := 38) d102_38 rfl ?_
    refine eg_getR (pc := 39) d102_39 lf_8_19 (by assumption) (by decide) (by assumption) ?_
    refine ef_iload_n (pc := 42) d102_42 rfl ?_
    refine ef_iload_n (pc := 43) d102_43 rfl ?_
    refine eg_bast (pc := 44) d102_44 (i := sz) (w := r) (by assumption) (rfl) (by omega) (by omega) ?_
    refine ef_aload_n (pc := 45) d102_45 rfl ?_
    refine eg_getR (pc := 46) d102_46 lf_8_26 (by assumption) (by decide) (by assumption) ?_
    refine ef_iload_n (pc := 49) d102_49 rfl ?_
    refine ef_iconst (pc := 50) d102_50 (by decide) ?_
    refine eg_iast (pc := 51) d102_51 (i := sz) (by assumption) (rfl) (by omega) rfl ?_
    refine ef_aload_n (pc := 52) d102_52 rfl ?_
    refine eg_getR (pc := 53) d102_53 lf_8_32 (by assumption) (by decide) (by assumption) ?_
    refine ef_iload_n (pc := 56) d102_56 rfl ?_
    refine ef_iconst (pc := 57) d102_57 (by decide) ?_
    refine eg_iast (pc := 58) d102_58 (i := sz) (by assumption) (rfl) (by omega) rfl ?_
    refine ef_aload_n (pc := 59) d102_59 rfl ?_
    refine eg_getR (pc := 60) d102_60 lf_8_38 (by assumption) (by decide) (by assumption) ?_
    refine ef_aload_n (pc := 63) d102_63 rfl ?_
    refine eg_getI (pc := 64) d102_64 lf_8_174 (by assumption) (by decide) ?_
    try simp (disch := omega) only [u2_ne, u2_at, u2_ni, ur_ne, ur_eq]
    rw [h14]
    refine ef_iconst (pc := 67) d102_67 (by decide) ?_
    refine ef_isub (pc := 68) d102_68 (z := (k : Int)) (by omega) ⟨by omega, by omega⟩ ?_
    refine eg_iald (pc := 69) d102_69 (i := k) (by assumption) (rfl) (by omega) ?_
    try simp (disch := omega) only [u2_ne, u2_at, u2_ni, ur_ne, ur_eq]
    rw [ho]
    refine ef_istore (pc := 70) d102_70 (ls' := [_, _, _, _, _]) rfl ?_
    refine ef_aload_n (pc := 72) d102_72 rfl ?_
    refine eg_getR (pc := 73) d102_73 lf_8_26 (by assumption) (by decide) (by assumption) ?_
    refine ef_iload (pc := 76) d102_76 rfl ?_
    refine eg_iald (pc := 78) d102_78 (i := ow) (by assumption) (rfl) (by omega) ?_
    try simp (disch := omega) only [u2_ne, u2_at, u2_ni, ur_ne, ur_eq]
    refine ef_if_ge (pc := 79) d102_79 (t := 93) rfl (fun h79 => ?_) (fun h79 => ?_)
    · rcases List.eq_nil_or_concat C with hC0 | ⟨D, l, hC0⟩
      · rw [hC0] at w1; have : g (m + 6) ow = -1 := w1; omega
      rw [List.concat_eq_append] at hC0
      subst hC0
      have hlo := w2 D l rfl
      have hls := hC l (by simp)
      refine ef_aload_n (pc := 93) d102_93 rfl ?_
      refine eg_getR (pc := 94) d102_94 lf_8_32 (by assumption) (by decide) (by assumption) ?_
      refine ef_aload_n (pc := 97) d102_97 rfl ?_
      refine eg_getR (pc := 98) d102_98 lf_8_29 (by assumption) (by decide) (by assumption) ?_
      refine ef_iload (pc := 101) d102_101 rfl ?_
      refine eg_iald (pc := 103) d102_103 (i := ow) (by assumption) (rfl) (by omega) ?_
      try simp (disch := omega) only [u2_ne, u2_at, u2_ni, ur_ne, ur_eq]
      rw [hlo]
      refine ef_iload_n (pc := 104) d102_104 rfl ?_
      refine eg_iast (pc := 105) d102_105 (i := l) (by assumption) (rfl) (by omega) rfl ?_
      refine ef_aload_n (pc := 106) d102_106 rfl ?_
      refine eg_getR (pc := 107) d102_107 lf_8_29 (by assumption) (by decide) (by assumption) ?_
      refine ef_iload (pc := 110) d102_110 rfl ?_
      refine ef_iload_n (pc := 112) d102_112 rfl ?_
      refine eg_iast (pc := 113) d102_113 (i := ow) (by assumption) (rfl) (by omega) rfl ?_
      refine ef_iload_n (pc := 114) d102_114 rfl ?_
      refine ef_iret (pc := 115) d102_115 rfl ?_
      refine Or.inr ⟨by omega, rfl, _, rfl, ?_⟩
      unfold NdQ OW
      have hpl : ∀ c, c ∈ D → c ≠ l := fun c hc => by have := (List.pairwise_append.mp w4).2.2 c hc l (List.mem_singleton.mpr rfl); omega
      have hpn : ∀ c, c ∈ D → c ≠ sz := fun c hc => by have := hC c (List.mem_append_left _ hc); omega
      refine ⟨?_, fun f hf => ?_, fun a a0 a1 a2 a3 a4 a5 => ?_, ?_, fun i hi => ?_, ?_, fun i hi => ?_, ?_, fun i hi hj => ?_, fun i hi => ?_, fun i hi hj => ?_, ?_, ?_, ?_, ?_⟩
      · simp (disch := omega) only [u2_ne, u2_ni, u2_at, u2_eq]
      · simp (disch := omega) only [u2_ne, u2_ni, u2_at, u2_eq]
      · simp (disch := omega) only [u2_ne, u2_ni, u2_at, u2_eq]
      · simp (disch := omega) only [u2_ne, u2_ni, u2_at, u2_eq]
      · simp (disch := omega) only [u2_ne, u2_ni, u2_at, u2_eq]
      · simp (disch := omega) only [u2_ne, u2_ni, u2_at, u2_eq]
      · simp (disch := omega) only [u2_ne, u2_ni, u2_at, u2_eq]
      · simp (disch := omega) only [u2_ne, u2_ni, u2_at, u2_eq]
      · simp (disch := omega) only [u2_ne, u2_ni, u2_at, u2_eq]
      · simp (disch := omega) only [u2_ne, u2_ni, u2_at, u2_eq]
      · have hil : i ≠ l := fun h => hj (by rw [h]; simp)
        simp (disch := omega) only [u2_ne, u2_ni, u2_at, u2_eq]
      · simp (disch := omega) only [u2_ne, u2_ni, u2_at, u2_eq]
        rw [w1]
        exact (hdK_app (by simp)).symm
      · intro D2 l2 hD
        simp (disch := omega) only [u2_ne, u2_ni, u2_at, u2_eq]
        have := congrArg List.getLast? hD
        rw [List.getLast?_append, List.getLast?_append] at this
        simp at this
        rw [this]
      · refine lnk_snoc w3 (fun c hc => ?_) ?_ ?_
        · have h1 := hpl c hc
          have h2 := hpn c hc
          simp (disch := omega) only [u2_ne, u2_ni, u2_at, u2_eq]
        · simp (disch := omega) only [u2_ne, u2_ni, u2_at, u2_eq]
        · simp (disch := omega) only [u2_ne, u2_ni, u2_at, u2_eq]
      · exact List.pairwise_append.mpr ⟨w4, List.pairwise_singleton _ _, fun a ha b hb => by rw [List.mem_singleton] at hb; rw [hb]; exact hC a ha⟩
    · refine ef_aload_n (pc := 82) d102_82 rfl ?_
      refine eg_getR (pc := 83) d102_83 lf_8_26 (by assumption) (by decide) (by assumption) ?_
      refine ef_iload (pc := 86) d102_86 rfl ?_
      refine ef_iload_n (pc := 88) d102_88 rfl ?_
      refine eg_iast (pc := 89) d102_89 (i := ow) (by assumption) (rfl) (by omega) rfl ?_
      refine ef_goto (pc := 90) d102_90 (t := 106) rfl ?_
      refine ef_aload_n (pc := 106) d102_106 rfl ?_
      refine eg_getR (pc := 107) d102_107 lf_8_29 (by assumption) (by decide) (by assumption) ?_
      refine ef_iload (pc := 110) d102_110 rfl ?_
      refine ef_iload_n (pc := 112) d102_112 rfl ?_
      refine eg_iast (pc := 113) d102_113 (i := ow) (by assumption) (rfl) (by omega) rfl ?_
      refine ef_iload_n (pc := 114) d102_114 rfl ?_
      have hCn : C = [] := by
        cases hC2 : C with
        | nil => rfl
        | cons c D => rw [hC2] at w1; have : g (m + 6) ow = (c : Int) := w1; omega
      subst hCn
      refine ef_iret (pc := 115) d102_115 rfl ?_
      refine Or.inr ⟨by omega, rfl, _, rfl, ?_⟩
      unfold NdQ OW
      refine ⟨?_, fun f hf => ?_, fun a a0 a1 a2 a3 a4 a5 => ?_, ?_, fun i hi => ?_, ?_, fun i hi => ?_, ?_, fun i hi hj => ?_, fun i hi => ?_, fun i hi hj => ?_, ?_, ?_, ?_, ?_⟩
      · simp (disch := omega) only [u2_ne, u2_ni, u2_at, u2_eq]
      · simp (disch := omega) only [u2_ne, u2_ni, u2_at, u2_eq]
      · simp (disch := omega) only [u2_ne, u2_ni, u2_at, u2_eq]
      · simp (disch := omega) only [u2_ne, u2_ni, u2_at, u2_eq]
      · simp (disch := omega) only [u2_ne, u2_ni, u2_at, u2_eq]
      · simp (disch := omega) only [u2_ne, u2_ni, u2_at, u2_eq]
      · simp (disch := omega) only [u2_ne, u2_ni, u2_at, u2_eq]
      · simp (disch := omega) only [u2_ne, u2_ni, u2_at, u2_eq]
      · simp (disch := omega) only [u2_ne, u2_ni, u2_at, u2_eq]
      · simp (disch := omega) only [u2_ne, u2_ni, u2_at, u2_eq]
      · simp (disch := omega) only [u2_ne, u2_ni, u2_at, u2_eq]
      · simp (disch := omega) only [u2_ne, u2_ni, u2_at, u2_eq]; rfl
      · intro D l hD
        have : D = [] ∧ l = sz := by
          cases D with
          | nil => exact ⟨rfl, (List.cons.inj hD).1.symm⟩
          | cons a D => have := congrArg List.length hD; simp at this
        simp (disch := omega) only [u2_ne, u2_ni, u2_at, u2_eq]
        rw [this.2]
      · refine ⟨?_, trivial⟩
        simp (disch := omega) only [u2_ne, u2_ni, u2_at, u2_eq]; rfl
      · exact List.pairwise_singleton _ _
  · have hs50 : sz = 50 := by omega
    refine ef_aload_n (pc := 9) d102_9 rfl ?_
    refine ef_iconst (pc := 10) d102_10 (by decide) ?_
    refine ef_callV (pc := 11) d102_11 lm_8_170 (as := [_]) rfl rfl (by assumption) rfl rfl (by decide) (Nat.le_of_ble_eq_true rfl) rfl (Nat.le_of_ble_eq_true rfl) ?_
    refine Ec.imp (c100 hM) ?_
    rintro r11 u11 ⟨rfl, rfl⟩
    rw [if_pos h1]
    refine ef_iconst (pc := 14) d102_14 (by decide) ?_
    refine ef_iret (pc := 15) d102_15 rfl ?_
    exact Or.inl ⟨hs50, rfl, rfl⟩
