/-! The model: texts written into the pool. Written by wip/whole/gen/c87.py. -/
/-- what was to be written: it stands in the pool, or it is too long -/
def DQ (g : Nat → Nat → Int) (m : Nat) (W : List Int) : Prop := (W.length ≤ 640 ∧ g m 30 = 0 ∧ g m 37 = (W.length : Int) ∧ Row (g (m + 27)) W) ∨ (640 < W.length ∧ g m 30 = 1 ∧ ∃ n : Nat, n ≤ 640 ∧ g m 37 = (n : Int))
theorem DQ.used {g : Nat → Nat → Int} {m : Nat} {W : List Int} (h : DQ g m W) : (g m 30 = 0 ∨ g m 30 = 1) ∧ ∃ n : Nat, n ≤ 640 ∧ g m 37 = (n : Int) := by
  rcases h with ⟨h1, h2, h3, -⟩ | ⟨-, h2, h3⟩
  · exact ⟨Or.inl h2, _, h1, h3⟩
  · exact ⟨Or.inr h2, h3⟩
theorem DQ.of {g g' : Nat → Nat → Int} {m : Nat} {W : List Int} (h : DQ g m W) (h1 : g' m 30 = g m 30) (h2 : g' m 37 = g m 37) (h3 : g' (m + 27) = g (m + 27)) : DQ g' m W := by
  unfold DQ at h ⊢; rw [h1, h2, h3]; exact h
def loF (n : Int) : Int := if n < 6 then 97 + n else 114 + n
def nmX (n l k : Int) : Int := if 5 < n ∧ (bI (fun x y => x &&& y) (bI (fun x y => x >>> (y &&& 31)) k (n - 6)) 1 = 1 ∨ rsF n l < 0) then loF n else loF (rsF n l)
theorem rsF_rg {n l : Int} (h : -50 ≤ n) : -50 ≤ rsF n l ∧ rsF n l ≤ 14 := by
  unfold rsF
  split
  · omega
  · have := and_rg (x := bI (fun x y => x >>> (y &&& 31)) l (4 * (n - 6))) (y := 15) (by decide) (by decide); omega
theorem c118 {P : Pg} {d : Nat} {u : Mm} {g : Nat → Nat → Int} {m : Nat} {W : List Int} {c : Int} (hM : MdA u m) (hW : DQ g m W) : Ec P d 118 [vR m, vI c] (sI u g) (fun x u' => ∃ g', u' = sI u g' ∧ x = .inl none ∧ DQ g' m (W ++ [c]) ∧ (∀ a, a ≠ m → a ≠ m + 27 → g' a = g a) ∧ (∀ f, f ≠ 30 → f ≠ 37 → g' m f = g m f)) := by
  have s0 := hM.1
  have f40 : mF u m 40 = some (m + 27) := (hM.2 26 (by decide)).1
  have s40 : mS u (m + 27) = some (0, 900) := (hM.2 26 (by decide)).2
  obtain ⟨h30, n, hn, h37⟩ := hW.used
  have fin : ∀ (z y : Int), z = 0 ∨ z = 1 → DQ (u2 (u2 (u2 (u2 g (m + 27) n c) m 37 ((n + 1 : Nat) : Int)) m 30 z) m 37 y) m (W ++ [c]) → ∃ g', sI u (u2 (u2 (u2 (u2 g (m + 27) n c) m 37 ((n + 1 : Nat) : Int)) m 30 z) m 37 y) = sI u g' ∧ (.inl none : Option Vl ⊕ (Nat × Nat)) = .inl none ∧ DQ g' m (W ++ [c]) ∧ (∀ a, a ≠ m → a ≠ m + 27 → g' a = g a) ∧ (∀ f, f ≠ 30 → f ≠ 37 → g' m f = g m f) := by
    intro z y hz hD
    exact ⟨_, rfl, rfl, hD, fun a h1 h2 => by rw [u2_ne h1, u2_ne h1, u2_ne h1, u2_ne h2], fun f h1 h2 => by rw [u2_ni h2, u2_ni h1, u2_ni h2, u2_ne (by omega)]⟩
  change Ef P _ 118 0 [some (vR m), some (vI c)] [] _ _
  refine ef_aload_n (pc := 0) d118_0 rfl ?_
  refine eg_getR (pc := 1) d118_1 lf_8_89 (by assumption) (by decide) (by assumption) ?_
  refine ef_aload_n (pc := 4) d118_4 rfl ?_
  refine eg_getI (pc := 5) d118_5 lf_8_239 (by assumption) (by decide) ?_
  rw [h37]
  refine ef_iload_n (pc := 8) d118_8 rfl ?_
  refine eg_iast (pc := 9) d118_9 (i := n) (by assumption) (rfl) (by omega) rfl ?_
  refine ef_aload_n (pc := 10) d118_10 rfl ?_
  refine ef_dup (pc := 11) d118_11 rfl ?_
  refine eg_getI (pc := 12) d118_12 lf_8_239 (by assumption) (by decide) ?_
  rw [u2_ne (by omega), h37]
  refine ef_iconst (pc := 15) d118_15 (by decide) ?_
  refine ef_iadd (pc := 16) d118_16 (z := ((n + 1 : Nat) : Int)) (by omega) ⟨by omega, by omega⟩ ?_
  refine eg_putI (pc := 17) d118_17 pf_118_239 (by assumption) (by decide) ?_
  refine ef_aload_n (pc := 20) d118_20 rfl ?_
  refine ef_aload_n (pc := 21) d118_21 rfl ?_
  refine eg_getZ (pc := 22) d118_22 lf_8_215 (by assumption) (by decide) ?_
  rw [u2_ni (by omega), u2_ne (by omega)]
  refine ef_if_ne (pc := 25) d118_25 (t := 38) rfl (fun h25 => ?_) (fun h25 => ?_)
  · have h1 : g m 30 = 1 := by omega
    refine ef_iconst (pc := 38) d118_38 (by decide) ?_
    refine ef_goto (pc := 39) d118_39 (t := 43) rfl ?_
    refine eg_putZ (pc := 43) d118_43 pf_118_215 (by assumption) (by decide) (by omega) ?_
    refine ef_aload_n (pc := 46) d118_46 rfl ?_
    refine ef_aload_n (pc := 47) d118_47 rfl ?_
    refine eg_getI (pc := 48) d118_48 lf_8_239 (by assumption) (by decide) ?_
    rw [u2_ni (by omega), u2_at]
    refine ef_sipush (pc := 51) d118_51 (by decide) ?_
    refine ef_icmp_le (pc := 54) d118_54 (t := 63) rfl (fun h54 => ?_) (fun h54 => ?_)
    · refine ef_aload_n (pc := 63) d118_63 rfl ?_
      refine eg_getI (pc := 64) d118_64 lf_8_239 (by assumption) (by decide) ?_
      rw [u2_ni (by omega), u2_at]
      refine eg_putI (pc := 67) d118_67 pf_118_239 (by assumption) (by decide) ?_
      refine ef_vret (pc := 70) d118_70 rfl ?_
      rcases hW with ⟨w1, w2, w3, w4⟩ | ⟨w1, w2, w3⟩
      · have hnw : n = W.length := by omega
        subst hnw
        first
        | omega
        | exact fin _ _ (by omega) (Or.inl ⟨by rw [List.length_append]; show W.length + 1 ≤ 640; omega, by rw [u2_ni (by omega), u2_at], by rw [u2_at, List.length_append]; rfl, by rw [u2_ne (by omega), u2_ne (by omega), u2_ne (by omega), u2_eq]; exact Row_app w4⟩)
        | exact fin _ _ (by omega) (Or.inr ⟨by rw [List.length_append]; show 640 < W.length + 1; omega, by rw [u2_ni (by omega), u2_at], 640, Nat.le_refl _, by rw [u2_at]; rfl⟩)
      · first
        | omega
        | exact fin _ _ (by omega) (Or.inr ⟨by rw [List.length_append]; omega, by rw [u2_ni (by omega), u2_at], n + 1, by omega, by rw [u2_at]⟩)
        | exact fin _ _ (by omega) (Or.inr ⟨by rw [List.length_append]; omega, by rw [u2_ni (by omega), u2_at], 640, Nat.le_refl _, by rw [u2_at]; rfl⟩)
    · refine ef_sipush (pc := 57) d118_57 (by decide) ?_
      refine ef_goto (pc := 60) d118_60 (t := 67) rfl ?_
      refine eg_putI (pc := 67) d118_67 pf_118_239 (by assumption) (by decide) ?_
      refine ef_vret (pc := 70) d118_70 rfl ?_
      rcases hW with ⟨w1, w2, w3, w4⟩ | ⟨w1, w2, w3⟩
      · have hnw : n = W.length := by omega
        subst hnw
        first
        | omega
        | exact fin _ _ (by omega) (Or.inl ⟨by rw [List.length_append]; show W.length + 1 ≤ 640; omega, by rw [u2_ni (by omega), u2_at], by rw [u2_at, List.length_append]; rfl, by rw [u2_ne (by omega), u2_ne (by omega), u2_ne (by omega), u2_eq]; exact Row_app w4⟩)
        | exact fin _ _ (by omega) (Or.inr ⟨by rw [List.length_append]; show 640 < W.length + 1; omega, by rw [u2_ni (by omega), u2_at], 640, Nat.le_refl _, by rw [u2_at]; rfl⟩)
      · first
        | omega
        | exact fin _ _ (by omega) (Or.inr ⟨by rw [List.length_append]; omega, by rw [u2_ni (by omega), u2_at], n + 1, by omega, by rw [u2_at]⟩)
        | exact fin _ _ (by omega) (Or.inr ⟨by rw [List.length_append]; omega, by rw [u2_ni (by omega), u2_at], 640, Nat.le_refl _, by rw [u2_at]; rfl⟩)
  · have h0 : g m 30 = 0 := h25
    refine ef_aload_n (pc := 28) d118_28 rfl ?_
    refine eg_getI (pc := 29) d118_29 lf_8_239 (by assumption) (by decide) ?_
    rw [u2_at]
    refine ef_sipush (pc := 32) d118_32 (by decide) ?_
    refine ef_icmp_le (pc := 35) d118_35 (t := 42) rfl (fun h35 => ?_) (fun h35 => ?_)
    · refine ef_iconst (pc := 42) d118_42 (by decide) ?_
      refine eg_putZ (pc := 43) d118_43 pf_118_215 (by assumption) (by decide) (by omega) ?_
      refine ef_aload_n (pc := 46) d118_46 rfl ?_
      refine ef_aload_n (pc := 47) d118_47 rfl ?_
      refine eg_getI (pc := 48) d118_48 lf_8_239 (by assumption) (by decide) ?_
      rw [u2_ni (by omega), u2_at]
      refine ef_sipush (pc := 51) d118_51 (by decide) ?_
      refine ef_icmp_le (pc := 54) d118_54 (t := 63) rfl (fun h54 => ?_) (fun h54 => ?_)
      · refine ef_aload_n (pc := 63) d118_63 rfl ?_
        refine eg_getI (pc := 64) d118_64 lf_8_239 (by assumption) (by decide) ?_
        rw [u2_ni (by omega), u2_at]
        refine eg_putI (pc := 67) d118_67 pf_118_239 (by assumption) (by decide) ?_
        refine ef_vret (pc := 70) d118_70 rfl ?_
        rcases hW with ⟨w1, w2, w3, w4⟩ | ⟨w1, w2, w3⟩
        · have hnw : n = W.length := by omega
          subst hnw
          first
          | omega
          | exact fin _ _ (by omega) (Or.inl ⟨by rw [List.length_append]; show W.length + 1 ≤ 640; omega, by rw [u2_ni (by omega), u2_at], by rw [u2_at, List.length_append]; rfl, by rw [u2_ne (by omega), u2_ne (by omega), u2_ne (by omega), u2_eq]; exact Row_app w4⟩)
          | exact fin _ _ (by omega) (Or.inr ⟨by rw [List.length_append]; show 640 < W.length + 1; omega, by rw [u2_ni (by omega), u2_at], 640, Nat.le_refl _, by rw [u2_at]; rfl⟩)
        · first
          | omega
          | exact fin _ _ (by omega) (Or.inr ⟨by rw [List.length_append]; omega, by rw [u2_ni (by omega), u2_at], n + 1, by omega, by rw [u2_at]⟩)
          | exact fin _ _ (by omega) (Or.inr ⟨by rw [List.length_append]; omega, by rw [u2_ni (by omega), u2_at], 640, Nat.le_refl _, by rw [u2_at]; rfl⟩)
      · refine ef_sipush (pc := 57) d118_57 (by decide) ?_
        refine ef_goto (pc := 60) d118_60 (t := 67) rfl ?_
        refine eg_putI (pc := 67) d118_67 pf_118_239 (by assumption) (by decide) ?_
        refine ef_vret (pc := 70) d118_70 rfl ?_
        rcases hW with ⟨w1, w2, w3, w4⟩ | ⟨w1, w2, w3⟩
        · have hnw : n = W.length := by omega
          subst hnw
          first
          | omega
          | exact fin _ _ (by omega) (Or.inl ⟨by rw [List.length_append]; show W.length + 1 ≤ 640; omega, by rw [u2_ni (by omega), u2_at], by rw [u2_at, List.length_append]; rfl, by rw [u2_ne (by omega), u2_ne (by omega), u2_ne (by omega), u2_eq]; exact Row_app w4⟩)
          | exact fin _ _ (by omega) (Or.inr ⟨by rw [List.length_append]; show 640 < W.length + 1; omega, by rw [u2_ni (by omega), u2_at], 640, Nat.le_refl _, by rw [u2_at]; rfl⟩)
        · first
          | omega
          | exact fin _ _ (by omega) (Or.inr ⟨by rw [List.length_append]; omega, by rw [u2_ni (by omega), u2_at], n + 1, by omega, by rw [u2_at]⟩)
          | exact fin _ _ (by omega) (Or.inr ⟨by rw [List.length_append]; omega, by rw [u2_ni (by omega), u2_at], 640, Nat.le_refl _, by rw [u2_at]; rfl⟩)
    · refine ef_iconst (pc := 38) d118_38 (by decide) ?_
      refine ef_goto (pc := 39) d118_39 (t := 43) rfl ?_
      refine eg_putZ (pc := 43) d118_43 pf_118_215 (by assumption) (by decide) (by omega) ?_
      refine ef_aload_n (pc := 46) d118_46 rfl ?_
      refine ef_aload_n (pc := 47) d118_47 rfl ?_
      refine eg_getI (pc := 48) d118_48 lf_8_239 (by assumption) (by decide) ?_
      rw [u2_ni (by omega), u2_at]
      refine ef_sipush (pc := 51) d118_51 (by decide) ?_
      refine ef_icmp_le (pc := 54) d118_54 (t := 63) rfl (fun h54 => ?_) (fun h54 => ?_)
      · refine ef_aload_n (pc := 63) d118_63 rfl ?_
        refine eg_getI (pc := 64) d118_64 lf_8_239 (by assumption) (by decide) ?_
        rw [u2_ni (by omega), u2_at]
        refine eg_putI (pc := 67) d118_67 pf_118_239 (by assumption) (by decide) ?_
        refine ef_vret (pc := 70) d118_70 rfl ?_
        rcases hW with ⟨w1, w2, w3, w4⟩ | ⟨w1, w2, w3⟩
        · have hnw : n = W.length := by omega
          subst hnw
          first
          | omega
          | exact fin _ _ (by omega) (Or.inl ⟨by rw [List.length_append]; show W.length + 1 ≤ 640; omega, by rw [u2_ni (by omega), u2_at], by rw [u2_at, List.length_append]; rfl, by rw [u2_ne (by omega), u2_ne (by omega), u2_ne (by omega), u2_eq]; exact Row_app w4⟩)
          | exact fin _ _ (by omega) (Or.inr ⟨by rw [List.length_append]; show 640 < W.length + 1; omega, by rw [u2_ni (by omega), u2_at], 640, Nat.le_refl _, by rw [u2_at]; rfl⟩)
        · first
          | omega
          | exact fin _ _ (by omega) (Or.inr ⟨by rw [List.length_append]; omega, by rw [u2_ni (by omega), u2_at], n + 1, by omega, by rw [u2_at]⟩)
          | exact fin _ _ (by omega) (Or.inr ⟨by rw [List.length_append]; omega, by rw [u2_ni (by omega), u2_at], 640, Nat.le_refl _, by rw [u2_at]; rfl⟩)
      · refine ef_sipush (pc := 57) d118_57 (by decide) ?_
        refine ef_goto (pc := 60) d118_60 (t := 67) rfl ?_
        refine eg_putI (pc := 67) d118_67 pf_118_239 (by assumption) (by decide) ?_
        refine ef_vret (pc := 70) d118_70 rfl ?_
        rcases hW with ⟨w1, w2, w3, w4⟩ | ⟨w1, w2, w3⟩
        · have hnw : n = W.length := by omega
          subst hnw
          first
          | omega
          | exact fin _ _ (by omega) (Or.inl ⟨by rw [List.length_append]; show W.length + 1 ≤ 640; omega, by rw [u2_ni (by omega), u2_at], by rw [u2_at, List.length_append]; rfl, by rw [u2_ne (by omega), u2_ne (by omega), u2_ne (by omega), u2_eq]; exact Row_app w4⟩)
          | exact fin _ _ (by omega) (Or.inr ⟨by rw [List.length_append]; show 640 < W.length + 1; omega, by rw [u2_ni (by omega), u2_at], 640, Nat.le_refl _, by rw [u2_at]; rfl⟩)
        · first
          | omega
          | exact fin _ _ (by omega) (Or.inr ⟨by rw [List.length_append]; omega, by rw [u2_ni (by omega), u2_at], n + 1, by omega, by rw [u2_at]⟩)
          | exact fin _ _ (by omega) (Or.inr ⟨by rw [List.length_append]; omega, by rw [u2_ni (by omega), u2_at], 640, Nat.le_refl _, by rw [u2_at]; rfl⟩)
theorem c117 {P : Pg} {d : Nat} {u : Mm} {g : Nat → Nat → Int} {m : Nat} {W : List Int} {n : Int} (hM : MdA u m) (hW : DQ g m W) (h1 : -100 < n) (h2 : n < 100) : Ec P (d + 1) 117 [vR m, vI n] (sI u g) (fun x u' => ∃ g', u' = sI u g' ∧ x = .inl none ∧ DQ g' m (W ++ [loF n]) ∧ (∀ a, a ≠ m → a ≠ m + 27 → g' a = g a) ∧ (∀ f, f ≠ 30 → f ≠ 37 → g' m f = g m f)) := by
  have s0 := hM.1
  change Ef P _ 117 0 [some (vR m), some (vI n)] [] _ _
  refine ef_aload_n (pc := 0) d117_0 rfl ?_
  refine ef_iload_n (pc := 1) d117_1 rfl ?_
  refine ef_bipush (pc := 2) d117_2 (by decide) ?_
  refine ef_icmp_ge (pc := 4) d117_4 (t := 14) rfl (fun h4 => ?_) (fun h4 => ?_)
  · rw [loF, if_neg (by omega)]
    refine ef_bipush (pc := 14) d117_14 (by decide) ?_
    refine ef_iload_n (pc := 16) d117_16 rfl ?_
    refine ef_iadd (pc := 17) d117_17 rfl ⟨by omega, by omega⟩ ?_
    refine ef_callV (pc := 18) d117_18 lm_8_242 (as := [_]) rfl rfl (by assumption) rfl rfl (by decide) (Nat.le_of_ble_eq_true rfl) rfl (Nat.le_of_ble_eq_true rfl) ?_
    refine Ec.imp (c118 hM hW) ?_
    rintro r18 u18 ⟨g1, rfl, rfl, w1, w2, w3⟩
    refine ef_vret (pc := 21) d117_21 rfl ?_
    exact ⟨g1, rfl, rfl, w1, w2, w3⟩
  · rw [loF, if_pos (by omega)]
    refine ef_bipush (pc := 7) d117_7 (by decide) ?_
    refine ef_iload_n (pc := 9) d117_9 rfl ?_
    refine ef_iadd (pc := 10) d117_10 rfl ⟨by omega, by omega⟩ ?_
    refine ef_goto (pc := 11) d117_11 (t := 18) rfl ?_
    refine ef_callV (pc := 18) d117_18 lm_8_242 (as := [_]) rfl rfl (by assumption) rfl rfl (by decide) (Nat.le_of_ble_eq_true rfl) rfl (Nat.le_of_ble_eq_true rfl) ?_
    refine Ec.imp (c118 hM hW) ?_
    rintro r18 u18 ⟨g1, rfl, rfl, w1, w2, w3⟩
    refine ef_vret (pc := 21) d117_21 rfl ?_
    exact ⟨g1, rfl, rfl, w1, w2, w3⟩
theorem c121 {P : Pg} {d : Nat} {u : Mm} {g : Nat → Nat → Int} {m : Nat} {W : List Int} {n l k : Int} (hM : MdA u m) (hW : DQ g m W) (h1 : -50 ≤ n) (h2 : n < 50) : Ec P (d + 2) 121 [vR m, vI n, vI l, vI k] (sI u g) (fun x u' => ∃ g', u' = sI u g' ∧ x = .inl none ∧ DQ g' m (W ++ [nmX n l k]) ∧ (∀ a, a ≠ m → a ≠ m + 27 → g' a = g a) ∧ (∀ f, f ≠ 30 → f ≠ 37 → g' m f = g m f)) := by
  have s0 := hM.1
  have hr := rsF_rg (l := l) h1
  change Ef P _ 121 0 [some (vR m), some (vI n), some (vI l), some (vI k), none] [] _ _
  refine ef_iload_n (pc := 0) d121_0 rfl ?_
  refine ef_iconst (pc := 1) d121_1 (by decide) ?_
  refine ef_icmp_le (pc := 2) d121_2 (t := 30) rfl (fun h2 => ?_) (fun h2 => ?_)
  · rw [nmX, if_neg (by omega)]
    refine ef_iconst (pc := 30) d121_30 (by decide) ?_
    refine ef_istore (pc := 31) d121_31 (ls' := [_, _, _, _, _]) rfl ?_
    refine ef_aload_n (pc := 33) d121_33 rfl ?_
    refine ef_iload (pc := 34) d121_34 rfl ?_
    refine ef_if_eqT (pc := 36) d121_36 (t := 43) rfl (by decide) ?_
    refine ef_aload_n (pc := 43) d121_43 rfl ?_
    refine ef_iload_n (pc := 44) d121_44 rfl ?_
    refine ef_iload_n (pc := 45) d121_45 rfl ?_
    refine ef_callV (pc := 46) d121_46 lm_8_225 (as := [_, _]) rfl rfl (by assumption) rfl rfl (by decide) (Nat.le_of_ble_eq_true rfl) rfl (Nat.le_of_ble_eq_true rfl) ?_
    refine Ec.imp (c109 (by omega) (by omega)) ?_
    rintro r46 u46 ⟨rfl, rfl⟩
    refine ef_callV (pc := 49) d121_49 lm_8_261 (as := [_]) rfl rfl (by assumption) rfl rfl (by decide) (Nat.le_of_ble_eq_true rfl) rfl (Nat.le_of_ble_eq_true rfl) ?_
    refine Ec.imp (c117 (d := d) hM hW (by omega) (by omega)) ?_
    rintro r49 u49 ⟨g1, rfl, rfl, w1, w2, w3⟩
    refine ef_vret (pc := 52) d121_52 rfl ?_
    exact ⟨g1, rfl, rfl, w1, w2, w3⟩
  · refine ef_iload_n (pc := 5) d121_5 rfl ?_
    refine ef_iload_n (pc := 6) d121_6 rfl ?_
    refine ef_bipush (pc := 7) d121_7 (by decide) ?_
    refine ef_isub (pc := 9) d121_9 rfl ⟨by omega, by omega⟩ ?_
    refine ef_ishr (pc := 10) d121_10 rfl ?_
    refine ef_iconst (pc := 11) d121_11 (by decide) ?_
    refine ef_iand (pc := 12) d121_12 rfl ?_
    refine ef_iconst (pc := 13) d121_13 (by decide) ?_
    refine ef_icmp_eq (pc := 14) d121_14 (t := 26) rfl (fun h14 => ?_) (fun h14 => ?_)
    · rw [nmX, if_pos ⟨by omega, Or.inl h14⟩]
      refine ef_iconst (pc := 26) d121_26 (by decide) ?_
      refine ef_goto (pc := 27) d121_27 (t := 31) rfl ?_
      refine ef_istore (pc := 31) d121_31 (ls' := [_, _, _, _, _]) rfl ?_
      refine ef_aload_n (pc := 33) d121_33 rfl ?_
      refine ef_iload (pc := 34) d121_34 rfl ?_
      refine ef_if_eqF (pc := 36) d121_36 (t := 43) rfl (by decide) ?_
      refine ef_iload_n (pc := 39) d121_39 rfl ?_
      refine ef_goto (pc := 40) d121_40 (t := 49) rfl ?_
      refine ef_callV (pc := 49) d121_49 lm_8_261 (as := [_]) rfl rfl (by assumption) rfl rfl (by decide) (Nat.le_of_ble_eq_true rfl) rfl (Nat.le_of_ble_eq_true rfl) ?_
      refine Ec.imp (c117 (d := d) hM hW (by omega) (by omega)) ?_
      rintro r49 u49 ⟨g1, rfl, rfl, w1, w2, w3⟩
      refine ef_vret (pc := 52) d121_52 rfl ?_
      exact ⟨g1, rfl, rfl, w1, w2, w3⟩
    · refine ef_aload_n (pc := 17) d121_17 rfl ?_
      refine ef_iload_n (pc := 18) d121_18 rfl ?_
      refine ef_iload_n (pc := 19) d121_19 rfl ?_
      refine ef_callV (pc := 20) d121_20 lm_8_225 (as := [_, _]) rfl rfl (by assumption) rfl rfl (by decide) (Nat.le_of_ble_eq_true rfl) rfl (Nat.le_of_ble_eq_true rfl) ?_
      refine Ec.imp (c109 (by omega) (by omega)) ?_
      rintro r20 u20 ⟨rfl, rfl⟩
      refine ef_if_ge (pc := 23) d121_23 (t := 30) rfl (fun h23 => ?_) (fun h23 => ?_)
      · rw [nmX, if_neg (by rintro ⟨-, h | h⟩; exact h14 h; omega)]
        refine ef_iconst (pc := 30) d121_30 (by decide) ?_
        refine ef_istore (pc := 31) d121_31 (ls' := [_, _, _, _, _]) rfl ?_
        refine ef_aload_n (pc := 33) d121_33 rfl ?_
        refine ef_iload (pc := 34) d121_34 rfl ?_
        refine ef_if_eqT (pc := 36) d121_36 (t := 43) rfl (by decide) ?_
        refine ef_aload_n (pc := 43) d121_43 rfl ?_
        refine ef_iload_n (pc := 44) d121_44 rfl ?_
        refine ef_iload_n (pc := 45) d121_45 rfl ?_
        refine ef_callV (pc := 46) d121_46 lm_8_225 (as := [_, _]) rfl rfl (by assumption) rfl rfl (by decide) (Nat.le_of_ble_eq_true rfl) rfl (Nat.le_of_ble_eq_true rfl) ?_
        refine Ec.imp (c109 (by omega) (by omega)) ?_
        rintro r46 u46 ⟨rfl, rfl⟩
        refine ef_callV (pc := 49) d121_49 lm_8_261 (as := [_]) rfl rfl (by assumption) rfl rfl (by decide) (Nat.le_of_ble_eq_true rfl) rfl (Nat.le_of_ble_eq_true rfl) ?_
        refine Ec.imp (c117 (d := d) hM hW (by omega) (by omega)) ?_
        rintro r49 u49 ⟨g1, rfl, rfl, w1, w2, w3⟩
        refine ef_vret (pc := 52) d121_52 rfl ?_
        exact ⟨g1, rfl, rfl, w1, w2, w3⟩
      · rw [nmX, if_pos ⟨by omega, Or.inr (by omega)⟩]
        refine ef_iconst (pc := 26) d121_26 (by decide) ?_
        refine ef_goto (pc := 27) d121_27 (t := 31) rfl ?_
        refine ef_istore (pc := 31) d121_31 (ls' := [_, _, _, _, _]) rfl ?_
        refine ef_aload_n (pc := 33) d121_33 rfl ?_
        refine ef_iload (pc := 34) d121_34 rfl ?_
        refine ef_if_eqF (pc := 36) d121_36 (t := 43) rfl (by decide) ?_
        refine ef_iload_n (pc := 39) d121_39 rfl ?_
        refine ef_goto (pc := 40) d121_40 (t := 49) rfl ?_
        refine ef_callV (pc := 49) d121_49 lm_8_261 (as := [_]) rfl rfl (by assumption) rfl rfl (by decide) (Nat.le_of_ble_eq_true rfl) rfl (Nat.le_of_ble_eq_true rfl) ?_
        refine Ec.imp (c117 (d := d) hM hW (by omega) (by omega)) ?_
        rintro r49 u49 ⟨g1, rfl, rfl, w1, w2, w3⟩
        refine ef_vret (pc := 52) d121_52 rfl ?_
        exact ⟨g1, rfl, rfl, w1, w2, w3⟩
theorem c116 {P : Pg} {d : Nat} {u : Mm} {g : Nat → Nat → Int} {m : Nat} {s : Nat} (hM : MdA u m) (hs : g m 38 = (s : Int)) (hs2 : s < 119) : Ec P d 116 [vR m] (sI u g) (fun x u' => u' = sI u (u2 (u2 g (m + 28) s (g m 37)) m 38 ((s + 1 : Nat) : Int)) ∧ x = .inl none) := by
  have s0 := hM.1
  have f41 : mF u m 41 = some (m + 28) := (hM.2 27 (by decide)).1
  have s41 : mS u (m + 28) = some (0, 120) := (hM.2 27 (by decide)).2
  change Ef P _ 116 0 [some (vR m)] [] _ _
  refine ef_aload_n (pc := 0) d116_0 rfl ?_
  refine eg_getR (pc := 1) d116_1 lf_8_92 (by assumption) (by decide) (by assumption) ?_
  refine ef_aload_n (pc := 4) d116_4 rfl ?_
  refine eg_getI (pc := 5) d116_5 lf_8_248 (by assumption) (by decide) ?_
  rw [hs]
  refine ef_aload_n (pc := 8) d116_8 rfl ?_
  refine eg_getI (pc := 9) d116_9 lf_8_239 (by assumption) (by decide) ?_
  refine eg_iast (pc := 12) d116_12 (i := s) (by assumption) (rfl) (by omega) rfl ?_
  refine ef_aload_n (pc := 13) d116_13 rfl ?_
  refine ef_dup (pc := 14) d116_14 rfl ?_
  refine eg_getI (pc := 15) d116_15 lf_8_248 (by assumption) (by decide) ?_
  rw [u2_ne (by omega), hs]
  refine ef_iconst (pc := 18) d116_18 (by decide) ?_
  refine ef_iadd (pc := 19) d116_19 (z := ((s + 1 : Nat) : Int)) (by omega) ⟨by omega, by omega⟩ ?_
  refine eg_putI (pc := 20) d116_20 pf_116_248 (by assumption) (by decide) ?_
  refine ef_vret (pc := 23) d116_23 rfl ?_
  exact ⟨rfl, rfl⟩
theorem c119 {P : Pg} {d : Nat} {u : Mm} {g : Nat → Nat → Int} {m : Nat} {s : Nat} (hM : MdA u m) (hs : g m 38 = ((s + 1 : Nat) : Int)) (hs2 : s < 119) (hi : inR (g m 37 - g (m + 28) s)) : Ec P d 119 [vR m] (sI u g) (fun x u' => u' = sI u (u2 g (m + 42) s (g m 37 - g (m + 28) s)) ∧ x = .inl none) := by
  have s0 := hM.1
  have f41 : mF u m 41 = some (m + 28) := (hM.2 27 (by decide)).1
  have s41 : mS u (m + 28) = some (0, 120) := (hM.2 27 (by decide)).2
  have f64 : mF u m 64 = some (m + 42) := (hM.2 41 (by decide)).1
  have s64 : mS u (m + 42) = some (0, 120) := (hM.2 41 (by decide)).2
  change Ef P _ 119 0 [some (vR m)] [] _ _
  refine ef_aload_n (pc := 0) d119_0 rfl ?_
  refine eg_getR (pc := 1) d119_1 lf_8_135 (by assumption) (by decide) (by assumption) ?_
  refine ef_aload_n (pc := 4) d119_4 rfl ?_
  refine eg_getI (pc := 5) d119_5 lf_8_248 (by assumption) (by decide) ?_
  rw [hs]
  refine ef_iconst (pc := 8) d119_8 (by decide) ?_
  refine ef_isub (pc := 9) d119_9 (z := (s : Int)) (by omega) ⟨by omega, by omega⟩ ?_
  refine ef_aload_n (pc := 10) d119_10 rfl ?_
  refine eg_getI (pc := 11) d119_11 lf_8_239 (by assumption) (by decide) ?_
  refine ef_aload_n (pc := 14) d119_14 rfl ?_
  refine eg_getR (pc := 15) d119_15 lf_8_92 (by assumption) (by decide) (by assumption) ?_
  refine ef_aload_n (pc := 18) d119_18 rfl ?_
  refine eg_getI (pc := 19) d119_19 lf_8_248 (by assumption) (by decide) ?_
  rw [hs]
  refine ef_iconst (pc := 22) d119_22 (by decide) ?_
  refine ef_isub (pc := 23) d119_23 (z := (s : Int)) (by omega) ⟨by omega, by omega⟩ ?_
  refine eg_iald (pc := 24) d119_24 (i := s) (by assumption) (rfl) (by omega) ?_
  refine ef_isub (pc := 25) d119_25 rfl hi ?_
  refine eg_iast (pc := 26) d119_26 (i := s) (by assumption) (rfl) (by omega) rfl ?_
  refine ef_vret (pc := 27) d119_27 rfl ?_
  exact ⟨rfl, rfl⟩
theorem c114 {P : Pg} {d : Nat} {u : Mm} {g : Nat → Nat → Int} {m : Nat} {c : Nat} {a1 a2 a3 a4 : Int} (hM : MdA u m) (hs : g m 39 = (c : Int)) (hs2 : c < 40) : Ec P d 114 [vR m, vI a1, vI a2, vI a3, vI a4] (sI u g) (fun x u' => u' = sI u (u2 (u2 (u2 (u2 (u2 (u2 g (m + 30) c a1) (m + 31) c a2) (m + 32) c a3) (m + 33) c (g m 38)) (m + 34) c a4) m 39 ((c + 1 : Nat) : Int)) ∧ x = .inl none) := by
  have s0 := hM.1
  have f43 : mF u m 43 = some (m + 30) := (hM.2 29 (by decide)).1
  have s43 : mS u (m + 30) = some (0, 40) := (hM.2 29 (by decide)).2
  have f44 : mF u m 44 = some (m + 31) := (hM.2 30 (by decide)).1
  have s44 : mS u (m + 31) = some (0, 40) := (hM.2 30 (by decide)).2
  have f45 : mF u m 45 = some (m + 32) := (hM.2 31 (by decide)).1
  have s45 : mS u (m + 32) = some (0, 40) := (hM.2 31 (by decide)).2
  have f46 : mF u m 46 = some (m + 33) := (hM.2 32 (by decide)).1
  have s46 : mS u (m + 33) = some (0, 40) := (hM.2 32 (by decide)).2
  have f47 : mF u m 47 = some (m + 34) := (hM.2 33 (by decide)).1
  have s47 : mS u (m + 34) = some (0, 40) := (hM.2 33 (by decide)).2
  change Ef P _ 114 0 [some (vR m), some (vI a1), some (vI a2), some (vI a3), some (vI a4)] [] _ _
  refine ef_aload_n (pc := 0) d114_0 rfl ?_
  refine eg_getR (pc := 1) d114_1 lf_8_98 (by assumption) (by decide) (by assumption) ?_
  refine ef_aload_n (pc := 4) d114_4 rfl ?_
  refine eg_getI (pc := 5) d114_5 lf_8_245 (by assumption) (by decide) ?_
  rw [hs]
  refine ef_iload_n (pc := 8) d114_8 rfl ?_
  refine eg_iast (pc := 9) d114_9 (i := c) (by assumption) (rfl) (by omega) rfl ?_
  refine ef_aload_n (pc := 10) d114_10 rfl ?_
  refine eg_getR (pc := 11) d114_11 lf_8_101 (by assumption) (by decide) (by assumption) ?_
  refine ef_aload_n (pc := 14) d114_14 rfl ?_
  refine eg_getI (pc := 15) d114_15 lf_8_245 (by assumption) (by decide) ?_
  rw [u2_ne (by omega), hs]
  refine ef_iload_n (pc := 18) d114_18 rfl ?_
  refine eg_iast (pc := 19) d114_19 (i := c) (by assumption) (rfl) (by omega) rfl ?_
  refine ef_aload_n (pc := 20) d114_20 rfl ?_
  refine eg_getR (pc := 21) d114_21 lf_8_104 (by assumption) (by decide) (by assumption) ?_
  refine ef_aload_n (pc := 24) d114_24 rfl ?_
  refine eg_getI (pc := 25) d114_25 lf_8_245 (by assumption) (by decide) ?_
  rw [u2_ne (by omega), u2_ne (by omega), hs]
  refine ef_iload_n (pc := 28) d114_28 rfl ?_
  refine eg_iast (pc := 29) d114_29 (i := c) (by assumption) (rfl) (by omega) rfl ?_
  refine ef_aload_n (pc := 30) d114_30 rfl ?_
  refine eg_getR (pc := 31) d114_31 lf_8_107 (by assumption) (by decide) (by assumption) ?_
  refine ef_aload_n (pc := 34) d114_34 rfl ?_
  refine eg_getI (pc := 35) d114_35 lf_8_245 (by assumption) (by decide) ?_
  rw [u2_ne (by omega), u2_ne (by omega), u2_ne (by omega), hs]
  refine ef_aload_n (pc := 38) d114_38 rfl ?_
  refine eg_getI (pc := 39) d114_39 lf_8_248 (by assumption) (by decide) ?_
  rw [u2_ne (by omega), u2_ne (by omega), u2_ne (by omega)]
  refine eg_iast (pc := 42) d114_42 (i := c) (by assumption) (rfl) (by omega) rfl ?_
  refine ef_aload_n (pc := 43) d114_43 rfl ?_
  refine eg_getR (pc := 44) d114_44 lf_8_110 (by assumption) (by decide) (by assumption) ?_
  refine ef_aload_n (pc := 47) d114_47 rfl ?_
  refine eg_getI (pc := 48) d114_48 lf_8_245 (by assumption) (by decide) ?_
  rw [u2_ne (by omega), u2_ne (by omega), u2_ne (by omega), u2_ne (by omega), hs]
  refine ef_iload (pc := 51) d114_51 rfl ?_
  refine eg_iast (pc := 53) d114_53 (i := c) (by assumption) (rfl) (by omega) rfl ?_
  refine ef_aload_n (pc := 54) d114_54 rfl ?_
  refine ef_dup (pc := 55) d114_55 rfl ?_
  refine eg_getI (pc := 56) d114_56 lf_8_245 (by assumption) (by decide) ?_
  rw [u2_ne (by omega), u2_ne (by omega), u2_ne (by omega), u2_ne (by omega), u2_ne (by omega), hs]
  refine ef_iconst (pc := 59) d114_59 (by decide) ?_
  refine ef_iadd (pc := 60) d114_60 (z := ((c + 1 : Nat) : Int)) (by omega) ⟨by omega, by omega⟩ ?_
  refine eg_putI (pc := 61) d114_61 pf_114_245 (by assumption) (by decide) ?_
  refine ef_vret (pc := 64) d114_64 rfl ?_
  exact ⟨rfl, rfl⟩
theorem c122 {P : Pg} {d : Nat} {u : Mm} {g : Nat → Nat → Int} {m : Nat} {W : List Int} {s : Nat} {n l k : Int} (hM : MdA u m) (hW : DQ g m W) (hf : g m 30 = 0) (hs : g m 38 = (s : Int)) (hs2 : s < 119) (h1 : -50 ≤ n) (h2 : n < 50) : Ec P (d + 3) 122 [vR m, vI n, vI l, vI k] (sI u g) (fun x u' => ∃ g', u' = sI u g' ∧ x = .inl none ∧ DQ g' m (W ++ [39, nmX n l k]) ∧ g' m 38 = ((s + 1 : Nat) : Int) ∧ g' (m + 28) = u1 (g (m + 28)) s (W.length : Int) ∧ (∃ z, g' (m + 29) = u1 (g (m + 29)) s z ∧ (W.length + 2 ≤ 640 → z = 2)) ∧ (∀ a, a ≠ m → a ≠ m + 27 → a ≠ m + 28 → a ≠ m + 29 → g' a = g a) ∧ (∀ f, f ≠ 30 → f ≠ 37 → f ≠ 38 → g' m f = g m f)) := by
  have s0 := hM.1
  have f41 : mF u m 41 = some (m + 28) := (hM.2 27 (by decide)).1
  have s41 : mS u (m + 28) = some (0, 120) := (hM.2 27 (by decide)).2
  have f42 : mF u m 42 = some (m + 29) := (hM.2 28 (by decide)).1
  have s42 : mS u (m + 29) = some (0, 120) := (hM.2 28 (by decide)).2
  have hu : W.length ≤ 640 ∧ g m 37 = (W.length : Int) := by
    rcases hW with ⟨w1, w2, w3, -⟩ | ⟨-, w2, -⟩
    · exact ⟨w1, w3⟩
    · omega
  change Ef P _ 122 0 [some (vR m), some (vI n), some (vI l), some (vI k)] [] _ _
  refine ef_aload_n (pc := 0) d122_0 rfl ?_
  refine ef_callV (pc := 1) d122_1 lm_8_258 (as := []) rfl rfl (by assumption) rfl rfl (by decide) (Nat.le_of_ble_eq_true rfl) rfl (Nat.le_of_ble_eq_true rfl) ?_
  refine Ec.imp (c116 hM hs hs2) ?_
  rintro r1 u1 ⟨rfl, rfl⟩
  have d1 : DQ (u2 (u2 g (m + 28) s (g m 37)) m 38 ((s + 1 : Nat) : Int)) m W := hW.of (by rw [u2_ni (by omega), u2_ne (by omega)]) (by rw [u2_ni (by omega), u2_ne (by omega)]) (by rw [u2_ne (by omega), u2_ne (by omega)])
  refine ef_aload_n (pc := 4) d122_4 rfl ?_
  refine ef_bipush (pc := 5) d122_5 (by decide) ?_
  refine ef_callV (pc := 7) d122_7 lm_8_242 (as := [_]) rfl rfl (by assumption) rfl rfl (by decide) (Nat.le_of_ble_eq_true rfl) rfl (Nat.le_of_ble_eq_true rfl) ?_
  refine Ec.imp (c118 hM d1) ?_
  rintro r7 u7 ⟨g2, rfl, rfl, d2, a2, b2⟩
  refine ef_aload_n (pc := 10) d122_10 rfl ?_
  refine ef_iload_n (pc := 11) d122_11 rfl ?_
  refine ef_iload_n (pc := 12) d122_12 rfl ?_
  refine ef_iload_n (pc := 13) d122_13 rfl ?_
  refine ef_callV (pc := 14) d122_14 lm_8_264 (as := [_, _, _]) rfl rfl (by assumption) rfl rfl (by decide) (Nat.le_of_ble_eq_true rfl) rfl (Nat.le_of_ble_eq_true rfl) ?_
  refine Ec.imp (c121 (d := d) hM d2 h1 h2) ?_
  rintro r14 u14 ⟨g3, rfl, rfl, d3, a3, b3⟩
  rw [List.append_assoc] at d3
  have s3 : g3 m 38 = ((s + 1 : Nat) : Int) := by rw [b3 38 (by decide) (by decide), b2 38 (by decide) (by decide), u2_at]
  have f3 : g3 (m + 28) = u1 (g (m + 28)) s (W.length : Int) := by rw [a3 _ (by omega) (by omega), a2 _ (by omega) (by omega), u2_ne (by omega), u2_eq, hu.2]
  have f3s : g3 (m + 28) s = (W.length : Int) := by rw [f3, u1_eq]
  obtain ⟨-, nu, hnu, hnu2⟩ := d3.used
  refine ef_aload_n (pc := 17) d122_17 rfl ?_
  refine eg_getR (pc := 18) d122_18 lf_8_95 (by assumption) (by decide) (by assumption) ?_
  refine ef_aload_n (pc := 21) d122_21 rfl ?_
  refine eg_getI (pc := 22) d122_22 lf_8_248 (by assumption) (by decide) ?_
  try simp (disch := omega) only [u2_ne, u2_at, u2_ni, ur_ne, ur_eq]
  rw [s3]
  refine ef_iconst (pc := 25) d122_25 (by decide) ?_
  refine ef_isub (pc := 26) d122_26 (z := (s : Int)) (by omega) ⟨by omega, by omega⟩ ?_
  refine ef_aload_n (pc := 27) d122_27 rfl ?_
  refine eg_getI (pc := 28) d122_28 lf_8_239 (by assumption) (by decide) ?_
  try simp (disch := omega) only [u2_ne, u2_at, u2_ni, ur_ne, ur_eq]
  rw [hnu2]
  refine ef_aload_n (pc := 31) d122_31 rfl ?_
  refine eg_getR (pc := 32) d122_32 lf_8_92 (by assumption) (by decide) (by assumption) ?_
  refine ef_aload_n (pc := 35) d122_35 rfl ?_
  refine eg_getI (pc := 36) d122_36 lf_8_248 (by assumption) (by decide) ?_
  try simp (disch := omega) only [u2_ne, u2_at, u2_ni, ur_ne, ur_eq]
  rw [s3]
  refine ef_iconst (pc := 39) d122_39 (by decide) ?_
  refine ef_isub (pc := 40) d122_40 (z := (s : Int)) (by omega) ⟨by omega, by omega⟩ ?_
  refine eg_iald (pc := 41) d122_41 (i := s) (by assumption) (rfl) (by omega) ?_
  try simp (disch := omega) only [u2_ne, u2_at, u2_ni, ur_ne, ur_eq]
  rw [f3s]
  refine ef_isub (pc := 42) d122_42 rfl ⟨by omega, by omega⟩ ?_
  refine eg_iast (pc := 43) d122_43 (i := s) (by assumption) (rfl) (by omega) rfl ?_
  refine ef_vret (pc := 44) d122_44 rfl ?_
  refine ⟨_, rfl, rfl, d3.of (by rw [u2_ne (by omega)]) (by rw [u2_ne (by omega)]) (u2_ne (by omega)), ?_, ?_, ⟨(nu : Int) - (W.length : Int), ?_, ?_⟩, ?_, ?_⟩
  · rw [u2_ne (by omega)]; exact s3
  · rw [u2_ne (by omega)]; exact f3
  · rw [u2_eq, a3 _ (by omega) (by omega), a2 _ (by omega) (by omega), u2_ne (by omega), u2_ne (by omega)]
  · intro hle
    rcases d3 with ⟨w1, w2, w3, -⟩ | ⟨w1, -⟩
    · rw [hnu2, List.length_append] at w3
      have : ([39] ++ [nmX n l k] : List Int).length = 2 := rfl
      omega
    · rw [List.length_append] at w1
      have : ([39] ++ [nmX n l k] : List Int).length = 2 := rfl
      omega
  · intro a h3 h4 h5 h6; rw [u2_ne h6, a3 a h3 h4, a2 a h3 h4, u2_ne h3, u2_ne h5]
  · intro f h3 h4 h5; rw [u2_ne (by omega), b3 f h3 h4, b2 f h3 h4, u2_ni h5, u2_ne (by omega)]
