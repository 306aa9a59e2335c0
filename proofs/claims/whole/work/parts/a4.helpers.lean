/-! The law's helpers: a call of the class, and what it throws. Written by wip/whole/gen/ca4.py. -/
def lI (z : Int) : Int64 := (Int32.ofInt z).toInt64
def lB (z : Int) : Int64 := if z = 0 then 0 else 1
theorem h151 {P : Pg} {d : Nat} {u : Mm} {g : Nat → Nat → Int} {h o : Nat} {e : Int64} {n : Int} {A : Int → Int → Mm → (Nat → Nat → Int) → Prop} (hb : mS u h = some (100 + 0, 11)) (hc : Ec P d 3 [vR h, vL e, vI n] (sI u g) (fun x u' => ∃ v g', u' = sI v g' ∧ mS v o = some (3, 1) ∧ ((∃ z, x = .inl (some (vI z)) ∧ A 0 z v g') ∨ (∃ q, x = .inr (0, q) ∧ A 1 0 v g') ∨ (∃ q, x = .inr (1, q) ∧ A 2 0 v g')))) : Ec P (d + 1) 151 [vR h, vL e, vI n, vR o] (sI u g) (fun r u' => ∃ kz z v g' L, r = .inl (some (vI kz)) ∧ A kz z v g' ∧ u' = sI (sL v L) g' ∧ (∀ b, b ≠ o → L b = mL v b) ∧ (kz = 0 → L o 0 = lI z)) := by
  change Ef P _ 151 0 [some (vR h), some (vL e), none, some (vI n), some (vR o), none] [] _ _
  refine ef_aload (pc := 0) d151_0 rfl ?_
  refine ef_iconst (pc := 2) d151_2 (by decide) ?_
  refine ef_aload_n (pc := 3) d151_3 rfl ?_
  refine ef_lload_n (pc := 4) d151_4 rfl ?_
  refine ef_iload_n (pc := 5) d151_5 rfl ?_
  refine ef_callV (pc := 6) d151_6 lm_9_7 (as := [_, _]) rfl rfl (by assumption) rfl rfl (by decide) (Nat.le_of_ble_eq_true rfl) rfl (Nat.le_of_ble_eq_true rfl) ?_
  refine Ec.imp (hc) ?_
  rintro r6 u6 ⟨v, g', rfl, so, hx⟩
  rcases hx with ⟨z, rfl, ha⟩ | ⟨q, rfl, ha⟩ | ⟨q, rfl, ha⟩
  · refine ef_i2l (pc := 9) d151_9 ?_
    refine eg_last (i := 0) (pc := 10) d151_10 (by assumption) rfl (by omega) ?_
    refine ef_goto (pc := 11) d151_11 (t := 22) rfl ?_
    refine ef_iconst (pc := 22) d151_22 (by decide) ?_
    refine ef_iret (pc := 23) d151_23 rfl ?_
    refine ⟨0, z, v, g', _, rfl, ha, rfl, fun b hb => u2_ne hb, fun _ => ?_⟩
    rw [u2_at]
    rfl
  · show Ef P _ 151 14 _ [vR q] (sI v g') _
    refine ef_astore (pc := 14) d151_14 (ls' := [_, _, _, _, _, _]) rfl ?_
    refine ef_iconst (pc := 16) d151_16 (by decide) ?_
    refine ef_iret (pc := 17) d151_17 rfl ?_
    exact ⟨1, 0, v, g', mL v, rfl, ha, rfl, fun _ _ => rfl, fun hh => absurd hh (by decide)⟩
  · show Ef P _ 151 18 _ [vR q] (sI v g') _
    refine ef_astore (pc := 18) d151_18 (ls' := [_, _, _, _, _, _]) rfl ?_
    refine ef_iconst (pc := 20) d151_20 (by decide) ?_
    refine ef_iret (pc := 21) d151_21 rfl ?_
    exact ⟨2, 0, v, g', mL v, rfl, ha, rfl, fun _ _ => rfl, fun hh => absurd hh (by decide)⟩
theorem h152 {P : Pg} {d : Nat} {u : Mm} {g : Nat → Nat → Int} {h o : Nat}  {A : Int → Int → Mm → (Nat → Nat → Int) → Prop} (hb : mS u h = some (100 + 0, 11)) (hc : Ec P d 6 [vR h] (sI u g) (fun x u' => ∃ v g', u' = sI v g' ∧ mS v o = some (3, 1) ∧ ((∃ z, x = .inl (some (vI z)) ∧ A 0 z v g') ∨ (∃ q, x = .inr (0, q) ∧ A 1 0 v g') ∨ (∃ q, x = .inr (1, q) ∧ A 2 0 v g') ∨ (∃ q, x = .inr (2, q) ∧ A 3 0 v g')))) : Ec P (d + 1) 152 [vR h, vR o] (sI u g) (fun r u' => ∃ kz z v g' L, r = .inl (some (vI kz)) ∧ A kz z v g' ∧ u' = sI (sL v L) g' ∧ (∀ b, b ≠ o → L b = mL v b) ∧ (kz = 0 → L o 0 = lI z)) := by
  change Ef P _ 152 0 [some (vR h), some (vR o), none] [] _ _
  refine ef_aload_n (pc := 0) d152_0 rfl ?_
  refine ef_iconst (pc := 1) d152_1 (by decide) ?_
  refine ef_aload_n (pc := 2) d152_2 rfl ?_
  refine ef_callV (pc := 3) d152_3 lm_9_17 (as := []) rfl rfl (by assumption) rfl rfl (by decide) (Nat.le_of_ble_eq_true rfl) rfl (Nat.le_of_ble_eq_true rfl) ?_
  refine Ec.imp (hc) ?_
  rintro r3 u3 ⟨v, g', rfl, so, hx⟩
  rcases hx with ⟨z, rfl, ha⟩ | ⟨q, rfl, ha⟩ | ⟨q, rfl, ha⟩ | ⟨q, rfl, ha⟩
  · refine ef_i2l (pc := 6) d152_6 ?_
    refine eg_last (i := 0) (pc := 7) d152_7 (by assumption) rfl (by omega) ?_
    refine ef_goto (pc := 8) d152_8 (t := 20) rfl ?_
    refine ef_iconst (pc := 20) d152_20 (by decide) ?_
    refine ef_iret (pc := 21) d152_21 rfl ?_
    refine ⟨0, z, v, g', _, rfl, ha, rfl, fun b hb => u2_ne hb, fun _ => ?_⟩
    rw [u2_at]
    rfl
  · show Ef P _ 152 11 _ [vR q] (sI v g') _
    refine ef_astore_n (pc := 11) d152_11 (ls' := [_, _, _]) rfl ?_
    refine ef_iconst (pc := 12) d152_12 (by decide) ?_
    refine ef_iret (pc := 13) d152_13 rfl ?_
    exact ⟨1, 0, v, g', mL v, rfl, ha, rfl, fun _ _ => rfl, fun hh => absurd hh (by decide)⟩
  · show Ef P _ 152 14 _ [vR q] (sI v g') _
    refine ef_astore_n (pc := 14) d152_14 (ls' := [_, _, _]) rfl ?_
    refine ef_iconst (pc := 15) d152_15 (by decide) ?_
    refine ef_iret (pc := 16) d152_16 rfl ?_
    exact ⟨2, 0, v, g', mL v, rfl, ha, rfl, fun _ _ => rfl, fun hh => absurd hh (by decide)⟩
  · show Ef P _ 152 17 _ [vR q] (sI v g') _
    refine ef_astore_n (pc := 17) d152_17 (ls' := [_, _, _]) rfl ?_
    refine ef_iconst (pc := 18) d152_18 (by decide) ?_
    refine ef_iret (pc := 19) d152_19 rfl ?_
    exact ⟨3, 0, v, g', mL v, rfl, ha, rfl, fun _ _ => rfl, fun hh => absurd hh (by decide)⟩
theorem h153 {P : Pg} {d : Nat} {u : Mm} {g : Nat → Nat → Int} {h o : Nat} {a : Int} {b : Int} {A : Int → Int → Mm → (Nat → Nat → Int) → Prop} (hb : mS u h = some (100 + 0, 11)) (hc : Ec P d 10 [vR h, vI a, vI b] (sI u g) (fun x u' => ∃ v g', u' = sI v g' ∧ mS v o = some (3, 1) ∧ ((∃ z, x = .inl (some (vI z)) ∧ A 0 z v g') ∨ (∃ q, x = .inr (3, q) ∧ A 1 0 v g')))) : Ec P (d + 1) 153 [vR h, vI a, vI b, vR o] (sI u g) (fun r u' => ∃ kz z v g' L, r = .inl (some (vI kz)) ∧ A kz z v g' ∧ u' = sI (sL v L) g' ∧ (∀ b, b ≠ o → L b = mL v b) ∧ (kz = 0 → L o 0 = lI z)) := by
  change Ef P _ 153 0 [some (vR h), some (vI a), some (vI b), some (vR o), none] [] _ _
  refine ef_aload_n (pc := 0) d153_0 rfl ?_
  refine ef_iconst (pc := 1) d153_1 (by decide) ?_
  refine ef_aload_n (pc := 2) d153_2 rfl ?_
  refine ef_iload_n (pc := 3) d153_3 rfl ?_
  refine ef_iload_n (pc := 4) d153_4 rfl ?_
  refine ef_callV (pc := 5) d153_5 lm_9_23 (as := [_, _]) rfl rfl (by assumption) rfl rfl (by decide) (Nat.le_of_ble_eq_true rfl) rfl (Nat.le_of_ble_eq_true rfl) ?_
  refine Ec.imp (hc) ?_
  rintro r5 u5 ⟨v, g', rfl, so, hx⟩
  rcases hx with ⟨z, rfl, ha⟩ | ⟨q, rfl, ha⟩
  · refine ef_i2l (pc := 8) d153_8 ?_
    refine eg_last (i := 0) (pc := 9) d153_9 (by assumption) rfl (by omega) ?_
    refine ef_goto (pc := 10) d153_10 (t := 17) rfl ?_
    refine ef_iconst (pc := 17) d153_17 (by decide) ?_
    refine ef_iret (pc := 18) d153_18 rfl ?_
    refine ⟨0, z, v, g', _, rfl, ha, rfl, fun b hb => u2_ne hb, fun _ => ?_⟩
    rw [u2_at]
    rfl
  · show Ef P _ 153 13 _ [vR q] (sI v g') _
    refine ef_astore (pc := 13) d153_13 (ls' := [_, _, _, _, _]) rfl ?_
    refine ef_iconst (pc := 15) d153_15 (by decide) ?_
    refine ef_iret (pc := 16) d153_16 rfl ?_
    exact ⟨1, 0, v, g', mL v, rfl, ha, rfl, fun _ _ => rfl, fun hh => absurd hh (by decide)⟩
theorem h154 {P : Pg} {d : Nat} {u : Mm} {g : Nat → Nat → Int} {h o : Nat} {a : Int} {A : Int → Int → Mm → (Nat → Nat → Int) → Prop} (hb : mS u h = some (100 + 0, 11)) (hc : Ec P d 11 [vR h, vI a] (sI u g) (fun x u' => ∃ v g', u' = sI v g' ∧ mS v o = some (3, 1) ∧ ((∃ z, x = .inl (some (vI z)) ∧ A 0 z v g') ∨ (∃ q, x = .inr (3, q) ∧ A 1 0 v g') ∨ (∃ q, x = .inr (2, q) ∧ A 2 0 v g')))) : Ec P (d + 1) 154 [vR h, vI a, vR o] (sI u g) (fun r u' => ∃ kz z v g' L, r = .inl (some (vI kz)) ∧ A kz z v g' ∧ u' = sI (sL v L) g' ∧ (∀ b, b ≠ o → L b = mL v b) ∧ (kz = 0 → L o 0 = lI z)) := by
  change Ef P _ 154 0 [some (vR h), some (vI a), some (vR o), none] [] _ _
  refine ef_aload_n (pc := 0) d154_0 rfl ?_
  refine ef_iconst (pc := 1) d154_1 (by decide) ?_
  refine ef_aload_n (pc := 2) d154_2 rfl ?_
  refine ef_iload_n (pc := 3) d154_3 rfl ?_
  refine ef_callV (pc := 4) d154_4 lm_9_29 (as := [_]) rfl rfl (by assumption) rfl rfl (by decide) (Nat.le_of_ble_eq_true rfl) rfl (Nat.le_of_ble_eq_true rfl) ?_
  refine Ec.imp (hc) ?_
  rintro r4 u4 ⟨v, g', rfl, so, hx⟩
  rcases hx with ⟨z, rfl, ha⟩ | ⟨q, rfl, ha⟩ | ⟨q, rfl, ha⟩
  · refine ef_i2l (pc := 7) d154_7 ?_
    refine eg_last (i := 0) (pc := 8) d154_8 (by assumption) rfl (by omega) ?_
    refine ef_goto (pc := 9) d154_9 (t := 18) rfl ?_
    refine ef_iconst (pc := 18) d154_18 (by decide) ?_
    refine ef_iret (pc := 19) d154_19 rfl ?_
    refine ⟨0, z, v, g', _, rfl, ha, rfl, fun b hb => u2_ne hb, fun _ => ?_⟩
    rw [u2_at]
    rfl
  · show Ef P _ 154 12 _ [vR q] (sI v g') _
    refine ef_astore_n (pc := 12) d154_12 (ls' := [_, _, _, _]) rfl ?_
    refine ef_iconst (pc := 13) d154_13 (by decide) ?_
    refine ef_iret (pc := 14) d154_14 rfl ?_
    exact ⟨1, 0, v, g', mL v, rfl, ha, rfl, fun _ _ => rfl, fun hh => absurd hh (by decide)⟩
  · show Ef P _ 154 15 _ [vR q] (sI v g') _
    refine ef_astore_n (pc := 15) d154_15 (ls' := [_, _, _, _]) rfl ?_
    refine ef_iconst (pc := 16) d154_16 (by decide) ?_
    refine ef_iret (pc := 17) d154_17 rfl ?_
    exact ⟨2, 0, v, g', mL v, rfl, ha, rfl, fun _ _ => rfl, fun hh => absurd hh (by decide)⟩
theorem h155 {P : Pg} {d : Nat} {u : Mm} {g : Nat → Nat → Int} {h o : Nat} {a : Int} {A : Int → Int → Mm → (Nat → Nat → Int) → Prop} (hb : mS u h = some (100 + 0, 11)) (hc : Ec P d 13 [vR h, vI a] (sI u g) (fun x u' => ∃ v g', u' = sI v g' ∧ mS v o = some (3, 1) ∧ ((∃ z, x = .inl (some (vI z)) ∧ A 0 z v g') ∨ (∃ q, x = .inr (0, q) ∧ A 1 0 v g') ∨ (∃ q, x = .inr (2, q) ∧ A 2 0 v g')))) : Ec P (d + 1) 155 [vR h, vI a, vR o] (sI u g) (fun r u' => ∃ kz z v g' L, r = .inl (some (vI kz)) ∧ A kz z v g' ∧ u' = sI (sL v L) g' ∧ (∀ b, b ≠ o → L b = mL v b) ∧ (kz = 0 → L o 0 = lI z)) := by
  change Ef P _ 155 0 [some (vR h), some (vI a), some (vR o), none] [] _ _
  refine ef_aload_n (pc := 0) d155_0 rfl ?_
  refine ef_iconst (pc := 1) d155_1 (by decide) ?_
  refine ef_aload_n (pc := 2) d155_2 rfl ?_
  refine ef_iload_n (pc := 3) d155_3 rfl ?_
  refine ef_callV (pc := 4) d155_4 lm_9_33 (as := [_]) rfl rfl (by assumption) rfl rfl (by decide) (Nat.le_of_ble_eq_true rfl) rfl (Nat.le_of_ble_eq_true rfl) ?_
  refine Ec.imp (hc) ?_
  rintro r4 u4 ⟨v, g', rfl, so, hx⟩
  rcases hx with ⟨z, rfl, ha⟩ | ⟨q, rfl, ha⟩ | ⟨q, rfl, ha⟩
  · refine ef_i2l (pc := 7) d155_7 ?_
    refine eg_last (i := 0) (pc := 8) d155_8 (by assumption) rfl (by omega) ?_
    refine ef_goto (pc := 9) d155_9 (t := 18) rfl ?_
    refine ef_iconst (pc := 18) d155_18 (by decide) ?_
    refine ef_iret (pc := 19) d155_19 rfl ?_
    refine ⟨0, z, v, g', _, rfl, ha, rfl, fun b hb => u2_ne hb, fun _ => ?_⟩
    rw [u2_at]
    rfl
  · show Ef P _ 155 12 _ [vR q] (sI v g') _
    refine ef_astore_n (pc := 12) d155_12 (ls' := [_, _, _, _]) rfl ?_
    refine ef_iconst (pc := 13) d155_13 (by decide) ?_
    refine ef_iret (pc := 14) d155_14 rfl ?_
    exact ⟨1, 0, v, g', mL v, rfl, ha, rfl, fun _ _ => rfl, fun hh => absurd hh (by decide)⟩
  · show Ef P _ 155 15 _ [vR q] (sI v g') _
    refine ef_astore_n (pc := 15) d155_15 (ls' := [_, _, _, _]) rfl ?_
    refine ef_iconst (pc := 16) d155_16 (by decide) ?_
    refine ef_iret (pc := 17) d155_17 rfl ?_
    exact ⟨2, 0, v, g', mL v, rfl, ha, rfl, fun _ _ => rfl, fun hh => absurd hh (by decide)⟩
theorem h156 {P : Pg} {d : Nat} {u : Mm} {g : Nat → Nat → Int} {h o : Nat} {a : Int} {A : Int → Int → Mm → (Nat → Nat → Int) → Prop} (hb : mS u h = some (100 + 0, 11)) (hc : Ec P d 14 [vR h, vI a] (sI u g) (fun x u' => ∃ v g', u' = sI v g' ∧ mS v o = some (3, 1) ∧ ((∃ z, x = .inl (some (vI z)) ∧ A 0 z v g') ∨ (∃ q, x = .inr (3, q) ∧ A 1 0 v g')))) : Ec P (d + 1) 156 [vR h, vI a, vR o] (sI u g) (fun r u' => ∃ kz z v g' L, r = .inl (some (vI kz)) ∧ A kz z v g' ∧ u' = sI (sL v L) g' ∧ (∀ b, b ≠ o → L b = mL v b) ∧ (kz = 0 → L o 0 = lI z)) := by
  change Ef P _ 156 0 [some (vR h), some (vI a), some (vR o), none] [] _ _
  refine ef_aload_n (pc := 0) d156_0 rfl ?_
  refine ef_iconst (pc := 1) d156_1 (by decide) ?_
  refine ef_aload_n (pc := 2) d156_2 rfl ?_
  refine ef_iload_n (pc := 3) d156_3 rfl ?_
  refine ef_callV (pc := 4) d156_4 lm_9_36 (as := [_]) rfl rfl (by assumption) rfl rfl (by decide) (Nat.le_of_ble_eq_true rfl) rfl (Nat.le_of_ble_eq_true rfl) ?_
  refine Ec.imp (hc) ?_
  rintro r4 u4 ⟨v, g', rfl, so, hx⟩
  rcases hx with ⟨z, rfl, ha⟩ | ⟨q, rfl, ha⟩
  · refine ef_i2l (pc := 7) d156_7 ?_
    refine eg_last (i := 0) (pc := 8) d156_8 (by assumption) rfl (by omega) ?_
    refine ef_goto (pc := 9) d156_9 (t := 15) rfl ?_
    refine ef_iconst (pc := 15) d156_15 (by decide) ?_
    refine ef_iret (pc := 16) d156_16 rfl ?_
    refine ⟨0, z, v, g', _, rfl, ha, rfl, fun b hb => u2_ne hb, fun _ => ?_⟩
    rw [u2_at]
    rfl
  · show Ef P _ 156 12 _ [vR q] (sI v g') _
    refine ef_astore_n (pc := 12) d156_12 (ls' := [_, _, _, _]) rfl ?_
    refine ef_iconst (pc := 13) d156_13 (by decide) ?_
    refine ef_iret (pc := 14) d156_14 rfl ?_
    exact ⟨1, 0, v, g', mL v, rfl, ha, rfl, fun _ _ => rfl, fun hh => absurd hh (by decide)⟩
theorem h157 {P : Pg} {d : Nat} {u : Mm} {g : Nat → Nat → Int} {h o : Nat} {a : Int} {A : Int → Int → Mm → (Nat → Nat → Int) → Prop} (hb : mS u h = some (100 + 0, 11)) (hc : Ec P d 15 [vR h, vI a] (sI u g) (fun x u' => ∃ v g', u' = sI v g' ∧ mS v o = some (3, 1) ∧ ((∃ z, x = .inl (some (vI z)) ∧ A 0 z v g') ∨ (∃ q, x = .inr (3, q) ∧ A 1 0 v g')))) : Ec P (d + 1) 157 [vR h, vI a, vR o] (sI u g) (fun r u' => ∃ kz z v g' L, r = .inl (some (vI kz)) ∧ A kz z v g' ∧ u' = sI (sL v L) g' ∧ (∀ b, b ≠ o → L b = mL v b) ∧ (kz = 0 → L o 0 = lI z)) := by
  change Ef P _ 157 0 [some (vR h), some (vI a), some (vR o), none] [] _ _
  refine ef_aload_n (pc := 0) d157_0 rfl ?_
  refine ef_iconst (pc := 1) d157_1 (by decide) ?_
  refine ef_aload_n (pc := 2) d157_2 rfl ?_
  refine ef_iload_n (pc := 3) d157_3 rfl ?_
  refine ef_callV (pc := 4) d157_4 lm_9_39 (as := [_]) rfl rfl (by assumption) rfl rfl (by decide) (Nat.le_of_ble_eq_true rfl) rfl (Nat.le_of_ble_eq_true rfl) ?_
  refine Ec.imp (hc) ?_
  rintro r4 u4 ⟨v, g', rfl, so, hx⟩
  rcases hx with ⟨z, rfl, ha⟩ | ⟨q, rfl, ha⟩
  · refine ef_i2l (pc := 7) d157_7 ?_
    refine eg_last (i := 0) (pc := 8) d157_8 (by assumption) rfl (by omega) ?_
    refine ef_goto (pc := 9) d157_9 (t := 15) rfl ?_
    refine ef_iconst (pc := 15) d157_15 (by decide) ?_
    refine ef_iret (pc := 16) d157_16 rfl ?_
    refine ⟨0, z, v, g', _, rfl, ha, rfl, fun b hb => u2_ne hb, fun _ => ?_⟩
    rw [u2_at]
    rfl
  · show Ef P _ 157 12 _ [vR q] (sI v g') _
    refine ef_astore_n (pc := 12) d157_12 (ls' := [_, _, _, _]) rfl ?_
    refine ef_iconst (pc := 13) d157_13 (by decide) ?_
    refine ef_iret (pc := 14) d157_14 rfl ?_
    exact ⟨1, 0, v, g', mL v, rfl, ha, rfl, fun _ _ => rfl, fun hh => absurd hh (by decide)⟩
theorem h158 {P : Pg} {d : Nat} {u : Mm} {g : Nat → Nat → Int} {h o : Nat} {a : Int} {A : Int → Int → Mm → (Nat → Nat → Int) → Prop} (hb : mS u h = some (100 + 0, 11)) (hc : Ec P d 16 [vR h, vI a] (sI u g) (fun x u' => ∃ v g', u' = sI v g' ∧ mS v o = some (3, 1) ∧ ((∃ z, x = .inl (some (vI z)) ∧ A 0 z v g') ∨ (∃ q, x = .inr (3, q) ∧ A 1 0 v g')))) : Ec P (d + 1) 158 [vR h, vI a, vR o] (sI u g) (fun r u' => ∃ kz z v g' L, r = .inl (some (vI kz)) ∧ A kz z v g' ∧ u' = sI (sL v L) g' ∧ (∀ b, b ≠ o → L b = mL v b) ∧ (kz = 0 → L o 0 = lI z)) := by
  change Ef P _ 158 0 [some (vR h), some (vI a), some (vR o), none] [] _ _
  refine ef_aload_n (pc := 0) d158_0 rfl ?_
  refine ef_iconst (pc := 1) d158_1 (by decide) ?_
  refine ef_aload_n (pc := 2) d158_2 rfl ?_
  refine ef_iload_n (pc := 3) d158_3 rfl ?_
  refine ef_callV (pc := 4) d158_4 lm_9_42 (as := [_]) rfl rfl (by assumption) rfl rfl (by decide) (Nat.le_of_ble_eq_true rfl) rfl (Nat.le_of_ble_eq_true rfl) ?_
  refine Ec.imp (hc) ?_
  rintro r4 u4 ⟨v, g', rfl, so, hx⟩
  rcases hx with ⟨z, rfl, ha⟩ | ⟨q, rfl, ha⟩
  · refine ef_i2l (pc := 7) d158_7 ?_
    refine eg_last (i := 0) (pc := 8) d158_8 (by assumption) rfl (by omega) ?_
    refine ef_goto (pc := 9) d158_9 (t := 15) rfl ?_
    refine ef_iconst (pc := 15) d158_15 (by decide) ?_
    refine ef_iret (pc := 16) d158_16 rfl ?_
    refine ⟨0, z, v, g', _, rfl, ha, rfl, fun b hb => u2_ne hb, fun _ => ?_⟩
    rw [u2_at]
    rfl
  · show Ef P _ 158 12 _ [vR q] (sI v g') _
    refine ef_astore_n (pc := 12) d158_12 (ls' := [_, _, _, _]) rfl ?_
    refine ef_iconst (pc := 13) d158_13 (by decide) ?_
    refine ef_iret (pc := 14) d158_14 rfl ?_
    exact ⟨1, 0, v, g', mL v, rfl, ha, rfl, fun _ _ => rfl, fun hh => absurd hh (by decide)⟩
theorem h159 {P : Pg} {d : Nat} {u : Mm} {g : Nat → Nat → Int} {h o : Nat} {a : Int} {A : Int → Int → Mm → (Nat → Nat → Int) → Prop} (hb : mS u h = some (100 + 0, 11)) (hc : Ec P d 18 [vR h, vI a] (sI u g) (fun x u' => ∃ v g', u' = sI v g' ∧ mS v o = some (3, 1) ∧ ((∃ z, x = .inl (some (vI z)) ∧ A 0 z v g') ∨ (∃ q, x = .inr (3, q) ∧ A 1 0 v g') ∨ (∃ q, x = .inr (4, q) ∧ A 2 0 v g')))) : Ec P (d + 1) 159 [vR h, vI a, vR o] (sI u g) (fun r u' => ∃ kz z v g' L, r = .inl (some (vI kz)) ∧ A kz z v g' ∧ u' = sI (sL v L) g' ∧ (∀ b, b ≠ o → L b = mL v b) ∧ (kz = 0 → L o 0 = lB z)) := by
  change Ef P _ 159 0 [some (vR h), some (vI a), some (vR o), none] [] _ _
  refine ef_aload_n (pc := 0) d159_0 rfl ?_
  refine ef_iconst (pc := 1) d159_1 (by decide) ?_
  refine ef_aload_n (pc := 2) d159_2 rfl ?_
  refine ef_iload_n (pc := 3) d159_3 rfl ?_
  refine ef_callV (pc := 4) d159_4 lm_9_45 (as := [_]) rfl rfl (by assumption) rfl rfl (by decide) (Nat.le_of_ble_eq_true rfl) rfl (Nat.le_of_ble_eq_true rfl) ?_
  refine Ec.imp (hc) ?_
  rintro r4 u4 ⟨v, g', rfl, so, hx⟩
  rcases hx with ⟨z, rfl, ha⟩ | ⟨q, rfl, ha⟩ | ⟨q, rfl, ha⟩
  · refine ef_if_eq (pc := 7) d159_7 (t := 14) rfl (fun h7 => ?_) (fun h7 => ?_)
    · have hz0 : z = 0 := by omega
      refine ef_lconst (pc := 14) d159_14 ?_
      refine eg_last (i := 0) (pc := 15) d159_15 (by assumption) rfl (by omega) ?_
      refine ef_goto (pc := 16) d159_16 (t := 25) rfl ?_
      refine ef_iconst (pc := 25) d159_25 (by decide) ?_
      refine ef_iret (pc := 26) d159_26 rfl ?_
      refine ⟨0, z, v, g', _, rfl, ha, rfl, fun b hb => u2_ne hb, fun _ => ?_⟩
      rw [u2_at]
      unfold lB
      first | (rw [if_pos hz0]; rfl) | (rw [if_neg hz0]; rfl)
    · have hz0 : z ≠ 0 := by omega
      refine ef_lconst (pc := 10) d159_10 ?_
      refine ef_goto (pc := 11) d159_11 (t := 15) rfl ?_
      refine eg_last (i := 0) (pc := 15) d159_15 (by assumption) rfl (by omega) ?_
      refine ef_goto (pc := 16) d159_16 (t := 25) rfl ?_
      refine ef_iconst (pc := 25) d159_25 (by decide) ?_
      refine ef_iret (pc := 26) d159_26 rfl ?_
      refine ⟨0, z, v, g', _, rfl, ha, rfl, fun b hb => u2_ne hb, fun _ => ?_⟩
      rw [u2_at]
      unfold lB
      first | (rw [if_pos hz0]; rfl) | (rw [if_neg hz0]; rfl)
  · show Ef P _ 159 19 _ [vR q] (sI v g') _
    refine ef_astore_n (pc := 19) d159_19 (ls' := [_, _, _, _]) rfl ?_
    refine ef_iconst (pc := 20) d159_20 (by decide) ?_
    refine ef_iret (pc := 21) d159_21 rfl ?_
    exact ⟨1, 0, v, g', mL v, rfl, ha, rfl, fun _ _ => rfl, fun hh => absurd hh (by decide)⟩
  · show Ef P _ 159 22 _ [vR q] (sI v g') _
    refine ef_astore_n (pc := 22) d159_22 (ls' := [_, _, _, _]) rfl ?_
    refine ef_iconst (pc := 23) d159_23 (by decide) ?_
    refine ef_iret (pc := 24) d159_24 rfl ?_
    exact ⟨2, 0, v, g', mL v, rfl, ha, rfl, fun _ _ => rfl, fun hh => absurd hh (by decide)⟩
theorem h160 {P : Pg} {d : Nat} {u : Mm} {g : Nat → Nat → Int} {h o : Nat} {a : Int} {b : Int} {A : Int → Int → Mm → (Nat → Nat → Int) → Prop} (hb : mS u h = some (100 + 0, 11)) (hc : Ec P d 19 [vR h, vI a, vI b] (sI u g) (fun x u' => ∃ v g', u' = sI v g' ∧ mS v o = some (3, 1) ∧ ((∃ z, x = .inl (some (vI z)) ∧ A 0 z v g') ∨ (∃ q, x = .inr (0, q) ∧ A 1 0 v g')))) : Ec P (d + 1) 160 [vR h, vI a, vI b, vR o] (sI u g) (fun r u' => ∃ kz z v g' L, r = .inl (some (vI kz)) ∧ A kz z v g' ∧ u' = sI (sL v L) g' ∧ (∀ b, b ≠ o → L b = mL v b) ∧ (kz = 0 → L o 0 = lB z)) := by
  change Ef P _ 160 0 [some (vR h), some (vI a), some (vI b), some (vR o), none] [] _ _
  refine ef_aload_n (pc := 0) d160_0 rfl ?_
  refine ef_iconst (pc := 1) d160_1 (by decide) ?_
  refine ef_aload_n (pc := 2) d160_2 rfl ?_
  refine ef_iload_n (pc := 3) d160_3 rfl ?_
  refine ef_iload_n (pc := 4) d160_4 rfl ?_
  refine ef_callV (pc := 5) d160_5 lm_9_51 (as := [_, _]) rfl rfl (by assumption) rfl rfl (by decide) (Nat.le_of_ble_eq_true rfl) rfl (Nat.le_of_ble_eq_true rfl) ?_
  refine Ec.imp (hc) ?_
  rintro r5 u5 ⟨v, g', rfl, so, hx⟩
  rcases hx with ⟨z, rfl, ha⟩ | ⟨q, rfl, ha⟩
  · refine ef_if_eq (pc := 8) d160_8 (t := 15) rfl (fun h8 => ?_) (fun h8 => ?_)
    · have hz0 : z = 0 := by omega
      refine ef_lconst (pc := 15) d160_15 ?_
      refine eg_last (i := 0) (pc := 16) d160_16 (by assumption) rfl (by omega) ?_
      refine ef_goto (pc := 17) d160_17 (t := 24) rfl ?_
      refine ef_iconst (pc := 24) d160_24 (by decide) ?_
      refine ef_iret (pc := 25) d160_25 rfl ?_
      refine ⟨0, z, v, g', _, rfl, ha, rfl, fun b hb => u2_ne hb, fun _ => ?_⟩
      rw [u2_at]
      unfold lB
      first | (rw [if_pos hz0]; rfl) | (rw [if_neg hz0]; rfl)
    · have hz0 : z ≠ 0 := by omega
      refine ef_lconst (pc := 11) d160_11 ?_
      refine ef_goto (pc := 12) d160_12 (t := 16) rfl ?_
      refine eg_last (i := 0) (pc := 16) d160_16 (by assumption) rfl (by omega) ?_
      refine ef_goto (pc := 17) d160_17 (t := 24) rfl ?_
      refine ef_iconst (pc := 24) d160_24 (by decide) ?_
      refine ef_iret (pc := 25) d160_25 rfl ?_
      refine ⟨0, z, v, g', _, rfl, ha, rfl, fun b hb => u2_ne hb, fun _ => ?_⟩
      rw [u2_at]
      unfold lB
      first | (rw [if_pos hz0]; rfl) | (rw [if_neg hz0]; rfl)
  · show Ef P _ 160 20 _ [vR q] (sI v g') _
    refine ef_astore (pc := 20) d160_20 (ls' := [_, _, _, _, _]) rfl ?_
    refine ef_iconst (pc := 22) d160_22 (by decide) ?_
    refine ef_iret (pc := 23) d160_23 rfl ?_
    exact ⟨1, 0, v, g', mL v, rfl, ha, rfl, fun _ _ => rfl, fun hh => absurd hh (by decide)⟩
theorem h161 {P : Pg} {d : Nat} {u : Mm} {g : Nat → Nat → Int} {h o : Nat} {a : Int} {b : Int} {c : Int} {A : Int → Int → Mm → (Nat → Nat → Int) → Prop} (hb : mS u h = some (100 + 0, 11)) (hc : Ec P d 21 [vR h, vI a, vI b, vI c] (sI u g) (fun x u' => ∃ v g', u' = sI v g' ∧ mS v o = some (3, 1) ∧ ((∃ z, x = .inl (some (vI z)) ∧ A 0 z v g') ∨ (∃ q, x = .inr (0, q) ∧ A 1 0 v g')))) : Ec P (d + 1) 161 [vR h, vI a, vI b, vI c, vR o] (sI u g) (fun r u' => ∃ kz z v g' L, r = .inl (some (vI kz)) ∧ A kz z v g' ∧ u' = sI (sL v L) g' ∧ (∀ b, b ≠ o → L b = mL v b) ∧ (kz = 0 → L o 0 = lI z)) := by
  change Ef P _ 161 0 [some (vR h), some (vI a), some (vI b), some (vI c), some (vR o), none] [] _ _
  refine ef_aload (pc := 0) d161_0 rfl ?_
  refine ef_iconst (pc := 2) d161_2 (by decide) ?_
  refine ef_aload_n (pc := 3) d161_3 rfl ?_
  refine ef_iload_n (pc := 4) d161_4 rfl ?_
  refine ef_iload_n (pc := 5) d161_5 rfl ?_
  refine ef_iload_n (pc := 6) d161_6 rfl ?_
  refine ef_callV (pc := 7) d161_7 lm_9_55 (as := [_, _, _]) rfl rfl (by assumption) rfl rfl (by decide) (Nat.le_of_ble_eq_true rfl) rfl (Nat.le_of_ble_eq_true rfl) ?_
  refine Ec.imp (hc) ?_
  rintro r7 u7 ⟨v, g', rfl, so, hx⟩
  rcases hx with ⟨z, rfl, ha⟩ | ⟨q, rfl, ha⟩
  · refine ef_i2l (pc := 10) d161_10 ?_
    refine eg_last (i := 0) (pc := 11) d161_11 (by assumption) rfl (by omega) ?_
    refine ef_goto (pc := 12) d161_12 (t := 19) rfl ?_
    refine ef_iconst (pc := 19) d161_19 (by decide) ?_
    refine ef_iret (pc := 20) d161_20 rfl ?_
    refine ⟨0, z, v, g', _, rfl, ha, rfl, fun b hb => u2_ne hb, fun _ => ?_⟩
    rw [u2_at]
    rfl
  · show Ef P _ 161 15 _ [vR q] (sI v g') _
    refine ef_astore (pc := 15) d161_15 (ls' := [_, _, _, _, _, _]) rfl ?_
    refine ef_iconst (pc := 17) d161_17 (by decide) ?_
    refine ef_iret (pc := 18) d161_18 rfl ?_
    exact ⟨1, 0, v, g', mL v, rfl, ha, rfl, fun _ _ => rfl, fun hh => absurd hh (by decide)⟩
theorem h162 {P : Pg} {d : Nat} {u : Mm} {g : Nat → Nat → Int} {h o : Nat} {a : Int} {A : Int → Int → Mm → (Nat → Nat → Int) → Prop} (hb : mS u h = some (100 + 0, 11)) (hc : Ec P d 22 [vR h, vI a] (sI u g) (fun x u' => ∃ v g', u' = sI v g' ∧ mS v o = some (3, 1) ∧ ((∃ z, x = .inl (some (vI z)) ∧ A 0 z v g') ∨ (∃ q, x = .inr (3, q) ∧ A 1 0 v g')))) : Ec P (d + 1) 162 [vR h, vI a, vR o] (sI u g) (fun r u' => ∃ kz z v g' L, r = .inl (some (vI kz)) ∧ A kz z v g' ∧ u' = sI (sL v L) g' ∧ (∀ b, b ≠ o → L b = mL v b) ∧ (kz = 0 → L o 0 = lI z)) := by
  change Ef P _ 162 0 [some (vR h), some (vI a), some (vR o), none] [] _ _
  refine ef_aload_n (pc := 0) d162_0 rfl ?_
  refine ef_iconst (pc := 1) d162_1 (by decide) ?_
  refine ef_aload_n (pc := 2) d162_2 rfl ?_
  refine ef_iload_n (pc := 3) d162_3 rfl ?_
  refine ef_callV (pc := 4) d162_4 lm_9_59 (as := [_]) rfl rfl (by assumption) rfl rfl (by decide) (Nat.le_of_ble_eq_true rfl) rfl (Nat.le_of_ble_eq_true rfl) ?_
  refine Ec.imp (hc) ?_
  rintro r4 u4 ⟨v, g', rfl, so, hx⟩
  rcases hx with ⟨z, rfl, ha⟩ | ⟨q, rfl, ha⟩
  · refine ef_i2l (pc := 7) d162_7 ?_
    refine eg_last (i := 0) (pc := 8) d162_8 (by assumption) rfl (by omega) ?_
    refine ef_goto (pc := 9) d162_9 (t := 15) rfl ?_
    refine ef_iconst (pc := 15) d162_15 (by decide) ?_
    refine ef_iret (pc := 16) d162_16 rfl ?_
    refine ⟨0, z, v, g', _, rfl, ha, rfl, fun b hb => u2_ne hb, fun _ => ?_⟩
    rw [u2_at]
    rfl
  · show Ef P _ 162 12 _ [vR q] (sI v g') _
    refine ef_astore_n (pc := 12) d162_12 (ls' := [_, _, _, _]) rfl ?_
    refine ef_iconst (pc := 13) d162_13 (by decide) ?_
    refine ef_iret (pc := 14) d162_14 rfl ?_
    exact ⟨1, 0, v, g', mL v, rfl, ha, rfl, fun _ _ => rfl, fun hh => absurd hh (by decide)⟩
