/-! The model: shape, the small methods. Written by wip/whole/gen/c80.py. -/
def mdF : Nat → Nat × (Nat × Nat)
  | 0 => (3, (0, 120))
  | 1 => (7, (0, 120))
  | 2 => (8, (0, 51))
  | 3 => (9, (2, 51))
  | 4 => (10, (0, 51))
  | 5 => (11, (0, 51))
  | 6 => (12, (0, 51))
  | 7 => (13, (0, 51))
  | 8 => (15, (0, 20))
  | 9 => (16, (0, 20))
  | 10 => (17, (0, 20))
  | 11 => (18, (0, 21))
  | 12 => (19, (0, 21))
  | 13 => (20, (0, 21))
  | 14 => (21, (0, 40))
  | 15 => (22, (0, 40))
  | 16 => (23, (0, 40))
  | 17 => (24, (0, 40))
  | 18 => (25, (0, 30))
  | 19 => (26, (0, 30))
  | 20 => (27, (0, 30))
  | 21 => (31, (0, 2040))
  | 22 => (32, (0, 40))
  | 23 => (33, (0, 51))
  | 24 => (35, (0, 60))
  | 25 => (36, (0, 60))
  | 26 => (40, (0, 900))
  | 27 => (41, (0, 120))
  | 28 => (42, (0, 120))
  | 29 => (43, (0, 40))
  | 30 => (44, (0, 40))
  | 31 => (45, (0, 40))
  | 32 => (46, (0, 40))
  | 33 => (47, (0, 40))
  | 34 => (50, (0, 3))
  | 35 => (51, (3, 90))
  | 36 => (59, (0, 10048))
  | 37 => (60, (0, 31))
  | 38 => (61, (3, 930))
  | 39 => (62, (0, 31))
  | 40 => (63, (0, 700))
  | 41 => (64, (0, 120))
  | _ => (0, (0, 0))
def MdA (u : Mm) (m : Nat) : Prop := mS u m = some (100 + 8, 67) ∧ ∀ j, j < 42 → mF u m (mdF j).1 = some (m + 1 + j) ∧ mS u (m + 1 + j) = some (mdF j).2
theorem MdA.mv {u v : Mm} {m : Nat} (h : MdA u m) (k : Sm m (m + 43) u v) : MdA v m := ⟨by rw [(k m (by omega) (by omega)).1]; exact h.1, fun j hj => ⟨by rw [(k m (by omega) (by omega)).2]; exact (h.2 j hj).1, by rw [(k (m + 1 + j) (by omega) (by omega)).1]; exact (h.2 j hj).2⟩⟩
theorem c91 {P : Pg} {d : Nat} {u : Mm} {g : Nat → Nat → Int} {m : Nat} (hM : MdA u m) : Ec P d 91 [vR m] (sI u g) (fun x u' => u' = sI u g ∧ x = .inl (some (vI (g m 0)))) := by
  have s0 := hM.1
  change Ef P _ 91 0 [some (vR m)] [] _ _
  refine ef_aload_n (pc := 0) d91_0 rfl ?_
  refine eg_getI (pc := 1) d91_1 lf_8_141 (by assumption) (by decide) ?_
  refine ef_iret (pc := 4) d91_4 rfl ?_
  exact ⟨rfl, rfl⟩
theorem c93 {P : Pg} {d : Nat} {u : Mm} {v a b : Int} : Ec P d 93 [vI v, vI a, vI b] u (fun x u' => u' = u ∧ x = .inl (some (vI (b01 (decide (a ≤ v ∧ v ≤ b)))))) := by
  change Ef P _ 93 0 [some (vI v), some (vI a), some (vI b)] [] _ _
  refine ef_iload_n (pc := 0) d93_0 rfl ?_
  refine ef_iload_n (pc := 1) d93_1 rfl ?_
  refine ef_icmp_lt (pc := 2) d93_2 (t := 14) rfl (fun h2 => ?_) (fun h2 => ?_)
  · rw [decide_eq_false (by omega)]
    refine ef_iconst (pc := 14) d93_14 (by decide) ?_
    refine ef_zret (pc := 15) d93_15 rfl (by omega) ?_
    exact ⟨rfl, rfl⟩
  · refine ef_iload_n (pc := 5) d93_5 rfl ?_
    refine ef_iload_n (pc := 6) d93_6 rfl ?_
    refine ef_icmp_gt (pc := 7) d93_7 (t := 14) rfl (fun h7 => ?_) (fun h7 => ?_)
    · rw [decide_eq_false (by omega)]
      refine ef_iconst (pc := 14) d93_14 (by decide) ?_
      refine ef_zret (pc := 15) d93_15 rfl (by omega) ?_
      exact ⟨rfl, rfl⟩
    · rw [decide_eq_true (by omega)]
      refine ef_iconst (pc := 10) d93_10 (by decide) ?_
      refine ef_goto (pc := 11) d93_11 (t := 15) rfl ?_
      refine ef_zret (pc := 15) d93_15 rfl (by omega) ?_
      exact ⟨rfl, rfl⟩
theorem c94 {P : Pg} {d : Nat} {u : Mm} {g : Nat → Nat → Int} {m : Nat} {k : Int} (hM : MdA u m) : Ec P d 94 [vR m, vI k] (sI u g) (fun x u' => u' = sI u (u2 g m 0 k) ∧ x = .inl (some (vI 0))) := by
  have s0 := hM.1
  change Ef P _ 94 0 [some (vR m), some (vI k)] [] _ _
  refine ef_aload_n (pc := 0) d94_0 rfl ?_
  refine ef_iload_n (pc := 1) d94_1 rfl ?_
  refine eg_putI (pc := 2) d94_2 pf_94_141 (by assumption) (by decide) ?_
  refine ef_iconst (pc := 5) d94_5 (by decide) ?_
  refine ef_iret (pc := 6) d94_6 rfl ?_
  exact ⟨rfl, rfl⟩
theorem c100 {P : Pg} {d : Nat} {u : Mm} {g : Nat → Nat → Int} {m : Nat} {k : Int} (hM : MdA u m) : Ec P d 100 [vR m, vI k] (sI u g) (fun x u' => u' = sI u (u2 g m 1 (if g m 1 = 0 then k else g m 1)) ∧ x = .inl none) := by
  have s0 := hM.1
  change Ef P _ 100 0 [some (vR m), some (vI k)] [] _ _
  refine ef_aload_n (pc := 0) d100_0 rfl ?_
  refine ef_aload_n (pc := 1) d100_1 rfl ?_
  refine eg_getI (pc := 2) d100_2 lf_8_145 (by assumption) (by decide) ?_
  refine ef_if_ne (pc := 5) d100_5 (t := 12) rfl (fun h5 => ?_) (fun h5 => ?_)
  · rw [if_neg h5]
    refine ef_aload_n (pc := 12) d100_12 rfl ?_
    refine eg_getI (pc := 13) d100_13 lf_8_145 (by assumption) (by decide) ?_
    refine eg_putI (pc := 16) d100_16 pf_100_145 (by assumption) (by decide) ?_
    refine ef_vret (pc := 19) d100_19 rfl ?_
    exact ⟨rfl, rfl⟩
  · rw [if_pos h5]
    refine ef_iload_n (pc := 8) d100_8 rfl ?_
    refine ef_goto (pc := 9) d100_9 (t := 16) rfl ?_
    refine eg_putI (pc := 16) d100_16 pf_100_145 (by assumption) (by decide) ?_
    refine ef_vret (pc := 19) d100_19 rfl ?_
    exact ⟨rfl, rfl⟩
