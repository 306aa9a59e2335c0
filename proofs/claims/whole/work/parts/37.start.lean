/-! The law's start: all that was taken as known is there. -/
theorem kW_any {s : State} {w : Cond} (hk : kW w = true) {A : Array Value} (h : w.before A s = true) (A' : Array Value) : w.before A' s = true := by
  cases w
  case fieldLinkNest => exact va_tabs rfl rfl h
  case methodLinkNest => exact va_tabs rfl rfl h
  case castable => exact va_tabs rfl rfl h
  case declares => exact va_tabs rfl rfl h
  all_goals exact word_at (State.WarmedH.refl s) (good_of_word hk) h
theorem Xs_rf (s : State) : Xs s s := ⟨State.WarmedH.refl s, fun _ _ => rfl, fun a cell ha hc => absurd (Array.getElem?_eq_some_iff.mp hc).1 (by omega)⟩
theorem st_1 : Cond.stringRef "MovingBoxes$Term" 84 "><^?" ∈ lw_tbl := tm (i := 479) (by decide +kernel)
theorem st_2 : Cond.stringRef "MovingBoxes$Teller" 125 "><^?" ∈ lw_tbl := tm (i := 632) (by decide +kernel)
theorem st_3 : Cond.laysStatic "java/lang/String" "COMPACT_STRINGS" "Z" ∈ lw_tbl := tm (i := 493) (by decide +kernel)
theorem st_4 : Cond.laysStatic "jdk/internal/util/Preconditions" "SIOOBE_FORMATTER" "Ljava/util/function/BiFunction;" ∈ lw_tbl := tm (i := 536) (by decide +kernel)
theorem st_5 : Cond.initialized "java/lang/String" ∈ lw_tbl := tm (i := 15) (by decide +kernel)
theorem st_6 : Cond.initialized "jdk/internal/util/Preconditions" ∈ lw_tbl := tm (i := 19) (by decide +kernel)
theorem no_cast : ∀ x, x < 5 → ∀ y, y < 5 → x ≠ y → Cond.not (.castable (eN x) (eN y)) ∈ flatC (Jvm.Cond.and given_1 narrow_1) := by decide +kernel
theorem sgn_b : ∀ j : Nat, j < 4 → (([62, 60, 94, 63] : List Int32).getD j 0) = Int32.ofInt (sgnC j) := by decide +kernel
set_option maxRecDepth 100000 in
set_option maxHeartbeats 4000000 in
theorem start_ok {s : State} {b L : Nat} {xs : Nat → Int32} (hts : ∀ w ∈ lw_tbl, w.before #[Value.ref b] s = true) (hX : va_X b L xs s s.heap) (hbl : b < s.heap.size) (hL : L ≤ 2048) (hn : (Jvm.Cond.and given_1 narrow_1).before #[Value.ref b] s = true) :
    ∃ (D : va_G) (dA dX : Nat → ClassId) (P : Pg), SK D dA P s ∧ E0 dX s ∧ T0 P s ∧ pB P = b ∧ pLn P = L ∧ ∀ i, pX P i = (xs i).toInt := by
  have hs := flat_of_before _ hn
  have hA : ∀ a : Nat, a < s.heap.size → ¬ (fun q => s.heap.size ≤ q) a := fun a h => Nat.not_le.mpr h
  have hk : ∀ w ∈ lw_tbl, kW w = true → w.before #[] s = true := fun w hw hk => kW_any hk (hts w hw) _
  -- classes
  have hD : ∀ c : Nat, ∃ q : ClassId × (Nat → Nat), c < 9 → u_Kn s (cNm c) (cTb c) (cNf c) q.1 q.2 := by
    intro c
    by_cases hc : c < 9
    · obtain ⟨cC, iS, h⟩ := u_known (ws := lw_tbl) (args := #[Value.ref b]) hts (lay_in hc) (hts _ (tm (ins_ok c hc)))
      exact ⟨(cC, iS), fun _ => h⟩
    · exact ⟨(0, fun _ => 0), fun h => absurd h hc⟩
  obtain ⟨dq, hdq⟩ := Classical.axiomOfChoice hD
  -- arrays' classes
  have hAr : ∀ k : Nat, ∃ cA : ClassId, okK k → ArrOfT s cA (aT k) ∧ va_RA s cA (aT k) := by
    intro k
    by_cases hk4 : k < 4
    · obtain ⟨cA, kA, comp, h1, h2, h3⟩ := Cond.arrayClass_spec (hts _ (tm (ar_ok k hk4)))
      refine ⟨cA, fun _ => ⟨fun n z => ⟨fun q h => (by cases h), kA, h2, comp, h3⟩, ?_⟩⟩
      rcases k with _ | _ | _ | _ | k <;> first | exact h1 | omega
    · by_cases hk6 : k = 6
      · subst hk6
        obtain ⟨comp, cA, kA, h1, h2, h3, h4, h5⟩ := Cond.arrayOver_spec (hts _ ao_2)
        exact ⟨cA, fun _ => ⟨fun n z => ⟨fun q h => (by cases h), kA, h3, comp, h4⟩, kA, comp, h3, h4, h1, h5⟩⟩
      · by_cases hk8 : k = 8
        · subst hk8
          obtain ⟨comp, cA, kA, h1, h2, h3, h4, h5⟩ := Cond.arrayOver_spec (hts _ ao_4)
          exact ⟨cA, fun _ => ⟨fun n z => ⟨fun q h => (by cases h), kA, h3, comp, h4⟩, kA, comp, h3, h4, h1, h5⟩⟩
        · exact ⟨0, fun h => by unfold okK at h; omega⟩
  obtain ⟨dA, hdA⟩ := Classical.axiomOfChoice hAr
  -- exceptions' classes
  have hXc : ∀ x : Nat, ∃ cX : ClassId, x < 5 → ClassAt s (eN x) cX := by
    intro x
    by_cases hx : x < 5
    · obtain ⟨cC, kC, h1, h2, h3, -⟩ := Cond.instantiable_spec (hts _ (e_in hx (w := .instantiable (eN x) 6) (by simp [eAt])).1)
      exact ⟨cC, fun _ => ⟨h1, kC, h2, h3⟩⟩
    · exact ⟨0, fun h => absurd h hx⟩
  obtain ⟨dX, hdX⟩ := Classical.axiomOfChoice hXc
  -- the signs
  obtain ⟨adK, adV, hS, hev⟩ := vk_Sof (args := #[Value.ref b]) (s := s) (N := 1) (tm := fun _ => .string "MovingBoxes$Term" 84) (len := [4]) (byt := [[62, 60, 94, 63]]) (A := fun q => s.heap.size ≤ q)
    (fun i hi => by rcases (show i = 0 by omega) with rfl; decide) (fun i hi => hs _ (by decide +kernel)) (fun i hi => hs _ (by decide +kernel)) (fun i hi => hs _ (by decide +kernel)) (fun i hi => by rcases (show i = 0 by omega) with rfl; exact hs _ (by decide +kernel))
    (fun i hi j hj => by
      rcases (show i = 0 by omega) with rfl
      rcases (show j = 0 ∨ j = 1 ∨ j = 2 ∨ j = 3 by have : j < 4 := hj; omega) with rfl | rfl | rfl | rfl <;> exact hs _ (by decide +kernel))
    (fun i j hi hj hne => by omega) hA
  obtain ⟨hO, hCo, hVa, hTb⟩ := hS.1 0 (by omega)
  have hev0 : (Term.string "MovingBoxes$Term" 84).eval #[Value.ref b] s none [] s = some (.ref (adK 0)) := hev 0 (by omega)
  have hev1 : (Term.string "MovingBoxes$Teller" 125).eval #[Value.ref b] s none [] s = some (.ref (adK 0)) := by
    have h9 := hs (.eq (.string "MovingBoxes$Term" 84) (.string "MovingBoxes$Teller" 125)) (by decide +kernel)
    obtain ⟨w, h1, h2⟩ := Cond.eq_one (show (Cond.eq (.string "MovingBoxes$Term" 84) (.string "MovingBoxes$Teller" 125)).holds #[Value.ref b] s none s [] = true from h9)
    cases hev0.symm.trans h1
    exact h2
  -- the JDK's statics
  have hZ1 := va_Zof (A := fun q => s.heap.size ≤ q) (hts _ st_3) (hts _ st_5) (va_eqi (hs (.eq (.static "java/lang/String" "COMPACT_STRINGS" "Z") (.int 1)) (by decide +kernel))) hA
  obtain ⟨c4, k4, i4, f4, a4, cell4, hc4, hi4, hst4, ha4, hcell4, hs4, -, -, -⟩ := Cond.laysStatic_spec (hts _ st_4)
  obtain ⟨u4, hu4⟩ := Cond.staticRefV hi4 hst4 ha4 hcell4 hs4 (hs (.isRef (.static "jdk/internal/util/Preconditions" "SIOOBE_FORMATTER" "Ljava/util/function/BiFunction;")) (by decide +kernel))
  obtain ⟨r4, hr4⟩ : ∃ r : Option Nat, u4.v = va_rf r := by
    obtain ⟨v, hv⟩ := u4
    cases v <;> simp [Value.isRef] at hv
    · exact ⟨none, rfl⟩
    · exact ⟨some _, rfl⟩
  have hZ2 : va_Z "jdk/internal/util/Preconditions" "SIOOBE_FORMATTER" "Ljava/util/function/BiFunction;" (va_rf r4) (fun q => s.heap.size ≤ q) s s.heap :=
    ⟨c4, k4, i4, f4, a4, cell4, hi4, hst4, Cond.initialized_spec hc4 (State.fieldFound?_spec hi4).1 (hts _ st_6), ha4, hcell4, hs4, by rw [hu4, hr4], hA _ (Array.getElem?_eq_some_iff.mp hcell4).1⟩
  refine ⟨(fun c => (dq c).1, fun c => (dq c).2), dA, dX, (adK 0, (adV 0, (r4, (b, (L, fun i => (xs i).toInt))))), ?_, ?_, ?_, rfl, rfl, fun i => rfl⟩
  · refine ⟨hk, ⟨fun c q hq => ?_, fun k q hq => by cases hq⟩, hdA, va_AO.of (hts _ ao_2), va_AO.of (hts _ ao_4), vk_R.of (hts _ st_1) hev0, vk_R.of (hts _ st_2) hev1⟩
    have hc : c < 9 := by
      have := (List.getElem?_eq_some_iff.mp hq).1
      simpa [clT] using this
    rw [clT_at hc] at hq
    cases hq
    exact hdq c hc
  · refine ⟨fun w hw hl => ?_, rf_at (Xs_rf s) (hts _ lsU) (hs _ (by decide +kernel)), rf_at (Xs_rf s) (hts _ lsS) (hs _ (by decide +kernel)), hdX, fun x y hx hy hne => ?_⟩
    · have h9 := hts w hw
      cases w <;> simp [eLs] at hl
      exact ls_at (Xs_rf s) h9
    · have h9 := hs _ (no_cast x hx y hy hne)
      have hv := Cond.holds_not_iff.mp (show (Cond.not (.castable (eN x) (eN y))).holds #[Value.ref b] s none s [] = true from h9)
      simp only [Cond.value, (hdX x hx).1, (hdX y hy).1] at hv
      exact Option.some.inj hv
  · refine ⟨hO, hCo, hVa, ?_, hZ1, hZ2, by show L < 65536; omega, hbl, xs, fun i => rfl, hX⟩
    obtain ⟨cell, h1, h2, h3, h4, h5, h6, h7⟩ := hTb
    exact ⟨cell, h1, h2, h3, h4, h5, fun j hj => by
      rw [h6 j hj]
      show some (Value.int (([62, 60, 94, 63] : List Int32).getD j 0)) = some (Value.int (Int32.ofInt (sgnC (j : Int))))
      rw [sgn_b j hj], h7⟩
