/-! The model: joining pieces. Written by wip/whole/gen/c89.py. -/
def brk (br : Int) (l : List (List Int)) : List Int := if br = 91 then [91] ++ (jnL false l ++ [93]) else jnL (decide (br = 40)) l
theorem swp {L Z : List (Nat × Nat)} {x y : Nat × Nat} {i : Nat} (h1 : i ≠ L.length) (h2 : i ≠ L.length + 1) : (L ++ x :: y :: Z)[i]? = (L ++ y :: x :: Z)[i]? := by
  rcases Nat.lt_or_ge i L.length with h | h
  · rw [List.getElem?_append_left h, List.getElem?_append_left h]
  · rw [List.getElem?_append_right h, List.getElem?_append_right h]
    obtain ⟨k, hk⟩ : ∃ k, i - L.length = k + 2 := ⟨i - L.length - 2, by omega⟩
    rw [hk]; rfl
theorem insP_ok {W : List Int} {L1 L2 : List (Nat × Nat)} {x : Nat × Nat} {T : List (List Int)} (h : (L1 ++ L2).map (sub W) = srtT T) (h2 : ∀ y, y ∈ L2 → lexL (sub W x) (sub W y) = true) (h3 : L1 = [] ∨ ∃ L y, L1 = L ++ [y] ∧ lexL (sub W x) (sub W y) = false) : (L1 ++ x :: L2).map (sub W) = srtT (T ++ [sub W x]) := by
  rw [srtT_snoc, ← h, insT_at ((L1 ++ L2).map (sub W)) L1.length (by rw [h]; exact srtT_or _) (by rw [List.length_map, List.length_append]; omega) ?_ ?_]
  · rw [List.map_append, List.map_append, List.map_cons]
    rw [show L1.length = (L1.map (sub W)).length by rw [List.length_map], List.take_left, List.drop_left]
  · intro k y hk hy
    rw [List.getElem?_map, List.getElem?_append_right hk] at hy
    cases hz : L2[k - L1.length]? with
    | none => rw [hz] at hy; cases hy
    | some z =>
      rw [hz] at hy
      cases hy
      exact h2 z (List.mem_of_getElem? hz)
  · rcases h3 with h3 | ⟨L, y, h3, h4⟩
    · exact Or.inl (by rw [h3]; rfl)
    · refine Or.inr ⟨sub W y, by rw [h3, List.length_append]; exact Nat.succ_pos _, ?_, h4⟩
      have hl : L1.length - 1 = L.length := by rw [h3, List.length_append]; rfl
      rw [List.getElem?_map, hl, h3, List.append_assoc, List.getElem?_append_right (Nat.le_refl _), Nat.sub_self]
      rfl
theorem il_snoc {x : List Int} : ∀ (l : List (List Int)) (b : Bool), ilF b (l ++ [x]) = ilF b l ++ ((if b = true ∨ l ≠ [] then [124] else []) ++ x) := by
  intro l
  induction l with
  | nil => intro b; cases b <;> simp [ilF]
  | cons y l ih =>
    intro b
    rw [List.cons_append, ilF, ih true, ilF]
    simp
theorem brk_eq {br : Int} {l : List (List Int)} {rd : Bool} (hb : br = 0 ∨ br = 40 ∨ br = 91) (hr : rd = true ↔ (br = 91 ∨ (br = 40 ∧ 1 < l.length))) : (if rd = true then [br] else []) ++ ((if l.length = 0 then [48] else []) ++ (ilF false l ++ (if rd = true then [if br = 91 then 93 else 41] else []))) = brk br l := by
  unfold brk jnL joinL
  by_cases h0 : l = []
  · subst h0
    rcases hb with rfl | rfl | rfl
    · have hrd : rd = false := by
        cases rd
        · rfl
        · have := hr.mp rfl; simp at this
      subst hrd; rfl
    · have hrd : rd = false := by
        cases rd
        · rfl
        · have := hr.mp rfl; simp at this
      subst hrd; rfl
    · have hrd : rd = true := hr.mpr (Or.inl rfl)
      subst hrd; rfl
  · have h0l : ¬ l.length = 0 := fun h => h0 (List.length_eq_zero_iff.mp h)
    rcases hb with rfl | rfl | rfl
    · have hrd : rd = false := by
        cases rd
        · rfl
        · have := hr.mp rfl; omega
      subst hrd
      simp [h0]
    · by_cases h1 : l.length = 1
      · have hrd : rd = false := by
          cases rd
          · rfl
          · have := hr.mp rfl; omega
        subst hrd
        simp [h0, h1]
      · have hrd : rd = true := hr.mpr (Or.inr ⟨rfl, by omega⟩)
        subst hrd
        simp [h0, h1]
    · have hrd : rd = true := hr.mpr (Or.inl rfl)
      subst hrd
      simp [h0]
theorem c123 {P : Pg} {d : Nat} {u : Mm} {g : Nat → Nat → Int} {m : Nat} {W : List Int} {b st : Nat} {br : Int} {Q : List (Nat × Nat)} (hM : MdA u m) (hbr : br = 0 ∨ br = 40 ∨ br = 91) (hWl : W.length ≤ 640) (h30 : g m 30 = 0) (hW : Row (g (m + 27)) W) (hs : g m 38 = ((b + Q.length : Nat) : Int)) (hs2 : b + Q.length < 119) (hQ : PcR g m b W.length Q) (hst : st ≤ W.length) (hst0 : b = 0 → st = 0) (hst1 : 0 < b → ∃ f0 h0 : Nat, g (m + 28) (b - 1) = (f0 : Int) ∧ g (m + 42) (b - 1) = (h0 : Int) ∧ f0 + h0 = st) : Ec P (d + 1) 123 [vR m, vI (b : Int), vI br] (sI u g) (fun x u' => ∃ g', u' = sI u g' ∧ x = .inl none ∧ DQ g' m (W.take st ++ brk br (srtT (Q.map (sub W)))) ∧ g' m 38 = (b : Int) ∧ (0 < b → (∀ i, i < b → g' (m + 28) i = g (m + 28) i) ∧ (∀ i, i + 1 < b → g' (m + 29) i = g (m + 29) i) ∧ ((W.take st ++ brk br (srtT (Q.map (sub W)))).length ≤ 640 → g' (m + 29) (b - 1) = ((W.take st ++ brk br (srtT (Q.map (sub W)))).length : Int) - g (m + 28) (b - 1)) ∧ g' m 49 = g m 49) ∧ (b = 0 → (W.take st ++ brk br (srtT (Q.map (sub W)))).length ≤ 640 → g' m 49 = ((W.take st ++ brk br (srtT (Q.map (sub W)))).length : Int)) ∧ (∀ a, a ≠ m → a ≠ m + 27 → a ≠ m + 28 → a ≠ m + 29 → a ≠ m + 41 → g' a = g a) ∧ (∀ f, f ≠ 30 → f ≠ 37 → f ≠ 38 → f ≠ 49 → g' m f = g m f)) := by
  have s0 := hM.1
  have f40 : mF u m 40 = some (m + 27) := (hM.2 26 (by decide)).1
  have s40 : mS u (m + 27) = some (0, 900) := (hM.2 26 (by decide)).2
  have f41 : mF u m 41 = some (m + 28) := (hM.2 27 (by decide)).1
  have s41 : mS u (m + 28) = some (0, 120) := (hM.2 27 (by decide)).2
  have f42 : mF u m 42 = some (m + 29) := (hM.2 28 (by decide)).1
  have s42 : mS u (m + 29) = some (0, 120) := (hM.2 28 (by decide)).2
  have f63 : mF u m 63 = some (m + 41) := (hM.2 40 (by decide)).1
  have s63 : mS u (m + 41) = some (0, 700) := (hM.2 40 (by decide)).2
  have f64 : mF u m 64 = some (m + 42) := (hM.2 41 (by decide)).1
  have s64 : mS u (m + 42) = some (0, 120) := (hM.2 41 (by decide)).2
  -- C: writing back
  have wr : ∀ (g1 : Nat → Nat → Int) (J : List Int) (nj : Nat) (y5 : Int) (v6 v7 : Option Vl), J = brk br (srtT (Q.map (sub W))) → CQ g1 m J nj → (∀ a, a ≠ m + 28 → a ≠ m + 29 → a ≠ m + 41 → g1 a = g a) → (∀ i, i < b → g1 (m + 28) i = g (m + 28) i ∧ g1 (m + 29) i = g (m + 29) i) → Ef P (d + 1) 123 287 [some (vR m), some (vI (b : Int)), some (vI br), some (vI (Q.length : Int)), some (vI (nj : Int)), some (vI y5), v6, v7] [] (sI u g1) (fun x u' => ∃ g', u' = sI u g' ∧ x = .inl none ∧ DQ g' m (W.take st ++ brk br (srtT (Q.map (sub W)))) ∧ g' m 38 = (b : Int) ∧ (0 < b → (∀ i, i < b → g' (m + 28) i = g (m + 28) i) ∧ (∀ i, i + 1 < b → g' (m + 29) i = g (m + 29) i) ∧ ((W.take st ++ brk br (srtT (Q.map (sub W)))).length ≤ 640 → g' (m + 29) (b - 1) = ((W.take st ++ brk br (srtT (Q.map (sub W)))).length : Int) - g (m + 28) (b - 1)) ∧ g' m 49 = g m 49) ∧ (b = 0 → (W.take st ++ brk br (srtT (Q.map (sub W)))).length ≤ 640 → g' m 49 = ((W.take st ++ brk br (srtT (Q.map (sub W)))).length : Int)) ∧ (∀ a, a ≠ m → a ≠ m + 27 → a ≠ m + 28 → a ≠ m + 29 → a ≠ m + 41 → g' a = g a) ∧ (∀ f, f ≠ 30 → f ≠ 37 → f ≠ 38 → f ≠ 49 → g' m f = g m f)) := by
    intro g1 J nj y5 v6 v7 hJ hc o1 r1
    obtain ⟨j1, j2, j3, j4⟩ := id hc
    have njJ : nj ≤ J.length := by
      rcases Nat.lt_or_ge 700 J.length with h | h
      · omega
      · have := j2 h; omega
    -- the loop
    have loop : ∀ k, k ≤ nj → ∀ g2 v7, v7 = some (vI (k : Int)) → DQ g2 m (W.take st ++ J.take k) → (∀ a, a ≠ m → a ≠ m + 27 → g2 a = g1 a) → (∀ f, f ≠ 30 → f ≠ 37 → f ≠ 38 → g2 m f = g1 m f) → g2 m 38 = (b : Int) → Ef P (d + 1) 123 328 [some (vR m), some (vI (b : Int)), some (vI br), some (vI (Q.length : Int)), some (vI (nj : Int)), some (vI y5), some (vI (st : Int)), v7] [] (sI u g2) (fun x u' => ∃ g', u' = sI u g' ∧ x = .inl none ∧ DQ g' m (W.take st ++ brk br (srtT (Q.map (sub W)))) ∧ g' m 38 = (b : Int) ∧ (0 < b → (∀ i, i < b → g' (m + 28) i = g (m + 28) i) ∧ (∀ i, i + 1 < b → g' (m + 29) i = g (m + 29) i) ∧ ((W.take st ++ brk br (srtT (Q.map (sub W)))).length ≤ 640 → g' (m + 29) (b - 1) = ((W.take st ++ brk br (srtT (Q.map (sub W)))).length : Int) - g (m + 28) (b - 1)) ∧ g' m 49 = g m 49) ∧ (b = 0 → (W.take st ++ brk br (srtT (Q.map (sub W)))).length ≤ 640 → g' m 49 = ((W.take st ++ brk br (srtT (Q.map (sub W)))).length : Int)) ∧ (∀ a, a ≠ m → a ≠ m + 27 → a ≠ m + 28 → a ≠ m + 29 → a ≠ m + 41 → g' a = g a) ∧ (∀ f, f ≠ 30 → f ≠ 37 → f ≠ 38 → f ≠ 49 → g' m f = g m f)) := by
      refine nat_loop nj ?_
      intro k hk ih g2 v7 hv7 dq a2 b2 s2
      subst hv7
      refine ef_iload (pc := 328) d123_328 rfl ?_
      refine ef_iload (pc := 330) d123_330 rfl ?_
      refine ef_icmp_ge (pc := 332) d123_332 (t := 352) rfl (fun h332 => ?_) (fun h332 => ?_)
      · have hkn : k = nj := by omega
        subst hkn
        have dJ : DQ g2 m (W.take st ++ brk br (srtT (Q.map (sub W)))) := by
          rw [← hJ]
          rcases Nat.lt_or_ge 700 J.length with h | h
          · have hk7 := j3 h
            have hl1 : 640 < (W.take st ++ J.take k).length := by rw [List.length_append, List.length_take (l := J)]; omega
            rcases dq with ⟨w1, -⟩ | ⟨-, w2, w3⟩
            · omega
            · exact Or.inr ⟨by rw [List.length_append]; omega, w2, w3⟩
          · have hk7 := j2 h
            rw [hk7, List.take_length] at dq
            exact dq
        obtain ⟨-, nu, hnu, hnu2⟩ := dJ.used
        refine ef_iload_n (pc := 352) d123_352 rfl ?_
        refine ef_if_le (pc := 353) d123_353 (t := 380) rfl (fun h353 => ?_) (fun h353 => ?_)
        · refine ef_aload_n (pc := 380) d123_380 rfl ?_
          refine ef_aload_n (pc := 381) d123_381 rfl ?_
          refine eg_getI (pc := 382) d123_382 lf_8_239 (by assumption) (by decide) ?_
          rw [hnu2]
          refine eg_putI (pc := 385) d123_385 pf_123_219 (by assumption) (by decide) ?_
          refine ef_vret (pc := 388) d123_388 rfl ?_
          refine ⟨_, rfl, rfl, dJ.of (by rw [u2_ni (by omega)]) (by rw [u2_ni (by omega)]) (u2_ne (by omega)), by rw [u2_ni (by omega)]; exact s2, fun h => by omega, fun _ hle => ?_, ?_, ?_⟩
          · rw [u2_at]
            rcases dJ with ⟨w1, w2, w3, -⟩ | ⟨w1, -⟩
            · rw [hnu2] at w3; exact w3
            · omega
          · intro a h1 h2 h3 h4 h5; rw [u2_ne h1, a2 a h1 h2, o1 a h3 h4 h5]
          · intro f h1 h2 h3 h4; rw [u2_ni h4, b2 f h1 h2 h3, o1 _ (by omega) (by omega) (by omega)]
        · have hb1 : 0 < b := by omega
          obtain ⟨f0, h0, e1, e2, e3⟩ := hst1 hb1
          have q28 : g2 (m + 28) (b - 1) = (f0 : Int) := by rw [a2 _ (by omega) (by omega), (r1 _ (by omega)).1]; exact e1
          refine ef_aload_n (pc := 356) d123_356 rfl ?_
          refine eg_getR (pc := 357) d123_357 lf_8_95 (by assumption) (by decide) (by assumption) ?_
          refine ef_iload_n (pc := 360) d123_360 rfl ?_
          refine ef_iconst (pc := 361) d123_361 (by decide) ?_
          refine ef_isub (pc := 362) d123_362 (z := ((b - 1 : Nat) : Int)) (by omega) ⟨by omega, by omega⟩ ?_
          refine ef_aload_n (pc := 363) d123_363 rfl ?_
          refine eg_getI (pc := 364) d123_364 lf_8_239 (by assumption) (by decide) ?_
          rw [hnu2]
          refine ef_aload_n (pc := 367) d123_367 rfl ?_
          refine eg_getR (pc := 368) d123_368 lf_8_92 (by assumption) (by decide) (by assumption) ?_
          refine ef_iload_n (pc := 371) d123_371 rfl ?_
          refine ef_iconst (pc := 372) d123_372 (by decide) ?_
          refine ef_isub (pc := 373) d123_373 (z := ((b - 1 : Nat) : Int)) (by omega) ⟨by omega, by omega⟩ ?_
          refine eg_iald (pc := 374) d123_374 (i := b - 1) (by assumption) (rfl) (by omega) ?_
          rw [q28]
          refine ef_isub (pc := 375) d123_375 rfl ⟨by omega, by omega⟩ ?_
          refine eg_iast (pc := 376) d123_376 (i := b - 1) (by assumption) (rfl) (by omega) rfl ?_
          refine ef_goto (pc := 377) d123_377 (t := 388) rfl ?_
          refine ef_vret (pc := 388) d123_388 rfl ?_
          refine ⟨_, rfl, rfl, dJ.of (by rw [u2_ne (by omega)]) (by rw [u2_ne (by omega)]) (u2_ne (by omega)), by rw [u2_ne (by omega)]; exact s2, fun _ => ⟨fun i hi => ?_, fun i hi => ?_, fun hle => ?_, ?_⟩, fun h => by omega, ?_, ?_⟩
          · rw [u2_ne (by omega), a2 _ (by omega) (by omega)]; exact (r1 i hi).1
          · rw [u2_ni (by omega), a2 _ (by omega) (by omega)]; exact (r1 i (by omega)).2
          · rw [u2_at, e1]
            rcases dJ with ⟨w1, w2, w3, -⟩ | ⟨w1, -⟩
            · rw [hnu2] at w3; rw [w3]
            · omega
          · rw [u2_ne (by omega), b2 49 (by decide) (by decide) (by decide), o1 _ (by omega) (by omega) (by omega)]
          · intro a h1 h2 h3 h4 h5; rw [u2_ne h4, a2 a h1 h2, o1 a h3 h4 h5]
          · intro f h1 h2 h3 h4; rw [u2_ne (by omega), b2 f h1 h2 h3, o1 _ (by omega) (by omega) (by omega)]
      · have hkl : k < nj := by omega
        obtain ⟨cj, hcj, -⟩ := get_of_lt (L := J) (i := k) (by omega)
        have hpc : g2 (m + 41) k = cj := by rw [a2 _ (by omega) (by omega)]; exact j4 k cj (by omega) hcj
        refine ef_aload_n (pc := 335) d123_335 rfl ?_
        refine ef_aload_n (pc := 336) d123_336 rfl ?_
        refine eg_getR (pc := 337) d123_337 lf_8_132 (by assumption) (by decide) (by assumption) ?_
        refine ef_iload (pc := 340) d123_340 rfl ?_
        refine eg_iald (pc := 342) d123_342 (i := k) (by assumption) (rfl) (by omega) ?_
        rw [hpc]
        refine ef_callV (pc := 343) d123_343 lm_8_242 (as := [_]) rfl rfl (by assumption) rfl rfl (by decide) (Nat.le_of_ble_eq_true rfl) rfl (Nat.le_of_ble_eq_true rfl) ?_
        refine Ec.imp (c118 hM dq) ?_
        rintro r343 u343 ⟨g3, rfl, rfl, d3, a3, b3⟩
        refine ef_iinc (pc := 346) d123_346 (ls' := [_, _, _, _, _, _, _, _]) (z := ((k + 1 : Nat) : Int)) rfl (by decide) (by omega) ⟨by omega, by omega⟩ rfl ?_
        refine ef_goto (pc := 349) d123_349 (t := 328) rfl ?_
        refine ih hkl g3 _ rfl ?_ (fun a h1 h2 => (a3 a h1 h2).trans (a2 a h1 h2)) (fun f h1 h2 h3 => (b3 f h1 h2).trans (b2 f h1 h2 h3)) ((b3 38 (by decide) (by decide)).trans s2)
        rw [List.take_add_one, hcj, ← List.append_assoc]
        exact d3
    refine ef_aload_n (pc := 287) d123_287 rfl ?_
    refine ef_iload_n (pc := 288) d123_288 rfl ?_
    refine eg_putI (pc := 289) d123_289 pf_123_248 (by assumption) (by decide) ?_
    refine ef_iload_n (pc := 292) d123_292 rfl ?_
    refine ef_if_le (pc := 293) d123_293 (t := 316) rfl (fun h293 => ?_) (fun h293 => ?_)
    · have hb0 : b = 0 := by omega
      have hs0 := hst0 hb0
      subst hs0
      refine ef_iconst (pc := 316) d123_316 (by decide) ?_
      refine ef_istore (pc := 317) d123_317 (ls' := [_, _, _, _, _, _, _, _]) rfl ?_
      refine ef_aload_n (pc := 319) d123_319 rfl ?_
      refine ef_iload (pc := 320) d123_320 rfl ?_
      refine eg_putI (pc := 322) d123_322 pf_123_239 (by assumption) (by decide) ?_
      refine ef_iconst (pc := 325) d123_325 (by decide) ?_
      refine ef_istore (pc := 326) d123_326 (ls' := [_, _, _, _, _, _, _, _]) rfl ?_
      have hJ0 : J.take 0 = [] := rfl
      refine loop 0 (Nat.zero_le _) _ _ rfl ?_ (fun a h1 h2 => by rw [u2_ne h1, u2_ne h1]) (fun f h1 h2 h3 => by rw [u2_ni h2, u2_ni h3]) (by rw [u2_ni (by omega), u2_at])
      refine Or.inl ⟨?_, ?_, ?_, ?_⟩
      · rw [hJ0, List.append_nil, List.length_take]; omega
      · rw [u2_ni (by omega), u2_ni (by omega), o1 _ (by omega) (by omega) (by omega)]; exact h30
      · rw [u2_at, hJ0, List.append_nil, List.length_take]; omega
      · rw [u2_ne (by omega), u2_ne (by omega), o1 _ (by omega) (by omega) (by omega), hJ0, List.append_nil]
        intro i c hc
        have hi := (List.getElem?_eq_some_iff.mp hc).1
        rw [List.length_take] at hi
        rw [List.getElem?_take_of_lt (by omega)] at hc
        exact hW i c hc
    · have hb1 : 0 < b := by omega
      obtain ⟨f0, h0, e1, e2, e3⟩ := hst1 hb1
      have q28 : u2 g1 m 38 (b : Int) (m + 28) (b - 1) = (f0 : Int) := by rw [u2_ne (by omega), (r1 _ (by omega)).1]; exact e1
      have q42 : u2 g1 m 38 (b : Int) (m + 42) (b - 1) = (h0 : Int) := by rw [u2_ne (by omega), o1 _ (by omega) (by omega) (by omega)]; exact e2
      refine ef_aload_n (pc := 296) d123_296 rfl ?_
      refine eg_getR (pc := 297) d123_297 lf_8_92 (by assumption) (by decide) (by assumption) ?_
      refine ef_iload_n (pc := 300) d123_300 rfl ?_
      refine ef_iconst (pc := 301) d123_301 (by decide) ?_
      refine ef_isub (pc := 302) d123_302 (z := ((b - 1 : Nat) : Int)) (by omega) ⟨by omega, by omega⟩ ?_
      refine eg_iald (pc := 303) d123_303 (i := b - 1) (by assumption) (rfl) (by omega) ?_
      rw [q28]
      refine ef_aload_n (pc := 304) d123_304 rfl ?_
      refine eg_getR (pc := 305) d123_305 lf_8_135 (by assumption) (by decide) (by assumption) ?_
      refine ef_iload_n (pc := 308) d123_308 rfl ?_
      refine ef_iconst (pc := 309) d123_309 (by decide) ?_
      refine ef_isub (pc := 310) d123_310 (z := ((b - 1 : Nat) : Int)) (by omega) ⟨by omega, by omega⟩ ?_
      refine eg_iald (pc := 311) d123_311 (i := b - 1) (by assumption) (rfl) (by omega) ?_
      rw [q42]
      refine ef_iadd (pc := 312) d123_312 (z := (st : Int)) (by omega) ⟨by omega, by omega⟩ ?_
      refine ef_goto (pc := 313) d123_313 (t := 317) rfl ?_
      refine ef_istore (pc := 317) d123_317 (ls' := [_, _, _, _, _, _, _, _]) rfl ?_
      refine ef_aload_n (pc := 319) d123_319 rfl ?_
      refine ef_iload (pc := 320) d123_320 rfl ?_
      refine eg_putI (pc := 322) d123_322 pf_123_239 (by assumption) (by decide) ?_
      refine ef_iconst (pc := 325) d123_325 (by decide) ?_
      refine ef_istore (pc := 326) d123_326 (ls' := [_, _, _, _, _, _, _, _]) rfl ?_
      have hJ0 : J.take 0 = [] := rfl
      refine loop 0 (Nat.zero_le _) _ _ rfl ?_ (fun a h1 h2 => by rw [u2_ne h1, u2_ne h1]) (fun f h1 h2 h3 => by rw [u2_ni h2, u2_ni h3]) (by rw [u2_ni (by omega), u2_at])
      refine Or.inl ⟨?_, ?_, ?_, ?_⟩
      · rw [hJ0, List.append_nil, List.length_take]; omega
      · rw [u2_ni (by omega), u2_ni (by omega), o1 _ (by omega) (by omega) (by omega)]; exact h30
      · rw [u2_at, hJ0, List.append_nil, List.length_take]; omega
      · rw [u2_ne (by omega), u2_ne (by omega), o1 _ (by omega) (by omega) (by omega), hJ0, List.append_nil]
        intro i c hc
        have hi := (List.getElem?_eq_some_iff.mp hc).1
        rw [List.length_take] at hi
        rw [List.getElem?_take_of_lt (by omega)] at hc
        exact hW i c hc
  have cp : ∀ (g1 : Nat → Nat → Int) (L : List (Nat × Nat)) (v4 v5 v6 v7 : Option Vl), L.length = Q.length → L.map (sub W) = srtT (Q.map (sub W)) → PcR g1 m b W.length L → (∀ a, a ≠ m + 28 → a ≠ m + 29 → g1 a = g a) → (∀ i, i < b → g1 (m + 28) i = g (m + 28) i ∧ g1 (m + 29) i = g (m + 29) i) → Ef P (d + 1) 123 128 [some (vR m), some (vI (b : Int)), some (vI br), some (vI (Q.length : Int)), v4, v5, v6, v7] [] (sI u g1) (fun x u' => ∃ g', u' = sI u g' ∧ x = .inl none ∧ DQ g' m (W.take st ++ brk br (srtT (Q.map (sub W)))) ∧ g' m 38 = (b : Int) ∧ (0 < b → (∀ i, i < b → g' (m + 28) i = g (m + 28) i) ∧ (∀ i, i + 1 < b → g' (m + 29) i = g (m + 29) i) ∧ ((W.take st ++ brk br (srtT (Q.map (sub W)))).length ≤ 640 → g' (m + 29) (b - 1) = ((W.take st ++ brk br (srtT (Q.map (sub W)))).length : Int) - g (m + 28) (b - 1)) ∧ g' m 49 = g m 49) ∧ (b = 0 → (W.take st ++ brk br (srtT (Q.map (sub W)))).length ≤ 640 → g' m 49 = ((W.take st ++ brk br (srtT (Q.map (sub W)))).length : Int)) ∧ (∀ a, a ≠ m → a ≠ m + 27 → a ≠ m + 28 → a ≠ m + 29 → a ≠ m + 41 → g' a = g a) ∧ (∀ f, f ≠ 30 → f ≠ 37 → f ≠ 38 → f ≠ 49 → g' m f = g m f)) := by
    intro g1 L v4 v5 v6 v7 hLl hLs hL o1 r1
    have s1 : g1 m 38 = ((b + Q.length : Nat) : Int) := by rw [o1 _ (by omega) (by omega)]; exact hs
    have hlt : (srtT (Q.map (sub W))).length = Q.length := by rw [srtT_len, List.length_map]
    -- the close
    have close : ∀ (rd : Bool), (rd = true ↔ (br = 91 ∨ (br = 40 ∧ 1 < Q.length))) → ∀ (g2 : Nat → Nat → Int) (J : List Int) (nj : Nat) (v6 v7 : Option Vl), CQ g2 m J nj → (∀ a, a ≠ m + 41 → g2 a = g1 a) → J = (if rd = true then [br] else []) ++ ((if Q.length = 0 then [48] else []) ++ ilF false (L.map (sub W))) → Ef P (d + 1) 123 261 [some (vR m), some (vI (b : Int)), some (vI br), some (vI (Q.length : Int)), some (vI (nj : Int)), some (vI (b01 rd)), v6, v7] [] (sI u g2) (fun x u' => ∃ g', u' = sI u g' ∧ x = .inl none ∧ DQ g' m (W.take st ++ brk br (srtT (Q.map (sub W)))) ∧ g' m 38 = (b : Int) ∧ (0 < b → (∀ i, i < b → g' (m + 28) i = g (m + 28) i) ∧ (∀ i, i + 1 < b → g' (m + 29) i = g (m + 29) i) ∧ ((W.take st ++ brk br (srtT (Q.map (sub W)))).length ≤ 640 → g' (m + 29) (b - 1) = ((W.take st ++ brk br (srtT (Q.map (sub W)))).length : Int) - g (m + 28) (b - 1)) ∧ g' m 49 = g m 49) ∧ (b = 0 → (W.take st ++ brk br (srtT (Q.map (sub W)))).length ≤ 640 → g' m 49 = ((W.take st ++ brk br (srtT (Q.map (sub W)))).length : Int)) ∧ (∀ a, a ≠ m → a ≠ m + 27 → a ≠ m + 28 → a ≠ m + 29 → a ≠ m + 41 → g' a = g a) ∧ (∀ f, f ≠ 30 → f ≠ 37 → f ≠ 38 → f ≠ 49 → g' m f = g m f)) := by
      intro rd hrd g2 J nj v6 v7 hc o2 hJ
      have hbe := brk_eq (l := srtT (Q.map (sub W))) (rd := rd) hbr (by rw [hlt]; exact hrd)
      have oo : ∀ a, a ≠ m + 28 → a ≠ m + 29 → a ≠ m + 41 → g2 a = g a := fun a h1 h2 h3 => (o2 a h3).trans (o1 a h1 h2)
      have rr : ∀ i, i < b → g2 (m + 28) i = g (m + 28) i ∧ g2 (m + 29) i = g (m + 29) i := fun i hi => by rw [o2 _ (by omega), o2 _ (by omega)]; exact r1 i hi
      refine ef_iload (pc := 261) d123_261 rfl ?_
      refine ef_if_eq (pc := 263) d123_263 (t := 287) rfl (fun h263 => ?_) (fun h263 => ?_)
      · have hrf := b01_t h263
        first
        | (refine wr g3 (J ++ [if br = 91 then 93 else 41]) n3 _ _ _ ?_ c3 (fun a h1 h2 h3 => (o3 a h3).trans (oo a h1 h2 h3)) (fun i hi => by rw [o3 _ (by omega), o3 _ (by omega)]; exact rr i hi)
           rw [← hbe, hJ, hLs, hlt, hrt]
           simp)
        | (refine wr g2 J nj _ _ _ ?_ hc oo rr
           rw [← hbe, hJ, hLs, hlt, hrf]
           simp)
      · have hrt := b01_f h263
        refine ef_aload_n (pc := 266) d123_266 rfl ?_
        refine ef_iload (pc := 267) d123_267 rfl ?_
        refine ef_iload_n (pc := 269) d123_269 rfl ?_
        refine ef_bipush (pc := 270) d123_270 (by decide) ?_
        refine ef_icmp_ne (pc := 272) d123_272 (t := 280) rfl (fun h272 => ?_) (fun h272 => ?_)
        · have hbx : (if br = 91 then (93 : Int) else 41) = 41 := if_neg h272
          refine ef_bipush (pc := 280) d123_280 (by decide) ?_
          rw [← hbx]
          refine ef_callV (pc := 282) d123_282 lm_8_255 (as := [_, _]) rfl rfl (by assumption) rfl rfl (by decide) (Nat.le_of_ble_eq_true rfl) rfl (Nat.le_of_ble_eq_true rfl) ?_
          refine Ec.imp (c125 hM hc) ?_
          rintro r282 u282 ⟨g3, n3, rfl, rfl, c3, o3⟩
          refine ef_istore (pc := 285) d123_285 (ls' := [_, _, _, _, _, _, _, _]) rfl ?_
          first
          | (refine wr g3 (J ++ [if br = 91 then 93 else 41]) n3 _ _ _ ?_ c3 (fun a h1 h2 h3 => (o3 a h3).trans (oo a h1 h2 h3)) (fun i hi => by rw [o3 _ (by omega), o3 _ (by omega)]; exact rr i hi)
             rw [← hbe, hJ, hLs, hlt, hrt]
             simp)
          | (refine wr g2 J nj _ _ _ ?_ hc oo rr
             rw [← hbe, hJ, hLs, hlt, hrf]
             simp)
        · have hbx : (if br = 91 then (93 : Int) else 41) = 93 := if_pos h272
          refine ef_bipush (pc := 275) d123_275 (by decide) ?_
          refine ef_goto (pc := 277) d123_277 (t := 282) rfl ?_
          rw [← hbx]
          refine ef_callV (pc := 282) d123_282 lm_8_255 (as := [_, _]) rfl rfl (by assumption) rfl rfl (by decide) (Nat.le_of_ble_eq_true rfl) rfl (Nat.le_of_ble_eq_true rfl) ?_
          refine Ec.imp (c125 hM hc) ?_
          rintro r282 u282 ⟨g3, n3, rfl, rfl, c3, o3⟩
          refine ef_istore (pc := 285) d123_285 (ls' := [_, _, _, _, _, _, _, _]) rfl ?_
          first
          | (refine wr g3 (J ++ [if br = 91 then 93 else 41]) n3 _ _ _ ?_ c3 (fun a h1 h2 h3 => (o3 a h3).trans (oo a h1 h2 h3)) (fun i hi => by rw [o3 _ (by omega), o3 _ (by omega)]; exact rr i hi)
             rw [← hbe, hJ, hLs, hlt, hrt]
             simp)
          | (refine wr g2 J nj _ _ _ ?_ hc oo rr
             rw [← hbe, hJ, hLs, hlt, hrf]
             simp)
    have loopB : ∀ (rd : Bool), (rd = true ↔ (br = 91 ∨ (br = 40 ∧ 1 < Q.length))) → ∀ a, a ≤ Q.length → ∀ (g2 : Nat → Nat → Int) (J : List Int) (nj : Nat) (v7 : Option Vl), CQ g2 m J nj → (∀ a, a ≠ m + 41 → g2 a = g1 a) → J = (if rd = true then [br] else []) ++ ((if Q.length = 0 then [48] else []) ++ ilF false ((L.take a).map (sub W))) → Ef P (d + 1) 123 186 [some (vR m), some (vI (b : Int)), some (vI br), some (vI (Q.length : Int)), some (vI (nj : Int)), some (vI (b01 rd)), some (vI ((b + a : Nat) : Int)), v7] [] (sI u g2) (fun x u' => ∃ g', u' = sI u g' ∧ x = .inl none ∧ DQ g' m (W.take st ++ brk br (srtT (Q.map (sub W)))) ∧ g' m 38 = (b : Int) ∧ (0 < b → (∀ i, i < b → g' (m + 28) i = g (m + 28) i) ∧ (∀ i, i + 1 < b → g' (m + 29) i = g (m + 29) i) ∧ ((W.take st ++ brk br (srtT (Q.map (sub W)))).length ≤ 640 → g' (m + 29) (b - 1) = ((W.take st ++ brk br (srtT (Q.map (sub W)))).length : Int) - g (m + 28) (b - 1)) ∧ g' m 49 = g m 49) ∧ (b = 0 → (W.take st ++ brk br (srtT (Q.map (sub W)))).length ≤ 640 → g' m 49 = ((W.take st ++ brk br (srtT (Q.map (sub W)))).length : Int)) ∧ (∀ a, a ≠ m → a ≠ m + 27 → a ≠ m + 28 → a ≠ m + 29 → a ≠ m + 41 → g' a = g a) ∧ (∀ f, f ≠ 30 → f ≠ 37 → f ≠ 38 → f ≠ 49 → g' m f = g m f)) := by
      intro rd hrd
      refine nat_loop Q.length ?_
      intro a ha ih g2 J nj v7 hc o2 hJ
      have s2 : g2 m 38 = ((b + Q.length : Nat) : Int) := by rw [o2 _ (by omega)]; exact s1
      -- the letters of one piece
      have chars : ∀ (p : Nat × Nat), L[a]? = some p → a < Q.length → ∀ k, k ≤ p.2 - p.1 → ∀ (g3 : Nat → Nat → Int) (J3 : List Int) (nj : Nat), CQ g3 m J3 nj → (∀ a, a ≠ m + 41 → g3 a = g1 a) → J3 = J ++ ((if a = 0 then [] else [124]) ++ (sub W p).take k) → Ef P (d + 1) 123 214 [some (vR m), some (vI (b : Int)), some (vI br), some (vI (Q.length : Int)), some (vI (nj : Int)), some (vI (b01 rd)), some (vI ((b + a : Nat) : Int)), some (vI (k : Int))] [] (sI u g3) (fun x u' => ∃ g', u' = sI u g' ∧ x = .inl none ∧ DQ g' m (W.take st ++ brk br (srtT (Q.map (sub W)))) ∧ g' m 38 = (b : Int) ∧ (0 < b → (∀ i, i < b → g' (m + 28) i = g (m + 28) i) ∧ (∀ i, i + 1 < b → g' (m + 29) i = g (m + 29) i) ∧ ((W.take st ++ brk br (srtT (Q.map (sub W)))).length ≤ 640 → g' (m + 29) (b - 1) = ((W.take st ++ brk br (srtT (Q.map (sub W)))).length : Int) - g (m + 28) (b - 1)) ∧ g' m 49 = g m 49) ∧ (b = 0 → (W.take st ++ brk br (srtT (Q.map (sub W)))).length ≤ 640 → g' m 49 = ((W.take st ++ brk br (srtT (Q.map (sub W)))).length : Int)) ∧ (∀ a, a ≠ m → a ≠ m + 27 → a ≠ m + 28 → a ≠ m + 29 → a ≠ m + 41 → g' a = g a) ∧ (∀ f, f ≠ 30 → f ≠ 37 → f ≠ 38 → f ≠ 49 → g' m f = g m f)) := by
        intro p hp haq
        obtain ⟨e1, e2, e3, e4⟩ := hL a p hp
        have lp := sub_len (W := W) (p := p) e4
        refine nat_loop (p.2 - p.1) ?_
        intro k hk ihk g3 J3 nj hc3 o3 hJ3
        have q29 : g3 (m + 29) (b + a) = ((p.2 - p.1 : Nat) : Int) := by rw [o3 _ (by omega)]; exact e2
        have q28 : g3 (m + 28) (b + a) = (p.1 : Int) := by rw [o3 _ (by omega)]; exact e1
        refine ef_iload (pc := 214) d123_214 rfl ?_
        refine ef_aload_n (pc := 216) d123_216 rfl ?_
        refine eg_getR (pc := 217) d123_217 lf_8_95 (by assumption) (by decide) (by assumption) ?_
        refine ef_iload (pc := 220) d123_220 rfl ?_
        refine eg_iald (pc := 222) d123_222 (i := b + a) (by assumption) (rfl) (by omega) ?_
        rw [q29]
        refine ef_icmp_ge (pc := 223) d123_223 (t := 255) rfl (fun h223 => ?_) (fun h223 => ?_)
        · have hkp : k = p.2 - p.1 := by omega
          rw [hkp, ← lp, List.take_length] at hJ3
          refine ef_iinc (pc := 255) d123_255 (ls' := [_, _, _, _, _, _, _, _]) (z := ((b + (a + 1) : Nat) : Int)) rfl (by decide) (by omega) ⟨by omega, by omega⟩ rfl ?_
          refine ef_goto (pc := 258) d123_258 (t := 186) rfl ?_
          refine ih haq g3 J3 nj _ hc3 o3 ?_
          rw [hJ3, hJ, List.take_add_one, hp, List.map_append]
          show _ = _ ++ (_ ++ ilF false ((L.take a).map (sub W) ++ [sub W p]))
          rw [il_snoc]
          have hcond : (if (false = true ∨ (L.take a).map (sub W) ≠ []) then [124] else ([] : List Int)) = (if a = 0 then [] else [124]) := by
            by_cases h0 : a = 0
            · rw [if_pos h0, if_neg]
              subst h0
              simp
            · rw [if_neg h0, if_pos]
              refine Or.inr fun hh => ?_
              have := congrArg List.length hh
              rw [List.length_map, List.length_take] at this
              simp only [List.length_nil] at this
              omega
          rw [hcond]
          simp only [List.append_assoc]
        · obtain ⟨x, hx, -⟩ := get_of_lt (L := sub W p) (i := k) (by omega)
          have vx : g3 (m + 27) (p.1 + k) = x := by rw [o3 _ (by omega), o1 _ (by omega) (by omega)]; exact hW (p.1 + k) x (by rw [← sub_get (by omega)]; exact hx)
          refine ef_aload_n (pc := 226) d123_226 rfl ?_
          refine ef_iload (pc := 227) d123_227 rfl ?_
          refine ef_aload_n (pc := 229) d123_229 rfl ?_
          refine eg_getR (pc := 230) d123_230 lf_8_89 (by assumption) (by decide) (by assumption) ?_
          refine ef_aload_n (pc := 233) d123_233 rfl ?_
          refine eg_getR (pc := 234) d123_234 lf_8_92 (by assumption) (by decide) (by assumption) ?_
          refine ef_iload (pc := 237) d123_237 rfl ?_
          refine eg_iald (pc := 239) d123_239 (i := b + a) (by assumption) (rfl) (by omega) ?_
          rw [q28]
          refine ef_iload (pc := 240) d123_240 rfl ?_
          refine ef_iadd (pc := 242) d123_242 (z := ((p.1 + k : Nat) : Int)) (by omega) ⟨by omega, by omega⟩ ?_
          refine eg_iald (pc := 243) d123_243 (i := p.1 + k) (by assumption) (rfl) (by omega) ?_
          rw [vx]
          refine ef_callV (pc := 244) d123_244 lm_8_255 (as := [_, _]) rfl rfl (by assumption) rfl rfl (by decide) (Nat.le_of_ble_eq_true rfl) rfl (Nat.le_of_ble_eq_true rfl) ?_
          refine Ec.imp (c125 hM hc3) ?_
          rintro r244 u244 ⟨g4, n4, rfl, rfl, c4, o4⟩
          refine ef_istore (pc := 247) d123_247 (ls' := [_, _, _, _, _, _, _, _]) rfl ?_
          refine ef_iinc (pc := 249) d123_249 (ls' := [_, _, _, _, _, _, _, _]) (z := ((k + 1 : Nat) : Int)) rfl (by decide) (by omega) ⟨by omega, by omega⟩ rfl ?_
          refine ef_goto (pc := 252) d123_252 (t := 214) rfl ?_
          refine ihk (by omega) g4 _ n4 c4 (fun z hz => (o4 z hz).trans (o3 z hz)) ?_
          rw [hJ3, List.take_add_one, hx]
          simp only [List.append_assoc, Option.toList]
      refine ef_iload (pc := 186) d123_186 rfl ?_
      refine ef_aload_n (pc := 188) d123_188 rfl ?_
      refine eg_getI (pc := 189) d123_189 lf_8_248 (by assumption) (by decide) ?_
      rw [s2]
      refine ef_icmp_ge (pc := 192) d123_192 (t := 261) rfl (fun h192 => ?_) (fun h192 => ?_)
      · have haa : a = Q.length := by omega
        subst haa
        refine close rd hrd g2 J nj _ _ hc o2 ?_
        rw [hJ, List.take_of_length_le (by omega)]
      · obtain ⟨p, hp, -⟩ := get_of_lt (L := L) (i := a) (by omega)
        refine ef_iload (pc := 195) d123_195 rfl ?_
        refine ef_iload_n (pc := 197) d123_197 rfl ?_
        refine ef_icmp_le (pc := 198) d123_198 (t := 211) rfl (fun h198 => ?_) (fun h198 => ?_)
        · have ha0 : a = 0 := by omega
          refine ef_iconst (pc := 211) d123_211 (by decide) ?_
          refine ef_istore (pc := 212) d123_212 (ls' := [_, _, _, _, _, _, _, _]) rfl ?_
          first
          | exact chars p hp (by omega) 0 (Nat.zero_le _) g3 _ n3 c3 (fun z hz => (o3 z hz).trans (o2 z hz)) (by rw [List.take_zero, List.append_nil, if_neg ha0])
          | exact chars p hp (by omega) 0 (Nat.zero_le _) g2 _ nj hc o2 (by rw [List.take_zero, List.append_nil, if_pos ha0, List.append_nil])
        · have ha0 : ¬ a = 0 := by omega
          refine ef_aload_n (pc := 201) d123_201 rfl ?_
          refine ef_iload (pc := 202) d123_202 rfl ?_
          refine ef_bipush (pc := 204) d123_204 (by decide) ?_
          refine ef_callV (pc := 206) d123_206 lm_8_255 (as := [_, _]) rfl rfl (by assumption) rfl rfl (by decide) (Nat.le_of_ble_eq_true rfl) rfl (Nat.le_of_ble_eq_true rfl) ?_
          refine Ec.imp (c125 hM hc) ?_
          rintro r206 u206 ⟨g3, n3, rfl, rfl, c3, o3⟩
          refine ef_istore (pc := 209) d123_209 (ls' := [_, _, _, _, _, _, _, _]) rfl ?_
          refine ef_iconst (pc := 211) d123_211 (by decide) ?_
          refine ef_istore (pc := 212) d123_212 (ls' := [_, _, _, _, _, _, _, _]) rfl ?_
          first
          | exact chars p hp (by omega) 0 (Nat.zero_le _) g3 _ n3 c3 (fun z hz => (o3 z hz).trans (o2 z hz)) (by rw [List.take_zero, List.append_nil, if_neg ha0])
          | exact chars p hp (by omega) 0 (Nat.zero_le _) g2 _ nj hc o2 (by rw [List.take_zero, List.append_nil, if_pos ha0, List.append_nil])
    have c0 : CQ g1 m [] 0 := ⟨by omega, fun _ => rfl, fun h => absurd h (by decide), fun i c _ h => by cases h⟩
    have zero : ∀ (rd : Bool), (rd = true ↔ (br = 91 ∨ (br = 40 ∧ 1 < Q.length))) → ∀ (g2 : Nat → Nat → Int) (J : List Int) (nj : Nat) (v6 v7 : Option Vl), CQ g2 m J nj → (∀ a, a ≠ m + 41 → g2 a = g1 a) → J = (if rd = true then [br] else []) → Ef P (d + 1) 123 169 [some (vR m), some (vI (b : Int)), some (vI br), some (vI (Q.length : Int)), some (vI (nj : Int)), some (vI (b01 rd)), v6, v7] [] (sI u g2) (fun x u' => ∃ g', u' = sI u g' ∧ x = .inl none ∧ DQ g' m (W.take st ++ brk br (srtT (Q.map (sub W)))) ∧ g' m 38 = (b : Int) ∧ (0 < b → (∀ i, i < b → g' (m + 28) i = g (m + 28) i) ∧ (∀ i, i + 1 < b → g' (m + 29) i = g (m + 29) i) ∧ ((W.take st ++ brk br (srtT (Q.map (sub W)))).length ≤ 640 → g' (m + 29) (b - 1) = ((W.take st ++ brk br (srtT (Q.map (sub W)))).length : Int) - g (m + 28) (b - 1)) ∧ g' m 49 = g m 49) ∧ (b = 0 → (W.take st ++ brk br (srtT (Q.map (sub W)))).length ≤ 640 → g' m 49 = ((W.take st ++ brk br (srtT (Q.map (sub W)))).length : Int)) ∧ (∀ a, a ≠ m → a ≠ m + 27 → a ≠ m + 28 → a ≠ m + 29 → a ≠ m + 41 → g' a = g a) ∧ (∀ f, f ≠ 30 → f ≠ 37 → f ≠ 38 → f ≠ 49 → g' m f = g m f)) := by
      intro rd hrd g2 J nj v6 v7 hc o2 hJ
      refine ef_iload_n (pc := 169) d123_169 rfl ?_
      refine ef_if_ne (pc := 170) d123_170 (t := 183) rfl (fun h170 => ?_) (fun h170 => ?_)
      · refine ef_iload_n (pc := 183) d123_183 rfl ?_
        refine ef_istore (pc := 184) d123_184 (ls' := [_, _, _, _, _, _, _, _]) rfl ?_
        first
        | exact loopB rd hrd 0 (Nat.zero_le _) g3 _ n3 _ c3 (fun z hz => (o3 z hz).trans (o2 z hz)) (by rw [hJ, if_pos (show Q.length = 0 by omega), List.take_zero]; show _ = _ ++ ([48] ++ []); rw [List.append_nil])
        | exact loopB rd hrd 0 (Nat.zero_le _) g2 J nj _ hc o2 (by rw [hJ, if_neg (show ¬ Q.length = 0 by omega), List.take_zero]; show _ = _ ++ ([] ++ []); rw [List.append_nil, List.append_nil])
      · refine ef_aload_n (pc := 173) d123_173 rfl ?_
        refine ef_iload (pc := 174) d123_174 rfl ?_
        refine ef_bipush (pc := 176) d123_176 (by decide) ?_
        refine ef_callV (pc := 178) d123_178 lm_8_255 (as := [_, _]) rfl rfl (by assumption) rfl rfl (by decide) (Nat.le_of_ble_eq_true rfl) rfl (Nat.le_of_ble_eq_true rfl) ?_
        refine Ec.imp (c125 hM hc) ?_
        rintro r178 u178 ⟨g3, n3, rfl, rfl, c3, o3⟩
        refine ef_istore (pc := 181) d123_181 (ls' := [_, _, _, _, _, _, _, _]) rfl ?_
        refine ef_iload_n (pc := 183) d123_183 rfl ?_
        refine ef_istore (pc := 184) d123_184 (ls' := [_, _, _, _, _, _, _, _]) rfl ?_
        first
        | exact loopB rd hrd 0 (Nat.zero_le _) g3 _ n3 _ c3 (fun z hz => (o3 z hz).trans (o2 z hz)) (by rw [hJ, if_pos (show Q.length = 0 by omega), List.take_zero]; show _ = _ ++ ([48] ++ []); rw [List.append_nil])
        | exact loopB rd hrd 0 (Nat.zero_le _) g2 J nj _ hc o2 (by rw [hJ, if_neg (show ¬ Q.length = 0 by omega), List.take_zero]; show _ = _ ++ ([] ++ []); rw [List.append_nil, List.append_nil])
    have round : ∀ (rd : Bool), (rd = true ↔ (br = 91 ∨ (br = 40 ∧ 1 < Q.length))) → ∀ (v5 v6 v7 : Option Vl), Ef P (d + 1) 123 153 [some (vR m), some (vI (b : Int)), some (vI br), some (vI (Q.length : Int)), some (vI 0), v5, v6, v7] [vI (b01 rd)] (sI u g1) (fun x u' => ∃ g', u' = sI u g' ∧ x = .inl none ∧ DQ g' m (W.take st ++ brk br (srtT (Q.map (sub W)))) ∧ g' m 38 = (b : Int) ∧ (0 < b → (∀ i, i < b → g' (m + 28) i = g (m + 28) i) ∧ (∀ i, i + 1 < b → g' (m + 29) i = g (m + 29) i) ∧ ((W.take st ++ brk br (srtT (Q.map (sub W)))).length ≤ 640 → g' (m + 29) (b - 1) = ((W.take st ++ brk br (srtT (Q.map (sub W)))).length : Int) - g (m + 28) (b - 1)) ∧ g' m 49 = g m 49) ∧ (b = 0 → (W.take st ++ brk br (srtT (Q.map (sub W)))).length ≤ 640 → g' m 49 = ((W.take st ++ brk br (srtT (Q.map (sub W)))).length : Int)) ∧ (∀ a, a ≠ m → a ≠ m + 27 → a ≠ m + 28 → a ≠ m + 29 → a ≠ m + 41 → g' a = g a) ∧ (∀ f, f ≠ 30 → f ≠ 37 → f ≠ 38 → f ≠ 49 → g' m f = g m f)) := by
      intro rd hrd v5 v6 v7
      refine ef_istore (pc := 153) d123_153 (ls' := [_, _, _, _, _, _, _, _]) rfl ?_
      refine ef_iload (pc := 155) d123_155 rfl ?_
      refine ef_if_eq (pc := 157) d123_157 (t := 169) rfl (fun h157 => ?_) (fun h157 => ?_)
      · have hrf := b01_t h157
        first
        | exact zero rd hrd g3 _ n3 _ _ c3 o3 (by rw [hrt]; rfl)
        | exact zero rd hrd g1 [] 0 _ _ c0 (fun _ _ => rfl) (by rw [hrf]; rfl)
      · have hrt := b01_f h157
        refine ef_aload_n (pc := 160) d123_160 rfl ?_
        refine ef_iload (pc := 161) d123_161 rfl ?_
        refine ef_iload_n (pc := 163) d123_163 rfl ?_
        refine ef_callV (pc := 164) d123_164 lm_8_255 (as := [_, _]) rfl rfl (by assumption) rfl rfl (by decide) (Nat.le_of_ble_eq_true rfl) rfl (Nat.le_of_ble_eq_true rfl) ?_
        refine Ec.imp (c125 hM c0) ?_
        rintro r164 u164 ⟨g3, n3, rfl, rfl, c3, o3⟩
        refine ef_istore (pc := 167) d123_167 (ls' := [_, _, _, _, _, _, _, _]) rfl ?_
        first
        | exact zero rd hrd g3 _ n3 _ _ c3 o3 (by rw [hrt]; rfl)
        | exact zero rd hrd g1 [] 0 _ _ c0 (fun _ _ => rfl) (by rw [hrf]; rfl)
    refine ef_iconst (pc := 128) d123_128 (by decide) ?_
    refine ef_istore (pc := 129) d123_129 (ls' := [_, _, _, _, _, _, _, _]) rfl ?_
    refine ef_iload_n (pc := 131) d123_131 rfl ?_
    refine ef_bipush (pc := 132) d123_132 (by decide) ?_
    refine ef_icmp_eq (pc := 134) d123_134 (t := 148) rfl (fun h134 => ?_) (fun h134 => ?_)
    · have hrd : (true = true ↔ (br = 91 ∨ (br = 40 ∧ 1 < Q.length))) := ⟨fun _ => Or.inl h134, fun _ => rfl⟩
      refine ef_iconst (pc := 148) d123_148 (by decide) ?_
      refine ef_goto (pc := 149) d123_149 (t := 153) rfl ?_
      first
      | exact round true hrd _ _ _
      | exact round false hrd _ _ _
    · refine ef_iload_n (pc := 137) d123_137 rfl ?_
      refine ef_bipush (pc := 138) d123_138 (by decide) ?_
      refine ef_icmp_ne (pc := 140) d123_140 (t := 152) rfl (fun h140 => ?_) (fun h140 => ?_)
      · have hrd : (false = true ↔ (br = 91 ∨ (br = 40 ∧ 1 < Q.length))) := ⟨fun h => absurd h (by decide), fun h => by omega⟩
        refine ef_iconst (pc := 152) d123_152 (by decide) ?_
        first
        | exact round true hrd _ _ _
        | exact round false hrd _ _ _
      · refine ef_iload_n (pc := 143) d123_143 rfl ?_
        refine ef_iconst (pc := 144) d123_144 (by decide) ?_
        refine ef_icmp_le (pc := 145) d123_145 (t := 152) rfl (fun h145 => ?_) (fun h145 => ?_)
        · have hrd : (false = true ↔ (br = 91 ∨ (br = 40 ∧ 1 < Q.length))) := ⟨fun h => absurd h (by decide), fun h => by omega⟩
          refine ef_iconst (pc := 152) d123_152 (by decide) ?_
          first
          | exact round true hrd _ _ _
          | exact round false hrd _ _ _
        · have hrd : (true = true ↔ (br = 91 ∨ (br = 40 ∧ 1 < Q.length))) := ⟨fun _ => Or.inr ⟨h140, by omega⟩, fun _ => rfl⟩
          refine ef_iconst (pc := 148) d123_148 (by decide) ?_
          refine ef_goto (pc := 149) d123_149 (t := 153) rfl ?_
          first
          | exact round true hrd _ _ _
          | exact round false hrd _ _ _
  have outer : ∀ a, a ≤ Q.length → 1 ≤ a → ∀ (g1 : Nat → Nat → Int) (L : List (Nat × Nat)) (v5 v6 v7 : Option Vl), L.length = Q.length → PcR g1 m b W.length L → L.drop a = Q.drop a → (L.take a).map (sub W) = srtT ((Q.take a).map (sub W)) → (∀ a, a ≠ m + 28 → a ≠ m + 29 → g1 a = g a) → (∀ i, i < b → g1 (m + 28) i = g (m + 28) i ∧ g1 (m + 29) i = g (m + 29) i) → Ef P (d + 1) 123 12 [some (vR m), some (vI (b : Int)), some (vI br), some (vI (Q.length : Int)), some (vI ((b + a : Nat) : Int)), v5, v6, v7] [] (sI u g1) (fun x u' => ∃ g', u' = sI u g' ∧ x = .inl none ∧ DQ g' m (W.take st ++ brk br (srtT (Q.map (sub W)))) ∧ g' m 38 = (b : Int) ∧ (0 < b → (∀ i, i < b → g' (m + 28) i = g (m + 28) i) ∧ (∀ i, i + 1 < b → g' (m + 29) i = g (m + 29) i) ∧ ((W.take st ++ brk br (srtT (Q.map (sub W)))).length ≤ 640 → g' (m + 29) (b - 1) = ((W.take st ++ brk br (srtT (Q.map (sub W)))).length : Int) - g (m + 28) (b - 1)) ∧ g' m 49 = g m 49) ∧ (b = 0 → (W.take st ++ brk br (srtT (Q.map (sub W)))).length ≤ 640 → g' m 49 = ((W.take st ++ brk br (srtT (Q.map (sub W)))).length : Int)) ∧ (∀ a, a ≠ m → a ≠ m + 27 → a ≠ m + 28 → a ≠ m + 29 → a ≠ m + 41 → g' a = g a) ∧ (∀ f, f ≠ 30 → f ≠ 37 → f ≠ 38 → f ≠ 49 → g' m f = g m f)) := by
    refine nat_loop Q.length ?_
    intro a ha ih h1 g1 L v5 v6 v7 hLl hL hLd hLs o1 r1
    have s1 : g1 m 38 = ((b + Q.length : Nat) : Int) := by rw [o1 _ (by omega) (by omega)]; exact hs
    have inner : ∀ (x : Nat × Nat), Q[a]? = some x → a < Q.length → ∀ (c : Nat) (L1 L2 : List (Nat × Nat)) (g1 : Nat → Nat → Int) (v6 v7 : Option Vl), L1.length = c → L1.length + L2.length = a → PcR g1 m b W.length (L1 ++ x :: (L2 ++ Q.drop (a + 1))) → (L1 ++ L2).map (sub W) = srtT ((Q.take a).map (sub W)) → (∀ y, y ∈ L2 → lexL (sub W x) (sub W y) = true) → (∀ a, a ≠ m + 28 → a ≠ m + 29 → g1 a = g a) → (∀ i, i < b → g1 (m + 28) i = g (m + 28) i ∧ g1 (m + 29) i = g (m + 29) i) → Ef P (d + 1) 123 25 [some (vR m), some (vI (b : Int)), some (vI br), some (vI (Q.length : Int)), some (vI ((b + a : Nat) : Int)), some (vI ((b + c : Nat) : Int)), v6, v7] [] (sI u g1) (fun x u' => ∃ g', u' = sI u g' ∧ x = .inl none ∧ DQ g' m (W.take st ++ brk br (srtT (Q.map (sub W)))) ∧ g' m 38 = (b : Int) ∧ (0 < b → (∀ i, i < b → g' (m + 28) i = g (m + 28) i) ∧ (∀ i, i + 1 < b → g' (m + 29) i = g (m + 29) i) ∧ ((W.take st ++ brk br (srtT (Q.map (sub W)))).length ≤ 640 → g' (m + 29) (b - 1) = ((W.take st ++ brk br (srtT (Q.map (sub W)))).length : Int) - g (m + 28) (b - 1)) ∧ g' m 49 = g m 49) ∧ (b = 0 → (W.take st ++ brk br (srtT (Q.map (sub W)))).length ≤ 640 → g' m 49 = ((W.take st ++ brk br (srtT (Q.map (sub W)))).length : Int)) ∧ (∀ a, a ≠ m → a ≠ m + 27 → a ≠ m + 28 → a ≠ m + 29 → a ≠ m + 41 → g' a = g a) ∧ (∀ f, f ≠ 30 → f ≠ 37 → f ≠ 38 → f ≠ 49 → g' m f = g m f)) := by
      intro x hx haq c
      have fin : ∀ (c : Nat) (L1 L2 : List (Nat × Nat)) (g1 : Nat → Nat → Int) (v5 v6 v7 : Option Vl), L1.length + L2.length = a → PcR g1 m b W.length (L1 ++ x :: (L2 ++ Q.drop (a + 1))) → (L1 ++ L2).map (sub W) = srtT ((Q.take a).map (sub W)) → (∀ y, y ∈ L2 → lexL (sub W x) (sub W y) = true) → (∀ a, a ≠ m + 28 → a ≠ m + 29 → g1 a = g a) → (∀ i, i < b → g1 (m + 28) i = g (m + 28) i ∧ g1 (m + 29) i = g (m + 29) i) → (L1 = [] ∨ ∃ L y, L1 = L ++ [y] ∧ lexL (sub W x) (sub W y) = false) → Ef P (d + 1) 123 122 [some (vR m), some (vI (b : Int)), some (vI br), some (vI (Q.length : Int)), some (vI ((b + a : Nat) : Int)), v5, v6, v7] [] (sI u g1) (fun x u' => ∃ g', u' = sI u g' ∧ x = .inl none ∧ DQ g' m (W.take st ++ brk br (srtT (Q.map (sub W)))) ∧ g' m 38 = (b : Int) ∧ (0 < b → (∀ i, i < b → g' (m + 28) i = g (m + 28) i) ∧ (∀ i, i + 1 < b → g' (m + 29) i = g (m + 29) i) ∧ ((W.take st ++ brk br (srtT (Q.map (sub W)))).length ≤ 640 → g' (m + 29) (b - 1) = ((W.take st ++ brk br (srtT (Q.map (sub W)))).length : Int) - g (m + 28) (b - 1)) ∧ g' m 49 = g m 49) ∧ (b = 0 → (W.take st ++ brk br (srtT (Q.map (sub W)))).length ≤ 640 → g' m 49 = ((W.take st ++ brk br (srtT (Q.map (sub W)))).length : Int)) ∧ (∀ a, a ≠ m → a ≠ m + 27 → a ≠ m + 28 → a ≠ m + 29 → a ≠ m + 41 → g' a = g a) ∧ (∀ f, f ≠ 30 → f ≠ 37 → f ≠ 38 → f ≠ 49 → g' m f = g m f)) := by
        intro c L1 L2 g1 v5 v6 v7 hl hp hm hy o1 r1 h3
        have hins := insP_ok hm hy h3
        have hsh : L1 ++ x :: (L2 ++ Q.drop (a + 1)) = (L1 ++ x :: L2) ++ Q.drop (a + 1) := by simp
        have hll : (L1 ++ x :: L2).length = a + 1 := by rw [List.length_append, List.length_cons]; omega
        refine ef_iinc (pc := 122) d123_122 (ls' := [_, _, _, _, _, _, _, _]) (z := ((b + (a + 1) : Nat) : Int)) rfl (by decide) (by omega) ⟨by omega, by omega⟩ rfl ?_
        refine ef_goto (pc := 125) d123_125 (t := 12) rfl ?_
        refine ih haq (by omega) g1 _ _ _ _ ?_ hp ?_ ?_ o1 r1
        · rw [hsh, List.length_append, hll, List.length_drop]; omega
        · rw [hsh, ← hll, List.drop_left, hll]
        · rw [hsh, ← hll, List.take_left, hll, hins, List.take_add_one, hx, List.map_append]; rfl
      induction c with
      | zero =>
        intro L1 L2 g1 v6 v7 hc hl hp hm hy o1 r1
        have : L1 = [] := List.length_eq_zero_iff.mp hc
        subst this
        refine ef_iload (pc := 25) d123_25 rfl ?_
        refine ef_iload_n (pc := 27) d123_27 rfl ?_
        refine ef_icmp_leT (pc := 28) d123_28 (t := 122) rfl (by omega) ?_
        exact fin 0 [] L2 g1 _ _ _ hl hp hm hy o1 r1 (Or.inl rfl)
      | succ c ihc =>
        intro L1 L2 g1 v6 v7 hc hl hp hm hy o1 r1
        obtain ⟨L0, y, rfl⟩ : ∃ L0 y, L1 = L0 ++ [y] := by
          rcases List.eq_nil_or_concat L1 with h | ⟨L0, y, h⟩
          · rw [h] at hc; cases hc
          · exact ⟨L0, y, by rw [h]; simp⟩
        have hl0 : L0.length = c := by rw [List.length_append] at hc; exact Nat.succ.inj hc
        have hl2 : (L0 ++ [y]).length = c + 1 := hc
        have hpx := hp (c + 1) x (by rw [List.getElem?_append_right (by omega), hl2, Nat.sub_self]; rfl)
        have hpy := hp c y (by rw [List.append_assoc, List.getElem?_append_right (by omega), hl0, Nat.sub_self]; rfl)
        obtain ⟨x1, x2, x3, x4⟩ := hpx
        obtain ⟨y1, y2, y3, y4⟩ := hpy
        have hW1 : Row (g1 (m + 27)) W := by rw [o1 _ (by omega) (by omega)]; exact hW
        refine ef_iload (pc := 25) d123_25 rfl ?_
        refine ef_iload_n (pc := 27) d123_27 rfl ?_
        refine ef_icmp_leF (pc := 28) d123_28 (t := 122) rfl (by omega) ?_
        refine ef_aload_n (pc := 31) d123_31 rfl ?_
        refine ef_iload (pc := 32) d123_32 rfl ?_
        refine ef_iload (pc := 34) d123_34 rfl ?_
        refine ef_iconst (pc := 36) d123_36 (by decide) ?_
        refine ef_isub (pc := 37) d123_37 (z := ((b + c : Nat) : Int)) (by omega) ⟨by omega, by omega⟩ ?_
        refine ef_callV (pc := 38) d123_38 lm_8_251 (as := [_, _]) rfl rfl (by assumption) rfl rfl (by decide) (Nat.le_of_ble_eq_true rfl) rfl (Nat.le_of_ble_eq_true rfl) ?_
        refine Ec.imp (c124 (p := x) (q := y) hM hW1 hWl (by omega) (by omega) x1 x2 x3 x4 y1 y2 y3 y4) ?_
        rintro r38 u38 ⟨rfl, rfl⟩
        refine ef_if_eq (pc := 41) d123_41 (t := 122) rfl (fun h41 => ?_) (fun h41 => ?_)
        · have hlx := b01_t h41
          exact fin (c + 1) (L0 ++ [y]) L2 g1 _ _ _ hl hp hm hy o1 r1 (Or.inr ⟨L0, y, rfl, hlx⟩)
        · have hlx := b01_f h41
          refine ef_aload_n (pc := 44) d123_44 rfl ?_
          refine eg_getR (pc := 45) d123_45 lf_8_92 (by assumption) (by decide) (by assumption) ?_
          refine ef_iload (pc := 48) d123_48 rfl ?_
          refine eg_iald (pc := 50) d123_50 (i := b + (c + 1)) (by assumption) (rfl) (by omega) ?_
          try simp (disch := omega) only [u2_ne, u2_at, u2_ni, ur_ne, ur_eq]
          rw [x1]
          refine ef_istore (pc := 51) d123_51 (ls' := [_, _, _, _, _, _, _, _]) rfl ?_
          refine ef_aload_n (pc := 53) d123_53 rfl ?_
          refine eg_getR (pc := 54) d123_54 lf_8_95 (by assumption) (by decide) (by assumption) ?_
          refine ef_iload (pc := 57) d123_57 rfl ?_
          refine eg_iald (pc := 59) d123_59 (i := b + (c + 1)) (by assumption) (rfl) (by omega) ?_
          try simp (disch := omega) only [u2_ne, u2_at, u2_ni, ur_ne, ur_eq]
          rw [x2]
          refine ef_istore (pc := 60) d123_60 (ls' := [_, _, _, _, _, _, _, _]) rfl ?_
          refine ef_aload_n (pc := 62) d123_62 rfl ?_
          refine eg_getR (pc := 63) d123_63 lf_8_92 (by assumption) (by decide) (by assumption) ?_
          refine ef_iload (pc := 66) d123_66 rfl ?_
          refine ef_aload_n (pc := 68) d123_68 rfl ?_
          refine eg_getR (pc := 69) d123_69 lf_8_92 (by assumption) (by decide) (by assumption) ?_
          refine ef_iload (pc := 72) d123_72 rfl ?_
          refine ef_iconst (pc := 74) d123_74 (by decide) ?_
          refine ef_isub (pc := 75) d123_75 (z := ((b + c : Nat) : Int)) (by omega) ⟨by omega, by omega⟩ ?_
          refine eg_iald (pc := 76) d123_76 (i := b + c) (by assumption) (rfl) (by omega) ?_
          try simp (disch := omega) only [u2_ne, u2_at, u2_ni, ur_ne, ur_eq]
          rw [y1]
          refine eg_iast (pc := 77) d123_77 (i := b + (c + 1)) (by assumption) (rfl) (by omega) rfl ?_
          refine ef_aload_n (pc := 78) d123_78 rfl ?_
          refine eg_getR (pc := 79) d123_79 lf_8_95 (by assumption) (by decide) (by assumption) ?_
          refine ef_iload (pc := 82) d123_82 rfl ?_
          refine ef_aload_n (pc := 84) d123_84 rfl ?_
          refine eg_getR (pc := 85) d123_85 lf_8_95 (by assumption) (by decide) (by assumption) ?_
          refine ef_iload (pc := 88) d123_88 rfl ?_
          refine ef_iconst (pc := 90) d123_90 (by decide) ?_
          refine ef_isub (pc := 91) d123_91 (z := ((b + c : Nat) : Int)) (by omega) ⟨by omega, by omega⟩ ?_
          refine eg_iald (pc := 92) d123_92 (i := b + c) (by assumption) (rfl) (by omega) ?_
          rw [u2_ne (by omega), y2]
          refine eg_iast (pc := 93) d123_93 (i := b + (c + 1)) (by assumption) (rfl) (by omega) rfl ?_
          refine ef_aload_n (pc := 94) d123_94 rfl ?_
          refine eg_getR (pc := 95) d123_95 lf_8_92 (by assumption) (by decide) (by assumption) ?_
          refine ef_iload (pc := 98) d123_98 rfl ?_
          refine ef_iconst (pc := 100) d123_100 (by decide) ?_
          refine ef_isub (pc := 101) d123_101 (z := ((b + c : Nat) : Int)) (by omega) ⟨by omega, by omega⟩ ?_
          refine ef_iload (pc := 102) d123_102 rfl ?_
          refine eg_iast (pc := 104) d123_104 (i := b + c) (by assumption) (rfl) (by omega) rfl ?_
          refine ef_aload_n (pc := 105) d123_105 rfl ?_
          refine eg_getR (pc := 106) d123_106 lf_8_95 (by assumption) (by decide) (by assumption) ?_
          refine ef_iload (pc := 109) d123_109 rfl ?_
          refine ef_iconst (pc := 111) d123_111 (by decide) ?_
          refine ef_isub (pc := 112) d123_112 (z := ((b + c : Nat) : Int)) (by omega) ⟨by omega, by omega⟩ ?_
          refine ef_iload (pc := 113) d123_113 rfl ?_
          refine eg_iast (pc := 115) d123_115 (i := b + c) (by assumption) (rfl) (by omega) rfl ?_
          refine ef_iinc (pc := 116) d123_116 (ls' := [_, _, _, _, _, _, _, _]) (z := ((b + c : Nat) : Int)) rfl (by decide) (by omega) ⟨by omega, by omega⟩ rfl ?_
          refine ef_goto (pc := 119) d123_119 (t := 25) rfl ?_
          refine ihc L0 (y :: L2) _ _ _ hl0 (by rw [List.length_cons]; rw [hl2] at hl; omega) ?_ ?_ ?_ (fun a h1 h2 => by simp (disch := omega) only [u2_ne]; exact o1 a h1 h2) (fun i hi => by simp (disch := omega) only [u2_ne, u2_ni]; exact r1 i hi)
          · intro i p hpi
            by_cases hi0 : i = c
            · rw [hi0, List.getElem?_append_right (by omega), hl0, Nat.sub_self] at hpi
              cases hpi
              rw [hi0]
              simp (disch := omega) only [u2_ne, u2_at]
              exact ⟨trivial, trivial, x3, x4⟩
            · by_cases hi1 : i = c + 1
              · rw [hi1, List.getElem?_append_right (by omega), hl0, show c + 1 - c = 1 by omega] at hpi
                cases hpi
                rw [hi1]
                simp (disch := omega) only [u2_ne, u2_ni, u2_at]
                exact ⟨trivial, trivial, y3, y4⟩
              · have hq := hp i p (by rw [List.append_assoc]; show (L0 ++ y :: x :: (L2 ++ Q.drop (a + 1)))[i]? = some p; rw [← swp (by omega) (by omega)]; exact hpi)
                simp (disch := omega) only [u2_ne, u2_ni]
                exact hq
          · rw [show L0 ++ y :: L2 = L0 ++ [y] ++ L2 by simp]; exact hm
          · intro z hz
            rcases List.mem_cons.mp hz with rfl | hz
            · exact hlx
            · exact hy z hz
    refine ef_iload (pc := 12) d123_12 rfl ?_
    refine ef_aload_n (pc := 14) d123_14 rfl ?_
    refine eg_getI (pc := 15) d123_15 lf_8_248 (by assumption) (by decide) ?_
    rw [s1]
    refine ef_icmp_ge (pc := 18) d123_18 (t := 128) rfl (fun h18 => ?_) (fun h18 => ?_)
    · have haa : a = Q.length := by omega
      subst haa
      refine cp g1 L _ _ _ _ hLl ?_ hL o1 r1
      rw [List.take_of_length_le (by omega), List.take_of_length_le (Nat.le_refl _)] at hLs
      exact hLs
    · obtain ⟨x, hx, hdx⟩ := get_of_lt (L := Q) (i := a) (by omega)
      have hsplit : L = L.take a ++ x :: ([] ++ Q.drop (a + 1)) := by
        rw [List.nil_append, ← hdx, ← hLd, List.take_append_drop]
      refine ef_iload (pc := 21) d123_21 rfl ?_
      refine ef_istore (pc := 23) d123_23 (ls' := [_, _, _, _, _, _, _, _]) rfl ?_
      refine inner x hx (by omega) a (L.take a) [] g1 _ _ (by rw [List.length_take]; omega) (by rw [List.length_take, List.length_nil]; omega) ?_ (by rw [List.append_nil]; exact hLs) (fun y hy => absurd hy (List.not_mem_nil)) o1 r1
      rw [← hsplit]; exact hL
  change Ef P _ 123 0 [some (vR m), some (vI (b : Int)), some (vI br), none, none, none, none, none] [] _ _
  refine ef_aload_n (pc := 0) d123_0 rfl ?_
  refine eg_getI (pc := 1) d123_1 lf_8_248 (by assumption) (by decide) ?_
  rw [hs]
  refine ef_iload_n (pc := 4) d123_4 rfl ?_
  refine ef_isub (pc := 5) d123_5 (z := (Q.length : Int)) (by omega) ⟨by omega, by omega⟩ ?_
  refine ef_istore_n (pc := 6) d123_6 (ls' := [_, _, _, _, _, _, _, _]) rfl ?_
  refine ef_iload_n (pc := 7) d123_7 rfl ?_
  refine ef_iconst (pc := 8) d123_8 (by decide) ?_
  refine ef_iadd (pc := 9) d123_9 (z := ((b + 1 : Nat) : Int)) (by omega) ⟨by omega, by omega⟩ ?_
  refine ef_istore (pc := 10) d123_10 (ls' := [_, _, _, _, _, _, _, _]) rfl ?_
  rcases Nat.lt_or_ge 0 Q.length with hq | hq
  · refine outer 1 (by omega) (by omega) g Q _ _ _ rfl hQ rfl ?_ (fun _ _ _ => rfl) (fun _ _ => ⟨rfl, rfl⟩)
    obtain ⟨x, hx, hdx⟩ := get_of_lt hq
    have h1 : Q.take 1 = [x] := by rw [List.take_add_one, hx]; rfl
    rw [h1]; rfl
  · refine ef_iload (pc := 12) d123_12 rfl ?_
    refine ef_aload_n (pc := 14) d123_14 rfl ?_
    refine eg_getI (pc := 15) d123_15 lf_8_248 (by assumption) (by decide) ?_
    rw [hs]
    refine ef_icmp_geT (pc := 18) d123_18 (t := 128) rfl (by omega) ?_
    refine cp g Q _ _ _ _ rfl ?_ hQ (fun _ _ _ => rfl) (fun _ _ => ⟨rfl, rfl⟩)
    have : Q = [] := List.length_eq_zero_iff.mp (by omega)
    rw [this]; rfl
