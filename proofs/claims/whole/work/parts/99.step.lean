/-! The model: a step. Written by wip/whole/gen/c99.py. -/
/-- the model's state, as the class's -/
def Mc (g : Nat → Nat → Int) (m : Nat) (kd nm rp en : Nat → Int) (sz : Nat) (c : RS) : Prop := TrR g m kd nm rp en sz ∧ Rel g m c.1 ∧ Vd kd nm sz c.1 ∧ g m 29 = c.2.2 ∧ g m 30 = 0 ∧ g m 49 = ((teS kd nm rp en c.1).length : Int) ∧ Row (g (m + 27)) (teS kd nm rp en c.1) ∧ (teS kd nm rp en c.1).length ≤ 240 ∧ Cam g m (rxS kd c.1) c.2.1 ∧ (rxS kd c.1 ≠ [] → ∀ kk, kk < 40 → g (m + 23) kk = g (m + 15) kk) ∧ (rxS kd c.1 ≠ [] → ∀ oo, 1 ≤ oo → oo < 51 → g (m + 24) oo = oNum g m oo) ∧ c.2.1.length = (rxS kd c.1).length ∧ (∀ x, x ∈ c.2.1 → 0 ≤ x ∧ x ≤ c.2.2) ∧ 0 ≤ c.2.2
def StF (g g' : Nat → Nat → Int) (m : Nat) : Prop := (∀ a, a ≠ m → (a < m + 12 ∨ m + 34 < a) → a ≠ m + 37 → a ≠ m + 41 → a ≠ m + 42 → g' a = g a) ∧ (∀ f, f ≠ 28 → f ≠ 29 → f ≠ 30 → f ≠ 34 → f ≠ 37 → f ≠ 38 → f ≠ 39 → f ≠ 48 → f ≠ 49 → f ≠ 65 → f ≠ 66 → g' m f = g m f) ∧ ∀ j, j < 9734 → g' (m + 37) j = g (m + 37) j
theorem StF.refl {g : Nat → Nat → Int} {m : Nat} : StF g g m := ⟨fun _ _ _ _ _ _ => rfl, fun _ _ _ _ _ _ _ _ _ _ _ _ => rfl, fun _ _ => rfl⟩
theorem StF.trans {g g1 g2 : Nat → Nat → Int} {m : Nat} (a : StF g g1 m) (b : StF g1 g2 m) : StF g g2 m := ⟨fun x h1 h2 h3 h4 h5 => (b.1 x h1 h2 h3 h4 h5).trans (a.1 x h1 h2 h3 h4 h5), fun f h1 h2 h3 h4 h5 h6 h7 h8 h9 h10 h11 => (b.2.1 f h1 h2 h3 h4 h5 h6 h7 h8 h9 h10 h11).trans (a.2.1 f h1 h2 h3 h4 h5 h6 h7 h8 h9 h10 h11), fun j hj => (b.2.2 j hj).trans (a.2.2 j hj)⟩
theorem SvR.nums {g g' : Nat → Nat → Int} {m b : Nat} {st : Nat → Int} (h1 : SvR g m st b) (h2 : SvR g' m st b) : (∀ kk, kk < 40 → g' (m + 15) kk = g (m + 15) kk) ∧ ∀ oo, oo < 51 → oNum g' m oo = oNum g m oo := by
  obtain ⟨a1, a2, a3, -⟩ := h1
  obtain ⟨b1, b2, b3, -⟩ := h2
  refine ⟨fun kk hk => (b2 kk hk).1.symm.trans (a2 kk hk).1, fun oo ho => ?_⟩
  unfold oNum
  split
  · rename_i h
    exact (b1 oo h).1.symm.trans (a1 oo h).1
  · exact (b3 (oo - 21) (by omega)).1.symm.trans (a3 (oo - 21) (by omega)).1
theorem SvR.of {g g' : Nat → Nat → Int} {m b : Nat} {st st' : Nat → Int} (h : SvR g m st b) (h1 : ∀ j, 12 ≤ j → j ≤ 21 → g' (m + j) = g (m + j)) (h2 : g' m 28 = g m 28) (h3 : ∀ j, b ≤ j → j < b + 314 → st' j = st j) : SvR g' m st' b := by
  obtain ⟨a1, a2, a3, a4⟩ := h
  refine ⟨fun i hi => ?_, fun i hi => ?_, fun i hi => ?_, ?_⟩
  · rw [h1 12 (by omega) (by omega), h1 13 (by omega) (by omega), h1 14 (by omega) (by omega), h3 _ (by omega) (by omega), h3 _ (by omega) (by omega), h3 _ (by omega) (by omega)]; exact a1 i hi
  · rw [h1 15 (by omega) (by omega), h1 16 (by omega) (by omega), h1 17 (by omega) (by omega), h1 18 (by omega) (by omega), h3 _ (by omega) (by omega), h3 _ (by omega) (by omega), h3 _ (by omega) (by omega), h3 _ (by omega) (by omega)]; exact a2 i hi
  · rw [h1 19 (by omega) (by omega), h1 20 (by omega) (by omega), h1 21 (by omega) (by omega), h3 _ (by omega) (by omega), h3 _ (by omega) (by omega), h3 _ (by omega) (by omega)]; exact a3 i hi
  · rw [h2, h3 _ (by omega) (by omega)]; exact a4
theorem Cam.of {g g' : Nat → Nat → Int} {m : Nat} {R : List Rd} {D : List Int} (h : Cam g m R D) (h1 : ∀ kk, kk < 40 → g' (m + 15) kk = g (m + 15) kk) (h2 : ∀ oo, oo < 51 → oNum g' m oo = oNum g m oo) (h3 : g' (m + 22) = g (m + 22)) : Cam g' m R D := by
  intro kk oo a b c
  rw [h1 kk a, h2 oo c, h3]
  exact h kk oo a b c
theorem c136 {P : Pg} {d : Nat} {u : Mm} {g : Nat → Nat → Int} {m : Nat} {sz kk oo k : Nat} {kd nm rp en : Nat → Int} {ht : Nat → Nat} {c : RS} {w : Rd} (hM : MdA u m) (hT : TmOk kd nm en sz ht) (hC : Mc g m kd nm rp en sz c) (hnx : c.1.2.2.2.1 ≤ 2147481000) (hst : c.2.2 ≤ 2147480000) (hw : (rxS kd c.1)[k]? = some w) (hsl : Sl g m w kk oo) (h65 : g m 65 = (kk : Int)) (h66 : g m 66 = (oo : Int)) : Ec P (d + 8) 136 [vR m] (sI u g) (fun x u' => ∃ g', u' = sI u g' ∧ StF g g' m ∧ ((∃ c', stpF kd nm rp en k c = some c' ∧ x = .inl (some (vI 1)) ∧ Mc g' m kd nm rp en sz c') ∨ (stpF kd nm rp en k c = none ∧ x = .inl (some (vI 0)) ∧ Mc g' m kd nm rp en sz c))) := by
  have s0 := hM.1
  obtain ⟨cT, cR, cV, c29, c30, c49, cW, cL, cC, cg, co, cD, cr, c0⟩ := hC
  have hwm := List.mem_of_getElem? hw
  have hrne : rxS kd c.1 ≠ [] := fun hh => by rw [hh] at hwm; exact absurd hwm (List.not_mem_nil)
  have cg := cg hrne
  have co := co hrne
  change Ef P _ 136 0 [some (vR m)] [] _ _
  refine ef_aload_n (pc := 0) d136_0 rfl ?_
  refine ef_bipush (pc := 1) d136_1 (by decide) ?_
  refine ef_callV (pc := 3) d136_3 lm_8_325 (as := [_]) rfl rfl (by assumption) rfl rfl (by decide) (Nat.le_of_ble_eq_true rfl) rfl (Nat.le_of_ble_eq_true rfl) ?_
  refine Ec.imp (Ec.deep (Nat.zero_le _) (c137 (d := 0) (b := 9734) (k := 31) hM (by omega) rfl)) ?_
  rintro r3 u3 ⟨g1, rfl, rfl, sv1, rf1, o1⟩
  have r1 : ∀ a, a ≠ m + 37 → g1 a = g a := o1
  have m1 : g1 m = g m := r1 _ (by omega)
  have t1 : TrR g1 m kd nm rp en sz := cT.of (fun j h1 h2 => r1 _ (by omega))
  have rel1 : Rel g1 m c.1 := cR.same (fun j h1 h2 => r1 _ (by omega)) (by rw [m1])
  have sl1 : Sl g1 m w kk oo := by
    obtain ⟨a1, a2, a3, a4, a5⟩ := hsl
    refine ⟨a1, a2, a3, by rw [r1 _ (by omega)]; exact a4, ?_⟩
    rw [← a5]; unfold oNum; rw [r1 _ (by omega), r1 _ (by omega)]
  refine ef_aload_n (pc := 6) d136_6 rfl ?_
  refine ef_callV (pc := 7) d136_7 lm_8_328 (as := []) rfl rfl (by assumption) rfl rfl (by decide) (Nat.le_of_ble_eq_true rfl) rfl (Nat.le_of_ble_eq_true rfl) ?_
  refine Ec.imp (Ec.deep (by omega) (c138 (d := d) hM hT t1 rel1 cV (by rw [m1]; exact c30) hnx hwm sl1 (by rw [m1]; exact h65) (by rw [m1]; exact h66))) ?_
  rintro r7 u7 ⟨g2, rfl, rfl, mf2, p2⟩
  rcases p2 with ⟨b1, b2, b3, b4, b5, b6, b7, b8⟩ | ⟨b1, b3⟩
  · have hstp : stpF kd nm rp en k c = some (folF kd nm rp en w c.1, ((rxS kd (folF kd nm rp en w c.1)).map (dtL (rxS kd c.1) c.2.1 (c.2.2 + 1)), c.2.2 + 1)) := by
      unfold stpF
      rw [hw]
      exact if_pos ⟨b1, b2⟩
    have z29 : g2 m 29 = c.2.2 := by rw [mf2.2 29 (by decide) (by decide) (by decide) (by decide) (by decide) (by decide) (by decide) (by decide), m1]; exact c29
    refine ef_aload_n (pc := 10) d136_10 rfl ?_
    refine eg_getZ (pc := 11) d136_11 lf_8_215 (by assumption) (by decide) ?_
    rw [b3]
    refine ef_if_eqT (pc := 14) d136_14 (t := 29) rfl (by decide) ?_
    refine ef_aload_n (pc := 29) d136_29 rfl ?_
    refine ef_dup (pc := 30) d136_30 rfl ?_
    refine eg_getI (pc := 31) d136_31 lf_8_212 (by assumption) (by decide) ?_
    rw [z29]
    refine ef_iconst (pc := 34) d136_34 (by decide) ?_
    refine ef_iadd (pc := 35) d136_35 rfl ⟨by omega, by omega⟩ ?_
    refine eg_putI (pc := 36) d136_36 pf_136_212 (by assumption) (by decide) ?_
    generalize hg3 : u2 g2 m 29 (c.2.2 + 1) = g3
    have r3 : ∀ a, a ≠ m → g3 a = g2 a := fun a h => by rw [← hg3, u2_ne h]
    have f3 : ∀ f, f ≠ 29 → g3 m f = g2 m f := fun f h => by rw [← hg3, u2_ni h]
    have e29 : g3 m 29 = c.2.2 + 1 := by rw [← hg3, u2_at]
    have t3 : TrR g3 m kd nm rp en sz := (t1.of (g' := g2) (fun j h1 h2 => mf2.1 _ (by omega) (by omega) (by omega) (by omega) (by omega))).of (fun j h1 h2 => r3 _ (by omega))
    have rel3 : Rel g3 m (folF kd nm rp en w c.1) := b4.same (fun j h1 h2 => r3 _ (by omega)) (f3 28 (by decide))
    have w23 : ∀ kk, kk < 40 → g3 (m + 23) kk = g (m + 15) kk := fun kk h => by rw [r3 _ (by omega), mf2.1 _ (by omega) (by omega) (by omega) (by omega) (by omega), r1 _ (by omega)]; exact cg kk h
    have w24 : ∀ oo, 1 ≤ oo → oo < 51 → g3 (m + 24) oo = oNum g m oo := fun oo h1 h2 => by rw [r3 _ (by omega), mf2.1 _ (by omega) (by omega) (by omega) (by omega) (by omega), r1 _ (by omega)]; exact co oo h1 h2
    have w22 : g3 (m + 22) = g (m + 22) := by rw [r3 _ (by omega), mf2.1 _ (by omega) (by omega) (by omega) (by omega) (by omega), r1 _ (by omega)]
    have cw : CamW g3 m (rxS kd c.1) c.2.1 := fun kk oo h1 h2 h3 => by rw [w23 kk h1, w24 oo h2 h3, w22]; exact cC kk oo h1 h2 h3
    have on3 : ∀ x, oNum g3 m x = oNum g2 m x := fun x => by unfold oNum; rw [r3 _ (by omega), r3 _ (by omega)]
    have on1 : ∀ x, oNum g1 m x = oNum g m x := fun x => by unfold oNum; rw [r1 _ (by omega), r1 _ (by omega)]
    have stb : Stb g3 m (rxS kd c.1) := by
      refine ⟨fun kk h1 y hy hy2 => ?_, fun oo h1 h2 y hy hy2 => ?_⟩
      · obtain ⟨e, he, hye, -⟩ := (rx_mem cV.2.2.2.2.2.1).mp hy
        have hb := cV.2.2.2.2.2.2.1.2 e he
        rw [r3 _ (by omega)] at hy2 ⊢
        rw [r3 _ (by omega), mf2.1 _ (by omega) (by omega) (by omega) (by omega) (by omega), r1 _ (by omega), cg kk h1]
        rcases b8.1 kk h1 with h | h | h
        · rw [h, r1 _ (by omega)]
        · omega
        · omega
      · obtain ⟨k3, o3, ⟨-, x2, x3, -, x5⟩, -, x7⟩ := rx_slots (kd := kd) cR cV hy
        have hlt : y.2.2 < c.1.2.2.2.1 := by
          rw [← x5]
          unfold oNum
          split
          · rename_i h
            by_cases h0 : 0 ≤ g (m + 12) o3
            · obtain ⟨e, he, e1, -⟩ := cR.1.1 o3 x2 h h0
              have := (cV.2.2.2.2.2.1.2 e he).2; omega
            · have := cV.2.1; omega
          · rename_i h
            by_cases h0 : 0 ≤ g (m + 19) (o3 - 21)
            · obtain ⟨e, he, e1, -⟩ := cR.2.2.1.1 (o3 - 21) (by omega) h0
              have := (cV.2.2.2.2.2.2.2.1.2 e he).2; omega
            · have := cV.2.1; omega
        rw [w24 oo h1 h2]
        rw [on3] at hy2 ⊢
        rcases b8.2 oo h1 h2 with h | h | h
        · rw [h, on1]
        · omega
        · omega
    refine ef_aload_n (pc := 39) d136_39 rfl ?_
    refine ef_callV (pc := 40) d136_40 lm_8_322 (as := []) rfl rfl (by assumption) rfl rfl (by decide) (Nat.le_of_ble_eq_true rfl) rfl (Nat.le_of_ble_eq_true rfl) ?_
    refine Ec.imp (Ec.deep (by omega) (c127 (d := d) hM hT t3 rel3 b5 rfl)) ?_
    rintro r40 u40 ⟨g4, rfl, rfl, q1, q2, q3, q4⟩
    have sfe : StF g g4 m := ⟨fun a h1 h2 h3 h4 h5 => by rw [q1 a (by omega) (by omega) (by omega), r3 a h1, mf2.1 a h1 (by omega) (by omega) h4 h5, r1 a h3], fun f h1 h2 h3 h4 h5 h6 h7 h8 h9 h10 h11 => by rw [q1 m (by omega) (by omega) (by omega), f3 f h2, mf2.2 f h1 h3 h4 h5 h6 h7 h8 h9, m1], fun j hj => by rw [q1 _ (by omega) (by omega) (by omega), r3 _ (by omega), mf2.1 _ (by omega) (by omega) (by omega) (by omega) (by omega)]; exact rf1 j (by omega)⟩
    refine ef_iconst (pc := 43) d136_43 (by decide) ?_
    refine ef_zret (pc := 44) d136_44 rfl (by omega) ?_
    refine ⟨g4, rfl, sfe, Or.inl ⟨_, hstp, rfl, ?_⟩⟩
    have r4 : ∀ a, a ≠ m + 22 → a ≠ m + 23 → a ≠ m + 24 → g4 a = g3 a := q1
    have o4 : ∀ x, oNum g4 m x = oNum g3 m x := fun x => by unfold oNum; rw [r4 _ (by omega) (by omega) (by omega), r4 _ (by omega) (by omega) (by omega)]
    refine ⟨t3.of (fun j h1 h2 => r4 _ (by omega) (by omega) (by omega)), rel3.same (fun j h1 h2 => r4 _ (by omega) (by omega) (by omega)) (by rw [r4 _ (by omega) (by omega) (by omega)]), b5, by rw [r4 _ (by omega) (by omega) (by omega)]; exact e29, by rw [r4 _ (by omega) (by omega) (by omega), f3 30 (by decide)]; exact b3, by rw [r4 _ (by omega) (by omega) (by omega), f3 49 (by decide)]; exact b6, by rw [r4 _ (by omega) (by omega) (by omega), r3 _ (by omega)]; exact b7, b2, ?_, fun _ x hx => by rw [q3 x hx, r4 _ (by omega) (by omega) (by omega)], fun _ x h1 h2 => by rw [q4 x h1 h2, o4], by rw [List.length_map], fun x hx => ?_, by show 0 ≤ c.2.2 + 1; omega⟩
    · intro a1 a2 h1 h2 h3
      rw [r4 (m + 15) (by omega) (by omega) (by omega), o4]
      have := nw_cam (rxS_srt b5) (rxS_srt cV) cD cw stb (fun x hx => (cr x hx).1) h1 h2 h3 (q2 a1 a2 h1 h2 h3)
      rw [e29] at this
      exact this
    · obtain ⟨e2, -, rfl⟩ := List.mem_map.mp hx
      exact dtL_rg (fun y hy => by have := cr y hy; omega) (by omega)
  · have hstp : stpF kd nm rp en k c = none := by
      unfold stpF
      rw [hw]
      exact if_neg b1
    refine ef_aload_n (pc := 10) d136_10 rfl ?_
    refine eg_getZ (pc := 11) d136_11 lf_8_215 (by assumption) (by decide) ?_
    rw [b3]
    refine ef_if_eqF (pc := 14) d136_14 (t := 29) rfl (by decide) ?_
    refine ef_aload_n (pc := 17) d136_17 rfl ?_
    refine ef_bipush (pc := 18) d136_18 (by decide) ?_
    refine ef_callV (pc := 20) d136_20 lm_8_331 (as := [_]) rfl rfl (by assumption) rfl rfl (by decide) (Nat.le_of_ble_eq_true rfl) rfl (Nat.le_of_ble_eq_true rfl) ?_
    refine Ec.imp (Ec.deep (Nat.zero_le _) (c139 (d := 0) (b := 9734) (k := 31) hM (by omega) rfl)) ?_
    rintro r20 u20 ⟨g3, rfl, rfl, sv3, e30, o3, f3⟩
    have e37 : g2 (m + 37) = g1 (m + 37) := mf2.1 _ (by omega) (by omega) (by omega) (by omega) (by omega)
    rw [e37] at sv3
    have rel3 : Rel g3 m c.1 := SvR.rel cR sv1 sv3
    have nums := SvR.nums sv1 sv3
    have r3 : ∀ a, a ≠ m → (a < m + 12 ∨ m + 21 < a) → (a < m + 25 ∨ m + 34 < a) → a ≠ m + 37 → a ≠ m + 41 → a ≠ m + 42 → g3 a = g a := fun a h1 h2 h3 h4 h5 h6 => by rw [o3 a h1 h2, mf2.1 a h1 h2 h3 h5 h6, r1 a h4]
    have t3 : TrR g3 m kd nm rp en sz := cT.of (fun j h1 h2 => r3 _ (by omega) (by omega) (by omega) (by omega) (by omega) (by omega))
    refine ef_aload_n (pc := 23) d136_23 rfl ?_
    refine ef_callV (pc := 24) d136_24 lm_8_313 (as := []) rfl rfl (by assumption) rfl rfl (by decide) (Nat.le_of_ble_eq_true rfl) rfl (Nat.le_of_ble_eq_true rfl) ?_
    refine Ec.imp (Ec.deep (by omega) (c113 (d := d) hM hT t3 rel3 cV e30)) ?_
    rintro r24 u24 ⟨g4, rfl, rfl, d4, p4⟩
    refine ef_iconst (pc := 27) d136_27 (by decide) ?_
    refine ef_zret (pc := 28) d136_28 rfl (by omega) ?_
    rcases p4 with ⟨a1, a2, a3, a4⟩ | ⟨a1, -⟩
    rotate_left
    · omega
    have r4 : ∀ a, a ≠ m → (a < m + 27 ∨ m + 34 < a) → a ≠ m + 41 → a ≠ m + 42 → g4 a = g3 a := d4.1
    have on4 : ∀ x, x < 51 → oNum g4 m x = oNum g m x := fun x hx => by
      rw [← nums.2 x hx]; unfold oNum; rw [r4 _ (by omega) (by omega) (by omega) (by omega), r4 _ (by omega) (by omega) (by omega) (by omega)]
    have n4 : ∀ x, x < 40 → g4 (m + 15) x = g (m + 15) x := fun x hx => by rw [r4 _ (by omega) (by omega) (by omega) (by omega)]; exact nums.1 x hx
    refine ⟨g4, rfl, ⟨fun a h1 h2 h3 h4 h5 => by rw [r4 a h1 (by omega) h4 h5]; exact r3 a h1 (by omega) (by omega) h3 h4 h5, fun f h1 h2 h3 h4 h5 h6 h7 h8 h9 h10 h11 => by rw [d4.2 f h3 h5 h6 h7 h8 h9, f3 f h1 h3, mf2.2 f h1 h3 h4 h5 h6 h7 h8 h9, m1], fun j hj => by rw [r4 _ (by omega) (by omega) (by omega) (by omega), o3 _ (by omega) (by omega), e37]; exact rf1 j (by omega)⟩, Or.inr ⟨hstp, rfl, ?_⟩⟩
    refine ⟨t3.of (fun j h1 h2 => r4 _ (by omega) (by omega) (by omega) (by omega)), rel3.same (fun j h1 h2 => r4 _ (by omega) (by omega) (by omega) (by omega)) (d4.2 28 (by decide) (by decide) (by decide) (by decide) (by decide) (by decide)), cV, ?_, a2, a3, a4, cL, cC.of n4 on4 ?_, fun _ x hx => ?_, fun _ x h1 h2 => ?_, cD, cr, c0⟩
    · rw [d4.2 29 (by decide) (by decide) (by decide) (by decide) (by decide) (by decide), f3 29 (by decide) (by decide), mf2.2 29 (by decide) (by decide) (by decide) (by decide) (by decide) (by decide) (by decide) (by decide), m1]; exact c29
    · rw [r4 _ (by omega) (by omega) (by omega) (by omega)]; exact r3 _ (by omega) (by omega) (by omega) (by omega) (by omega) (by omega)
    · rw [n4 x hx, r4 _ (by omega) (by omega) (by omega) (by omega), r3 _ (by omega) (by omega) (by omega) (by omega) (by omega) (by omega)]; exact cg x hx
    · rw [on4 x h2, r4 _ (by omega) (by omega) (by omega) (by omega), r3 _ (by omega) (by omega) (by omega) (by omega) (by omega) (by omega)]; exact co x h1 h2
