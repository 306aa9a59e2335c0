/-! The model: redexes told, taken, fairly. Written by wip/whole/gen/c9a.py. -/
def StZ (g g' : Nat → Nat → Int) (m : Nat) : Prop := (∀ a, a ≠ m → (a < m + 12 ∨ m + 34 < a) → a ≠ m + 37 → a ≠ m + 41 → a ≠ m + 42 → g' a = g a) ∧ (∀ f, f ≠ 0 → f ≠ 28 → f ≠ 29 → f ≠ 30 → f ≠ 34 → f ≠ 37 → f ≠ 38 → f ≠ 39 → f ≠ 48 → f ≠ 49 → f ≠ 65 → f ≠ 66 → g' m f = g m f) ∧ ∀ j, j < 9734 → g' (m + 37) j = g (m + 37) j
theorem StF.z {g g' : Nat → Nat → Int} {m : Nat} (h : StF g g' m) : StZ g g' m := ⟨h.1, fun f _ h1 h2 h3 h4 h5 h6 h7 h8 h9 h10 h11 => h.2.1 f h1 h2 h3 h4 h5 h6 h7 h8 h9 h10 h11, h.2.2⟩
theorem StZ.trans {g g1 g2 : Nat → Nat → Int} {m : Nat} (a : StZ g g1 m) (b : StZ g1 g2 m) : StZ g g2 m := ⟨fun x h1 h2 h3 h4 h5 => (b.1 x h1 h2 h3 h4 h5).trans (a.1 x h1 h2 h3 h4 h5), fun f h0 h1 h2 h3 h4 h5 h6 h7 h8 h9 h10 h11 => (b.2.1 f h0 h1 h2 h3 h4 h5 h6 h7 h8 h9 h10 h11).trans (a.2.1 f h0 h1 h2 h3 h4 h5 h6 h7 h8 h9 h10 h11), fun j hj => (b.2.2 j hj).trans (a.2.2 j hj)⟩
theorem StZ.fl {g : Nat → Nat → Int} {m f : Nat} {x : Int} (h : f = 0 ∨ f = 65 ∨ f = 66) : StZ g (u2 g m f x) m := ⟨fun a h1 _ _ _ _ => u2_ne h1, fun q h0 _ _ _ _ _ _ _ _ _ h10 h11 => u2_ni (by omega), fun j _ => by rw [u2_ne (by omega)]⟩
theorem Mc.fl {g : Nat → Nat → Int} {m sz f : Nat} {kd nm rp en : Nat → Int} {c : RS} {x : Int} (h : Mc g m kd nm rp en sz c) (hf : f = 0 ∨ f = 65 ∨ f = 66) : Mc (u2 g m f x) m kd nm rp en sz c := by
  obtain ⟨cT, cR, cV, c29, c30, c49, cW, cL, cC, cg, co, cD, cr, c0⟩ := h
  have o : ∀ a, a ≠ m → u2 g m f x a = g a := fun a ha => u2_ne ha
  have q : ∀ i, i ≠ f → u2 g m f x m i = g m i := fun i hi => u2_ni hi
  have on : ∀ y, oNum (u2 g m f x) m y = oNum g m y := fun y => by unfold oNum; rw [o _ (by omega), o _ (by omega)]
  refine ⟨cT.of (fun j _ _ => o _ (by omega)), cR.same (fun j _ _ => o _ (by omega)) (q 28 (by omega)), cV, (q 29 (by omega)).trans c29, (q 30 (by omega)).trans c30, (q 49 (by omega)).trans c49, by rw [o _ (by omega)]; exact cW, cL, cC.of (fun kk _ => by rw [o _ (by omega)]) (fun y _ => on y) (o _ (by omega)), fun hne kk hk => by rw [o _ (by omega), o _ (by omega)]; exact cg hne kk hk, fun hne y h1 h2 => by rw [o _ (by omega), on]; exact co hne y h1 h2, cD, cr, c0⟩
theorem Sl.fl {g : Nat → Nat → Int} {m f kk oo : Nat} {x : Int} {w : Rd} (h : Sl g m w kk oo) : Sl (u2 g m f x) m w kk oo := by
  obtain ⟨a1, a2, a3, a4, a5⟩ := h
  refine ⟨a1, a2, a3, by rw [u2_ne (by omega)]; exact a4, ?_⟩
  rw [← a5]; unfold oNum; rw [u2_ne (by omega), u2_ne (by omega)]
theorem c130 {P : Pg} {d : Nat} {u : Mm} {g : Nat → Nat → Int} {m : Nat} {sz : Nat} {kd nm rp en : Nat → Int} {ht : Nat → Nat} {c : RS} (hM : MdA u m) (hT : TmOk kd nm en sz ht) (hC : Mc g m kd nm rp en sz c) (hst : c.2.2 ≤ 2147470000) : Ec P (d + 4) 130 [vR m] (sI u g) (fun x u' => u' = sI u (u2 g m 0 0) ∧ x = .inl (some (vI ((rxS kd c.1).length : Int)))) := by
  have s0 := hM.1
  have hC1 : Mc (u2 g m 0 0) m kd nm rp en sz c := hC.fl (Or.inl rfl)
  change Ef P _ 130 0 [some (vR m)] [] _ _
  refine ef_aload_n (pc := 0) d130_0 rfl ?_
  refine ef_iconst (pc := 1) d130_1 (by decide) ?_
  refine eg_putI (pc := 2) d130_2 pf_130_141 (by assumption) (by decide) ?_
  refine ef_aload_n (pc := 5) d130_5 rfl ?_
  refine ef_iconst (pc := 6) d130_6 (by decide) ?_
  refine ef_callV (pc := 7) d130_7 lm_8_334 (as := [_]) rfl rfl (by assumption) rfl rfl (by decide) (Nat.le_of_ble_eq_true rfl) rfl (Nat.le_of_ble_eq_true rfl) ?_
  refine Ec.imp (c131 (d := d) hM hT hC1.1 hC1.2.1 hC1.2.2.1 rfl hC1.2.2.2.2.2.2.2.2.1 hC1.2.2.2.2.2.2.2.2.2.2.2.1 hC1.2.2.2.1 hC1.2.2.2.2.2.2.2.2.2.2.2.2.1 (by omega) (by omega) (by unfold inR; omega)) ?_
  rintro r7 u7 hq
  rcases hq with ⟨n, hn, -⟩ | ⟨-, rfl, rfl⟩ | ⟨hn, -⟩
  · omega
  rotate_left
  · omega
  refine ef_iret (pc := 10) d130_10 rfl ?_
  exact ⟨rfl, rfl⟩
theorem c134 {P : Pg} {d : Nat} {u : Mm} {g : Nat → Nat → Int} {m : Nat} {sz : Nat} {kd nm rp en : Nat → Int} {ht : Nat → Nat} {c : RS} {k i : Int} (hM : MdA u m) (hT : TmOk kd nm en sz ht) (hC : Mc g m kd nm rp en sz c) (hst : c.2.2 ≤ 2147470000) (hk : inR k) : Ec P (d + 4) 134 [vR m, vI k, vI i] (sI u g) (fun x u' => ∃ g', u' = sI u g' ∧ StZ g g' m ∧ Mc g' m kd nm rp en sz c ∧ ((¬ ((0 ≤ k ∧ k < ((rxS kd c.1).length : Int)) ∧ (0 ≤ i ∧ i ≤ 3)) ∧ g' m 0 = 1 ∧ x = .inl (some (vI 0))) ∨ (∃ (n : Nat) (w : Rd) (z : Int), k = (n : Int) ∧ (rxS kd c.1)[n]? = some w ∧ c.2.1[n]? = some z ∧ (0 ≤ i ∧ i ≤ 3) ∧ g' m 0 = 0 ∧ x = .inl (some (vI (if i = 0 then w.1 else if i = 1 then w.2.1 else if i = 2 then w.2.2 else c.2.2 - z)))))) := by
  have s0 := hM.1
  have f8 : mF u m 8 = some (m + 3) := (hM.2 2 (by decide)).1
  have s8 : mS u (m + 3) = some (0, 51) := (hM.2 2 (by decide)).2
  have f21 : mF u m 21 = some (m + 15) := (hM.2 14 (by decide)).1
  have s21 : mS u (m + 15) = some (0, 40) := (hM.2 14 (by decide)).2
  have f22 : mF u m 22 = some (m + 16) := (hM.2 15 (by decide)).1
  have s22 : mS u (m + 16) = some (0, 40) := (hM.2 15 (by decide)).2
  have f31 : mF u m 31 = some (m + 22) := (hM.2 21 (by decide)).1
  have s31 : mS u (m + 22) = some (0, 2040) := (hM.2 21 (by decide)).2
  have hC1 : Mc (u2 g m 0 0) m kd nm rp en sz c := hC.fl (Or.inl rfl)
  have z0 : StZ g (u2 g m 0 0) m := StZ.fl (Or.inl rfl)
  change Ef P _ 134 0 [some (vR m), some (vI k), some (vI i)] [] _ _
  refine ef_aload_n (pc := 0) d134_0 rfl ?_
  refine ef_iconst (pc := 1) d134_1 (by decide) ?_
  refine eg_putI (pc := 2) d134_2 pf_134_141 (by assumption) (by decide) ?_
  refine ef_iload_n (pc := 5) d134_5 rfl ?_
  refine ef_if_lt (pc := 6) d134_6 (t := 26) rfl (fun h6 => ?_) (fun h6 => ?_)
  · have hno : ¬ ((0 ≤ k ∧ k < ((rxS kd c.1).length : Int)) ∧ (0 ≤ i ∧ i ≤ 3)) := fun hh => by omega
    refine ef_aload_n (pc := 26) d134_26 rfl ?_
    refine ef_iconst (pc := 27) d134_27 (by decide) ?_
    refine ef_callV (pc := 28) d134_28 lm_8_152 (as := [_]) rfl rfl (by assumption) rfl rfl (by decide) (Nat.le_of_ble_eq_true rfl) rfl (Nat.le_of_ble_eq_true rfl) ?_
    refine Ec.imp (c94 hM) ?_
    rintro r28 u28 ⟨rfl, rfl⟩
    refine ef_iret (pc := 31) d134_31 rfl ?_
    exact ⟨_, rfl, z0.trans (StZ.fl (Or.inl rfl)), hC1.fl (Or.inl rfl), Or.inl ⟨hno, u2_at, rfl⟩⟩
  · refine ef_iload_n (pc := 9) d134_9 rfl ?_
    refine ef_iconst (pc := 10) d134_10 (by decide) ?_
    refine ef_iconst (pc := 11) d134_11 (by decide) ?_
    refine ef_callS (pc := 12) d134_12 lm_8_148 (as := [_, _, _]) rfl rfl rfl (Nat.le_of_ble_eq_true rfl) rfl (Nat.le_of_ble_eq_true rfl) ?_
    refine Ec.imp (c93) ?_
    rintro r12 u12 ⟨rfl, rfl⟩
    refine ef_if_eq (pc := 15) d134_15 (t := 26) rfl (fun h15 => ?_) (fun h15 => ?_)
    · have hf := b01_t h15
      have hf2 := of_decide_eq_false hf
      have hno : ¬ ((0 ≤ k ∧ k < ((rxS kd c.1).length : Int)) ∧ (0 ≤ i ∧ i ≤ 3)) := fun hh => by omega
      refine ef_aload_n (pc := 26) d134_26 rfl ?_
      refine ef_iconst (pc := 27) d134_27 (by decide) ?_
      refine ef_callV (pc := 28) d134_28 lm_8_152 (as := [_]) rfl rfl (by assumption) rfl rfl (by decide) (Nat.le_of_ble_eq_true rfl) rfl (Nat.le_of_ble_eq_true rfl) ?_
      refine Ec.imp (c94 hM) ?_
      rintro r28 u28 ⟨rfl, rfl⟩
      refine ef_iret (pc := 31) d134_31 rfl ?_
      exact ⟨_, rfl, z0.trans (StZ.fl (Or.inl rfl)), hC1.fl (Or.inl rfl), Or.inl ⟨hno, u2_at, rfl⟩⟩
    · have hf2 := of_decide_eq_true (b01_f h15)
      refine ef_aload_n (pc := 18) d134_18 rfl ?_
      refine ef_iload_n (pc := 19) d134_19 rfl ?_
      refine ef_callV (pc := 20) d134_20 lm_8_334 (as := [_]) rfl rfl (by assumption) rfl rfl (by decide) (Nat.le_of_ble_eq_true rfl) rfl (Nat.le_of_ble_eq_true rfl) ?_
      refine Ec.imp (c131 (d := d) hM hT hC1.1 hC1.2.1 hC1.2.2.1 rfl hC1.2.2.2.2.2.2.2.2.1 hC1.2.2.2.2.2.2.2.2.2.2.2.1 hC1.2.2.2.1 hC1.2.2.2.2.2.2.2.2.2.2.2.2.1 (by omega) (by omega) hk) ?_
      rintro r20 u20 hq
      rcases hq with ⟨n, rfl, ⟨w, kk, oo, hw, hsl, rfl, rfl⟩ | ⟨hle, rfl, rfl⟩⟩ | ⟨hn, -⟩ | ⟨hn, -⟩
      · refine ef_if_neT (pc := 23) d134_23 (t := 32) rfl (by decide) ?_
        have hC2 : Mc (u2 (u2 (u2 g m 0 0) m 65 (kk : Int)) m 66 (oo : Int)) m kd nm rp en sz c := (hC1.fl (Or.inr (Or.inl rfl))).fl (Or.inr (Or.inr rfl))
        have z2 : StZ g (u2 (u2 (u2 g m 0 0) m 65 (kk : Int)) m 66 (oo : Int)) m := (z0.trans (StZ.fl (Or.inr (Or.inl rfl)))).trans (StZ.fl (Or.inr (Or.inr rfl)))
        obtain ⟨l1, l2, l3, l4, l5⟩ := id hsl
        have e65 : (u2 (u2 (u2 g m 0 0) m 65 (kk : Int)) m 66 (oo : Int)) m 65 = (kk : Int) := by rw [u2_ni (by decide), u2_at]
        have e66 : (u2 (u2 (u2 g m 0 0) m 65 (kk : Int)) m 66 (oo : Int)) m 66 = (oo : Int) := u2_at
        have e0 : (u2 (u2 (u2 g m 0 0) m 65 (kk : Int)) m 66 (oo : Int)) m 0 = 0 := by rw [u2_ni (by decide), u2_ni (by decide), u2_at]
        generalize hg2 : (u2 (u2 (u2 g m 0 0) m 65 (kk : Int)) m 66 (oo : Int)) = g2 at hC2 z2 e65 e66 e0
        have r2 : ∀ a, a ≠ m → g2 a = u2 g m 0 0 a := fun a h => by rw [← hg2, u2_ne h, u2_ne h]
        have hwm := List.mem_of_getElem? hw
        obtain ⟨e, hRx⟩ := (rx_mem hC.2.2.1.2.2.2.2.2.1).mp hwm
        have n15 : g2 (m + 15) kk = w.2.1 := by rw [r2 _ (by omega)]; exact l4
        have onw : oNum g2 m oo = w.2.2 := by rw [← l5]; unfold oNum; rw [r2 _ (by omega), r2 _ (by omega)]
        obtain ⟨e', he', e1, e2, -⟩ := hC2.2.1.2.1.1 kk l1 (by rw [n15, hRx.2.1]; exact (hC.2.2.1.2.2.2.2.2.2.1.2 e hRx.1).1)
        have hee : e' = e := hC.2.2.1.2.2.2.2.2.2.1.one he' hRx.1 (by rw [e1, n15, hRx.2.1])
        subst hee
        obtain ⟨nn, hn1, hn2, hk0, hk3, -⟩ := hC.2.2.1.2.2.2.2.2.2.2.2.2.2.2.2.2.2.2 e' he'
        have n16 : g2 (m + 16) kk = (nn : Int) := by rw [← e2]; exact hn1
        have n3 : g2 (m + 3) nn = kdM (kd nn) := (hC2.1.1 nn hn2).1
        have h50 := hT.1.1
        have htn : e'.2.2.2.1.toNat = nn := by rw [hn1]; rfl
        have hkw : kdM (kd nn) = w.1 + 2 := by
          have hr := hRx.2.2
          rw [htn] at hr
          unfold kdM
          rcases hr with ⟨q1, q2, -⟩ | ⟨q1, q2, -⟩ | ⟨q1, q2, -⟩ | ⟨q1, q2, q3, q4, -⟩
          · rw [q1, q2]; rfl
          · rw [q1, q2]; rfl
          · rw [q1, q2]; rfl
          · rw [show kd nn = 3 by omega, q4]; rfl
        have hcam := (hC2.2.2.2.2.2.2.2.2.1 kk oo l1 l2 l3).1 n w hw (by rw [n15, onw])
        generalize hz : g2 (m + 22) (51 * kk + oo) = z at hcam
        have hzr := hC.2.2.2.2.2.2.2.2.2.2.2.2.1 z (List.mem_of_getElem? hcam)
        have e29 : g2 m 29 = c.2.2 := hC2.2.2.2.1
        refine ef_iload_n (pc := 32) d134_32 rfl ?_
        refine ef_iconst (pc := 33) d134_33 (by decide) ?_
        refine ef_icmp_ge (pc := 34) d134_34 (t := 70) rfl (fun h34 => ?_) (fun h34 => ?_)
        · refine ef_iload_n (pc := 70) d134_70 rfl ?_
          refine ef_iconst (pc := 71) d134_71 (by decide) ?_
          refine ef_icmp_ne (pc := 72) d134_72 (t := 86) rfl (fun h72 => ?_) (fun h72 => ?_)
          · refine ef_aload_n (pc := 86) d134_86 rfl ?_
            refine eg_getI (pc := 87) d134_87 lf_8_212 (by assumption) (by decide) ?_
            rw [e29]
            refine ef_aload_n (pc := 90) d134_90 rfl ?_
            refine eg_getR (pc := 91) d134_91 lf_8_74 (by assumption) (by decide) (by assumption) ?_
            refine ef_bipush (pc := 94) d134_94 (by decide) ?_
            refine ef_aload_n (pc := 96) d134_96 rfl ?_
            refine eg_getI (pc := 97) d134_97 lf_8_304 (by assumption) (by decide) ?_
            rw [e65]
            refine ef_imul (pc := 100) d134_100 (z := ((51 * kk : Nat) : Int)) (by omega) ⟨by omega, by omega⟩ ?_
            refine ef_aload_n (pc := 101) d134_101 rfl ?_
            refine eg_getI (pc := 102) d134_102 lf_8_307 (by assumption) (by decide) ?_
            rw [e66]
            refine ef_iadd (pc := 105) d134_105 (z := ((51 * kk + oo : Nat) : Int)) (by omega) ⟨by omega, by omega⟩ ?_
            refine eg_iald (pc := 106) d134_106 (i := 51 * kk + oo) (by assumption) (rfl) (by omega) ?_
            rw [hz]
            refine ef_isub (pc := 107) d134_107 rfl ⟨by omega, by omega⟩ ?_
            refine ef_iret (pc := 108) d134_108 rfl ?_
            refine ⟨g2, rfl, z2, hC2, Or.inr ⟨n, w, z, rfl, hw, hcam, by omega, e0, ?_⟩⟩
            first
            | (rw [if_pos (by omega)])
            | (rw [if_neg (by omega), if_pos (by omega)])
            | (rw [if_neg (by omega), if_neg (by omega), if_pos (by omega)])
            | (rw [if_neg (by omega), if_neg (by omega), if_neg (by omega)])
          · refine ef_aload_n (pc := 75) d134_75 rfl ?_
            refine ef_aload_n (pc := 76) d134_76 rfl ?_
            refine eg_getI (pc := 77) d134_77 lf_8_307 (by assumption) (by decide) ?_
            rw [e66]
            refine ef_callV (pc := 80) d134_80 lm_8_292 (as := [_]) rfl rfl (by assumption) rfl rfl (by decide) (Nat.le_of_ble_eq_true rfl) rfl (Nat.le_of_ble_eq_true rfl) ?_
            refine Ec.imp (c128 hM (by omega)) ?_
            rintro r80 u80 ⟨rfl, rfl⟩
            rw [onw]
            refine ef_goto (pc := 83) d134_83 (t := 108) rfl ?_
            refine ef_iret (pc := 108) d134_108 rfl ?_
            refine ⟨g2, rfl, z2, hC2, Or.inr ⟨n, w, z, rfl, hw, hcam, by omega, e0, ?_⟩⟩
            first
            | (rw [if_pos (by omega)])
            | (rw [if_neg (by omega), if_pos (by omega)])
            | (rw [if_neg (by omega), if_neg (by omega), if_pos (by omega)])
            | (rw [if_neg (by omega), if_neg (by omega), if_neg (by omega)])
        · refine ef_iload_n (pc := 37) d134_37 rfl ?_
          refine ef_if_ne (pc := 38) d134_38 (t := 60) rfl (fun h38 => ?_) (fun h38 => ?_)
          · refine ef_aload_n (pc := 60) d134_60 rfl ?_
            refine eg_getR (pc := 61) d134_61 lf_8_53 (by assumption) (by decide) (by assumption) ?_
            refine ef_aload_n (pc := 64) d134_64 rfl ?_
            refine eg_getI (pc := 65) d134_65 lf_8_304 (by assumption) (by decide) ?_
            rw [e65]
            refine eg_iald (pc := 68) d134_68 (i := kk) (by assumption) (rfl) (by omega) ?_
            rw [n15]
            refine ef_iret (pc := 69) d134_69 rfl ?_
            refine ⟨g2, rfl, z2, hC2, Or.inr ⟨n, w, z, rfl, hw, hcam, by omega, e0, ?_⟩⟩
            first
            | (rw [if_pos (by omega)])
            | (rw [if_neg (by omega), if_pos (by omega)])
            | (rw [if_neg (by omega), if_neg (by omega), if_pos (by omega)])
            | (rw [if_neg (by omega), if_neg (by omega), if_neg (by omega)])
          · refine ef_aload_n (pc := 41) d134_41 rfl ?_
            refine eg_getR (pc := 42) d134_42 lf_8_16 (by assumption) (by decide) (by assumption) ?_
            refine ef_aload_n (pc := 45) d134_45 rfl ?_
            refine eg_getR (pc := 46) d134_46 lf_8_56 (by assumption) (by decide) (by assumption) ?_
            refine ef_aload_n (pc := 49) d134_49 rfl ?_
            refine eg_getI (pc := 50) d134_50 lf_8_304 (by assumption) (by decide) ?_
            rw [e65]
            refine eg_iald (pc := 53) d134_53 (i := kk) (by assumption) (rfl) (by omega) ?_
            rw [n16]
            refine eg_iald (pc := 54) d134_54 (i := nn) (by assumption) (rfl) (by omega) ?_
            rw [n3, hkw]
            refine ef_iconst (pc := 55) d134_55 (by decide) ?_
            refine ef_isub (pc := 56) d134_56 (z := w.1) (by omega) ⟨by unfold kdM at hkw; split at hkw; omega; split at hkw <;> omega, by unfold kdM at hkw; split at hkw; omega; split at hkw <;> omega⟩ ?_
            refine ef_goto (pc := 57) d134_57 (t := 69) rfl ?_
            refine ef_iret (pc := 69) d134_69 rfl ?_
            refine ⟨g2, rfl, z2, hC2, Or.inr ⟨n, w, z, rfl, hw, hcam, by omega, e0, ?_⟩⟩
            first
            | (rw [if_pos (by omega)])
            | (rw [if_neg (by omega), if_pos (by omega)])
            | (rw [if_neg (by omega), if_neg (by omega), if_pos (by omega)])
            | (rw [if_neg (by omega), if_neg (by omega), if_neg (by omega)])
      · have hno : ¬ ((0 ≤ (n : Int) ∧ (n : Int) < ((rxS kd c.1).length : Int)) ∧ (0 ≤ i ∧ i ≤ 3)) := fun hh => by omega
        refine ef_if_neF (pc := 23) d134_23 (t := 32) rfl (by decide) ?_
        refine ef_aload_n (pc := 26) d134_26 rfl ?_
        refine ef_iconst (pc := 27) d134_27 (by decide) ?_
        refine ef_callV (pc := 28) d134_28 lm_8_152 (as := [_]) rfl rfl (by assumption) rfl rfl (by decide) (Nat.le_of_ble_eq_true rfl) rfl (Nat.le_of_ble_eq_true rfl) ?_
        refine Ec.imp (c94 hM) ?_
        rintro r28 u28 ⟨rfl, rfl⟩
        refine ef_iret (pc := 31) d134_31 rfl ?_
        exact ⟨_, rfl, z0.trans (StZ.fl (Or.inl rfl)), hC1.fl (Or.inl rfl), Or.inl ⟨hno, u2_at, rfl⟩⟩
      · omega
      · omega
theorem c135 {P : Pg} {d : Nat} {u : Mm} {g : Nat → Nat → Int} {m : Nat} {sz : Nat} {kd nm rp en : Nat → Int} {ht : Nat → Nat} {c : RS} {k : Int} (hM : MdA u m) (hT : TmOk kd nm en sz ht) (hC : Mc g m kd nm rp en sz c) (hst : c.2.2 ≤ 2147470000) (hnx : c.1.2.2.2.1 ≤ 2147481000) (hk : inR k) : Ec P (d + 9) 135 [vR m, vI k] (sI u g) (fun x u' => ∃ g', u' = sI u g' ∧ StZ g g' m ∧ ((¬ (0 ≤ k ∧ k < ((rxS kd c.1).length : Int)) ∧ g' m 0 = 1 ∧ Mc g' m kd nm rp en sz c ∧ x = .inl (some (vI 0))) ∨ (∃ n : Nat, k = (n : Int) ∧ n < (rxS kd c.1).length ∧ ((stpF kd nm rp en n c = none ∧ g' m 0 = 2 ∧ Mc g' m kd nm rp en sz c ∧ x = .inl (some (vI 0))) ∨ (∃ c', stpF kd nm rp en n c = some c' ∧ g' m 0 = 0 ∧ Mc g' m kd nm rp en sz c' ∧ x = .inl (some (vI ((rxS kd c'.1).length : Int)))))))) := by
  have s0 := hM.1
  have hC1 : Mc (u2 g m 0 0) m kd nm rp en sz c := hC.fl (Or.inl rfl)
  have z0 : StZ g (u2 g m 0 0) m := StZ.fl (Or.inl rfl)
  change Ef P _ 135 0 [some (vR m), some (vI k)] [] _ _
  refine ef_aload_n (pc := 0) d135_0 rfl ?_
  refine ef_iconst (pc := 1) d135_1 (by decide) ?_
  refine eg_putI (pc := 2) d135_2 pf_135_141 (by assumption) (by decide) ?_
  refine ef_iload_n (pc := 5) d135_5 rfl ?_
  refine ef_if_lt (pc := 6) d135_6 (t := 17) rfl (fun h6 => ?_) (fun h6 => ?_)
  · have hno : ¬ (0 ≤ k ∧ k < ((rxS kd c.1).length : Int)) := fun hh => by omega
    refine ef_aload_n (pc := 17) d135_17 rfl ?_
    refine ef_iconst (pc := 18) d135_18 (by decide) ?_
    refine ef_callV (pc := 19) d135_19 lm_8_152 (as := [_]) rfl rfl (by assumption) rfl rfl (by decide) (Nat.le_of_ble_eq_true rfl) rfl (Nat.le_of_ble_eq_true rfl) ?_
    refine Ec.imp (c94 hM) ?_
    rintro r19 u19 ⟨rfl, rfl⟩
    refine ef_iret (pc := 22) d135_22 rfl ?_
    exact ⟨_, rfl, z0.trans (StZ.fl (Or.inl rfl)), Or.inl ⟨hno, u2_at, hC1.fl (Or.inl rfl), rfl⟩⟩
  · refine ef_aload_n (pc := 9) d135_9 rfl ?_
    refine ef_iload_n (pc := 10) d135_10 rfl ?_
    refine ef_callV (pc := 11) d135_11 lm_8_334 (as := [_]) rfl rfl (by assumption) rfl rfl (by decide) (Nat.le_of_ble_eq_true rfl) rfl (Nat.le_of_ble_eq_true rfl) ?_
    refine Ec.imp (Ec.deep (by omega) (c131 (d := d) hM hT hC1.1 hC1.2.1 hC1.2.2.1 rfl hC1.2.2.2.2.2.2.2.2.1 hC1.2.2.2.2.2.2.2.2.2.2.2.1 hC1.2.2.2.1 hC1.2.2.2.2.2.2.2.2.2.2.2.2.1 (by omega) (by omega) hk)) ?_
    rintro r11 u11 hq
    rcases hq with ⟨n, rfl, ⟨w, kk, oo, hw, hsl, rfl, rfl⟩ | ⟨hle, rfl, rfl⟩⟩ | ⟨hn, -⟩ | ⟨hn, -⟩
    · refine ef_if_neT (pc := 14) d135_14 (t := 23) rfl (by decide) ?_
      have hnl := (List.getElem?_eq_some_iff.mp hw).1
      have hC2 : Mc (u2 (u2 (u2 g m 0 0) m 65 (kk : Int)) m 66 (oo : Int)) m kd nm rp en sz c := (hC1.fl (Or.inr (Or.inl rfl))).fl (Or.inr (Or.inr rfl))
      have z2 : StZ g (u2 (u2 (u2 g m 0 0) m 65 (kk : Int)) m 66 (oo : Int)) m := (z0.trans (StZ.fl (Or.inr (Or.inl rfl)))).trans (StZ.fl (Or.inr (Or.inr rfl)))
      have e65 : (u2 (u2 (u2 g m 0 0) m 65 (kk : Int)) m 66 (oo : Int)) m 65 = (kk : Int) := by rw [u2_ni (by decide), u2_at]
      have e66 : (u2 (u2 (u2 g m 0 0) m 65 (kk : Int)) m 66 (oo : Int)) m 66 = (oo : Int) := u2_at
      have e0 : (u2 (u2 (u2 g m 0 0) m 65 (kk : Int)) m 66 (oo : Int)) m 0 = 0 := by rw [u2_ni (by decide), u2_ni (by decide), u2_at]
      have sl2 : Sl (u2 (u2 (u2 g m 0 0) m 65 (kk : Int)) m 66 (oo : Int)) m w kk oo := (hsl.fl).fl
      generalize hg2 : (u2 (u2 (u2 g m 0 0) m 65 (kk : Int)) m 66 (oo : Int)) = g2 at hC2 z2 e65 e66 e0 sl2
      refine ef_aload_n (pc := 23) d135_23 rfl ?_
      refine ef_callV (pc := 24) d135_24 lm_8_337 (as := []) rfl rfl (by assumption) rfl rfl (by decide) (Nat.le_of_ble_eq_true rfl) rfl (Nat.le_of_ble_eq_true rfl) ?_
      refine Ec.imp (Ec.deep (by omega) (c136 (d := d) hM hT hC2 hnx (by omega) hw sl2 e65 e66)) ?_
      rintro r24 u24 ⟨g3, rfl, sf, hx⟩
      rcases hx with ⟨c1, hs1, rfl, hC3⟩ | ⟨hs1, rfl, hC3⟩
      · have hst1 : c1.2.2 ≤ c.2.2 + 1 := by
          unfold stpF at hs1
          rw [hw] at hs1
          simp only at hs1
          split at hs1
          · cases hs1; exact Int.le_refl _
          · cases hs1
        refine ef_if_eqF (pc := 27) d135_27 (t := 38) rfl (by decide) ?_
        refine ef_aload_n (pc := 30) d135_30 rfl ?_
        refine ef_iconst (pc := 31) d135_31 (by decide) ?_
        refine ef_callV (pc := 32) d135_32 lm_8_334 (as := [_]) rfl rfl (by assumption) rfl rfl (by decide) (Nat.le_of_ble_eq_true rfl) rfl (Nat.le_of_ble_eq_true rfl) ?_
        refine Ec.imp (Ec.deep (by omega) (c131 (d := d) hM hT hC3.1 hC3.2.1 hC3.2.2.1 rfl hC3.2.2.2.2.2.2.2.2.1 hC3.2.2.2.2.2.2.2.2.2.2.2.1 hC3.2.2.2.1 hC3.2.2.2.2.2.2.2.2.2.2.2.2.1 (by omega) (by omega) (by unfold inR; omega))) ?_
        rintro r32 u32 hq
        rcases hq with ⟨n9, hn9, -⟩ | ⟨-, rfl, rfl⟩ | ⟨hn9, -⟩
        · omega
        rotate_left
        · omega
        refine ef_goto (pc := 35) d135_35 (t := 43) rfl ?_
        refine ef_iret (pc := 43) d135_43 rfl ?_
        exact ⟨g3, rfl, z2.trans sf.z, Or.inr ⟨n, rfl, hnl, Or.inr ⟨c1, hs1, by rw [sf.2.1 0 (by decide) (by decide) (by decide) (by decide) (by decide) (by decide) (by decide) (by decide) (by decide) (by decide) (by decide)]; exact e0, hC3, rfl⟩⟩⟩
      · refine ef_if_eqT (pc := 27) d135_27 (t := 38) rfl (by decide) ?_
        refine ef_aload_n (pc := 38) d135_38 rfl ?_
        refine ef_iconst (pc := 39) d135_39 (by decide) ?_
        refine ef_callV (pc := 40) d135_40 lm_8_152 (as := [_]) rfl rfl (by assumption) rfl rfl (by decide) (Nat.le_of_ble_eq_true rfl) rfl (Nat.le_of_ble_eq_true rfl) ?_
        refine Ec.imp (c94 hM) ?_
        rintro r40 u40 ⟨rfl, rfl⟩
        refine ef_iret (pc := 43) d135_43 rfl ?_
        exact ⟨_, rfl, (z2.trans sf.z).trans (StZ.fl (Or.inl rfl)), Or.inr ⟨n, rfl, hnl, Or.inl ⟨hs1, u2_at, hC3.fl (Or.inl rfl), rfl⟩⟩⟩
    · have hno : ¬ (0 ≤ (n : Int) ∧ (n : Int) < ((rxS kd c.1).length : Int)) := fun hh => by omega
      refine ef_if_neF (pc := 14) d135_14 (t := 23) rfl (by decide) ?_
      refine ef_aload_n (pc := 17) d135_17 rfl ?_
      refine ef_iconst (pc := 18) d135_18 (by decide) ?_
      refine ef_callV (pc := 19) d135_19 lm_8_152 (as := [_]) rfl rfl (by assumption) rfl rfl (by decide) (Nat.le_of_ble_eq_true rfl) rfl (Nat.le_of_ble_eq_true rfl) ?_
      refine Ec.imp (c94 hM) ?_
      rintro r19 u19 ⟨rfl, rfl⟩
      refine ef_iret (pc := 22) d135_22 rfl ?_
      exact ⟨_, rfl, z0.trans (StZ.fl (Or.inl rfl)), Or.inl ⟨hno, u2_at, hC1.fl (Or.inl rfl), rfl⟩⟩
    · omega
    · omega
theorem c140 {P : Pg} {d : Nat} {u : Mm} {g : Nat → Nat → Int} {m : Nat} {sz : Nat} {kd nm rp en : Nat → Int} {ht : Nat → Nat} {c : RS} {k : Int} (hM : MdA u m) (hT : TmOk kd nm en sz ht) (hC : Mc g m kd nm rp en sz c) (hst : c.2.2 ≤ 2147470000) (hnx : c.1.2.2.2.1 ≤ 2147470000) : Ec P (d + 9) 140 [vR m, vI k] (sI u g) (fun x u' => ∃ g', u' = sI u g' ∧ StZ g g' m ∧ ((¬ (1 ≤ k ∧ k ≤ 30) ∧ g' m 0 = 1 ∧ Mc g' m kd nm rp en sz c ∧ x = .inl (some (vI 0))) ∨ (∃ (n : Nat) (F : RS × (Nat × Bool)), k = (n : Int) ∧ 1 ≤ n ∧ n ≤ 30 ∧ faF kd nm rp en n c = F ∧ Mc g' m kd nm rp en sz F.1 ∧ ((F.2.2 = true ∧ g' m 0 = 2 ∧ x = .inl (some (vI 0))) ∨ (F.2.2 = false ∧ g' m 0 = 0 ∧ x = .inl (some (vI (F.2.1 : Int)))))))) := by
  have s0 := hM.1
  have hC1 : Mc (u2 g m 0 0) m kd nm rp en sz c := hC.fl (Or.inl rfl)
  have z0 : StZ g (u2 g m 0 0) m := StZ.fl (Or.inl rfl)
  have loop : ∀ (n : Nat), 1 ≤ n → n ≤ 30 → ∀ (F : RS × (Nat × Bool)), ∀ (q j : Nat) (g1 : Nat → Nat → Int) (c1 : RS), j + q = n → StZ g g1 m → g1 m 0 = 0 → Mc g1 m kd nm rp en sz c1 → c1.1.2.2.2.1 ≤ c.1.2.2.2.1 + 50 * (j : Int) → c1.2.2 ≤ c.2.2 + (j : Int) → F = ((faF kd nm rp en q c1).1, ((faF kd nm rp en q c1).2.1 + j, (faF kd nm rp en q c1).2.2)) →
      Ef P (d + 9) 140 23 [some (vR m), some (vI (n : Int)), some (vI (j : Int))] [] (sI u g1) (fun x u' => ∃ g', u' = sI u g' ∧ StZ g g' m ∧ Mc g' m kd nm rp en sz F.1 ∧ ((F.2.2 = true ∧ g' m 0 = 2 ∧ x = .inl (some (vI 0))) ∨ (F.2.2 = false ∧ g' m 0 = 0 ∧ x = .inl (some (vI (F.2.1 : Int)))))) := by
    intro n hn1 hn30 F q
    induction q with
    | zero =>
      intro j g1 c1 hj zz e0 hC1 b1 b2 hFe
      have hjn : j = n := by omega
      subst hjn
      rw [show faF kd nm rp en 0 c1 = (c1, (0, false)) from rfl] at hFe
      subst hFe
      refine ef_iload_n (pc := 23) d140_23 rfl ?_
      refine ef_iload_n (pc := 24) d140_24 rfl ?_
      refine ef_icmp_geT (pc := 25) d140_25 (t := 56) rfl (by omega) ?_
      refine ef_iload_n (pc := 56) d140_56 rfl ?_
      refine ef_iret (pc := 57) d140_57 rfl ?_
      exact ⟨g1, rfl, zz, hC1, Or.inr ⟨rfl, e0, by show _ = Sum.inl (some (vI ((0 + j : Nat) : Int))); rw [Nat.zero_add]⟩⟩
    | succ q ih =>
      intro j g1 c1 hj zz e0 hC1 b1 b2 hFe
      rw [faF] at hFe
      refine ef_iload_n (pc := 23) d140_23 rfl ?_
      refine ef_iload_n (pc := 24) d140_24 rfl ?_
      refine ef_icmp_geF (pc := 25) d140_25 (t := 56) rfl (by omega) ?_
      refine ef_aload_n (pc := 28) d140_28 rfl ?_
      refine ef_bipush (pc := 29) d140_29 (by decide) ?_
      refine ef_callV (pc := 31) d140_31 lm_8_334 (as := [_]) rfl rfl (by assumption) rfl rfl (by decide) (Nat.le_of_ble_eq_true rfl) rfl (Nat.le_of_ble_eq_true rfl) ?_
      refine Ec.imp (Ec.deep (by omega) (c131 (d := d) hM hT hC1.1 hC1.2.1 hC1.2.2.1 rfl hC1.2.2.2.2.2.2.2.2.1 hC1.2.2.2.2.2.2.2.2.2.2.2.1 hC1.2.2.2.1 hC1.2.2.2.2.2.2.2.2.2.2.2.2.1 (by omega) (by omega) (by unfold inR; omega))) ?_
      rintro r31 u31 hq
      rcases hq with ⟨n9, hn9, -⟩ | ⟨hn9, -⟩ | ⟨-, rfl, ⟨hz, rfl⟩ | ⟨w, kk, oo, hw, hsl, rfl⟩⟩
      · omega
      · omega
      · rw [if_pos hz] at hFe
        subst hFe
        refine ef_if_leT (pc := 34) d140_34 (t := 56) rfl (by omega) ?_
        refine ef_iload_n (pc := 56) d140_56 rfl ?_
        refine ef_iret (pc := 57) d140_57 rfl ?_
        exact ⟨g1, rfl, zz, hC1, Or.inr ⟨rfl, e0, by show _ = Sum.inl (some (vI ((0 + j : Nat) : Int))); rw [Nat.zero_add]⟩⟩
      · have hC2 : Mc (u2 (u2 g1 m 65 (kk : Int)) m 66 (oo : Int)) m kd nm rp en sz c1 := (hC1.fl (Or.inr (Or.inl rfl))).fl (Or.inr (Or.inr rfl))
        have z2 : StZ g (u2 (u2 g1 m 65 (kk : Int)) m 66 (oo : Int)) m := (zz.trans (StZ.fl (Or.inr (Or.inl rfl)))).trans (StZ.fl (Or.inr (Or.inr rfl)))
        have e65 : (u2 (u2 g1 m 65 (kk : Int)) m 66 (oo : Int)) m 65 = (kk : Int) := by rw [u2_ni (by decide), u2_at]
        have e66 : (u2 (u2 g1 m 65 (kk : Int)) m 66 (oo : Int)) m 66 = (oo : Int) := u2_at
        have e02 : (u2 (u2 g1 m 65 (kk : Int)) m 66 (oo : Int)) m 0 = 0 := by rw [u2_ni (by decide), u2_ni (by decide)]; exact e0
        have sl2 : Sl (u2 (u2 g1 m 65 (kk : Int)) m 66 (oo : Int)) m w kk oo := (hsl.fl).fl
        generalize hg2 : (u2 (u2 g1 m 65 (kk : Int)) m 66 (oo : Int)) = g2 at hC2 z2 e65 e66 e02 sl2
        have hnl := (List.getElem?_eq_some_iff.mp hw).1
        rw [if_neg (by omega)] at hFe
        refine ef_if_leF (pc := 34) d140_34 (t := 56) rfl (by omega) ?_
        refine ef_aload_n (pc := 37) d140_37 rfl ?_
        refine ef_callV (pc := 38) d140_38 lm_8_337 (as := []) rfl rfl (by assumption) rfl rfl (by decide) (Nat.le_of_ble_eq_true rfl) rfl (Nat.le_of_ble_eq_true rfl) ?_
        refine Ec.imp (Ec.deep (by omega) (c136 (d := d) hM hT hC2 (by omega) (by omega) hw sl2 e65 e66)) ?_
        rintro r38 u38 ⟨g3, rfl, sf, hx⟩
        rcases hx with ⟨c2, hs1, rfl, hC3⟩ | ⟨hs1, rfl, hC3⟩
        · rw [hs1] at hFe
          simp only at hFe
          have hbd : c2.1.2.2.2.1 ≤ c1.1.2.2.2.1 + 50 ∧ c2.2.2 ≤ c1.2.2 + 1 := by
            unfold stpF at hs1
            rw [hw] at hs1
            simp only at hs1
            split at hs1
            · cases hs1
              obtain ⟨e, he⟩ := rx_w hC1.2.2.1 hw
              exact ⟨(fol_nx (rp := rp) hT hC1.2.2.1 he).2, Int.le_refl _⟩
            · cases hs1
          refine ef_if_neT (pc := 41) d140_41 (t := 50) rfl (by decide) ?_
          refine ef_iinc (pc := 50) d140_50 (ls' := [_, _, _]) (z := ((j + 1 : Nat) : Int)) rfl (by decide) (by omega) ⟨by omega, by omega⟩ rfl ?_
          refine ef_goto (pc := 53) d140_53 (t := 23) rfl ?_
          exact ih (j + 1) g3 c2 (by omega) (z2.trans sf.z) (by rw [sf.2.1 0 (by decide) (by decide) (by decide) (by decide) (by decide) (by decide) (by decide) (by decide) (by decide) (by decide) (by decide)]; exact e02) hC3 (by omega) (by omega) (by rw [hFe]; show _ = ((faF kd nm rp en q c2).1, ((faF kd nm rp en q c2).2.1 + (j + 1), (faF kd nm rp en q c2).2.2)); rw [show (faF kd nm rp en q c2).2.1 + (j + 1) = (faF kd nm rp en q c2).2.1 + 1 + j by omega])
        · rw [hs1] at hFe
          simp only at hFe
          subst hFe
          refine ef_if_neF (pc := 41) d140_41 (t := 50) rfl (by decide) ?_
          refine ef_aload_n (pc := 44) d140_44 rfl ?_
          refine ef_iconst (pc := 45) d140_45 (by decide) ?_
          refine ef_callV (pc := 46) d140_46 lm_8_152 (as := [_]) rfl rfl (by assumption) rfl rfl (by decide) (Nat.le_of_ble_eq_true rfl) rfl (Nat.le_of_ble_eq_true rfl) ?_
          refine Ec.imp (c94 hM) ?_
          rintro r46 u46 ⟨rfl, rfl⟩
          refine ef_iret (pc := 49) d140_49 rfl ?_
          exact ⟨_, rfl, (z2.trans sf.z).trans (StZ.fl (Or.inl rfl)), hC3.fl (Or.inl rfl), Or.inl ⟨rfl, u2_at, rfl⟩⟩
  change Ef P _ 140 0 [some (vR m), some (vI k), none] [] _ _
  refine ef_aload_n (pc := 0) d140_0 rfl ?_
  refine ef_iconst (pc := 1) d140_1 (by decide) ?_
  refine eg_putI (pc := 2) d140_2 pf_140_141 (by assumption) (by decide) ?_
  refine ef_iload_n (pc := 5) d140_5 rfl ?_
  refine ef_iconst (pc := 6) d140_6 (by decide) ?_
  refine ef_bipush (pc := 7) d140_7 (by decide) ?_
  refine ef_callS (pc := 9) d140_9 lm_8_148 (as := [_, _, _]) rfl rfl rfl (Nat.le_of_ble_eq_true rfl) rfl (Nat.le_of_ble_eq_true rfl) ?_
  refine Ec.imp (c93) ?_
  rintro r9 u9 ⟨rfl, rfl⟩
  refine ef_if_ne (pc := 12) d140_12 (t := 21) rfl (fun h12 => ?_) (fun h12 => ?_)
  · have hf2 := of_decide_eq_true (b01_f h12)
    obtain ⟨n, rfl⟩ : ∃ n : Nat, k = (n : Int) := ⟨k.toNat, by omega⟩
    refine ef_iconst (pc := 21) d140_21 (by decide) ?_
    refine ef_istore_n (pc := 22) d140_22 (ls' := [_, _, _]) rfl ?_
    refine Ef.imp (loop n (by omega) (by omega) _ n 0 _ c (by omega) z0 u2_at hC1 (by omega) (by omega) rfl) ?_
    rintro x u1 ⟨g1, rfl, zz, hC9, hx⟩
    exact ⟨g1, rfl, zz, Or.inr ⟨n, _, rfl, by omega, by omega, rfl, hC9, hx⟩⟩
  · have hf2 := of_decide_eq_false (b01_t h12)
    refine ef_aload_n (pc := 15) d140_15 rfl ?_
    refine ef_iconst (pc := 16) d140_16 (by decide) ?_
    refine ef_callV (pc := 17) d140_17 lm_8_152 (as := [_]) rfl rfl (by assumption) rfl rfl (by decide) (Nat.le_of_ble_eq_true rfl) rfl (Nat.le_of_ble_eq_true rfl) ?_
    refine Ec.imp (c94 hM) ?_
    rintro r17 u17 ⟨rfl, rfl⟩
    refine ef_iret (pc := 20) d140_20 rfl ?_
    exact ⟨_, rfl, z0.trans (StZ.fl (Or.inl rfl)), Or.inl ⟨hf2, u2_at, hC1.fl (Or.inl rfl), rfl⟩⟩
