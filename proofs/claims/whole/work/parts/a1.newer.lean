/-! The constructors of states, of the explorer and of the class. Written by wip/whole/gen/ca1.py. -/
theorem gr_step {u v w : Mm} {a N U N' U' f : Nat} {Z : Nat → Nat → Int} (G : Gr u v a N U Z) (ha : a < mT u) (B : Bk v w N' U' Z) : ∃ w', sF w (u2 (mF w) a f (some (mT v))) = w' ∧ Gr u w' a (N + N') (U + U') Z ∧ mF w' a f = some (mT u + N) ∧ (∀ f', f' ≠ f → mF w' a f' = mF v a f') ∧ mI w' a = mI v a ∧ Ag w w' (mT u) (mT w) ∧ Ag v w' (mT u) (mT v) := by
  have hv := G.1
  obtain ⟨b1, b2, b3, b4⟩ := id B
  refine ⟨_, rfl, (G.bk B).put (Or.inl rfl), ?_, fun f' hf => ?_, ?_, ?_, ?_⟩
  · rw [mF_sF, u2_at, hv]
  · rw [mF_sF, u2_ni hf, (b3 a (by omega)).2.2]
  · rw [mI_sF, (b3 a (by omega)).1]
  · exact Ag.put (Or.inl ha)
  · intro b h1 h2
    rw [mS_sF, mF_sF, u2_ne (by omega)]
    exact (b3 b h2).2
theorem c44 {P : Pg} {d : Nat} {u : Mm} {a : Nat} {Z : Nat → Nat → Int} (hs : mS u a = some (100 + 4, 6)) (ha : mT u = a + 1) (hZ : ∀ b, a + 1 ≤ b → b < a + 21 → ∀ i, Z b i = 0) : Ec P (d + 1) 44 [vR a] u (fun r v => r = .inl none ∧ Gr u v a 20 710 Z ∧ mI v a = mI u a ∧ StA v a) := by
  have G0 : Gr u u a 0 0 Z := Gr.zero
  have ha' : a < mT u := by omega
  change Ef P _ 44 0 [some (vR a)] [] _ _
  refine ef_aload_n (pc := 0) d44_0 rfl ?_
  refine ef_biI (pc := 1) d44_1 lm_4_3 (as := [_]) rfl rfl (by decide) (Nat.le_of_ble_eq_true rfl) (rfl) ?_
  refine ef_aload_n (pc := 4) d44_4 rfl ?_
  refine ef_new (pc := 5) d44_5 lc_4_9 ?_
  refine ef_dup (pc := 8) d44_8 rfl ?_
  refine ef_bipush (pc := 9) d44_9 (by decide) ?_
  refine ef_callI (pc := 11) d44_11 lm_4_11 (as := [_]) rfl rfl rfl (Nat.le_of_ble_eq_true rfl) rfl (Nat.le_of_ble_eq_true rfl) ?_
  refine Ec.imp (c83 (n := 20) (by rw [mS_new, if_pos rfl]) (by rw [mT_new]; omega) (by decide)) ?_
  rintro r11 u11 ⟨rfl, A1⟩
  have e1 : mT u = _ := G0.1
  have B1 := A1.bk Z (fun b h1 h2 => hZ b (by omega) (by omega))
  have q1 : mS u11 a = some (100 + 4, 6) := ((B1.2.2.1 a (by omega)).2.1).trans (((G0.2.2.1 a ha').1).trans hs)
  refine ef_putR (pc := 14) d44_14 pf_44_14 (by assumption) (by decide) ?_
  obtain ⟨w1, x1, G1, F1, K1, I1, X1, Y1⟩ := gr_step (f := 0) G0 ha' B1
  rw [x1]
  have t1 := A1.ThA.ag (X1.sub (by omega) (by have := B1.1; omega))
  refine ef_aload_n (pc := 17) d44_17 rfl ?_
  refine ef_new (pc := 18) d44_18 lc_4_9 ?_
  refine ef_dup (pc := 21) d44_21 rfl ?_
  refine ef_bipush (pc := 22) d44_22 (by decide) ?_
  refine ef_callI (pc := 24) d44_24 lm_4_11 (as := [_]) rfl rfl rfl (Nat.le_of_ble_eq_true rfl) rfl (Nat.le_of_ble_eq_true rfl) ?_
  refine Ec.imp (c83 (n := 40) (by rw [mS_new, if_pos rfl]) (by rw [mT_new]; omega) (by decide)) ?_
  rintro r24 u24 ⟨rfl, A2⟩
  have e2 : mT w1 = _ := G1.1
  have B2 := A2.bk Z (fun b h1 h2 => hZ b (by omega) (by omega))
  have q2 : mS u24 a = some (100 + 4, 6) := ((B2.2.2.1 a (by omega)).2.1).trans (((G1.2.2.1 a ha').1).trans hs)
  refine ef_putR (pc := 27) d44_27 pf_44_20 (by assumption) (by decide) ?_
  obtain ⟨w2, x2, G2, F2, K2, I2, X2, Y2⟩ := gr_step (f := 1) G1 ha' B2
  rw [x2]
  have t2 := A2.ThA.ag (X2.sub (by omega) (by have := B2.1; omega))
  refine ef_aload_n (pc := 30) d44_30 rfl ?_
  refine ef_new (pc := 31) d44_31 lc_4_9 ?_
  refine ef_dup (pc := 34) d44_34 rfl ?_
  refine ef_bipush (pc := 35) d44_35 (by decide) ?_
  refine ef_callI (pc := 37) d44_37 lm_4_11 (as := [_]) rfl rfl rfl (Nat.le_of_ble_eq_true rfl) rfl (Nat.le_of_ble_eq_true rfl) ?_
  refine Ec.imp (c83 (n := 30) (by rw [mS_new, if_pos rfl]) (by rw [mT_new]; omega) (by decide)) ?_
  rintro r37 u37 ⟨rfl, A3⟩
  have e3 : mT w2 = _ := G2.1
  have B3 := A3.bk Z (fun b h1 h2 => hZ b (by omega) (by omega))
  have q3 : mS u37 a = some (100 + 4, 6) := ((B3.2.2.1 a (by omega)).2.1).trans (((G2.2.2.1 a ha').1).trans hs)
  refine ef_putR (pc := 40) d44_40 pf_44_23 (by assumption) (by decide) ?_
  obtain ⟨w3, x3, G3, F3, K3, I3, X3, Y3⟩ := gr_step (f := 2) G2 ha' B3
  rw [x3]
  have t3 := A3.ThA.ag (X3.sub (by omega) (by have := B3.1; omega))
  refine ef_aload_n (pc := 43) d44_43 rfl ?_
  refine ef_new (pc := 44) d44_44 lc_4_26 ?_
  refine ef_dup (pc := 47) d44_47 rfl ?_
  refine ef_callI (pc := 48) d44_48 lm_4_28 (as := []) rfl rfl rfl (Nat.le_of_ble_eq_true rfl) rfl (Nat.le_of_ble_eq_true rfl) ?_
  refine Ec.imp (c29 (by rw [mS_new, if_pos rfl]) (by rw [mT_new]; omega)) ?_
  rintro r48 u48 ⟨rfl, A4⟩
  have e4 : mT w3 = _ := G3.1
  have B4 := A4.bk Z (fun b h1 h2 => hZ b (by omega) (by omega))
  have q4 : mS u48 a = some (100 + 4, 6) := ((B4.2.2.1 a (by omega)).2.1).trans (((G3.2.2.1 a ha').1).trans hs)
  refine ef_putR (pc := 51) d44_51 pf_44_29 (by assumption) (by decide) ?_
  obtain ⟨w4, x4, G4, F4, K4, I4, X4, Y4⟩ := gr_step (f := 3) G3 ha' B4
  rw [x4]
  have t4 := A4.LnA.ag (X4.sub (by omega) (by have := B4.1; omega))
  refine ef_vret (pc := 54) d44_54 rfl ?_
  have n1 := G1.1
  have n2 := G2.1
  have n3 := G3.1
  have n4 := G4.1
  refine ⟨rfl, G4, I4.trans (I3.trans (I2.trans I1)), ((G4.2.2.1 a ha').1).trans hs, ?_, ?_, ?_, ?_, ?_, ?_, ?_, ?_⟩
  · rw [K4 0 (by decide), K3 0 (by decide), K2 0 (by decide), F1, ha]
  · rw [K4 1 (by decide), K3 1 (by decide), F2, ha]
  · rw [K4 2 (by decide), F3, ha]
  · rw [F4, ha]
  · have := ((t1.ag (Y2.sub (by omega) (by omega))).ag (Y3.sub (by omega) (by omega))).ag (Y4.sub (by omega) (by omega)); rw [ha] at this; exact this
  · have := (t2.ag (Y3.sub (by omega) (by omega))).ag (Y4.sub (by omega) (by omega)); rw [n1, ha] at this; exact this
  · have := t3.ag (Y4.sub (by omega) (by omega)); rw [n2, ha] at this; exact this
  · have := t4; rw [n3, ha] at this; exact this
theorem c23 {P : Pg} {d : Nat} {u : Mm} {a : Nat} {Z : Nat → Nat → Int} (hs : mS u a = some (100 + 1, 7)) (ha : mT u = a + 1) (hZ : ∀ b, a + 1 ≤ b → b < a + 638 → ∀ i, Z b i = 0) : Ec P (d + 2) 23 [vR a] u (fun r v => r = .inl none ∧ Gr u v a 637 26345 Z ∧ mI v a = (u2 (mI u) a 6 (-1)) a ∧ ExA v a) := by
  have ha' : a < mT u := by omega
  have loop : ∀ i, i ≤ 30 → ∀ v : Mm, Gr u v a (7 + 21 * i) (4865 + 716 * i) Z → mI v a = (u2 (mI u) a 6 (-1)) a → mF v a 0 = some (a + 1) → mF v a 1 = some (a + 2) → mF v a 2 = some (a + 3) → mS v (a + 1) = some (4 + 4, 30) → mS v (a + 2) = some (0, 30) → RxA v (a + 3) → (∀ i', i' < i → mF v (a + 1) i' = some (a + 8 + 21 * i') ∧ StA v (a + 8 + 21 * i')) → Ef P (d + 2) 23 39 [some (vR a), some (vI (i : Int))] [] v (fun r v => r = .inl none ∧ Gr u v a 637 26345 Z ∧ mI v a = (u2 (mI u) a 6 (-1)) a ∧ ExA v a) := by
    refine nat_loop 30 ?_
    intro i hi ih v G I0 F0 F1 F2 S1 S2 RX ST
    have n0 := G.1
    have hsv : mS v a = some (100 + 1, 7) := ((G.2.2.1 a ha').1).trans hs
    refine ef_iload_n (pc := 39) d23_39 rfl ?_
    refine ef_bipush (pc := 40) d23_40 (by decide) ?_
    refine ef_icmp_ge (pc := 42) d23_42 (t := 64) rfl (fun h42 => ?_) (fun h42 => ?_)
    · have hii : i = 30 := by omega
      subst hii
      refine ef_vret (pc := 64) d23_64 rfl ?_
      exact ⟨rfl, G, I0, hsv, F0, F1, F2, S1, S2, RX, ST⟩
    · have hlt : i < 30 := by omega
      refine ef_aload_n (pc := 45) d23_45 rfl ?_
      refine ef_getR (pc := 46) d23_46 lf_1_11 (by assumption) (by decide) (by assumption) ?_
      refine ef_iload_n (pc := 49) d23_49 rfl ?_
      refine ef_new (pc := 50) d23_50 lc_1_9 ?_
      have hr1 : mS (mNew v (100 + 4) 6) (a + 1) = some (4 + 4, 30) := by rw [mS_new, if_neg (by omega)]; exact S1
      refine ef_dup (pc := 53) d23_53 rfl ?_
      refine ef_callI (pc := 54) d23_54 lm_1_32 (as := []) rfl rfl rfl (Nat.le_of_ble_eq_true rfl) rfl (Nat.le_of_ble_eq_true rfl) ?_
      refine Ec.imp (c44 (d := d) (Z := Z) (by rw [mS_new, if_pos rfl]) rfl (fun b h1 h2 => hZ b (by omega) (by omega))) ?_
      rintro r54 u54 ⟨rfl, GS, IS, SA⟩
      have B := GS.out (fun i => by rw [IS, mI_new, if_pos rfl, hZ (mT v) (by omega) (by omega)])
      have hq1 : mS u54 (a + 1) = some (4 + 4, 30) := ((B.2.2.1 (a + 1) (by omega)).2.1).trans S1
      have hq2 := SA.1
      refine ef_aast (pc := 57) d23_57 (i := i) (by assumption) (by assumption) (by decide) (rfl) (by omega) ?_
      have G1 := (G.bk B).put (b := a + 1) (f := i) (r := some (mT v)) (Or.inr (by omega))
      have eF : ∀ b, b < mT v → b ≠ a + 1 → mF (sF u54 (u2 (mF u54) (a + 1) i (some (mT v)))) b = mF v b := fun b h1 h2 => by rw [mF_sF, u2_ne h2]; exact (B.2.2.1 b h1).2.2
      have eS : ∀ b, b < mT v → mS (sF u54 (u2 (mF u54) (a + 1) i (some (mT v)))) b = mS v b := fun b h1 => (B.2.2.1 b h1).2.1
      have eA : ∀ lo hi, a + 2 ≤ lo → hi ≤ mT v → Ag v (sF u54 (u2 (mF u54) (a + 1) i (some (mT v)))) lo hi := fun lo hi h1 h2 b h3 h4 => ⟨eS b (by omega), eF b (by omega) (by omega)⟩
      have eT := B.1
      have SA2 := SA.ag (w := sF u54 (u2 (mF u54) (a + 1) i (some (mT v)))) (Ag.put (Or.inl (by omega)))
      have eI : mI (sF u54 (u2 (mF u54) (a + 1) i (some (mT v)))) a = mI v a := (B.2.2.1 a (by omega)).1
      have eN : mF (sF u54 (u2 (mF u54) (a + 1) i (some (mT v)))) (a + 1) i = some (mT v) := by rw [mF_sF, u2_at]
      have eO : ∀ k, k ≠ i → mF (sF u54 (u2 (mF u54) (a + 1) i (some (mT v)))) (a + 1) k = mF v (a + 1) k := fun k hk => by rw [mF_sF, u2_ni hk, (B.2.2.1 (a + 1) (by omega)).2.2]
      generalize sF u54 (u2 (mF u54) (a + 1) i (some (mT v))) = v2 at *
      refine ef_iinc (pc := 58) d23_58 (ls' := [_, _]) (z := ((i + 1 : Nat) : Int)) rfl (by decide) (by omega) ⟨by omega, by omega⟩ rfl ?_
      refine ef_goto (pc := 61) d23_61 (t := 39) rfl ?_
      refine ih hlt v2 ?_ (eI.trans I0) (by rw [eF a (by omega) (by omega)]; exact F0) (by rw [eF a (by omega) (by omega)]; exact F1) (by rw [eF a (by omega) (by omega)]; exact F2) (by rw [eS _ (by omega)]; exact S1) (by rw [eS _ (by omega)]; exact S2) (RX.ag (eA _ _ (by omega) (by omega))) ?_
      · have : 7 + 21 * (i + 1) = 7 + 21 * i + (20 + 1) := by omega
        rw [this, show 4865 + 716 * (i + 1) = 4865 + 716 * i + (710 + 6) by omega]
        exact G1
      · intro k hk
        by_cases hki : k = i
        · subst hki
          rw [eN]
          rw [show a + 8 + 21 * k = mT v by omega]
          exact ⟨rfl, SA2⟩
        · have hk2 : k < i := by omega
          rw [eO k hki]
          exact ⟨(ST k hk2).1, (ST k hk2).2.ag (eA _ _ (by omega) (by omega))⟩
  change Ef P _ 23 0 [some (vR a), none] [] _ _
  refine ef_aload_n (pc := 0) d23_0 rfl ?_
  refine ef_biI (pc := 1) d23_1 lm_1_3 (as := [_]) rfl rfl (by decide) (Nat.le_of_ble_eq_true rfl) (rfl) ?_
  refine ef_aload_n (pc := 4) d23_4 rfl ?_
  refine ef_bipush (pc := 5) d23_5 (by decide) ?_
  refine ef_newr (pc := 7) d23_7 (show tLa 1 9 = some 4 by decide +kernel) (n := 30) rfl (by decide) ?_
  have B1 : Bk u (mNew u (4 + 4) 30) 1 30 Z := Bk.new (hZ _ (by omega) (by omega))
  have q1 : mS (mNew u (4 + 4) 30) a = some (100 + 1, 7) := by rw [mS_new, if_neg (by omega)]; exact hs
  refine ef_putR (pc := 10) d23_10 pf_23_11 (by assumption) (by decide) ?_
  obtain ⟨w1, x1, G1, F1, K1, I1, X1, Y1⟩ := gr_step (f := 0) Gr.zero ha' B1
  rw [x1]
  have m1 : mS w1 (a + 1) = some (4 + 4, 30) := by have := (X1 (mT u) (by omega) (by rw [mT_new]; omega)).1; rw [mS_new, if_pos rfl, ha] at this; exact this
  have n1 := G1.1
  refine ef_aload_n (pc := 13) d23_13 rfl ?_
  refine ef_bipush (pc := 14) d23_14 (by decide) ?_
  refine ef_newa (pc := 16) d23_16 rfl (n := 30) rfl (by decide) ?_
  have B2 : Bk w1 (mNew w1 0 30) 1 30 Z := Bk.new (hZ _ (by omega) (by omega))
  have q2 : mS (mNew w1 0 30) a = some (100 + 1, 7) := by rw [mS_new, if_neg (by omega)]; exact ((G1.2.2.1 a ha').1).trans hs
  refine ef_putR (pc := 18) d23_18 pf_23_17 (by assumption) (by decide) ?_
  obtain ⟨w2, x2, G2, F2, K2, I2, X2, Y2⟩ := gr_step (f := 1) G1 ha' B2
  rw [x2]
  have m2 : mS w2 (a + 2) = some (0, 30) := by have := (X2 (mT w1) (by omega) (by rw [mT_new]; omega)).1; rw [mS_new, if_pos rfl, n1, ha] at this; exact this
  have n2 := G2.1
  refine ef_aload_n (pc := 21) d23_21 rfl ?_
  refine ef_new (pc := 22) d23_22 lc_1_21 ?_
  refine ef_dup (pc := 25) d23_25 rfl ?_
  refine ef_callI (pc := 26) d23_26 lm_1_23 (as := []) rfl rfl rfl (Nat.le_of_ble_eq_true rfl) rfl (Nat.le_of_ble_eq_true rfl) ?_
  refine Ec.imp (c32 (by rw [mS_new, if_pos rfl]) (by rw [mT_new]; omega)) ?_
  rintro r26 u26 ⟨rfl, A3⟩
  have e3 : mT w2 = _ := G2.1
  have B3 := A3.bk Z (fun b h1 h2 => hZ b (by omega) (by omega))
  have q3 : mS u26 a = some (100 + 1, 7) := ((B3.2.2.1 a (by omega)).2.1).trans (((G2.2.2.1 a ha').1).trans hs)
  refine ef_putR (pc := 29) d23_29 pf_23_24 (by assumption) (by decide) ?_
  obtain ⟨w3, x3, G3, F3, K3, I3, X3, Y3⟩ := gr_step (f := 2) G2 ha' B3
  rw [x3]
  have t3 := A3.RxA.ag (X3.sub (by omega) (by have := B3.1; omega))
  have n3 := G3.1
  have q4 : mS w3 a = some (100 + 1, 7) := ((G3.2.2.1 a ha').1).trans hs
  refine ef_aload_n (pc := 32) d23_32 rfl ?_
  refine ef_iconst (pc := 33) d23_33 (by decide) ?_
  refine ef_putI (pc := 34) d23_34 pf_23_28 (by assumption) (by decide) ?_
  refine ef_iconst (pc := 37) d23_37 (by decide) ?_
  refine ef_istore_n (pc := 38) d23_38 (ls' := [_, _]) rfl ?_
  refine loop 0 (by omega) _ ?_ ?_ ?_ ?_ ?_ ?_ ?_ ?_ (fun k hk => absurd hk (Nat.not_lt_zero _))
  · obtain ⟨g1, g2, g3, g4⟩ := G3
    exact ⟨g1, g2, fun b hb => ⟨(g3 b hb).1, fun hba => ⟨(u2_ne hba).trans ((g3 b hb).2 hba).1, ((g3 b hb).2 hba).2⟩⟩, fun b h1 h2 i => (congrFun (u2_ne (by omega)) i).trans (g4 b h1 h2 i)⟩
  · show u2 (mI w3) a 6 (-1) a = _
    rw [u2_eq, u2_eq, I3, I2, I1]
  · show mF w3 a 0 = _
    rw [K3 0 (by decide), K2 0 (by decide), F1, ha]
  · show mF w3 a 1 = _
    rw [K3 1 (by decide), F2, ha]
  · show mF w3 a 2 = _
    rw [F3, ha]
  · show mS w3 (a + 1) = _
    rw [(Y3 (a + 1) (by omega) (by omega)).1, (Y2 (a + 1) (by omega) (by omega)).1]; exact m1
  · show mS w3 (a + 2) = _
    rw [(Y3 (a + 2) (by omega) (by omega)).1]; exact m2
  · have := t3
    rw [n2, ha] at this
    exact this
