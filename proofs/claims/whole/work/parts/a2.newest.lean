/-! The class's and the model's constructors. Written by wip/whole/gen/ca2.py. -/
def zX (x b i : Nat) : Int := if b = x ∧ i = 6 then -1 else 0
theorem zX_0 {x b i : Nat} (h : b ≠ x) : zX x b i = 0 := if_neg (fun hh => h hh.1)
/-- the class's shape while its rows of texts are made -/
def BxP (v : Mm) (a i : Nat) : Prop := mF v a 0 = some (a + 1) ∧ mF v a 2 = some (a + 2) ∧ mF v a 3 = some (a + 8) ∧ mF v a 4 = some (a + 13) ∧ mF v a 5 = some (a + 34) ∧ mF v a 6 = some (a + 55) ∧ mF v a 7 = some (a + 60) ∧ mF v a 9 = some (a + 65) ∧ mF v a 10 = some (a + 66) ∧ mS v (a + 1) = some (1, 120) ∧ mS v (a + 65) = some (4 + 2, 3) ∧ (∀ k, k < i → mF v (a + 65) k = some (a + 704 + 2 * k) ∧ LnA v (a + 704 + 2 * k)) ∧ TmA v (a + 2) ∧ TlA v (a + 8) ∧ StA v (a + 13) ∧ StA v (a + 34) ∧ RxA v (a + 55) ∧ RxA v (a + 60) ∧ ExA v (a + 66)
theorem c0 {P : Pg} {d : Nat} {u : Mm} {a : Nat} (hs : mS u a = some (100 + 0, 11)) (ha : mT u = a + 1) : Ec P (d + 3) 0 [vR a] u (fun r v => r = .inl none ∧ ∃ w g', v = sI w g' ∧ Gr u w a 709 39538 (zX (a + 66)) ∧ mI w a = mI u a ∧ BxA w a (a + 13) (a + 34) (a + 55) (a + 60) ∧ Off (a + 13) (a + 34) (mI w) g' ∧ Sr g' (a + 13) [] [] [] 0 ∧ g' (a + 13) 5 = 0 ∧ Ln g' (a + 13 + 19) [48]) := by
  have ha' : a < mT u := by omega
  generalize hZe : zX (a + 66) = Z
  have hZ : ∀ b, b ≠ a + 66 → ∀ i, Z b i = 0 := fun b hb i => by rw [← hZe]; exact zX_0 hb
  have loop : ∀ i, i ≤ 3 → ∀ v : Mm, Gr u v a (703 + 2 * i) (38812 + 242 * i) Z → mI v a = mI u a → BxP v a i → Ef P (d + 3) 0 99 [some (vR a), some (vI (i : Int))] [] v (fun r v => r = .inl none ∧ ∃ w g', v = sI w g' ∧ Gr u w a 709 39538 Z ∧ mI w a = mI u a ∧ BxA w a (a + 13) (a + 34) (a + 55) (a + 60) ∧ Off (a + 13) (a + 34) (mI w) g' ∧ Sr g' (a + 13) [] [] [] 0 ∧ g' (a + 13) 5 = 0 ∧ Ln g' (a + 13 + 19) [48]) := by
    refine nat_loop 3 ?_
    intro i hi ih v G I0 hB
    have n0 := G.1
    have hsv : mS v a = some (100 + 0, 11) := ((G.2.2.1 a ha').1).trans hs
    obtain ⟨F0, F2, F3, F4, F5, F6, F7, F9, F10, S1, S65, KL, TM, TL, SA, SB, RA, RB, EX⟩ := id hB
    refine ef_iload_n (pc := 99) d0_99 rfl ?_
    refine ef_iconst (pc := 100) d0_100 (by decide) ?_
    refine ef_icmp_ge (pc := 101) d0_101 (t := 123) rfl (fun h101 => ?_) (fun h101 => ?_)
    · have hii : i = 3 := by omega
      subst hii
      have hs13 := SA.1
      refine ef_aload_n (pc := 123) d0_123 rfl ?_
      refine ef_getR (pc := 124) d0_124 lf_0_30 (by assumption) (by decide) (by assumption) ?_
      refine ef_callV (pc := 127) d0_127 lm_0_61 (as := []) rfl rfl (by assumption) rfl rfl (by decide) (Nat.le_of_ble_eq_true rfl) rfl (Nat.le_of_ble_eq_true rfl) ?_
      refine Ec.imp (Ec.deep (Nat.zero_le _) (c45 (d := 0) (g := mI v) SA)) ?_
      rintro r127 u127 ⟨g', rfl, rfl, of1, sr1, fl1, ln1⟩
      refine ef_vret (pc := 130) d0_130 rfl ?_
      exact ⟨rfl, v, g', rfl, G, I0, ⟨hsv, F0, F2, F3, F4, F5, F6, F7, F9, F10, S1, S65, KL, TM, TL, SA, SB, RA, RB, EX, Or.inl ⟨rfl, rfl⟩, Or.inl ⟨rfl, rfl⟩⟩, of1, sr1, fl1, ln1⟩
    · have hlt : i < 3 := by omega
      refine ef_aload_n (pc := 104) d0_104 rfl ?_
      refine ef_getR (pc := 105) d0_105 lf_0_49 (by assumption) (by decide) (by assumption) ?_
      refine ef_iload_n (pc := 108) d0_108 rfl ?_
      refine ef_new (pc := 109) d0_109 lc_0_47 ?_
      have hr1 : mS (mNew v (100 + 2) 2) (a + 65) = some (4 + 2, 3) := by rw [mS_new, if_neg (by omega)]; exact S65
      refine ef_dup (pc := 112) d0_112 rfl ?_
      refine ef_callI (pc := 113) d0_113 lm_0_60 (as := []) rfl rfl rfl (Nat.le_of_ble_eq_true rfl) rfl (Nat.le_of_ble_eq_true rfl) ?_
      refine Ec.imp (c29 (by rw [mS_new, if_pos rfl]) (by rw [mT_new]; omega)) ?_
      rintro r113 u113 ⟨rfl, A1⟩
      have B := A1.bk Z (fun b h1 h2 => hZ b (by omega))
      have LA := A1.LnA
      have hq1 : mS u113 (a + 65) = some (4 + 2, 3) := ((B.2.2.1 (a + 65) (by omega)).2.1).trans S65
      have hq2 := LA.1
      refine ef_aast (pc := 116) d0_116 (i := i) (by assumption) (by assumption) (by decide) (rfl) (by omega) ?_
      have G1 := (G.bk B).put (b := a + 65) (f := i) (r := some (mT v)) (Or.inr (by omega))
      have eF : ∀ b, b < mT v → b ≠ a + 65 → mF (sF u113 (u2 (mF u113) (a + 65) i (some (mT v)))) b = mF v b := fun b h1 h2 => by rw [mF_sF, u2_ne h2]; exact (B.2.2.1 b h1).2.2
      have eS : ∀ b, b < mT v → mS (sF u113 (u2 (mF u113) (a + 65) i (some (mT v)))) b = mS v b := fun b h1 => (B.2.2.1 b h1).2.1
      have eA : ∀ lo hi, a + 65 < lo ∨ hi ≤ a + 65 → hi ≤ mT v → Ag v (sF u113 (u2 (mF u113) (a + 65) i (some (mT v)))) lo hi := fun lo hi h1 h2 b h3 h4 => ⟨eS b (by omega), eF b (by omega) (by omega)⟩
      have eT := B.1
      have LA2 := LA.ag (w := sF u113 (u2 (mF u113) (a + 65) i (some (mT v)))) (Ag.put (Or.inl (by omega)))
      have eI : mI (sF u113 (u2 (mF u113) (a + 65) i (some (mT v)))) a = mI v a := (B.2.2.1 a (by omega)).1
      have eN : mF (sF u113 (u2 (mF u113) (a + 65) i (some (mT v)))) (a + 65) i = some (mT v) := by rw [mF_sF, u2_at]
      have eO : ∀ k, k ≠ i → mF (sF u113 (u2 (mF u113) (a + 65) i (some (mT v)))) (a + 65) k = mF v (a + 65) k := fun k hk => by rw [mF_sF, u2_ni hk, (B.2.2.1 (a + 65) (by omega)).2.2]
      generalize sF u113 (u2 (mF u113) (a + 65) i (some (mT v))) = v2 at *
      refine ef_iinc (pc := 117) d0_117 (ls' := [_, _]) (z := ((i + 1 : Nat) : Int)) rfl (by decide) (by omega) ⟨by omega, by omega⟩ rfl ?_
      refine ef_goto (pc := 120) d0_120 (t := 99) rfl ?_
      refine ih hlt v2 ?_ (eI.trans I0) ?_
      · rw [show 703 + 2 * (i + 1) = 703 + 2 * i + (1 + 1) by omega, show 38812 + 242 * (i + 1) = 38812 + 242 * i + (240 + 2) by omega]
        exact G1
      · rw [← eF a (by omega) (by omega)] at F0 F2 F3 F4 F5 F6 F7 F9 F10
        refine ⟨F0, F2, F3, F4, F5, F6, F7, F9, F10, by rw [eS _ (by omega)]; exact S1, by rw [eS _ (by omega)]; exact S65, fun k hk => ?_, TM.ag (eA _ _ (by omega) (by omega)), TL.ag (eA _ _ (by omega) (by omega)), SA.ag (eA _ _ (by omega) (by omega)), SB.ag (eA _ _ (by omega) (by omega)), RA.ag (eA _ _ (by omega) (by omega)), RB.ag (eA _ _ (by omega) (by omega)), EX.ag (eA _ _ (by omega) (by omega))⟩
        by_cases hki : k = i
        · subst hki
          rw [eN, show a + 704 + 2 * k = mT v by omega]
          exact ⟨rfl, LA2⟩
        · have hk2 : k < i := by omega
          rw [eO k hki]
          exact ⟨(KL k hk2).1, (KL k hk2).2.ag (eA _ _ (by omega) (by omega))⟩
  have G0 : Gr u u a 0 0 Z := Gr.zero
  change Ef P _ 0 0 [some (vR a), none] [] _ _
  refine ef_aload_n (pc := 0) d0_0 rfl ?_
  refine ef_biI (pc := 1) d0_1 lm_0_3 (as := [_]) rfl rfl (by decide) (Nat.le_of_ble_eq_true rfl) (rfl) ?_
  refine ef_aload_n (pc := 4) d0_4 rfl ?_
  refine ef_bipush (pc := 5) d0_5 (by decide) ?_
  refine ef_newa (pc := 7) d0_7 rfl (n := 120) rfl (by decide) ?_
  have B1 : Bk u (mNew u (1) 120) 1 120 Z := Bk.new (hZ _ (by have := G0.1; omega))
  have q1 : mS (mNew u (1) 120) a = some (100 + 0, 11) := by rw [mS_new, if_neg (by have := G0.1; omega)]; exact ((G0.2.2.1 a ha').1).trans hs
  refine ef_putR (pc := 9) d0_9 pf_0_9 (by assumption) (by decide) ?_
  obtain ⟨w1, x1, G1, F1, K1, I1, X1, Y1⟩ := gr_step (f := 0) G0 ha' B1
  rw [x1]
  have n1 := G1.1
  have t1 : mS w1 (a + 1) = some (1, 120) := by have := (X1 (mT u) (by omega) (by rw [mT_new]; omega)).1; rw [mS_new, if_pos rfl, show mT u = a + 1 by omega] at this; exact this
  refine ef_aload_n (pc := 12) d0_12 rfl ?_
  refine ef_new (pc := 13) d0_13 lc_0_13 ?_
  refine ef_dup (pc := 16) d0_16 rfl ?_
  refine ef_callI (pc := 17) d0_17 lm_0_15 (as := []) rfl rfl rfl (Nat.le_of_ble_eq_true rfl) rfl (Nat.le_of_ble_eq_true rfl) ?_
  refine Ec.imp (Ec.deep (Nat.zero_le _) (c68 (d := 0) (by rw [mS_new, if_pos rfl]) (by rw [mT_new]; omega))) ?_
  rintro r17 u17 ⟨rfl, A2⟩
  have B2 := A2.bk Z (fun b h1 h2 => hZ b (by omega))
  have q2 : mS u17 a = some (100 + 0, 11) := ((B2.2.2.1 a (by omega)).2.1).trans (((G1.2.2.1 a ha').1).trans hs)
  refine ef_putR (pc := 20) d0_20 pf_0_16 (by assumption) (by decide) ?_
  obtain ⟨w2, x2, G2, F2, K2, I2, X2, Y2⟩ := gr_step (f := 2) G1 ha' B2
  rw [x2]
  have n2 := G2.1
  have t2 := A2.TmA.ag (X2.sub (by omega) (by have := B2.1; omega))
  rw [show mT w1 = a + 2 by omega] at t2
  refine ef_aload_n (pc := 23) d0_23 rfl ?_
  refine ef_new (pc := 24) d0_24 lc_0_20 ?_
  refine ef_dup (pc := 27) d0_27 rfl ?_
  refine ef_callI (pc := 28) d0_28 lm_0_22 (as := []) rfl rfl rfl (Nat.le_of_ble_eq_true rfl) rfl (Nat.le_of_ble_eq_true rfl) ?_
  refine Ec.imp (Ec.deep (Nat.zero_le _) (c57 (d := 0) (by rw [mS_new, if_pos rfl]) (by rw [mT_new]; omega))) ?_
  rintro r28 u28 ⟨rfl, A3⟩
  have B3 := A3.bk Z (fun b h1 h2 => hZ b (by omega))
  have q3 : mS u28 a = some (100 + 0, 11) := ((B3.2.2.1 a (by omega)).2.1).trans (((G2.2.2.1 a ha').1).trans hs)
  refine ef_putR (pc := 31) d0_31 pf_0_23 (by assumption) (by decide) ?_
  obtain ⟨w3, x3, G3, F3, K3, I3, X3, Y3⟩ := gr_step (f := 3) G2 ha' B3
  rw [x3]
  have n3 := G3.1
  have t3 := A3.TlA.ag (X3.sub (by omega) (by have := B3.1; omega))
  rw [show mT w2 = a + 8 by omega] at t3
  refine ef_aload_n (pc := 34) d0_34 rfl ?_
  refine ef_new (pc := 35) d0_35 lc_0_27 ?_
  refine ef_dup (pc := 38) d0_38 rfl ?_
  refine ef_callI (pc := 39) d0_39 lm_0_29 (as := []) rfl rfl rfl (Nat.le_of_ble_eq_true rfl) rfl (Nat.le_of_ble_eq_true rfl) ?_
  refine Ec.imp (Ec.deep (by omega) (c44 (d := 0) (Z := Z) (by rw [mS_new, if_pos rfl]) rfl (fun b h1 h2 => hZ b (by omega)))) ?_
  rintro r39 u39 ⟨rfl, J4, H4, A4⟩
  have B4 := J4.out (fun i => by rw [H4, mI_new, if_pos rfl, hZ _ (by omega)])
  have q4 : mS u39 a = some (100 + 0, 11) := ((B4.2.2.1 a (by omega)).2.1).trans (((G3.2.2.1 a ha').1).trans hs)
  refine ef_putR (pc := 42) d0_42 pf_0_30 (by assumption) (by decide) ?_
  obtain ⟨w4, x4, G4, F4, K4, I4, X4, Y4⟩ := gr_step (f := 4) G3 ha' B4
  rw [x4]
  have n4 := G4.1
  have t4 := A4.ag (X4.sub (by omega) (by have := B4.1; omega))
  rw [show mT w3 = a + 13 by omega] at t4
  refine ef_aload_n (pc := 45) d0_45 rfl ?_
  refine ef_new (pc := 46) d0_46 lc_0_27 ?_
  refine ef_dup (pc := 49) d0_49 rfl ?_
  refine ef_callI (pc := 50) d0_50 lm_0_29 (as := []) rfl rfl rfl (Nat.le_of_ble_eq_true rfl) rfl (Nat.le_of_ble_eq_true rfl) ?_
  refine Ec.imp (Ec.deep (by omega) (c44 (d := 0) (Z := Z) (by rw [mS_new, if_pos rfl]) rfl (fun b h1 h2 => hZ b (by omega)))) ?_
  rintro r50 u50 ⟨rfl, J5, H5, A5⟩
  have B5 := J5.out (fun i => by rw [H5, mI_new, if_pos rfl, hZ _ (by omega)])
  have q5 : mS u50 a = some (100 + 0, 11) := ((B5.2.2.1 a (by omega)).2.1).trans (((G4.2.2.1 a ha').1).trans hs)
  refine ef_putR (pc := 53) d0_53 pf_0_34 (by assumption) (by decide) ?_
  obtain ⟨w5, x5, G5, F5, K5, I5, X5, Y5⟩ := gr_step (f := 5) G4 ha' B5
  rw [x5]
  have n5 := G5.1
  have t5 := A5.ag (X5.sub (by omega) (by have := B5.1; omega))
  rw [show mT w4 = a + 34 by omega] at t5
  refine ef_aload_n (pc := 56) d0_56 rfl ?_
  refine ef_new (pc := 57) d0_57 lc_0_37 ?_
  refine ef_dup (pc := 60) d0_60 rfl ?_
  refine ef_callI (pc := 61) d0_61 lm_0_39 (as := []) rfl rfl rfl (Nat.le_of_ble_eq_true rfl) rfl (Nat.le_of_ble_eq_true rfl) ?_
  refine Ec.imp (Ec.deep (Nat.zero_le _) (c32 (d := 0) (by rw [mS_new, if_pos rfl]) (by rw [mT_new]; omega))) ?_
  rintro r61 u61 ⟨rfl, A6⟩
  have B6 := A6.bk Z (fun b h1 h2 => hZ b (by omega))
  have q6 : mS u61 a = some (100 + 0, 11) := ((B6.2.2.1 a (by omega)).2.1).trans (((G5.2.2.1 a ha').1).trans hs)
  refine ef_putR (pc := 64) d0_64 pf_0_40 (by assumption) (by decide) ?_
  obtain ⟨w6, x6, G6, F6, K6, I6, X6, Y6⟩ := gr_step (f := 6) G5 ha' B6
  rw [x6]
  have n6 := G6.1
  have t6 := A6.RxA.ag (X6.sub (by omega) (by have := B6.1; omega))
  rw [show mT w5 = a + 55 by omega] at t6
  refine ef_aload_n (pc := 67) d0_67 rfl ?_
  refine ef_new (pc := 68) d0_68 lc_0_37 ?_
  refine ef_dup (pc := 71) d0_71 rfl ?_
  refine ef_callI (pc := 72) d0_72 lm_0_39 (as := []) rfl rfl rfl (Nat.le_of_ble_eq_true rfl) rfl (Nat.le_of_ble_eq_true rfl) ?_
  refine Ec.imp (Ec.deep (Nat.zero_le _) (c32 (d := 0) (by rw [mS_new, if_pos rfl]) (by rw [mT_new]; omega))) ?_
  rintro r72 u72 ⟨rfl, A7⟩
  have B7 := A7.bk Z (fun b h1 h2 => hZ b (by omega))
  have q7 : mS u72 a = some (100 + 0, 11) := ((B7.2.2.1 a (by omega)).2.1).trans (((G6.2.2.1 a ha').1).trans hs)
  refine ef_putR (pc := 75) d0_75 pf_0_44 (by assumption) (by decide) ?_
  obtain ⟨w7, x7, G7, F7, K7, I7, X7, Y7⟩ := gr_step (f := 7) G6 ha' B7
  rw [x7]
  have n7 := G7.1
  have t7 := A7.RxA.ag (X7.sub (by omega) (by have := B7.1; omega))
  rw [show mT w6 = a + 60 by omega] at t7
  refine ef_aload_n (pc := 78) d0_78 rfl ?_
  refine ef_iconst (pc := 79) d0_79 (by decide) ?_
  refine ef_newr (pc := 80) d0_80 (show tLa 0 47 = some 2 by decide +kernel) (n := 3) rfl (by decide) ?_
  have B8 : Bk w7 (mNew w7 (4 + 2) 3) 1 3 Z := Bk.new (hZ _ (by have := G7.1; omega))
  have q8 : mS (mNew w7 (4 + 2) 3) a = some (100 + 0, 11) := by rw [mS_new, if_neg (by have := G7.1; omega)]; exact ((G7.2.2.1 a ha').1).trans hs
  refine ef_putR (pc := 83) d0_83 pf_0_49 (by assumption) (by decide) ?_
  obtain ⟨w8, x8, G8, F8, K8, I8, X8, Y8⟩ := gr_step (f := 9) G7 ha' B8
  rw [x8]
  have n8 := G8.1
  have t8 : mS w8 (a + 65) = some (4 + 2, 3) := by have := (X8 (mT w7) (by omega) (by rw [mT_new]; omega)).1; rw [mS_new, if_pos rfl, show mT w7 = a + 65 by omega] at this; exact this
  refine ef_aload_n (pc := 86) d0_86 rfl ?_
  refine ef_new (pc := 87) d0_87 lc_0_53 ?_
  refine ef_dup (pc := 90) d0_90 rfl ?_
  refine ef_callI (pc := 91) d0_91 lm_0_55 (as := []) rfl rfl rfl (Nat.le_of_ble_eq_true rfl) rfl (Nat.le_of_ble_eq_true rfl) ?_
  refine Ec.imp (Ec.deep (by omega) (c23 (d := d) (Z := Z) (by rw [mS_new, if_pos rfl]) rfl (fun b h1 h2 => hZ b (by omega)))) ?_
  rintro r91 u91 ⟨rfl, J9, H9, A9⟩
  have B9 := J9.out (fun i => by
    rw [H9, show mT w8 = a + 66 by omega, ← hZe]
    by_cases hi : i = 6
    · subst hi; rw [u2_at]; exact (if_pos ⟨rfl, rfl⟩).symm
    · rw [u2_ni hi, mI_new, if_pos (by omega)]; exact (if_neg (fun hh => hi hh.2)).symm)
  have q9 : mS u91 a = some (100 + 0, 11) := ((B9.2.2.1 a (by omega)).2.1).trans (((G8.2.2.1 a ha').1).trans hs)
  refine ef_putR (pc := 94) d0_94 pf_0_56 (by assumption) (by decide) ?_
  obtain ⟨w9, x9, G9, F9, K9, I9, X9, Y9⟩ := gr_step (f := 10) G8 ha' B9
  rw [x9]
  have n9 := G9.1
  have t9 := A9.ag (X9.sub (by omega) (by have := B9.1; omega))
  rw [show mT w8 = a + 66 by omega] at t9
  refine ef_iconst (pc := 97) d0_97 (by decide) ?_
  refine ef_istore_n (pc := 98) d0_98 (ls' := [_, _]) rfl ?_
  refine loop 0 (by omega) w9 G9 (I9.trans (I8.trans (I7.trans (I6.trans (I5.trans (I4.trans (I3.trans (I2.trans I1)))))))) ⟨?_, ?_, ?_, ?_, ?_, ?_, ?_, ?_, ?_, ?_, ?_, fun k hk => absurd hk (Nat.not_lt_zero _), ?_, ?_, ?_, ?_, ?_, ?_, t9⟩
  · rw [K9 0 (by decide) , K8 0 (by decide) , K7 0 (by decide) , K6 0 (by decide) , K5 0 (by decide) , K4 0 (by decide) , K3 0 (by decide) , K2 0 (by decide), F1]; exact congrArg some (by omega)
  · rw [K9 2 (by decide) , K8 2 (by decide) , K7 2 (by decide) , K6 2 (by decide) , K5 2 (by decide) , K4 2 (by decide) , K3 2 (by decide), F2]; exact congrArg some (by omega)
  · rw [K9 3 (by decide) , K8 3 (by decide) , K7 3 (by decide) , K6 3 (by decide) , K5 3 (by decide) , K4 3 (by decide), F3]; exact congrArg some (by omega)
  · rw [K9 4 (by decide) , K8 4 (by decide) , K7 4 (by decide) , K6 4 (by decide) , K5 4 (by decide), F4]; exact congrArg some (by omega)
  · rw [K9 5 (by decide) , K8 5 (by decide) , K7 5 (by decide) , K6 5 (by decide), F5]; exact congrArg some (by omega)
  · rw [K9 6 (by decide) , K8 6 (by decide) , K7 6 (by decide), F6]; exact congrArg some (by omega)
  · rw [K9 7 (by decide) , K8 7 (by decide), F7]; exact congrArg some (by omega)
  · rw [K9 9 (by decide), F8]; exact congrArg some (by omega)
  · rw [F9]; exact congrArg some (by omega)
  · rw [(Y9 (a + 1) (by omega) (by omega)).1, (Y8 (a + 1) (by omega) (by omega)).1, (Y7 (a + 1) (by omega) (by omega)).1, (Y6 (a + 1) (by omega) (by omega)).1, (Y5 (a + 1) (by omega) (by omega)).1, (Y4 (a + 1) (by omega) (by omega)).1, (Y3 (a + 1) (by omega) (by omega)).1, (Y2 (a + 1) (by omega) (by omega)).1]; exact t1
  · rw [(Y9 (a + 65) (by omega) (by omega)).1]; exact t8
  · exact (((((((t2.ag (Y3.sub (by omega) (by omega))).ag (Y4.sub (by omega) (by omega))).ag (Y5.sub (by omega) (by omega))).ag (Y6.sub (by omega) (by omega))).ag (Y7.sub (by omega) (by omega))).ag (Y8.sub (by omega) (by omega))).ag (Y9.sub (by omega) (by omega)))
  · exact ((((((t3.ag (Y4.sub (by omega) (by omega))).ag (Y5.sub (by omega) (by omega))).ag (Y6.sub (by omega) (by omega))).ag (Y7.sub (by omega) (by omega))).ag (Y8.sub (by omega) (by omega))).ag (Y9.sub (by omega) (by omega)))
  · exact (((((t4.ag (Y5.sub (by omega) (by omega))).ag (Y6.sub (by omega) (by omega))).ag (Y7.sub (by omega) (by omega))).ag (Y8.sub (by omega) (by omega))).ag (Y9.sub (by omega) (by omega)))
  · exact ((((t5.ag (Y6.sub (by omega) (by omega))).ag (Y7.sub (by omega) (by omega))).ag (Y8.sub (by omega) (by omega))).ag (Y9.sub (by omega) (by omega)))
  · exact (((t6.ag (Y7.sub (by omega) (by omega))).ag (Y8.sub (by omega) (by omega))).ag (Y9.sub (by omega) (by omega)))
  · exact ((t7.ag (Y8.sub (by omega) (by omega))).ag (Y9.sub (by omega) (by omega)))
