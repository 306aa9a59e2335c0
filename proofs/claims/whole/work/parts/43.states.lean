/-! States: dissolve, clear, copy, hasShape; a term's after; meanings. Written by wip/whole/gen/c43.py. -/
theorem del_len {L : List Tg} {w : Int} : (delN L w).length ≤ L.length := by
  induction L with
  | nil => exact Nat.le_refl _
  | cons e l ih =>
    rw [delN]
    by_cases h : e.1 = w
    · rw [if_pos h, List.length_cons]; omega
    · rw [if_neg h, List.length_cons, List.length_cons]; omega
theorem set_len {L : List Tg} {w to : Int} : (setIn L w to).length = L.length := by
  induction L with
  | nil => rfl
  | cons e l ih =>
    rw [setIn]
    by_cases h : e.1 = w
    · rw [if_pos h, List.length_cons, List.length_cons]
    · rw [if_neg h, List.length_cons, List.length_cons, ih]
theorem c54 {P : Pg} {d : Nat} {u : Mm} {g : Nat → Nat → Int} {s : Nat} {ps gs ms : List Tg} {w to : Int} (hA : StA u s) (hT : Th g (s + 1) ps) (hU : Th g (s + 7) gs) (hV : Th g (s + 13) ms) (hl : ps.length ≤ 20) (hl2 : gs.length ≤ 40) (hl3 : ms.length ≤ 30) : Ec P (d + 1) 54 [vR s, vI w, vI to] (sI u g) (fun r u' => ∃ g', u' = sI u g' ∧ r = .inl none ∧ Off (s + 1) (s + 19) g g' ∧ Th g' (s + 1) ((delN ps w).map (mvF w to)) ∧ Th g' (s + 7) (gs.map (mvF w to)) ∧ Th g' (s + 13) (ms.map (mvF w to))) := by
  obtain ⟨q0, q1, q2, q3, q4, hP, hG, hM, hL⟩ := hA
  obtain ⟨a0, a1, a2, a3, a4, a5, a6, a7, a8, a9, a10⟩ := id hP
  obtain ⟨b0, b1, b2, b3, b4, b5, b6, b7, b8, b9, b10⟩ := id hG
  obtain ⟨c0, c1, c2, c3, c4, c5, c6, c7, c8, c9, c10⟩ := id hM
  obtain ⟨l0, l1, l2⟩ := id hL
  change Ef P _ 54 0 [some (vR s), some (vI w), some (vI to)] [] _ _
  refine ef_aload_n (pc := 0) d54_0 rfl ?_
  refine eg_getR (pc := 1) d54_1 lf_4_14 (by assumption) (by decide) (by assumption) ?_
  refine ef_aload_n (pc := 4) d54_4 rfl ?_
  refine eg_getR (pc := 5) d54_5 lf_4_14 (by assumption) (by decide) (by assumption) ?_
  refine ef_iload_n (pc := 8) d54_8 rfl ?_
  refine ef_callV (pc := 9) d54_9 lm_4_78 (as := [_]) rfl rfl (by assumption) rfl rfl (by decide) (Nat.le_of_ble_eq_true rfl) rfl (Nat.le_of_ble_eq_true rfl) ?_
  refine Ec.imp (c85 (by assumption) hT (by omega) (by decide)) ?_
  rintro r9 u9 ⟨rfl, rfl⟩
  refine ef_callV (pc := 12) d54_12 lm_4_102 (as := [_]) rfl rfl (by assumption) rfl rfl (by decide) (Nat.le_of_ble_eq_true rfl) rfl (Nat.le_of_ble_eq_true rfl) ?_
  refine Ec.imp (c87 (by assumption) hT (by omega) (by decide) ix_le) ?_
  rintro r12 u12 ⟨g1, rfl, rfl, o1, t1, z1⟩
  have T1 : Th g1 (s + 1) (delN ps w) := by
    rcases ix_spec w ps 0 with ⟨x1, x2, x3, x4⟩ | ⟨i, e, x1, x2, x3, x4, x5, x6⟩
    · rw [x3, z1 (by omega)]; exact hT
    · rw [x5]; exact t1 i (by rw [x1, Nat.zero_add]) (List.getElem?_eq_some_iff.mp x2).1
  have hdl := del_len (L := ps) (w := w)
  refine ef_aload_n (pc := 15) d54_15 rfl ?_
  refine eg_getR (pc := 16) d54_16 lf_4_14 (by assumption) (by decide) (by assumption) ?_
  refine ef_iload_n (pc := 19) d54_19 rfl ?_
  refine ef_iload_n (pc := 20) d54_20 rfl ?_
  refine ef_callV (pc := 21) d54_21 lm_4_131 (as := [_, _]) rfl rfl (by assumption) rfl rfl (by decide) (Nat.le_of_ble_eq_true rfl) rfl (Nat.le_of_ble_eq_true rfl) ?_
  refine Ec.imp (c88 (by assumption) T1 (by omega) (by decide)) ?_
  rintro r21 u21 ⟨g2, rfl, rfl, o2, t2⟩
  refine ef_aload_n (pc := 24) d54_24 rfl ?_
  refine eg_getR (pc := 25) d54_25 lf_4_20 (by assumption) (by decide) (by assumption) ?_
  refine ef_iload_n (pc := 28) d54_28 rfl ?_
  refine ef_iload_n (pc := 29) d54_29 rfl ?_
  refine ef_callV (pc := 30) d54_30 lm_4_131 (as := [_, _]) rfl rfl (by assumption) rfl rfl (by decide) (Nat.le_of_ble_eq_true rfl) rfl (Nat.le_of_ble_eq_true rfl) ?_
  refine Ec.imp (c88 (by assumption) ((hU.same o1 (by omega)).same o2 (by omega)) (by omega) (by decide)) ?_
  rintro r30 u30 ⟨g3, rfl, rfl, o3, t3⟩
  refine ef_aload_n (pc := 33) d54_33 rfl ?_
  refine eg_getR (pc := 34) d54_34 lf_4_23 (by assumption) (by decide) (by assumption) ?_
  refine ef_iload_n (pc := 37) d54_37 rfl ?_
  refine ef_iload_n (pc := 38) d54_38 rfl ?_
  refine ef_callV (pc := 39) d54_39 lm_4_131 (as := [_, _]) rfl rfl (by assumption) rfl rfl (by decide) (Nat.le_of_ble_eq_true rfl) rfl (Nat.le_of_ble_eq_true rfl) ?_
  refine Ec.imp (c88 (by assumption) (((hV.same o1 (by omega)).same o2 (by omega)).same o3 (by omega)) (by omega) (by decide)) ?_
  rintro r39 u39 ⟨g4, rfl, rfl, o4, t4⟩
  refine ef_vret (pc := 42) d54_42 rfl ?_
  exact ⟨_, rfl, rfl, (((o1.wide (by omega) (by omega)).trans (o2.wide (by omega) (by omega))).trans (o3.wide (by omega) (by omega))).trans (o4.wide (by omega) (by omega)), (t2.same o3 (by omega)).same o4 (by omega), t3.same o4 (by omega), t4⟩
theorem Th_nil {g : Nat → Nat → Int} {t : Nat} (h : g t 5 = 0) : Th g t [] := ⟨h, fun i e he => by cases he⟩
/-- a state's rows, its text, its next number -/
def Sr (g : Nat → Nat → Int) (s : Nat) (ps gs ms : List Tg) (nx : Int) : Prop := Th g (s + 1) ps ∧ Th g (s + 7) gs ∧ Th g (s + 13) ms ∧ g s 4 = nx
theorem c45 {P : Pg} {d : Nat} {u : Mm} {g : Nat → Nat → Int} {s : Nat} (hA : StA u s) : Ec P d 45 [vR s] (sI u g) (fun r u' => ∃ g', u' = sI u g' ∧ r = .inl none ∧ Off s (s + 21) g g' ∧ Sr g' s [] [] [] 0 ∧ g' s 5 = 0 ∧ Ln g' (s + 19) [48]) := by
  obtain ⟨q0, q1, q2, q3, q4, hP, hG, hM, hL⟩ := hA
  obtain ⟨a0, a1, a2, a3, a4, a5, a6, a7, a8, a9, a10⟩ := id hP
  obtain ⟨b0, b1, b2, b3, b4, b5, b6, b7, b8, b9, b10⟩ := id hG
  obtain ⟨c0, c1, c2, c3, c4, c5, c6, c7, c8, c9, c10⟩ := id hM
  obtain ⟨l0, l1, l2⟩ := id hL
  change Ef P _ 45 0 [some (vR s)] [] _ _
  refine ef_aload_n (pc := 0) d45_0 rfl ?_
  refine eg_getR (pc := 1) d45_1 lf_4_14 (by assumption) (by decide) (by assumption) ?_
  refine ef_iconst (pc := 4) d45_4 (by decide) ?_
  refine eg_putI (pc := 5) d45_5 pf_45_33 (by assumption) (by decide) ?_
  refine ef_aload_n (pc := 8) d45_8 rfl ?_
  refine eg_getR (pc := 9) d45_9 lf_4_20 (by assumption) (by decide) (by assumption) ?_
  refine ef_iconst (pc := 12) d45_12 (by decide) ?_
  refine eg_putI (pc := 13) d45_13 pf_45_33 (by assumption) (by decide) ?_
  refine ef_aload_n (pc := 16) d45_16 rfl ?_
  refine eg_getR (pc := 17) d45_17 lf_4_23 (by assumption) (by decide) (by assumption) ?_
  refine ef_iconst (pc := 20) d45_20 (by decide) ?_
  refine eg_putI (pc := 21) d45_21 pf_45_33 (by assumption) (by decide) ?_
  refine ef_aload_n (pc := 24) d45_24 rfl ?_
  refine ef_iconst (pc := 25) d45_25 (by decide) ?_
  refine eg_putI (pc := 26) d45_26 pf_45_37 (by assumption) (by decide) ?_
  refine ef_aload_n (pc := 29) d45_29 rfl ?_
  refine ef_iconst (pc := 30) d45_30 (by decide) ?_
  refine eg_putZ (pc := 31) d45_31 pf_45_40 (by assumption) (by decide) (by omega) ?_
  refine ef_aload_n (pc := 34) d45_34 rfl ?_
  refine eg_getR (pc := 35) d45_35 lf_4_29 (by assumption) (by decide) (by assumption) ?_
  refine eg_getR (pc := 38) d45_38 lf_4_44 (by assumption) (by decide) (by assumption) ?_
  refine ef_iconst (pc := 41) d45_41 (by decide) ?_
  refine ef_bipush (pc := 42) d45_42 (by decide) ?_
  refine eg_cast (pc := 44) d45_44 (i := 0) (w := 48) (by assumption) (rfl) (by decide) (rfl) ?_
  refine ef_aload_n (pc := 45) d45_45 rfl ?_
  refine eg_getR (pc := 46) d45_46 lf_4_29 (by assumption) (by decide) (by assumption) ?_
  refine ef_iconst (pc := 49) d45_49 (by decide) ?_
  refine eg_putI (pc := 50) d45_50 pf_45_48 (by assumption) (by decide) ?_
  refine ef_vret (pc := 53) d45_53 rfl ?_
  refine ⟨_, rfl, rfl, ?_, ⟨Th_nil ?_, Th_nil ?_, Th_nil ?_, ?_⟩, ?_, ?_, ?_⟩
  · exact ((((((Off.refl.up (by omega) (by omega)).up (by omega) (by omega)).up (by omega) (by omega)).up (by omega) (by omega)).up (by omega) (by omega)).up (by omega) (by omega)).up (by omega) (by omega)
  · simp (disch := omega) only [u2_ne, u2_at, u2_ni]
  · simp (disch := omega) only [u2_ne, u2_at, u2_ni]
  · simp (disch := omega) only [u2_ne, u2_at, u2_ni]
  · simp (disch := omega) only [u2_ne, u2_at, u2_ni]
  · simp (disch := omega) only [u2_ne, u2_at, u2_ni]
  · simp (disch := omega) only [u2_ne, u2_at, u2_ni]; rfl
  · intro i c hc
    cases i with
    | zero => cases hc; simp (disch := omega) only [u2_ne, u2_at, u2_ni]
    | succ i => cases hc
theorem Ln.same {g g' : Nat → Nat → Int} {l lo hi : Nat} {T : List Int} (h : Ln g l T) (k : Off lo hi g g') (hd : l + 2 ≤ lo ∨ hi ≤ l) : Ln g' l T := by
  unfold Ln
  rw [k l (by omega), k (l + 1) (by omega)]
  exact h
theorem c50 {P : Pg} {d : Nat} {u : Mm} {g : Nat → Nat → Int} {s s2 : Nat} {ps gs ms : List Tg} {nx : Int} {T : List Int} (hA : StA u s) (hB : StA u s2) (hS : Sr g s2 ps gs ms nx) (hT : Ln g (s2 + 19) T) (hl : ps.length ≤ 20) (hl2 : gs.length ≤ 40) (hl3 : ms.length ≤ 30) (hl4 : T.length ≤ 240) (hd : s + 21 ≤ s2 ∨ s2 + 21 ≤ s) : Ec P (d + 2) 50 [vR s, vR s2] (sI u g) (fun r u' => ∃ g', u' = sI u g' ∧ r = .inl none ∧ Off s (s + 21) g g' ∧ Sr g' s ps gs ms nx ∧ g' s 5 = 0 ∧ Ln g' (s + 19) T) := by
  obtain ⟨q0, q1, q2, q3, q4, hP, hG, hM, hL⟩ := hA
  obtain ⟨a0, a1, a2, a3, a4, a5, a6, a7, a8, a9, a10⟩ := id hP
  obtain ⟨b0, b1, b2, b3, b4, b5, b6, b7, b8, b9, b10⟩ := id hG
  obtain ⟨c0, c1, c2, c3, c4, c5, c6, c7, c8, c9, c10⟩ := id hM
  obtain ⟨l0, l1, l2⟩ := id hL
  obtain ⟨k0, k1, k2, k3, k4, hP2, hG2, hM2, hL2⟩ := hB
  obtain ⟨d0, d1, d2, d3, d4, d5, d6, d7, d8, d9, d10⟩ := id hP2
  obtain ⟨e0, e1, e2, e3, e4, e5, e6, e7, e8, e9, e10⟩ := id hG2
  obtain ⟨f0, f1, f2, f3, f4, f5, f6, f7, f8, f9, f10⟩ := id hM2
  obtain ⟨m0, m1, m2⟩ := id hL2
  obtain ⟨hU, hV, hW, hnx⟩ := hS
  change Ef P _ 50 0 [some (vR s), some (vR s2)] [] _ _
  refine ef_aload_n (pc := 0) d50_0 rfl ?_
  refine eg_getR (pc := 1) d50_1 lf_4_14 (by assumption) (by decide) (by assumption) ?_
  refine ef_aload_n (pc := 4) d50_4 rfl ?_
  refine eg_getR (pc := 5) d50_5 lf_4_14 (by assumption) (by decide) (by assumption) ?_
  refine ef_callV (pc := 8) d50_8 lm_4_51 (as := [_]) rfl rfl (by assumption) rfl rfl (by decide) (Nat.le_of_ble_eq_true rfl) rfl (Nat.le_of_ble_eq_true rfl) ?_
  refine Ec.imp (c86 hP hP2 hU (by omega) (by decide) (by omega)) ?_
  rintro r8 u8 ⟨g1, rfl, rfl, o1, t1⟩
  refine ef_aload_n (pc := 11) d50_11 rfl ?_
  refine eg_getR (pc := 12) d50_12 lf_4_20 (by assumption) (by decide) (by assumption) ?_
  refine ef_aload_n (pc := 15) d50_15 rfl ?_
  refine eg_getR (pc := 16) d50_16 lf_4_20 (by assumption) (by decide) (by assumption) ?_
  refine ef_callV (pc := 19) d50_19 lm_4_51 (as := [_]) rfl rfl (by assumption) rfl rfl (by decide) (Nat.le_of_ble_eq_true rfl) rfl (Nat.le_of_ble_eq_true rfl) ?_
  refine Ec.imp (c86 hG hG2 (hV.same o1 (by omega)) (by omega) (by decide) (by omega)) ?_
  rintro r19 u19 ⟨g2, rfl, rfl, o2, t2⟩
  refine ef_aload_n (pc := 22) d50_22 rfl ?_
  refine eg_getR (pc := 23) d50_23 lf_4_23 (by assumption) (by decide) (by assumption) ?_
  refine ef_aload_n (pc := 26) d50_26 rfl ?_
  refine eg_getR (pc := 27) d50_27 lf_4_23 (by assumption) (by decide) (by assumption) ?_
  refine ef_callV (pc := 30) d50_30 lm_4_51 (as := [_]) rfl rfl (by assumption) rfl rfl (by decide) (Nat.le_of_ble_eq_true rfl) rfl (Nat.le_of_ble_eq_true rfl) ?_
  refine Ec.imp (c86 hM hM2 ((hW.same o1 (by omega)).same o2 (by omega)) (by omega) (by decide) (by omega)) ?_
  rintro r30 u30 ⟨g3, rfl, rfl, o3, t3⟩
  have hT3 := ((hT.same o1 (by omega)).same o2 (by omega)).same o3 (by omega)
  refine ef_aload_n (pc := 33) d50_33 rfl ?_
  refine eg_getR (pc := 34) d50_34 lf_4_29 (by assumption) (by decide) (by assumption) ?_
  refine ef_aload_n (pc := 37) d50_37 rfl ?_
  refine eg_getR (pc := 38) d50_38 lf_4_29 (by assumption) (by decide) (by assumption) ?_
  refine eg_getR (pc := 41) d50_41 lf_4_44 (by assumption) (by decide) (by assumption) ?_
  refine ef_aload_n (pc := 44) d50_44 rfl ?_
  refine eg_getR (pc := 45) d50_45 lf_4_29 (by assumption) (by decide) (by assumption) ?_
  refine eg_getI (pc := 48) d50_48 lf_4_48 (by assumption) (by decide) ?_
  try simp (disch := omega) only [u2_ne, u2_at, u2_ni, ur_ne, ur_eq]
  rw [hT3.1]
  refine ef_callV (pc := 51) d50_51 lm_4_55 (as := [_, _]) rfl rfl (by assumption) rfl rfl (by decide) (Nat.le_of_ble_eq_true rfl) rfl (Nat.le_of_ble_eq_true rfl) ?_
  refine Ec.imp (c30 hL (by assumption) (by omega) (by omega) hT3.2 (by omega) (by omega)) ?_
  rintro r51 u51 ⟨g4, rfl, rfl, o4, t4⟩
  have hn4 : g4 s2 4 = nx := by rw [o4 s2 (by omega), o3 s2 (by omega), o2 s2 (by omega), o1 s2 (by omega)]; exact hnx
  refine ef_aload_n (pc := 54) d50_54 rfl ?_
  refine ef_aload_n (pc := 55) d50_55 rfl ?_
  refine eg_getI (pc := 56) d50_56 lf_4_37 (by assumption) (by decide) ?_
  try simp (disch := omega) only [u2_ne, u2_at, u2_ni, ur_ne, ur_eq]
  rw [hn4]
  refine eg_putI (pc := 59) d50_59 pf_50_37 (by assumption) (by decide) ?_
  refine ef_aload_n (pc := 62) d50_62 rfl ?_
  refine ef_iconst (pc := 63) d50_63 (by decide) ?_
  refine eg_putZ (pc := 64) d50_64 pf_50_40 (by assumption) (by decide) (by omega) ?_
  refine ef_vret (pc := 67) d50_67 rfl ?_
  have o5 : Off s (s + 1) g4 (u2 (u2 g4 s 4 nx) s 5 0) := (Off.refl.up (by omega) (by omega)).up (by omega) (by omega)
  refine ⟨_, rfl, rfl, ?_, ⟨?_, ?_, ?_, ?_⟩, u2_at, t4.same o5 (by omega)⟩
  · exact ((((o1.wide (by omega) (by omega)).trans (o2.wide (by omega) (by omega))).trans (o3.wide (by omega) (by omega))).trans (o4.wide (by omega) (by omega))).trans (o5.wide (by omega) (by omega))
  · exact (((t1.same o2 (by omega)).same o3 (by omega)).same o4 (by omega)).same o5 (by omega)
  · exact ((t2.same o3 (by omega)).same o4 (by omega)).same o5 (by omega)
  · exact (t3.same o4 (by omega)).same o5 (by omega)
  · rw [u2_ni (by omega), u2_at]
def shpE (ps : List Tg) (a b : Int) (e : Tg) : Bool := decide (e.2.2.1 = b) && (match getN ps e.2.1 with
  | some f => decide (f.2.2.1 = a)
  | none => false)
def shp (ps : List Tg) (a b : Int) : Bool := ps.any (shpE ps a b)
theorem c56 {P : Pg} {d : Nat} {u : Mm} {g : Nat → Nat → Int} {s : Nat} {ps gs ms : List Tg} {a b : Int} (hA : StA u s) (hT : Th g (s + 1) ps) (hl : ps.length ≤ 20) : Ec P (d + 1) 56 [vR s, vI a, vI b] (sI u g) (fun r u' => u' = sI u g ∧ r = .inl (some (vI (if shp ps a b = true then 1 else 0)))) := by
  obtain ⟨q0, q1, q2, q3, q4, hP, hG, hM, hL⟩ := hA
  obtain ⟨a0, a1, a2, a3, a4, a5, a6, a7, a8, a9, a10⟩ := id hP
  obtain ⟨b0, b1, b2, b3, b4, b5, b6, b7, b8, b9, b10⟩ := id hG
  obtain ⟨c0, c1, c2, c3, c4, c5, c6, c7, c8, c9, c10⟩ := id hM
  obtain ⟨l0, l1, l2⟩ := id hL
  have hz := hT.1
  have loop : ∀ i, i ≤ ps.length → ∀ v, (ps.drop i).any (shpE ps a b) = shp ps a b → Ef P (d + 1) 56 2 [some (vR s), some (vI a), some (vI b), some (vI (i : Int)), v] [] (sI u g) (fun r u' => u' = sI u g ∧ r = .inl (some (vI (if shp ps a b = true then 1 else 0)))) := by
    refine nat_loop ps.length ?_
    intro i hi ih v hx
    refine ef_iload_n (pc := 2) d56_2 rfl ?_
    refine ef_aload_n (pc := 3) d56_3 rfl ?_
    refine eg_getR (pc := 4) d56_4 lf_4_14 (by assumption) (by decide) (by assumption) ?_
    refine eg_getI (pc := 7) d56_7 lf_4_33 (by assumption) (by decide) ?_
    rw [hz]
    refine ef_icmp_ge (pc := 10) d56_10 (t := 75) rfl (fun h10 => ?_) (fun h10 => ?_)
    · have hd : ps.drop i = [] := List.drop_eq_nil_of_le (by omega)
      rw [hd] at hx
      refine ef_iconst (pc := 75) d56_75 (by decide) ?_
      refine ef_zret (pc := 76) d56_76 rfl (by omega) ?_
      exact ⟨rfl, by rw [← hx]; rfl⟩
    · obtain ⟨e, he, hd⟩ := get_of_lt (L := ps) (i := i) (by omega)
      have hv := hT.2 i e he
      rw [hd, List.any_cons] at hx
      refine ef_aload_n (pc := 13) d56_13 rfl ?_
      refine eg_getR (pc := 14) d56_14 lf_4_14 (by assumption) (by decide) (by assumption) ?_
      refine eg_getR (pc := 17) d56_17 lf_4_134 (by assumption) (by decide) (by assumption) ?_
      refine ef_iload_n (pc := 20) d56_20 rfl ?_
      refine eg_iald (pc := 21) d56_21 (by assumption) rfl (by omega) ?_
      rw [hv.2.2.1]
      refine ef_iload_n (pc := 22) d56_22 rfl ?_
      refine ef_icmp_ne (pc := 23) d56_23 (t := 45) rfl (fun h23 => ?_) (fun h23 => ?_)
      · have hf : shpE ps a b e = false := by simp [shpE, h23]
        rw [hf, Bool.false_or] at hx
        refine ef_iconst (pc := 45) d56_45 (by decide) ?_
        refine ef_istore (pc := 46) d56_46 (ls' := [_, _, _, _, _]) rfl ?_
        refine ef_iload (pc := 48) d56_48 rfl ?_
        refine ef_if_ltT (pc := 50) d56_50 (t := 69) rfl (by omega) ?_
        refine ef_iinc (pc := 69) d56_69 (ls' := [_, _, _, _, _]) (z := ((i + 1 : Nat) : Int)) rfl (by decide) (by omega) ⟨by omega, by omega⟩ rfl ?_
        refine ef_goto (pc := 72) d56_72 (t := 2) rfl ?_
        exact ih (by omega) _ hx
      · refine ef_aload_n (pc := 26) d56_26 rfl ?_
        refine eg_getR (pc := 27) d56_27 lf_4_14 (by assumption) (by decide) (by assumption) ?_
        refine ef_aload_n (pc := 30) d56_30 rfl ?_
        refine eg_getR (pc := 31) d56_31 lf_4_14 (by assumption) (by decide) (by assumption) ?_
        refine eg_getR (pc := 34) d56_34 lf_4_92 (by assumption) (by decide) (by assumption) ?_
        refine ef_iload_n (pc := 37) d56_37 rfl ?_
        refine eg_iald (pc := 38) d56_38 (by assumption) rfl (by omega) ?_
        rw [hv.2.1]
        refine ef_callV (pc := 39) d56_39 lm_4_78 (as := [_]) rfl rfl (by assumption) rfl rfl (by decide) (Nat.le_of_ble_eq_true rfl) rfl (Nat.le_of_ble_eq_true rfl) ?_
        refine Ec.imp (c85 (by assumption) hT (by omega) (by decide)) ?_
        rintro r39 u39 ⟨rfl, rfl⟩
        rcases ix_spec e.2.1 ps 0 with ⟨x1, x2, x3, x4⟩ | ⟨i2, e2, x1, x2, x3, x4, x5, x6⟩
        · rw [x1]
          have hf : shpE ps a b e = false := by simp [shpE, x2]
          rw [hf, Bool.false_or] at hx
          refine ef_goto (pc := 42) d56_42 (t := 46) rfl ?_
          refine ef_istore (pc := 46) d56_46 (ls' := [_, _, _, _, _]) rfl ?_
          refine ef_iload (pc := 48) d56_48 rfl ?_
          refine ef_if_ltT (pc := 50) d56_50 (t := 69) rfl (by omega) ?_
          refine ef_iinc (pc := 69) d56_69 (ls' := [_, _, _, _, _]) (z := ((i + 1 : Nat) : Int)) rfl (by decide) (by omega) ⟨by omega, by omega⟩ rfl ?_
          refine ef_goto (pc := 72) d56_72 (t := 2) rfl ?_
          exact ih (by omega) _ hx
        · rw [x1, Nat.zero_add]
          have hv2 := hT.2 i2 e2 x2
          have hi2 := (List.getElem?_eq_some_iff.mp x2).1
          refine ef_goto (pc := 42) d56_42 (t := 46) rfl ?_
          refine ef_istore (pc := 46) d56_46 (ls' := [_, _, _, _, _]) rfl ?_
          refine ef_iload (pc := 48) d56_48 rfl ?_
          refine ef_if_ltF (pc := 50) d56_50 (t := 69) rfl (by omega) ?_
          refine ef_aload_n (pc := 53) d56_53 rfl ?_
          refine eg_getR (pc := 54) d56_54 lf_4_14 (by assumption) (by decide) (by assumption) ?_
          refine eg_getR (pc := 57) d56_57 lf_4_134 (by assumption) (by decide) (by assumption) ?_
          refine ef_iload (pc := 60) d56_60 rfl ?_
          refine eg_iald (pc := 62) d56_62 (by assumption) rfl (by omega) ?_
          try simp (disch := omega) only [u2_ne, u2_at, u2_ni, ur_ne, ur_eq]
          rw [hv2.2.2.1]
          refine ef_iload_n (pc := 63) d56_63 rfl ?_
          refine ef_icmp_ne (pc := 64) d56_64 (t := 69) rfl (fun h64 => ?_) (fun h64 => ?_)
          · have hf : shpE ps a b e = false := by simp [shpE, x4, h64]
            rw [hf, Bool.false_or] at hx
            refine ef_iinc (pc := 69) d56_69 (ls' := [_, _, _, _, _]) (z := ((i + 1 : Nat) : Int)) rfl (by decide) (by omega) ⟨by omega, by omega⟩ rfl ?_
            refine ef_goto (pc := 72) d56_72 (t := 2) rfl ?_
            exact ih (by omega) _ hx
          · have hf : shpE ps a b e = true := by simp [shpE, x4, h64, h23]
            rw [hf, Bool.true_or] at hx
            refine ef_iconst (pc := 67) d56_67 (by decide) ?_
            refine ef_zret (pc := 68) d56_68 rfl (by omega) ?_
            exact ⟨rfl, by rw [← hx]; rfl⟩
  change Ef P _ 56 0 [some (vR s), some (vI a), some (vI b), none, none] [] _ _
  refine ef_iconst (pc := 0) d56_0 (by decide) ?_
  refine ef_istore_n (pc := 1) d56_1 (ls' := [_, _, _, _, _]) rfl ?_
  exact loop 0 (by omega) _ rfl
