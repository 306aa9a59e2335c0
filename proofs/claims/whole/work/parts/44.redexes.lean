/-! Redexes: how they are found. Written by wip/whole/gen/c44.py. -/
def RxA (u : Mm) (r : Nat) : Prop := mS u r = some (100 + 3, 5) ∧ mF u r 0 = some (r + 1) ∧ mF u r 1 = some (r + 2) ∧ mF u r 2 = some (r + 3) ∧ mF u r 3 = some (r + 4) ∧ mS u (r + 1) = some (0, 1200) ∧ mS u (r + 2) = some (0, 1200) ∧ mS u (r + 3) = some (0, 1200) ∧ mS u (r + 4) = some (0, 1200)
/-- kind, guard, other -/
abbrev Rd : Type := Int × (Int × Int)
def Rf (g : Nat → Nat → Int) (r : Nat) (R : List Rd) : Prop := g r 4 = (R.length : Int) ∧ ∀ i e, R[i]? = some e → g (r + 1) i = e.1 ∧ g (r + 2) i = e.2.1 ∧ g (r + 3) i = e.2.2
theorem Rf_app {g g' : Nat → Nat → Int} {r : Nat} {R : List Rd} {e : Rd} (hT : Rf g r R) (h0 : g' r 4 = ((R.length + 1 : Nat) : Int)) (h1 : g' (r + 1) = u1 (g (r + 1)) R.length e.1) (h2 : g' (r + 2) = u1 (g (r + 2)) R.length e.2.1) (h3 : g' (r + 3) = u1 (g (r + 3)) R.length e.2.2) : Rf g' r (R ++ [e]) := by
  refine ⟨by rw [h0, List.length_append]; rfl, fun i e' he => ?_⟩
  rw [h1, h2, h3]
  by_cases hi : i < R.length
  · rw [List.getElem?_append_left hi] at he
    simp only [u1_ne (show i ≠ R.length by omega)]
    exact hT.2 i e' he
  · have hl := (List.getElem?_eq_some_iff.mp he).1
    rw [List.length_append] at hl
    have h6 : i = R.length := by simp at hl; omega
    subst h6
    rw [List.getElem?_append_right (Nat.le_refl _), Nat.sub_self] at he
    cases he
    simp only [u1_eq, and_self]
theorem Rf.same {g g' : Nat → Nat → Int} {r lo hi : Nat} {R : List Rd} (h : Rf g r R) (k : Off lo hi g g') (hd : r + 4 ≤ lo ∨ hi ≤ r) : Rf g' r R := by
  have e : ∀ j, j < 4 → g' (r + j) = g (r + j) := fun j hj => k (r + j) (by omega)
  refine ⟨by rw [show g' r = g r from e 0 (by omega)]; exact h.1, fun i x hx => ?_⟩
  rw [e 1 (by omega), e 2 (by omega), e 3 (by omega)]
  exact h.2 i x hx
theorem c36 {P : Pg} {d : Nat} {u : Mm} {g : Nat → Nat → Int} {r : Nat} {R : List Rd} {k a b : Int} (hR : RxA u r) (hT : Rf g r R) (hl : R.length < 1200) : Ec P d 36 [vR r, vI k, vI a, vI b] (sI u g) (fun x u' => ∃ g', u' = sI u g' ∧ x = .inl none ∧ Off r (r + 4) g g' ∧ Rf g' r (R ++ [(k, (a, b))])) := by
  obtain ⟨y0, y1, y2, y3, y4, y5, y6, y7, y8⟩ := id hR
  have hz := hT.1
  change Ef P _ 36 0 [some (vR r), some (vI k), some (vI a), some (vI b)] [] _ _
  refine ef_aload_n (pc := 0) d36_0 rfl ?_
  refine eg_getI (pc := 1) d36_1 lf_3_24 (by assumption) (by decide) ?_
  rw [hz]
  refine ef_sipush (pc := 4) d36_4 (by decide) ?_
  refine ef_icmp_geF (pc := 7) d36_7 (t := 50) rfl (by omega) ?_
  refine ef_aload_n (pc := 10) d36_10 rfl ?_
  refine eg_getR (pc := 11) d36_11 lf_3_9 (by assumption) (by decide) (by assumption) ?_
  refine ef_aload_n (pc := 14) d36_14 rfl ?_
  refine eg_getI (pc := 15) d36_15 lf_3_24 (by assumption) (by decide) ?_
  rw [hz]
  refine ef_iload_n (pc := 18) d36_18 rfl ?_
  refine eg_iast (pc := 19) d36_19 (by assumption) rfl (by omega) rfl ?_
  refine ef_aload_n (pc := 20) d36_20 rfl ?_
  refine eg_getR (pc := 21) d36_21 lf_3_15 (by assumption) (by decide) (by assumption) ?_
  refine ef_aload_n (pc := 24) d36_24 rfl ?_
  refine eg_getI (pc := 25) d36_25 lf_3_24 (by assumption) (by decide) ?_
  try simp (disch := omega) only [u2_ne, u2_at, u2_ni, ur_ne, ur_eq]
  rw [hz]
  refine ef_iload_n (pc := 28) d36_28 rfl ?_
  refine eg_iast (pc := 29) d36_29 (by assumption) rfl (by omega) rfl ?_
  refine ef_aload_n (pc := 30) d36_30 rfl ?_
  refine eg_getR (pc := 31) d36_31 lf_3_18 (by assumption) (by decide) (by assumption) ?_
  refine ef_aload_n (pc := 34) d36_34 rfl ?_
  refine eg_getI (pc := 35) d36_35 lf_3_24 (by assumption) (by decide) ?_
  try simp (disch := omega) only [u2_ne, u2_at, u2_ni, ur_ne, ur_eq]
  rw [hz]
  refine ef_iload_n (pc := 38) d36_38 rfl ?_
  refine eg_iast (pc := 39) d36_39 (by assumption) rfl (by omega) rfl ?_
  refine ef_aload_n (pc := 40) d36_40 rfl ?_
  refine ef_dup (pc := 41) d36_41 rfl ?_
  refine eg_getI (pc := 42) d36_42 lf_3_24 (by assumption) (by decide) ?_
  try simp (disch := omega) only [u2_ne, u2_at, u2_ni, ur_ne, ur_eq]
  rw [hz]
  refine ef_iconst (pc := 45) d36_45 (by decide) ?_
  refine ef_iadd (pc := 46) d36_46 (z := ((R.length + 1 : Nat) : Int)) (by omega) ⟨by omega, by omega⟩ ?_
  refine eg_putI (pc := 47) d36_47 pf_36_24 (by assumption) (by decide) ?_
  refine ef_vret (pc := 50) d36_50 rfl ?_
  refine ⟨_, rfl, rfl, (((Off.refl.up (by omega) (by omega)).up (by omega) (by omega)).up (by omega) (by omega)).up (by omega) (by omega), Rf_app hT ?_ ?_ ?_ ?_⟩
  all_goals simp (disch := omega) only [u2_ne, u2_eq, u1_eq]
def Uq (L : List Tg) : Prop := ∀ (i j : Nat) (a b : Tg), L[i]? = some a → L[j]? = some b → a.1 = b.1 → i = j
def besE (e f p : Tg) : Bool := decide (p.1 ≠ f.1) && (decide (p.2.1 = f.2.1) && decide (p.2.2.1 = e.2.2.1))
def bes (ps : List Tg) (e : Tg) : List Rd := match getN ps e.2.1 with
  | none => []
  | some f => (ps.filter (besE e f)).map (fun p => (0, (e.1, p.1)))
def arn (ps : List Tg) (e : Tg) : List Rd := match getN ps e.2.1 with
  | none => []
  | some f => match getN ps f.2.1 with
    | none => []
    | some q => if q.2.2.1 = e.2.2.1 then [(1, (e.1, q.1))] else []
def insE (e p : Tg) : Bool := decide (p.2.1 = e.2.1) && decide (p.2.2.1 = e.2.2.1)
def ins (ps : List Tg) (e : Tg) : List Rd := (ps.filter (insE e)).map (fun p => (2, (e.1, p.1)))
def msgE (e p : Tg) : Bool := decide (p.2.1 = e.2.1)
def msg (ms : List Tg) (e : Tg) : List Rd := (ms.filter (msgE e)).map (fun p => (3, (e.1, p.1)))
def rxG (kd : Nat → Int) (ps ms : List Tg) (e : Tg) : List Rd := if kd e.2.2.2.1.toNat = 0 then bes ps e else if kd e.2.2.2.1.toNat = 1 then arn ps e else if kd e.2.2.2.1.toNat = 2 then ins ps e else msg ms e
/-- all redexes, in their order -/
def rxs (kd : Nat → Int) (ps gs ms : List Tg) : List Rd := gs.flatMap (rxG kd ps ms)
theorem rxG_len {kd : Nat → Int} {ps ms : List Tg} {e : Tg} (h1 : ps.length ≤ 20) (h2 : ms.length ≤ 30) : (rxG kd ps ms e).length ≤ 30 := by
  unfold rxG
  have f1 := List.length_filter_le (insE e) ps
  have f2 := List.length_filter_le (msgE e) ms
  split
  · unfold bes
    split
    · simp
    · rename_i f _
      have f3 := List.length_filter_le (besE e f) ps
      rw [List.length_map]; omega
  · split
    · unfold arn
      split
      · simp
      · split
        · simp
        · split <;> simp
    · split
      · unfold ins; rw [List.length_map]; omega
      · unfold msg; rw [List.length_map]; omega
theorem c38 {P : Pg} {d : Nat} {u : Mm} {g : Nat → Nat → Int} {r s i : Nat} {R : List Rd} {ps gs ms : List Tg} {e : Tg} (hR : RxA u r) (hA : StA u s) (hd : r + 5 ≤ s ∨ s + 21 ≤ r) (hT : Th g (s + 1) ps) (hU : Th g (s + 7) gs) (hV : Th g (s + 13) ms) (hl : ps.length ≤ 20) (hl2 : gs.length ≤ 40) (hl3 : ms.length ≤ 30) (he : gs[i]? = some e) (hF : Rf g r R) (hfl : R.length + 30 ≤ 1200) : Ec P (d + 1) 38 [vR r, vR s, vI (i : Int)] (sI u g) (fun x u' => ∃ g', u' = sI u g' ∧ x = .inl none ∧ Off r (r + 4) g g' ∧ Rf g' r (R ++ ins ps e)) := by
  obtain ⟨y0, y1, y2, y3, y4, y5, y6, y7, y8⟩ := id hR
  obtain ⟨q0, q1, q2, q3, q4, hP, hG, hM, hL⟩ := hA
  obtain ⟨a0, a1, a2, a3, a4, a5, a6, a7, a8, a9, a10⟩ := id hP
  obtain ⟨b0, b1, b2, b3, b4, b5, b6, b7, b8, b9, b10⟩ := id hG
  obtain ⟨c0, c1, c2, c3, c4, c5, c6, c7, c8, c9, c10⟩ := id hM
  obtain ⟨l0, l1, l2⟩ := id hL
  have hv := hU.2 i e he
  have hi := (List.getElem?_eq_some_iff.mp he).1
  have loop : ∀ m, m ≤ ps.length → ∀ g1 R1, Off r (r + 4) g g1 → Rf g1 r R1 → R1.length ≤ R.length + m → R1 ++ ((ps.drop m).filter (insE e)).map (fun p => ((2 : Int), (e.1, p.1))) = R ++ (ps.filter (insE e)).map (fun p => ((2 : Int), (e.1, p.1))) → Ef P (d + 1) 38 8 [some (vR r), some (vR s), some (vI (i : Int)), some (vR (s + 1)), some (vI (m : Int))] [] (sI u g1) (fun x u' => ∃ g', u' = sI u g' ∧ x = .inl none ∧ Off r (r + 4) g g' ∧ Rf g' r (R ++ ins ps e)) := by
    refine nat_loop ps.length ?_
    intro m hm ih g1 R1 ho h1 hb hx
    have hT1 := hT.same ho (by omega)
    have hU1 := hU.same ho (by omega)
    have hv1 := hU1.2 i e he
    have hz := hT1.1
    refine ef_iload (pc := 8) d38_8 rfl ?_
    refine ef_aload_n (pc := 10) d38_10 rfl ?_
    refine eg_getI (pc := 11) d38_11 lf_3_34 (by assumption) (by decide) ?_
    rw [hz]
    refine ef_icmp_ge (pc := 14) d38_14 (t := 82) rfl (fun h14 => ?_) (fun h14 => ?_)
    · refine ef_vret (pc := 82) d38_82 rfl ?_
      rw [List.drop_eq_nil_of_le (by omega), List.filter_nil, List.map_nil, List.append_nil] at hx
      refine ⟨_, rfl, rfl, ho, ?_⟩
      rw [ins, ← hx]
      exact h1
    · obtain ⟨p, hp, hdp⟩ := get_of_lt (L := ps) (i := m) (by omega)
      have hw := hT1.2 m p hp
      rw [hdp, List.filter_cons] at hx
      refine ef_aload_n (pc := 17) d38_17 rfl ?_
      refine eg_getR (pc := 18) d38_18 lf_3_59 (by assumption) (by decide) (by assumption) ?_
      refine ef_iload (pc := 21) d38_21 rfl ?_
      refine eg_iald (pc := 23) d38_23 (by assumption) rfl (by omega) ?_
      rw [hw.2.1]
      refine ef_aload_n (pc := 24) d38_24 rfl ?_
      refine eg_getR (pc := 25) d38_25 lf_3_28 (by assumption) (by decide) (by assumption) ?_
      refine eg_getR (pc := 28) d38_28 lf_3_59 (by assumption) (by decide) (by assumption) ?_
      refine ef_iload_n (pc := 31) d38_31 rfl ?_
      refine eg_iald (pc := 32) d38_32 (by assumption) rfl (by omega) ?_
      rw [hv1.2.1]
      refine ef_icmp_ne (pc := 33) d38_33 (t := 76) rfl (fun h33 => ?_) (fun h33 => ?_)
      · rw [if_neg (show ¬ _ = true by simp [insE, h33])] at hx
        refine ef_iinc (pc := 76) d38_76 (ls' := [_, _, _, _, _]) (z := ((m + 1 : Nat) : Int)) rfl (by decide) (by omega) ⟨by omega, by omega⟩ rfl ?_
        refine ef_goto (pc := 79) d38_79 (t := 8) rfl ?_
        first | exact ih (by omega) _ _ ho h1 (by omega) hx | exact ih (by omega) _ _ (ho.trans o2) t2 (by rw [List.length_append]; simp; omega) (by rw [List.append_assoc]; exact hx)
      · refine ef_aload_n (pc := 36) d38_36 rfl ?_
        refine eg_getR (pc := 37) d38_37 lf_3_66 (by assumption) (by decide) (by assumption) ?_
        refine ef_iload (pc := 40) d38_40 rfl ?_
        refine eg_iald (pc := 42) d38_42 (by assumption) rfl (by omega) ?_
        rw [hw.2.2.1]
        refine ef_aload_n (pc := 43) d38_43 rfl ?_
        refine eg_getR (pc := 44) d38_44 lf_3_28 (by assumption) (by decide) (by assumption) ?_
        refine eg_getR (pc := 47) d38_47 lf_3_66 (by assumption) (by decide) (by assumption) ?_
        refine ef_iload_n (pc := 50) d38_50 rfl ?_
        refine eg_iald (pc := 51) d38_51 (by assumption) rfl (by omega) ?_
        rw [hv1.2.2.1]
        refine ef_icmp_ne (pc := 52) d38_52 (t := 76) rfl (fun h52 => ?_) (fun h52 => ?_)
        · rw [if_neg (show ¬ _ = true by simp [insE, h52])] at hx
          refine ef_iinc (pc := 76) d38_76 (ls' := [_, _, _, _, _]) (z := ((m + 1 : Nat) : Int)) rfl (by decide) (by omega) ⟨by omega, by omega⟩ rfl ?_
          refine ef_goto (pc := 79) d38_79 (t := 8) rfl ?_
          first | exact ih (by omega) _ _ ho h1 (by omega) hx | exact ih (by omega) _ _ (ho.trans o2) t2 (by rw [List.length_append]; simp; omega) (by rw [List.append_assoc]; exact hx)
        · rw [if_pos (show _ = true by simp [insE, h33, h52]), List.map_cons] at hx
          refine ef_aload_n (pc := 55) d38_55 rfl ?_
          refine ef_iconst (pc := 56) d38_56 (by decide) ?_
          refine ef_aload_n (pc := 57) d38_57 rfl ?_
          refine eg_getR (pc := 58) d38_58 lf_3_28 (by assumption) (by decide) (by assumption) ?_
          refine eg_getR (pc := 61) d38_61 lf_3_69 (by assumption) (by decide) (by assumption) ?_
          refine ef_iload_n (pc := 64) d38_64 rfl ?_
          refine eg_iald (pc := 65) d38_65 (by assumption) rfl (by omega) ?_
          rw [hv1.1]
          refine ef_aload_n (pc := 66) d38_66 rfl ?_
          refine eg_getR (pc := 67) d38_67 lf_3_69 (by assumption) (by decide) (by assumption) ?_
          refine ef_iload (pc := 70) d38_70 rfl ?_
          refine eg_iald (pc := 72) d38_72 (by assumption) rfl (by omega) ?_
          rw [hw.1]
          refine ef_callV (pc := 73) d38_73 lm_3_72 (as := [_, _, _]) rfl rfl (by assumption) rfl rfl (by decide) (Nat.le_of_ble_eq_true rfl) rfl (Nat.le_of_ble_eq_true rfl) ?_
          refine Ec.imp (c36 hR h1 (by omega)) ?_
          rintro r73 u73 ⟨g2, rfl, rfl, o2, t2⟩
          refine ef_iinc (pc := 76) d38_76 (ls' := [_, _, _, _, _]) (z := ((m + 1 : Nat) : Int)) rfl (by decide) (by omega) ⟨by omega, by omega⟩ rfl ?_
          refine ef_goto (pc := 79) d38_79 (t := 8) rfl ?_
          first | exact ih (by omega) _ _ ho h1 (by omega) hx | exact ih (by omega) _ _ (ho.trans o2) t2 (by rw [List.length_append]; simp; omega) (by rw [List.append_assoc]; exact hx)
  change Ef P _ 38 0 [some (vR r), some (vR s), some (vI (i : Int)), none, none] [] _ _
  refine ef_aload_n (pc := 0) d38_0 rfl ?_
  refine eg_getR (pc := 1) d38_1 lf_3_56 (by assumption) (by decide) (by assumption) ?_
  refine ef_astore_n (pc := 4) d38_4 (ls' := [_, _, _, _, _]) rfl ?_
  refine ef_iconst (pc := 5) d38_5 (by decide) ?_
  refine ef_istore (pc := 6) d38_6 (ls' := [_, _, _, _, _]) rfl ?_
  exact loop 0 (by omega) g R Off.refl hF (by omega) rfl
theorem c39 {P : Pg} {d : Nat} {u : Mm} {g : Nat → Nat → Int} {r s i : Nat} {R : List Rd} {ps gs ms : List Tg} {e : Tg} (hR : RxA u r) (hA : StA u s) (hd : r + 5 ≤ s ∨ s + 21 ≤ r) (hT : Th g (s + 1) ps) (hU : Th g (s + 7) gs) (hV : Th g (s + 13) ms) (hl : ps.length ≤ 20) (hl2 : gs.length ≤ 40) (hl3 : ms.length ≤ 30) (he : gs[i]? = some e) (hF : Rf g r R) (hfl : R.length + 30 ≤ 1200) : Ec P (d + 1) 39 [vR r, vR s, vI (i : Int)] (sI u g) (fun x u' => ∃ g', u' = sI u g' ∧ x = .inl none ∧ Off r (r + 4) g g' ∧ Rf g' r (R ++ msg ms e)) := by
  obtain ⟨y0, y1, y2, y3, y4, y5, y6, y7, y8⟩ := id hR
  obtain ⟨q0, q1, q2, q3, q4, hP, hG, hM, hL⟩ := hA
  obtain ⟨a0, a1, a2, a3, a4, a5, a6, a7, a8, a9, a10⟩ := id hP
  obtain ⟨b0, b1, b2, b3, b4, b5, b6, b7, b8, b9, b10⟩ := id hG
  obtain ⟨c0, c1, c2, c3, c4, c5, c6, c7, c8, c9, c10⟩ := id hM
  obtain ⟨l0, l1, l2⟩ := id hL
  have hv := hU.2 i e he
  have hi := (List.getElem?_eq_some_iff.mp he).1
  have loop : ∀ m, m ≤ ms.length → ∀ g1 R1, Off r (r + 4) g g1 → Rf g1 r R1 → R1.length ≤ R.length + m → R1 ++ ((ms.drop m).filter (msgE e)).map (fun p => ((3 : Int), (e.1, p.1))) = R ++ (ms.filter (msgE e)).map (fun p => ((3 : Int), (e.1, p.1))) → Ef P (d + 1) 39 8 [some (vR r), some (vR s), some (vI (i : Int)), some (vR (s + 13)), some (vI (m : Int))] [] (sI u g1) (fun x u' => ∃ g', u' = sI u g' ∧ x = .inl none ∧ Off r (r + 4) g g' ∧ Rf g' r (R ++ msg ms e)) := by
    refine nat_loop ms.length ?_
    intro m hm ih g1 R1 ho h1 hb hx
    have hT1 := hV.same ho (by omega)
    have hU1 := hU.same ho (by omega)
    have hv1 := hU1.2 i e he
    have hz := hT1.1
    refine ef_iload (pc := 8) d39_8 rfl ?_
    refine ef_aload_n (pc := 10) d39_10 rfl ?_
    refine eg_getI (pc := 11) d39_11 lf_3_34 (by assumption) (by decide) ?_
    rw [hz]
    refine ef_icmp_ge (pc := 14) d39_14 (t := 63) rfl (fun h14 => ?_) (fun h14 => ?_)
    · refine ef_vret (pc := 63) d39_63 rfl ?_
      rw [List.drop_eq_nil_of_le (by omega), List.filter_nil, List.map_nil, List.append_nil] at hx
      refine ⟨_, rfl, rfl, ho, ?_⟩
      rw [msg, ← hx]
      exact h1
    · obtain ⟨p, hp, hdp⟩ := get_of_lt (L := ms) (i := m) (by omega)
      have hw := hT1.2 m p hp
      rw [hdp, List.filter_cons] at hx
      refine ef_aload_n (pc := 17) d39_17 rfl ?_
      refine eg_getR (pc := 18) d39_18 lf_3_59 (by assumption) (by decide) (by assumption) ?_
      refine ef_iload (pc := 21) d39_21 rfl ?_
      refine eg_iald (pc := 23) d39_23 (by assumption) rfl (by omega) ?_
      rw [hw.2.1]
      refine ef_aload_n (pc := 24) d39_24 rfl ?_
      refine eg_getR (pc := 25) d39_25 lf_3_28 (by assumption) (by decide) (by assumption) ?_
      refine eg_getR (pc := 28) d39_28 lf_3_59 (by assumption) (by decide) (by assumption) ?_
      refine ef_iload_n (pc := 31) d39_31 rfl ?_
      refine eg_iald (pc := 32) d39_32 (by assumption) rfl (by omega) ?_
      rw [hv1.2.1]
      refine ef_icmp_ne (pc := 33) d39_33 (t := 57) rfl (fun h33 => ?_) (fun h33 => ?_)
      · rw [if_neg (show ¬ _ = true by simp [msgE, h33])] at hx
        refine ef_iinc (pc := 57) d39_57 (ls' := [_, _, _, _, _]) (z := ((m + 1 : Nat) : Int)) rfl (by decide) (by omega) ⟨by omega, by omega⟩ rfl ?_
        refine ef_goto (pc := 60) d39_60 (t := 8) rfl ?_
        first | exact ih (by omega) _ _ ho h1 (by omega) hx | exact ih (by omega) _ _ (ho.trans o2) t2 (by rw [List.length_append]; simp; omega) (by rw [List.append_assoc]; exact hx)
      · rw [if_pos (show _ = true by simp [msgE, h33]), List.map_cons] at hx
        refine ef_aload_n (pc := 36) d39_36 rfl ?_
        refine ef_iconst (pc := 37) d39_37 (by decide) ?_
        refine ef_aload_n (pc := 38) d39_38 rfl ?_
        refine eg_getR (pc := 39) d39_39 lf_3_28 (by assumption) (by decide) (by assumption) ?_
        refine eg_getR (pc := 42) d39_42 lf_3_69 (by assumption) (by decide) (by assumption) ?_
        refine ef_iload_n (pc := 45) d39_45 rfl ?_
        refine eg_iald (pc := 46) d39_46 (by assumption) rfl (by omega) ?_
        rw [hv1.1]
        refine ef_aload_n (pc := 47) d39_47 rfl ?_
        refine eg_getR (pc := 48) d39_48 lf_3_69 (by assumption) (by decide) (by assumption) ?_
        refine ef_iload (pc := 51) d39_51 rfl ?_
        refine eg_iald (pc := 53) d39_53 (by assumption) rfl (by omega) ?_
        rw [hw.1]
        refine ef_callV (pc := 54) d39_54 lm_3_72 (as := [_, _, _]) rfl rfl (by assumption) rfl rfl (by decide) (Nat.le_of_ble_eq_true rfl) rfl (Nat.le_of_ble_eq_true rfl) ?_
        refine Ec.imp (c36 hR h1 (by omega)) ?_
        rintro r54 u54 ⟨g2, rfl, rfl, o2, t2⟩
        refine ef_iinc (pc := 57) d39_57 (ls' := [_, _, _, _, _]) (z := ((m + 1 : Nat) : Int)) rfl (by decide) (by omega) ⟨by omega, by omega⟩ rfl ?_
        refine ef_goto (pc := 60) d39_60 (t := 8) rfl ?_
        first | exact ih (by omega) _ _ ho h1 (by omega) hx | exact ih (by omega) _ _ (ho.trans o2) t2 (by rw [List.length_append]; simp; omega) (by rw [List.append_assoc]; exact hx)
  change Ef P _ 39 0 [some (vR r), some (vR s), some (vI (i : Int)), none, none] [] _ _
  refine ef_aload_n (pc := 0) d39_0 rfl ?_
  refine eg_getR (pc := 1) d39_1 lf_3_76 (by assumption) (by decide) (by assumption) ?_
  refine ef_astore_n (pc := 4) d39_4 (ls' := [_, _, _, _, _]) rfl ?_
  refine ef_iconst (pc := 5) d39_5 (by decide) ?_
  refine ef_istore (pc := 6) d39_6 (ls' := [_, _, _, _, _]) rfl ?_
  exact loop 0 (by omega) g R Off.refl hF (by omega) rfl
theorem c35 {P : Pg} {d : Nat} {u : Mm} {g : Nat → Nat → Int} {r s i : Nat} {R : List Rd} {ps gs ms : List Tg} {e : Tg} (hR : RxA u r) (hA : StA u s) (hd : r + 5 ≤ s ∨ s + 21 ≤ r) (hT : Th g (s + 1) ps) (hU : Th g (s + 7) gs) (hV : Th g (s + 13) ms) (hl : ps.length ≤ 20) (hl2 : gs.length ≤ 40) (hl3 : ms.length ≤ 30) (he : gs[i]? = some e) (hF : Rf g r R) (hfl : R.length + 30 ≤ 1200) (hq : Uq ps) : Ec P (d + 1) 35 [vR r, vR s, vI (i : Int)] (sI u g) (fun x u' => ∃ g', u' = sI u g' ∧ x = .inl none ∧ Off r (r + 4) g g' ∧ Rf g' r (R ++ bes ps e)) := by
  obtain ⟨y0, y1, y2, y3, y4, y5, y6, y7, y8⟩ := id hR
  obtain ⟨q0, q1, q2, q3, q4, hP, hG, hM, hL⟩ := hA
  obtain ⟨a0, a1, a2, a3, a4, a5, a6, a7, a8, a9, a10⟩ := id hP
  obtain ⟨b0, b1, b2, b3, b4, b5, b6, b7, b8, b9, b10⟩ := id hG
  obtain ⟨c0, c1, c2, c3, c4, c5, c6, c7, c8, c9, c10⟩ := id hM
  obtain ⟨l0, l1, l2⟩ := id hL
  have hv := hU.2 i e he
  have hi := (List.getElem?_eq_some_iff.mp he).1
  have hloop : ∀ (k : Nat) (f : Tg), ps[k]? = some f → getN ps e.2.1 = some f → ∀ v5, Ef P (d + 1) 35 26 [some (vR r), some (vR s), some (vI (i : Int)), some (vR (s + 1)), some (vI (k : Int)), v5] [] (sI u g) (fun x u' => ∃ g', u' = sI u g' ∧ x = .inl none ∧ Off r (r + 4) g g' ∧ Rf g' r (R ++ bes ps e)) := by
    intro k f hk hg v5
    have hki := (List.getElem?_eq_some_iff.mp hk).1
    have loop : ∀ m, m ≤ ps.length → ∀ g1 R1, Off r (r + 4) g g1 → Rf g1 r R1 → R1.length ≤ R.length + m → R1 ++ ((ps.drop m).filter (besE e f)).map (fun p => ((0 : Int), (e.1, p.1))) = R ++ (ps.filter (besE e f)).map (fun p => ((0 : Int), (e.1, p.1))) → Ef P (d + 1) 35 29 [some (vR r), some (vR s), some (vI (i : Int)), some (vR (s + 1)), some (vI (k : Int)), some (vI (m : Int))] [] (sI u g1) (fun x u' => ∃ g', u' = sI u g' ∧ x = .inl none ∧ Off r (r + 4) g g' ∧ Rf g' r (R ++ bes ps e)) := by
      refine nat_loop ps.length ?_
      intro m hm ih g1 R1 ho h1 hb hx
      have hT1 := hT.same ho (by omega)
      have hU1 := hU.same ho (by omega)
      have hv1 := hU1.2 i e he
      have hz := hT1.1
      have hwk := hT1.2 k f hk
      refine ef_iload (pc := 29) d35_29 rfl ?_
      refine ef_aload_n (pc := 31) d35_31 rfl ?_
      refine eg_getI (pc := 32) d35_32 lf_3_34 (by assumption) (by decide) ?_
      rw [hz]
      refine ef_icmp_ge (pc := 35) d35_35 (t := 108) rfl (fun h35 => ?_) (fun h35 => ?_)
      · refine ef_vret (pc := 108) d35_108 rfl ?_
        rw [List.drop_eq_nil_of_le (by omega), List.filter_nil, List.map_nil, List.append_nil] at hx
        refine ⟨_, rfl, rfl, ho, ?_⟩
        rw [bes, hg]
        simp only
        rw [← hx]
        exact h1
      · obtain ⟨p, hp, hdp⟩ := get_of_lt (L := ps) (i := m) (by omega)
        have hw := hT1.2 m p hp
        rw [hdp, List.filter_cons] at hx
        refine ef_iload (pc := 38) d35_38 rfl ?_
        refine ef_iload (pc := 40) d35_40 rfl ?_
        refine ef_icmp_eq (pc := 42) d35_42 (t := 102) rfl (fun h42 => ?_) (fun h42 => ?_)
        · have hpf : p = f := by
            have : m = k := by omega
            rw [this, hk] at hp; cases hp; rfl
          rw [if_neg (show ¬ _ = true by simp [besE, hpf])] at hx
          refine ef_iinc (pc := 102) d35_102 (ls' := [_, _, _, _, _, _]) (z := ((m + 1 : Nat) : Int)) rfl (by decide) (by omega) ⟨by omega, by omega⟩ rfl ?_
          refine ef_goto (pc := 105) d35_105 (t := 29) rfl ?_
          first | exact ih (by omega) _ _ ho h1 (by omega) hx | exact ih (by omega) _ _ (ho.trans o2) t2 (by rw [List.length_append]; simp; omega) (by rw [List.append_assoc]; exact hx)
        · have hpf : p.1 ≠ f.1 := fun hh => h42 (by rw [hq m k p f hp hk hh])
          refine ef_aload_n (pc := 45) d35_45 rfl ?_
          refine eg_getR (pc := 46) d35_46 lf_3_59 (by assumption) (by decide) (by assumption) ?_
          refine ef_iload (pc := 49) d35_49 rfl ?_
          refine eg_iald (pc := 51) d35_51 (by assumption) rfl (by omega) ?_
          rw [hw.2.1]
          refine ef_aload_n (pc := 52) d35_52 rfl ?_
          refine eg_getR (pc := 53) d35_53 lf_3_59 (by assumption) (by decide) (by assumption) ?_
          refine ef_iload (pc := 56) d35_56 rfl ?_
          refine eg_iald (pc := 58) d35_58 (by assumption) rfl (by omega) ?_
          rw [hwk.2.1]
          refine ef_icmp_ne (pc := 59) d35_59 (t := 102) rfl (fun h59 => ?_) (fun h59 => ?_)
          · rw [if_neg (show ¬ _ = true by simp [besE, h59])] at hx
            refine ef_iinc (pc := 102) d35_102 (ls' := [_, _, _, _, _, _]) (z := ((m + 1 : Nat) : Int)) rfl (by decide) (by omega) ⟨by omega, by omega⟩ rfl ?_
            refine ef_goto (pc := 105) d35_105 (t := 29) rfl ?_
            first | exact ih (by omega) _ _ ho h1 (by omega) hx | exact ih (by omega) _ _ (ho.trans o2) t2 (by rw [List.length_append]; simp; omega) (by rw [List.append_assoc]; exact hx)
          · refine ef_aload_n (pc := 62) d35_62 rfl ?_
            refine eg_getR (pc := 63) d35_63 lf_3_66 (by assumption) (by decide) (by assumption) ?_
            refine ef_iload (pc := 66) d35_66 rfl ?_
            refine eg_iald (pc := 68) d35_68 (by assumption) rfl (by omega) ?_
            rw [hw.2.2.1]
            refine ef_aload_n (pc := 69) d35_69 rfl ?_
            refine eg_getR (pc := 70) d35_70 lf_3_28 (by assumption) (by decide) (by assumption) ?_
            refine eg_getR (pc := 73) d35_73 lf_3_66 (by assumption) (by decide) (by assumption) ?_
            refine ef_iload_n (pc := 76) d35_76 rfl ?_
            refine eg_iald (pc := 77) d35_77 (by assumption) rfl (by omega) ?_
            rw [hv1.2.2.1]
            refine ef_icmp_ne (pc := 78) d35_78 (t := 102) rfl (fun h78 => ?_) (fun h78 => ?_)
            · rw [if_neg (show ¬ _ = true by simp [besE, h78])] at hx
              refine ef_iinc (pc := 102) d35_102 (ls' := [_, _, _, _, _, _]) (z := ((m + 1 : Nat) : Int)) rfl (by decide) (by omega) ⟨by omega, by omega⟩ rfl ?_
              refine ef_goto (pc := 105) d35_105 (t := 29) rfl ?_
              first | exact ih (by omega) _ _ ho h1 (by omega) hx | exact ih (by omega) _ _ (ho.trans o2) t2 (by rw [List.length_append]; simp; omega) (by rw [List.append_assoc]; exact hx)
            · rw [if_pos (show _ = true by simp [besE, hpf, h59, h78]), List.map_cons] at hx
              refine ef_aload_n (pc := 81) d35_81 rfl ?_
              refine ef_iconst (pc := 82) d35_82 (by decide) ?_
              refine ef_aload_n (pc := 83) d35_83 rfl ?_
              refine eg_getR (pc := 84) d35_84 lf_3_28 (by assumption) (by decide) (by assumption) ?_
              refine eg_getR (pc := 87) d35_87 lf_3_69 (by assumption) (by decide) (by assumption) ?_
              refine ef_iload_n (pc := 90) d35_90 rfl ?_
              refine eg_iald (pc := 91) d35_91 (by assumption) rfl (by omega) ?_
              rw [hv1.1]
              refine ef_aload_n (pc := 92) d35_92 rfl ?_
              refine eg_getR (pc := 93) d35_93 lf_3_69 (by assumption) (by decide) (by assumption) ?_
              refine ef_iload (pc := 96) d35_96 rfl ?_
              refine eg_iald (pc := 98) d35_98 (by assumption) rfl (by omega) ?_
              rw [hw.1]
              refine ef_callV (pc := 99) d35_99 lm_3_72 (as := [_, _, _]) rfl rfl (by assumption) rfl rfl (by decide) (Nat.le_of_ble_eq_true rfl) rfl (Nat.le_of_ble_eq_true rfl) ?_
              refine Ec.imp (c36 hR h1 (by omega)) ?_
              rintro r99 u99 ⟨g2, rfl, rfl, o2, t2⟩
              refine ef_iinc (pc := 102) d35_102 (ls' := [_, _, _, _, _, _]) (z := ((m + 1 : Nat) : Int)) rfl (by decide) (by omega) ⟨by omega, by omega⟩ rfl ?_
              refine ef_goto (pc := 105) d35_105 (t := 29) rfl ?_
              first | exact ih (by omega) _ _ ho h1 (by omega) hx | exact ih (by omega) _ _ (ho.trans o2) t2 (by rw [List.length_append]; simp; omega) (by rw [List.append_assoc]; exact hx)
    refine ef_iconst (pc := 26) d35_26 (by decide) ?_
    refine ef_istore (pc := 27) d35_27 (ls' := [_, _, _, _, _, _]) rfl ?_
    exact loop 0 (by omega) g R Off.refl hF (by omega) rfl
  change Ef P _ 35 0 [some (vR r), some (vR s), some (vI (i : Int)), none, none, none] [] _ _
  refine ef_aload_n (pc := 0) d35_0 rfl ?_
  refine eg_getR (pc := 1) d35_1 lf_3_56 (by assumption) (by decide) (by assumption) ?_
  refine ef_astore_n (pc := 4) d35_4 (ls' := [_, _, _, _, _, _]) rfl ?_
  refine ef_aload_n (pc := 5) d35_5 rfl ?_
  refine ef_aload_n (pc := 6) d35_6 rfl ?_
  refine eg_getR (pc := 7) d35_7 lf_3_28 (by assumption) (by decide) (by assumption) ?_
  refine eg_getR (pc := 10) d35_10 lf_3_59 (by assumption) (by decide) (by assumption) ?_
  refine ef_iload_n (pc := 13) d35_13 rfl ?_
  refine eg_iald (pc := 14) d35_14 (by assumption) rfl (by omega) ?_
  rw [hv.2.1]
  refine ef_callV (pc := 15) d35_15 lm_3_62 (as := [_]) rfl rfl (by assumption) rfl rfl (by decide) (Nat.le_of_ble_eq_true rfl) rfl (Nat.le_of_ble_eq_true rfl) ?_
  refine Ec.imp (c85 (by assumption) hT (by omega) (by decide)) ?_
  rintro r15 u15 ⟨rfl, rfl⟩
  rcases ix_spec e.2.1 ps 0 with ⟨x1, x2, x3, x4⟩ | ⟨k, f, x1, x2, x3, x4, x5, x6⟩
  · rw [x1]
    refine ef_istore (pc := 18) d35_18 (ls' := [_, _, _, _, _, _]) rfl ?_
    refine ef_iload (pc := 20) d35_20 rfl ?_
    refine ef_if_geF (pc := 22) d35_22 (t := 26) rfl (by omega) ?_
    refine ef_vret (pc := 25) d35_25 rfl ?_
    exact ⟨_, rfl, rfl, Off.refl, by rw [bes, x2, List.append_nil]; exact hF⟩
  · rw [x1, Nat.zero_add]
    refine ef_istore (pc := 18) d35_18 (ls' := [_, _, _, _, _, _]) rfl ?_
    refine ef_iload (pc := 20) d35_20 rfl ?_
    refine ef_if_geT (pc := 22) d35_22 (t := 26) rfl (by omega) ?_
    exact hloop k f x2 x4 _
theorem c37 {P : Pg} {d : Nat} {u : Mm} {g : Nat → Nat → Int} {r s i : Nat} {R : List Rd} {ps gs ms : List Tg} {e : Tg} (hR : RxA u r) (hA : StA u s) (hd : r + 5 ≤ s ∨ s + 21 ≤ r) (hT : Th g (s + 1) ps) (hU : Th g (s + 7) gs) (hV : Th g (s + 13) ms) (hl : ps.length ≤ 20) (hl2 : gs.length ≤ 40) (hl3 : ms.length ≤ 30) (he : gs[i]? = some e) (hF : Rf g r R) (hfl : R.length + 30 ≤ 1200) : Ec P (d + 1) 37 [vR r, vR s, vI (i : Int)] (sI u g) (fun x u' => ∃ g', u' = sI u g' ∧ x = .inl none ∧ Off r (r + 4) g g' ∧ Rf g' r (R ++ arn ps e)) := by
  obtain ⟨y0, y1, y2, y3, y4, y5, y6, y7, y8⟩ := id hR
  obtain ⟨q0, q1, q2, q3, q4, hP, hG, hM, hL⟩ := hA
  obtain ⟨a0, a1, a2, a3, a4, a5, a6, a7, a8, a9, a10⟩ := id hP
  obtain ⟨b0, b1, b2, b3, b4, b5, b6, b7, b8, b9, b10⟩ := id hG
  obtain ⟨c0, c1, c2, c3, c4, c5, c6, c7, c8, c9, c10⟩ := id hM
  obtain ⟨l0, l1, l2⟩ := id hL
  have hv := hU.2 i e he
  have hi := (List.getElem?_eq_some_iff.mp he).1
  change Ef P _ 37 0 [some (vR r), some (vR s), some (vI (i : Int)), none, none, none] [] _ _
  refine ef_aload_n (pc := 0) d37_0 rfl ?_
  refine eg_getR (pc := 1) d37_1 lf_3_56 (by assumption) (by decide) (by assumption) ?_
  refine ef_astore_n (pc := 4) d37_4 (ls' := [_, _, _, _, _, _]) rfl ?_
  refine ef_aload_n (pc := 5) d37_5 rfl ?_
  refine ef_aload_n (pc := 6) d37_6 rfl ?_
  refine eg_getR (pc := 7) d37_7 lf_3_28 (by assumption) (by decide) (by assumption) ?_
  refine eg_getR (pc := 10) d37_10 lf_3_59 (by assumption) (by decide) (by assumption) ?_
  refine ef_iload_n (pc := 13) d37_13 rfl ?_
  refine eg_iald (pc := 14) d37_14 (by assumption) rfl (by omega) ?_
  rw [hv.2.1]
  refine ef_callV (pc := 15) d37_15 lm_3_62 (as := [_]) rfl rfl (by assumption) rfl rfl (by decide) (Nat.le_of_ble_eq_true rfl) rfl (Nat.le_of_ble_eq_true rfl) ?_
  refine Ec.imp (c85 (by assumption) hT (by omega) (by decide)) ?_
  rintro r15 u15 ⟨rfl, rfl⟩
  rcases ix_spec e.2.1 ps 0 with ⟨x1, x2, x3, x4⟩ | ⟨k, f, x1, x2, x3, x4, x5, x6⟩
  · rw [x1]
    refine ef_istore (pc := 18) d37_18 (ls' := [_, _, _, _, _, _]) rfl ?_
    refine ef_iload (pc := 20) d37_20 rfl ?_
    refine ef_if_geF (pc := 22) d37_22 (t := 29) rfl (by omega) ?_
    refine ef_iconst (pc := 25) d37_25 (by decide) ?_
    refine ef_goto (pc := 26) d37_26 (t := 40) rfl ?_
    refine ef_istore (pc := 40) d37_40 (ls' := [_, _, _, _, _, _]) rfl ?_
    refine ef_iload (pc := 42) d37_42 rfl ?_
    refine ef_if_ltT (pc := 44) d37_44 (t := 87) rfl (by omega) ?_
    refine ef_vret (pc := 87) d37_87 rfl ?_
    exact ⟨_, rfl, rfl, Off.refl, by rw [arn, x2, List.append_nil]; exact hF⟩
  · rw [x1, Nat.zero_add]
    have hf := hT.2 k f x2
    have hfi := (List.getElem?_eq_some_iff.mp x2).1
    refine ef_istore (pc := 18) d37_18 (ls' := [_, _, _, _, _, _]) rfl ?_
    refine ef_iload (pc := 20) d37_20 rfl ?_
    refine ef_if_geT (pc := 22) d37_22 (t := 29) rfl (by omega) ?_
    refine ef_aload_n (pc := 29) d37_29 rfl ?_
    refine ef_aload_n (pc := 30) d37_30 rfl ?_
    refine eg_getR (pc := 31) d37_31 lf_3_59 (by assumption) (by decide) (by assumption) ?_
    refine ef_iload (pc := 34) d37_34 rfl ?_
    refine eg_iald (pc := 36) d37_36 (by assumption) rfl (by omega) ?_
    try simp (disch := omega) only [u2_ne, u2_at, u2_ni, ur_ne, ur_eq]
    rw [hf.2.1]
    refine ef_callV (pc := 37) d37_37 lm_3_62 (as := [_]) rfl rfl (by assumption) rfl rfl (by decide) (Nat.le_of_ble_eq_true rfl) rfl (Nat.le_of_ble_eq_true rfl) ?_
    refine Ec.imp (c85 (by assumption) hT (by omega) (by decide)) ?_
    rintro r37 u37 ⟨rfl, rfl⟩
    rcases ix_spec f.2.1 ps 0 with ⟨z1, z2, z3, zz⟩ | ⟨k2, q, z1, z5, z3, z4, z6, z7⟩
    · rw [z1]
      refine ef_istore (pc := 40) d37_40 (ls' := [_, _, _, _, _, _]) rfl ?_
      refine ef_iload (pc := 42) d37_42 rfl ?_
      refine ef_if_ltT (pc := 44) d37_44 (t := 87) rfl (by omega) ?_
      refine ef_vret (pc := 87) d37_87 rfl ?_
      exact ⟨_, rfl, rfl, Off.refl, by simp only [arn, x4, z2]; rw [List.append_nil]; exact hF⟩
    · rw [z1, Nat.zero_add]
      have hq := hT.2 k2 q z5
      have hqi := (List.getElem?_eq_some_iff.mp z5).1
      refine ef_istore (pc := 40) d37_40 (ls' := [_, _, _, _, _, _]) rfl ?_
      refine ef_iload (pc := 42) d37_42 rfl ?_
      refine ef_if_ltF (pc := 44) d37_44 (t := 87) rfl (by omega) ?_
      refine ef_aload_n (pc := 47) d37_47 rfl ?_
      refine eg_getR (pc := 48) d37_48 lf_3_66 (by assumption) (by decide) (by assumption) ?_
      refine ef_iload (pc := 51) d37_51 rfl ?_
      refine eg_iald (pc := 53) d37_53 (by assumption) rfl (by omega) ?_
      try simp (disch := omega) only [u2_ne, u2_at, u2_ni, ur_ne, ur_eq]
      rw [hq.2.2.1]
      refine ef_aload_n (pc := 54) d37_54 rfl ?_
      refine eg_getR (pc := 55) d37_55 lf_3_28 (by assumption) (by decide) (by assumption) ?_
      refine eg_getR (pc := 58) d37_58 lf_3_66 (by assumption) (by decide) (by assumption) ?_
      refine ef_iload_n (pc := 61) d37_61 rfl ?_
      refine eg_iald (pc := 62) d37_62 (by assumption) rfl (by omega) ?_
      try simp (disch := omega) only [u2_ne, u2_at, u2_ni, ur_ne, ur_eq]
      rw [hv.2.2.1]
      refine ef_icmp_ne (pc := 63) d37_63 (t := 87) rfl (fun h63 => ?_) (fun h63 => ?_)
      · refine ef_vret (pc := 87) d37_87 rfl ?_
        exact ⟨_, rfl, rfl, Off.refl, by simp only [arn, x4, z4]; rw [if_neg h63, List.append_nil]; exact hF⟩
      · refine ef_aload_n (pc := 66) d37_66 rfl ?_
        refine ef_iconst (pc := 67) d37_67 (by decide) ?_
        refine ef_aload_n (pc := 68) d37_68 rfl ?_
        refine eg_getR (pc := 69) d37_69 lf_3_28 (by assumption) (by decide) (by assumption) ?_
        refine eg_getR (pc := 72) d37_72 lf_3_69 (by assumption) (by decide) (by assumption) ?_
        refine ef_iload_n (pc := 75) d37_75 rfl ?_
        refine eg_iald (pc := 76) d37_76 (by assumption) rfl (by omega) ?_
        try simp (disch := omega) only [u2_ne, u2_at, u2_ni, ur_ne, ur_eq]
        rw [hv.1]
        refine ef_aload_n (pc := 77) d37_77 rfl ?_
        refine eg_getR (pc := 78) d37_78 lf_3_69 (by assumption) (by decide) (by assumption) ?_
        refine ef_iload (pc := 81) d37_81 rfl ?_
        refine eg_iald (pc := 83) d37_83 (by assumption) rfl (by omega) ?_
        try simp (disch := omega) only [u2_ne, u2_at, u2_ni, ur_ne, ur_eq]
        rw [hq.1]
        refine ef_callV (pc := 84) d37_84 lm_3_72 (as := [_, _, _]) rfl rfl (by assumption) rfl rfl (by decide) (Nat.le_of_ble_eq_true rfl) rfl (Nat.le_of_ble_eq_true rfl) ?_
        refine Ec.imp (c36 hR hF (by omega)) ?_
        rintro r84 u84 ⟨g2, rfl, rfl, o2, t2⟩
        exact (ef_vret (pc := 87) d37_87 rfl ⟨_, rfl, rfl, o2, by simp only [arn, x4, z4]; rw [if_pos h63]; exact t2⟩)
