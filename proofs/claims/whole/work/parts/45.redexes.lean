/-! Redexes: find, date, oldest. Written by wip/whole/gen/c45.py. -/
def TmA (u : Mm) (m : Nat) : Prop := mS u m = some (100 + 6, 8) ∧ mF u m 0 = some (m + 1) ∧ mF u m 1 = some (m + 2) ∧ mF u m 2 = some (m + 3) ∧ mF u m 3 = some (m + 4) ∧ mF u m 5 = some (m + 5) ∧ mS u (m + 1) = some (0, 50) ∧ mS u (m + 2) = some (1, 50) ∧ mS u (m + 3) = some (2, 50) ∧ mS u (m + 4) = some (0, 50) ∧ mS u (m + 5) = some (1, 120)
/-- nodes that there are -/
def Nd (gs : List Tg) : Prop := ∀ e, e ∈ gs → 0 ≤ e.2.2.2.1 ∧ e.2.2.2.1 < 50
theorem mem_of_get {α : Type} {L : List α} {i : Nat} {e : α} (h : L[i]? = some e) : e ∈ L := List.mem_of_getElem? h
theorem c34 {P : Pg} {d : Nat} {u : Mm} {g : Nat → Nat → Int} {r s tm : Nat} {ps gs ms : List Tg} (hR : RxA u r) (hA : StA u s) (hTm : TmA u tm) (hd : r + 5 ≤ s ∨ s + 21 ≤ r) (hd2 : r + 5 ≤ tm ∨ tm + 6 ≤ r) (hT : Th g (s + 1) ps) (hU : Th g (s + 7) gs) (hV : Th g (s + 13) ms) (hl : ps.length ≤ 20) (hl2 : gs.length ≤ 40) (hl3 : ms.length ≤ 30) (hq : Uq ps) (hN : Nd gs) : Ec P (d + 2) 34 [vR r, vR s, vR tm] (sI u g) (fun x u' => ∃ g', u' = sI u g' ∧ x = .inl none ∧ Off r (r + 4) g g' ∧ Rf g' r (rxs (g (tm + 1)) ps gs ms)) := by
  obtain ⟨y0, y1, y2, y3, y4, y5, y6, y7, y8⟩ := id hR
  obtain ⟨q0, q1, q2, q3, q4, hP, hG, hM, hL⟩ := id hA
  obtain ⟨a0, a1, a2, a3, a4, a5, a6, a7, a8, a9, a10⟩ := id hP
  obtain ⟨b0, b1, b2, b3, b4, b5, b6, b7, b8, b9, b10⟩ := id hG
  obtain ⟨c0, c1, c2, c3, c4, c5, c6, c7, c8, c9, c10⟩ := id hM
  obtain ⟨l0, l1, l2⟩ := id hL
  obtain ⟨k0, k1, k2, k3, k4, k5, k6, k7, k8, k9, k10⟩ := id hTm
  have loop : ∀ i, i ≤ gs.length → ∀ g1 R1 v, Off r (r + 4) g g1 → Rf g1 r R1 → R1.length ≤ 30 * i → R1 ++ (gs.drop i).flatMap (rxG (g (tm + 1)) ps ms) = rxs (g (tm + 1)) ps gs ms → Ef P (d + 2) 34 7 [some (vR r), some (vR s), some (vR tm), some (vI (i : Int)), v] [] (sI u g1) (fun x u' => ∃ g', u' = sI u g' ∧ x = .inl none ∧ Off r (r + 4) g g' ∧ Rf g' r (rxs (g (tm + 1)) ps gs ms)) := by
    refine nat_loop gs.length ?_
    intro i hi ih g1 R1 v ho h1 hb hx
    have hT1 := hT.same ho (by omega)
    have hU1 := hU.same ho (by omega)
    have hV1 := hV.same ho (by omega)
    have hz := hU1.1
    have hk : g1 (tm + 1) = g (tm + 1) := ho _ (by omega)
    refine ef_iload_n (pc := 7) d34_7 rfl ?_
    refine ef_aload_n (pc := 8) d34_8 rfl ?_
    refine eg_getR (pc := 9) d34_9 lf_3_28 (by assumption) (by decide) (by assumption) ?_
    refine eg_getI (pc := 12) d34_12 lf_3_34 (by assumption) (by decide) ?_
    rw [hz]
    refine ef_icmp_ge (pc := 15) d34_15 (t := 103) rfl (fun h15 => ?_) (fun h15 => ?_)
    · rw [List.drop_eq_nil_of_le (by omega), List.flatMap_nil, List.append_nil] at hx
      refine ef_vret (pc := 103) d34_103 rfl ?_
      refine ⟨_, rfl, rfl, ho, ?_⟩
      rw [← hx]
      exact h1
    · obtain ⟨e, he, hde⟩ := get_of_lt (L := gs) (i := i) (by omega)
      have hv := hU1.2 i e he
      have hne := hN e (mem_of_get he)
      rw [hde, List.flatMap_cons] at hx
      have hln := rxG_len (kd := g (tm + 1)) (e := e) hl hl3
      refine ef_aload_n (pc := 18) d34_18 rfl ?_
      refine eg_getR (pc := 19) d34_19 lf_3_37 (by assumption) (by decide) (by assumption) ?_
      refine ef_aload_n (pc := 22) d34_22 rfl ?_
      refine eg_getR (pc := 23) d34_23 lf_3_28 (by assumption) (by decide) (by assumption) ?_
      refine eg_getR (pc := 26) d34_26 lf_3_40 (by assumption) (by decide) (by assumption) ?_
      refine ef_iload_n (pc := 29) d34_29 rfl ?_
      refine eg_iald (pc := 30) d34_30 (by assumption) rfl (by omega) ?_
      rw [hv.2.2.2.1]
      refine eg_iald (pc := 31) d34_31 (i := e.2.2.2.1.toNat) (by assumption) (by omega) (by omega) ?_
      rw [hk]
      refine ef_istore (pc := 32) d34_32 (ls' := [_, _, _, _, _]) rfl ?_
      refine ef_iload (pc := 34) d34_34 rfl ?_
      by_cases h0 : g (tm + 1) e.2.2.2.1.toNat = 0
      · have hrx : rxG (g (tm + 1)) ps ms e = bes ps e := by rw [rxG, if_pos h0]
        rw [h0]
        refine ef_table (pc := 36) d34_36 (off := 28) (by decide) (t := 64) rfl ?_
        refine ef_aload_n (pc := 64) d34_64 rfl ?_
        refine ef_aload_n (pc := 65) d34_65 rfl ?_
        refine ef_iload_n (pc := 66) d34_66 rfl ?_
        refine ef_callV (pc := 67) d34_67 lm_3_43 (as := [_, _]) rfl rfl (by assumption) rfl rfl (by decide) (Nat.le_of_ble_eq_true rfl) rfl (Nat.le_of_ble_eq_true rfl) ?_
        refine Ec.imp (c35 hR hA hd hT1 hU1 hV1 hl hl2 hl3 he h1 (by omega) hq) ?_
        rintro r67 u67 ⟨g2, rfl, rfl, o2, t2⟩
        refine ef_goto (pc := 70) d34_70 (t := 97) rfl ?_
        refine ef_iinc (pc := 97) d34_97 (ls' := [_, _, _, _, _]) (z := ((i + 1 : Nat) : Int)) rfl (by decide) (by omega) ⟨by omega, by omega⟩ rfl ?_
        refine ef_goto (pc := 100) d34_100 (t := 7) rfl ?_
        refine ih (by omega) _ _ _ (ho.trans o2) t2 ?_ ?_
        · rw [List.length_append]; rw [hrx] at hln; omega
        · rw [List.append_assoc, ← hrx]; exact hx
      by_cases hk1 : g (tm + 1) e.2.2.2.1.toNat = 1
      · have hrx : rxG (g (tm + 1)) ps ms e = arn ps e := by rw [rxG, if_neg h0, if_pos hk1]
        rw [hk1]
        refine ef_table (pc := 36) d34_36 (off := 37) (by decide) (t := 73) rfl ?_
        refine ef_aload_n (pc := 73) d34_73 rfl ?_
        refine ef_aload_n (pc := 74) d34_74 rfl ?_
        refine ef_iload_n (pc := 75) d34_75 rfl ?_
        refine ef_callV (pc := 76) d34_76 lm_3_47 (as := [_, _]) rfl rfl (by assumption) rfl rfl (by decide) (Nat.le_of_ble_eq_true rfl) rfl (Nat.le_of_ble_eq_true rfl) ?_
        refine Ec.imp (c37 hR hA hd hT1 hU1 hV1 hl hl2 hl3 he h1 (by omega)) ?_
        rintro r76 u76 ⟨g2, rfl, rfl, o2, t2⟩
        refine ef_goto (pc := 79) d34_79 (t := 97) rfl ?_
        refine ef_iinc (pc := 97) d34_97 (ls' := [_, _, _, _, _]) (z := ((i + 1 : Nat) : Int)) rfl (by decide) (by omega) ⟨by omega, by omega⟩ rfl ?_
        refine ef_goto (pc := 100) d34_100 (t := 7) rfl ?_
        refine ih (by omega) _ _ _ (ho.trans o2) t2 ?_ ?_
        · rw [List.length_append]; rw [hrx] at hln; omega
        · rw [List.append_assoc, ← hrx]; exact hx
      by_cases h2 : g (tm + 1) e.2.2.2.1.toNat = 2
      · have hrx : rxG (g (tm + 1)) ps ms e = ins ps e := by rw [rxG, if_neg h0, if_neg hk1, if_pos h2]
        rw [h2]
        refine ef_table (pc := 36) d34_36 (off := 46) (by decide) (t := 82) rfl ?_
        refine ef_aload_n (pc := 82) d34_82 rfl ?_
        refine ef_aload_n (pc := 83) d34_83 rfl ?_
        refine ef_iload_n (pc := 84) d34_84 rfl ?_
        refine ef_callV (pc := 85) d34_85 lm_3_50 (as := [_, _]) rfl rfl (by assumption) rfl rfl (by decide) (Nat.le_of_ble_eq_true rfl) rfl (Nat.le_of_ble_eq_true rfl) ?_
        refine Ec.imp (c38 hR hA hd hT1 hU1 hV1 hl hl2 hl3 he h1 (by omega)) ?_
        rintro r85 u85 ⟨g2, rfl, rfl, o2, t2⟩
        refine ef_goto (pc := 88) d34_88 (t := 97) rfl ?_
        refine ef_iinc (pc := 97) d34_97 (ls' := [_, _, _, _, _]) (z := ((i + 1 : Nat) : Int)) rfl (by decide) (by omega) ⟨by omega, by omega⟩ rfl ?_
        refine ef_goto (pc := 100) d34_100 (t := 7) rfl ?_
        refine ih (by omega) _ _ _ (ho.trans o2) t2 ?_ ?_
        · rw [List.length_append]; rw [hrx] at hln; omega
        · rw [List.append_assoc, ← hrx]; exact hx
      have hrx : rxG (g (tm + 1)) ps ms e = msg ms e := by rw [rxG, if_neg h0, if_neg hk1, if_neg h2]
      refine ef_table (pc := 36) d34_36 (off := 55) (by rw [tsw, if_pos (by omega)]) (t := 91) rfl ?_
      refine ef_aload_n (pc := 91) d34_91 rfl ?_
      refine ef_aload_n (pc := 92) d34_92 rfl ?_
      refine ef_iload_n (pc := 93) d34_93 rfl ?_
      refine ef_callV (pc := 94) d34_94 lm_3_53 (as := [_, _]) rfl rfl (by assumption) rfl rfl (by decide) (Nat.le_of_ble_eq_true rfl) rfl (Nat.le_of_ble_eq_true rfl) ?_
      refine Ec.imp (c39 hR hA hd hT1 hU1 hV1 hl hl2 hl3 he h1 (by omega)) ?_
      rintro r94 u94 ⟨g2, rfl, rfl, o2, t2⟩
      refine ef_iinc (pc := 97) d34_97 (ls' := [_, _, _, _, _]) (z := ((i + 1 : Nat) : Int)) rfl (by decide) (by omega) ⟨by omega, by omega⟩ rfl ?_
      refine ef_goto (pc := 100) d34_100 (t := 7) rfl ?_
      refine ih (by omega) _ _ _ (ho.trans o2) t2 ?_ ?_
      · rw [List.length_append]; rw [hrx] at hln; omega
      · rw [List.append_assoc, ← hrx]; exact hx
  change Ef P _ 34 0 [some (vR r), some (vR s), some (vR tm), none, none] [] _ _
  refine ef_aload_n (pc := 0) d34_0 rfl ?_
  refine ef_iconst (pc := 1) d34_1 (by decide) ?_
  refine eg_putI (pc := 2) d34_2 pf_34_24 (by assumption) (by decide) ?_
  refine ef_iconst (pc := 5) d34_5 (by decide) ?_
  refine ef_istore_n (pc := 6) d34_6 (ls' := [_, _, _, _, _]) rfl ?_
  exact loop 0 (by omega) _ [] _ (Off.refl.up (by omega) (by omega)) ⟨u2_at, fun i e he => by cases he⟩ (by simp) rfl
theorem c165 {P : Pg} {d : Nat} {u : Mm} {x y : Int} : Ec P d 165 [vI x, vI y] u (fun r u' => u' = u ∧ r = .inl (some (vI (if x < y then -1 else if x = y then 0 else 1)))) := by
  change Ef P _ 165 0 [some (vI x), some (vI y)] [] _ _
  refine ef_iload_n (pc := 0) d165_0 rfl ?_
  refine ef_iload_n (pc := 1) d165_1 rfl ?_
  refine ef_icmp_ge (pc := 2) d165_2 (t := 9) rfl (fun h2 => ?_) (fun h2 => ?_)
  · rw [if_neg (show ¬ x < y by omega)]
    refine ef_iload_n (pc := 9) d165_9 rfl ?_
    refine ef_iload_n (pc := 10) d165_10 rfl ?_
    refine ef_icmp_ne (pc := 11) d165_11 (t := 18) rfl (fun h11 => ?_) (fun h11 => ?_)
    · rw [if_neg h11]
      refine ef_iconst (pc := 18) d165_18 (by decide) ?_
      refine ef_iret (pc := 19) d165_19 rfl ?_
      exact ⟨rfl, rfl⟩
    · rw [if_pos h11]
      refine ef_iconst (pc := 14) d165_14 (by decide) ?_
      refine ef_goto (pc := 15) d165_15 (t := 19) rfl ?_
      refine ef_iret (pc := 19) d165_19 rfl ?_
      exact ⟨rfl, rfl⟩
  · rw [if_pos (show x < y by omega)]
    refine ef_iconst (pc := 5) d165_5 (by decide) ?_
    refine ef_goto (pc := 6) d165_6 (t := 19) rfl ?_
    refine ef_iret (pc := 19) d165_19 rfl ?_
    exact ⟨rfl, rfl⟩
def cm2 (p q : Int × Int) : Int := if p.1 ≠ q.1 then (if p.1 < q.1 then -1 else if p.1 = q.1 then 0 else 1) else (if p.2 < q.2 then -1 else if p.2 = q.2 then 0 else 1)
def lt2 (p q : Int × Int) : Prop := p.1 < q.1 ∨ p.1 = q.1 ∧ p.2 < q.2
theorem cm2_lt {p q : Int × Int} : cm2 p q < 0 ↔ lt2 p q := by unfold cm2 lt2; split <;> (try split) <;> (try split) <;> omega
theorem cm2_eq {p q : Int × Int} : cm2 p q = 0 ↔ p = q := by
  constructor
  · intro h
    obtain ⟨a, b⟩ := p
    obtain ⟨c, d⟩ := q
    unfold cm2 at h
    simp only at h
    have : a = c ∧ b = d := by
      revert h
      split <;> (try split) <;> (try split) <;> omega
    rw [this.1, this.2]
  · intro h; subst h; simp [cm2]
theorem c41 {P : Pg} {d : Nat} {u : Mm} {g : Nat → Nat → Int} {r i : Nat} {R : List Rd} {e : Rd} {a b : Int} (hR : RxA u r) (hF : Rf g r R) (he : R[i]? = some e) (hl : R.length ≤ 1200) : Ec P (d + 1) 41 [vR r, vI (i : Int), vI a, vI b] (sI u g) (fun x u' => u' = sI u g ∧ x = .inl (some (vI (cm2 e.2 (a, b))))) := by
  obtain ⟨y0, y1, y2, y3, y4, y5, y6, y7, y8⟩ := id hR
  have hv := hF.2 i e he
  have hi := (List.getElem?_eq_some_iff.mp he).1
  change Ef P _ 41 0 [some (vR r), some (vI (i : Int)), some (vI a), some (vI b)] [] _ _
  refine ef_aload_n (pc := 0) d41_0 rfl ?_
  refine eg_getR (pc := 1) d41_1 lf_3_15 (by assumption) (by decide) (by assumption) ?_
  refine ef_iload_n (pc := 4) d41_4 rfl ?_
  refine eg_iald (pc := 5) d41_5 (by assumption) rfl (by omega) ?_
  rw [hv.2.1]
  refine ef_iload_n (pc := 6) d41_6 rfl ?_
  refine ef_icmp_eq (pc := 7) d41_7 (t := 23) rfl (fun h7 => ?_) (fun h7 => ?_)
  · have hc : cm2 e.2 (a, b) = (if e.2.2 < b then -1 else if e.2.2 = b then 0 else 1) := by rw [cm2, if_neg (by simpa using h7)]
    refine ef_aload_n (pc := 23) d41_23 rfl ?_
    refine eg_getR (pc := 24) d41_24 lf_3_18 (by assumption) (by decide) (by assumption) ?_
    refine ef_iload_n (pc := 27) d41_27 rfl ?_
    refine eg_iald (pc := 28) d41_28 (by assumption) rfl (by omega) ?_
    rw [hv.2.2]
    refine ef_iload_n (pc := 29) d41_29 rfl ?_
    refine ef_callS (pc := 30) d41_30 lm_3_83 (as := [_, _]) rfl rfl rfl (Nat.le_of_ble_eq_true rfl) rfl (Nat.le_of_ble_eq_true rfl) ?_
    refine Ec.imp (c165) ?_
    rintro r30 u30 ⟨rfl, rfl⟩
    refine ef_iret (pc := 33) d41_33 rfl ?_
    exact ⟨rfl, by rw [hc]⟩
  · have hc : cm2 e.2 (a, b) = (if e.2.1 < a then -1 else if e.2.1 = a then 0 else 1) := by rw [cm2, if_pos h7]
    refine ef_aload_n (pc := 10) d41_10 rfl ?_
    refine eg_getR (pc := 11) d41_11 lf_3_15 (by assumption) (by decide) (by assumption) ?_
    refine ef_iload_n (pc := 14) d41_14 rfl ?_
    refine eg_iald (pc := 15) d41_15 (by assumption) rfl (by omega) ?_
    rw [hv.2.1]
    refine ef_iload_n (pc := 16) d41_16 rfl ?_
    refine ef_callS (pc := 17) d41_17 lm_3_83 (as := [_, _]) rfl rfl rfl (Nat.le_of_ble_eq_true rfl) rfl (Nat.le_of_ble_eq_true rfl) ?_
    refine Ec.imp (c165) ?_
    rintro r17 u17 ⟨rfl, rfl⟩
    refine ef_goto (pc := 20) d41_20 (t := 33) rfl ?_
    refine ef_iret (pc := 33) d41_33 rfl ?_
    exact ⟨rfl, by rw [hc]⟩
theorem c42 {P : Pg} {d : Nat} {u : Mm} {g : Nat → Nat → Int} {r : Nat} {n k : Int} (hR : RxA u r) (hn : g r 4 = n) : Ec P d 42 [vR r, vI k] (sI u g) (fun x u' => u' = sI u g ∧ x = .inl (some (vI (if 0 ≤ k ∧ k < n then 1 else 0)))) := by
  obtain ⟨y0, y1, y2, y3, y4, y5, y6, y7, y8⟩ := id hR
  change Ef P _ 42 0 [some (vR r), some (vI k)] [] _ _
  refine ef_iload_n (pc := 0) d42_0 rfl ?_
  refine ef_if_lt (pc := 1) d42_1 (t := 16) rfl (fun h1 => ?_) (fun h1 => ?_)
  · rw [if_neg (show ¬ (0 ≤ k ∧ k < n) by omega)]
    refine ef_iconst (pc := 16) d42_16 (by decide) ?_
    refine ef_zret (pc := 17) d42_17 rfl (by omega) ?_
    exact ⟨rfl, rfl⟩
  · refine ef_iload_n (pc := 4) d42_4 rfl ?_
    refine ef_aload_n (pc := 5) d42_5 rfl ?_
    refine eg_getI (pc := 6) d42_6 lf_3_24 (by assumption) (by decide) ?_
    rw [hn]
    refine ef_icmp_ge (pc := 9) d42_9 (t := 16) rfl (fun h9 => ?_) (fun h9 => ?_)
    · rw [if_neg (show ¬ (0 ≤ k ∧ k < n) by omega)]
      refine ef_iconst (pc := 16) d42_16 (by decide) ?_
      refine ef_zret (pc := 17) d42_17 rfl (by omega) ?_
      exact ⟨rfl, rfl⟩
    · rw [if_pos (show 0 ≤ k ∧ k < n by omega)]
      refine ef_iconst (pc := 12) d42_12 (by decide) ?_
      refine ef_goto (pc := 13) d42_13 (t := 17) rfl ?_
      refine ef_zret (pc := 17) d42_17 rfl (by omega) ?_
      exact ⟨rfl, rfl⟩
theorem c33 {P : Pg} {d : Nat} {u : Mm} {g : Nat → Nat → Int} {r : Nat} (hR : RxA u r) : Ec P d 33 [vR r] (sI u g) (fun x u' => ∃ g', u' = sI u g' ∧ x = .inl none ∧ Off r (r + 4) g g' ∧ Rf g' r []) := by
  obtain ⟨y0, y1, y2, y3, y4, y5, y6, y7, y8⟩ := id hR
  change Ef P _ 33 0 [some (vR r)] [] _ _
  refine ef_aload_n (pc := 0) d33_0 rfl ?_
  refine ef_iconst (pc := 1) d33_1 (by decide) ?_
  refine eg_putI (pc := 2) d33_2 pf_33_24 (by assumption) (by decide) ?_
  refine ef_vret (pc := 5) d33_5 rfl ?_
  exact ⟨_, rfl, rfl, Off.refl.up (by omega) (by omega), u2_at, fun i e he => by cases he⟩
def Old (f : Nat → Int) (n k : Nat) : Prop := k < n ∧ (∀ j, j < n → f k ≤ f j) ∧ ∀ j, j < k → f k < f j
theorem c43 {P : Pg} {d : Nat} {u : Mm} {g : Nat → Nat → Int} {r n : Nat} (hR : RxA u r) (hn : g r 4 = (n : Int)) (h0 : 0 < n) (hl : n ≤ 1200) : Ec P d 43 [vR r] (sI u g) (fun x u' => u' = sI u g ∧ ∃ k : Nat, x = .inl (some (vI (k : Int))) ∧ Old (g (r + 4)) n k) := by
  obtain ⟨y0, y1, y2, y3, y4, y5, y6, y7, y8⟩ := id hR
  have loop : ∀ i, i ≤ n → ∀ k : Nat, 1 ≤ i → Old (g (r + 4)) i k → Ef P d 43 4 [some (vR r), some (vI (k : Int)), some (vI (i : Int))] [] (sI u g) (fun x u' => u' = sI u g ∧ ∃ k : Nat, x = .inl (some (vI (k : Int))) ∧ Old (g (r + 4)) n k) := by
    refine nat_loop n ?_
    intro i hi ih k h1 hk
    have hkn := hk.1
    refine ef_iload_n (pc := 4) d43_4 rfl ?_
    refine ef_aload_n (pc := 5) d43_5 rfl ?_
    refine eg_getI (pc := 6) d43_6 lf_3_24 (by assumption) (by decide) ?_
    rw [hn]
    refine ef_icmp_ge (pc := 9) d43_9 (t := 35) rfl (fun h9 => ?_) (fun h9 => ?_)
    · refine ef_iload_n (pc := 35) d43_35 rfl ?_
      refine ef_iret (pc := 36) d43_36 rfl ?_
      have hin : i = n := by omega
      subst hin
      exact ⟨rfl, k, rfl, hk⟩
    · refine ef_aload_n (pc := 12) d43_12 rfl ?_
      refine eg_getR (pc := 13) d43_13 lf_3_21 (by assumption) (by decide) (by assumption) ?_
      refine ef_iload_n (pc := 16) d43_16 rfl ?_
      refine eg_iald (pc := 17) d43_17 (by assumption) rfl (by omega) ?_
      refine ef_aload_n (pc := 18) d43_18 rfl ?_
      refine eg_getR (pc := 19) d43_19 lf_3_21 (by assumption) (by decide) (by assumption) ?_
      refine ef_iload_n (pc := 22) d43_22 rfl ?_
      refine eg_iald (pc := 23) d43_23 (by assumption) rfl (by omega) ?_
      refine ef_icmp_ge (pc := 24) d43_24 (t := 29) rfl (fun h24 => ?_) (fun h24 => ?_)
      · have hk2 : Old (g (r + 4)) (i + 1) k := ⟨by omega, fun j hj => by
          by_cases hji : j = i
          · subst hji; exact h24
          · exact hk.2.1 j (by omega), hk.2.2⟩
        refine ef_iinc (pc := 29) d43_29 (ls' := [_, _, _]) (z := ((i + 1 : Nat) : Int)) rfl (by decide) (by omega) ⟨by omega, by omega⟩ rfl ?_
        refine ef_goto (pc := 32) d43_32 (t := 4) rfl ?_
        exact ih (by omega) _ (by omega) hk2
      · have hk2 : Old (g (r + 4)) (i + 1) i := ⟨by omega, fun j hj => by
          by_cases hji : j = i
          · subst hji; exact Int.le_refl _
          · have := hk.2.1 j (by omega); omega, fun j hj => by have := hk.2.1 j (by omega); omega⟩
        refine ef_iload_n (pc := 27) d43_27 rfl ?_
        refine ef_istore_n (pc := 28) d43_28 (ls' := [_, _, _]) rfl ?_
        refine ef_iinc (pc := 29) d43_29 (ls' := [_, _, _]) (z := ((i + 1 : Nat) : Int)) rfl (by decide) (by omega) ⟨by omega, by omega⟩ rfl ?_
        refine ef_goto (pc := 32) d43_32 (t := 4) rfl ?_
        exact ih (by omega) _ (by omega) hk2
  change Ef P _ 43 0 [some (vR r), none, none] [] _ _
  refine ef_iconst (pc := 0) d43_0 (by decide) ?_
  refine ef_istore_n (pc := 1) d43_1 (ls' := [_, _, _]) rfl ?_
  refine ef_iconst (pc := 2) d43_2 (by decide) ?_
  refine ef_istore_n (pc := 3) d43_3 (ls' := [_, _, _]) rfl ?_
  exact loop 1 (by omega) 0 (by omega) ⟨by omega, fun j hj => by rw [show j = 0 by omega]; exact Int.le_refl _, fun j hj => absurd hj (by omega)⟩
/-- in order -/
def Srt (R : List Rd) : Prop := ∀ (i j : Nat) (a b : Rd), R[i]? = some a → R[j]? = some b → i < j → lt2 a.2 b.2
/-- since when -/
def Dt (B : List Rd) (S : Nat → Int) (st : Int) (e : Rd) (v : Int) : Prop := (∀ (k : Nat) (b : Rd), B[k]? = some b → b.2 = e.2 → v = S k) ∧ ((∀ (k : Nat) (b : Rd), B[k]? = some b → b.2 ≠ e.2) → v = st)
theorem lt2_tr {p q s : Int × Int} (h : lt2 p q) (k : lt2 q s) : lt2 p s := by unfold lt2 at *; omega
theorem lt2_ne {p q : Int × Int} (h : lt2 p q) : p ≠ q := fun hh => by subst hh; unfold lt2 at h; omega
theorem lt2_tri {p q : Int × Int} (h : ¬ lt2 p q) (k : p ≠ q) : lt2 q p := by
  obtain ⟨a, b⟩ := p
  obtain ⟨c, d⟩ := q
  unfold lt2 at *
  simp only [ne_eq, Prod.mk.injEq] at *
  omega
theorem c40 {P : Pg} {d : Nat} {u : Mm} {g : Nat → Nat → Int} {r r2 : Nat} {R B : List Rd} {st : Int} (hR : RxA u r) (hR2 : RxA u r2) (hd : r + 5 ≤ r2 ∨ r2 + 5 ≤ r) (hF : Rf g r R) (hB : Rf g r2 B) (hl : R.length ≤ 1200) (hl2 : B.length ≤ 1200) (hsR : Srt R) (hsB : Srt B) : Ec P (d + 2) 40 [vR r, vR r2, vI st] (sI u g) (fun x u' => ∃ g', u' = sI u g' ∧ x = .inl none ∧ Off (r + 4) (r + 5) g g' ∧ ∀ (j : Nat) (e : Rd), R[j]? = some e → Dt B (g (r2 + 4)) st e (g' (r + 4) j)) := by
  obtain ⟨y0, y1, y2, y3, y4, y5, y6, y7, y8⟩ := id hR
  obtain ⟨x0, x1, x2, x3, x4, x5, x6, x7, x8⟩ := id hR2
  have loop : ∀ i, i ≤ R.length → ∀ g1 (m : Nat) v, m ≤ B.length → Off (r + 4) (r + 5) g g1 → (∀ (j : Nat) (e : Rd), j < i → R[j]? = some e → Dt B (g (r2 + 4)) st e (g1 (r + 4) j)) → (∀ (k j : Nat) (b e : Rd), k < m → i ≤ j → B[k]? = some b → R[j]? = some e → lt2 b.2 e.2) → Ef P (d + 2) 40 5 [some (vR r), some (vR r2), some (vI st), some (vI (m : Int)), some (vI (i : Int)), v] [] (sI u g1) (fun x u' => ∃ g', u' = sI u g' ∧ x = .inl none ∧ Off (r + 4) (r + 5) g g' ∧ ∀ (j : Nat) (e : Rd), R[j]? = some e → Dt B (g (r2 + 4)) st e (g' (r + 4) j)) := by
    refine nat_loop R.length ?_
    intro i hi ih g1 m v hm ho hdt hlow
    have hF1 : Rf g1 r R := hF.same ho (by omega)
    have hB1 : Rf g1 r2 B := hB.same ho (by omega)
    have hz := hF1.1
    have hz2 := hB1.1
    have hs2 : g1 (r2 + 4) = g (r2 + 4) := ho _ (by omega)
    refine ef_iload (pc := 5) d40_5 rfl ?_
    refine ef_aload_n (pc := 7) d40_7 rfl ?_
    refine eg_getI (pc := 8) d40_8 lf_3_24 (by assumption) (by decide) ?_
    rw [hz]
    refine ef_icmp_ge (pc := 11) d40_11 (t := 115) rfl (fun h11 => ?_) (fun h11 => ?_)
    · refine ef_vret (pc := 115) d40_115 rfl ?_
      refine ⟨_, rfl, rfl, ho, fun j e he => hdt j e ?_ he⟩
      have := (List.getElem?_eq_some_iff.mp he).1
      omega
    · obtain ⟨e, he, -⟩ := get_of_lt (L := R) (i := i) (by omega)
      have hv := hF1.2 i e he
      have inner : ∀ m2, m2 ≤ B.length → (∀ (k j : Nat) (b e : Rd), k < m2 → i ≤ j → B[k]? = some b → R[j]? = some e → lt2 b.2 e.2) → Ef P (d + 2) 40 14 [some (vR r), some (vR r2), some (vI st), some (vI (m2 : Int)), some (vI (i : Int)), v] [] (sI u g1) (fun x u' => ∃ g', u' = sI u g' ∧ x = .inl none ∧ Off (r + 4) (r + 5) g g' ∧ ∀ (j : Nat) (e : Rd), R[j]? = some e → Dt B (g (r2 + 4)) st e (g' (r + 4) j)) := by
        refine nat_loop B.length ?_
        intro m2 hm2 ih2 hlow2
        refine ef_iload_n (pc := 14) d40_14 rfl ?_
        refine ef_aload_n (pc := 15) d40_15 rfl ?_
        refine eg_getI (pc := 16) d40_16 lf_3_24 (by assumption) (by decide) ?_
        rw [hz2]
        refine ef_icmp_ge (pc := 19) d40_19 (t := 50) rfl (fun h19 => ?_) (fun h19 => ?_)
        · have hnone : ∀ (k : Nat) (b : Rd), B[k]? = some b → b.2 ≠ e.2 := fun k b hb => lt2_ne (hlow2 k i b e (by have := (List.getElem?_eq_some_iff.mp hb).1; omega) (Nat.le_refl _) hb he)
          refine ef_iload_n (pc := 50) d40_50 rfl ?_
          refine ef_aload_n (pc := 51) d40_51 rfl ?_
          refine eg_getI (pc := 52) d40_52 lf_3_24 (by assumption) (by decide) ?_
          rw [hz2]
          refine ef_icmp_geT (pc := 55) d40_55 (t := 84) rfl (by omega) ?_
          refine ef_iconst (pc := 84) d40_84 (by decide) ?_
          refine ef_istore (pc := 85) d40_85 (ls' := [_, _, _, _, _, _]) rfl ?_
          refine ef_aload_n (pc := 87) d40_87 rfl ?_
          refine eg_getR (pc := 88) d40_88 lf_3_21 (by assumption) (by decide) (by assumption) ?_
          refine ef_iload (pc := 91) d40_91 rfl ?_
          refine ef_iload (pc := 93) d40_93 rfl ?_
          refine ef_if_eqT (pc := 95) d40_95 (t := 107) rfl (rfl) ?_
          refine ef_iload_n (pc := 107) d40_107 rfl ?_
          refine eg_iast (pc := 108) d40_108 (by assumption) rfl (by omega) rfl ?_
          refine ef_iinc (pc := 109) d40_109 (ls' := [_, _, _, _, _, _]) (z := ((i + 1 : Nat) : Int)) rfl (by decide) (by omega) ⟨by omega, by omega⟩ rfl ?_
          refine ef_goto (pc := 112) d40_112 (t := 5) rfl ?_
          refine ih (by omega) _ _ _ hm2 (ho.up (by omega) (by omega)) ?_ ?_
          · intro j e2 hj he2
            by_cases hji : j = i
            · subst hji
              rw [he] at he2; cases he2
              rw [u2_at]
              exact ⟨fun k b hb hbe => absurd hbe (hnone k b hb), fun _ => rfl⟩
            · rw [u2_ni hji]; exact hdt j e2 (by omega) he2
          · exact fun k j b e2 hk hj hb he2 => hlow2 k j b e2 hk (by omega) hb he2
        · obtain ⟨bm, hbm0, -⟩ := get_of_lt (L := B) (i := m2) (by omega)
          refine ef_aload_n (pc := 22) d40_22 rfl ?_
          refine ef_iload_n (pc := 23) d40_23 rfl ?_
          refine ef_aload_n (pc := 24) d40_24 rfl ?_
          refine eg_getR (pc := 25) d40_25 lf_3_15 (by assumption) (by decide) (by assumption) ?_
          refine ef_iload (pc := 28) d40_28 rfl ?_
          refine eg_iald (pc := 30) d40_30 (by assumption) rfl (by omega) ?_
          rw [hv.2.1]
          refine ef_aload_n (pc := 31) d40_31 rfl ?_
          refine eg_getR (pc := 32) d40_32 lf_3_18 (by assumption) (by decide) (by assumption) ?_
          refine ef_iload (pc := 35) d40_35 rfl ?_
          refine eg_iald (pc := 37) d40_37 (by assumption) rfl (by omega) ?_
          rw [hv.2.2]
          refine ef_callV (pc := 38) d40_38 lm_3_79 (as := [_, _, _]) rfl rfl (by assumption) rfl rfl (by decide) (Nat.le_of_ble_eq_true rfl) rfl (Nat.le_of_ble_eq_true rfl) ?_
          refine Ec.imp (c41 hR2 hB1 hbm0 (by omega)) ?_
          rintro r38 u38 ⟨rfl, rfl⟩
          refine ef_if_ge (pc := 41) d40_41 (t := 50) rfl (fun h41 => ?_) (fun h41 => ?_)
          · have hge : ¬ lt2 bm.2 e.2 := fun hh => absurd (cm2_lt.mpr hh) (Int.not_lt.mpr h41)
            refine ef_iload_n (pc := 50) d40_50 rfl ?_
            refine ef_aload_n (pc := 51) d40_51 rfl ?_
            refine eg_getI (pc := 52) d40_52 lf_3_24 (by assumption) (by decide) ?_
            rw [hz2]
            refine ef_icmp_geF (pc := 55) d40_55 (t := 84) rfl (by omega) ?_
            refine ef_aload_n (pc := 58) d40_58 rfl ?_
            refine ef_iload_n (pc := 59) d40_59 rfl ?_
            refine ef_aload_n (pc := 60) d40_60 rfl ?_
            refine eg_getR (pc := 61) d40_61 lf_3_15 (by assumption) (by decide) (by assumption) ?_
            refine ef_iload (pc := 64) d40_64 rfl ?_
            refine eg_iald (pc := 66) d40_66 (by assumption) rfl (by omega) ?_
            rw [hv.2.1]
            refine ef_aload_n (pc := 67) d40_67 rfl ?_
            refine eg_getR (pc := 68) d40_68 lf_3_18 (by assumption) (by decide) (by assumption) ?_
            refine ef_iload (pc := 71) d40_71 rfl ?_
            refine eg_iald (pc := 73) d40_73 (by assumption) rfl (by omega) ?_
            rw [hv.2.2]
            refine ef_callV (pc := 74) d40_74 lm_3_79 (as := [_, _, _]) rfl rfl (by assumption) rfl rfl (by decide) (Nat.le_of_ble_eq_true rfl) rfl (Nat.le_of_ble_eq_true rfl) ?_
            refine Ec.imp (c41 hR2 hB1 hbm0 (by omega)) ?_
            rintro r74 u74 ⟨rfl, rfl⟩
            refine ef_if_ne (pc := 77) d40_77 (t := 84) rfl (fun h77 => ?_) (fun h77 => ?_)
            · have hne : bm.2 ≠ e.2 := fun hh => h77 (cm2_eq.mpr hh)
              have hgt := lt2_tri hge hne
              have hnone : ∀ (k : Nat) (b : Rd), B[k]? = some b → b.2 ≠ e.2 := fun k b hb => by
                rcases Nat.lt_trichotomy k m2 with h | h | h
                · exact lt2_ne (hlow2 k i b e h (Nat.le_refl _) hb he)
                · rw [h, hbm0] at hb; cases hb; exact hne
                · exact fun hh => lt2_ne (lt2_tr hgt (hsB m2 k bm b hbm0 hb h)) hh.symm
              refine ef_iconst (pc := 84) d40_84 (by decide) ?_
              refine ef_istore (pc := 85) d40_85 (ls' := [_, _, _, _, _, _]) rfl ?_
              refine ef_aload_n (pc := 87) d40_87 rfl ?_
              refine eg_getR (pc := 88) d40_88 lf_3_21 (by assumption) (by decide) (by assumption) ?_
              refine ef_iload (pc := 91) d40_91 rfl ?_
              refine ef_iload (pc := 93) d40_93 rfl ?_
              refine ef_if_eqT (pc := 95) d40_95 (t := 107) rfl (rfl) ?_
              refine ef_iload_n (pc := 107) d40_107 rfl ?_
              refine eg_iast (pc := 108) d40_108 (by assumption) rfl (by omega) rfl ?_
              refine ef_iinc (pc := 109) d40_109 (ls' := [_, _, _, _, _, _]) (z := ((i + 1 : Nat) : Int)) rfl (by decide) (by omega) ⟨by omega, by omega⟩ rfl ?_
              refine ef_goto (pc := 112) d40_112 (t := 5) rfl ?_
              refine ih (by omega) _ _ _ hm2 (ho.up (by omega) (by omega)) ?_ ?_
              · intro j e2 hj he2
                by_cases hji : j = i
                · subst hji
                  rw [he] at he2; cases he2
                  rw [u2_at]
                  exact ⟨fun k b hb hbe => absurd hbe (hnone k b hb), fun _ => rfl⟩
                · rw [u2_ni hji]; exact hdt j e2 (by omega) he2
              · exact fun k j b e2 hk hj hb he2 => hlow2 k j b e2 hk (by omega) hb he2
            · have hbm : bm.2 = e.2 := cm2_eq.mp h77
              refine ef_iconst (pc := 80) d40_80 (by decide) ?_
              refine ef_goto (pc := 81) d40_81 (t := 85) rfl ?_
              refine ef_istore (pc := 85) d40_85 (ls' := [_, _, _, _, _, _]) rfl ?_
              refine ef_aload_n (pc := 87) d40_87 rfl ?_
              refine eg_getR (pc := 88) d40_88 lf_3_21 (by assumption) (by decide) (by assumption) ?_
              refine ef_iload (pc := 91) d40_91 rfl ?_
              refine ef_iload (pc := 93) d40_93 rfl ?_
              refine ef_if_eqF (pc := 95) d40_95 (t := 107) rfl (by omega) ?_
              refine ef_aload_n (pc := 98) d40_98 rfl ?_
              refine eg_getR (pc := 99) d40_99 lf_3_21 (by assumption) (by decide) (by assumption) ?_
              refine ef_iload_n (pc := 102) d40_102 rfl ?_
              refine eg_iald (pc := 103) d40_103 (by assumption) rfl (by omega) ?_
              try simp (disch := omega) only [u2_ne, u2_at, u2_ni, ur_ne, ur_eq]
              refine ef_goto (pc := 104) d40_104 (t := 108) rfl ?_
              refine eg_iast (pc := 108) d40_108 (by assumption) rfl (by omega) rfl ?_
              refine ef_iinc (pc := 109) d40_109 (ls' := [_, _, _, _, _, _]) (z := ((i + 1 : Nat) : Int)) rfl (by decide) (by omega) ⟨by omega, by omega⟩ rfl ?_
              refine ef_goto (pc := 112) d40_112 (t := 5) rfl ?_
              refine ih (by omega) _ _ _ hm2 (ho.up (by omega) (by omega)) ?_ ?_
              · intro j e2 hj he2
                by_cases hji : j = i
                · subst hji
                  rw [he] at he2; cases he2
                  rw [u2_at]
                  rw [hs2]
                  refine ⟨fun k b hb hbe => ?_, fun hh => absurd hbm (hh m2 bm hbm0)⟩
                  have hkm : k = m2 := by
                    rcases Nat.lt_trichotomy k m2 with h | h | h
                    · exact absurd (hbe.trans hbm.symm) (lt2_ne (hsB k m2 b bm hb hbm0 h))
                    · exact h
                    · exact absurd (hbm.trans hbe.symm) (lt2_ne (hsB m2 k bm b hbm0 hb h))
                  rw [hkm]
                · rw [u2_ni hji]; exact hdt j e2 (by omega) he2
              · exact fun k j b e2 hk hj hb he2 => hlow2 k j b e2 hk (by omega) hb he2
          · have hlt := cm2_lt.mp h41
            refine ef_iinc (pc := 44) d40_44 (ls' := [_, _, _, _, _, _]) (z := ((m2 + 1 : Nat) : Int)) rfl (by decide) (by omega) ⟨by omega, by omega⟩ rfl ?_
            refine ef_goto (pc := 47) d40_47 (t := 14) rfl ?_
            refine ih2 (by omega) ?_
            intro k j b e2 hk hj hb he2
            by_cases hkm : k = m2
            · subst hkm
              rw [hbm0] at hb; cases hb
              by_cases hji : j = i
              · subst hji; rw [he] at he2; cases he2; exact hlt
              · exact lt2_tr hlt (hsR i j e e2 he he2 (by omega))
            · exact hlow2 k j b e2 (by omega) hj hb he2
      exact inner m hm hlow
  change Ef P _ 40 0 [some (vR r), some (vR r2), some (vI st), none, none, none] [] _ _
  refine ef_iconst (pc := 0) d40_0 (by decide) ?_
  refine ef_istore_n (pc := 1) d40_1 (ls' := [_, _, _, _, _, _]) rfl ?_
  refine ef_iconst (pc := 2) d40_2 (by decide) ?_
  refine ef_istore (pc := 3) d40_3 (ls' := [_, _, _, _, _, _]) rfl ?_
  exact loop 0 (by omega) g 0 _ (by omega) Off.refl (fun j e hj => absurd hj (by omega)) (fun k j b e hk => absurd hk (by omega))
