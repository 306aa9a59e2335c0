/-! States: begin, react, follow. Written by wip/whole/gen/c48.py. -/
theorem c47 {P : Pg} {u : Mm} {s tm n to dp dd : Nat} {kd nm en : Nat → Int} {pl mn : Int} {A : SS} {g : Nat → Nat → Int} (hA : StA u s) (hTm : TmA u tm) (hdj : tm + 6 ≤ s ∨ s + 21 ≤ tm) (hch : ∀ n, 0 ≤ nm n ∧ nm n < 65536) (hto : to ≤ 50) (hdp : dp + dd = 8) (h1 : 1 ≤ dp) (hS : SR g s A) (h0 : 0 ≤ A.2.2.2.1) (hb2 : A.2.2.2.1 ≤ 2147482000) (hnt : n ≤ to) (hcl : Cl (afF en) n to) (hkd : g (tm + 1) = kd) (hnm : g (tm + 2) = nm) (hen : g (tm + 4) = en) :
    Ec P (dd + 3) 47 [vR s, vR tm, vI (n : Int), vI (to : Int), vI pl, vI mn, vI (dp : Int)] (sI u g) (fun x u' => ∃ g', u' = sI u g' ∧ x = .inl none ∧ Off s (s + 19) g g' ∧ SR g' s (runF kd nm (afF en) 50 n to pl mn dp A)) := by
  change Ef P _ 47 0 [some (vR s), some (vR tm), some (vI (n : Int)), some (vI (to : Int)), some (vI pl), some (vI mn), some (vI (dp : Int)), none, none, none] [] _ _
  refine ef_iload (pc := 0) d47_0 rfl ?_
  refine ef_bipush (pc := 2) d47_2 (by decide) ?_
  refine ef_icmp_leT (pc := 4) d47_4 (t := 13) rfl (by omega) ?_
  refine ef_iload_n (pc := 13) d47_13 rfl ?_
  refine ef_istore (pc := 14) d47_14 (ls' := [_, _, _, _, _, _, _, _, _, _]) rfl ?_
  exact run_ok hA hTm hdj hch 50 n to pl mn dp dd A g _ _ _ (by omega) hto hdp h1 hS h0 (by omega) (by omega) hnt hcl hkd hnm hen
/-- a term's rows: how many nodes, and each ends in what is around it -/
def TV (en : Nat → Int) (sz : Nat) : Prop := sz ≤ 50 ∧ Cl (afF en) 0 sz
def begF (kd nm en : Nat → Int) (sz : Nat) : SS := runF kd nm (afF en) 50 0 sz (-1) 0 1 ([], ([], ([], (0, false))))
theorem c46 {P : Pg} {d : Nat} {u : Mm} {s tm sz : Nat} {kd nm en : Nat → Int} {g : Nat → Nat → Int} (hA : StA u s) (hTm : TmA u tm) (hdj : tm + 6 ≤ s ∨ s + 21 ≤ tm) (hch : ∀ n, 0 ≤ nm n ∧ nm n < 65536) (hv : TV en sz) (hsz : g tm 4 = (sz : Int)) (hkd : g (tm + 1) = kd) (hnm : g (tm + 2) = nm) (hen : g (tm + 4) = en) :
    Ec P (d + 11) 46 [vR s, vR tm] (sI u g) (fun x u' => ∃ g', u' = sI u g' ∧ x = .inl (some (vI (b01 (!(begF kd nm en sz).2.2.2.2)))) ∧ Off s (s + 21) g g' ∧ SR g' s (begF kd nm en sz)) := by
  obtain ⟨q0, q1, q2, q3, q4, hP, hG, hM, hL⟩ := id hA
  obtain ⟨a0, a1, a2, a3, a4, a5, a6, a7, a8, a9, a10⟩ := id hP
  obtain ⟨b0, b1, b2, b3, b4, b5, b6, b7, b8, b9, b10⟩ := id hG
  obtain ⟨c0, c1, c2, c3, c4, c5, c6, c7', c8', c9, c10⟩ := id hM
  obtain ⟨l0, l1, l2⟩ := id hL
  obtain ⟨k0, k1, k2, k3, k4, k5, k6, k7, k8, k9, k10⟩ := id hTm
  change Ef P _ 46 0 [some (vR s), some (vR tm)] [] _ _
  refine ef_aload_n (pc := 0) d46_0 rfl ?_
  refine ef_callV (pc := 1) d46_1 lm_4_59 (as := []) rfl rfl (by assumption) rfl rfl (by decide) (Nat.le_of_ble_eq_true rfl) rfl (Nat.le_of_ble_eq_true rfl) ?_
  refine Ec.imp (c45 hA) ?_
  rintro r1 u1 ⟨g1, rfl, rfl, o1, ⟨e1, e2, e3, e4⟩, e5, -⟩
  have hS : SR g1 s ([], ([], ([], (0, false)))) := ⟨e1, e2, e3, e4, e5, Nat.zero_le _, Nat.zero_le _, Nat.zero_le _⟩
  have hsz1 : g1 tm 4 = (sz : Int) := by rw [o1 tm (by omega)]; exact hsz
  refine ef_aload_n (pc := 4) d46_4 rfl ?_
  refine ef_aload_n (pc := 5) d46_5 rfl ?_
  refine ef_iconst (pc := 6) d46_6 (by decide) ?_
  refine ef_aload_n (pc := 7) d46_7 rfl ?_
  refine eg_getI (pc := 8) d46_8 lf_4_62 (by assumption) (by decide) ?_
  try simp (disch := omega) only [u2_ne, u2_at, u2_ni, ur_ne, ur_eq]
  rw [hsz1]
  refine ef_iconst (pc := 11) d46_11 (by decide) ?_
  refine ef_iconst (pc := 12) d46_12 (by decide) ?_
  refine ef_iconst (pc := 13) d46_13 (by decide) ?_
  refine ef_callV (pc := 14) d46_14 lm_4_65 (as := [_, _, _, _, _, _]) rfl rfl (by assumption) rfl rfl (by decide) (Nat.le_of_ble_eq_true rfl) rfl (Nat.le_of_ble_eq_true rfl) ?_
  refine Ec.imp (Ec.deep (by omega) (c47 (n := 0) (to := sz) (dp := 1) (dd := 7) hA hTm hdj hch hv.1 (by omega) (by omega) hS (by decide) (by decide) (by omega) hv.2 ((o1 _ (by omega)).trans hkd) ((o1 _ (by omega)).trans hnm) ((o1 _ (by omega)).trans hen))) ?_
  rintro r14 u14 ⟨g2, rfl, rfl, o2, t2⟩
  have t2 : SR g2 s (begF kd nm en sz) := t2
  have hfu := t2.2.2.2.2.1
  refine ef_aload_n (pc := 17) d46_17 rfl ?_
  refine eg_getZ (pc := 18) d46_18 lf_4_40 (by assumption) (by decide) ?_
  try simp (disch := omega) only [u2_ne, u2_at, u2_ni, ur_ne, ur_eq]
  rw [hfu]
  refine ef_if_ne (pc := 21) d46_21 (t := 28) rfl (fun h21 => ?_) (fun h21 => ?_)
  · have hq : (begF kd nm en sz).2.2.2.2 = true := by
      cases hq : (begF kd nm en sz).2.2.2.2
      · rw [hq] at h21; exact absurd rfl h21
      · rfl
    rw [hq]
    refine ef_iconst (pc := 28) d46_28 (by decide) ?_
    refine ef_zret (pc := 29) d46_29 rfl (by omega) ?_
    exact ⟨_, rfl, rfl, o1.trans (o2.wide (by omega) (by omega)), t2⟩
  · have hq : (begF kd nm en sz).2.2.2.2 = false := by
      cases hq : (begF kd nm en sz).2.2.2.2
      · rfl
      · rw [hq] at h21; exact absurd h21 (by decide)
    rw [hq]
    refine ef_iconst (pc := 24) d46_24 (by decide) ?_
    refine ef_goto (pc := 25) d46_25 (t := 29) rfl ?_
    refine ef_zret (pc := 29) d46_29 rfl (by omega) ?_
    exact ⟨_, rfl, rfl, o1.trans (o2.wide (by omega) (by omega)), t2⟩
/-- what taking a redex makes: e the guard, at k; x the other's number -/
def rea1 (rp : Nat → Int) (k : Nat) (e : Tg) (A : SS) : SS := if rp e.2.2.2.1.toNat ≠ 0 then A else (A.1, (A.2.1.eraseIdx k, A.2.2))
def rea2 (kd : Nat → Int) (e : Tg) (x : Int) (A : SS) : SS := if kd e.2.2.2.1.toNat = 0 then (setIn A.1 e.2.1 x, A.2) else if kd e.2.2.2.1.toNat = 1 then (setIn A.1 e.2.1 (plN A.1 x), A.2)
  else if kd e.2.2.2.1.toNat = 2 then ((delN A.1 x).map (mvF x e.2.1), (A.2.1.map (mvF x e.2.1), (A.2.2.1.map (mvF x e.2.1), A.2.2.2))) else (A.1, (A.2.1, (delN A.2.2.1 x, A.2.2.2)))
def reaM (kd nm : Nat → Int) (e : Tg) (x : Int) (A : SS) : Int := if kd e.2.2.2.1.toNat = 0 ∨ kd e.2.2.2.1.toNat = 1 ∨ kd e.2.2.2.1.toNat = 2 then e.2.2.2.2 else bdF (nm e.2.2.2.1.toNat) (naN A.2.2.1 x) e.2.2.2.2
def reaF (kd nm rp en : Nat → Int) (k : Nat) (e : Tg) (x : Int) (A : SS) : SS := runF kd nm (afF en) 50 (e.2.2.2.1.toNat + 1) (afF en e.2.2.2.1.toNat) e.2.1 (reaM kd nm e x (rea1 rp k e A)) 1 (rea2 kd e x (rea1 rp k e A))
theorem rea1_nx {rp : Nat → Int} {k : Nat} {e : Tg} {A : SS} : (rea1 rp k e A).2.2.2 = A.2.2.2 := by unfold rea1; split <;> rfl
theorem rea2_nx {kd : Nat → Int} {e : Tg} {x : Int} {A : SS} : (rea2 kd e x A).2.2.2 = A.2.2.2 := by
  unfold rea2
  split
  · rfl
  · split
    · rfl
    · split <;> rfl
theorem c51 {P : Pg} {d : Nat} {u : Mm} {s tm sz k : Nat} {kd nm rp en : Nat → Int} {A : SS} {e : Tg} {x : Int} {g : Nat → Nat → Int} (hA : StA u s) (hTm : TmA u tm) (hdj : tm + 6 ≤ s ∨ s + 21 ≤ tm) (hch : ∀ n, 0 ≤ nm n ∧ nm n < 65536) (hv : TV en sz) (hS : SR g s A) (he : A.2.1[k]? = some e) (hn0 : 0 ≤ e.2.2.2.1) (hn1 : e.2.2.2.1 < (sz : Int)) (h0 : 0 ≤ A.2.2.2.1) (hb2 : A.2.2.2.1 ≤ 2147482000) (hna : -1 ≤ naN A.2.2.1 x ∧ naN A.2.2.1 x ≤ 100) (hkd : g (tm + 1) = kd) (hnm : g (tm + 2) = nm) (hrp : g (tm + 3) = rp) (hen : g (tm + 4) = en) :
    Ec P (d + 11) 51 [vR s, vR tm, vI (k : Int), vI x] (sI u g) (fun y u' => ∃ g', u' = sI u g' ∧ y = .inl none ∧ Off s (s + 19) g g' ∧ SR g' s (reaF kd nm rp en k e x A)) := by
  obtain ⟨q0, q1, q2, q3, q4, hP, hG, hM, hL⟩ := id hA
  obtain ⟨a0, a1, a2, a3, a4, a5, a6, a7, a8, a9, a10⟩ := id hP
  obtain ⟨b0, b1, b2, b3, b4, b5, b6, b7, b8, b9, b10⟩ := id hG
  obtain ⟨c0, c1, c2, c3, c4, c5, c6, c7', c8', c9, c10⟩ := id hM
  obtain ⟨l0, l1, l2⟩ := id hL
  obtain ⟨k0, k1, k2, k3, k4, k5, k6, k7, k8, k9, k10⟩ := id hTm
  obtain ⟨hs50, hcl⟩ := hv
  have hge := hS.2.1.2 k e he
  have hki := (List.getElem?_eq_some_iff.mp he).1
  have hln := hS.len
  have hal := hcl e.2.2.2.1.toNat (by omega) (by omega)
  have last : ∀ g2, Off s (s + 19) g g2 → SR g2 s (rea2 kd e x (rea1 rp k e A)) → Ef P (d + 11) 51 141 [some (vR s), some (vR tm), some (vI (k : Int)), some (vI x), some (vI e.2.2.2.1), some (vI e.2.1), some (vI (reaM kd nm e x (rea1 rp k e A)))] [] (sI u g2) (fun y u' => ∃ g', u' = sI u g' ∧ y = .inl none ∧ Off s (s + 19) g g' ∧ SR g' s (reaF kd nm rp en k e x A)) := by
    intro g2 ho hC
    have hnx : (rea2 kd e x (rea1 rp k e A)).2.2.2.1 = A.2.2.2.1 := by rw [rea2_nx, rea1_nx]
    refine ef_aload_n (pc := 141) d51_141 rfl ?_
    refine ef_aload_n (pc := 142) d51_142 rfl ?_
    refine ef_iload (pc := 143) d51_143 rfl ?_
    refine ef_iconst (pc := 145) d51_145 (by decide) ?_
    refine ef_iadd (pc := 146) d51_146 (z := ((e.2.2.2.1.toNat + 1 : Nat) : Int)) (by omega) ⟨by omega, by omega⟩ ?_
    refine ef_aload_n (pc := 147) d51_147 rfl ?_
    refine ef_iload (pc := 148) d51_148 rfl ?_
    refine ef_callV (pc := 150) d51_150 lm_4_128 (as := [_]) rfl rfl (by assumption) rfl rfl (by decide) (Nat.le_of_ble_eq_true rfl) rfl (Nat.le_of_ble_eq_true rfl) ?_
    refine Ec.imp ((show Ec P (d + 10) 82 [vR tm, vI e.2.2.2.1] (sI u g2) (fun r u' => u' = sI u g2 ∧ r = .inl (some (vI ((afF en e.2.2.2.1.toNat : Nat) : Int)))) by
          have hw := c82 (P := P) (d := d + 9) (n := e.2.2.2.1.toNat) hTm (by omega) ((ho _ (by omega)).trans hen)
          rw [show ((e.2.2.2.1.toNat : Nat) : Int) = e.2.2.2.1 by omega] at hw
          exact hw)) ?_
    rintro r150 u150 ⟨rfl, rfl⟩
    refine ef_iload (pc := 153) d51_153 rfl ?_
    refine ef_iload (pc := 155) d51_155 rfl ?_
    refine ef_iconst (pc := 157) d51_157 (by decide) ?_
    refine ef_callV (pc := 158) d51_158 lm_4_65 (as := [_, _, _, _, _, _]) rfl rfl (by assumption) rfl rfl (by decide) (Nat.le_of_ble_eq_true rfl) rfl (Nat.le_of_ble_eq_true rfl) ?_
    refine Ec.imp (Ec.deep (by omega) (c47 (n := e.2.2.2.1.toNat + 1) (to := afF en e.2.2.2.1.toNat) (dp := 1) (dd := 7) hA hTm hdj hch (by omega) (by omega) (by omega) hC (by omega) (by omega) (by omega) (hcl.inn (by omega) (by omega)) ((ho _ (by omega)).trans hkd) ((ho _ (by omega)).trans hnm) ((ho _ (by omega)).trans hen))) ?_
    rintro r158 u158 ⟨g3, rfl, rfl, o3, t3⟩
    refine ef_vret (pc := 161) d51_161 rfl ?_
    exact ⟨_, rfl, rfl, ho.trans o3, t3⟩
  have mid : ∀ g1 A1, rea1 rp k e A = A1 → Off s (s + 19) g g1 → SR g1 s A1 → Ef P (d + 11) 51 56 [some (vR s), some (vR tm), some (vI (k : Int)), some (vI x), some (vI e.2.2.2.1), some (vI e.2.1), some (vI e.2.2.2.2)] [] (sI u g1) (fun y u' => ∃ g', u' = sI u g' ∧ y = .inl none ∧ Off s (s + 19) g g' ∧ SR g' s (reaF kd nm rp en k e x A)) := by
    intro g1 A1 hA1 ho hS1
    have hk1 : g1 (tm + 1) = kd := (ho _ (by omega)).trans hkd
    have hn1' : g1 (tm + 2) = nm := (ho _ (by omega)).trans hnm
    have hln1 := hS1.len
    have hms : A1.2.2.1 = A.2.2.1 := by rw [← hA1, rea1]; split <;> rfl
    rw [hA1] at last
    refine ef_aload_n (pc := 56) d51_56 rfl ?_
    refine eg_getR (pc := 57) d51_57 lf_4_105 (by assumption) (by decide) (by assumption) ?_
    refine ef_iload (pc := 60) d51_60 rfl ?_
    refine eg_iald (pc := 62) d51_62 (i := e.2.2.2.1.toNat) (by assumption) (by omega) (by omega) ?_
    rw [hk1]
    by_cases h0 : kd e.2.2.2.1.toNat = 0
    · rw [show rea2 kd e x A1 = (setIn A1.1 e.2.1 x, A1.2) by rw [rea2, if_pos h0], show reaM kd nm e x A1 = e.2.2.2.2 by rw [reaM, if_pos (Or.inl h0)]] at last
      rw [h0]
      refine ef_table (pc := 63) d51_63 (off := 25) (by decide) (t := 88) rfl ?_
      refine ef_aload_n (pc := 88) d51_88 rfl ?_
      refine ef_iload (pc := 89) d51_89 rfl ?_
      refine ef_iload_n (pc := 91) d51_91 rfl ?_
      refine ef_callV (pc := 92) d51_92 lm_4_108 (as := [_, _]) rfl rfl (by assumption) rfl rfl (by decide) (Nat.le_of_ble_eq_true rfl) rfl (Nat.le_of_ble_eq_true rfl) ?_
      refine Ec.imp (c52 (gs := []) (ms := []) hA hS1.1 hln1.1) ?_
      rintro r92 u92 ⟨g2, rfl, rfl, o2, t2⟩
      refine ef_goto (pc := 95) d51_95 (t := 141) rfl ?_
      refine last _ (ho.trans (o2.wide (by omega) (by omega))) ⟨t2, hS1.2.1.same o2 (by omega), hS1.2.2.1.same o2 (by omega), by rw [o2 s (by omega)]; exact hS1.2.2.2.1, by rw [o2 s (by omega)]; exact hS1.2.2.2.2.1, by rw [set_len]; exact hln1.1, hln1.2.1, hln1.2.2⟩
    by_cases h1 : kd e.2.2.2.1.toNat = 1
    · rw [show rea2 kd e x A1 = (setIn A1.1 e.2.1 (plN A1.1 x), A1.2) by rw [rea2, if_neg h0, if_pos h1], show reaM kd nm e x A1 = e.2.2.2.2 by rw [reaM, if_pos (Or.inr (Or.inl h1))]] at last
      rw [h1]
      refine ef_table (pc := 63) d51_63 (off := 35) (by decide) (t := 98) rfl ?_
      refine ef_aload_n (pc := 98) d51_98 rfl ?_
      refine ef_iload (pc := 99) d51_99 rfl ?_
      refine ef_aload_n (pc := 101) d51_101 rfl ?_
      refine ef_iload_n (pc := 102) d51_102 rfl ?_
      refine ef_callV (pc := 103) d51_103 lm_4_112 (as := [_]) rfl rfl (by assumption) rfl rfl (by decide) (Nat.le_of_ble_eq_true rfl) rfl (Nat.le_of_ble_eq_true rfl) ?_
      refine Ec.imp (c53 (gs := []) (ms := []) hA hS1.1 hln1.1) ?_
      rintro r103 u103 ⟨rfl, rfl⟩
      refine ef_callV (pc := 106) d51_106 lm_4_108 (as := [_, _]) rfl rfl (by assumption) rfl rfl (by decide) (Nat.le_of_ble_eq_true rfl) rfl (Nat.le_of_ble_eq_true rfl) ?_
      refine Ec.imp (c52 (gs := []) (ms := []) hA hS1.1 hln1.1) ?_
      rintro r106 u106 ⟨g2, rfl, rfl, o2, t2⟩
      refine ef_goto (pc := 109) d51_109 (t := 141) rfl ?_
      refine last _ (ho.trans (o2.wide (by omega) (by omega))) ⟨t2, hS1.2.1.same o2 (by omega), hS1.2.2.1.same o2 (by omega), by rw [o2 s (by omega)]; exact hS1.2.2.2.1, by rw [o2 s (by omega)]; exact hS1.2.2.2.2.1, by rw [set_len]; exact hln1.1, hln1.2.1, hln1.2.2⟩
    by_cases h2 : kd e.2.2.2.1.toNat = 2
    · rw [show rea2 kd e x A1 = ((delN A1.1 x).map (mvF x e.2.1), (A1.2.1.map (mvF x e.2.1), (A1.2.2.1.map (mvF x e.2.1), A1.2.2.2))) by rw [rea2, if_neg h0, if_neg h1, if_pos h2], show reaM kd nm e x A1 = e.2.2.2.2 by rw [reaM, if_pos (Or.inr (Or.inr h2))]] at last
      rw [h2]
      refine ef_table (pc := 63) d51_63 (off := 49) (by decide) (t := 112) rfl ?_
      have hdl := del_len (L := A1.1) (w := x)
      refine ef_aload_n (pc := 112) d51_112 rfl ?_
      refine ef_iload_n (pc := 113) d51_113 rfl ?_
      refine ef_iload (pc := 114) d51_114 rfl ?_
      refine ef_callV (pc := 116) d51_116 lm_4_115 (as := [_, _]) rfl rfl (by assumption) rfl rfl (by decide) (Nat.le_of_ble_eq_true rfl) rfl (Nat.le_of_ble_eq_true rfl) ?_
      refine Ec.imp (c54 hA hS1.1 hS1.2.1 hS1.2.2.1 hln1.1 hln1.2.1 hln1.2.2) ?_
      rintro r116 u116 ⟨g2, rfl, rfl, o2, t2, t3, t4⟩
      refine ef_goto (pc := 119) d51_119 (t := 141) rfl ?_
      refine last _ (ho.trans (o2.wide (by omega) (by omega))) ⟨t2, t3, t4, by rw [o2 s (by omega)]; exact hS1.2.2.2.1, by rw [o2 s (by omega)]; exact hS1.2.2.2.2.1, by rw [List.length_map]; omega, by rw [List.length_map]; exact hln1.2.1, by rw [List.length_map]; exact hln1.2.2⟩
    rw [show rea2 kd e x A1 = (A1.1, (A1.2.1, (delN A1.2.2.1 x, A1.2.2.2))) by rw [rea2, if_neg h0, if_neg h1, if_neg h2], show reaM kd nm e x A1 = bdF (nm e.2.2.2.1.toNat) (naN A1.2.2.1 x) e.2.2.2.2 by rw [reaM, if_neg (by omega)]] at last
    refine ef_table (pc := 63) d51_63 (off := 59) (by rw [tsw, if_pos (by omega)]) (t := 122) rfl ?_
    have hdl := del_len (L := A1.2.2.1) (w := x)
    rw [← hms] at hna
    have hchn := hch e.2.2.2.1.toNat
    refine ef_aload_n (pc := 122) d51_122 rfl ?_
    refine eg_getR (pc := 123) d51_123 lf_4_118 (by assumption) (by decide) (by assumption) ?_
    refine ef_iload (pc := 126) d51_126 rfl ?_
    refine eg_cald (pc := 128) d51_128 (i := e.2.2.2.1.toNat) (by assumption) (by omega) (by omega) ?_
    try simp (disch := omega) only [u2_ne, u2_at, u2_ni, ur_ne, ur_eq]
    rw [hn1']
    refine ef_aload_n (pc := 129) d51_129 rfl ?_
    refine ef_iload_n (pc := 130) d51_130 rfl ?_
    refine ef_callV (pc := 131) d51_131 lm_4_121 (as := [_]) rfl rfl (by assumption) rfl rfl (by decide) (Nat.le_of_ble_eq_true rfl) rfl (Nat.le_of_ble_eq_true rfl) ?_
    refine Ec.imp (c55 (ps := []) (gs := []) hA hS1.2.2.1 hln1.2.2) ?_
    rintro r131 u131 ⟨g2, rfl, rfl, o2, t2⟩
    refine ef_iload (pc := 134) d51_134 rfl ?_
    refine ef_callS (pc := 136) d51_136 lm_4_124 (as := [_, _, _]) rfl rfl rfl (Nat.le_of_ble_eq_true rfl) rfl (Nat.le_of_ble_eq_true rfl) ?_
    refine Ec.imp (c8 hchn.1 hchn.2 hna.1 hna.2) ?_
    rintro r136 u136 ⟨rfl, rfl⟩
    refine ef_istore (pc := 139) d51_139 (ls' := [_, _, _, _, _, _, _]) rfl ?_
    refine last _ (ho.trans (o2.wide (by omega) (by omega))) ⟨hS1.1.same o2 (by omega), hS1.2.1.same o2 (by omega), t2, by rw [o2 s (by omega)]; exact hS1.2.2.2.1, by rw [o2 s (by omega)]; exact hS1.2.2.2.2.1, hln1.1, hln1.2.1, Nat.le_trans hdl hln1.2.2⟩
  change Ef P _ 51 0 [some (vR s), some (vR tm), some (vI (k : Int)), some (vI x), none, none, none] [] _ _
  refine ef_iload_n (pc := 0) d51_0 rfl ?_
  refine ef_if_geT (pc := 1) d51_1 (t := 5) rfl (by omega) ?_
  refine ef_aload_n (pc := 5) d51_5 rfl ?_
  refine eg_getR (pc := 6) d51_6 lf_4_20 (by assumption) (by decide) (by assumption) ?_
  refine eg_getR (pc := 9) d51_9 lf_4_89 (by assumption) (by decide) (by assumption) ?_
  refine ef_iload_n (pc := 12) d51_12 rfl ?_
  refine eg_iald (pc := 13) d51_13 (by assumption) rfl (by omega) ?_
  rw [hge.2.2.2.1]
  refine ef_istore (pc := 14) d51_14 (ls' := [_, _, _, _, _, _, _]) rfl ?_
  refine ef_aload_n (pc := 16) d51_16 rfl ?_
  refine eg_getR (pc := 17) d51_17 lf_4_20 (by assumption) (by decide) (by assumption) ?_
  refine eg_getR (pc := 20) d51_20 lf_4_92 (by assumption) (by decide) (by assumption) ?_
  refine ef_iload_n (pc := 23) d51_23 rfl ?_
  refine eg_iald (pc := 24) d51_24 (by assumption) rfl (by omega) ?_
  rw [hge.2.1]
  refine ef_istore (pc := 25) d51_25 (ls' := [_, _, _, _, _, _, _]) rfl ?_
  refine ef_aload_n (pc := 27) d51_27 rfl ?_
  refine eg_getR (pc := 28) d51_28 lf_4_20 (by assumption) (by decide) (by assumption) ?_
  refine eg_getR (pc := 31) d51_31 lf_4_95 (by assumption) (by decide) (by assumption) ?_
  refine ef_iload_n (pc := 34) d51_34 rfl ?_
  refine eg_iald (pc := 35) d51_35 (by assumption) rfl (by omega) ?_
  rw [hge.2.2.2.2]
  refine ef_istore (pc := 36) d51_36 (ls' := [_, _, _, _, _, _, _]) rfl ?_
  refine ef_aload_n (pc := 38) d51_38 rfl ?_
  refine eg_getR (pc := 39) d51_39 lf_4_98 (by assumption) (by decide) (by assumption) ?_
  refine ef_iload (pc := 42) d51_42 rfl ?_
  refine eg_bald (pc := 44) d51_44 (i := e.2.2.2.1.toNat) (by assumption) (by omega) (by omega) ?_
  rw [hrp]
  refine ef_if_ne (pc := 45) d51_45 (t := 56) rfl (fun h45 => ?_) (fun h45 => ?_)
  · exact mid g A (by rw [rea1, if_pos h45]) Off.refl hS
  · refine ef_aload_n (pc := 48) d51_48 rfl ?_
    refine eg_getR (pc := 49) d51_49 lf_4_20 (by assumption) (by decide) (by assumption) ?_
    refine ef_iload_n (pc := 52) d51_52 rfl ?_
    refine ef_callV (pc := 53) d51_53 lm_4_102 (as := [_]) rfl rfl (by assumption) rfl rfl (by decide) (Nat.le_of_ble_eq_true rfl) rfl (Nat.le_of_ble_eq_true rfl) ?_
    refine Ec.imp (c87 (by assumption) hS.2.1 (by omega) (by decide) (by omega)) ?_
    rintro r53 u53 ⟨g1, rfl, rfl, o1, t1, -⟩
    refine mid g1 (A.1, (A.2.1.eraseIdx k, A.2.2)) (by rw [rea1, if_neg (fun hh => hh h45)]) (o1.wide (by omega) (by omega)) ⟨hS.1.same o1 (by omega), t1 k rfl hki, hS.2.2.1.same o1 (by omega), by rw [o1 s (by omega)]; exact hS.2.2.2.1, by rw [o1 s (by omega)]; exact hS.2.2.2.2.1, hln.1, ?_, hln.2.2⟩
    rw [List.length_eraseIdx]
    split <;> omega
def folF (kd nm rp en : Nat → Int) (w : Rd) (A : SS) : SS := match getN A.2.1 w.2.1 with
  | none => A
  | some e => reaF kd nm rp en (ixF A.2.1 w.2.1 0).toNat e w.2.2 A
theorem c49 {P : Pg} {d : Nat} {u : Mm} {s s2 r tm sz k : Nat} {kd nm rp en : Nat → Int} {A : SS} {R : List Rd} {w : Rd} {e : Tg} {T : List Int} {g : Nat → Nat → Int} (hA : StA u s) (hB : StA u s2) (hR : RxA u r) (hTm : TmA u tm) (hdj : tm + 6 ≤ s ∨ s + 21 ≤ tm) (hd : s + 21 ≤ s2 ∨ s2 + 21 ≤ s) (hd3 : r + 5 ≤ s ∨ s + 21 ≤ r) (hch : ∀ n, 0 ≤ nm n ∧ nm n < 65536) (hv : TV en sz) (hS : SR g s2 A) (hfal : A.2.2.2.2 = false) (hT : Ln g (s2 + 19) T) (hl4 : T.length ≤ 240) (hF : Rf g r R) (hRl : R.length ≤ 1200) (hw : R[k]? = some w) (hg : getN A.2.1 w.2.1 = some e) (hn0 : 0 ≤ e.2.2.2.1) (hn1 : e.2.2.2.1 < (sz : Int)) (h0 : 0 ≤ A.2.2.2.1) (hb2 : A.2.2.2.1 ≤ 2147482000) (hna : -1 ≤ naN A.2.2.1 w.2.2 ∧ naN A.2.2.1 w.2.2 ≤ 100) (hkd : g (tm + 1) = kd) (hnm : g (tm + 2) = nm) (hrp : g (tm + 3) = rp) (hen : g (tm + 4) = en) :
    Ec P (d + 12) 49 [vR s, vR s2, vR r, vI (k : Int), vR tm] (sI u g) (fun y u' => ∃ g', u' = sI u g' ∧ y = .inl (some (vI (b01 (!(folF kd nm rp en w A).2.2.2.2)))) ∧ Off s (s + 21) g g' ∧ SR g' s (folF kd nm rp en w A)) := by
  obtain ⟨q0, q1, q2, q3, q4, hP, hG, hM, hL⟩ := id hA
  obtain ⟨a0, a1, a2, a3, a4, a5, a6, a7, a8, a9, a10⟩ := id hP
  obtain ⟨b0, b1, b2, b3, b4, b5, b6, b7, b8, b9, b10⟩ := id hG
  obtain ⟨c0, c1, c2, c3, c4, c5, c6, c7', c8', c9, c10⟩ := id hM
  obtain ⟨l0, l1, l2⟩ := id hL
  obtain ⟨k0, k1, k2, k3, k4, k5, k6, k7, k8, k9, k10⟩ := id hTm
  obtain ⟨y0, y1, y2, y3, y4, y5, y6, y7, y8⟩ := id hR
  have hln := hS.len
  have hki := (List.getElem?_eq_some_iff.mp hw).1
  have hfo : folF kd nm rp en w A = reaF kd nm rp en (ixF A.2.1 w.2.1 0).toNat e w.2.2 A := by unfold folF; rw [hg]
  change Ef P _ 49 0 [some (vR s), some (vR s2), some (vR r), some (vI (k : Int)), some (vR tm)] [] _ _
  refine ef_aload_n (pc := 0) d49_0 rfl ?_
  refine ef_aload_n (pc := 1) d49_1 rfl ?_
  refine ef_callV (pc := 2) d49_2 lm_4_69 (as := [_]) rfl rfl (by assumption) rfl rfl (by decide) (Nat.le_of_ble_eq_true rfl) rfl (Nat.le_of_ble_eq_true rfl) ?_
  refine Ec.imp (Ec.deep (by omega) (c50 (d := 0) hA hB ⟨hS.1, hS.2.1, hS.2.2.1, hS.2.2.2.1⟩ hT hln.1 hln.2.1 hln.2.2 hl4 hd)) ?_
  rintro r2 u2 ⟨g1, rfl, rfl, o1, ⟨e1, e2, e3, e4⟩, e5, -⟩
  have hS1 : SR g1 s A := ⟨e1, e2, e3, e4, by rw [e5, hfal]; rfl, hln.1, hln.2.1, hln.2.2⟩
  have hF1 := (hF.same o1 (by omega)).2 k w hw
  refine ef_aload_n (pc := 5) d49_5 rfl ?_
  refine ef_aload (pc := 6) d49_6 rfl ?_
  refine ef_aload_n (pc := 8) d49_8 rfl ?_
  refine eg_getR (pc := 9) d49_9 lf_4_20 (by assumption) (by decide) (by assumption) ?_
  refine ef_aload_n (pc := 12) d49_12 rfl ?_
  refine eg_getR (pc := 13) d49_13 lf_4_72 (by assumption) (by decide) (by assumption) ?_
  refine ef_iload_n (pc := 16) d49_16 rfl ?_
  refine eg_iald (pc := 17) d49_17 (by assumption) rfl (by omega) ?_
  try simp (disch := omega) only [u2_ne, u2_at, u2_ni, ur_ne, ur_eq]
  rw [hF1.2.1]
  refine ef_callV (pc := 18) d49_18 lm_4_78 (as := [_]) rfl rfl (by assumption) rfl rfl (by decide) (Nat.le_of_ble_eq_true rfl) rfl (Nat.le_of_ble_eq_true rfl) ?_
  refine Ec.imp (c85 (by assumption) e2 (by omega) (by decide)) ?_
  rintro r18 u18 ⟨rfl, rfl⟩
  refine ef_aload_n (pc := 21) d49_21 rfl ?_
  refine eg_getR (pc := 22) d49_22 lf_4_82 (by assumption) (by decide) (by assumption) ?_
  refine ef_iload_n (pc := 25) d49_25 rfl ?_
  refine eg_iald (pc := 26) d49_26 (by assumption) rfl (by omega) ?_
  try simp (disch := omega) only [u2_ne, u2_at, u2_ni, ur_ne, ur_eq]
  rw [hF1.2.2]
  refine ef_callV (pc := 27) d49_27 lm_4_85 (as := [_, _, _]) rfl rfl (by assumption) rfl rfl (by decide) (Nat.le_of_ble_eq_true rfl) rfl (Nat.le_of_ble_eq_true rfl) ?_
  refine Ec.imp ((show Ec P (d + 11) 51 [vR s, vR tm, vI (ixF A.2.1 w.2.1 0), vI w.2.2] (sI u g1) (fun y u' => ∃ g', u' = sI u g' ∧ y = .inl none ∧ Off s (s + 19) g1 g' ∧ SR g' s (folF kd nm rp en w A)) by
      rcases ix_spec w.2.1 A.2.1 0 with ⟨x1, x2, x3, x4⟩ | ⟨i, e', x1, x2, x3, x4, x5, x6⟩
      · rw [hg] at x2; cases x2
      · rw [hg] at x4
        cases x4
        rw [hfo, x1, Nat.zero_add]
        exact c51 hA hTm hdj hch hv hS1 x2 hn0 hn1 h0 hb2 hna ((o1 _ (by omega)).trans hkd) ((o1 _ (by omega)).trans hnm) ((o1 _ (by omega)).trans hrp) ((o1 _ (by omega)).trans hen))) ?_
  rintro r27 u27 ⟨g2, rfl, rfl, o2, t2⟩
  have hfu := t2.2.2.2.2.1
  refine ef_aload_n (pc := 30) d49_30 rfl ?_
  refine eg_getZ (pc := 31) d49_31 lf_4_40 (by assumption) (by decide) ?_
  try simp (disch := omega) only [u2_ne, u2_at, u2_ni, ur_ne, ur_eq]
  rw [hfu]
  refine ef_if_ne (pc := 34) d49_34 (t := 41) rfl (fun h34 => ?_) (fun h34 => ?_)
  · have hq : (folF kd nm rp en w A).2.2.2.2 = true := by
      cases hq : (folF kd nm rp en w A).2.2.2.2
      · rw [hq] at h34; exact absurd rfl h34
      · rfl
    rw [hq]
    refine ef_iconst (pc := 41) d49_41 (by decide) ?_
    refine ef_zret (pc := 42) d49_42 rfl (by omega) ?_
    exact ⟨_, rfl, rfl, o1.trans (o2.wide (by omega) (by omega)), t2⟩
  · have hq : (folF kd nm rp en w A).2.2.2.2 = false := by
      cases hq : (folF kd nm rp en w A).2.2.2.2
      · rfl
      · rw [hq] at h34; exact absurd h34 (by decide)
    rw [hq]
    refine ef_iconst (pc := 37) d49_37 (by decide) ?_
    refine ef_goto (pc := 38) d49_38 (t := 42) rfl ?_
    refine ef_zret (pc := 42) d49_42 rfl (by omega) ?_
    exact ⟨_, rfl, rfl, o1.trans (o2.wide (by omega) (by omega)), t2⟩
