/-! Lines and states: the small methods. Written by wip/whole/gen/c42.py. -/
def getN (L : List Tg) (w : Int) : Option Tg := match L with
  | [] => none
  | e :: l => if e.1 = w then some e else getN l w
def delN (L : List Tg) (w : Int) : List Tg := match L with
  | [] => []
  | e :: l => if e.1 = w then l else e :: delN l w
def setIn (L : List Tg) (w to : Int) : List Tg := match L with
  | [] => []
  | e :: l => if e.1 = w then (e.1, (to, e.2.2)) :: l else e :: setIn l w to
theorem ix_spec (w : Int) : ∀ (L : List Tg) (k : Nat), (ixF L w k = -1 ∧ getN L w = none ∧ delN L w = L ∧ ∀ to, setIn L w to = L) ∨ ∃ i e, ixF L w k = ((k + i : Nat) : Int) ∧ L[i]? = some e ∧ e.1 = w ∧ getN L w = some e ∧ delN L w = L.eraseIdx i ∧ ∀ to, setIn L w to = L.set i (e.1, (to, e.2.2)) := by
  intro L
  induction L with
  | nil => intro k; exact Or.inl ⟨rfl, rfl, rfl, fun _ => rfl⟩
  | cons e l ih =>
    intro k
    by_cases h : e.1 = w
    · refine Or.inr ⟨0, e, ?_, rfl, h, ?_, ?_, ?_⟩
      · rw [ixF, if_pos h]; rfl
      · rw [getN, if_pos h]
      · rw [delN, if_pos h]; rfl
      · intro to; rw [setIn, if_pos h]; rfl
    · rcases ih (k + 1) with ⟨h1, h2, h3, h4⟩ | ⟨i, x, h1, h2, h3, h4, h5, h6⟩
      · refine Or.inl ⟨?_, ?_, ?_, ?_⟩
        · rw [ixF, if_neg h]; exact h1
        · rw [getN, if_neg h]; exact h2
        · rw [delN, if_neg h, h3]
        · intro to; rw [setIn, if_neg h, h4]
      · refine Or.inr ⟨i + 1, x, ?_, h2, h3, ?_, ?_, ?_⟩
        · rw [ixF, if_neg h, h1]; omega
        · rw [getN, if_neg h]; exact h4
        · rw [delN, if_neg h, h5]; rfl
        · intro to; rw [setIn, if_neg h, h6]; rfl
theorem ix_le {w : Int} {L : List Tg} : ixF L w 0 < (L.length : Int) := by
  rcases ix_spec w L 0 with ⟨h, -⟩ | ⟨i, e, h, he, -⟩
  · omega
  · have := (List.getElem?_eq_some_iff.mp he).1
    omega
def LnA (u : Mm) (l : Nat) : Prop := mS u l = some (100 + 2, 2) ∧ mF u l 0 = some (l + 1) ∧ mS u (l + 1) = some (1, 240)
/-- a row of letters -/
def Row (f : Nat → Int) (T : List Int) : Prop := ∀ i c, T[i]? = some c → f i = c
def Ln (g : Nat → Nat → Int) (l : Nat) (T : List Int) : Prop := g l 1 = (T.length : Int) ∧ Row (g (l + 1)) T
theorem c30 {P : Pg} {d : Nat} {u : Mm} {g : Nat → Nat → Int} {l a n : Nat} {T : List Int} (hA : LnA u l) (ha : mS u a = some (1, n)) (hne : a ≠ l + 1) (hne2 : a ≠ l) (hR : Row (g a) T) (hn : T.length ≤ n) (hl : T.length ≤ 240) : Ec P (d + 1) 30 [vR l, vR a, vI (T.length : Int)] (sI u g) (fun r u' => ∃ g', u' = sI u g' ∧ r = .inl none ∧ Off l (l + 2) g g' ∧ Ln g' l T) := by
  obtain ⟨s0, r0, s1⟩ := hA
  change Ef P _ 30 0 [some (vR l), some (vR a), some (vI (T.length : Int))] [] _ _
  refine ef_aload_n (pc := 0) d30_0 rfl ?_
  refine ef_iload_n (pc := 1) d30_1 rfl ?_
  refine ef_sipush (pc := 2) d30_2 (by decide) ?_
  refine ef_callS (pc := 5) d30_5 lm_2_15 (as := [_, _]) rfl rfl rfl (Nat.le_of_ble_eq_true rfl) rfl (Nat.le_of_ble_eq_true rfl) ?_
  refine Ec.imp (c164) ?_
  rintro r5 u5 ⟨rfl, rfl⟩
  rw [if_pos (show (T.length : Int) ≤ 240 by omega)]
  refine eg_putI (pc := 8) d30_8 pf_30_21 (by assumption) (by decide) ?_
  refine ef_aload_n (pc := 11) d30_11 rfl ?_
  refine ef_iconst (pc := 12) d30_12 (by decide) ?_
  refine ef_aload_n (pc := 13) d30_13 rfl ?_
  refine eg_getR (pc := 14) d30_14 lf_2_9 (by assumption) (by decide) (by assumption) ?_
  refine ef_iconst (pc := 17) d30_17 (by decide) ?_
  refine ef_aload_n (pc := 18) d30_18 rfl ?_
  refine eg_getI (pc := 19) d30_19 lf_2_21 (by assumption) (by decide) ?_
  try simp (disch := omega) only [u2_ne, u2_at, u2_ni, ur_ne, ur_eq]
  refine ef_biS (pc := 22) d30_22 lm_2_25 (as := [_, _, _, _, _]) rfl rfl (by decide) (Nat.le_of_ble_eq_true rfl) (bi_cp (by assumption) (by assumption) (by decide) (by omega) (by omega) (by omega) (by omega) (by omega) (by omega)) ?_
  refine ef_vret (pc := 25) d30_25 rfl ?_
  refine ⟨_, rfl, rfl, (Off.refl.up (by omega) (by omega)).ur (by omega) (by omega), ?_, ?_⟩
  · rw [ur_ne (by omega), u2_at]
  · intro i c hc
    have hi := (List.getElem?_eq_some_iff.mp hc).1
    rw [ur_eq, u2_ne hne2]
    exact (cpy_0 hi).trans (hR i c hc)
theorem c31 {P : Pg} {d : Nat} {u : Mm} {g : Nat → Nat → Int} {l m : Nat} {T T' : List Int} (hA : LnA u l) (hB : LnA u m) (hT : Ln g l T) (hT' : Ln g m T') (hl : T.length ≤ 240) (hl' : T'.length ≤ 240) : Ec P d 31 [vR l, vR m] (sI u g) (fun r u' => u' = sI u g ∧ r = .inl (some (vI (if T = T' then 1 else 0)))) := by
  obtain ⟨s0, r0, s1⟩ := hA
  obtain ⟨s0', r0', s1'⟩ := hB
  obtain ⟨hz, hT⟩ := hT
  obtain ⟨hz', hT'⟩ := hT'
  have loop : T.length = T'.length → ∀ i, i ≤ T.length → (∀ k, k < i → T[k]? = T'[k]?) → Ef P d 31 15 [some (vR l), some (vR m), some (vI (i : Int))] [] (sI u g) (fun r u' => u' = sI u g ∧ r = .inl (some (vI (if T = T' then 1 else 0)))) := by
    intro hlen
    refine nat_loop T.length ?_
    intro i hi ih hx
    refine ef_iload_n (pc := 15) d31_15 rfl ?_
    refine ef_aload_n (pc := 16) d31_16 rfl ?_
    refine eg_getI (pc := 17) d31_17 lf_2_21 (by assumption) (by decide) ?_
    rw [hz]
    refine ef_icmp_ge (pc := 20) d31_20 (t := 46) rfl (fun h20 => ?_) (fun h20 => ?_)
    · refine ef_iconst (pc := 46) d31_46 (by decide) ?_
      refine ef_zret (pc := 47) d31_47 rfl (by omega) ?_
      refine ⟨rfl, ?_⟩
      rw [if_pos]
      refine List.ext_getElem? fun k => ?_
      by_cases hk : k < i
      · exact hx k hk
      · rw [List.getElem?_eq_none (by omega), List.getElem?_eq_none (by omega)]
    · obtain ⟨c, hc, -⟩ := get_of_lt (L := T) (i := i) (by omega)
      obtain ⟨c', hc', -⟩ := get_of_lt (L := T') (i := i) (by omega)
      have hv := hT i c hc
      have hv' := hT' i c' hc'
      refine ef_aload_n (pc := 23) d31_23 rfl ?_
      refine eg_getR (pc := 24) d31_24 lf_2_9 (by assumption) (by decide) (by assumption) ?_
      refine ef_iload_n (pc := 27) d31_27 rfl ?_
      refine eg_cald (pc := 28) d31_28 (by assumption) rfl (by omega) ?_
      rw [hv]
      refine ef_aload_n (pc := 29) d31_29 rfl ?_
      refine eg_getR (pc := 30) d31_30 lf_2_9 (by assumption) (by decide) (by assumption) ?_
      refine ef_iload_n (pc := 33) d31_33 rfl ?_
      refine eg_cald (pc := 34) d31_34 (by assumption) rfl (by omega) ?_
      rw [hv']
      refine ef_icmp_eq (pc := 35) d31_35 (t := 40) rfl (fun h35 => ?_) (fun h35 => ?_)
      · refine ef_iinc (pc := 40) d31_40 (ls' := [_, _, _]) (z := ((i + 1 : Nat) : Int)) rfl (by decide) (by omega) ⟨by omega, by omega⟩ rfl ?_
        refine ef_goto (pc := 43) d31_43 (t := 15) rfl ?_
        refine ih (by omega) ?_
        intro k hk
        by_cases hki : k = i
        · subst hki; rw [hc, hc', h35]
        · exact hx k (by omega)
      · refine ef_iconst (pc := 38) d31_38 (by decide) ?_
        refine ef_zret (pc := 39) d31_39 rfl (by omega) ?_
        refine ⟨rfl, ?_⟩
        rw [if_neg]
        intro he
        rw [he, hc'] at hc
        cases hc
        exact h35 rfl
  change Ef P _ 31 0 [some (vR l), some (vR m), none] [] _ _
  refine ef_aload_n (pc := 0) d31_0 rfl ?_
  refine eg_getI (pc := 1) d31_1 lf_2_21 (by assumption) (by decide) ?_
  rw [hz]
  refine ef_aload_n (pc := 4) d31_4 rfl ?_
  refine eg_getI (pc := 5) d31_5 lf_2_21 (by assumption) (by decide) ?_
  rw [hz']
  refine ef_icmp_eq (pc := 8) d31_8 (t := 13) rfl (fun h8 => ?_) (fun h8 => ?_)
  · refine ef_iconst (pc := 13) d31_13 (by decide) ?_
    refine ef_istore_n (pc := 14) d31_14 (ls' := [_, _, _]) rfl ?_
    exact loop (by omega) 0 (by omega) (fun k hk => absurd hk (by omega))
  · refine ef_iconst (pc := 11) d31_11 (by decide) ?_
    refine ef_zret (pc := 12) d31_12 rfl (by omega) ?_
    refine ⟨rfl, ?_⟩
    rw [if_neg]
    intro he
    rw [he] at h8
    exact h8 rfl
def StA (u : Mm) (s : Nat) : Prop := mS u s = some (100 + 4, 6) ∧ mF u s 0 = some (s + 1) ∧ mF u s 1 = some (s + 7) ∧ mF u s 2 = some (s + 13) ∧ mF u s 3 = some (s + 19) ∧ ThA u (s + 1) 20 ∧ ThA u (s + 7) 40 ∧ ThA u (s + 13) 30 ∧ LnA u (s + 19)
theorem c48 {P : Pg} {d : Nat} {u : Mm} {g : Nat → Nat → Int} {s : Nat} {k : Int} (hA : StA u s) : Ec P d 48 [vR s, vI k] (sI u g) (fun r u' => u' = sI u g ∧ r = .inl (some (vR (if k = 4 then s + 1 else if k = 5 then s + 13 else s + 7)))) := by
  obtain ⟨q0, q1, q2, q3, q4, hP, hG, hM, hL⟩ := hA
  obtain ⟨a0, a1, a2, a3, a4, a5, a6, a7, a8, a9, a10⟩ := id hP
  obtain ⟨b0, b1, b2, b3, b4, b5, b6, b7, b8, b9, b10⟩ := id hG
  obtain ⟨c0, c1, c2, c3, c4, c5, c6, c7, c8, c9, c10⟩ := id hM
  obtain ⟨l0, l1, l2⟩ := id hL
  change Ef P _ 48 0 [some (vR s), some (vI k)] [] _ _
  refine ef_iload_n (pc := 0) d48_0 rfl ?_
  by_cases h4 : k = 4
  · subst h4
    refine ef_lookup (pc := 1) d48_1 (by decide) (off := 27) (by decide) (t := 28) rfl ?_
    refine ef_aload_n (pc := 28) d48_28 rfl ?_
    refine eg_getR (pc := 29) d48_29 lf_4_14 (by assumption) (by decide) (by assumption) ?_
    refine ef_aret (pc := 32) d48_32 rfl ?_
    exact ⟨rfl, rfl⟩
  by_cases h5 : k = 5
  · subst h5
    refine ef_lookup (pc := 1) d48_1 (by decide) (off := 32) (by decide) (t := 33) rfl ?_
    refine ef_aload_n (pc := 33) d48_33 rfl ?_
    refine eg_getR (pc := 34) d48_34 lf_4_23 (by assumption) (by decide) (by assumption) ?_
    refine ef_aret (pc := 37) d48_37 rfl ?_
    exact ⟨rfl, rfl⟩
  rw [if_neg h4, if_neg h5]
  refine ef_lookup (pc := 1) d48_1 (by decide) (off := 37) (by simp [Op.lookupswitch.offset, h4, h5]; try omega) (t := 38) rfl ?_
  refine ef_aload_n (pc := 38) d48_38 rfl ?_
  refine eg_getR (pc := 39) d48_39 lf_4_20 (by assumption) (by decide) (by assumption) ?_
  refine ef_aret (pc := 42) d48_42 rfl ?_
  exact ⟨rfl, rfl⟩
def plN (L : List Tg) (w : Int) : Int := match getN L w with
  | none => -1
  | some e => e.2.1
def naN (L : List Tg) (w : Int) : Int := match getN L w with
  | none => -1
  | some e => e.2.2.1
theorem c53 {P : Pg} {d : Nat} {u : Mm} {g : Nat → Nat → Int} {s : Nat} {ps gs ms : List Tg} {w : Int} (hA : StA u s) (hT : Th g (s + 1) ps) (hl : ps.length ≤ 20) : Ec P (d + 1) 53 [vR s, vI w] (sI u g) (fun r u' => u' = sI u g ∧ r = .inl (some (vI (plN ps w)))) := by
  obtain ⟨q0, q1, q2, q3, q4, hP, hG, hM, hL⟩ := hA
  obtain ⟨a0, a1, a2, a3, a4, a5, a6, a7, a8, a9, a10⟩ := id hP
  obtain ⟨b0, b1, b2, b3, b4, b5, b6, b7, b8, b9, b10⟩ := id hG
  obtain ⟨c0, c1, c2, c3, c4, c5, c6, c7, c8, c9, c10⟩ := id hM
  obtain ⟨l0, l1, l2⟩ := id hL
  change Ef P _ 53 0 [some (vR s), some (vI w), none] [] _ _
  refine ef_aload_n (pc := 0) d53_0 rfl ?_
  refine eg_getR (pc := 1) d53_1 lf_4_14 (by assumption) (by decide) (by assumption) ?_
  refine ef_iload_n (pc := 4) d53_4 rfl ?_
  refine ef_callV (pc := 5) d53_5 lm_4_78 (as := [_]) rfl rfl (by assumption) rfl rfl (by decide) (Nat.le_of_ble_eq_true rfl) rfl (Nat.le_of_ble_eq_true rfl) ?_
  refine Ec.imp (c85 (by assumption) hT (by omega) (by decide)) ?_
  rintro r5 u5 ⟨rfl, rfl⟩
  rcases ix_spec w ps 0 with ⟨x1, x2, x3, x4⟩ | ⟨i, e, x1, x2, x3, x4, x5, x6⟩
  · rw [x1]
    refine ef_istore_n (pc := 8) d53_8 (ls' := [_, _, _]) rfl ?_
    refine ef_iload_n (pc := 9) d53_9 rfl ?_
    refine ef_if_geF (pc := 10) d53_10 (t := 17) rfl (by omega) ?_
    refine ef_iconst (pc := 13) d53_13 (by decide) ?_
    refine ef_goto (pc := 14) d53_14 (t := 26) rfl ?_
    refine ef_iret (pc := 26) d53_26 rfl ?_
    exact ⟨rfl, by rw [plN, x2]⟩
  · rw [x1, Nat.zero_add]
    have hv := hT.2 i e x2
    have hi := (List.getElem?_eq_some_iff.mp x2).1
    refine ef_istore_n (pc := 8) d53_8 (ls' := [_, _, _]) rfl ?_
    refine ef_iload_n (pc := 9) d53_9 rfl ?_
    refine ef_if_geT (pc := 10) d53_10 (t := 17) rfl (by omega) ?_
    refine ef_aload_n (pc := 17) d53_17 rfl ?_
    refine eg_getR (pc := 18) d53_18 lf_4_14 (by assumption) (by decide) (by assumption) ?_
    refine eg_getR (pc := 21) d53_21 lf_4_92 (by assumption) (by decide) (by assumption) ?_
    refine ef_iload_n (pc := 24) d53_24 rfl ?_
    refine eg_iald (pc := 25) d53_25 (by assumption) rfl (by omega) ?_
    try simp (disch := omega) only [u2_ne, u2_at, u2_ni, ur_ne, ur_eq]
    rw [hv.2.1]
    refine ef_iret (pc := 26) d53_26 rfl ?_
    exact ⟨rfl, by rw [plN, x4]⟩
theorem c52 {P : Pg} {d : Nat} {u : Mm} {g : Nat → Nat → Int} {s : Nat} {ps gs ms : List Tg} {w to : Int} (hA : StA u s) (hT : Th g (s + 1) ps) (hl : ps.length ≤ 20) : Ec P (d + 1) 52 [vR s, vI w, vI to] (sI u g) (fun r u' => ∃ g', u' = sI u g' ∧ r = .inl none ∧ Off (s + 1) (s + 7) g g' ∧ Th g' (s + 1) (setIn ps w to)) := by
  obtain ⟨q0, q1, q2, q3, q4, hP, hG, hM, hL⟩ := hA
  obtain ⟨a0, a1, a2, a3, a4, a5, a6, a7, a8, a9, a10⟩ := id hP
  obtain ⟨b0, b1, b2, b3, b4, b5, b6, b7, b8, b9, b10⟩ := id hG
  obtain ⟨c0, c1, c2, c3, c4, c5, c6, c7, c8, c9, c10⟩ := id hM
  obtain ⟨l0, l1, l2⟩ := id hL
  change Ef P _ 52 0 [some (vR s), some (vI w), some (vI to), none] [] _ _
  refine ef_aload_n (pc := 0) d52_0 rfl ?_
  refine eg_getR (pc := 1) d52_1 lf_4_14 (by assumption) (by decide) (by assumption) ?_
  refine ef_iload_n (pc := 4) d52_4 rfl ?_
  refine ef_callV (pc := 5) d52_5 lm_4_78 (as := [_]) rfl rfl (by assumption) rfl rfl (by decide) (Nat.le_of_ble_eq_true rfl) rfl (Nat.le_of_ble_eq_true rfl) ?_
  refine Ec.imp (c85 (by assumption) hT (by omega) (by decide)) ?_
  rintro r5 u5 ⟨rfl, rfl⟩
  rcases ix_spec w ps 0 with ⟨x1, x2, x3, x4⟩ | ⟨i, e, x1, x2, x3, x4, x5, x6⟩
  · rw [x1]
    refine ef_istore_n (pc := 8) d52_8 (ls' := [_, _, _, _]) rfl ?_
    refine ef_iload_n (pc := 9) d52_9 rfl ?_
    refine ef_if_ltT (pc := 10) d52_10 (t := 23) rfl (by omega) ?_
    refine ef_vret (pc := 23) d52_23 rfl ?_
    exact ⟨_, rfl, rfl, Off.refl, by rw [x4]; exact hT⟩
  · rw [x1, Nat.zero_add]
    have hv := hT.2 i e x2
    have hi := (List.getElem?_eq_some_iff.mp x2).1
    refine ef_istore_n (pc := 8) d52_8 (ls' := [_, _, _, _]) rfl ?_
    refine ef_iload_n (pc := 9) d52_9 rfl ?_
    refine ef_if_ltF (pc := 10) d52_10 (t := 23) rfl (by omega) ?_
    refine ef_aload_n (pc := 13) d52_13 rfl ?_
    refine eg_getR (pc := 14) d52_14 lf_4_14 (by assumption) (by decide) (by assumption) ?_
    refine eg_getR (pc := 17) d52_17 lf_4_92 (by assumption) (by decide) (by assumption) ?_
    refine ef_iload_n (pc := 20) d52_20 rfl ?_
    refine ef_iload_n (pc := 21) d52_21 rfl ?_
    refine eg_iast (pc := 22) d52_22 (by assumption) rfl (by omega) rfl ?_
    refine ef_vret (pc := 23) d52_23 rfl ?_
    exact ⟨_, rfl, rfl, Off.refl.up (by omega) (by omega), by rw [x6]; exact Th_set hT x2⟩
theorem c55 {P : Pg} {d : Nat} {u : Mm} {g : Nat → Nat → Int} {s : Nat} {ps gs ms : List Tg} {w : Int} (hA : StA u s) (hT : Th g (s + 13) ms) (hl : ms.length ≤ 30) : Ec P (d + 1) 55 [vR s, vI w] (sI u g) (fun r u' => ∃ g', u' = sI u g' ∧ r = .inl (some (vI (naN ms w))) ∧ Off (s + 13) (s + 19) g g' ∧ Th g' (s + 13) (delN ms w)) := by
  obtain ⟨q0, q1, q2, q3, q4, hP, hG, hM, hL⟩ := hA
  obtain ⟨a0, a1, a2, a3, a4, a5, a6, a7, a8, a9, a10⟩ := id hP
  obtain ⟨b0, b1, b2, b3, b4, b5, b6, b7, b8, b9, b10⟩ := id hG
  obtain ⟨c0, c1, c2, c3, c4, c5, c6, c7, c8, c9, c10⟩ := id hM
  obtain ⟨l0, l1, l2⟩ := id hL
  change Ef P _ 55 0 [some (vR s), some (vI w), none, none] [] _ _
  refine ef_aload_n (pc := 0) d55_0 rfl ?_
  refine eg_getR (pc := 1) d55_1 lf_4_23 (by assumption) (by decide) (by assumption) ?_
  refine ef_iload_n (pc := 4) d55_4 rfl ?_
  refine ef_callV (pc := 5) d55_5 lm_4_78 (as := [_]) rfl rfl (by assumption) rfl rfl (by decide) (Nat.le_of_ble_eq_true rfl) rfl (Nat.le_of_ble_eq_true rfl) ?_
  refine Ec.imp (c85 (by assumption) hT (by omega) (by decide)) ?_
  rintro r5 u5 ⟨rfl, rfl⟩
  rcases ix_spec w ms 0 with ⟨x1, x2, x3, x4⟩ | ⟨i, e, x1, x2, x3, x4, x5, x6⟩
  · rw [x1]
    refine ef_istore_n (pc := 8) d55_8 (ls' := [_, _, _, _]) rfl ?_
    refine ef_iload_n (pc := 9) d55_9 rfl ?_
    refine ef_if_geF (pc := 10) d55_10 (t := 15) rfl (by omega) ?_
    refine ef_iconst (pc := 13) d55_13 (by decide) ?_
    refine ef_iret (pc := 14) d55_14 rfl ?_
    exact ⟨_, rfl, by rw [naN, x2], Off.refl, by rw [x3]; exact hT⟩
  · rw [x1, Nat.zero_add]
    have hv := hT.2 i e x2
    have hi := (List.getElem?_eq_some_iff.mp x2).1
    refine ef_istore_n (pc := 8) d55_8 (ls' := [_, _, _, _]) rfl ?_
    refine ef_iload_n (pc := 9) d55_9 rfl ?_
    refine ef_if_geT (pc := 10) d55_10 (t := 15) rfl (by omega) ?_
    refine ef_aload_n (pc := 15) d55_15 rfl ?_
    refine eg_getR (pc := 16) d55_16 lf_4_23 (by assumption) (by decide) (by assumption) ?_
    refine eg_getR (pc := 19) d55_19 lf_4_134 (by assumption) (by decide) (by assumption) ?_
    refine ef_iload_n (pc := 22) d55_22 rfl ?_
    refine eg_iald (pc := 23) d55_23 (by assumption) rfl (by omega) ?_
    try simp (disch := omega) only [u2_ne, u2_at, u2_ni, ur_ne, ur_eq]
    rw [hv.2.2.1]
    refine ef_istore_n (pc := 24) d55_24 (ls' := [_, _, _, _]) rfl ?_
    refine ef_aload_n (pc := 25) d55_25 rfl ?_
    refine eg_getR (pc := 26) d55_26 lf_4_23 (by assumption) (by decide) (by assumption) ?_
    refine ef_iload_n (pc := 29) d55_29 rfl ?_
    refine ef_callV (pc := 30) d55_30 lm_4_102 (as := [_]) rfl rfl (by assumption) rfl rfl (by decide) (Nat.le_of_ble_eq_true rfl) rfl (Nat.le_of_ble_eq_true rfl) ?_
    refine Ec.imp (c87 (by assumption) hT (by omega) (by decide) (by omega)) ?_
    rintro r30 u30 ⟨g', rfl, rfl, ho, ht, -⟩
    refine ef_iload_n (pc := 33) d55_33 rfl ?_
    refine ef_iret (pc := 34) d55_34 rfl ?_
    exact ⟨_, rfl, by rw [naN, x4], ho, by rw [x5]; exact ht i rfl hi⟩
