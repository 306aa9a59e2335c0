/-! The explorer. Written by wip/whole/gen/c68.py. -/
def ExA (u : Mm) (x : Nat) : Prop := mS u x = some (100 + 1, 7) ∧ mF u x 0 = some (x + 1) ∧ mF u x 1 = some (x + 2) ∧ mF u x 2 = some (x + 3) ∧ mS u (x + 1) = some (4 + 4, 30) ∧ mS u (x + 2) = some (0, 30) ∧ RxA u (x + 3) ∧ ∀ i, i < 30 → mF u (x + 1) i = some (x + 8 + 21 * i) ∧ StA u (x + 8 + 21 * i)
/-- a state found, its text, how far -/
abbrev XS : Type := SS × (List Int × Int)
def Ex (g : Nat → Nat → Int) (x : Nat) (L : List XS) : Prop := g x 3 = (L.length : Int) ∧ ∀ i y, L[i]? = some y → SR g (x + 8 + 21 * i) y.1 ∧ Ln g (x + 8 + 21 * i + 19) y.2.1 ∧ g (x + 2) i = y.2.2
def new (L : List XS) (T : List Int) : Bool := L.all (fun y => decide (y.2.1 ≠ T))
def nrF (a b : Int) : List XS → Int
  | [] => -1
  | y :: l => if shp y.1.1 a b = true then y.2.2 else nrF a b l
theorem Ex.off {g g' : Nat → Nat → Int} {x : Nat} {L : List XS} (h : Ex g x L) (h0 : g' x 3 = g x 3) (h2 : ∀ i, i < L.length → g' (x + 2) i = g (x + 2) i) (k : ∀ a, x + 8 ≤ a → a < x + 8 + 21 * L.length → g' a = g a) : Ex g' x L := by
  refine ⟨by rw [h0]; exact h.1, fun i y hy => ?_⟩
  have hi := (List.getElem?_eq_some_iff.mp hy).1
  obtain ⟨h3, h4, h5⟩ := h.2 i y hy
  exact ⟨h3.off (fun a h6 h7 => k a (by omega) (by omega)), h4.off (fun a h6 h7 => k a (by omega) (by omega)), by rw [h2 i hi]; exact h5⟩
theorem c24 {P : Pg} {d : Nat} {u : Mm} {g : Nat → Nat → Int} {x : Nat} (hX : ExA u x) : Ec P d 24 [vR x] (sI u g) (fun r u' => ∃ g', u' = sI u g' ∧ r = .inl none ∧ Off x (x + 1) g g' ∧ g' x 3 = 0 ∧ g' x 4 = 0 ∧ g' x 5 = 0 ∧ g' x 6 = -1) := by
  obtain ⟨y0, y1, y2, y3, y4, y5, y6, y7⟩ := id hX
  change Ef P _ 24 0 [some (vR x)] [] _ _
  refine ef_aload_n (pc := 0) d24_0 rfl ?_
  refine ef_iconst (pc := 1) d24_1 (by decide) ?_
  refine eg_putI (pc := 2) d24_2 pf_24_33 (by assumption) (by decide) ?_
  refine ef_aload_n (pc := 5) d24_5 rfl ?_
  refine ef_iconst (pc := 6) d24_6 (by decide) ?_
  refine eg_putZ (pc := 7) d24_7 pf_24_36 (by assumption) (by decide) (by omega) ?_
  refine ef_aload_n (pc := 10) d24_10 rfl ?_
  refine ef_iconst (pc := 11) d24_11 (by decide) ?_
  refine eg_putI (pc := 12) d24_12 pf_24_40 (by assumption) (by decide) ?_
  refine ef_aload_n (pc := 15) d24_15 rfl ?_
  refine ef_iconst (pc := 16) d24_16 (by decide) ?_
  refine eg_putI (pc := 17) d24_17 pf_24_28 (by assumption) (by decide) ?_
  refine ef_vret (pc := 20) d24_20 rfl ?_
  refine ⟨_, rfl, rfl, (((Off.refl.up (by omega) (by omega)).up (by omega) (by omega)).up (by omega) (by omega)).up (by omega) (by omega), ?_, ?_, ?_, ?_⟩
  · rw [u2_ni (by omega), u2_ni (by omega), u2_ni (by omega), u2_at]
  · rw [u2_ni (by omega), u2_ni (by omega), u2_at]
  · rw [u2_ni (by omega), u2_at]
  · rw [u2_at]
theorem c28 {P : Pg} {d : Nat} {u : Mm} {g : Nat → Nat → Int} {x n : Nat} (hX : ExA u x) (hn : g x 3 = (n : Int)) (hl : n ≤ 30) : Ec P d 28 [vR x] (sI u g) (fun r u' => u' = sI u g ∧ r = .inl (some (vI (if n = 0 then 0 else g (x + 2) (n - 1))))) := by
  obtain ⟨y0, y1, y2, y3, y4, y5, y6, y7⟩ := id hX
  change Ef P _ 28 0 [some (vR x)] [] _ _
  refine ef_aload_n (pc := 0) d28_0 rfl ?_
  refine eg_getI (pc := 1) d28_1 lf_1_33 (by assumption) (by decide) ?_
  rw [hn]
  refine ef_if_ne (pc := 4) d28_4 (t := 11) rfl (fun h4 => ?_) (fun h4 => ?_)
  · rw [if_neg (by omega)]
    refine ef_aload_n (pc := 11) d28_11 rfl ?_
    refine eg_getR (pc := 12) d28_12 lf_1_17 (by assumption) (by decide) (by assumption) ?_
    refine ef_aload_n (pc := 15) d28_15 rfl ?_
    refine eg_getI (pc := 16) d28_16 lf_1_33 (by assumption) (by decide) ?_
    rw [hn]
    refine ef_iconst (pc := 19) d28_19 (by decide) ?_
    refine ef_isub (pc := 20) d28_20 (z := ((n - 1 : Nat) : Int)) (by omega) ⟨by omega, by omega⟩ ?_
    refine eg_iald (pc := 21) d28_21 (i := n - 1) (by assumption) (rfl) (by omega) ?_
    refine ef_iret (pc := 22) d28_22 rfl ?_
    exact ⟨rfl, rfl⟩
  · rw [if_pos (by omega)]
    refine ef_iconst (pc := 7) d28_7 (by decide) ?_
    refine ef_goto (pc := 8) d28_8 (t := 22) rfl ?_
    refine ef_iret (pc := 22) d28_22 rfl ?_
    exact ⟨rfl, rfl⟩
theorem new_y {L : List XS} {T : List Int} {i : Nat} {y : XS} (h : L[i]? = some y) (hy : y.2.1 = T) : new L T = false := by
  cases hq : new L T
  · rfl
  · exact absurd hy (of_decide_eq_true (List.all_eq_true.mp hq y (List.mem_of_getElem? h)))
theorem c26 {P : Pg} {d : Nat} {u : Mm} {g : Nat → Nat → Int} {x s : Nat} {L : List XS} {T : List Int} (hX : ExA u x) (hs : StA u s) (hE : Ex g x L) (hl : L.length ≤ 30) (hT : Ln g (s + 19) T) (hT4 : T.length ≤ 240) (h4 : ∀ y, y ∈ L → y.2.1.length ≤ 240) : Ec P (d + 1) 26 [vR x, vR s] (sI u g) (fun r u' => u' = sI u g ∧ r = .inl (some (vI (b01 (new L T))))) := by
  obtain ⟨y0, y1, y2, y3, y4, y5, y6, y7⟩ := id hX
  obtain ⟨q0, q1, q2, q3, q4, hP, hG, hM, hL⟩ := hs
  obtain ⟨l0, l1, l2⟩ := id hL
  have e3 := hE.1
  have loop : ∀ i, i ≤ L.length → (∀ k y, k < i → L[k]? = some y → y.2.1 ≠ T) → Ef P (d + 1) 26 2 [some (vR x), some (vR s), some (vI (i : Int))] [] (sI u g) (fun r u' => u' = sI u g ∧ r = .inl (some (vI (b01 (new L T))))) := by
    refine nat_loop L.length ?_
    intro i hi ih hb
    refine ef_iload_n (pc := 2) d26_2 rfl ?_
    refine ef_aload_n (pc := 3) d26_3 rfl ?_
    refine eg_getI (pc := 4) d26_4 lf_1_33 (by assumption) (by decide) ?_
    rw [e3]
    refine ef_icmp_ge (pc := 7) d26_7 (t := 37) rfl (fun h7 => ?_) (fun h7 => ?_)
    · have hN : new L T = true := by
        refine List.all_eq_true.mpr fun y hy => decide_eq_true ?_
        obtain ⟨k, hk⟩ := List.getElem?_of_mem hy
        have := (List.getElem?_eq_some_iff.mp hk).1
        exact hb k y (by omega) hk
      rw [hN]
      refine ef_iconst (pc := 37) d26_37 (by decide) ?_
      refine ef_zret (pc := 38) d26_38 rfl (by omega) ?_
      exact ⟨rfl, rfl⟩
    · have hlt : i < L.length := by omega
      obtain ⟨y, hy, -⟩ := get_of_lt hlt
      obtain ⟨f1, f2, f3⟩ := hE.2 i y hy
      obtain ⟨z1, z2⟩ := y7 i (by omega)
      obtain ⟨p0, p1, p2, p3, p4, p5, p6, p7, p8⟩ := id z2
      obtain ⟨m0, m1, m2⟩ := id p8
      refine ef_aload_n (pc := 10) d26_10 rfl ?_
      refine eg_getR (pc := 11) d26_11 lf_1_11 (by assumption) (by decide) (by assumption) ?_
      refine ef_iload_n (pc := 14) d26_14 rfl ?_
      refine eg_aald (pc := 15) d26_15 (i := i) (by assumption) (by decide) (rfl) (by omega) (by assumption) ?_
      refine eg_getR (pc := 16) d26_16 lf_1_69 (by assumption) (by decide) (by assumption) ?_
      refine ef_aload_n (pc := 19) d26_19 rfl ?_
      refine eg_getR (pc := 20) d26_20 lf_1_69 (by assumption) (by decide) (by assumption) ?_
      refine ef_callV (pc := 23) d26_23 lm_1_73 (as := [_]) rfl rfl (by assumption) rfl rfl (by decide) (Nat.le_of_ble_eq_true rfl) rfl (Nat.le_of_ble_eq_true rfl) ?_
      refine Ec.imp (c31 p8 hL f2 hT (h4 y (List.mem_of_getElem? hy)) hT4) ?_
      rintro r23 u23 ⟨rfl, rfl⟩
      refine ef_if_eq (pc := 26) d26_26 (t := 31) rfl (fun h26 => ?_) (fun h26 => ?_)
      · have hne : y.2.1 ≠ T := by intro hh; rw [if_pos hh] at h26; exact absurd h26 (by decide)
        refine ef_iinc (pc := 31) d26_31 (ls' := [_, _, _]) (z := ((i + 1 : Nat) : Int)) rfl (by decide) (by omega) ⟨by omega, by omega⟩ rfl ?_
        refine ef_goto (pc := 34) d26_34 (t := 2) rfl ?_
        refine ih hlt fun k z hk hz => ?_
        by_cases hki : k = i
        · subst hki; rw [hy] at hz; cases hz; exact hne
        · exact hb k z (by omega) hz
      · have heq : y.2.1 = T := by
          by_cases hh : y.2.1 = T
          · exact hh
          · rw [if_neg hh] at h26; exact absurd rfl h26
        rw [new_y hy heq]
        refine ef_iconst (pc := 29) d26_29 (by decide) ?_
        refine ef_zret (pc := 30) d26_30 rfl (by omega) ?_
        exact ⟨rfl, rfl⟩
  change Ef P _ 26 0 [some (vR x), some (vR s), none] [] _ _
  refine ef_iconst (pc := 0) d26_0 (by decide) ?_
  refine ef_istore_n (pc := 1) d26_1 (ls' := [_, _, _]) rfl ?_
  exact loop 0 (Nat.zero_le _) (fun k y hk => absurd hk (by omega))
theorem c27 {P : Pg} {d : Nat} {u : Mm} {g : Nat → Nat → Int} {x : Nat} {L : List XS} {a b : Int} (hX : ExA u x) (hE : Ex g x L) (hl : L.length ≤ 30) (h0 : ∀ y, y ∈ L → 0 ≤ y.2.2 ∧ y.1.1.length ≤ 20) : Ec P (d + 2) 27 [vR x, vI a, vI b] (sI u g) (fun r u' => ∃ g', u' = sI u g' ∧ r = .inl none ∧ g' = u2 g x 6 (nrF a b L)) := by
  obtain ⟨y0, y1, y2, y3, y4, y5, y6, y7⟩ := id hX
  have e3 := hE.1
  have fin : ∀ (i : Nat) (z : Int), z = nrF a b L → Ef P (d + 2) 27 53 [some (vR x), some (vI a), some (vI b), some (vI (i : Int))] [] (sI u (u2 g x 6 z)) (fun r u' => ∃ g', u' = sI u g' ∧ r = .inl none ∧ g' = u2 g x 6 (nrF a b L)) := by
    intro i z hz
    refine ef_vret (pc := 53) d27_53 rfl ?_
    exact ⟨_, rfl, rfl, by rw [hz]⟩
  have u2u : ∀ (z w : Int), u2 (u2 g x 6 z) x 6 w = u2 g x 6 w := by
    intro z w
    funext c k
    by_cases hc : c = x
    · subst hc
      by_cases hk : k = 6
      · subst hk; rw [u2_at, u2_at]
      · rw [u2_ni hk, u2_ni hk, u2_ni hk]
    · rw [u2_ne hc, u2_ne hc, u2_ne hc]
  have loop : ∀ i, i ≤ L.length → nrF a b L = nrF a b (L.drop i) → Ef P (d + 2) 27 7 [some (vR x), some (vI a), some (vI b), some (vI (i : Int))] [] (sI u (u2 g x 6 (-1))) (fun r u' => ∃ g', u' = sI u g' ∧ r = .inl none ∧ g' = u2 g x 6 (nrF a b L)) := by
    refine nat_loop L.length ?_
    intro i hi ih hb
    have e3b : u2 g x 6 (-1) x 3 = (L.length : Int) := by rw [u2_ni (by omega)]; exact e3
    refine ef_iload_n (pc := 7) d27_7 rfl ?_
    refine ef_aload_n (pc := 8) d27_8 rfl ?_
    refine eg_getI (pc := 9) d27_9 lf_1_33 (by assumption) (by decide) ?_
    rw [e3b]
    refine ef_icmp_ge (pc := 12) d27_12 (t := 53) rfl (fun h12 => ?_) (fun h12 => ?_)
    · rw [List.drop_eq_nil_of_le (by omega)] at hb
      exact fin _ _ hb.symm
    · have hlt : i < L.length := by omega
      obtain ⟨y, hy, hdr⟩ := get_of_lt hlt
      obtain ⟨f1, f2, f3⟩ := hE.2 i y hy
      obtain ⟨z1, z2⟩ := y7 i (by omega)
      have hm0 := h0 y (List.mem_of_getElem? hy)
      rw [hdr] at hb
      refine ef_aload_n (pc := 15) d27_15 rfl ?_
      refine eg_getI (pc := 16) d27_16 lf_1_28 (by assumption) (by decide) ?_
      rw [u2_at]
      refine ef_iconst (pc := 19) d27_19 (by decide) ?_
      refine ef_icmp_neF (pc := 20) d27_20 (t := 53) rfl (by omega) ?_
      refine ef_aload_n (pc := 23) d27_23 rfl ?_
      refine eg_getR (pc := 24) d27_24 lf_1_11 (by assumption) (by decide) (by assumption) ?_
      refine ef_iload_n (pc := 27) d27_27 rfl ?_
      refine eg_aald (pc := 28) d27_28 (i := i) (by assumption) (by decide) (rfl) (by omega) (by assumption) ?_
      refine ef_iload_n (pc := 29) d27_29 rfl ?_
      refine ef_iload_n (pc := 30) d27_30 rfl ?_
      obtain ⟨p0, p1, p2, p3, p4, p5, p6, p7, p8⟩ := id z2
      have hth : Th (u2 g x 6 (-1)) (x + 8 + 21 * i + 1) y.1.1 := f1.1.same (lo := x) (hi := x + 1) (Off.refl.up (by omega) (by omega)) (by omega)
      refine ef_callV (pc := 31) d27_31 lm_1_79 (as := [_, _]) rfl rfl (by assumption) rfl rfl (by decide) (Nat.le_of_ble_eq_true rfl) rfl (Nat.le_of_ble_eq_true rfl) ?_
      refine Ec.imp (c56 (gs := []) (ms := []) z2 hth hm0.2) ?_
      rintro r31 u31 ⟨rfl, rfl⟩
      refine ef_if_eq (pc := 34) d27_34 (t := 47) rfl (fun h34 => ?_) (fun h34 => ?_)
      · have hsf : ¬ shp y.1.1 a b = true := by intro hh; rw [if_pos hh] at h34; exact absurd h34 (by decide)
        rw [nrF, if_neg hsf] at hb
        refine ef_iinc (pc := 47) d27_47 (ls' := [_, _, _, _]) (z := ((i + 1 : Nat) : Int)) rfl (by decide) (by omega) ⟨by omega, by omega⟩ rfl ?_
        refine ef_goto (pc := 50) d27_50 (t := 7) rfl ?_
        first
        | exact ih hlt hb
        | skip
      · have hst : shp y.1.1 a b = true := by
          cases hq : shp y.1.1 a b
          · rw [hq, if_neg (by decide)] at h34; exact absurd rfl h34
          · rfl
        rw [nrF, if_pos hst] at hb
        refine ef_aload_n (pc := 37) d27_37 rfl ?_
        refine ef_aload_n (pc := 38) d27_38 rfl ?_
        refine eg_getR (pc := 39) d27_39 lf_1_17 (by assumption) (by decide) (by assumption) ?_
        refine ef_iload_n (pc := 42) d27_42 rfl ?_
        refine eg_iald (pc := 43) d27_43 (i := i) (by assumption) (rfl) (by omega) ?_
        try simp (disch := omega) only [u2_ne, u2_at, u2_ni, ur_ne, ur_eq]
        rw [f3]
        refine eg_putI (pc := 44) d27_44 pf_27_28 (by assumption) (by decide) ?_
        rw [u2u]
        have hzz := hb.symm
        have e3c : u2 g x 6 y.2.2 x 3 = (L.length : Int) := by rw [u2_ni (by omega)]; exact e3
        refine ef_iinc (pc := 47) d27_47 (ls' := [_, _, _, _]) (z := ((i + 1 : Nat) : Int)) rfl (by decide) (by omega) ⟨by omega, by omega⟩ rfl ?_
        refine ef_goto (pc := 50) d27_50 (t := 7) rfl ?_
        first
        | exact ih hlt hb
        | skip
        refine ef_iload_n (pc := 7) d27_7 rfl ?_
        refine ef_aload_n (pc := 8) d27_8 rfl ?_
        refine eg_getI (pc := 9) d27_9 lf_1_33 (by assumption) (by decide) ?_
        rw [e3c]
        refine ef_icmp_ge (pc := 12) d27_12 (t := 53) rfl (fun h12 => ?_) (fun h12 => ?_)
        · exact fin _ _ hzz
        · refine ef_aload_n (pc := 15) d27_15 rfl ?_
          refine eg_getI (pc := 16) d27_16 lf_1_28 (by assumption) (by decide) ?_
          rw [u2_at]
          refine ef_iconst (pc := 19) d27_19 (by decide) ?_
          refine ef_icmp_neT (pc := 20) d27_20 (t := 53) rfl (by omega) ?_
          exact fin _ _ hzz
  change Ef P _ 27 0 [some (vR x), some (vI a), some (vI b), none] [] _ _
  refine ef_aload_n (pc := 0) d27_0 rfl ?_
  refine ef_iconst (pc := 1) d27_1 (by decide) ?_
  refine eg_putI (pc := 2) d27_2 pf_27_28 (by assumption) (by decide) ?_
  refine ef_iconst (pc := 5) d27_5 (by decide) ?_
  refine ef_istore_n (pc := 6) d27_6 (ls' := [_, _, _, _]) rfl ?_
  exact loop 0 (Nat.zero_le _) (by rw [List.drop_zero])
