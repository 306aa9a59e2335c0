/-! The class: taking, fair steps, exploring, reading. Written by wip/whole/gen/c73.py. -/
theorem Up.hole {h : Nat} {u v : Mm} (a : Up h u v) : mT v = mT u := a.2.2.2.1
theorem c11 {P : Pg} {u : Mm} {g : Nat → Nat → Int} {h s t r q : Nat} {W : List Int} {kd nm rp en : Nat → Int} {sz : Nat} {c : RS} {K : Nat → List Int} {X : XR} {k : Int} (hC : CVs u g h s t r q W kd nm rp en sz c K X) (hsv : mS u (pSv P) = none) (hnx : c.1.2.2.2.1 ≤ 2147480000) (hst : c.2.2 ≤ 2147480000) : Ec P 51 11 [vR h, vI k] (sI u g) (fun x u' => ∃ v g' s' t' r' q', Up h u v ∧ Off h (h + 710) g g' ∧ ((¬ (0 ≤ k ∧ k < ((rxS kd c.1).length : Int)) ∧ u' = sI (mHole v 6) g' ∧ x = .inr (3, mT u) ∧ CVs v g' h s' t' r' q' W kd nm rp en sz c K X) ∨ (∃ n : Nat, k = (n : Int) ∧ n < (rxS kd c.1).length ∧ ((stpF kd nm rp en n c = none ∧ u' = sI (mHole v 6) g' ∧ x = .inr (2, mT u) ∧ CVs v g' h s' t' r' q' W kd nm rp en sz c K X) ∨ (∃ c', stpF kd nm rp en n c = some c' ∧ u' = sI v g' ∧ x = .inl (some (vI ((rxS kd c'.1).length : Int))) ∧ CVs v g' h s' t' r' q' W kd nm rp en sz c' K X ∧ c'.1.2.2.2.1 ≤ c.1.2.2.2.1 + 50 ∧ c'.2.2 = c.2.2 + 1))))) := by
  obtain ⟨hB, hW, hT, hS, hR, hK, hX⟩ := id hC
  obtain ⟨a0, a1, a2, a3, a4, a5, a6, a7, a8, a9, a10, a11, a12, a13, a14, a15, a16, a17, a18, a19, a20, a21⟩ := id hB
  obtain ⟨r0, r1, r2, r3, r4, r5, r6, r7, r8⟩ := id a17
  have w0 := hR.1.1
  change Ef P _ 11 0 [some (vR h), some (vI k)] [] _ _
  refine ef_aload_n (pc := 0) d11_0 rfl ?_
  refine eg_getR (pc := 1) d11_1 lf_0_40 (by assumption) (by decide) (by assumption) ?_
  refine ef_iload_n (pc := 4) d11_4 rfl ?_
  refine ef_callV (pc := 5) d11_5 lm_0_111 (as := [_]) rfl rfl (by assumption) rfl rfl (by decide) (Nat.le_of_ble_eq_true rfl) rfl (Nat.le_of_ble_eq_true rfl) ?_
  refine Ec.imp (c42 a17 w0) ?_
  rintro r5 u5 ⟨rfl, rfl⟩
  refine ef_if_ne (pc := 8) d11_8 (t := 19) rfl (fun h8 => ?_) (fun h8 => ?_)
  · have hk : 0 ≤ k ∧ k < ((rxS kd c.1).length : Int) := by
      by_cases hh : 0 ≤ k ∧ k < ((rxS kd c.1).length : Int)
      · exact hh
      · rw [if_neg hh] at h8; exact absurd rfl h8
    obtain ⟨n, rfl⟩ : ∃ n : Nat, k = (n : Int) := ⟨k.toNat, by omega⟩
    have hn : n < (rxS kd c.1).length := by omega
    refine ef_aload_n (pc := 19) d11_19 rfl ?_
    refine ef_iload_n (pc := 20) d11_20 rfl ?_
    refine ef_callV (pc := 21) d11_21 lm_0_131 (as := [_]) rfl rfl (by assumption) rfl rfl (by decide) (Nat.le_of_ble_eq_true rfl) rfl (Nat.le_of_ble_eq_true rfl) ?_
    refine Ec.imp (c12 hC hn hsv hnx hst) ?_
    rintro r21 u21 ⟨v, g1, s1, t1, r1x, q1, rfl, hup, o1, hx⟩
    rcases hx with ⟨c1, e1, hx1, hC1, n1, n2⟩ | ⟨e1, hx1, hC1⟩
    · cases hx1
      obtain ⟨hB1, hW1, hT1, hS1, hR1, hK1, hX1⟩ := id hC1
      obtain ⟨b0, b1, b2, b3, b4, b5, b6, b7, b8, b9, b10, b11, b12, b13, b14, b15, b16, b17, b18, b19, b20, b21⟩ := id hB1
      obtain ⟨k0, k1, k2, k3, k4, k5, k6, k7, k8⟩ := id b17
      have w1 := hR1.1.1
      refine ef_if_neT (pc := 24) d11_24 (t := 35) rfl (by decide) ?_
      refine ef_aload_n (pc := 35) d11_35 rfl ?_
      refine eg_getR (pc := 36) d11_36 lf_0_40 (by assumption) (by decide) (by assumption) ?_
      refine eg_getI (pc := 39) d11_39 lf_0_110 (by assumption) (by decide) ?_
      rw [w1]
      refine ef_iret (pc := 42) d11_42 rfl ?_
      exact ⟨v, g1, s1, t1, r1x, q1, hup, o1, Or.inr ⟨n, rfl, hn, Or.inr ⟨c1, e1, rfl, rfl, hC1, n1, n2⟩⟩⟩
    · cases hx1
      refine ef_if_neF (pc := 24) d11_24 (t := 35) rfl (by decide) ?_
      refine Ef.thr (pc := 27) (x := 2) (m := 6) d11_27 (show tLc 0 101 = none by decide +kernel) (show tLx 0 101 = some (2, 6) by decide +kernel) rfl (by decide +kernel) (by decide) ?_
      exact ⟨v, g1, s1, t1, r1x, q1, hup, o1, Or.inr ⟨n, rfl, hn, Or.inl ⟨e1, rfl, by rw [← hup.hole]; rfl, hC1⟩⟩⟩
  · have hno : ¬ (0 ≤ k ∧ k < ((rxS kd c.1).length : Int)) := by intro hh; rw [if_pos hh] at h8; exact absurd h8 (by decide)
    refine Ef.thr (pc := 11) (x := 3) (m := 6) d11_11 (show tLc 0 115 = none by decide +kernel) (show tLx 0 115 = some (3, 6) by decide +kernel) rfl (by decide +kernel) (by decide) ?_
    exact ⟨u, g, s, t, r, q, Up.refl, Off.refl, Or.inl ⟨hno, rfl, rfl, hC⟩⟩
def faF (kd nm rp en : Nat → Int) : Nat → RS → RS × (Nat × Bool)
  | 0, c => (c, (0, false))
  | n + 1, c => if (rxS kd c.1).length = 0 then (c, (0, false)) else match stpF kd nm rp en (olF c.2.1) c with
    | none => (c, (0, true))
    | some c' => ((faF kd nm rp en n c').1, ((faF kd nm rp en n c').2.1 + 1, (faF kd nm rp en n c').2.2))
theorem c13 {P : Pg} {u : Mm} {g : Nat → Nat → Int} {h s t r q : Nat} {W : List Int} {kd nm rp en : Nat → Int} {sz : Nat} {c : RS} {K : Nat → List Int} {X : XR} {k : Int} (hC : CVs u g h s t r q W kd nm rp en sz c K X) (hsv : mS u (pSv P) = none) (hnx : c.1.2.2.2.1 ≤ 2147470000) (hst : c.2.2 ≤ 2147470000) : Ec P 51 13 [vR h, vI k] (sI u g) (fun x u' => ∃ v g' s' t' r' q', Up h u v ∧ Off h (h + 710) g g' ∧ ((¬ (1 ≤ k ∧ k ≤ 30) ∧ u' = sI (mHole v 6) g' ∧ x = .inr (0, mT u) ∧ CVs v g' h s' t' r' q' W kd nm rp en sz c K X) ∨ (∃ (n : Nat) (F : RS × (Nat × Bool)), k = (n : Int) ∧ 1 ≤ n ∧ n ≤ 30 ∧ faF kd nm rp en n c = F ∧ CVs v g' h s' t' r' q' W kd nm rp en sz F.1 K X ∧ F.1.1.2.2.2.1 ≤ c.1.2.2.2.1 + 1500 ∧ F.1.2.2 ≤ c.2.2 + 30 ∧ ((F.2.2 = true ∧ u' = sI (mHole v 6) g' ∧ x = .inr (2, mT u)) ∨ (F.2.2 = false ∧ u' = sI v g' ∧ x = .inl (some (vI (F.2.1 : Int)))))))) := by
  have loop : ∀ (n : Nat), k = (n : Int) → 1 ≤ n → n ≤ 30 → ∀ (F : RS × (Nat × Bool)), faF kd nm rp en n c = F → ∀ (m j : Nat) (v : Mm) (g1 : Nat → Nat → Int) (s t r q : Nat) (c1 : RS), j + m = n → Up h u v → Off h (h + 710) g g1 → CVs v g1 h s t r q W kd nm rp en sz c1 K X → c1.1.2.2.2.1 ≤ c.1.2.2.2.1 + 50 * (j : Int) → c1.2.2 ≤ c.2.2 + (j : Int) → F = ((faF kd nm rp en m c1).1, ((faF kd nm rp en m c1).2.1 + j, (faF kd nm rp en m c1).2.2)) →
      Ef P 51 13 21 [some (vR h), some (vI (n : Int)), some (vI (j : Int))] [] (sI v g1) (fun x u' => ∃ v g' s' t' r' q', Up h u v ∧ Off h (h + 710) g g' ∧ CVs v g' h s' t' r' q' W kd nm rp en sz F.1 K X ∧ F.1.1.2.2.2.1 ≤ c.1.2.2.2.1 + 1500 ∧ F.1.2.2 ≤ c.2.2 + 30 ∧ ((F.2.2 = true ∧ u' = sI (mHole v 6) g' ∧ x = .inr (2, mT u)) ∨ (F.2.2 = false ∧ u' = sI v g' ∧ x = .inl (some (vI (F.2.1 : Int)))))) := by
    intro n hkn hn1 hn30 F hF m
    induction m with
    | zero =>
      intro j v g1 s t r q c1 hj hup o1 hC1 b1 b2 hFe
      have hjn : j = n := by omega
      subst hjn
      rw [show faF kd nm rp en 0 c1 = (c1, (0, false)) from rfl] at hFe
      subst hFe
      refine ef_iload_n (pc := 21) d13_21 rfl ?_
      refine ef_iload_n (pc := 22) d13_22 rfl ?_
      refine ef_icmp_geT (pc := 23) d13_23 (t := 64) rfl (by omega) ?_
      refine ef_iload_n (pc := 64) d13_64 rfl ?_
      refine ef_iret (pc := 65) d13_65 rfl ?_
      exact ⟨v, g1, s, t, r, q, hup, o1, hC1, by show c1.1.2.2.2.1 ≤ _; omega, by show c1.2.2 ≤ _; omega, Or.inr ⟨rfl, rfl, by show _ = Sum.inl (some (vI ((0 + j : Nat) : Int))); rw [Nat.zero_add]⟩⟩
    | succ m ih =>
      intro j v g1 s t r q c1 hj hup o1 hC1 b1 b2 hFe
      obtain ⟨hB, hW, hT, hS, hR, hK, hX⟩ := id hC1
      obtain ⟨a0, a1, a2, a3, a4, a5, a6, a7, a8, a9, a10, a11, a12, a13, a14, a15, a16, a17, a18, a19, a20, a21⟩ := id hB
      obtain ⟨r0, r1, r2, r3, r4, r5, r6, r7, r8⟩ := id a17
      have w0 := hR.1.1
      rw [faF] at hFe
      refine ef_iload_n (pc := 21) d13_21 rfl ?_
      refine ef_iload_n (pc := 22) d13_22 rfl ?_
      refine ef_icmp_geF (pc := 23) d13_23 (t := 64) rfl (by omega) ?_
      refine ef_aload_n (pc := 26) d13_26 rfl ?_
      refine eg_getR (pc := 27) d13_27 lf_0_40 (by assumption) (by decide) (by assumption) ?_
      refine eg_getI (pc := 30) d13_30 lf_0_110 (by assumption) (by decide) ?_
      rw [w0]
      refine ef_if_le (pc := 33) d13_33 (t := 64) rfl (fun h33 => ?_) (fun h33 => ?_)
      · have hz : (rxS kd c1.1).length = 0 := by omega
        rw [if_pos hz] at hFe
        subst hFe
        refine ef_iload_n (pc := 64) d13_64 rfl ?_
        refine ef_iret (pc := 65) d13_65 rfl ?_
        exact ⟨v, g1, s, t, r, q, hup, o1, hC1, by show c1.1.2.2.2.1 ≤ _; omega, by show c1.2.2 ≤ _; omega, Or.inr ⟨rfl, rfl, by show _ = Sum.inl (some (vI ((0 + j : Nat) : Int))); rw [Nat.zero_add]⟩⟩
      · have hz : 0 < (rxS kd c1.1).length := by omega
        rw [if_neg (by omega)] at hFe
        refine ef_aload_n (pc := 36) d13_36 rfl ?_
        refine ef_aload_n (pc := 37) d13_37 rfl ?_
        refine eg_getR (pc := 38) d13_38 lf_0_40 (by assumption) (by decide) (by assumption) ?_
        refine ef_callV (pc := 41) d13_41 lm_0_134 (as := []) rfl rfl (by assumption) rfl rfl (by decide) (Nat.le_of_ble_eq_true rfl) rfl (Nat.le_of_ble_eq_true rfl) ?_
        refine Ec.imp (c43 a17 w0 hz (rxS_len hS.2.1)) ?_
        rintro r41 u41 ⟨rfl, ko, rfl, hold⟩
        rw [← hR.2.2.1] at hold
        have hol := old_F hR.2.1 hold
        have hko : ko < (rxS kd c1.1).length := by rw [← hR.2.2.1]; exact hold.1
        rw [hol] at hFe
        refine ef_callV (pc := 44) d13_44 lm_0_131 (as := [_]) rfl rfl (by assumption) rfl rfl (by decide) (Nat.le_of_ble_eq_true rfl) rfl (Nat.le_of_ble_eq_true rfl) ?_
        refine Ec.imp (c12 hC1 hko (by rw [hup.1]; exact hsv) (by omega) (by omega)) ?_
        rintro r44 u44 ⟨v2, g2, s2, t2, r2x, q2, rfl, hup2, o2, hx⟩
        rcases hx with ⟨c2, e2, hx2, hC2, n1, n2⟩ | ⟨e2, hx2, hC2⟩
        · cases hx2
          rw [e2] at hFe
          simp only at hFe
          refine ef_if_neT (pc := 47) d13_47 (t := 58) rfl (by decide) ?_
          refine ef_iinc (pc := 58) d13_58 (ls' := [_, _, _]) (z := ((j + 1 : Nat) : Int)) rfl (by decide) (by omega) ⟨by omega, by omega⟩ rfl ?_
          refine ef_goto (pc := 61) d13_61 (t := 21) rfl ?_
          exact ih (j + 1) v2 g2 s2 t2 r2x q2 c2 (by omega) (hup.trans hup2) (o1.trans o2) hC2 (by omega) (by omega) (by rw [hFe]; show _ = ((faF kd nm rp en m c2).1, ((faF kd nm rp en m c2).2.1 + (j + 1), (faF kd nm rp en m c2).2.2)); rw [show (faF kd nm rp en m c2).2.1 + (j + 1) = (faF kd nm rp en m c2).2.1 + 1 + j by omega])
        · cases hx2
          rw [e2] at hFe
          simp only at hFe
          subst hFe
          refine ef_if_neF (pc := 47) d13_47 (t := 58) rfl (by decide) ?_
          refine Ef.thr (pc := 50) (x := 2) (m := 6) d13_50 (show tLc 0 101 = none by decide +kernel) (show tLx 0 101 = some (2, 6) by decide +kernel) rfl (by decide +kernel) (by decide) ?_
          exact ⟨v2, g2, s2, t2, r2x, q2, hup.trans hup2, o1.trans o2, hC2, by show c1.1.2.2.2.1 ≤ _; omega, by show c1.2.2 ≤ _; omega, Or.inl ⟨rfl, rfl, by rw [← (hup.trans hup2).hole]; rfl⟩⟩
  change Ef P _ 13 0 [some (vR h), some (vI k), none] [] _ _
  refine ef_iload_n (pc := 0) d13_0 rfl ?_
  refine ef_iconst (pc := 1) d13_1 (by decide) ?_
  refine ef_icmp_lt (pc := 2) d13_2 (t := 11) rfl (fun h2 => ?_) (fun h2 => ?_)
  · refine Ef.thr (pc := 11) (x := 0) (m := 6) d13_11 (show tLc 0 68 = none by decide +kernel) (show tLx 0 68 = some (0, 6) by decide +kernel) rfl (by decide +kernel) (by decide) ?_
    exact ⟨u, g, s, t, r, q, Up.refl, Off.refl, Or.inl ⟨by omega, rfl, rfl, hC⟩⟩
  · refine ef_iload_n (pc := 5) d13_5 rfl ?_
    refine ef_bipush (pc := 6) d13_6 (by decide) ?_
    refine ef_icmp_le (pc := 8) d13_8 (t := 19) rfl (fun h8 => ?_) (fun h8 => ?_)
    · obtain ⟨n, rfl⟩ : ∃ n : Nat, k = (n : Int) := ⟨k.toNat, by omega⟩
      refine ef_iconst (pc := 19) d13_19 (by decide) ?_
      refine ef_istore_n (pc := 20) d13_20 (ls' := [_, _, _]) rfl ?_
      refine Ef.imp (loop n rfl (by omega) (by omega) _ rfl n 0 u g s t r q c (by omega) Up.refl Off.refl hC (by omega) (by omega) rfl) ?_
      rintro x u1 ⟨v, g1, s1, t1, r1, q1, hup, o1, hC1, b1, b2, hx⟩
      exact ⟨v, g1, s1, t1, r1, q1, hup, o1, Or.inr ⟨n, _, rfl, by omega, by omega, rfl, hC1, b1, b2, hx⟩⟩
    · refine Ef.thr (pc := 11) (x := 0) (m := 6) d13_11 (show tLc 0 68 = none by decide +kernel) (show tLx 0 68 = some (0, 6) by decide +kernel) rfl (by decide +kernel) (by decide) ?_
      exact ⟨u, g, s, t, r, q, Up.refl, Off.refl, Or.inl ⟨by omega, rfl, rfl, hC⟩⟩
def lsD (L : List XS) : Int := match L.getLast? with
  | some y => y.2.2
  | none => 0
def exF (kd nm rp en : Nat → Int) (lim : Nat) (A : SS) (a b : Int) : XR := ((xOut kd nm rp en lim 30 0 0 [(A, (teS kd nm rp en A, 0))]).1.length, (b01 (decide ((xOut kd nm rp en lim 30 0 0 [(A, (teS kd nm rp en A, 0))]).1.length < lim)), ((xOut kd nm rp en lim 30 0 0 [(A, (teS kd nm rp en A, 0))]).2, (nrF a b (xOut kd nm rp en lim 30 0 0 [(A, (teS kd nm rp en A, 0))]).1, lsD (xOut kd nm rp en lim 30 0 0 [(A, (teS kd nm rp en A, 0))]).1))))
theorem lsD_at {g : Nat → Nat → Int} {x : Nat} {L : List XS} (h : Ex g x L) : lsD L = (if L.length = 0 then 0 else g (x + 2) (L.length - 1)) := by
  unfold lsD
  rw [List.getLast?_eq_getElem?]
  by_cases hl : L.length = 0
  · have : L = [] := List.length_eq_zero_iff.mp hl
    subst this
    rfl
  · rw [if_neg hl]
    obtain ⟨y, hy, -⟩ := get_of_lt (L := L) (i := L.length - 1) (by omega)
    rw [hy, (h.2 _ y hy).2.2]
theorem c21 {P : Pg} {u : Mm} {g : Nat → Nat → Int} {h s t r q : Nat} {W : List Int} {kd nm rp en : Nat → Int} {sz : Nat} {c : RS} {K : Nat → List Int} {X : XR} {k a b : Int} (hC : CVs u g h s t r q W kd nm rp en sz c K X) (hsv : mS u (pSv P) = none) (hnx : c.1.2.2.2.1 ≤ 2147480000) : Ec P 51 21 [vR h, vI k, vI a, vI b] (sI u g) (fun x u' => ∃ g', Off h (h + 710) g g' ∧ ((¬ ((1 ≤ k ∧ k ≤ 30) ∧ (0 ≤ a ∧ a < 6) ∧ (0 ≤ b ∧ b < 6)) ∧ u' = sI (mHole u 6) g' ∧ x = .inr (0, mT u) ∧ CVs u g' h s t r q W kd nm rp en sz c K X) ∨ (∃ n : Nat, k = (n : Int) ∧ 1 ≤ n ∧ n ≤ 30 ∧ ((0 ≤ a ∧ a < 6) ∧ (0 ≤ b ∧ b < 6)) ∧ u' = sI u g' ∧ x = .inl (some (vI ((exF kd nm rp en n c.1 a b).1 : Int))) ∧ CVs u g' h s t r q W kd nm rp en sz c K (exF kd nm rp en n c.1 a b)))) := by
  obtain ⟨hB, hW, hT, hS, hR, hK, hX⟩ := id hC
  obtain ⟨a0, a1, a2, a3, a4, a5, a6, a7, a8, a9, a10, a11, a12, a13, a14, a15, a16, a17, a18, a19, a20, a21⟩ := id hB
  obtain ⟨y0, y1, y2, y3, y4, y5, y6, y7⟩ := id a19
  obtain ⟨kd1, nm1, rp1, en1, hch, ht, hok⟩ := id hT
  obtain ⟨sS, vS, lS, tS⟩ := id hS
  change Ef P _ 21 0 [some (vR h), some (vI k), some (vI a), some (vI b)] [] _ _
  refine ef_iload_n (pc := 0) d21_0 rfl ?_
  refine ef_iconst (pc := 1) d21_1 (by decide) ?_
  refine ef_icmp_lt (pc := 2) d21_2 (t := 25) rfl (fun h2 => ?_) (fun h2 => ?_)
  · have hno : ¬ ((1 ≤ k ∧ k ≤ 30) ∧ (0 ≤ a ∧ a < 6) ∧ (0 ≤ b ∧ b < 6)) := fun hh => by omega
    refine Ef.thr (pc := 25) (x := 0) (m := 6) d21_25 (show tLc 0 68 = none by decide +kernel) (show tLx 0 68 = some (0, 6) by decide +kernel) rfl (by decide +kernel) (by decide) ?_
    exact ⟨g, Off.refl, Or.inl ⟨hno, rfl, rfl, hC⟩⟩
  · refine ef_iload_n (pc := 5) d21_5 rfl ?_
    refine ef_bipush (pc := 6) d21_6 (by decide) ?_
    refine ef_icmp_gt (pc := 8) d21_8 (t := 25) rfl (fun h8 => ?_) (fun h8 => ?_)
    · have hno : ¬ ((1 ≤ k ∧ k ≤ 30) ∧ (0 ≤ a ∧ a < 6) ∧ (0 ≤ b ∧ b < 6)) := fun hh => by omega
      refine Ef.thr (pc := 25) (x := 0) (m := 6) d21_25 (show tLc 0 68 = none by decide +kernel) (show tLx 0 68 = some (0, 6) by decide +kernel) rfl (by decide +kernel) (by decide) ?_
      exact ⟨g, Off.refl, Or.inl ⟨hno, rfl, rfl, hC⟩⟩
    · refine ef_iload_n (pc := 11) d21_11 rfl ?_
      refine ef_callS (pc := 12) d21_12 lm_0_177 (as := [_]) rfl rfl rfl (Nat.le_of_ble_eq_true rfl) rfl (Nat.le_of_ble_eq_true rfl) ?_
      refine Ec.imp (c20) ?_
      rintro r12 u12 ⟨rfl, rfl⟩
      refine ef_if_eq (pc := 15) d21_15 (t := 25) rfl (fun h15 => ?_) (fun h15 => ?_)
      · have hno : ¬ ((1 ≤ k ∧ k ≤ 30) ∧ (0 ≤ a ∧ a < 6) ∧ (0 ≤ b ∧ b < 6)) := fun hh => by rw [if_pos hh.2.1] at h15; exact absurd h15 (by decide)
        refine Ef.thr (pc := 25) (x := 0) (m := 6) d21_25 (show tLc 0 68 = none by decide +kernel) (show tLx 0 68 = some (0, 6) by decide +kernel) rfl (by decide +kernel) (by decide) ?_
        exact ⟨g, Off.refl, Or.inl ⟨hno, rfl, rfl, hC⟩⟩
      · have ha : 0 ≤ a ∧ a < 6 := by
          by_cases hh : 0 ≤ a ∧ a < 6
          · exact hh
          · rw [if_neg hh] at h15; exact absurd rfl h15
        refine ef_iload_n (pc := 18) d21_18 rfl ?_
        refine ef_callS (pc := 19) d21_19 lm_0_177 (as := [_]) rfl rfl rfl (Nat.le_of_ble_eq_true rfl) rfl (Nat.le_of_ble_eq_true rfl) ?_
        refine Ec.imp (c20) ?_
        rintro r19 u19 ⟨rfl, rfl⟩
        refine ef_if_ne (pc := 22) d21_22 (t := 33) rfl (fun h22 => ?_) (fun h22 => ?_)
        · have hb : 0 ≤ b ∧ b < 6 := by
            by_cases hh : 0 ≤ b ∧ b < 6
            · exact hh
            · rw [if_neg hh] at h22; exact absurd rfl h22
          obtain ⟨n, rfl⟩ : ∃ n : Nat, k = (n : Int) := ⟨k.toNat, by omega⟩
          refine ef_aload_n (pc := 33) d21_33 rfl ?_
          refine eg_getR (pc := 34) d21_34 lf_0_56 (by assumption) (by decide) (by assumption) ?_
          refine ef_aload_n (pc := 37) d21_37 rfl ?_
          refine eg_getR (pc := 38) d21_38 lf_0_30 (by assumption) (by decide) (by assumption) ?_
          refine ef_iload_n (pc := 41) d21_41 rfl ?_
          refine ef_aload_n (pc := 42) d21_42 rfl ?_
          refine eg_getR (pc := 43) d21_43 lf_0_16 (by assumption) (by decide) (by assumption) ?_
          refine ef_aload_n (pc := 46) d21_46 rfl ?_
          refine eg_getR (pc := 47) d21_47 lf_0_23 (by assumption) (by decide) (by assumption) ?_
          refine ef_callV (pc := 50) d21_50 lm_0_184 (as := [_, _, _, _]) rfl rfl (by assumption) rfl rfl (by decide) (Nat.le_of_ble_eq_true rfl) rfl (Nat.le_of_ble_eq_true rfl) ?_
          refine Ec.imp (c25 (rp := rp) (lim := n) a19 a14 a13 a15 (by omega) (by omega) (by omega) hsv hch hok vS sS lS tS hnx (by omega) (by omega) kd1 nm1 rp1 en1 rfl) ?_
          rintro r50 u50 ⟨g1, rfl, rfl, o1, e1, l1, x1, f4, f5, f6⟩
          generalize hRES : xOut kd nm rp en n 30 0 0 [(c.1, (teS kd nm rp en c.1, 0))] = RES at e1 l1 x1 f4 f5
          have hdv : ∀ y, y ∈ RES.1 → 0 ≤ y.2.2 ∧ y.1.1.length ≤ 20 := fun y hy => by
            obtain ⟨i, hi⟩ := List.getElem?_of_mem hy
            have := x1 i y hi
            exact ⟨this.2.2.2.1, this.1.2.2.1⟩
          refine ef_aload_n (pc := 53) d21_53 rfl ?_
          refine eg_getR (pc := 54) d21_54 lf_0_56 (by assumption) (by decide) (by assumption) ?_
          refine ef_iload_n (pc := 57) d21_57 rfl ?_
          refine ef_iload_n (pc := 58) d21_58 rfl ?_
          refine ef_callV (pc := 59) d21_59 lm_0_188 (as := [_, _]) rfl rfl (by assumption) rfl rfl (by decide) (Nat.le_of_ble_eq_true rfl) rfl (Nat.le_of_ble_eq_true rfl) ?_
          refine Ec.imp (Ec.deep (by omega) (c27 (d := 0) (a := a) (b := b) a19 e1 l1 hdv)) ?_
          rintro r59 u59 ⟨g2, rfl, rfl, hg2⟩
          have n2 : ∀ p, p ≠ h + 66 → g2 p = g1 p := fun p hp => by rw [hg2, u2_ne hp]
          have w3 : g2 (h + 66) 3 = (RES.1.length : Int) := by rw [hg2, u2_ni (by omega)]; exact e1.1
          have hex : exF kd nm rp en n c.1 a b = (RES.1.length, (b01 (decide (RES.1.length < n)), (RES.2, (nrF a b RES.1, lsD RES.1)))) := by unfold exF; rw [hRES]
          refine ef_aload_n (pc := 62) d21_62 rfl ?_
          refine eg_getR (pc := 63) d21_63 lf_0_56 (by assumption) (by decide) (by assumption) ?_
          refine eg_getI (pc := 66) d21_66 lf_0_192 (by assumption) (by decide) ?_
          rw [w3]
          refine ef_iret (pc := 69) d21_69 rfl ?_
          have og : ∀ p, (p < h + 8 ∨ h + 13 ≤ p) → (p < h + 66 ∨ h + 704 ≤ p) → g2 p = g p := fun p h1 h2 => (n2 p (by omega)).trans (o1 p (by omega) (by omega))
          refine ⟨g2, fun p hp => og p (by omega) (by omega), Or.inr ⟨n, rfl, by omega, by omega, ⟨ha, hb⟩, rfl, by rw [hex], hB, hW.of (by rw [og h (by omega) (by omega)]) (og _ (by omega) (by omega)), hT.of (fun p h1 h2 => og p (by omega) (by omega)), hS.of (fun p h1 h2 => og p (by omega) (by omega)), hR.of (by rw [og h (by omega) (by omega)]) (fun p h1 h2 => og p (by omega) (by omega)), hK.of (fun p h1 h2 => og p (by omega) (by omega)), ?_⟩⟩
          rw [hex]
          refine ⟨w3, ?_, ?_, ?_, l1, ?_, ?_⟩
          · show g2 (h + 66) 4 = b01 (decide (RES.1.length < n)); rw [hg2, u2_ni (by omega)]; exact f4
          · show g2 (h + 66) 5 = RES.2; rw [hg2, u2_ni (by omega)]; exact f5
          · show g2 (h + 66) 6 = nrF a b RES.1; rw [hg2, u2_at]
          · show lsD RES.1 = (if RES.1.length = 0 then 0 else g2 (h + 66 + 2) (RES.1.length - 1)); rw [n2 (h + 66 + 2) (by omega)]; exact lsD_at e1
          · show b01 (decide (RES.1.length < n)) = 0 ∨ b01 (decide (RES.1.length < n)) = 1; cases decide (RES.1.length < n); exact Or.inl rfl; exact Or.inr rfl
        · have hno : ¬ ((1 ≤ k ∧ k ≤ 30) ∧ (0 ≤ a ∧ a < 6) ∧ (0 ≤ b ∧ b < 6)) := fun hh => by rw [if_pos hh.2.2] at h22; exact absurd h22 (by decide)
          refine Ef.thr (pc := 25) (x := 0) (m := 6) d21_25 (show tLc 0 68 = none by decide +kernel) (show tLx 0 68 = some (0, 6) by decide +kernel) rfl (by decide +kernel) (by decide) ?_
          exact ⟨g, Off.refl, Or.inl ⟨hno, rfl, rfl, hC⟩⟩
theorem TmOk.zero {kd nm en : Nat → Int} : TmOk kd nm en 0 (fun _ => 0) := ⟨⟨by decide, fun k _ hk => absurd hk (by omega)⟩, fun k m hk => absurd hk (by omega), fun n hn => absurd hn (by omega)⟩
theorem te_nil {kd nm rp en : Nat → Int} : teS kd nm rp en ([], ([], ([], (0, false)))) = [48] := rfl
theorem rx_nil {kd : Nat → Int} : rxS kd ([], ([], ([], (0, false)))) = [] := rfl
/-- what reading does with a term -/
def bgF (kd nm rp en : Nat → Int) (sz : Nat) : Option RS := if (begF kd nm en sz).2.2.2.2 = false ∧ (teS kd nm rp en (begF kd nm en sz)).length ≤ 240 then some (begF kd nm en sz, ((rxS kd (begF kd nm en sz)).map (dtL [] [] 0), 0)) else none
theorem beg_nx {kd nm en : Nat → Int} {sz : Nat} (hv : TV en sz) : (begF kd nm en sz).2.2.2.1 ≤ 50 := by
  have := (runF_nx (kd := kd) (nm := nm) 50 0 sz (-1) 0 1 ([], ([], ([], (0, false)))) hv.2 (Nat.zero_le _)).2
  have h2 := hv.1
  unfold begF
  have h3 : (([], ([], ([], (0, false)))) : SS).2.2.2.1 = 0 := rfl
  rw [h3] at this
  omega
theorem c6 {P : Pg} {u : Mm} {g : Nat → Nat → Int} {h s t r q : Nat} {W : List Int} {kd nm rp en : Nat → Int} {sz : Nat} {c : RS} {K : Nat → List Int} {X : XR} (hC : CVs u g h s t r q W kd nm rp en sz c K X) (hsv : mS u (pSv P) = none) : Ec P 52 6 [vR h] (sI u g) (fun x u' => ∃ v g' s' t' r' q' kd' nm' rp' en', Up h u v ∧ Off h (h + 710) g g' ∧ ((∃ y, paF (nsp W) (0, (0, (kd, (nm, (rp, en))))) = .inl y ∧ u' = sI (mHole v 6) g' ∧ x = .inr (y, mT u) ∧ CVs v g' h s' t' r' q' W kd' nm' rp' en' 0 (([], ([], ([], (0, false)))), ([], 0)) K (0, (0, (0, (-1, 0))))) ∨ (∃ S', paF (nsp W) (0, (0, (kd, (nm, (rp, en))))) = .inr S' ∧ kd' = S'.2.2.1 ∧ nm' = S'.2.2.2.1 ∧ rp' = S'.2.2.2.2.1 ∧ en' = S'.2.2.2.2.2 ∧ ((bgF kd' nm' rp' en' S'.2.1 = none ∧ u' = sI (mHole v 6) g' ∧ x = .inr (2, mT u) ∧ CVs v g' h s' t' r' q' W kd' nm' rp' en' 0 (([], ([], ([], (0, false)))), ([], 0)) K (0, (0, (0, (-1, 0))))) ∨ (∃ c', bgF kd' nm' rp' en' S'.2.1 = some c' ∧ u' = sI v g' ∧ x = .inl (some (vI (S'.2.1 : Int))) ∧ CVs v g' h s' t' r' q' W kd' nm' rp' en' S'.2.1 c' K (0, (0, (0, (-1, 0)))) ∧ c'.1.2.2.2.1 ≤ 50 ∧ c'.2.2 = 0))))) := by
  obtain ⟨hB, hW, hT, hS, hR, hK, hX⟩ := id hC
  obtain ⟨a0, a1, a2, a3, a4, a5, a6, a7, a8, a9, a10, a11, a12, a13, a14, a15, a16, a17, a18, a19, a20, a21⟩ := id hB
  obtain ⟨p0, p1, p2, p3, p4, p5, p6, p7, p8⟩ := id a15
  obtain ⟨z0, z1, z2, z3, z4, z5, z6, z7, z8⟩ := id a16
  obtain ⟨r0, r1, r2, r3, r4, r5, r6, r7, r8⟩ := id a17
  obtain ⟨y0, y1, y2, y3, y4, y5, y6, y7⟩ := id a19
  obtain ⟨m0, m1, m2, m3, m4, m5, m6, m7, m8⟩ := id a14
  obtain ⟨k0, k1, k2, k3, k4, k5, k6, k7, k8, k9, k10⟩ := id a13
  obtain ⟨kd1, nm1, rp1, en1, hch, ht0, hok0⟩ := id hT
  obtain ⟨w1, w2, w3, w4⟩ := id hW
  change Ef P _ 6 0 [some (vR h)] [] _ _
  refine ef_aload_n (pc := 0) d6_0 rfl ?_
  refine eg_getR (pc := 1) d6_1 lf_0_30 (by assumption) (by decide) (by assumption) ?_
  refine ef_callV (pc := 4) d6_4 lm_0_61 (as := []) rfl rfl (by assumption) rfl rfl (by decide) (Nat.le_of_ble_eq_true rfl) rfl (Nat.le_of_ble_eq_true rfl) ?_
  refine Ec.imp (c45 a15) ?_
  rintro r4 u4 ⟨g1, rfl, rfl, o1, sr1, fl1, t1⟩
  refine ef_aload_n (pc := 7) d6_7 rfl ?_
  refine eg_getR (pc := 8) d6_8 lf_0_40 (by assumption) (by decide) (by assumption) ?_
  refine ef_callV (pc := 11) d6_11 lm_0_82 (as := []) rfl rfl (by assumption) rfl rfl (by decide) (Nat.le_of_ble_eq_true rfl) rfl (Nat.le_of_ble_eq_true rfl) ?_
  refine Ec.imp (c33 a17) ?_
  rintro r11 u11 ⟨g2, rfl, rfl, o2, f2⟩
  refine ef_aload_n (pc := 14) d6_14 rfl ?_
  refine ef_iconst (pc := 15) d6_15 (by decide) ?_
  refine eg_putI (pc := 16) d6_16 pf_6_83 (by assumption) (by decide) ?_
  refine ef_aload_n (pc := 19) d6_19 rfl ?_
  refine eg_getR (pc := 20) d6_20 lf_0_56 (by assumption) (by decide) (by assumption) ?_
  refine ef_callV (pc := 23) d6_23 lm_0_86 (as := []) rfl rfl (by assumption) rfl rfl (by decide) (Nat.le_of_ble_eq_true rfl) rfl (Nat.le_of_ble_eq_true rfl) ?_
  refine Ec.imp (c24 a19) ?_
  rintro r23 u23 ⟨g4, rfl, rfl, o4, x3, x4, x5, x6⟩
  have o123 : ∀ a, (a < s ∨ s + 21 ≤ a) → (a < r ∨ r + 4 ≤ a) → a ≠ h → a ≠ h + 66 → g4 a = g a := fun a h1 h2 h3 h4 => by
    rw [o4 a (by omega), u2_ne h3, o2 a (by omega), o1 a (by omega)]
  have gh : ∀ k, k ≠ 8 → g4 h k = g h k := fun k hk => by rw [o4 h (by omega), u2_ni hk, o2 h (by omega), o1 h (by omega)]
  have w1b : g4 h 1 = (W.length : Int) := by rw [gh 1 (by decide)]; exact w1
  have w2b : Row (g4 (h + 1)) W := by rw [o123 (h + 1) (by omega) (by omega) (by omega) (by omega)]; exact w2
  have e4 : ∀ k, 1 ≤ k → k ≤ 4 → g4 (h + 2 + k) = g (h + 2 + k) := fun k h1 h2 => o123 _ (by omega) (by omega) (by omega) (by omega)
  have hrow : (g4 (h + 2 + 1), (g4 (h + 2 + 2), (g4 (h + 2 + 3), g4 (h + 2 + 4)))) = (kd, (nm, (rp, en))) := by rw [e4 1 (by omega) (by omega), e4 2 (by omega) (by omega), e4 3 (by omega) (by omega), e4 4 (by omega) (by omega), show g (h + 2 + 1) = kd from kd1, show g (h + 2 + 2) = nm from nm1, show g (h + 2 + 3) = rp from rp1, show g (h + 2 + 4) = en from en1]
  have hcr : CR g4 (h + 2) := fun k => by rw [e4 2 (by omega) (by omega), show g (h + 2 + 2) = nm from nm1]; exact hch k
  have base : ∀ g5, (∀ a, (a < h + 2 ∨ h + 8 ≤ a) → ¬ (h + 8 ≤ a ∧ a < h + 13) → ¬ (t ≤ a ∧ a < t + 21) → g5 a = g4 a) → CR g5 (h + 2) → CVs u g5 h s t r q W (g5 (h + 3)) (g5 (h + 4)) (g5 (h + 5)) (g5 (h + 6)) 0 (([], ([], ([], (0, false)))), ([], 0)) K (0, (0, (0, (-1, 0)))) := by
    intro g5 hg hc5
    have hg5h : g5 h = g4 h := hg h (by omega) (by omega) (by omega)
    have sr5 : SR g4 s ([], ([], ([], (0, false)))) := by
      have sr1b : SR g1 s ([], ([], ([], (0, false)))) := ⟨sr1.1, sr1.2.1, sr1.2.2.1, sr1.2.2.2, fl1, by decide, by decide, by decide⟩
      exact sr1b.off (fun a h1 h2 => by rw [o4 a (by omega), u2_ne (by omega), o2 a (by omega)])
    have t5 : Ln g4 (s + 19) [48] := t1.off (fun a h1 h2 => by rw [o4 a (by omega), u2_ne (by omega), o2 a (by omega)])
    refine ⟨hB, hW.of (by rw [hg5h, gh 1 (by decide)]) ((hg _ (by omega) (by omega) (by omega)).trans (o123 _ (by omega) (by omega) (by omega) (by omega))), ⟨rfl, rfl, rfl, rfl, hc5, _, TmOk.zero⟩, ⟨sr5.off (fun a h1 h2 => hg a (by omega) (by omega) (by omega)), Vd.nil, ?_, by rw [te_nil]; decide⟩, ?_, ?_, ?_⟩
    · rw [te_nil]; exact t5.off (fun a h1 h2 => hg a (by omega) (by omega) (by omega))
    · refine ⟨?_, (fun i c hh => by cases hh), rfl, ?_, Int.le_refl _, fun x hx => absurd hx (List.not_mem_nil)⟩
      · rw [rx_nil]; exact (f2.off (g' := g4) (fun a h1 h2 => by rw [o4 a (by omega), u2_ne (by omega)])).off (fun a h1 h2 => hg a (by omega) (by omega) (by omega))
      · rw [hg5h, o4 h (by omega), u2_at]
    · exact hK.of (fun a h1 h2 => (hg a (by omega) (by omega) (by omega)).trans (o123 a (by omega) (by omega) (by omega) (by omega)))
    · have hx : g5 (h + 66) = g4 (h + 66) := hg _ (by omega) (by omega) (by omega)
      refine ⟨?_, ?_, ?_, ?_, by decide, rfl, Or.inl rfl⟩
      · rw [hx]; exact x3
      · rw [hx]; exact x4
      · rw [hx]; exact x5
      · rw [hx]; exact x6
  refine ef_aload_n (pc := 26) d6_26 rfl ?_
  refine eg_getR (pc := 27) d6_27 lf_0_16 (by assumption) (by decide) (by assumption) ?_
  refine ef_aload_n (pc := 30) d6_30 rfl ?_
  refine eg_getR (pc := 31) d6_31 lf_0_9 (by assumption) (by decide) (by assumption) ?_
  refine ef_aload_n (pc := 34) d6_34 rfl ?_
  refine eg_getI (pc := 35) d6_35 lf_0_71 (by assumption) (by decide) ?_
  rw [w1b]
  refine ef_callV (pc := 38) d6_38 lm_0_89 (as := [_, _]) rfl rfl (by assumption) rfl rfl (by decide) (Nat.le_of_ble_eq_true rfl) rfl (Nat.le_of_ble_eq_true rfl) ?_
  refine Ec.imp (Ec.deep (by omega) (c69 (g := g4) a13 hsv a10 (by omega) w2b w3 (fun c hc => by have := w4 c hc; omega))) ?_
  rintro r38 u38 ⟨g5, o5, hq5⟩
  rcases hq5 with ⟨S5, e5, rfl, rfl, s5⟩ | ⟨y5, e5, rfl, rfl⟩
  rotate_left
  · rw [hrow] at e5
    exact (show pHs P 6 = [] ∧ _ from ⟨rfl, u, g5, s, t, r, q, _, _, _, _, Up.refl, fun a ha => (o5.1 a (by omega)).trans (o123 a (by omega) (by omega) (by omega) (by omega)), Or.inl ⟨y5, e5, rfl, rfl, base g5 (fun a h1 _ _ => o5.1 a (by omega)) (o5.2 hcr)⟩⟩)
  rw [hrow] at e5
  obtain ⟨⟨ht, hok⟩, hrp01⟩ := pa_ok rfl e5
  obtain ⟨v1, v2, v3, v4, v5, v6, v7, v8, v9⟩ := id s5
  have hcr5 := o5.2 hcr
  have hch5 : ∀ n, 0 ≤ S5.2.2.2.1 n ∧ S5.2.2.2.1 n < 65536 := fun n => by rw [← v5]; exact hcr5 n
  refine ef_aload_n (pc := 41) d6_41 rfl ?_
  refine eg_getR (pc := 42) d6_42 lf_0_34 (by assumption) (by decide) (by assumption) ?_
  refine ef_aload_n (pc := 45) d6_45 rfl ?_
  refine eg_getR (pc := 46) d6_46 lf_0_16 (by assumption) (by decide) (by assumption) ?_
  refine ef_callV (pc := 49) d6_49 lm_0_93 (as := [_]) rfl rfl (by assumption) rfl rfl (by decide) (Nat.le_of_ble_eq_true rfl) rfl (Nat.le_of_ble_eq_true rfl) ?_
  refine Ec.imp (Ec.deep (by omega) (c46 (d := 0) (sz := S5.2.1) a16 a13 (by omega) hch5 hok.1 v1 v4 v5 v7)) ?_
  rintro r49 u49 ⟨g6, rfl, rfl, o6, s6⟩
  refine ef_if_eq (pc := 52) d6_52 (t := 73) rfl (fun h52 => ?_) (fun h52 => ?_)
  · have hfl : (begF S5.2.2.1 S5.2.2.2.1 S5.2.2.2.2.2 S5.2.1).2.2.2.2 = true := by
      cases hq : (begF S5.2.2.1 S5.2.2.2.1 S5.2.2.2.2.2 S5.2.1).2.2.2.2
      · rw [hq] at h52; exact absurd h52 (by decide)
      · rfl
    have hn : bgF S5.2.2.1 S5.2.2.2.1 S5.2.2.2.2.1 S5.2.2.2.2.2 S5.2.1 = none := if_neg (fun hh => by rw [hfl] at hh; cases hh.1)
    have g6k : ∀ k, 3 ≤ k → k ≤ 6 → g6 (h + k) = g5 (h + k) := fun k h1 h2 => o6 _ (by omega)
    refine Ef.thr (pc := 73) (x := 2) (m := 6) d6_73 (show tLc 0 101 = none by decide +kernel) (show tLx 0 101 = some (2, 6) by decide +kernel) rfl (by decide +kernel) (by decide) ?_
    exact ⟨u, g6, s, t, r, q, _, _, _, _, Up.refl, fun a ha => (o6 a (by omega)).trans ((o5.1 a (by omega)).trans (o123 a (by omega) (by omega) (by omega) (by omega))), Or.inr ⟨S5, e5, (g6k 3 (by omega) (by omega)).trans v4, (g6k 4 (by omega) (by omega)).trans v5, (g6k 5 (by omega) (by omega)).trans v6, (g6k 6 (by omega) (by omega)).trans v7, Or.inl ⟨by rw [show g6 (h + 3) = _ from (g6k 3 (by omega) (by omega)).trans v4, show g6 (h + 4) = _ from (g6k 4 (by omega) (by omega)).trans v5, show g6 (h + 5) = _ from (g6k 5 (by omega) (by omega)).trans v6, show g6 (h + 6) = _ from (g6k 6 (by omega) (by omega)).trans v7]; exact hn, rfl, rfl, base g6 (fun a h1 h2 h3 => (o6 a (by omega)).trans (o5.1 a (by omega))) (fun k => by rw [o6 _ (by omega)]; exact hcr5 k)⟩⟩⟩
  · have hfl : (begF S5.2.2.1 S5.2.2.2.1 S5.2.2.2.2.2 S5.2.1).2.2.2.2 = false := by
      cases hq : (begF S5.2.2.1 S5.2.2.2.1 S5.2.2.2.2.2 S5.2.1).2.2.2.2
      · rfl
      · rw [hq] at h52; exact absurd rfl h52
    have vb := beg_vd hok hfl
    refine ef_aload_n (pc := 55) d6_55 rfl ?_
    refine eg_getR (pc := 56) d6_56 lf_0_23 (by assumption) (by decide) (by assumption) ?_
    refine ef_aload_n (pc := 59) d6_59 rfl ?_
    refine eg_getR (pc := 60) d6_60 lf_0_34 (by assumption) (by decide) (by assumption) ?_
    refine ef_aload_n (pc := 63) d6_63 rfl ?_
    refine eg_getR (pc := 64) d6_64 lf_0_16 (by assumption) (by decide) (by assumption) ?_
    refine ef_callV (pc := 67) d6_67 lm_0_97 (as := [_, _]) rfl rfl (by assumption) rfl rfl (by decide) (Nat.le_of_ble_eq_true rfl) rfl (Nat.le_of_ble_eq_true rfl) ?_
    refine Ec.imp (Ec.deep (by omega) (c58v (ht := ht) (rp := S5.2.2.2.2.1) a14 a13 a16 (by omega) (by omega) hsv hch5 hok vb s6 ((o6 _ (by omega)).trans v4) ((o6 _ (by omega)).trans v5) ((o6 _ (by omega)).trans v6) ((o6 _ (by omega)).trans v7))) ?_
    rintro r67 u67 ⟨g7, rfl, hq7⟩
    rcases hq7 with ⟨l7, rfl, t7, o7⟩ | ⟨l7, rfl, o7⟩
    · have o57 : ∀ a, ¬ (h + 8 ≤ a ∧ a < h + 13) → ¬ (t ≤ a ∧ a < t + 21) → g7 a = g5 a := fun a h1 h2 => (o7 a (by omega) (by omega)).trans (o6 a (by omega))
      have g7k : ∀ k, 3 ≤ k → k ≤ 6 → g7 (h + k) = g5 (h + k) := fun k h1 h2 => o57 _ (by omega) (by omega)
      have hy : bgF S5.2.2.1 S5.2.2.2.1 S5.2.2.2.2.1 S5.2.2.2.2.2 S5.2.1 = some _ := if_pos ⟨hfl, l7⟩
      have hbase := base g7 (fun a h1 h2 h3 => (o57 a h2 h3).trans (o5.1 a (by omega))) (fun k => by rw [o57 _ (by omega) (by omega)]; exact hcr5 k)
      have hT7 : CvT g7 h S5.2.2.1 S5.2.2.2.1 S5.2.2.2.2.1 S5.2.2.2.2.2 S5.2.1 := ⟨(g7k 3 (by omega) (by omega)).trans v4, (g7k 4 (by omega) (by omega)).trans v5, (g7k 5 (by omega) (by omega)).trans v6, (g7k 6 (by omega) (by omega)).trans v7, hch5, ht, hok⟩
      have hS7 : CvS g7 t S5.2.2.1 S5.2.2.2.1 S5.2.2.2.2.1 S5.2.2.2.2.2 S5.2.1 (begF S5.2.2.1 S5.2.2.2.1 S5.2.2.2.2.2 S5.2.1) := ⟨s6.off (fun a h1 h2 => o7 a (by omega) (by omega)), vb, t7, l7⟩
      have hR7 := hbase.2.2.2.2.1
      have hR7a : Rf g7 r [] := hR7.1
      refine ef_if_neT (pc := 70) d6_70 (t := 81) rfl (by decide) ?_
      refine ef_aload_n (pc := 81) d6_81 rfl ?_
      refine ef_callV (pc := 82) d6_82 lm_0_104 (as := []) rfl rfl (by assumption) rfl rfl (by decide) (Nat.le_of_ble_eq_true rfl) rfl (Nat.le_of_ble_eq_true rfl) ?_
      refine Ec.imp (Ec.deep (by omega) (c9 (d := 0) (D := []) (st := 0) hB hT7 hS7 hR7a (fun i j a b hi => by cases hi) (by decide) (fun i c hh => by cases hh) rfl hR7.2.2.2.1)) ?_
      rintro r82 u82 ⟨v, g8, rfl, rfl, hBv, hup, o8, k8x, d8⟩
      have z89 : g8 (h + 2) 4 = (S5.2.1 : Int) := by rw [o8 _ (by omega), o57 _ (by omega) (by omega)]; exact v1
      obtain ⟨n0, n1, n2, n3, n4, n5, n6, n7, n8, n9, n10, n11, n12, n13, n14, n15, n16, n17, n18, n19, n20, n21⟩ := id hBv
      obtain ⟨j0, j1, j2, j3, j4, j5, j6, j7, j8, j9, j10⟩ := id n13
      refine ef_aload_n (pc := 85) d6_85 rfl ?_
      refine eg_getR (pc := 86) d6_86 lf_0_16 (by assumption) (by decide) (by assumption) ?_
      refine eg_getI (pc := 89) d6_89 lf_0_107 (by assumption) (by decide) ?_
      rw [z89]
      refine ef_iret (pc := 92) d6_92 rfl ?_
      refine ⟨v, g8, t, s, q, r, S5.2.2.1, S5.2.2.2.1, S5.2.2.2.2.1, S5.2.2.2.2.2, hup, fun a ha => (o8 a (by omega)).trans ((o57 a (by omega) (by omega)).trans ((o5.1 a (by omega)).trans (o123 a (by omega) (by omega) (by omega) (by omega)))), Or.inr ⟨S5, e5, rfl, rfl, rfl, rfl, Or.inr ⟨_, hy, rfl, rfl, ⟨hBv, ?_, ?_, ?_, ?_, ?_, ?_⟩, beg_nx hok.1, rfl⟩⟩⟩
      · exact hbase.2.1.of (by rw [o8 h (by omega)]) (o8 _ (by omega))
      · exact hT7.of (fun a h1 h2 => o8 a (by omega))
      · exact hS7.of (fun a h1 h2 => o8 a (by omega))
      · refine ⟨k8x, d8, by rw [List.length_map], by rw [o8 h (by omega)]; exact hR7.2.2.2.1, Int.le_refl _, ?_⟩
        intro x hx
        obtain ⟨e2, -, rfl⟩ := List.mem_map.mp hx
        exact dtL_rg (fun y hy => absurd hy (List.not_mem_nil)) (Int.le_refl _)
      · exact hbase.2.2.2.2.2.1.of (fun a h1 h2 => o8 a (by omega))
      · exact hbase.2.2.2.2.2.2.of (o8 _ (by omega)) (o8 _ (by omega))
    · have hn : bgF S5.2.2.1 S5.2.2.2.1 S5.2.2.2.2.1 S5.2.2.2.2.2 S5.2.1 = none := if_neg (fun hh => by omega)
      have g7k : ∀ k, 3 ≤ k → k ≤ 6 → g7 (h + k) = g5 (h + k) := fun k h1 h2 => (o7 _ (by omega)).trans (o6 _ (by omega))
      refine ef_if_neF (pc := 70) d6_70 (t := 81) rfl (by decide) ?_
      refine Ef.thr (pc := 73) (x := 2) (m := 6) d6_73 (show tLc 0 101 = none by decide +kernel) (show tLx 0 101 = some (2, 6) by decide +kernel) rfl (by decide +kernel) (by decide) ?_
      exact ⟨u, g7, s, t, r, q, _, _, _, _, Up.refl, fun a ha => (o7 a (by omega)).trans ((o6 a (by omega)).trans ((o5.1 a (by omega)).trans (o123 a (by omega) (by omega) (by omega) (by omega)))), Or.inr ⟨S5, e5, (g7k 3 (by omega) (by omega)).trans v4, (g7k 4 (by omega) (by omega)).trans v5, (g7k 5 (by omega) (by omega)).trans v6, (g7k 6 (by omega) (by omega)).trans v7, Or.inl ⟨by rw [show g7 (h + 3) = _ from (g7k 3 (by omega) (by omega)).trans v4, show g7 (h + 4) = _ from (g7k 4 (by omega) (by omega)).trans v5, show g7 (h + 5) = _ from (g7k 5 (by omega) (by omega)).trans v6, show g7 (h + 6) = _ from (g7k 6 (by omega) (by omega)).trans v7]; exact hn, rfl, rfl, base g7 (fun a h1 h2 h3 => (o7 a (by omega)).trans ((o6 a (by omega)).trans (o5.1 a (by omega)))) (fun k => by rw [o7 _ (by omega), o6 _ (by omega)]; exact hcr5 k)⟩⟩⟩
