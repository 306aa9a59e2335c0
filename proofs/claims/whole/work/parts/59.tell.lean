/-! The teller: a state told. Written by wip/whole/gen/c59.py. -/
def teT (kd nm rp en : Nat → Int) (ps gs ms : List Tg) : List Int := plT kd nm rp (afF en) ps gs ms 21 (-1)
theorem c58 {P : Pg} {u : Mm} {l tm s sz : Nat} {kd nm rp en : Nat → Int} {ht : Nat → Nat} {ps gs ms : List Tg} {rk : Int → Nat} {g : Nat → Nat → Int} (hA : TlA u l) (hTm : TmA u tm) (hSt : StA u s) (hdj : tm + 6 ≤ l ∨ l + 5 ≤ tm) (hds : s + 21 ≤ l ∨ l + 5 ≤ s) (hsv : mS u (pSv P) = none) (hch : ∀ n, 0 ≤ nm n ∧ nm n < 65536) (hk : ∀ n, n < sz → 0 ≤ kd n ∧ kd n ≤ 5) (hv : TV en sz) (hh : Hts ht (afF en) sz) (h19 : ∀ n, n < sz → ht n ≤ 19) (hgn : ∀ e, e ∈ gs → ∃ n : Nat, e.2.2.2.1 = (n : Int) ∧ n < sz) (hln : ps.length ≤ 20 ∧ gs.length ≤ 40 ∧ ms.length ≤ 30) (hnp : ∀ e, e ∈ ps → -97 ≤ e.2.2.1 ∧ e.2.2.1 ≤ 100) (hnq : ∀ e, e ∈ ms → -97 ≤ e.2.2.1 ∧ e.2.2.1 ≤ 100) (hrk : ∀ e, e ∈ ps → rk e.1 < rk e.2.1) (hr20 : rk (-1) ≤ 20) (hps : Th g (s + 1) ps) (hgs : Th g (s + 7) gs) (hms : Th g (s + 13) ms) (hkd : g (tm + 1) = kd) (hnm : g (tm + 2) = nm) (hrp : g (tm + 3) = rp) (hen : g (tm + 4) = en) :
    Ec P 48 58 [vR l, vR s, vR tm] (sI u g) (fun x u' => ∃ g', u' = sI u g' ∧ (((teT kd nm rp en ps gs ms).length ≤ 240 ∧ x = .inl (some (vI 1)) ∧ Ln g' (s + 19) (teT kd nm rp en ps gs ms) ∧ ∀ a, (a < l ∨ l + 5 ≤ a) → (a < s + 19 ∨ s + 21 ≤ a) → g' a = g a) ∨ (240 < (teT kd nm rp en ps gs ms).length ∧ x = .inl (some (vI 0)) ∧ Off l (l + 5) g g'))) := by
  obtain ⟨y0, y1, y2, y3, y4, y5, y6, y7, y8⟩ := id hA
  obtain ⟨q0, q1, q2, q3, q4, hP, hG, hM, hL⟩ := hSt
  obtain ⟨a0, a1, a2, a3, a4, a5, a6, a7, a8, a9, a10⟩ := id hP
  obtain ⟨b0, b1, b2, b3, b4, b5, b6, b7, b8, b9, b10⟩ := id hG
  obtain ⟨e0, e1, e2, e3, e4, e5, e6, e7, e8, e9, e10⟩ := id hM
  have s0 : TL (u2 (u2 (u2 g l 2 0) l 5 0) l 6 0) l ([], (false, [])) := by
    refine ⟨?_, (fun i c hc => by cases hc), ?_, ?_, (fun i p hp => by cases hp), by decide, by decide, (fun p hp => by cases hp)⟩
    · rw [u2_ni (by omega), u2_ni (by omega), u2_at]; rfl
    · rw [u2_at]; rfl
    · rw [u2_ni (by omega), u2_at]; rfl
  have o0 : Off l (l + 5) g (u2 (u2 (u2 g l 2 0) l 5 0) l 6 0) := ((Off.refl.up (by omega) (by omega)).up (by omega) (by omega)).up (by omega) (by omega)
  change Ef P _ 58 0 [some (vR l), some (vR s), some (vR tm)] [] _ _
  refine ef_aload_n (pc := 0) d58_0 rfl ?_
  refine ef_iconst (pc := 1) d58_1 (by decide) ?_
  refine eg_putI (pc := 2) d58_2 pf_58_25 (by assumption) (by decide) ?_
  refine ef_aload_n (pc := 5) d58_5 rfl ?_
  refine ef_iconst (pc := 6) d58_6 (by decide) ?_
  refine eg_putI (pc := 7) d58_7 pf_58_29 (by assumption) (by decide) ?_
  refine ef_aload_n (pc := 10) d58_10 rfl ?_
  refine ef_iconst (pc := 11) d58_11 (by decide) ?_
  refine eg_putZ (pc := 12) d58_12 pf_58_32 (by assumption) (by decide) (by omega) ?_
  refine ef_aload_n (pc := 15) d58_15 rfl ?_
  refine ef_aload_n (pc := 16) d58_16 rfl ?_
  refine ef_aload_n (pc := 17) d58_17 rfl ?_
  refine ef_iconst (pc := 18) d58_18 (by decide) ?_
  refine ef_iconst (pc := 19) d58_19 (by decide) ?_
  refine ef_callV (pc := 20) d58_20 lm_5_36 (as := [_, _, _, _]) rfl rfl (by assumption) rfl rfl (by decide) (Nat.le_of_ble_eq_true rfl) rfl (Nat.le_of_ble_eq_true rfl) ?_
  refine Ec.imp (Ec.deep (by omega) (c59 hA hTm ⟨q0, q1, q2, q3, q4, hP, hG, hM, hL⟩ hdj hds hsv hch hk hv hh h19 hgn hln hnp hnq hrk 21 (-1) 0 _ _ (by omega) (by omega) s0 (fun _ => Nat.le_refl _) (hps.same o0 (by omega)) (hgs.same o0 (by omega)) (hms.same o0 (by omega)) ((o0 _ (by omega)).trans hkd) ((o0 _ (by omega)).trans hnm) ((o0 _ (by omega)).trans hrp) ((o0 _ (by omega)).trans hen))) ?_
  rintro r20 u20 ⟨g1, S1, rfl, rfl, o1, s1, hO0, hO1⟩
  have hO := hO0 rfl
  clear hO0 hO1
  have o01 := o0.trans o1
  have s1b := s1.b
  obtain ⟨w1, w2, w3, w4, w5, w6, w7, w8⟩ := id s1
  refine ef_aload_n (pc := 23) d58_23 rfl ?_
  refine eg_getZ (pc := 24) d58_24 lf_5_32 (by assumption) (by decide) ?_
  try simp (disch := omega) only [u2_ne, u2_at, u2_ni, ur_ne, ur_eq]
  rw [w3]
  refine ef_if_ne (pc := 27) d58_27 (t := 45) rfl (fun h27 => ?_) (fun h27 => ?_)
  · have hbt := b01_f h27
    have hlg : 240 < (teT kd nm rp en ps gs ms).length := by
      rcases hO with hO | ⟨-, -, hO, -⟩
      · rw [hO] at hbt; cases hbt
      · rw [show ([] : List Int).length = 0 from rfl, Nat.zero_add] at hO; exact hO
    refine ef_aload_n (pc := 45) d58_45 rfl ?_
    refine eg_getZ (pc := 46) d58_46 lf_5_32 (by assumption) (by decide) ?_
    rw [w3]
    refine ef_if_neT (pc := 49) d58_49 (t := 56) rfl (by rw [hbt]; decide) ?_
    refine ef_iconst (pc := 56) d58_56 (by decide) ?_
    refine ef_zret (pc := 57) d58_57 rfl (by omega) ?_
    exact ⟨_, rfl, Or.inr ⟨hlg, rfl, o01⟩⟩
  · have hbf := b01_t h27
    have hS1 : S1.1 = teT kd nm rp en ps gs ms := by
      rcases hO with hO | ⟨hO, -⟩
      · rw [hO]; rfl
      · rw [hO] at hbf; cases hbf
    rw [hS1] at w1 w2 s1b
    obtain ⟨l0, l1, l2x⟩ := id hL
    refine ef_aload_n (pc := 30) d58_30 rfl ?_
    refine eg_getR (pc := 31) d58_31 lf_5_40 (by assumption) (by decide) (by assumption) ?_
    refine ef_aload_n (pc := 34) d58_34 rfl ?_
    refine eg_getR (pc := 35) d58_35 lf_5_9 (by assumption) (by decide) (by assumption) ?_
    refine ef_aload_n (pc := 38) d58_38 rfl ?_
    refine eg_getI (pc := 39) d58_39 lf_5_25 (by assumption) (by decide) ?_
    try simp (disch := omega) only [u2_ne, u2_at, u2_ni, ur_ne, ur_eq]
    rw [w1]
    refine ef_callV (pc := 42) d58_42 lm_5_46 (as := [_, _]) rfl rfl (by assumption) rfl rfl (by decide) (Nat.le_of_ble_eq_true rfl) rfl (Nat.le_of_ble_eq_true rfl) ?_
    refine Ec.imp (c30 hL (by assumption) (by omega) (by omega) w2 (by omega) (by omega)) ?_
    rintro r42 u42 ⟨g2, rfl, rfl, o2, l2⟩
    have w33 : g2 l 6 = b01 S1.2.1 := by rw [o2 l (by omega)]; exact w3
    refine ef_aload_n (pc := 45) d58_45 rfl ?_
    refine eg_getZ (pc := 46) d58_46 lf_5_32 (by assumption) (by decide) ?_
    try simp (disch := omega) only [u2_ne, u2_at, u2_ni, ur_ne, ur_eq]
    rw [w33]
    refine ef_if_neF (pc := 49) d58_49 (t := 56) rfl (by rw [hbf]; decide) ?_
    refine ef_iconst (pc := 52) d58_52 (by decide) ?_
    refine ef_goto (pc := 53) d58_53 (t := 57) rfl ?_
    refine ef_zret (pc := 57) d58_57 rfl (by omega) ?_
    exact ⟨_, rfl, Or.inl ⟨s1b.1, rfl, l2, fun a h1 h2 => (o2 a (by omega)).trans (o01 a h1)⟩⟩
