/-! The law's start and its run. Written by wip/whole/gen/ca8.py. -/
theorem LI.up {h n : Nat} {u : Mm} {g : Nat → Nat → Int} (H : LI h n u g) : LI h (n + 1) u g := by
  obtain ⟨s, t, r, q, W, kd, nm, rp, en, sz, c, K, X, hC, hM, ⟨f1, f2, f3, f4, f5⟩, b1, b2⟩ := H
  exact ⟨s, t, r, q, W, kd, nm, rp, en, sz, c, K, X, hC, hM, ⟨f1, f2, f3, by omega, by omega⟩, by omega, by omega⟩
theorem LI.start {h : Nat} {w w2 : Mm} {g' g2 : Nat → Nat → Int} (G1 : Gr (mNew (u0 h) (100 + 0) 11) w h 709 39538 (zX (h + 66))) (I1 : mI w h = mI (mNew (u0 h) (100 + 0) 11) h) (B1 : BxA w h (h + 13) (h + 34) (h + 55) (h + 60)) (O1 : Off (h + 13) (h + 34) (mI w) g') (S1 : Sr g' (h + 13) [] [] [] 0) (f1 : g' (h + 13) 5 = 0) (l1 : Ln g' (h + 13 + 19) [48])
    (A2 : Ar (mNew (sI w g') (100 + 8) 67) w2 (h + 710) mdF 42 16463 (zM (h + 710))) (M2 : MdA w2 (h + 710)) (Q2 : AlQ (mI w2) g2 (h + 710)) : LI h 0 (mNew (sI w2 g2) 3 1) (mI (mNew (sI w2 g2) 3 1)) := by
  have t1 : mT w = h + 710 := by
    have := G1.1
    rw [mT_new] at this
    rw [this]; show h + 1 + 709 = h + 710; omega
  have t1' : mT (sI w g') = h + 710 := t1
  have t2 : mT (mNew (sI w g') (100 + 8) 67) = h + 711 := by rw [mT_new, t1']
  have t3 : mT w2 = h + 753 := by have := A2.1; omega
  have t3' : mT (sI w2 g2) = h + 753 := t3
  have n1 : mU w = 39549 := by
    have := G1.2.1
    rw [mU_new] at this
    have h0 : mU (u0 h) = 0 := rfl
    omega
  have n3 : mU w2 = 56079 := by
    rw [A2.2.1, mU_new]
    show mU w + 67 + 16463 = 56079
    omega
  -- shapes and references
  have sS : ∀ b, b < h + 710 → mS (mNew (sI w2 g2) 3 1) b = mS w b ∧ mF (mNew (sI w2 g2) 3 1) b = mF w b := by
    intro b hb
    obtain ⟨p1, p2, p3⟩ := A2.2.2.1 b (by omega)
    rw [mS_new, mF_new, if_neg (by omega), if_neg (by omega)]
    refine ⟨p2.trans ?_, (p3 (by omega)).trans ?_⟩
    · rw [mS_new, if_neg (by omega)]; rfl
    · rw [mF_new, if_neg (by omega)]; rfl
  have sM : ∀ b, h + 710 ≤ b → b < h + 710 + 43 → mS (mNew (sI w2 g2) 3 1) b = mS w2 b ∧ mF (mNew (sI w2 g2) 3 1) b = mF w2 b := by
    intro b h1 h2
    rw [mS_new, mF_new, if_neg (by omega), if_neg (by omega)]
    exact ⟨rfl, rfl⟩
  -- ints
  have gV : ∀ b, b < h + 753 → mI (mNew (sI w2 g2) 3 1) b = g2 b := fun b hb => by rw [mI_new, if_neg (by omega)]; rfl
  have g1 : ∀ b, b < h + 710 → g2 b = g' b := by
    intro b hb
    rw [Q2.1 b (by omega) (by omega) (by omega) (by omega) (by omega) (by omega), (A2.2.2.1 b (by omega)).1, mI_new, if_neg (by omega)]
    rfl
  have gz : ∀ b, h < b → b < h + 710 → (b < h + 13 ∨ h + 34 ≤ b) → ∀ i, g' b i = zX (h + 66) b i := by
    intro b h1 h2 h3 i
    rw [O1 b h3]
    have := G1.2.2.2 b
    rw [mT_new] at this
    exact this (show h + 1 ≤ b by omega) (show b < h + 1 + 709 by omega) i
  have gh : ∀ i, g' h i = 0 := by
    intro i
    rw [O1 h (Or.inl (by omega)), I1, mI_new]
    show (if h = h then (fun _ => (0 : Int)) else _) i = 0
    rw [if_pos rfl]
  have z0 : ∀ b, h < b → b < h + 710 → (b < h + 13 ∨ h + 34 ≤ b) → b ≠ h + 66 → ∀ i, g' b i = 0 := fun b h1 h2 h3 h4 i => by rw [gz b h1 h2 h3 i, zX_0 h4]
  have rn : ∀ f : Nat → Int, Row f [] := fun f i c hc => by cases hc
  have cvs : CVs (mNew (sI w2 g2) 3 1) g' h (h + 13) (h + 34) (h + 55) (h + 60) [] (g' (h + 3)) (g' (h + 4)) (g' (h + 5)) (g' (h + 6)) 0 (([], ([], ([], (0, false)))), ([], 0)) (fun _ => []) (0, (0, (0, (-1, 0)))) := by
    refine ⟨B1.mv (fun a h1 h2 => sS a h2), ⟨gh 1, rn _, by decide, fun c hc => absurd hc (List.not_mem_nil)⟩, ⟨rfl, rfl, rfl, rfl, fun n => ?_, _, TmOk.zero⟩, ⟨⟨S1.1, S1.2.1, S1.2.2.1, S1.2.2.2, f1, by decide, by decide, by decide⟩, Vd.nil, l1, by rw [te_nil]; decide⟩, ⟨⟨z0 _ (by omega) (by omega) (by omega) (by omega) 4, fun i e he => by cases he⟩, rn _, rfl, gh 8, Int.le_refl _, fun x hx => absurd hx (List.not_mem_nil)⟩, fun i hi => ⟨⟨z0 _ (by omega) (by omega) (by omega) (by omega) 1, rn _⟩, Nat.zero_le _⟩, ?_⟩
    · rw [z0 (h + 4) (by omega) (by omega) (by omega) (by omega) n]; decide
    · have e := gz (h + 66) (by omega) (by omega) (by omega)
      have e6 : ∀ i, i ≠ 6 → zX (h + 66) (h + 66) i = 0 := fun i hi => if_neg (fun hh => hi hh.2)
      exact ⟨(e 3).trans (e6 3 (by decide)), (e 4).trans (e6 4 (by decide)), (e 5).trans (e6 5 (by decide)), (e 6).trans (if_pos ⟨rfl, rfl⟩), by decide, rfl, Or.inl rfl⟩
  have mm : ∀ f, f ≠ 28 → f ≠ 29 → f ≠ 30 → f ≠ 49 → g2 (h + 710) f = 0 := by
    intro f a1 a2 a3 a4
    rw [Q2.2.1 f a1 a2 a3 a4, (A2.2.2.1 (h + 710) (by omega)).1, mI_new, if_pos t1'.symm]
  have k35 : ∀ s, s < 3 → g2 (h + 710 + 35) s = -1 := by
    intro s hs
    rw [Q2.1 _ (by omega) (by omega) (by omega) (by omega) (by omega) (by omega)]
    have := (A2.2.2.2 34 (by decide)).1 s
    rw [t2, show h + 711 + 34 = h + 710 + 35 by omega] at this
    rw [this]
    exact if_pos ⟨rfl, hs⟩
  have mc : Mc g2 (h + 710) (g' (h + 3)) (g' (h + 4)) (g' (h + 5)) (g' (h + 6)) 0 (([], ([], ([], (0, false)))), ([], 0)) := by
    obtain ⟨-, -, q28, q29, q30, q49, q12, q15, q19, q22, q27⟩ := Q2
    refine ⟨⟨fun n hn => absurd hn (by omega), fun h => absurd h (by omega), fun h => absurd h (by omega)⟩, rel_nil q12 q15 q19 q28, Vd.nil, q29, q30, by rw [te_nil]; exact q49, ?_, by rw [te_nil]; decide, fun kk oo h1 h2 h3 => ⟨(fun j w hw => by cases hw), fun _ => q22 _ (by omega)⟩, fun hne => absurd rfl hne, fun hne => absurd rfl hne, rfl, fun x hx => absurd hx (List.not_mem_nil), Int.le_refl _⟩
    rw [te_nil]
    intro i c hc
    cases i with
    | zero => cases hc; exact q27
    | succ i => cases hc
  refine ⟨h + 13, h + 34, h + 55, h + 60, [], _, _, _, _, 0, (([], ([], ([], (0, false)))), ([], 0)), (fun _ => []), _, cvs.md (fun a ha => (gV a (by omega)).trans (g1 a ha)), ⟨M2.of sM, ?_, rn _, mc.same (fun j hj => gV _ (by omega)) (fun f hf => by rw [gV _ (by omega)]), fun s hs => ⟨Chs.nil, Nat.zero_le _, Or.inl ⟨rfl, ?_⟩⟩, Or.inl ⟨?_, rfl⟩⟩, ⟨?_, fun b hb => ?_, ?_, ?_, ?_⟩, by decide, by decide⟩
  · rw [gV _ (by omega)]; exact mm 2 (by decide) (by decide) (by decide) (by decide)
  · rw [gV _ (by omega)]; exact k35 s hs
  · rw [gV _ (by omega)]; exact mm 57 (by decide) (by decide) (by decide) (by decide)
  · rw [mS_new, if_pos t3'.symm]
  · rw [(sS b (by omega)).1]
    have := (G1.2.2.1 b (by rw [mT_new]; show b < h + 1; omega)).1
    rw [this, mS_new]
    exact if_neg (show b ≠ h by omega)
  · rw [mT_new, t3']; omega
  · rw [mT_new, t3']; omega
  · rw [mU_new]; show mU w2 + 1 ≤ _; omega
/-- the law's run, where the script is not the signs' text -/
def LawRun2 : Prop := ∀ (P : Pg) (h : Nat), pLn P ≤ 2048 → (∀ i, inR (pX P i)) → pB P < h → pSg P < h → pSv P < h → pB P ≠ pSv P →
  ∃ d, d ≤ 1000 ∧ Ef P d 178 0 (ent P 178 [vR (pB P)]) [] (u0 h) (fun r u' => r = .inl (some (vI 1)) ∧ mT u' ≤ h + 601024 ∧ mU u' ≤ 7293034)
theorem lawRun : LawRun2 := by
  intro P h hL hX hb hsg hsv hne
  refine ⟨100, by decide, ?_⟩
  have loop : ∀ (k n : Nat) (u : Mm) (g : Nat → Nat → Int) (v5 v6 : Option Vl), pLn P ≤ 4 * n + 4 * k → 4 * n ≤ pLn P → LI h n u g → Ef P 100 178 23 [some (vR (pB P)), some (vR h), some (vR (h + 710)), some (vR (h + 753)), some (vI ((4 * n : Nat) : Int)), v5, v6] [] (sI u g) (fun r u' => r = .inl (some (vI 1)) ∧ mT u' ≤ h + 601024 ∧ mU u' ≤ 7293034) := by
    intro k
    induction k with
    | zero =>
      intro n u g v5 v6 hk hn H
      obtain ⟨hM0, ho0, hh0, hu0, hT0, hU0⟩ := H.md
      have hub := hu0 _ hb
      refine ef_iload (pc := 23) d178_23 rfl ?_
      refine ef_aload_n (pc := 25) d178_25 rfl ?_
      refine ef_scLen (pc := 26) d178_26 (by assumption) hne ?_
      refine ef_iconst (pc := 27) d178_27 (by decide) ?_
      refine ef_isub (pc := 28) d178_28 (z := (pLn P : Int) - 4) (by omega) ⟨by omega, by omega⟩ ?_
      refine ef_icmp_gtT (pc := 29) d178_29 (t := 906) rfl (by omega) ?_
      refine ef_iconst (pc := 906) d178_906 (by decide) ?_
      refine ef_zret (pc := 907) d178_907 rfl (Or.inr rfl) ?_
      refine ⟨rfl, ?_, ?_⟩
      · show mT u ≤ _; omega
      · show mU u ≤ _; omega
    | succ k ih =>
      intro n u g v5 v6 hk hn H
      obtain ⟨hM0, ho0, hh0, hu0, hT0, hU0⟩ := H.md
      have hub := hu0 _ hb
      have nxt : 4 * n + 4 ≤ pLn P → ∀ (u : Mm) (g : Nat → Nat → Int) (v5 v6 : Option Vl), LI h (n + 1) u g → Ef P 100 178 900 [some (vR (pB P)), some (vR h), some (vR (h + 710)), some (vR (h + 753)), some (vI ((4 * n : Nat) : Int)), v5, v6] [] (sI u g) (fun r u' => r = .inl (some (vI 1)) ∧ mT u' ≤ h + 601024 ∧ mU u' ≤ 7293034) := by
        intro hn4 u g v5 v6 H
        refine ef_iinc (pc := 900) d178_900 (ls' := [_, _, _, _, _, _, _]) (z := ((4 * (n + 1) : Nat) : Int)) rfl (by decide) (by omega) ⟨by omega, by omega⟩ rfl ?_
        refine ef_goto (pc := 903) d178_903 (t := 23) rfl ?_
        exact ih (n + 1) u g _ _ (by omega) (by omega) H
      refine ef_iload (pc := 23) d178_23 rfl ?_
      refine ef_aload_n (pc := 25) d178_25 rfl ?_
      refine ef_scLen (pc := 26) d178_26 (by assumption) hne ?_
      refine ef_iconst (pc := 27) d178_27 (by decide) ?_
      refine ef_isub (pc := 28) d178_28 (z := (pLn P : Int) - 4) (by omega) ⟨by omega, by omega⟩ ?_
      refine ef_icmp_gt (pc := 29) d178_29 (t := 906) rfl (fun h29 => ?_) (fun h29 => ?_)
      · refine ef_iconst (pc := 906) d178_906 (by decide) ?_
        refine ef_zret (pc := 907) d178_907 rfl (Or.inr rfl) ?_
        refine ⟨rfl, ?_, ?_⟩
        · show mT u ≤ _; omega
        · show mU u ≤ _; omega
      · have hlt : 4 * n + 4 ≤ pLn P := by omega
        refine ef_aload_n (pc := 32) d178_32 rfl ?_
        refine ef_iload (pc := 33) d178_33 rfl ?_
        refine ef_scI (pc := 35) d178_35 (i := 4 * n) (by assumption) (rfl) (by omega) ?_
        refine ef_bipush (pc := 36) d178_36 (by decide) ?_
        refine ef_iand (pc := 38) d178_38 rfl ?_
        generalize bI (fun x y => x &&& y) (pX P (4 * n)) 15 = w
        by_cases hw0 : w = 0
        · subst hw0
          refine ef_table (pc := 39) d178_39 (off := 69) (by decide) (t := 108) rfl ?_
          exact L0 hX hb hsv (by omega) hL (nxt (by omega)) H
        by_cases hw1 : w = 1
        · subst hw1
          refine ef_table (pc := 39) d178_39 (off := 169) (by decide) (t := 208) rfl ?_
          exact L1 hX hb hsv (by omega) hL (nxt (by omega)) H
        by_cases hw2 : w = 2
        · subst hw2
          refine ef_table (pc := 39) d178_39 (off := 182) (by decide) (t := 221) rfl ?_
          exact L2 hX hb hsv (by omega) hL (nxt (by omega)) H
        by_cases hw3 : w = 3
        · subst hw3
          refine ef_table (pc := 39) d178_39 (off := 226) (by decide) (t := 265) rfl ?_
          exact L3 hX hb hsv (by omega) hL (nxt (by omega)) H
        by_cases hw4 : w = 4
        · subst hw4
          refine ef_table (pc := 39) d178_39 (off := 239) (by decide) (t := 278) rfl ?_
          exact L4 hX hb hsv (by omega) hL (nxt (by omega)) H
        by_cases hw5 : w = 5
        · subst hw5
          refine ef_table (pc := 39) d178_39 (off := 307) (by decide) (t := 346) rfl ?_
          exact L5 hX hb hsv (by omega) hL (nxt (by omega)) H
        by_cases hw6 : w = 6
        · subst hw6
          refine ef_table (pc := 39) d178_39 (off := 363) (by decide) (t := 402) rfl ?_
          exact L6 hX hb hsv (by omega) hL (nxt (by omega)) H
        by_cases hw7 : w = 7
        · subst hw7
          refine ef_table (pc := 39) d178_39 (off := 419) (by decide) (t := 458) rfl ?_
          exact L7 hX hb hsv (by omega) hL (nxt (by omega)) H
        by_cases hw8 : w = 8
        · subst hw8
          refine ef_table (pc := 39) d178_39 (off := 475) (by decide) (t := 514) rfl ?_
          exact L8 hX hb hsv (by omega) hL (nxt (by omega)) H
        by_cases hw9 : w = 9
        · subst hw9
          refine ef_table (pc := 39) d178_39 (off := 531) (by decide) (t := 570) rfl ?_
          exact L9 hX hb hsv (by omega) hL (nxt (by omega)) H
        by_cases hw10 : w = 10
        · subst hw10
          refine ef_table (pc := 39) d178_39 (off := 587) (by decide) (t := 626) rfl ?_
          exact L10 hX hb hsv (by omega) hL (nxt (by omega)) H
        by_cases hw11 : w = 11
        · subst hw11
          refine ef_table (pc := 39) d178_39 (off := 650) (by decide) (t := 689) rfl ?_
          exact L11 hX hb hsv (by omega) hL (nxt (by omega)) H
        by_cases hw12 : w = 12
        · subst hw12
          refine ef_table (pc := 39) d178_39 (off := 725) (by decide) (t := 764) rfl ?_
          exact L12 hX hb hsv (by omega) hL (nxt (by omega)) H
        by_cases hw13 : w = 13
        · subst hw13
          refine ef_table (pc := 39) d178_39 (off := 805) (by decide) (t := 844) rfl ?_
          exact L13 hX hb hsv (by omega) hL (nxt (by omega)) H
        refine ef_table (pc := 39) d178_39 (off := 861) (by rw [tsw, if_pos (by omega)]) (t := 900) rfl ?_
        exact nxt (by omega) u g _ _ H.up
  change Ef P 100 178 0 [some (vR (pB P)), none, none, none, none, none, none] [] (u0 h) (fun r u' => r = .inl (some (vI 1)) ∧ mT u' ≤ h + 601024 ∧ mU u' ≤ 7293034)
  refine ef_new (pc := 0) d178_0 lc_9_8 ?_
  refine ef_dup (pc := 3) d178_3 rfl ?_
  refine ef_callI (pc := 4) d178_4 lm_9_62 (as := []) rfl rfl rfl (Nat.le_of_ble_eq_true rfl) rfl (Nat.le_of_ble_eq_true rfl) ?_
  refine Ec.imp (Ec.deep (show 3 ≤ 99 by decide) (c0 (d := 0) (a := h) (by rw [mS_new]; exact if_pos rfl) rfl)) ?_
  rintro r4 u4 ⟨rfl, w, g', rfl, G1, I1, B1, O1, S1, f1, l1⟩
  have t1 : mT (sI w g') = h + 710 := by
    have := G1.1
    rw [mT_new] at this
    show mT w = _
    rw [this]; show h + 1 + 709 = h + 710; omega
  refine ef_astore_n (pc := 7) d178_7 (ls' := [_, _, _, _, _, _, _]) rfl ?_
  refine ef_new (pc := 8) d178_8 lc_9_63 ?_
  rw [t1]
  refine ef_dup (pc := 11) d178_11 rfl ?_
  refine ef_callI (pc := 12) d178_12 lm_9_65 (as := []) rfl rfl rfl (Nat.le_of_ble_eq_true rfl) rfl (Nat.le_of_ble_eq_true rfl) ?_
  refine Ec.imp (Ec.deep (show 1 ≤ 99 by decide) (c89 (d := 0) (a := h + 710) (by rw [mS_new, if_pos t1.symm]) (by rw [mT_new, t1]))) ?_
  rintro r12 u12 ⟨rfl, w2, g2, rfl, A2, M2, Q2⟩
  have t3 : mT (sI w2 g2) = h + 753 := by
    show mT w2 = _
    have h1 := A2.1
    rw [mT_new, t1] at h1
    omega
  refine ef_astore_n (pc := 15) d178_15 (ls' := [_, _, _, _, _, _, _]) rfl ?_
  refine ef_iconst (pc := 16) d178_16 (by decide) ?_
  refine ef_newa (pc := 17) d178_17 rfl (n := 1) rfl (by decide) ?_
  rw [t3]
  refine ef_astore_n (pc := 19) d178_19 (ls' := [_, _, _, _, _, _, _]) rfl ?_
  refine ef_iconst (pc := 20) d178_20 (by decide) ?_
  refine ef_istore (pc := 21) d178_21 (ls' := [_, _, _, _, _, _, _]) rfl ?_
  exact loop 512 0 _ _ _ _ (by omega) (by omega) (LI.start G1 I1 B1 O1 S1 f1 l1 A2 M2 Q2)
set_option maxRecDepth 100000 in
set_option maxHeartbeats 4000000 in
theorem whole_start2 (HL : LawRun2) {p : Program} {e : Env} {s : State} {m : MethodId} {below : List Frame} {meth : Method} {c : Code} (l : Launch) (htr : ∀ e : Env, l.admits e → e.platform.stackTraces = false) {b L : Nat} {xs : Nat → Int32} (hL : L ≤ 2048) (C0 : lw_At p s m meth c b L xs) : W p l e room_1 s m #[Value.ref b] below meth c s.heap [] 0 0 (lw_Z below #[Value.ref b] s) (entryFrame m ([Value.ref b] : List Value).toArray 7) := by
  obtain ⟨hx, hb, hr, hml, hown, hts, hX, hbl, hlocks, hn, hxt⟩ := C0
  obtain ⟨D, dA, dX, P, hK, hE, hT, hPb, hPl, hPx⟩ := start_ok hts hX hbl hL hn
  have hsg : pSg P < s.heap.size := by
    obtain ⟨cell, h1, -⟩ := hT.1
    exact (Array.getElem?_eq_some_iff.mp h1).1
  have hsv : pSv P < s.heap.size := by
    obtain ⟨cell, h1, -⟩ := hT.2.2.2.1
    exact (Array.getElem?_eq_some_iff.mp h1).1
  have hne : pB P ≠ pSv P := by
    intro he
    obtain ⟨cell, h1, h2, -⟩ := hT.2.2.2.1
    obtain ⟨scr, h3, h4, -⟩ := hX
    rw [← he, hPb, h3] at h1
    cases h1
    obtain ⟨-, k1, e1, c1, d1⟩ := h2
    obtain ⟨-, k2, e2, c2, d2⟩ := h4
    rw [e2] at e1
    cases e1
    rw [d2] at d1
    cases d1
  obtain ⟨d, hd, f, r, u', hf, rfl, hc, hsl⟩ := HL P s.heap.size (by rw [hPl]; exact hL) (fun i => by rw [hPx]; exact i32_inR _) (by rw [hPb]; exact hbl) hsg hsv hne
  have C : Cx D dA P p s m meth c 178 := ⟨hx, hb, hml, hr, hlocks, hown, (fun h => absurd h (by decide)), hK, by rw [hxt]; rfl⟩
  have hm := fm_mono P _ _ _ _ _ _ _ _ _ hf
  have hLR : LR ((lg_sl ([vR (pB P)].map tv) ++ List.replicate (tMx 178 - (lg_sl ([vR (pB P)].map tv)).length) Slot.unset).toArray) (tMx 178) (ent P 178 [vR (pB P)]) := ent_LR (show 1 ≤ tMx 178 by decide) (fun v hv => by rw [List.mem_singleton.mp hv]; trivial)
  have K := fm_W (l := l) (dX := dX) (D := D) (dA := dA) (P := P) (h0 := s.heap.size) (H0 := s.heap) (X := Xs s) (fun s1 U u hW hR h => Xs.step hW hR h) ready_ok (throw_ok htr hE) (catch_ok hE) (spec_ok hT) (text_ok hT)
    f d 178 0 _ [] (u0 s.heap.size) _ u' hf (by decide) p e room_1 s m #[Value.ref b] below meth c _ C (Xs_rf s) hLR (fun v hv => by cases hv) (by show d + 12 ≤ 2048; omega) (by show 60 * d + 600 ≤ 84000; omega)
    s.heap [] 0 0 (u0_HR s.heap) (fun q hq => by cases hq) (by show 0 + (mT u' - s.heap.size) ≤ 601024; omega) (by show 0 + (mU u' - 0) ≤ 7293034; omega)
  rw [hPb] at K
  rw [lg_entry_eq]
  refine W.mono K fun t ht => ?_
  obtain ⟨o, Lq, h1, h2, ⟨⟨h3, -⟩, -⟩, ⟨h5, h6⟩, h7⟩ := ht
  refine ⟨o, h1, h2, h3, ⟨⟨_, h3⟩, h5, h6.weaken (fun y hy hlt => absurd hlt (Nat.not_lt.mpr (h7 y hy))) (by show 0 + (mT u' - s.heap.size) ≤ 601024; omega) (by show 0 + (mU u' - 0) ≤ 7293034; omega)⟩⟩
set_option maxHeartbeats 4000000 in
theorem lw_walk2 (HL : LawRun2) (l : Launch) (htr : ∀ e : Env, l.admits e → e.platform.stackTraces = false) (b : Addr) (xs : List Int32) : MetFree l x (headSpec (Jvm.Cond.code x code maxLocals ret :: tables_1) room_1) (lw_P b xs) (fun _ _ _ _ _ => True) lw_Q := by
  refine MetFree.of_bodyS (code := code) (maxLocals := maxLocals) (ret := ret) (by decide) ?_ ?_
  · intro args s m h hn
    obtain ⟨meth, c, h1, h2, h3, h4, h5, h6, -, -⟩ := Cond.code_spec hn (atoms_spec (ws := Jvm.Cond.code x code maxLocals ret :: tables_1) h _ List.mem_cons_self)
    exact ⟨meth, c, h1, h2, h3, h4, h5, h6⟩
  · intro p e s m args below meth c s₁ B hml0 hP _
    obtain ⟨rfl, hx, hbd, hgv⟩ := hP
    obtain ⟨scr, harrAt, hlist, hof, hsmall⟩ := hx
    obtain ⟨hcb, hkn, -, -⟩ := State.arrayAt?_spec harrAt
    have hown : s.vm.findClass R_law = some m.cls := findClass_of_methodNamed B.named
    have hts0 : ∀ c ∈ (Jvm.Cond.code x code maxLocals ret :: tables_1), c.before #[Value.ref b] s = true := atoms_spec (ws := Jvm.Cond.code x code maxLocals ret :: tables_1) B.pre
    have hts : ∀ w ∈ lw_tbl, w.before #[Value.ref b] s = true := k2_hts_sels lw_privs (fun w hw => hts0 w (List.mem_cons_of_mem _ hw)) lw_privs_ok
    have hml : c.maxLocals = 7 := B.maxLocals_eq (hts0 _ List.mem_cons_self)
    have X₀ : Stand p l e room_1 s m #[Value.ref b] below meth c s₁ [] 0 0 := Stand.of_body B
    have hh0 : s₁.heap = s.heap := by rw [B.state]; rfl
    have hsz : scr.slots.size = xs.length := by rw [← Array.length_toList, hlist, List.length_map]
    have hval : ∀ j : Nat, j < xs.length → scr.slots[j]? = some (.int (xs.getD j 0)) := fun j hj => by
      rw [← Array.getElem?_toList, hlist]
      simp [hj]
    have hbl : b < s.heap.size := (Array.getElem?_eq_some_iff.mp hcb).1
    have hX : va_X b xs.length (fun j => xs.getD j 0) s s.heap := ⟨scr, hcb, hof, hkn, hsz, hval⟩
    have K : W p l e room_1 s m #[Value.ref b] below meth c s₁.heap [] 0 0 (lw_Z below #[Value.ref b] s) (entryFrame m ([Value.ref b] : List Value).toArray 7) := by
      rw [hh0]
      exact whole_start2 HL l htr hbd ⟨B.exec, B.bytes, B.returns, hml, hown, hts, hX, hbl, B.notSynchronized, hgv, by
        have h9 := BodyLoose.noHandlers B (hts0 _ List.mem_cons_self)
        simpa using h9⟩
    obtain ⟨t, a1, o, b1, b2, b3⟩ := K s₁ rfl X₀
    exact ⟨t, o, a1, b1, b2, b3⟩
theorem lw_comes2 (HL : LawRun2) (l : Launch) (htr : ∀ e : Env, l.admits e → e.platform.stackTraces = false) : Comes l x (Jvm.Cond.code x code maxLocals ret :: tables_1) room_1 (fun tb e args s => Calls_1 tb e args s ∧ rest_1 tb e args s ∧ Pre_1 tb e args s)
    (fun _ _ args s o t => lw_Q args s o t) := by
  intro p e ha hc hk s m args below hf hfit hheap happ hpre
  obtain ⟨b, xs, hP⟩ := lw_pre_spec hpre.2.2 hpre.2.1
  obtain ⟨k, o, h1, h2, h3, hQ⟩ := lw_walk2 HL l htr b xs p e ha hc hk s m args below hf ((Spec.applies_iff_loose hf).mp happ).1 hP trivial
  exact ⟨k, o, h1, h2, h3, hQ⟩
theorem lw_limb2 (HL : LawRun2) (L : Cond) (hL : ∀ (args : Array Value) (s t : State), L.after args s (.returned (some (.int 1))) t = true) :
    ArmFor flags0 classFile x code maxLocals ret World_1 tables_1 room_1 Calls_1 rest_1 Pre_1
      (fun tb e a s o t => postC L tb e a s o t ∧ Framed s o t (fieldLocs frame_1_writes a s ++ arrayLocs frame_1_arrays a s ++ staticLocs frame_1_statics s) 601024 7293034) := by
  intro l hfl _ _ p e ha hc hk s m args below hf hfit hheap happ hpre
  obtain ⟨k, o, h1, h2, h3, rfl, hF⟩ := lw_comes2 HL l (fun e he => Launch.traces_off hfl he) p e ha hc hk s m args below hf hfit hheap happ hpre
  exact ⟨k, _, h1, h2, h3, hL args s _, lw_frame hF⟩
theorem i_vc_of2 (HL : LawRun2) : Claimed_1_1 ∧ Claimed_1_2 := ⟨lw_limb2 HL limb_1_1 (fun args s t => by simp [limb_1_1, Cond.after, Cond.holds, Cond.value]), lw_limb2 HL limb_1_2 (fun args s t => Cond.after_iff.mpr (by
  first | (rw [show limb_1_2 = Cond.eq .result (.int 1) from rfl, Cond.eq_ints (x := 1) (y := 1) rfl rfl]; simp; done) | (simp [limb_1_2, Cond.value, Term.eval]; done)))⟩
theorem i_vc : Claimed_1_1 ∧ Claimed_1_2 := i_vc_of2 lawRun
