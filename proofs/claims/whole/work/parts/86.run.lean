/-! The model: running a range of nodes. Written by wip/whole/gen/c86.py. -/
def Stk (g : Nat → Nat → Int) (m : Nat) (s : List (Int × Int)) : Prop := g m 34 = (s.length : Int) ∧ ∀ (i : Nat) (p : Int × Int), s[i]? = some p → g (m + 25) i = p.1 ∧ g (m + 26) i = p.2
def RFr (g g' : Nat → Nat → Int) (m : Nat) : Prop := (∀ a, a ≠ m → (a < m + 12 ∨ m + 21 < a) → a ≠ m + 25 → a ≠ m + 26 → g' a = g a) ∧ ∀ f, f ≠ 28 → f ≠ 30 → f ≠ 34 → g' m f = g m f
theorem RFr.refl {g : Nat → Nat → Int} {m : Nat} : RFr g g m := ⟨fun _ _ _ _ _ => rfl, fun _ _ _ _ => rfl⟩
theorem RFr.trans {g g1 g2 : Nat → Nat → Int} {m : Nat} (a : RFr g g1 m) (b : RFr g1 g2 m) : RFr g g2 m := ⟨fun x h1 h2 h3 h4 => (b.1 x h1 h2 h3 h4).trans (a.1 x h1 h2 h3 h4), fun f h1 h2 h3 => (b.2 f h1 h2 h3).trans (a.2 f h1 h2 h3)⟩
def SlK (g g' : Nat → Nat → Int) (m : Nat) (nx : Int) : Prop := (∀ kk, kk < 40 → g' (m + 15) kk = g (m + 15) kk ∨ nx ≤ g' (m + 15) kk) ∧ ∀ oo, 1 ≤ oo → oo < 51 → oNum g' m oo = oNum g m oo ∨ nx ≤ oNum g' m oo
theorem SlK.refl {g : Nat → Nat → Int} {m : Nat} {nx : Int} : SlK g g m nx := ⟨fun _ _ => Or.inl rfl, fun _ _ _ => Or.inl rfl⟩
theorem SlK.trans {g g1 g2 : Nat → Nat → Int} {m : Nat} {nx ny : Int} (a : SlK g g1 m nx) (b : SlK g1 g2 m ny) (h : nx ≤ ny) : SlK g g2 m nx := by
  refine ⟨fun kk h1 => ?_, fun oo h1 h2 => ?_⟩
  · rcases b.1 kk h1 with h3 | h3
    · rw [h3]; exact a.1 kk h1
    · exact Or.inr (by omega)
  · rcases b.2 oo h1 h2 with h3 | h3
    · rw [h3]; exact a.2 oo h1 h2
    · exact Or.inr (by omega)
def RunI (kd nm : Nat → Int) (sz : Nat) (g0 g : Nat → Nat → Int) (m : Nat) (nx0 : Int) (A : SS) (s : List (Int × Int)) : Prop := RFr g0 g m ∧ Stk g m s ∧ g m 30 = 0 ∧ Rel g m A ∧ Vd kd nm sz A ∧ SlK g0 g m nx0 ∧ nx0 ≤ A.2.2.2.1 ∧ KpP m g0 g
theorem RunI.top {kd nm : Nat → Int} {sz m : Nat} {g0 g g' : Nat → Nat → Int} {nx0 : Int} {A : SS} {s s' : List (Int × Int)} (h : RunI kd nm sz g0 g m nx0 A s) (h1 : ∀ a, a ≠ m → a ≠ m + 25 → a ≠ m + 26 → g' a = g a) (h2 : ∀ f, f ≠ 34 → g' m f = g m f) (hs : Stk g' m s') : RunI kd nm sz g0 g' m nx0 A s' := by
  obtain ⟨a1, a2, a3, a4, a5, a6, a7, a8⟩ := h
  have q : ∀ j, 12 ≤ j → j ≤ 21 → g' (m + j) = g (m + j) := fun j _ _ => h1 _ (by omega) (by omega) (by omega)
  have hk : KpP m g g' := KpP.same (q 12 (by omega) (by omega))
  refine ⟨a1.trans ⟨fun a b1 b2 b3 b4 => h1 a b1 b3 b4, fun f b1 b2 b3 => h2 f b3⟩, hs, by rw [h2 30 (by decide)]; exact a3, ⟨a4.1.same (fun j _ _ => q j (by omega) (by omega)), a4.2.1.same hk (fun j _ _ => q j (by omega) (by omega)), a4.2.2.1.same hk (fun j _ _ => q j (by omega) (by omega)), by rw [h2 28 (by decide)]; exact a4.2.2.2⟩, a5, ⟨fun kk hk => by rw [q 15 (by omega) (by omega)]; exact a6.1 kk hk, fun oo o1 o2 => by
    have : oNum g' m oo = oNum g m oo := by unfold oNum; rw [q 12 (by omega) (by omega), q 19 (by omega) (by omega)]
    rw [this]; exact a6.2 oo o1 o2⟩, a7, a8.trans hk⟩
theorem Stk.push {g : Nat → Nat → Int} {m : Nat} {s : List (Int × Int)} {p : Int × Int} {g' : Nat → Nat → Int} (h : Stk g m s) (h1 : g' (m + 25) = u1 (g (m + 25)) s.length p.1) (h2 : g' (m + 26) = u1 (g (m + 26)) s.length p.2) (h3 : g' m 34 = ((s.length + 1 : Nat) : Int)) : Stk g' m (s ++ [p]) := by
  refine ⟨by rw [h3, List.length_append]; rfl, fun i x hx => ?_⟩
  by_cases hi : i < s.length
  · rw [List.getElem?_append_left hi] at hx
    rw [h1, h2, u1_ne (by omega), u1_ne (by omega)]
    exact h.2 i x hx
  · rw [List.getElem?_append_right (by omega)] at hx
    have h0 : i - s.length = 0 := by
      have := (List.getElem?_eq_some_iff.mp hx).1
      simp only [List.length_cons, List.length_nil] at this
      omega
    rw [h0] at hx
    cases hx
    have hi2 : i = s.length := by omega
    subst hi2
    rw [h1, h2, u1_eq, u1_eq]
    exact ⟨rfl, rfl⟩
theorem Stk.pop {g : Nat → Nat → Int} {m : Nat} {s : List (Int × Int)} {p : Int × Int} {g' : Nat → Nat → Int} (h : Stk g m (s ++ [p])) (h1 : g' (m + 25) = g (m + 25)) (h2 : g' (m + 26) = g (m + 26)) (h3 : g' m 34 = (s.length : Int)) : Stk g' m s := by
  refine ⟨h3, fun i x hx => ?_⟩
  have hi := (List.getElem?_eq_some_iff.mp hx).1
  rw [h1, h2]
  exact h.2 i x (by rw [List.getElem?_append_left hi]; exact hx)
theorem Stk.last {g : Nat → Nat → Int} {m : Nat} {s : List (Int × Int)} {p : Int × Int} (h : Stk g m (s ++ [p])) : g m 34 = ((s.length + 1 : Nat) : Int) ∧ g (m + 25) s.length = p.1 ∧ g (m + 26) s.length = p.2 := by
  have h1 := h.1
  rw [List.length_append] at h1
  exact ⟨h1, h.2 s.length p (by rw [List.getElem?_append_right (Nat.le_refl _), Nat.sub_self]; rfl)⟩
/-- a thing more, by kind -/
theorem addS_4 {k : Int} {e : Tg} {A : SS} (h : k = 4) (hl : A.1.length < 20) : addS k e A = (A.1 ++ [e], (A.2.1, (A.2.2.1, (e.1 + 1, false)))) := by unfold addS; rw [if_pos h, if_pos hl]
theorem addS_4f {k : Int} {e : Tg} {A : SS} (h : k = 4) (hl : ¬ A.1.length < 20) : (addS k e A).2.2.2.2 = true := by unfold addS; rw [if_pos h, if_neg hl]
theorem addS_5 {k : Int} {e : Tg} {A : SS} (h : k = 5) (hl : A.2.2.1.length < 30) : addS k e A = (A.1, (A.2.1, (A.2.2.1 ++ [e], (e.1 + 1, false)))) := by unfold addS; rw [if_neg (by omega), if_pos h, if_pos hl]
theorem addS_5f {k : Int} {e : Tg} {A : SS} (h : k = 5) (hl : ¬ A.2.2.1.length < 30) : (addS k e A).2.2.2.2 = true := by unfold addS; rw [if_neg (by omega), if_pos h, if_neg hl]
theorem addS_g {k : Int} {e : Tg} {A : SS} (h4 : k ≠ 4) (h5 : k ≠ 5) (hl : A.2.1.length < 40) : addS k e A = (A.1, (A.2.1 ++ [e], (A.2.2.1, (e.1 + 1, false)))) := by unfold addS; rw [if_neg h4, if_neg h5, if_pos hl]
theorem addS_gf {k : Int} {e : Tg} {A : SS} (h4 : k ≠ 4) (h5 : k ≠ 5) (hl : ¬ A.2.1.length < 40) : (addS k e A).2.2.2.2 = true := by unfold addS; rw [if_neg h4, if_neg h5, if_neg hl]
theorem Chn_le {nx : Nat → Int} {af : Nat → Nat} : ∀ {f f' n e : Nat}, Chn nx af f n e → f' ≤ f → Chn nx af f' n e := by
  intro f
  induction f with
  | zero => intro f' n e _ h; have : f' = 0 := by omega
            subst this; trivial
  | succ f ih =>
    intro f' n e hc h
    cases f' with
    | zero => trivial
    | succ f' => exact fun hn => ⟨(hc hn).1, ih (hc hn).2 (by omega)⟩
theorem run_loop {P : Pg} {d : Nat} {u : Mm} {m sz : Nat} {kd nm rp en : Nat → Int} {ht : Nat → Nat} {g0 : Nat → Nat → Int} {nx0 a1 a2 l mn : Int} {FR : SS} (hM : MdA u m) (hT : TmOk kd nm en sz ht) (hTr : TrR g0 m kd nm rp en sz) (hmn : MnR mn l) :
    ∀ (f n to : Nat) (pl : Int) (dp : Nat) (A : SS) (g : Nat → Nat → Int) (s : List (Int × Int)) (q : Int) (v4 v5 v6 : Option Vl), f ≤ 50 → 50 ≤ n + f → n ≤ to → to ≤ sz → Chn (g0 (m + 8)) (afF en) (f + 1) n to → (∀ k, n ≤ k → k < to → dp + ht k ≤ 8) → Cl (afF en) n to → s.length + 9 ≤ 20 + dp → dp ≤ 8 → InS g m q pl → A.2.2.2.1 + ((to : Int) - (n : Int)) ≤ 2147482000 →
    ((runF kd nm (afF en) f n to pl mn dp A).2.2.2.2 = true → FR.2.2.2.2 = true) →
    (∀ (g' : Nat → Nat → Int) (v4 v5 v6 : Option Vl), (runF kd nm (afF en) f n to pl mn dp A).2.2.2.2 = false → RunI kd nm sz g0 g' m nx0 (runF kd nm (afF en) f n to pl mn dp A) s → KpP m g g' → Ef P (d + 1) 108 24 [some (vR m), some (vI a1), some (vI a2), some (vI l), v4, v5, v6] [] (sI u g') (fun x u' => ∃ g', u' = sI u g' ∧ x = .inl none ∧ RFr g0 g' m ∧ ((FR.2.2.2.2 = true ∧ g' m 30 = 1) ∨ (FR.2.2.2.2 = false ∧ g' m 30 = 0 ∧ Rel g' m FR ∧ Vd kd nm sz FR ∧ SlK g0 g' m nx0 ∧ KpP m g0 g')))) →
    RunI kd nm sz g0 g m nx0 A (s ++ [((if n < to then ((n : Nat) : Int) else -1), q)]) → Ef P (d + 1) 108 24 [some (vR m), some (vI a1), some (vI a2), some (vI l), v4, v5, v6] [] (sI u g) (fun x u' => ∃ g', u' = sI u g' ∧ x = .inl none ∧ RFr g0 g' m ∧ ((FR.2.2.2.2 = true ∧ g' m 30 = 1) ∨ (FR.2.2.2.2 = false ∧ g' m 30 = 0 ∧ Rel g' m FR ∧ Vd kd nm sz FR ∧ SlK g0 g' m nx0 ∧ KpP m g0 g'))) := by
  have s0 := hM.1
  have f8 : mF u m 8 = some (m + 3) := (hM.2 2 (by decide)).1
  have s8 : mS u (m + 3) = some (0, 51) := (hM.2 2 (by decide)).2
  have f9 : mF u m 9 = some (m + 4) := (hM.2 3 (by decide)).1
  have s9 : mS u (m + 4) = some (2, 51) := (hM.2 3 (by decide)).2
  have f10 : mF u m 10 = some (m + 5) := (hM.2 4 (by decide)).1
  have s10 : mS u (m + 5) = some (0, 51) := (hM.2 4 (by decide)).2
  have f11 : mF u m 11 = some (m + 6) := (hM.2 5 (by decide)).1
  have s11 : mS u (m + 6) = some (0, 51) := (hM.2 5 (by decide)).2
  have f13 : mF u m 13 = some (m + 8) := (hM.2 7 (by decide)).1
  have s13 : mS u (m + 8) = some (0, 51) := (hM.2 7 (by decide)).2
  have f35 : mF u m 35 = some (m + 25) := (hM.2 24 (by decide)).1
  have s35 : mS u (m + 25) = some (0, 60) := (hM.2 24 (by decide)).2
  have f36 : mF u m 36 = some (m + 26) := (hM.2 25 (by decide)).1
  have s36 : mS u (m + 26) = some (0, 60) := (hM.2 25 (by decide)).2
  -- full: the loop ends
  have fullX : ∀ (g' : Nat → Nat → Int) (v4 v5 v6 : Option Vl) (z : Int), RFr g0 g' m → g' m 30 = 1 → g' m 34 = z → FR.2.2.2.2 = true → Ef P (d + 1) 108 24 [some (vR m), some (vI a1), some (vI a2), some (vI l), v4, v5, v6] [] (sI u g') (fun x u' => ∃ g', u' = sI u g' ∧ x = .inl none ∧ RFr g0 g' m ∧ ((FR.2.2.2.2 = true ∧ g' m 30 = 1) ∨ (FR.2.2.2.2 = false ∧ g' m 30 = 0 ∧ Rel g' m FR ∧ Vd kd nm sz FR ∧ SlK g0 g' m nx0 ∧ KpP m g0 g'))) := by
    intro g' v4 v5 v6 z hr h30 h34 hfr
    refine ef_aload_n (pc := 24) d108_24 rfl ?_
    refine eg_getI (pc := 25) d108_25 lf_8_222 (by assumption) (by decide) ?_
    rw [h34]
    refine ef_if_le (pc := 28) d108_28 (t := 240) rfl (fun h28 => ?_) (fun h28 => ?_)
    · refine ef_vret (pc := 240) d108_240 rfl ?_
      exact ⟨g', rfl, rfl, hr, Or.inl ⟨hfr, h30⟩⟩
    · refine ef_aload_n (pc := 31) d108_31 rfl ?_
      refine eg_getZ (pc := 32) d108_32 lf_8_215 (by assumption) (by decide) ?_
      rw [h30]
      refine ef_if_neT (pc := 35) d108_35 (t := 240) rfl (by decide) ?_
      refine ef_vret (pc := 240) d108_240 rfl ?_
      exact ⟨g', rfl, rfl, hr, Or.inl ⟨hfr, h30⟩⟩
  intro f
  induction f with
  | zero =>
    intro n to pl dp A g s q v4 v5 v6 _ hf hnt hts
    have := hT.1.1
    intro hch hdp hcl hsl hd8 hq hb hfr cont hI
    have hnn : n = to := by omega
    rw [if_neg (by omega)] at hI
    obtain ⟨i1, i2, i3, i4, i5, i6, i7, i8⟩ := id hI
    obtain ⟨k1, k2, k3⟩ := i2.last
    have hrA : runF kd nm (afF en) 0 n to pl mn dp A = A := rfl
    refine ef_aload_n (pc := 24) d108_24 rfl ?_
    refine eg_getI (pc := 25) d108_25 lf_8_222 (by assumption) (by decide) ?_
    rw [k1]
    refine ef_if_leF (pc := 28) d108_28 (t := 240) rfl (by omega) ?_
    refine ef_aload_n (pc := 31) d108_31 rfl ?_
    refine eg_getZ (pc := 32) d108_32 lf_8_215 (by assumption) (by decide) ?_
    rw [i3]
    refine ef_if_neF (pc := 35) d108_35 (t := 240) rfl (by decide) ?_
    refine ef_aload_n (pc := 38) d108_38 rfl ?_
    refine eg_getR (pc := 39) d108_39 lf_8_83 (by assumption) (by decide) (by assumption) ?_
    refine ef_aload_n (pc := 42) d108_42 rfl ?_
    refine eg_getI (pc := 43) d108_43 lf_8_222 (by assumption) (by decide) ?_
    rw [k1]
    refine ef_iconst (pc := 46) d108_46 (by decide) ?_
    refine ef_isub (pc := 47) d108_47 (z := (s.length : Int)) (by omega) ⟨by omega, by omega⟩ ?_
    refine eg_iald (pc := 48) d108_48 (i := s.length) (by assumption) (rfl) (by omega) ?_
    rw [k2]
    refine ef_istore (pc := 49) d108_49 (ls' := [_, _, _, _, _, _, _]) rfl ?_
    refine ef_aload_n (pc := 51) d108_51 rfl ?_
    refine eg_getR (pc := 52) d108_52 lf_8_86 (by assumption) (by decide) (by assumption) ?_
    refine ef_aload_n (pc := 55) d108_55 rfl ?_
    refine eg_getI (pc := 56) d108_56 lf_8_222 (by assumption) (by decide) ?_
    rw [k1]
    refine ef_iconst (pc := 59) d108_59 (by decide) ?_
    refine ef_isub (pc := 60) d108_60 (z := (s.length : Int)) (by omega) ⟨by omega, by omega⟩ ?_
    refine eg_iald (pc := 61) d108_61 (i := s.length) (by assumption) (rfl) (by omega) ?_
    rw [k3]
    refine ef_istore (pc := 62) d108_62 (ls' := [_, _, _, _, _, _, _]) rfl ?_
    refine ef_aload_n (pc := 64) d108_64 rfl ?_
    refine ef_dup (pc := 65) d108_65 rfl ?_
    refine eg_getI (pc := 66) d108_66 lf_8_222 (by assumption) (by decide) ?_
    rw [k1]
    refine ef_iconst (pc := 69) d108_69 (by decide) ?_
    refine ef_isub (pc := 70) d108_70 (z := (s.length : Int)) (by omega) ⟨by omega, by omega⟩ ?_
    refine eg_putI (pc := 71) d108_71 pf_108_222 (by assumption) (by decide) ?_
    refine ef_iload (pc := 74) d108_74 rfl ?_
    refine ef_if_ltT (pc := 76) d108_76 (t := 237) rfl (by show (-1 : Int) < 0; decide) ?_
    refine ef_goto (pc := 237) d108_237 (t := 24) rfl ?_
    exact cont _ _ _ _ (by rw [hrA]; exact i5.1) (by rw [hrA]; exact hI.top (fun a h1 h2 h3 => u2_ne h1) (fun f hf => u2_ni hf) (i2.pop (u2_ne (by omega)) (u2_ne (by omega)) u2_at)) (KpP.same (u2_ne (by omega)))
  | succ f ih =>
    intro n to pl dp A g s q v4 v5 v6 hf50 hf hnt hts hch hdp hcl hsl hd8 hq hb hfr cont hI
    have h50 := hT.1.1
    obtain ⟨i1, i2, i3, i4, i5, i6, i7, i8⟩ := id hI
    obtain ⟨k1, k2, k3⟩ := i2.last
    by_cases hn : n < to
    · rw [if_pos hn] at k2 hI
      have hnsz : n < sz := by omega
      obtain ⟨t1, t2, t3, t4, t5, t6⟩ := hTr.1 n hnsz
      obtain ⟨y1, y2, y3, y4, y5, y6⟩ := hT.2.2 n hnsz
      have hcln := hcl n (Nat.le_refl _) hn
      obtain ⟨c1, c2⟩ := hch hn
      have e3 : g (m + 3) n = kdM (kd n) := by rw [i1.1 _ (by omega) (by omega) (by omega) (by omega)]; exact t1
      have e5 : g (m + 5) n = nmM (nm n) := by rw [i1.1 _ (by omega) (by omega) (by omega) (by omega)]; exact t2
      have e6 : g (m + 6) n = (if n + 1 < afF en n then ((n + 1 : Nat) : Int) else -1) := by rw [i1.1 _ (by omega) (by omega) (by omega) (by omega)]; exact t5
      have e8 : g (m + 8) n = (if afF en n < to then ((afF en n : Nat) : Int) else -1) := by rw [i1.1 _ (by omega) (by omega) (by omega) (by omega)]; exact c1
      have tk := kdM_inj (a := kd n) y3 y4
      have hnmr := nmM_rg y5
      have hres : rsF (nmM (nm n)) l = mtF (nm n) mn := mt_rs hmn y5
      have hmok : MnOk mn := by
        obtain ⟨x, y, z, hx, hy, hz, h1, -⟩ := hmn
        exact ⟨x, y, z, hx, hy, hz, h1⟩
      have hplv : pl = -1 ∨ ∃ p, p ∈ A.1 ∧ p.1 = pl := by
        obtain ⟨q', h1, h2, h3, h4⟩ := hq
        by_cases hq0 : q' = 0
        · left; rw [h3]; unfold pNo; rw [if_pos hq0]
        · right
          obtain ⟨e, he, x1, -⟩ := i4.1.1 q' (by omega) h2 (h4 hq0)
          refine ⟨e, he, ?_⟩
          rw [x1, h3]; unfold pNo; rw [if_neg hq0]
      have hav := add_vd (n := n) (pl := pl) (mn := mn) hT i5 hnsz hplv hmok
      rw [runF, if_neg (by rw [i5.1]; rintro (h | h); omega; cases h)] at hfr cont
      generalize hnext : (if afF en n < to then ((afF en n : Nat) : Int) else -1) = nxt at e8
      -- the node's follower takes its turn on the stack
      generalize hg3 : u2 (u2 (u2 (u2 g m 34 (s.length : Int)) (m + 25) s.length nxt) (m + 26) s.length q) m 34 ((s.length + 1 : Nat) : Int) = g3
      have r3 : ∀ a, a ≠ m → a ≠ m + 25 → a ≠ m + 26 → g3 a = g a := fun a h1 h2 h3 => by rw [← hg3, u2_ne h1, u2_ne h3, u2_ne h2, u2_ne h1]
      have f3 : ∀ f, f ≠ 34 → g3 m f = g m f := fun f h1 => by rw [← hg3, u2_ni h1, u2_ne (by omega), u2_ne (by omega), u2_ni h1]
      have hI3 : RunI kd nm sz g0 g3 m nx0 A (s ++ [(nxt, q)]) := by
        refine hI.top r3 f3 ?_
        refine (i2.pop (g' := u2 g m 34 (s.length : Int)) (u2_ne (by omega)) (u2_ne (by omega)) u2_at).push ?_ ?_ ?_
        · rw [← hg3, u2_ne (by omega), u2_ne (by omega), u2_eq]
        · rw [← hg3, u2_ne (by omega), u2_eq, u2_ne (by omega)]
        · rw [← hg3, u2_at]
      obtain ⟨j1, j2, j3, j4, j5, j6, j7, j8⟩ := id hI3
      have kp3 : KpP m g g3 := KpP.same (r3 _ (by omega) (by omega) (by omega))
      have hq3 : InS g3 m q pl := hq.kp kp3
      have l3 := j2.last
      have n28 : g3 m 28 = A.2.2.2.1 := j4.2.2.2
      have z3 : g3 (m + 3) n = kdM (kd n) := by rw [r3 _ (by omega) (by omega) (by omega)]; exact e3
      have z5 : g3 (m + 5) n = nmM (nm n) := by rw [r3 _ (by omega) (by omega) (by omega)]; exact e5
      have z6 : g3 (m + 6) n = (if n + 1 < afF en n then ((n + 1 : Nat) : Int) else -1) := by rw [r3 _ (by omega) (by omega) (by omega)]; exact e6
      have hnx0 := i5.2.1
      -- behind the node
      have behind : ∀ (B : SS) (g' : Nat → Nat → Int) (v4 v5 v6 : Option Vl), B.2.2.2.1 ≤ A.2.2.2.1 + ((afF en n : Nat) : Int) - (n : Int) → ((runF kd nm (afF en) f (afF en n) to pl mn dp B).2.2.2.2 = true → FR.2.2.2.2 = true) → (∀ (g' : Nat → Nat → Int) (v4 v5 v6 : Option Vl), (runF kd nm (afF en) f (afF en n) to pl mn dp B).2.2.2.2 = false → RunI kd nm sz g0 g' m nx0 (runF kd nm (afF en) f (afF en n) to pl mn dp B) s → KpP m g g' → Ef P (d + 1) 108 24 [some (vR m), some (vI a1), some (vI a2), some (vI l), v4, v5, v6] [] (sI u g') (fun x u' => ∃ g', u' = sI u g' ∧ x = .inl none ∧ RFr g0 g' m ∧ ((FR.2.2.2.2 = true ∧ g' m 30 = 1) ∨ (FR.2.2.2.2 = false ∧ g' m 30 = 0 ∧ Rel g' m FR ∧ Vd kd nm sz FR ∧ SlK g0 g' m nx0 ∧ KpP m g0 g')))) → RunI kd nm sz g0 g' m nx0 B (s ++ [(nxt, q)]) → KpP m g g' → Ef P (d + 1) 108 24 [some (vR m), some (vI a1), some (vI a2), some (vI l), v4, v5, v6] [] (sI u g') (fun x u' => ∃ g', u' = sI u g' ∧ x = .inl none ∧ RFr g0 g' m ∧ ((FR.2.2.2.2 = true ∧ g' m 30 = 1) ∨ (FR.2.2.2.2 = false ∧ g' m 30 = 0 ∧ Rel g' m FR ∧ Vd kd nm sz FR ∧ SlK g0 g' m nx0 ∧ KpP m g0 g'))) := by
        intro B g' v4 v5 v6 hBn hfr' cont' hIB hkp
        refine ih (afF en n) to pl dp B g' s q v4 v5 v6 (by omega) (by omega) hcln.2.1 hts c2 (fun k h1 h2 => hdp k (by omega) h2) (Cl.beh hcl hn) hsl hd8 (hq.kp hkp) (by omega) hfr' (fun g'' a b c h1 h2 h3 => cont' g'' a b c h1 h2 (hkp.trans h3)) ?_
        rw [hnext]; exact hIB
      refine ef_aload_n (pc := 24) d108_24 rfl ?_
      refine eg_getI (pc := 25) d108_25 lf_8_222 (by assumption) (by decide) ?_
      rw [k1]
      refine ef_if_leF (pc := 28) d108_28 (t := 240) rfl (by omega) ?_
      refine ef_aload_n (pc := 31) d108_31 rfl ?_
      refine eg_getZ (pc := 32) d108_32 lf_8_215 (by assumption) (by decide) ?_
      rw [i3]
      refine ef_if_neF (pc := 35) d108_35 (t := 240) rfl (by decide) ?_
      refine ef_aload_n (pc := 38) d108_38 rfl ?_
      refine eg_getR (pc := 39) d108_39 lf_8_83 (by assumption) (by decide) (by assumption) ?_
      refine ef_aload_n (pc := 42) d108_42 rfl ?_
      refine eg_getI (pc := 43) d108_43 lf_8_222 (by assumption) (by decide) ?_
      rw [k1]
      refine ef_iconst (pc := 46) d108_46 (by decide) ?_
      refine ef_isub (pc := 47) d108_47 (z := (s.length : Int)) (by omega) ⟨by omega, by omega⟩ ?_
      refine eg_iald (pc := 48) d108_48 (i := s.length) (by assumption) (rfl) (by omega) ?_
      rw [k2]
      refine ef_istore (pc := 49) d108_49 (ls' := [_, _, _, _, _, _, _]) rfl ?_
      refine ef_aload_n (pc := 51) d108_51 rfl ?_
      refine eg_getR (pc := 52) d108_52 lf_8_86 (by assumption) (by decide) (by assumption) ?_
      refine ef_aload_n (pc := 55) d108_55 rfl ?_
      refine eg_getI (pc := 56) d108_56 lf_8_222 (by assumption) (by decide) ?_
      rw [k1]
      refine ef_iconst (pc := 59) d108_59 (by decide) ?_
      refine ef_isub (pc := 60) d108_60 (z := (s.length : Int)) (by omega) ⟨by omega, by omega⟩ ?_
      refine eg_iald (pc := 61) d108_61 (i := s.length) (by assumption) (rfl) (by omega) ?_
      rw [k3]
      refine ef_istore (pc := 62) d108_62 (ls' := [_, _, _, _, _, _, _]) rfl ?_
      refine ef_aload_n (pc := 64) d108_64 rfl ?_
      refine ef_dup (pc := 65) d108_65 rfl ?_
      refine eg_getI (pc := 66) d108_66 lf_8_222 (by assumption) (by decide) ?_
      rw [k1]
      refine ef_iconst (pc := 69) d108_69 (by decide) ?_
      refine ef_isub (pc := 70) d108_70 (z := (s.length : Int)) (by omega) ⟨by omega, by omega⟩ ?_
      refine eg_putI (pc := 71) d108_71 pf_108_222 (by assumption) (by decide) ?_
      refine ef_iload (pc := 74) d108_74 rfl ?_
      refine ef_if_ltF (pc := 76) d108_76 (t := 237) rfl (by omega) ?_
      refine ef_aload_n (pc := 79) d108_79 rfl ?_
      refine eg_getR (pc := 80) d108_80 lf_8_83 (by assumption) (by decide) (by assumption) ?_
      refine ef_aload_n (pc := 83) d108_83 rfl ?_
      refine eg_getI (pc := 84) d108_84 lf_8_222 (by assumption) (by decide) ?_
      rw [u2_at]
      refine ef_aload_n (pc := 87) d108_87 rfl ?_
      refine eg_getR (pc := 88) d108_88 lf_8_32 (by assumption) (by decide) (by assumption) ?_
      refine ef_iload (pc := 91) d108_91 rfl ?_
      refine eg_iald (pc := 93) d108_93 (i := n) (by assumption) (rfl) (by omega) ?_
      rw [show (u2 g m 34 (s.length : Int)) (m + 8) n = nxt from by rw [u2_ne (by omega)]; exact e8]
      refine eg_iast (pc := 94) d108_94 (i := s.length) (by assumption) (rfl) (by omega) rfl ?_
      refine ef_aload_n (pc := 95) d108_95 rfl ?_
      refine eg_getR (pc := 96) d108_96 lf_8_86 (by assumption) (by decide) (by assumption) ?_
      refine ef_aload_n (pc := 99) d108_99 rfl ?_
      refine eg_getI (pc := 100) d108_100 lf_8_222 (by assumption) (by decide) ?_
      rw [u2_ne (by omega), u2_at]
      refine ef_iload (pc := 103) d108_103 rfl ?_
      refine eg_iast (pc := 105) d108_105 (i := s.length) (by assumption) (rfl) (by omega) rfl ?_
      refine ef_aload_n (pc := 106) d108_106 rfl ?_
      refine ef_dup (pc := 107) d108_107 rfl ?_
      refine eg_getI (pc := 108) d108_108 lf_8_222 (by assumption) (by decide) ?_
      rw [u2_ne (by omega), u2_ne (by omega), u2_at]
      refine ef_iconst (pc := 111) d108_111 (by decide) ?_
      refine ef_iadd (pc := 112) d108_112 (z := ((s.length + 1 : Nat) : Int)) (by omega) ⟨by omega, by omega⟩ ?_
      refine eg_putI (pc := 113) d108_113 pf_108_222 (by assumption) (by decide) ?_
      rw [hg3]
      refine ef_aload_n (pc := 116) d108_116 rfl ?_
      refine eg_getR (pc := 117) d108_117 lf_8_16 (by assumption) (by decide) (by assumption) ?_
      refine ef_iload (pc := 120) d108_120 rfl ?_
      refine eg_iald (pc := 122) d108_122 (i := n) (by assumption) (rfl) (by omega) ?_
      rw [z3]
      refine ef_if_ne (pc := 123) d108_123 (t := 186) rfl (fun h123 => ?_) (fun h123 => ?_)
      · have hk4 : kd n ≠ 4 := fun hh => h123 (tk.2.2.2.2.1.mpr hh)
        refine ef_aload_n (pc := 186) d108_186 rfl ?_
        refine eg_getR (pc := 187) d108_187 lf_8_16 (by assumption) (by decide) (by assumption) ?_
        refine ef_iload (pc := 190) d108_190 rfl ?_
        refine eg_iald (pc := 192) d108_192 (i := n) (by assumption) (rfl) (by omega) ?_
        rw [z3]
        refine ef_iconst (pc := 193) d108_193 (by decide) ?_
        refine ef_icmp_ne (pc := 194) d108_194 (t := 218) rfl (fun h194 => ?_) (fun h194 => ?_)
        · have hk5 : kd n ≠ 5 := fun hh => h194 (tk.2.2.2.2.2.mpr hh)
          refine ef_aload_n (pc := 218) d108_218 rfl ?_
          refine ef_iload (pc := 219) d108_219 rfl ?_
          refine ef_iload (pc := 221) d108_221 rfl ?_
          refine ef_iload_n (pc := 223) d108_223 rfl ?_
          refine ef_callV (pc := 224) d108_224 lm_8_236 (as := [_, _, _]) rfl rfl (by assumption) rfl rfl (by decide) (Nat.le_of_ble_eq_true rfl) rfl (Nat.le_of_ble_eq_true rfl) ?_
          refine Ec.imp (c112 hM j3) ?_
          rintro r224 u224 ⟨rfl, hpl⟩
          rcases hpl with hpl | ⟨hall, rfl⟩
          · obtain ⟨kk, h2, h3, rfl⟩ := hpl
            have m28 : (u2 (u2 (u2 (u2 g3 (m + 15) kk (g3 m 28)) (m + 16) kk ((n : Int))) (m + 17) kk (q)) (m + 18) kk (l)) m 28 = A.2.2.2.1 := by simp (disch := omega) only [u2_ne]; exact n28
            refine ef_aload_n (pc := 227) d108_227 rfl ?_
            refine ef_dup (pc := 228) d108_228 rfl ?_
            refine eg_getI (pc := 229) d108_229 lf_8_209 (by assumption) (by decide) ?_
            rw [m28]
            refine ef_iconst (pc := 232) d108_232 (by decide) ?_
            refine ef_iadd (pc := 233) d108_233 rfl ⟨by omega, by omega⟩ ?_
            refine eg_putI (pc := 234) d108_234 pf_108_209 (by assumption) (by decide) ?_
            refine ef_goto (pc := 237) d108_237 (t := 24) rfl ?_
            generalize hg5 : u2 (u2 (u2 (u2 (u2 g3 (m + 15) kk (g3 m 28)) (m + 16) kk ((n : Int))) (m + 17) kk (q)) (m + 18) kk (l)) m 28 (A.2.2.2.1 + 1) = g5
            obtain ⟨w1, w3⟩ := rel_grd (g' := g5) (e := (A.2.2.2.1, (pl, (mtF (nm n) mn, ((n : Int), mn))))) j4 j5.2.2.2.2.2.2.1 hnx0 h2 h3 rfl rfl hq3 hmn (by rw [← hg5]; simp (disch := omega) only [u2_ne, u2_eq]; rw [n28]) (by rw [← hg5]; simp (disch := omega) only [u2_ne, u2_eq]) (by rw [← hg5]; simp (disch := omega) only [u2_ne, u2_eq]) (by rw [← hg5]; simp (disch := omega) only [u2_ne, u2_eq]) (fun j h4 h5 => by rw [← hg5]; simp (disch := omega) only [u2_ne]) (fun j h4 h5 => by rw [← hg5]; simp (disch := omega) only [u2_ne]) (by rw [← hg5]; simp (disch := omega) only [u2_ne, u2_at])
            have hadd : addS (kd n) (A.2.2.2.1, (pl, (mtF (nm n) mn, ((n : Int), mn)))) A = (A.1, (A.2.1 ++ [(A.2.2.2.1, (pl, (mtF (nm n) mn, ((n : Int), mn))))], (A.2.2.1, (A.2.2.2.1 + 1, false)))) := addS_g hk4 hk5 w1
            rw [hadd] at hfr cont hav
            obtain ⟨x1, x2, x3⟩ := hav rfl
            have hI5 : RunI kd nm sz g0 g5 m nx0 (A.1, (A.2.1 ++ [(A.2.2.2.1, (pl, (mtF (nm n) mn, ((n : Int), mn))))], (A.2.2.1, (A.2.2.2.1 + 1, false)))) (s ++ [(nxt, q)]) := by
              refine ⟨j1.trans ⟨fun a b1 b2 b3 b4 => ?_, fun f b1 b2 b3 => ?_⟩, ⟨?_, fun i p hp => ?_⟩, ?_, w3, x1, j6.trans (ny := A.2.2.2.1) ⟨fun k hk => ?_, fun oo o1 o2 => ?_⟩ j7, by show nx0 ≤ A.2.2.2.1 + 1; omega, j8.trans (KpP.same (by rw [← hg5]; simp (disch := omega) only [u2_ne]))⟩
              · rw [← hg5]; simp (disch := omega) only [u2_ne]
              · rw [← hg5]; simp (disch := omega) only [u2_ne, u2_ni]
              · rw [← hg5]; simp (disch := omega) only [u2_ne, u2_ni]; exact j2.1
              · rw [← hg5]; simp (disch := omega) only [u2_ne]; exact j2.2 i p hp
              · rw [← hg5]; simp (disch := omega) only [u2_ne, u2_ni]; exact j3
              · by_cases hok : k = kk
                · right; rw [← hg5, hok]; simp (disch := omega) only [u2_ne, u2_at]; rw [n28]; exact Int.le_refl _
                · left; rw [← hg5]; simp (disch := omega) only [u2_ne, u2_ni]
              · left; unfold oNum; rw [← hg5]; simp (disch := omega) only [u2_ne]
            rw [if_neg (fun hh => hk4 hh.1)] at hfr cont
            exact behind _ g5 _ _ _ (by show A.2.2.2.1 + 1 ≤ _; omega) hfr cont hI5 (kp3.trans (KpP.same (by rw [← hg5]; simp (disch := omega) only [u2_ne])))
          · have m28 : u2 g3 m 30 1 m 28 = A.2.2.2.1 := by rw [u2_ni (by omega)]; exact n28
            refine ef_aload_n (pc := 227) d108_227 rfl ?_
            refine ef_dup (pc := 228) d108_228 rfl ?_
            refine eg_getI (pc := 229) d108_229 lf_8_209 (by assumption) (by decide) ?_
            rw [m28]
            refine ef_iconst (pc := 232) d108_232 (by decide) ?_
            refine ef_iadd (pc := 233) d108_233 rfl ⟨by omega, by omega⟩ ?_
            refine eg_putI (pc := 234) d108_234 pf_108_209 (by assumption) (by decide) ?_
            refine ef_goto (pc := 237) d108_237 (t := 24) rfl ?_
            have hxf : (addS (kd n) (A.2.2.2.1, (pl, (mtF (nm n) mn, ((n : Int), mn)))) A).2.2.2.2 = true := addS_gf hk4 hk5 (full_grd j4 hall)
            rw [if_neg (by rw [hxf]; intro hh; cases hh.2)] at hfr
            refine fullX _ _ _ _ _ (j1.trans ⟨fun a b1 b2 b3 b4 => by simp (disch := omega) only [u2_ne], fun f b1 b2 b3 => by simp (disch := omega) only [u2_ne, u2_ni]⟩) (by simp (disch := omega) only [u2_ne, u2_ni, u2_at]) rfl (hfr (by rw [run_flag hxf]; exact hxf))
        · have h5 : kd n = 5 := tk.2.2.2.2.2.mp h194
          refine ef_aload_n (pc := 197) d108_197 rfl ?_
          refine ef_aload_n (pc := 198) d108_198 rfl ?_
          refine ef_aload_n (pc := 199) d108_199 rfl ?_
          refine eg_getR (pc := 200) d108_200 lf_8_23 (by assumption) (by decide) (by assumption) ?_
          refine ef_iload (pc := 203) d108_203 rfl ?_
          refine eg_iald (pc := 205) d108_205 (i := n) (by assumption) (rfl) (by omega) ?_
          rw [z5]
          refine ef_iload_n (pc := 206) d108_206 rfl ?_
          refine ef_callV (pc := 207) d108_207 lm_8_225 (as := [_, _]) rfl rfl (by assumption) rfl rfl (by decide) (Nat.le_of_ble_eq_true rfl) rfl (Nat.le_of_ble_eq_true rfl) ?_
          refine Ec.imp (c109 (by omega) (by omega)) ?_
          rintro r207 u207 ⟨rfl, rfl⟩
          rw [hres]
          refine ef_iload (pc := 210) d108_210 rfl ?_
          refine ef_callV (pc := 212) d108_212 lm_8_232 (as := [_, _]) rfl rfl (by assumption) rfl rfl (by decide) (Nat.le_of_ble_eq_true rfl) rfl (Nat.le_of_ble_eq_true rfl) ?_
          refine Ec.imp (c111 hM j3) ?_
          rintro r212 u212 ⟨rfl, hpl⟩
          refine ef_goto (pc := 215) d108_215 (t := 227) rfl ?_
          rcases hpl with hpl | ⟨hall, rfl⟩
          · obtain ⟨kk, h2, h3, rfl⟩ := hpl
            have m28 : (u2 (u2 (u2 g3 (m + 19) kk (g3 m 28)) (m + 20) kk (mtF (nm n) mn)) (m + 21) kk (q)) m 28 = A.2.2.2.1 := by simp (disch := omega) only [u2_ne]; exact n28
            refine ef_aload_n (pc := 227) d108_227 rfl ?_
            refine ef_dup (pc := 228) d108_228 rfl ?_
            refine eg_getI (pc := 229) d108_229 lf_8_209 (by assumption) (by decide) ?_
            rw [m28]
            refine ef_iconst (pc := 232) d108_232 (by decide) ?_
            refine ef_iadd (pc := 233) d108_233 rfl ⟨by omega, by omega⟩ ?_
            refine eg_putI (pc := 234) d108_234 pf_108_209 (by assumption) (by decide) ?_
            refine ef_goto (pc := 237) d108_237 (t := 24) rfl ?_
            generalize hg5 : u2 (u2 (u2 (u2 g3 (m + 19) kk (g3 m 28)) (m + 20) kk (mtF (nm n) mn)) (m + 21) kk (q)) m 28 (A.2.2.2.1 + 1) = g5
            obtain ⟨w1, w3⟩ := rel_msg (g' := g5) (e := (A.2.2.2.1, (pl, (mtF (nm n) mn, ((n : Int), mn))))) j4 j5.2.2.2.2.2.2.2.1 hnx0 h2 h3 rfl rfl hq3 (by rw [← hg5]; simp (disch := omega) only [u2_ne, u2_eq]; rw [n28]) (by rw [← hg5]; simp (disch := omega) only [u2_ne, u2_eq]) (by rw [← hg5]; simp (disch := omega) only [u2_ne, u2_eq]) (fun j h4 h5 => by rw [← hg5]; simp (disch := omega) only [u2_ne]) (by rw [← hg5]; simp (disch := omega) only [u2_ne, u2_at])
            have hadd : addS (kd n) (A.2.2.2.1, (pl, (mtF (nm n) mn, ((n : Int), mn)))) A = (A.1, (A.2.1, (A.2.2.1 ++ [(A.2.2.2.1, (pl, (mtF (nm n) mn, ((n : Int), mn))))], (A.2.2.2.1 + 1, false)))) := addS_5 h5 w1
            rw [hadd] at hfr cont hav
            obtain ⟨x1, x2, x3⟩ := hav rfl
            have hI5 : RunI kd nm sz g0 g5 m nx0 (A.1, (A.2.1, (A.2.2.1 ++ [(A.2.2.2.1, (pl, (mtF (nm n) mn, ((n : Int), mn))))], (A.2.2.2.1 + 1, false)))) (s ++ [(nxt, q)]) := by
              refine ⟨j1.trans ⟨fun a b1 b2 b3 b4 => ?_, fun f b1 b2 b3 => ?_⟩, ⟨?_, fun i p hp => ?_⟩, ?_, w3, x1, j6.trans (ny := A.2.2.2.1) ⟨fun k hk => ?_, fun oo o1 o2 => ?_⟩ j7, by show nx0 ≤ A.2.2.2.1 + 1; omega, j8.trans (KpP.same (by rw [← hg5]; simp (disch := omega) only [u2_ne]))⟩
              · rw [← hg5]; simp (disch := omega) only [u2_ne]
              · rw [← hg5]; simp (disch := omega) only [u2_ne, u2_ni]
              · rw [← hg5]; simp (disch := omega) only [u2_ne, u2_ni]; exact j2.1
              · rw [← hg5]; simp (disch := omega) only [u2_ne]; exact j2.2 i p hp
              · rw [← hg5]; simp (disch := omega) only [u2_ne, u2_ni]; exact j3
              · left; rw [← hg5]; simp (disch := omega) only [u2_ne]
              · by_cases hok : oo = kk + 21
                · right; unfold oNum; rw [if_neg (by omega), ← hg5, hok, Nat.add_sub_cancel]; simp (disch := omega) only [u2_ne, u2_at]; rw [n28]; exact Int.le_refl _
                · left; unfold oNum
                  split
                  · rw [← hg5]; simp (disch := omega) only [u2_ne]
                  · rw [← hg5]; simp (disch := omega) only [u2_ne, u2_ni]
            rw [if_neg (fun hh => hk4 hh.1)] at hfr cont
            exact behind _ g5 _ _ _ (by show A.2.2.2.1 + 1 ≤ _; omega) hfr cont hI5 (kp3.trans (KpP.same (by rw [← hg5]; simp (disch := omega) only [u2_ne])))
          · have m28 : u2 g3 m 30 1 m 28 = A.2.2.2.1 := by rw [u2_ni (by omega)]; exact n28
            refine ef_aload_n (pc := 227) d108_227 rfl ?_
            refine ef_dup (pc := 228) d108_228 rfl ?_
            refine eg_getI (pc := 229) d108_229 lf_8_209 (by assumption) (by decide) ?_
            rw [m28]
            refine ef_iconst (pc := 232) d108_232 (by decide) ?_
            refine ef_iadd (pc := 233) d108_233 rfl ⟨by omega, by omega⟩ ?_
            refine eg_putI (pc := 234) d108_234 pf_108_209 (by assumption) (by decide) ?_
            refine ef_goto (pc := 237) d108_237 (t := 24) rfl ?_
            have hxf : (addS (kd n) (A.2.2.2.1, (pl, (mtF (nm n) mn, ((n : Int), mn)))) A).2.2.2.2 = true := addS_5f h5 (full_msg j4 hall)
            rw [if_neg (by rw [hxf]; intro hh; cases hh.2)] at hfr
            refine fullX _ _ _ _ _ (j1.trans ⟨fun a b1 b2 b3 b4 => by simp (disch := omega) only [u2_ne], fun f b1 b2 b3 => by simp (disch := omega) only [u2_ne, u2_ni]⟩) (by simp (disch := omega) only [u2_ne, u2_ni, u2_at]) rfl (hfr (by rw [run_flag hxf]; exact hxf))
      · have h4 : kd n = 4 := tk.2.2.2.2.1.mp h123
        refine ef_aload_n (pc := 126) d108_126 rfl ?_
        refine ef_aload_n (pc := 127) d108_127 rfl ?_
        refine ef_aload_n (pc := 128) d108_128 rfl ?_
        refine eg_getR (pc := 129) d108_129 lf_8_23 (by assumption) (by decide) (by assumption) ?_
        refine ef_iload (pc := 132) d108_132 rfl ?_
        refine eg_iald (pc := 134) d108_134 (i := n) (by assumption) (rfl) (by omega) ?_
        rw [z5]
        refine ef_iload_n (pc := 135) d108_135 rfl ?_
        refine ef_callV (pc := 136) d108_136 lm_8_225 (as := [_, _]) rfl rfl (by assumption) rfl rfl (by decide) (Nat.le_of_ble_eq_true rfl) rfl (Nat.le_of_ble_eq_true rfl) ?_
        refine Ec.imp (c109 (by omega) (by omega)) ?_
        rintro r136 u136 ⟨rfl, rfl⟩
        rw [hres]
        refine ef_iload (pc := 139) d108_139 rfl ?_
        refine ef_callV (pc := 141) d108_141 lm_8_229 (as := [_, _]) rfl rfl (by assumption) rfl rfl (by decide) (Nat.le_of_ble_eq_true rfl) rfl (Nat.le_of_ble_eq_true rfl) ?_
        refine Ec.imp (c110 hM) ?_
        rintro r141 u141 hpl
        rcases hpl with hpl | ⟨hall, rfl, rfl⟩
        · obtain ⟨kk, h1, h2, h3, rfl, rfl⟩ := hpl
          have m34 : u2 (u2 (u2 g3 (m + 12) kk (g3 m 28)) (m + 13) kk (mtF (nm n) mn)) (m + 14) kk q m 34 = ((s.length + 1 : Nat) : Int) := by simp (disch := omega) only [u2_ne]; exact l3.1
          have m6 : u2 (u2 (u2 g3 (m + 12) kk (g3 m 28)) (m + 13) kk (mtF (nm n) mn)) (m + 14) kk q (m + 6) n = (if n + 1 < afF en n then ((n + 1 : Nat) : Int) else -1) := by simp (disch := omega) only [u2_ne]; exact z6
          have m28 : u2 (u2 (u2 g3 (m + 12) kk (g3 m 28)) (m + 13) kk (mtF (nm n) mn)) (m + 14) kk q m 28 = A.2.2.2.1 := by simp (disch := omega) only [u2_ne]; exact n28
          refine ef_istore (pc := 144) d108_144 (ls' := [_, _, _, _, _, _, _]) rfl ?_
          refine ef_aload_n (pc := 146) d108_146 rfl ?_
          refine eg_getR (pc := 147) d108_147 lf_8_83 (by assumption) (by decide) (by assumption) ?_
          refine ef_aload_n (pc := 150) d108_150 rfl ?_
          refine eg_getI (pc := 151) d108_151 lf_8_222 (by assumption) (by decide) ?_
          rw [m34]
          refine ef_aload_n (pc := 154) d108_154 rfl ?_
          refine eg_getR (pc := 155) d108_155 lf_8_26 (by assumption) (by decide) (by assumption) ?_
          refine ef_iload (pc := 158) d108_158 rfl ?_
          refine eg_iald (pc := 160) d108_160 (i := n) (by assumption) (rfl) (by omega) ?_
          rw [m6]
          refine eg_iast (pc := 161) d108_161 (i := s.length + 1) (by assumption) (rfl) (by omega) rfl ?_
          refine ef_aload_n (pc := 162) d108_162 rfl ?_
          refine eg_getR (pc := 163) d108_163 lf_8_86 (by assumption) (by decide) (by assumption) ?_
          refine ef_aload_n (pc := 166) d108_166 rfl ?_
          refine eg_getI (pc := 167) d108_167 lf_8_222 (by assumption) (by decide) ?_
          rw [u2_ne (by omega), m34]
          refine ef_iload (pc := 170) d108_170 rfl ?_
          refine eg_iast (pc := 172) d108_172 (i := s.length + 1) (by assumption) (rfl) (by omega) rfl ?_
          refine ef_aload_n (pc := 173) d108_173 rfl ?_
          refine ef_dup (pc := 174) d108_174 rfl ?_
          refine eg_getI (pc := 175) d108_175 lf_8_222 (by assumption) (by decide) ?_
          rw [u2_ne (by omega), u2_ne (by omega), m34]
          refine ef_iconst (pc := 178) d108_178 (by decide) ?_
          refine ef_iadd (pc := 179) d108_179 (z := ((s.length + 2 : Nat) : Int)) (by omega) ⟨by omega, by omega⟩ ?_
          refine eg_putI (pc := 180) d108_180 pf_108_222 (by assumption) (by decide) ?_
          refine ef_goto (pc := 183) d108_183 (t := 227) rfl ?_
          refine ef_aload_n (pc := 227) d108_227 rfl ?_
          refine ef_dup (pc := 228) d108_228 rfl ?_
          refine eg_getI (pc := 229) d108_229 lf_8_209 (by assumption) (by decide) ?_
          rw [u2_ni (by omega), u2_ne (by omega), u2_ne (by omega), m28]
          refine ef_iconst (pc := 232) d108_232 (by decide) ?_
          refine ef_iadd (pc := 233) d108_233 rfl ⟨by omega, by omega⟩ ?_
          refine eg_putI (pc := 234) d108_234 pf_108_209 (by assumption) (by decide) ?_
          refine ef_goto (pc := 237) d108_237 (t := 24) rfl ?_
          generalize hg5 : u2 (u2 (u2 (u2 (u2 (u2 (u2 g3 (m + 12) kk (g3 m 28)) (m + 13) kk (mtF (nm n) mn)) (m + 14) kk q) (m + 25) (s.length + 1) (if n + 1 < afF en n then ((n + 1 : Nat) : Int) else -1)) (m + 26) (s.length + 1) (kk : Int)) m 34 ((s.length + 2 : Nat) : Int)) m 28 (A.2.2.2.1 + 1) = g5
          obtain ⟨w1, w2, w3⟩ := rel_place (g' := g5) (e := (A.2.2.2.1, (pl, (mtF (nm n) mn, ((n : Int), mn))))) j4 j5.2.2.2.2.2.1 hnx0 h1 h2 h3 rfl rfl hq3 (by rw [← hg5]; simp (disch := omega) only [u2_ne, u2_eq]; rw [n28]) (by rw [← hg5]; simp (disch := omega) only [u2_ne, u2_eq]) (by rw [← hg5]; simp (disch := omega) only [u2_ne, u2_eq]) (fun j h4 h5 => by rw [← hg5]; simp (disch := omega) only [u2_ne]) (by rw [← hg5]; simp (disch := omega) only [u2_ne, u2_ni, u2_at])
          have hadd : addS (kd n) (A.2.2.2.1, (pl, (mtF (nm n) mn, ((n : Int), mn)))) A = (A.1 ++ [(A.2.2.2.1, (pl, (mtF (nm n) mn, ((n : Int), mn))))], (A.2.1, (A.2.2.1, (A.2.2.2.1 + 1, false)))) := addS_4 h4 w1
          rw [hadd] at hfr cont hav
          obtain ⟨x1, x2, x3⟩ := hav rfl
          have hI5 : RunI kd nm sz g0 g5 m nx0 (A.1 ++ [(A.2.2.2.1, (pl, (mtF (nm n) mn, ((n : Int), mn))))], (A.2.1, (A.2.2.1, (A.2.2.2.1 + 1, false)))) ((s ++ [(nxt, q)]) ++ [((if n + 1 < afF en n then ((n + 1 : Nat) : Int) else -1), (kk : Int))]) := by
            refine ⟨j1.trans ⟨fun a b1 b2 b3 b4 => ?_, fun f b1 b2 b3 => ?_⟩, ?_, ?_, w3, x1, j6.trans (ny := A.2.2.2.1) ⟨fun k hk => ?_, fun oo o1 o2 => ?_⟩ j7, by show nx0 ≤ A.2.2.2.1 + 1; omega, j8.trans w2⟩
            · rw [← hg5]; simp (disch := omega) only [u2_ne]
            · rw [← hg5]; simp (disch := omega) only [u2_ne, u2_ni]
            · refine j2.push ?_ ?_ ?_
              · rw [← hg5, show (s ++ [(nxt, q)]).length = s.length + 1 by rw [List.length_append]; rfl]; simp (disch := omega) only [u2_ne, u2_eq]
              · rw [← hg5, show (s ++ [(nxt, q)]).length = s.length + 1 by rw [List.length_append]; rfl]; simp (disch := omega) only [u2_ne, u2_eq]
              · rw [← hg5, show (s ++ [(nxt, q)]).length = s.length + 1 by rw [List.length_append]; rfl]; simp (disch := omega) only [u2_ne, u2_ni, u2_at]
            · rw [← hg5]; simp (disch := omega) only [u2_ne, u2_ni]; exact j3
            · left; rw [← hg5]; simp (disch := omega) only [u2_ne]
            · by_cases hok : oo = kk
              · right; unfold oNum; rw [if_pos (by omega), ← hg5, hok]; simp (disch := omega) only [u2_ne, u2_at]; rw [n28]; exact Int.le_refl _
              · left; unfold oNum; rw [← hg5]; simp (disch := omega) only [u2_ne, u2_ni]
          have hkp5 : KpP m g g5 := kp3.trans w2
          have hp5 : InS g5 m (kk : Int) A.2.2.2.1 := ⟨kk, rfl, h2, by unfold pNo; rw [if_neg (by omega), ← hg5]; simp (disch := omega) only [u2_ne, u2_at]; rw [n28], fun _ => by rw [← hg5]; simp (disch := omega) only [u2_ne, u2_at]; rw [n28]; exact hnx0⟩
          have hdp8 : ¬ 8 ≤ dp := by have := hdp n (Nat.le_refl _) hn; have := y2 h4; omega
          rw [if_pos ⟨h4, rfl⟩, if_neg hdp8] at hfr cont
          have hnb := (runF_nx (kd := kd) (nm := nm) f (n + 1) (afF en n) A.2.2.2.1 mn (dp + 1) (A.1 ++ [(A.2.2.2.1, (pl, (mtF (nm n) mn, ((n : Int), mn))))], (A.2.1, (A.2.2.1, (A.2.2.2.1 + 1, false)))) (Cl.inn hcl (Nat.le_refl _) hn) (by omega)).2
          refine ih (n + 1) (afF en n) A.2.2.2.1 (dp + 1) _ g5 (s ++ [(nxt, q)]) (kk : Int) _ _ _ (by omega) (by omega) (by omega) (by omega) (Chn_le t6 (by omega)) (fun k h6 h7 => ?_) (Cl.inn hcl (Nat.le_refl _) hn) (by rw [List.length_append]; show s.length + 1 + 9 ≤ 20 + (dp + 1); omega) (by omega) hp5 (by show A.2.2.2.1 + 1 + _ ≤ _; omega) (fun hh => hfr (by rw [run_flag hh]; exact hh)) (fun g6 a b c h6 h7 h8 => ?_) hI5
          · have := hT.2.1 n k hnsz (by omega) (by omega); have := hdp n (Nat.le_refl _) hn; omega
          · exact behind _ g6 a b c (by show (runF kd nm (afF en) f (n + 1) (afF en n) A.2.2.2.1 mn (dp + 1) _).2.2.2.1 ≤ _; have : ((A.1 ++ [(A.2.2.2.1, (pl, (mtF (nm n) mn, ((n : Int), mn))))], (A.2.1, (A.2.2.1, (A.2.2.2.1 + 1, false)))) : SS).2.2.2.1 = A.2.2.2.1 + 1 := rfl; omega) hfr cont h7 (hkp5.trans h8)
        · have m34 : u2 g3 m 30 1 m 34 = ((s.length + 1 : Nat) : Int) := by rw [u2_ni (by omega)]; exact l3.1
          have m6 : u2 g3 m 30 1 (m + 6) n = (if n + 1 < afF en n then ((n + 1 : Nat) : Int) else -1) := by rw [u2_ne (by omega)]; exact z6
          have m28 : u2 g3 m 30 1 m 28 = A.2.2.2.1 := by rw [u2_ni (by omega)]; exact n28
          refine ef_istore (pc := 144) d108_144 (ls' := [_, _, _, _, _, _, _]) rfl ?_
          refine ef_aload_n (pc := 146) d108_146 rfl ?_
          refine eg_getR (pc := 147) d108_147 lf_8_83 (by assumption) (by decide) (by assumption) ?_
          refine ef_aload_n (pc := 150) d108_150 rfl ?_
          refine eg_getI (pc := 151) d108_151 lf_8_222 (by assumption) (by decide) ?_
          rw [m34]
          refine ef_aload_n (pc := 154) d108_154 rfl ?_
          refine eg_getR (pc := 155) d108_155 lf_8_26 (by assumption) (by decide) (by assumption) ?_
          refine ef_iload (pc := 158) d108_158 rfl ?_
          refine eg_iald (pc := 160) d108_160 (i := n) (by assumption) (rfl) (by omega) ?_
          rw [m6]
          refine eg_iast (pc := 161) d108_161 (i := s.length + 1) (by assumption) (rfl) (by omega) rfl ?_
          refine ef_aload_n (pc := 162) d108_162 rfl ?_
          refine eg_getR (pc := 163) d108_163 lf_8_86 (by assumption) (by decide) (by assumption) ?_
          refine ef_aload_n (pc := 166) d108_166 rfl ?_
          refine eg_getI (pc := 167) d108_167 lf_8_222 (by assumption) (by decide) ?_
          rw [u2_ne (by omega), m34]
          refine ef_iload (pc := 170) d108_170 rfl ?_
          refine eg_iast (pc := 172) d108_172 (i := s.length + 1) (by assumption) (rfl) (by omega) rfl ?_
          refine ef_aload_n (pc := 173) d108_173 rfl ?_
          refine ef_dup (pc := 174) d108_174 rfl ?_
          refine eg_getI (pc := 175) d108_175 lf_8_222 (by assumption) (by decide) ?_
          rw [u2_ne (by omega), u2_ne (by omega), m34]
          refine ef_iconst (pc := 178) d108_178 (by decide) ?_
          refine ef_iadd (pc := 179) d108_179 (z := ((s.length + 2 : Nat) : Int)) (by omega) ⟨by omega, by omega⟩ ?_
          refine eg_putI (pc := 180) d108_180 pf_108_222 (by assumption) (by decide) ?_
          refine ef_goto (pc := 183) d108_183 (t := 227) rfl ?_
          refine ef_aload_n (pc := 227) d108_227 rfl ?_
          refine ef_dup (pc := 228) d108_228 rfl ?_
          refine eg_getI (pc := 229) d108_229 lf_8_209 (by assumption) (by decide) ?_
          rw [u2_ni (by omega), u2_ne (by omega), u2_ne (by omega), m28]
          refine ef_iconst (pc := 232) d108_232 (by decide) ?_
          refine ef_iadd (pc := 233) d108_233 rfl ⟨by omega, by omega⟩ ?_
          refine eg_putI (pc := 234) d108_234 pf_108_209 (by assumption) (by decide) ?_
          refine ef_goto (pc := 237) d108_237 (t := 24) rfl ?_
          have hxf : (addS (kd n) (A.2.2.2.1, (pl, (mtF (nm n) mn, ((n : Int), mn)))) A).2.2.2.2 = true := addS_4f h4 (full_place j4 hall)
          rw [if_neg (by rw [hxf]; intro hh; cases hh.2)] at hfr
          refine fullX _ _ _ _ _ (j1.trans ⟨fun a b1 b2 b3 b4 => by simp (disch := omega) only [u2_ne], fun f b1 b2 b3 => by simp (disch := omega) only [u2_ne, u2_ni]⟩) (by simp (disch := omega) only [u2_ne, u2_ni, u2_at]) rfl (hfr (by rw [run_flag hxf]; exact hxf))
    · have hnn : n = to := by omega
      rw [if_neg hn] at hI k2
      have hrA : runF kd nm (afF en) (f + 1) n to pl mn dp A = A := by rw [runF, if_pos (Or.inl (by omega))]
      refine ef_aload_n (pc := 24) d108_24 rfl ?_
      refine eg_getI (pc := 25) d108_25 lf_8_222 (by assumption) (by decide) ?_
      rw [k1]
      refine ef_if_leF (pc := 28) d108_28 (t := 240) rfl (by omega) ?_
      refine ef_aload_n (pc := 31) d108_31 rfl ?_
      refine eg_getZ (pc := 32) d108_32 lf_8_215 (by assumption) (by decide) ?_
      rw [i3]
      refine ef_if_neF (pc := 35) d108_35 (t := 240) rfl (by decide) ?_
      refine ef_aload_n (pc := 38) d108_38 rfl ?_
      refine eg_getR (pc := 39) d108_39 lf_8_83 (by assumption) (by decide) (by assumption) ?_
      refine ef_aload_n (pc := 42) d108_42 rfl ?_
      refine eg_getI (pc := 43) d108_43 lf_8_222 (by assumption) (by decide) ?_
      rw [k1]
      refine ef_iconst (pc := 46) d108_46 (by decide) ?_
      refine ef_isub (pc := 47) d108_47 (z := (s.length : Int)) (by omega) ⟨by omega, by omega⟩ ?_
      refine eg_iald (pc := 48) d108_48 (i := s.length) (by assumption) (rfl) (by omega) ?_
      rw [k2]
      refine ef_istore (pc := 49) d108_49 (ls' := [_, _, _, _, _, _, _]) rfl ?_
      refine ef_aload_n (pc := 51) d108_51 rfl ?_
      refine eg_getR (pc := 52) d108_52 lf_8_86 (by assumption) (by decide) (by assumption) ?_
      refine ef_aload_n (pc := 55) d108_55 rfl ?_
      refine eg_getI (pc := 56) d108_56 lf_8_222 (by assumption) (by decide) ?_
      rw [k1]
      refine ef_iconst (pc := 59) d108_59 (by decide) ?_
      refine ef_isub (pc := 60) d108_60 (z := (s.length : Int)) (by omega) ⟨by omega, by omega⟩ ?_
      refine eg_iald (pc := 61) d108_61 (i := s.length) (by assumption) (rfl) (by omega) ?_
      rw [k3]
      refine ef_istore (pc := 62) d108_62 (ls' := [_, _, _, _, _, _, _]) rfl ?_
      refine ef_aload_n (pc := 64) d108_64 rfl ?_
      refine ef_dup (pc := 65) d108_65 rfl ?_
      refine eg_getI (pc := 66) d108_66 lf_8_222 (by assumption) (by decide) ?_
      rw [k1]
      refine ef_iconst (pc := 69) d108_69 (by decide) ?_
      refine ef_isub (pc := 70) d108_70 (z := (s.length : Int)) (by omega) ⟨by omega, by omega⟩ ?_
      refine eg_putI (pc := 71) d108_71 pf_108_222 (by assumption) (by decide) ?_
      refine ef_iload (pc := 74) d108_74 rfl ?_
      refine ef_if_ltT (pc := 76) d108_76 (t := 237) rfl (by show (-1 : Int) < 0; decide) ?_
      refine ef_goto (pc := 237) d108_237 (t := 24) rfl ?_
      exact cont _ _ _ _ (by rw [hrA]; exact i5.1) (by rw [hrA]; exact hI.top (fun a h1 h2 h3 => u2_ne h1) (fun f hf => u2_ni hf) (i2.pop (u2_ne (by omega)) (u2_ne (by omega)) u2_at)) (KpP.same (u2_ne (by omega)))
theorem c108 {P : Pg} {d : Nat} {u : Mm} {m sz nn n to : Nat} {kd nm rp en : Nat → Int} {ht : Nat → Nat} {g : Nat → Nat → Int} {pl q l mn : Int} {A FR : SS} (hM : MdA u m) (hT : TmOk kd nm en sz ht) (hTr : TrR g m kd nm rp en sz) (hmn : MnR mn l) (hnn : nn < 51) (hfi : g (m + 6) nn = (if n < to then ((n : Nat) : Int) else -1)) (hnt : n ≤ to) (hts : to ≤ sz) (hch : Chn (g (m + 8)) (afF en) 51 n to) (hcl : Cl (afF en) n to) (hq : InS g m q pl) (hA : Rel g m A) (hV : Vd kd nm sz A) (h30 : g m 30 = 0) (hnx : A.2.2.2.1 ≤ 2147481000) (hFR : runF kd nm (afF en) 50 n to pl mn 1 A = FR) :
    Ec P (d + 1) 108 [vR m, vI (nn : Int), vI q, vI l] (sI u g) (fun x u' => ∃ g', u' = sI u g' ∧ x = .inl none ∧ RFr g g' m ∧ ((FR.2.2.2.2 = true ∧ g' m 30 = 1) ∨ (FR.2.2.2.2 = false ∧ g' m 30 = 0 ∧ Rel g' m FR ∧ Vd kd nm sz FR ∧ SlK g g' m A.2.2.2.1 ∧ KpP m g g'))) := by
  have s0 := hM.1
  have f8 : mF u m 8 = some (m + 3) := (hM.2 2 (by decide)).1
  have s8 : mS u (m + 3) = some (0, 51) := (hM.2 2 (by decide)).2
  have f10 : mF u m 10 = some (m + 5) := (hM.2 4 (by decide)).1
  have s10 : mS u (m + 5) = some (0, 51) := (hM.2 4 (by decide)).2
  have f11 : mF u m 11 = some (m + 6) := (hM.2 5 (by decide)).1
  have s11 : mS u (m + 6) = some (0, 51) := (hM.2 5 (by decide)).2
  have f13 : mF u m 13 = some (m + 8) := (hM.2 7 (by decide)).1
  have s13 : mS u (m + 8) = some (0, 51) := (hM.2 7 (by decide)).2
  have f35 : mF u m 35 = some (m + 25) := (hM.2 24 (by decide)).1
  have s35 : mS u (m + 25) = some (0, 60) := (hM.2 24 (by decide)).2
  have f36 : mF u m 36 = some (m + 26) := (hM.2 25 (by decide)).1
  have s36 : mS u (m + 26) = some (0, 60) := (hM.2 25 (by decide)).2
  have h50 := hT.1.1
  have kp : KpP m g (u2 (u2 (u2 g m 34 1) (m + 25) 0 (if n < to then ((n : Nat) : Int) else -1)) (m + 26) 0 q) := KpP.same (by simp (disch := omega) only [u2_ne])
  have rs : ∀ j, 12 ≤ j → j ≤ 21 → (u2 (u2 (u2 g m 34 1) (m + 25) 0 (if n < to then ((n : Nat) : Int) else -1)) (m + 26) 0 q) (m + j) = g (m + j) := fun j h1 h2 => by simp (disch := omega) only [u2_ne]
  change Ef P _ 108 0 [some (vR m), some (vI (nn : Int)), some (vI q), some (vI l), none, none, none] [] _ _
  refine ef_aload_n (pc := 0) d108_0 rfl ?_
  refine ef_iconst (pc := 1) d108_1 (by decide) ?_
  refine eg_putI (pc := 2) d108_2 pf_108_222 (by assumption) (by decide) ?_
  refine ef_aload_n (pc := 5) d108_5 rfl ?_
  refine eg_getR (pc := 6) d108_6 lf_8_83 (by assumption) (by decide) (by assumption) ?_
  refine ef_iconst (pc := 9) d108_9 (by decide) ?_
  refine ef_aload_n (pc := 10) d108_10 rfl ?_
  refine eg_getR (pc := 11) d108_11 lf_8_26 (by assumption) (by decide) (by assumption) ?_
  refine ef_iload_n (pc := 14) d108_14 rfl ?_
  refine eg_iald (pc := 15) d108_15 (i := nn) (by assumption) (rfl) (by omega) ?_
  rw [u2_ne (by omega), hfi]
  refine eg_iast (pc := 16) d108_16 (i := 0) (by assumption) (rfl) (by omega) rfl ?_
  refine ef_aload_n (pc := 17) d108_17 rfl ?_
  refine eg_getR (pc := 18) d108_18 lf_8_86 (by assumption) (by decide) (by assumption) ?_
  refine ef_iconst (pc := 21) d108_21 (by decide) ?_
  refine ef_iload_n (pc := 22) d108_22 rfl ?_
  refine eg_iast (pc := 23) d108_23 (i := 0) (by assumption) (rfl) (by omega) rfl ?_
  refine run_loop (g0 := g) (nx0 := A.2.2.2.1) (FR := FR) hM hT hTr hmn 50 n to pl 1 A _ [] q _ _ _ (by omega) (by omega) hnt hts hch (fun k h1 h2 => by have := (hT.2.2 k (by omega)).1; omega) hcl (by show 0 + 9 ≤ 20 + 1; omega) (by omega) (hq.kp kp) (by omega) (fun hh => by rw [← hFR]; exact hh) (fun g1 v4 v5 v6 h1 h2 h3 => ?_) ?_
  · rw [hFR] at h1 h2
    obtain ⟨a1, a2, a3, a4, a5, a6, a7, a8⟩ := h2
    have z34 := a2.1
    have h3b := kp.trans h3
    refine ef_aload_n (pc := 24) d108_24 rfl ?_
    refine eg_getI (pc := 25) d108_25 lf_8_222 (by assumption) (by decide) ?_
    rw [show g1 m 34 = 0 from z34]
    refine ef_if_leT (pc := 28) d108_28 (t := 240) rfl (by decide) ?_
    refine ef_vret (pc := 240) d108_240 rfl ?_
    exact ⟨g1, rfl, rfl, a1, Or.inr ⟨h1, a3, a4, a5, a6, h3b⟩⟩
  · refine ⟨⟨fun a b1 b2 b3 b4 => by simp (disch := omega) only [u2_ne], fun f b1 b2 b3 => by simp (disch := omega) only [u2_ne, u2_ni]⟩, ⟨by simp (disch := omega) only [u2_ne, u2_at]; rfl, fun i p hp => ?_⟩, by simp (disch := omega) only [u2_ne, u2_ni]; exact h30, ⟨hA.1.same (fun j h1 h2 => rs j (by omega) (by omega)), hA.2.1.same kp (fun j h1 h2 => rs j (by omega) (by omega)), hA.2.2.1.same kp (fun j h1 h2 => rs j (by omega) (by omega)), by simp (disch := omega) only [u2_ne, u2_ni]; exact hA.2.2.2⟩, hV, ⟨fun k h1 => Or.inl (by rw [rs 15 (by omega) (by omega)]), fun oo h1 h2 => Or.inl (by unfold oNum; rw [rs 12 (by omega) (by omega), rs 19 (by omega) (by omega)])⟩, Int.le_refl _, kp⟩
    have hi : i = 0 := by
      have := (List.getElem?_eq_some_iff.mp hp).1
      simp only [List.length_append, List.length_cons, List.length_nil] at this
      omega
    subst hi
    cases hp
    exact ⟨by rw [u2_ne (by omega), u2_at], by rw [u2_at]⟩
