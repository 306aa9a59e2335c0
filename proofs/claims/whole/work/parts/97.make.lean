/-! The model: a redex taken. Written by wip/whole/gen/c97.py. -/
def MkF (g g' : Nat → Nat → Int) (m : Nat) : Prop := (∀ a, a ≠ m → (a < m + 12 ∨ m + 21 < a) → (a < m + 25 ∨ m + 34 < a) → a ≠ m + 41 → a ≠ m + 42 → g' a = g a) ∧ ∀ f, f ≠ 28 → f ≠ 30 → f ≠ 34 → f ≠ 37 → f ≠ 38 → f ≠ 39 → f ≠ 48 → f ≠ 49 → g' m f = g m f
def SlN (g g' : Nat → Nat → Int) (m : Nat) (nx : Int) : Prop := (∀ kk, kk < 40 → g' (m + 15) kk = g (m + 15) kk ∨ g' (m + 15) kk < 0 ∨ nx ≤ g' (m + 15) kk) ∧ ∀ oo, 1 ≤ oo → oo < 51 → oNum g' m oo = oNum g m oo ∨ oNum g' m oo < 0 ∨ nx ≤ oNum g' m oo
theorem SlN.run {g g1 g2 : Nat → Nat → Int} {m : Nat} {nx : Int} (a : SlN g g1 m nx) (b : SlK g1 g2 m nx) : SlN g g2 m nx := by
  refine ⟨fun kk h1 => ?_, fun oo h1 h2 => ?_⟩
  · rcases b.1 kk h1 with h3 | h3
    · rw [h3]; exact a.1 kk h1
    · exact Or.inr (Or.inr h3)
  · rcases b.2 oo h1 h2 with h3 | h3
    · rw [h3]; exact a.2 oo h1 h2
    · exact Or.inr (Or.inr h3)
theorem SlN.same {g g1 g2 : Nat → Nat → Int} {m : Nat} {nx : Int} (a : SlN g g1 m nx) (h : ∀ j, 12 ≤ j → j ≤ 21 → g2 (m + j) = g1 (m + j)) : SlN g g2 m nx := by
  refine ⟨fun kk h1 => by rw [h 15 (by omega) (by omega)]; exact a.1 kk h1, fun oo h1 h2 => ?_⟩
  have : oNum g2 m oo = oNum g1 m oo := by unfold oNum; rw [h 12 (by omega) (by omega), h 19 (by omega) (by omega)]
  rw [this]; exact a.2 oo h1 h2
theorem Rel.same {g g' : Nat → Nat → Int} {m : Nat} {A : SS} (h : Rel g m A) (a : ∀ j, 12 ≤ j → j ≤ 21 → g' (m + j) = g (m + j)) (a28 : g' m 28 = g m 28) : Rel g' m A := ⟨h.1.same (fun j h1 h2 => a j h1 (by omega)), h.2.1.same (KpP.same (a 12 (by omega) (by omega))) (fun j h1 h2 => a j (by omega) (by omega)), h.2.2.1.same (KpP.same (a 12 (by omega) (by omega))) (fun j h1 h2 => a j (by omega) h2), by rw [a28]; exact h.2.2.2⟩
theorem c138 {P : Pg} {d : Nat} {u : Mm} {g : Nat → Nat → Int} {m : Nat} {sz kk oo : Nat} {kd nm rp en : Nat → Int} {ht : Nat → Nat} {A : SS} {w : Rd} (hM : MdA u m) (hT : TmOk kd nm en sz ht) (hTr : TrR g m kd nm rp en sz) (hA : Rel g m A) (hV : Vd kd nm sz A) (h30 : g m 30 = 0) (hnx : A.2.2.2.1 ≤ 2147481000) (hw : w ∈ rxS kd A) (hsl : Sl g m w kk oo) (h65 : g m 65 = (kk : Int)) (h66 : g m 66 = (oo : Int)) : Ec P (d + 7) 138 [vR m] (sI u g) (fun x u' => ∃ g', u' = sI u g' ∧ x = .inl none ∧ MkF g g' m ∧ (((folF kd nm rp en w A).2.2.2.2 = false ∧ (teS kd nm rp en (folF kd nm rp en w A)).length ≤ 240 ∧ g' m 30 = 0 ∧ Rel g' m (folF kd nm rp en w A) ∧ Vd kd nm sz (folF kd nm rp en w A) ∧ g' m 49 = ((teS kd nm rp en (folF kd nm rp en w A)).length : Int) ∧ Row (g' (m + 27)) (teS kd nm rp en (folF kd nm rp en w A)) ∧ SlN g g' m A.2.2.2.1) ∨ (¬ ((folF kd nm rp en w A).2.2.2.2 = false ∧ (teS kd nm rp en (folF kd nm rp en w A)).length ≤ 240) ∧ g' m 30 = 1))) := by
  have s0 := hM.1
  have f8 : mF u m 8 = some (m + 3) := (hM.2 2 (by decide)).1
  have s8 : mS u (m + 3) = some (0, 51) := (hM.2 2 (by decide)).2
  have f9 : mF u m 9 = some (m + 4) := (hM.2 3 (by decide)).1
  have s9 : mS u (m + 4) = some (2, 51) := (hM.2 3 (by decide)).2
  have f10 : mF u m 10 = some (m + 5) := (hM.2 4 (by decide)).1
  have s10 : mS u (m + 5) = some (0, 51) := (hM.2 4 (by decide)).2
  have f18 : mF u m 18 = some (m + 12) := (hM.2 11 (by decide)).1
  have s18 : mS u (m + 12) = some (0, 21) := (hM.2 11 (by decide)).2
  have f20 : mF u m 20 = some (m + 14) := (hM.2 13 (by decide)).1
  have s20 : mS u (m + 14) = some (0, 21) := (hM.2 13 (by decide)).2
  have f21 : mF u m 21 = some (m + 15) := (hM.2 14 (by decide)).1
  have s21 : mS u (m + 15) = some (0, 40) := (hM.2 14 (by decide)).2
  have f22 : mF u m 22 = some (m + 16) := (hM.2 15 (by decide)).1
  have s22 : mS u (m + 16) = some (0, 40) := (hM.2 15 (by decide)).2
  have f23 : mF u m 23 = some (m + 17) := (hM.2 16 (by decide)).1
  have s23 : mS u (m + 17) = some (0, 40) := (hM.2 16 (by decide)).2
  have f24 : mF u m 24 = some (m + 18) := (hM.2 17 (by decide)).1
  have s24 : mS u (m + 18) = some (0, 40) := (hM.2 17 (by decide)).2
  have f25 : mF u m 25 = some (m + 19) := (hM.2 18 (by decide)).1
  have s25 : mS u (m + 19) = some (0, 30) := (hM.2 18 (by decide)).2
  have f26 : mF u m 26 = some (m + 20) := (hM.2 19 (by decide)).1
  have s26 : mS u (m + 20) = some (0, 30) := (hM.2 19 (by decide)).2
  have f27 : mF u m 27 = some (m + 21) := (hM.2 20 (by decide)).1
  have s27 : mS u (m + 21) = some (0, 30) := (hM.2 20 (by decide)).2
  obtain ⟨v1, v2, v3, v4, v5, v6, v7, v8, v9, v10, v11, v12, v13, v14, v15, v16⟩ := id hV
  obtain ⟨rp1, rg1, rm1, rn1⟩ := id hA
  obtain ⟨hk40, ho1, ho51, hsg, hso⟩ := hsl
  obtain ⟨e, hR⟩ := (rx_mem v6).mp hw
  obtain ⟨he, hwe, hkinds⟩ := id hR
  have hg0 : 0 ≤ g (m + 15) kk := by rw [hsg, hwe]; exact (v7.2 e he).1
  obtain ⟨e', he', e1, e2, e3, e4⟩ := rg1.1 kk hk40 hg0
  have hee : e' = e := v7.one he' he (by rw [e1, hsg, hwe])
  subst hee
  obtain ⟨n, hn1, hn2, hk0, hk3, hnm, hmn⟩ := v16 e' he
  have hnd : g (m + 16) kk = (n : Int) := by rw [← e2]; exact hn1
  have htn : e'.2.2.2.1.toNat = n := by rw [hn1]; rfl
  rw [htn] at hkinds
  obtain ⟨q, q1, q2, q3, q4⟩ := id e3
  rw [q1] at e3
  obtain ⟨y1, y2, y3, y4, y5, y6⟩ := hT.2.2 n hn2
  obtain ⟨t1, t2, t3, t4, t5, t6⟩ := hTr.1 n hn2
  have h50 := hT.1.1
  have tk := kdM_inj (a := kd n) y3 y4
  have hcln := hT.1.2 n (Nat.zero_le _) hn2
  generalize hl : g (m + 18) kk = l at e4
  generalize hB1 : rea1 rp (ixF A.2.1 w.2.1 0).toNat e' A = B1
  have hb1v : Vd kd nm sz B1 := by rw [← hB1]; exact rea1_vd hV
  have hb1p := rea1_pm (rp := rp) (k := (ixF A.2.1 w.2.1 0).toNat) (e := e') (A := A)
  rw [hB1] at hb1p
  obtain ⟨hb2v, hb2p⟩ := rea2_vd hb1v hb1p.1 hb1p.2 hR (v11 e' he)
  have hmok := reaM_ok (B := B1) hT hV hb1p.2 hR
  have hfol : folF kd nm rp en w A = runF kd nm (afF en) 50 (n + 1) (afF en n) e'.2.1 (reaM kd nm e' w.2.2 B1) 1 (rea2 kd e' w.2.2 B1) := by
    rw [(fol_get v7 hR).2]
    unfold reaF
    rw [htn, hB1]
  have hnb2 : (rea2 kd e' w.2.2 B1).2.2.2 = A.2.2.2 := by rw [rea2_nx, ← hB1, rea1_nx]
  -- the rest: running and describing
  have rest : ∀ (gB : Nat → Nat → Int) (l' : Int) (v6 : Option Vl), (∀ a, a ≠ m → (a < m + 12 ∨ m + 21 < a) → gB a = g a) → gB m = g m → SlN g gB m A.2.2.2.1 → Rel gB m (rea2 kd e' w.2.2 B1) → InS gB m (q : Int) e'.2.1 → MnR (reaM kd nm e' w.2.2 B1) l' → Ef P (d + 7) 138 305 [some (vR m), some (vI (kk : Int)), some (vI (oo : Int)), some (vI (n : Int)), some (vI (q : Int)), some (vI l'), v6] [] (sI u gB) (fun x u' => ∃ g', u' = sI u g' ∧ x = .inl none ∧ MkF g g' m ∧ (((folF kd nm rp en w A).2.2.2.2 = false ∧ (teS kd nm rp en (folF kd nm rp en w A)).length ≤ 240 ∧ g' m 30 = 0 ∧ Rel g' m (folF kd nm rp en w A) ∧ Vd kd nm sz (folF kd nm rp en w A) ∧ g' m 49 = ((teS kd nm rp en (folF kd nm rp en w A)).length : Int) ∧ Row (g' (m + 27)) (teS kd nm rp en (folF kd nm rp en w A)) ∧ SlN g g' m A.2.2.2.1) ∨ (¬ ((folF kd nm rp en w A).2.2.2.2 = false ∧ (teS kd nm rp en (folF kd nm rp en w A)).length ≤ 240) ∧ g' m 30 = 1))) := by
    intro gB l' v6 oB mB slB relB inB mnB
    have hTrB : TrR gB m kd nm rp en sz := hTr.of (fun j h1 h2 => oB _ (by omega) (by omega))
    have hfB : gB (m + 6) n = (if n + 1 < afF en n then ((n + 1 : Nat) : Int) else -1) := by rw [oB _ (by omega) (by omega)]; exact t5
    have hcB : Chn (gB (m + 8)) (afF en) 51 (n + 1) (afF en n) := by rw [oB _ (by omega) (by omega)]; exact t6
    refine ef_aload_n (pc := 305) d138_305 rfl ?_
    refine ef_iload_n (pc := 306) d138_306 rfl ?_
    refine ef_iload (pc := 307) d138_307 rfl ?_
    refine ef_iload (pc := 309) d138_309 rfl ?_
    refine ef_callV (pc := 311) d138_311 lm_8_310 (as := [_, _, _]) rfl rfl (by assumption) rfl rfl (by decide) (Nat.le_of_ble_eq_true rfl) rfl (Nat.le_of_ble_eq_true rfl) ?_
    refine Ec.imp (Ec.deep (by omega) (c108 (d := 0) (FR := folF kd nm rp en w A) hM hT hTrB mnB (by omega) hfB (by omega) hcln.2.1 hcB (Cl.inn hT.1.2 (Nat.zero_le _) hn2) inB relB hb2v (by rw [mB]; exact h30) (by rw [show (rea2 kd e' w.2.2 B1).2.2.2.1 = A.2.2.2.1 from by rw [hnb2]]; exact hnx) hfol.symm)) ?_
    rintro r311 u311 ⟨g2, rfl, rfl, r2, p2⟩
    have mf2 : MkF g g2 m := ⟨fun a h1 h2 h3 h4 h5 => (r2.1 a h1 h2 (by omega) (by omega)).trans (oB a h1 h2), fun f h1 h2 h3 h4 h5 h6 h7 h8 => by rw [r2.2 f h1 h2 h3, mB]⟩
    rcases p2 with ⟨h1, h2⟩ | ⟨h1, h2, h3, h4, h5, h6⟩
    · refine ef_aload_n (pc := 314) d138_314 rfl ?_
      refine eg_getZ (pc := 315) d138_315 lf_8_215 (by assumption) (by decide) ?_
      rw [h2]
      refine ef_if_neT (pc := 318) d138_318 (t := 325) rfl (by decide) ?_
      refine ef_vret (pc := 325) d138_325 rfl ?_
      exact ⟨g2, rfl, rfl, mf2, Or.inr ⟨(fun hh => by rw [h1] at hh; cases hh.1), h2⟩⟩
    · have hTr2 : TrR g2 m kd nm rp en sz := hTrB.of (fun j a1 a2 => r2.1 _ (by omega) (by omega) (by omega) (by omega))
      refine ef_aload_n (pc := 314) d138_314 rfl ?_
      refine eg_getZ (pc := 315) d138_315 lf_8_215 (by assumption) (by decide) ?_
      rw [h2]
      refine ef_if_neF (pc := 318) d138_318 (t := 325) rfl (by decide) ?_
      refine ef_aload_n (pc := 321) d138_321 rfl ?_
      refine ef_callV (pc := 322) d138_322 lm_8_313 (as := []) rfl rfl (by assumption) rfl rfl (by decide) (Nat.le_of_ble_eq_true rfl) rfl (Nat.le_of_ble_eq_true rfl) ?_
      refine Ec.imp (c113 (d := d) hM hT hTr2 h3 h4 h2) ?_
      rintro r322 u322 ⟨g3, rfl, rfl, d3, p3⟩
      have mf3 : MkF g g3 m := ⟨fun a h1 h2 h3 h4 h5 => (d3.1 a h1 (by omega) h4 h5).trans (mf2.1 a h1 h2 h3 h4 h5), fun f h1 h2 h3 h4 h5 h6 h7 h8 => (d3.2 f h2 h4 h5 h6 h7 h8).trans (mf2.2 f h1 h2 h3 h4 h5 h6 h7 h8)⟩
      have r3 : ∀ j, 12 ≤ j → j ≤ 21 → g3 (m + j) = g2 (m + j) := fun j a1 a2 => d3.1 _ (by omega) (by omega) (by omega) (by omega)
      refine ef_vret (pc := 325) d138_325 rfl ?_
      rcases p3 with ⟨a1, a2, a3, a4⟩ | ⟨a1, a2⟩
      · exact ⟨g3, rfl, rfl, mf3, Or.inl ⟨h1, a1, a2, h3.same r3 (d3.2 28 (by decide) (by decide) (by decide) (by decide) (by decide) (by decide)), h4, a3, a4, (slB.run (by rw [← show (rea2 kd e' w.2.2 B1).2.2.2.1 = A.2.2.2.1 from by rw [hnb2]]; exact h5)).same r3⟩⟩
      · exact ⟨g3, rfl, rfl, mf3, Or.inr ⟨fun hh => by omega, a2⟩⟩
  have kinds : ∀ (gA : Nat → Nat → Int), (∀ a, a ≠ m + 15 → gA a = g a) → (∀ k, k < 40 → gA (m + 15) k = g (m + 15) k ∨ gA (m + 15) k = -1) → Rel gA m B1 → Ef P (d + 7) 138 49 [some (vR m), some (vI (kk : Int)), some (vI (oo : Int)), some (vI (n : Int)), some (vI (q : Int)), some (vI l), none] [] (sI u gA) (fun x u' => ∃ g', u' = sI u g' ∧ x = .inl none ∧ MkF g g' m ∧ (((folF kd nm rp en w A).2.2.2.2 = false ∧ (teS kd nm rp en (folF kd nm rp en w A)).length ≤ 240 ∧ g' m 30 = 0 ∧ Rel g' m (folF kd nm rp en w A) ∧ Vd kd nm sz (folF kd nm rp en w A) ∧ g' m 49 = ((teS kd nm rp en (folF kd nm rp en w A)).length : Int) ∧ Row (g' (m + 27)) (teS kd nm rp en (folF kd nm rp en w A)) ∧ SlN g g' m A.2.2.2.1) ∨ (¬ ((folF kd nm rp en w A).2.2.2.2 = false ∧ (teS kd nm rp en (folF kd nm rp en w A)).length ≤ 240) ∧ g' m 30 = 1))) := by
    intro gA oA nA relA
    have z3 : gA (m + 3) n = kdM (kd n) := by rw [oA _ (by omega)]; exact t1
    have z5 : gA (m + 5) n = nmM (nm n) := by rw [oA _ (by omega)]; exact t2
    have mA : gA m = g m := oA _ (by omega)
    have inA : ∀ {x v : Int}, InS g m x v → InS gA m x v := fun h => h.kp (KpP.same (oA _ (by omega)))
    have slA : ∀ g2, (∀ k, k < 40 → g2 (m + 15) k = gA (m + 15) k) → (∀ x, 1 ≤ x → x < 51 → oNum g2 m x = oNum g m x ∨ oNum g2 m x < 0) → SlN g g2 m A.2.2.2.1 := by
      intro g2 h1 h2
      refine ⟨fun k hk => ?_, fun x hx1 hx2 => ?_⟩
      · rw [h1 k hk]
        rcases nA k hk with h | h
        · exact Or.inl h
        · exact Or.inr (Or.inl (by omega))
      · rcases h2 x hx1 hx2 with h | h
        · exact Or.inl h
        · exact Or.inr (Or.inl h)
    have onA : ∀ x, oNum gA m x = oNum g m x := fun x => by unfold oNum; rw [oA _ (by omega), oA _ (by omega)]
    have hb1n : B1.2.2.2.1 = A.2.2.2.1 := by rw [hb1p.2]
    have i1 : Inc B1.1 B1.2.2.2.1 := hb1v.2.2.2.2.2.1
    have i3 : Inc B1.2.2.1 B1.2.2.2.1 := hb1v.2.2.2.2.2.2.2.1
    -- a place's slot
    have plo : ∀ p', p' ∈ A.1 → w.2.2 = p'.1 → oo < 21 ∧ gA (m + 12) oo = p'.1 ∧ InS gA m (gA (m + 14) oo) p'.2.1 := by
      intro p' hp' hpw
      have h21 : oo < 21 := by
        rcases Nat.lt_or_ge oo 21 with h | h
        · exact h
        · exfalso
          have h0 : 0 ≤ g (m + 19) (oo - 21) := by
            have := hso
            unfold oNum at this
            rw [if_neg (by omega)] at this
            rw [this, hpw]; exact (v6.2 p' hp').1
          obtain ⟨x, hx, x1, -⟩ := rm1.1 (oo - 21) (by omega) h0
          refine v9 p' hp' x hx ?_
          rw [x1, ← hpw, ← hso]
          unfold oNum
          rw [if_neg (by omega)]
      have hpn : g (m + 12) oo = p'.1 := by
        have := hso
        unfold oNum at this
        rw [if_pos h21] at this
        rw [this, hpw]
      obtain ⟨x, hx, x1, x2, x3⟩ := rp1.1 oo ho1 h21 (by rw [hpn]; exact (v6.2 p' hp').1)
      have : x = p' := v6.one hx hp' (x1.trans hpn)
      subst this
      exact ⟨h21, by rw [oA _ (by omega)]; exact hpn, by rw [oA (m + 14) (by omega)]; exact inA x3⟩
    have hq0 : ∀ f, f ∈ A.1 → f.1 = e'.2.1 → 1 ≤ q ∧ gA (m + 12) q = e'.2.1 := by
      intro f hf hfe
      have hq1 : q ≠ 0 := fun hh => by
        rw [hh] at q3
        have h9 : e'.2.1 = -1 := q3
        have := (v6.2 f hf).1
        omega
      refine ⟨by omega, ?_⟩
      rw [oA _ (by omega), q3]; unfold pNo; rw [if_neg hq1]
    rcases hkinds with ⟨k0, -, f, o1, hf, ho, hfe, hne, hbs, -, hwo⟩ | ⟨k1, -, f, o1, hf, ho, hfe, hof, -, hwo⟩ | ⟨k2, -, o1, ho, hoe, -, hwo⟩ | ⟨k0, k1, k2, -, o1, ho, hoe, hwo⟩
    · have hpo := plo o1 ho hwo
      have hqq := hq0 f hf hfe
      refine ef_aload_n (pc := 49) d138_49 rfl ?_
      refine eg_getR (pc := 50) d138_50 lf_8_16 (by assumption) (by decide) (by assumption) ?_
      refine ef_iload_n (pc := 53) d138_53 rfl ?_
      refine eg_iald (pc := 54) d138_54 (i := n) (by assumption) (rfl) (by omega) ?_
      rw [z3]
      refine ef_iconst (pc := 55) d138_55 (by decide) ?_
      refine ef_icmp_neF (pc := 56) d138_56 (t := 67) rfl (by rw [k0]; rfl) ?_
      refine ef_aload_n (pc := 59) d138_59 rfl ?_
      refine eg_getR (pc := 60) d138_60 lf_8_50 (by assumption) (by decide) (by assumption) ?_
      refine ef_iload (pc := 63) d138_63 rfl ?_
      refine ef_iload_n (pc := 65) d138_65 rfl ?_
      refine eg_iast (pc := 66) d138_66 (i := q) (by assumption) (rfl) (by omega) rfl ?_
      refine ef_aload_n (pc := 67) d138_67 rfl ?_
      refine eg_getR (pc := 68) d138_68 lf_8_16 (by assumption) (by decide) (by assumption) ?_
      refine ef_iload_n (pc := 71) d138_71 rfl ?_
      refine eg_iald (pc := 72) d138_72 (i := n) (by assumption) (rfl) (by omega) ?_
      rw [u2_ne (by omega), z3]
      refine ef_iconst (pc := 73) d138_73 (by decide) ?_
      refine ef_icmp_neT (pc := 74) d138_74 (t := 90) rfl (by rw [k0]; decide) ?_
      refine ef_aload_n (pc := 90) d138_90 rfl ?_
      refine eg_getR (pc := 91) d138_91 lf_8_16 (by assumption) (by decide) (by assumption) ?_
      refine ef_iload_n (pc := 94) d138_94 rfl ?_
      refine eg_iald (pc := 95) d138_95 (i := n) (by assumption) (rfl) (by omega) ?_
      rw [u2_ne (by omega), z3]
      refine ef_iconst (pc := 96) d138_96 (by decide) ?_
      refine ef_icmp_neT (pc := 97) d138_97 (t := 245) rfl (by rw [k0]; decide) ?_
      refine ef_aload_n (pc := 245) d138_245 rfl ?_
      refine eg_getR (pc := 246) d138_246 lf_8_16 (by assumption) (by decide) (by assumption) ?_
      refine ef_iload_n (pc := 249) d138_249 rfl ?_
      refine eg_iald (pc := 250) d138_250 (i := n) (by assumption) (rfl) (by omega) ?_
      rw [u2_ne (by omega), z3]
      refine ef_iconst (pc := 251) d138_251 (by decide) ?_
      refine ef_icmp_neT (pc := 252) d138_252 (t := 305) rfl (by rw [k0]; decide) ?_
      refine rest _ l _ (fun a h1 h2 => by rw [u2_ne (by omega)]; exact oA a (by omega)) (by rw [u2_ne (by omega)]; exact mA) (slA _ (fun k hk => by rw [u2_ne (by omega)]) (fun x h1 h2 => Or.inl (by rw [← onA x]; unfold oNum; rw [u2_ne (by omega), u2_ne (by omega)]))) ?_ ((inA e3).kp (KpP.same (u2_ne (by omega)))) ?_
      · have hr2 : rea2 kd e' w.2.2 B1 = (setIn B1.1 e'.2.1 w.2.2, B1.2) := by unfold rea2; rw [htn, if_pos k0]
        rw [hr2]
        refine rel_mov relA i1 hqq.1 q2 (by rw [hqq.2, ← hfe]; exact (v6.2 f hf).1) hqq.2 (y := (oo : Int)) ?_ (by rw [u2_eq]) (fun j h1 h2 h3 => u2_ne (by omega)) (by rw [u2_ne (by omega)])
        exact ⟨oo, rfl, hpo.1, by unfold pNo; rw [if_neg (by omega), hpo.2.1, hwo], fun _ => by rw [hpo.2.1]; exact (v6.2 o1 ho).1⟩
      · unfold reaM; rw [htn, if_pos (Or.inl k0)]; exact e4
    · have hpo := plo o1 ho hwo
      have hqq := hq0 f hf hfe
      refine ef_aload_n (pc := 49) d138_49 rfl ?_
      refine eg_getR (pc := 50) d138_50 lf_8_16 (by assumption) (by decide) (by assumption) ?_
      refine ef_iload_n (pc := 53) d138_53 rfl ?_
      refine eg_iald (pc := 54) d138_54 (i := n) (by assumption) (rfl) (by omega) ?_
      rw [z3]
      refine ef_iconst (pc := 55) d138_55 (by decide) ?_
      refine ef_icmp_neT (pc := 56) d138_56 (t := 67) rfl (by rw [k1]; decide) ?_
      refine ef_aload_n (pc := 67) d138_67 rfl ?_
      refine eg_getR (pc := 68) d138_68 lf_8_16 (by assumption) (by decide) (by assumption) ?_
      refine ef_iload_n (pc := 71) d138_71 rfl ?_
      refine eg_iald (pc := 72) d138_72 (i := n) (by assumption) (rfl) (by omega) ?_
      rw [z3]
      refine ef_iconst (pc := 73) d138_73 (by decide) ?_
      refine ef_icmp_neF (pc := 74) d138_74 (t := 90) rfl (by rw [k1]; rfl) ?_
      refine ef_aload_n (pc := 77) d138_77 rfl ?_
      refine eg_getR (pc := 78) d138_78 lf_8_50 (by assumption) (by decide) (by assumption) ?_
      refine ef_iload (pc := 81) d138_81 rfl ?_
      refine ef_aload_n (pc := 83) d138_83 rfl ?_
      refine eg_getR (pc := 84) d138_84 lf_8_50 (by assumption) (by decide) (by assumption) ?_
      refine ef_iload_n (pc := 87) d138_87 rfl ?_
      refine eg_iald (pc := 88) d138_88 (i := oo) (by assumption) (rfl) (by omega) ?_
      refine eg_iast (pc := 89) d138_89 (i := q) (by assumption) (rfl) (by omega) rfl ?_
      refine ef_aload_n (pc := 90) d138_90 rfl ?_
      refine eg_getR (pc := 91) d138_91 lf_8_16 (by assumption) (by decide) (by assumption) ?_
      refine ef_iload_n (pc := 94) d138_94 rfl ?_
      refine eg_iald (pc := 95) d138_95 (i := n) (by assumption) (rfl) (by omega) ?_
      rw [u2_ne (by omega), z3]
      refine ef_iconst (pc := 96) d138_96 (by decide) ?_
      refine ef_icmp_neT (pc := 97) d138_97 (t := 245) rfl (by rw [k1]; decide) ?_
      refine ef_aload_n (pc := 245) d138_245 rfl ?_
      refine eg_getR (pc := 246) d138_246 lf_8_16 (by assumption) (by decide) (by assumption) ?_
      refine ef_iload_n (pc := 249) d138_249 rfl ?_
      refine eg_iald (pc := 250) d138_250 (i := n) (by assumption) (rfl) (by omega) ?_
      rw [u2_ne (by omega), z3]
      refine ef_iconst (pc := 251) d138_251 (by decide) ?_
      refine ef_icmp_neT (pc := 252) d138_252 (t := 305) rfl (by rw [k1]; decide) ?_
      refine rest _ l _ (fun a h1 h2 => by rw [u2_ne (by omega)]; exact oA a (by omega)) (by rw [u2_ne (by omega)]; exact mA) (slA _ (fun k hk => by rw [u2_ne (by omega)]) (fun x h1 h2 => Or.inl (by rw [← onA x]; unfold oNum; rw [u2_ne (by omega), u2_ne (by omega)]))) ?_ ((inA e3).kp (KpP.same (u2_ne (by omega)))) ?_
      · have hpl : plN B1.1 w.2.2 = o1.2.1 := by unfold plN; rw [hb1p.1, hwo, v6.get ho]
        have hr2 : rea2 kd e' w.2.2 B1 = (setIn B1.1 e'.2.1 o1.2.1, B1.2) := by unfold rea2; rw [htn, if_neg (by omega), if_pos k1, hpl]
        rw [hr2]
        exact rel_mov relA i1 hqq.1 q2 (by rw [hqq.2, ← hfe]; exact (v6.2 f hf).1) hqq.2 hpo.2.2 (by rw [u2_eq]) (fun j h1 h2 h3 => u2_ne (by omega)) (by rw [u2_ne (by omega)])
      · unfold reaM; rw [htn, if_pos (Or.inr (Or.inl k1))]; exact e4
    · have hpo := plo o1 ho hwo
      obtain ⟨rk, hrk⟩ := v13
      have hqo : q ≠ oo := by
        intro hh
        have h1 := hrk o1 ho
        rw [hoe] at h1
        have h2 : e'.2.1 = o1.1 := by
          rw [q3, hh]; unfold pNo; rw [if_neg (by omega), ← oA (m + 12) (by omega)]; exact hpo.2.1
        rw [h2] at h1
        omega
      have fin : ∀ (g1 : Nat → Nat → Int) (vz : Option Vl), (∀ a, a ≠ m + 14 → a ≠ m + 17 → a ≠ m + 21 → g1 a = gA a) → (∀ k, 1 ≤ k → k < 21 → g1 (m + 14) k = if gA (m + 14) k = (oo : Int) then (q : Int) else gA (m + 14) k) → (∀ k, 0 ≤ k → k < 40 → g1 (m + 17) k = if gA (m + 17) k = (oo : Int) then (q : Int) else gA (m + 17) k) → (∀ k, 0 ≤ k → k < 30 → g1 (m + 21) k = if gA (m + 21) k = (oo : Int) then (q : Int) else gA (m + 21) k) → Ef P (d + 7) 138 238 [some (vR m), some (vI (kk : Int)), some (vI (oo : Int)), some (vI (n : Int)), some (vI (q : Int)), some (vI l), vz] [] (sI u g1) (fun x u' => ∃ g', u' = sI u g' ∧ x = .inl none ∧ MkF g g' m ∧ (((folF kd nm rp en w A).2.2.2.2 = false ∧ (teS kd nm rp en (folF kd nm rp en w A)).length ≤ 240 ∧ g' m 30 = 0 ∧ Rel g' m (folF kd nm rp en w A) ∧ Vd kd nm sz (folF kd nm rp en w A) ∧ g' m 49 = ((teS kd nm rp en (folF kd nm rp en w A)).length : Int) ∧ Row (g' (m + 27)) (teS kd nm rp en (folF kd nm rp en w A)) ∧ SlN g g' m A.2.2.2.1) ∨ (¬ ((folF kd nm rp en w A).2.2.2.2 = false ∧ (teS kd nm rp en (folF kd nm rp en w A)).length ≤ 240) ∧ g' m 30 = 1))) := by
        intro g1 vz o1x r14 r17 r21
        have y3x : g1 (m + 3) n = kdM (kd n) := by rw [o1x _ (by omega) (by omega) (by omega)]; exact z3
        refine ef_aload_n (pc := 238) d138_238 rfl ?_
        refine eg_getR (pc := 239) d138_239 lf_8_44 (by assumption) (by decide) (by assumption) ?_
        refine ef_iload_n (pc := 242) d138_242 rfl ?_
        refine ef_iconst (pc := 243) d138_243 (by decide) ?_
        refine eg_iast (pc := 244) d138_244 (i := oo) (by assumption) (rfl) (by omega) rfl ?_
        refine ef_aload_n (pc := 245) d138_245 rfl ?_
        refine eg_getR (pc := 246) d138_246 lf_8_16 (by assumption) (by decide) (by assumption) ?_
        refine ef_iload_n (pc := 249) d138_249 rfl ?_
        refine eg_iald (pc := 250) d138_250 (i := n) (by assumption) (rfl) (by omega) ?_
        rw [u2_ne (by omega), y3x]
        refine ef_iconst (pc := 251) d138_251 (by decide) ?_
        refine ef_icmp_neT (pc := 252) d138_252 (t := 305) rfl (by rw [k2]; decide) ?_
        refine rest _ l _ (fun a h1 h2 => by rw [u2_ne (by omega), o1x a (by omega) (by omega) (by omega)]; exact oA a (by omega)) (by rw [u2_ne (by omega), o1x _ (by omega) (by omega) (by omega)]; exact mA) (slA _ (fun k hk => by rw [u2_ne (by omega), o1x _ (by omega) (by omega) (by omega)]) (fun x h1 h2 => ?_)) ?_ ?_ ?_
        · by_cases hxo : x = oo
          · right; unfold oNum; rw [if_pos (by omega), hxo, u2_at]; decide
          · left; rw [← onA x]; unfold oNum; rw [u2_ni hxo, u2_ne (by omega), o1x _ (by omega) (by omega) (by omega), o1x _ (by omega) (by omega) (by omega)]
        · have hr2 : rea2 kd e' w.2.2 B1 = ((delN B1.1 w.2.2).map (mvF w.2.2 e'.2.1), (B1.2.1.map (mvF w.2.2 e'.2.1), (B1.2.2.1.map (mvF w.2.2 e'.2.1), B1.2.2.2))) := by unfold rea2; rw [htn, if_neg (by omega), if_neg (by omega), if_pos k2]
          rw [hr2]
          refine rel_open (o := oo) (q := q) relA i1 ho1 hpo.1 (by rw [hpo.2.1]; exact (v6.2 o1 ho).1) (by rw [hpo.2.1, hwo]) (inA e3) hqo (fun x hx hxe => ?_) ?_ ?_ ?_ ?_ ?_ ?_
          · rw [hb1p.1] at hx; have := hrk x hx; intro hh; rw [hh, hxe] at this; omega
          · rw [u2_eq, o1x _ (by omega) (by omega) (by omega)]
          · intro i h1 h2; rw [u2_ne (by omega)]; exact r14 i h1 h2
          · intro i h1; rw [u2_ne (by omega)]; exact r17 i (Nat.zero_le _) h1
          · intro i h1; rw [u2_ne (by omega)]; exact r21 i (Nat.zero_le _) h1
          · intro j h1 h2 h3 h4 h5 h6; rw [u2_ne (by omega)]; exact o1x _ (by omega) (by omega) (by omega)
          · rw [u2_ne (by omega), o1x _ (by omega) (by omega) (by omega)]
        · obtain ⟨r, ra, rb, rc, rd⟩ := inA e3
          have hrq : r = q := by omega
          subst hrq
          have e12 : u2 g1 (m + 12) oo (-1) (m + 12) r = gA (m + 12) r := by rw [u2_ni hqo, o1x _ (by omega) (by omega) (by omega)]
          exact ⟨r, rfl, rb, by rw [rc]; unfold pNo; rw [e12], fun h => by rw [e12]; exact rd h⟩
        · unfold reaM; rw [htn, if_pos (Or.inr (Or.inr k2))]; exact e4
      have l3 : ∀ i, i ≤ 30 → 0 ≤ i → ∀ (g1 : Nat → Nat → Int), (∀ a, a ≠ m + 14 → a ≠ m + 17 → a ≠ m + 21 → g1 a = gA a) → (∀ k, 1 ≤ k → k < 21 → g1 (m + 14) k = if gA (m + 14) k = (oo : Int) then (q : Int) else gA (m + 14) k) → (∀ k, 0 ≤ k → k < 40 → g1 (m + 17) k = if gA (m + 17) k = (oo : Int) then (q : Int) else gA (m + 17) k) → (∀ k, 0 ≤ k → k < i → g1 (m + 21) k = if gA (m + 21) k = (oo : Int) then (q : Int) else gA (m + 21) k) → (∀ k, i ≤ k → g1 (m + 21) k = gA (m + 21) k) → Ef P (d + 7) 138 195 [some (vR m), some (vI (kk : Int)), some (vI (oo : Int)), some (vI (n : Int)), some (vI (q : Int)), some (vI l), some (vI (i : Int))] [] (sI u g1) (fun x u' => ∃ g', u' = sI u g' ∧ x = .inl none ∧ MkF g g' m ∧ (((folF kd nm rp en w A).2.2.2.2 = false ∧ (teS kd nm rp en (folF kd nm rp en w A)).length ≤ 240 ∧ g' m 30 = 0 ∧ Rel g' m (folF kd nm rp en w A) ∧ Vd kd nm sz (folF kd nm rp en w A) ∧ g' m 49 = ((teS kd nm rp en (folF kd nm rp en w A)).length : Int) ∧ Row (g' (m + 27)) (teS kd nm rp en (folF kd nm rp en w A)) ∧ SlN g g' m A.2.2.2.1) ∨ (¬ ((folF kd nm rp en w A).2.2.2.2 = false ∧ (teS kd nm rp en (folF kd nm rp en w A)).length ≤ 240) ∧ g' m 30 = 1))) := by
        refine nat_loop 30 ?_
        intro i hi ih hlo g1 o1x r14 r17 rc rn
        have hv : g1 (m + 21) i = gA (m + 21) i := rn i (Nat.le_refl _)
        refine ef_iload (pc := 195) d138_195 rfl ?_
        refine ef_bipush (pc := 197) d138_197 (by decide) ?_
        refine ef_icmp_ge (pc := 199) d138_199 (t := 238) rfl (fun h199 => ?_) (fun h199 => ?_)
        · have hii : i = 30 := by omega
          subst hii
          exact fin g1 _ o1x r14 r17 rc
        · refine ef_aload_n (pc := 202) d138_202 rfl ?_
          refine eg_getR (pc := 203) d138_203 lf_8_71 (by assumption) (by decide) (by assumption) ?_
          refine ef_iload (pc := 206) d138_206 rfl ?_
          refine ef_aload_n (pc := 208) d138_208 rfl ?_
          refine eg_getR (pc := 209) d138_209 lf_8_71 (by assumption) (by decide) (by assumption) ?_
          refine ef_iload (pc := 212) d138_212 rfl ?_
          refine eg_iald (pc := 214) d138_214 (i := i) (by assumption) (rfl) (by omega) ?_
          rw [hv]
          refine ef_iload_n (pc := 215) d138_215 rfl ?_
          refine ef_icmp_ne (pc := 216) d138_216 (t := 224) rfl (fun h216 => ?_) (fun h216 => ?_)
          · have hcase := h216
            refine ef_aload_n (pc := 224) d138_224 rfl ?_
            refine eg_getR (pc := 225) d138_225 lf_8_71 (by assumption) (by decide) (by assumption) ?_
            refine ef_iload (pc := 228) d138_228 rfl ?_
            refine eg_iald (pc := 230) d138_230 (i := i) (by assumption) (rfl) (by omega) ?_
            rw [hv]
            refine eg_iast (pc := 231) d138_231 (i := i) (by assumption) (rfl) (by omega) rfl ?_
            refine ef_iinc (pc := 232) d138_232 (ls' := [_, _, _, _, _, _, _]) (z := ((i + 1 : Nat) : Int)) rfl (by decide) (by omega) ⟨by omega, by omega⟩ rfl ?_
            refine ef_goto (pc := 235) d138_235 (t := 195) rfl ?_
            refine ih (by omega) (by omega) _ (fun a h1 h2 h3 => by rw [u2_ne h3]; exact o1x a h1 h2 h3) (fun k h1 h2 => by rw [u2_ne (by omega)]; exact r14 k h1 h2) (fun k h1 h2 => by rw [u2_ne (by omega)]; exact r17 k h1 h2) (fun k h1 h2 => ?_) (fun k h1 => by rw [u2_ni (by omega)]; exact rn k (by omega))
            by_cases hki : k = i
            · rw [hki, u2_at]; first | (rw [if_pos hcase]) | (rw [if_neg hcase])
            · rw [u2_ni hki]; exact rc k h1 (by omega)
          · have hcase := h216
            refine ef_iload (pc := 219) d138_219 rfl ?_
            refine ef_goto (pc := 221) d138_221 (t := 231) rfl ?_
            refine eg_iast (pc := 231) d138_231 (i := i) (by assumption) (rfl) (by omega) rfl ?_
            refine ef_iinc (pc := 232) d138_232 (ls' := [_, _, _, _, _, _, _]) (z := ((i + 1 : Nat) : Int)) rfl (by decide) (by omega) ⟨by omega, by omega⟩ rfl ?_
            refine ef_goto (pc := 235) d138_235 (t := 195) rfl ?_
            refine ih (by omega) (by omega) _ (fun a h1 h2 h3 => by rw [u2_ne h3]; exact o1x a h1 h2 h3) (fun k h1 h2 => by rw [u2_ne (by omega)]; exact r14 k h1 h2) (fun k h1 h2 => by rw [u2_ne (by omega)]; exact r17 k h1 h2) (fun k h1 h2 => ?_) (fun k h1 => by rw [u2_ni (by omega)]; exact rn k (by omega))
            by_cases hki : k = i
            · rw [hki, u2_at]; first | (rw [if_pos hcase]) | (rw [if_neg hcase])
            · rw [u2_ni hki]; exact rc k h1 (by omega)
      have l2 : ∀ i, i ≤ 40 → 0 ≤ i → ∀ (g1 : Nat → Nat → Int), (∀ a, a ≠ m + 14 → a ≠ m + 17 → g1 a = gA a) → (∀ k, 1 ≤ k → k < 21 → g1 (m + 14) k = if gA (m + 14) k = (oo : Int) then (q : Int) else gA (m + 14) k) → (∀ k, 0 ≤ k → k < i → g1 (m + 17) k = if gA (m + 17) k = (oo : Int) then (q : Int) else gA (m + 17) k) → (∀ k, i ≤ k → g1 (m + 17) k = gA (m + 17) k) → Ef P (d + 7) 138 149 [some (vR m), some (vI (kk : Int)), some (vI (oo : Int)), some (vI (n : Int)), some (vI (q : Int)), some (vI l), some (vI (i : Int))] [] (sI u g1) (fun x u' => ∃ g', u' = sI u g' ∧ x = .inl none ∧ MkF g g' m ∧ (((folF kd nm rp en w A).2.2.2.2 = false ∧ (teS kd nm rp en (folF kd nm rp en w A)).length ≤ 240 ∧ g' m 30 = 0 ∧ Rel g' m (folF kd nm rp en w A) ∧ Vd kd nm sz (folF kd nm rp en w A) ∧ g' m 49 = ((teS kd nm rp en (folF kd nm rp en w A)).length : Int) ∧ Row (g' (m + 27)) (teS kd nm rp en (folF kd nm rp en w A)) ∧ SlN g g' m A.2.2.2.1) ∨ (¬ ((folF kd nm rp en w A).2.2.2.2 = false ∧ (teS kd nm rp en (folF kd nm rp en w A)).length ≤ 240) ∧ g' m 30 = 1))) := by
        refine nat_loop 40 ?_
        intro i hi ih hlo g1 o1x r14 rc rn
        have hv : g1 (m + 17) i = gA (m + 17) i := rn i (Nat.le_refl _)
        refine ef_iload (pc := 149) d138_149 rfl ?_
        refine ef_bipush (pc := 151) d138_151 (by decide) ?_
        refine ef_icmp_ge (pc := 153) d138_153 (t := 192) rfl (fun h153 => ?_) (fun h153 => ?_)
        · have hii : i = 40 := by omega
          subst hii
          refine ef_iconst (pc := 192) d138_192 (by decide) ?_
          refine ef_istore (pc := 193) d138_193 (ls' := [_, _, _, _, _, _, _]) rfl ?_
          exact l3 0 (by omega) (by omega) g1 (fun a h1 h2 h3 => o1x a h1 h2) r14 rc (fun k h1 h2 => absurd h2 (by omega)) (fun k h1 => by rw [o1x _ (by omega) (by omega)])
        · refine ef_aload_n (pc := 156) d138_156 rfl ?_
          refine eg_getR (pc := 157) d138_157 lf_8_59 (by assumption) (by decide) (by assumption) ?_
          refine ef_iload (pc := 160) d138_160 rfl ?_
          refine ef_aload_n (pc := 162) d138_162 rfl ?_
          refine eg_getR (pc := 163) d138_163 lf_8_59 (by assumption) (by decide) (by assumption) ?_
          refine ef_iload (pc := 166) d138_166 rfl ?_
          refine eg_iald (pc := 168) d138_168 (i := i) (by assumption) (rfl) (by omega) ?_
          rw [hv]
          refine ef_iload_n (pc := 169) d138_169 rfl ?_
          refine ef_icmp_ne (pc := 170) d138_170 (t := 178) rfl (fun h170 => ?_) (fun h170 => ?_)
          · have hcase := h170
            refine ef_aload_n (pc := 178) d138_178 rfl ?_
            refine eg_getR (pc := 179) d138_179 lf_8_59 (by assumption) (by decide) (by assumption) ?_
            refine ef_iload (pc := 182) d138_182 rfl ?_
            refine eg_iald (pc := 184) d138_184 (i := i) (by assumption) (rfl) (by omega) ?_
            rw [hv]
            refine eg_iast (pc := 185) d138_185 (i := i) (by assumption) (rfl) (by omega) rfl ?_
            refine ef_iinc (pc := 186) d138_186 (ls' := [_, _, _, _, _, _, _]) (z := ((i + 1 : Nat) : Int)) rfl (by decide) (by omega) ⟨by omega, by omega⟩ rfl ?_
            refine ef_goto (pc := 189) d138_189 (t := 149) rfl ?_
            refine ih (by omega) (by omega) _ (fun a h1 h2 => by rw [u2_ne h2]; exact o1x a h1 h2) (fun k h1 h2 => by rw [u2_ne (by omega)]; exact r14 k h1 h2) (fun k h1 h2 => ?_) (fun k h1 => by rw [u2_ni (by omega)]; exact rn k (by omega))
            by_cases hki : k = i
            · rw [hki, u2_at]; first | (rw [if_pos hcase]) | (rw [if_neg hcase])
            · rw [u2_ni hki]; exact rc k h1 (by omega)
          · have hcase := h170
            refine ef_iload (pc := 173) d138_173 rfl ?_
            refine ef_goto (pc := 175) d138_175 (t := 185) rfl ?_
            refine eg_iast (pc := 185) d138_185 (i := i) (by assumption) (rfl) (by omega) rfl ?_
            refine ef_iinc (pc := 186) d138_186 (ls' := [_, _, _, _, _, _, _]) (z := ((i + 1 : Nat) : Int)) rfl (by decide) (by omega) ⟨by omega, by omega⟩ rfl ?_
            refine ef_goto (pc := 189) d138_189 (t := 149) rfl ?_
            refine ih (by omega) (by omega) _ (fun a h1 h2 => by rw [u2_ne h2]; exact o1x a h1 h2) (fun k h1 h2 => by rw [u2_ne (by omega)]; exact r14 k h1 h2) (fun k h1 h2 => ?_) (fun k h1 => by rw [u2_ni (by omega)]; exact rn k (by omega))
            by_cases hki : k = i
            · rw [hki, u2_at]; first | (rw [if_pos hcase]) | (rw [if_neg hcase])
            · rw [u2_ni hki]; exact rc k h1 (by omega)
      have l1 : ∀ i, i ≤ 21 → 1 ≤ i → ∀ (g1 : Nat → Nat → Int), (∀ a, a ≠ m + 14 → g1 a = gA a) → (∀ k, 1 ≤ k → k < i → g1 (m + 14) k = if gA (m + 14) k = (oo : Int) then (q : Int) else gA (m + 14) k) → (∀ k, i ≤ k → g1 (m + 14) k = gA (m + 14) k) → Ef P (d + 7) 138 103 [some (vR m), some (vI (kk : Int)), some (vI (oo : Int)), some (vI (n : Int)), some (vI (q : Int)), some (vI l), some (vI (i : Int))] [] (sI u g1) (fun x u' => ∃ g', u' = sI u g' ∧ x = .inl none ∧ MkF g g' m ∧ (((folF kd nm rp en w A).2.2.2.2 = false ∧ (teS kd nm rp en (folF kd nm rp en w A)).length ≤ 240 ∧ g' m 30 = 0 ∧ Rel g' m (folF kd nm rp en w A) ∧ Vd kd nm sz (folF kd nm rp en w A) ∧ g' m 49 = ((teS kd nm rp en (folF kd nm rp en w A)).length : Int) ∧ Row (g' (m + 27)) (teS kd nm rp en (folF kd nm rp en w A)) ∧ SlN g g' m A.2.2.2.1) ∨ (¬ ((folF kd nm rp en w A).2.2.2.2 = false ∧ (teS kd nm rp en (folF kd nm rp en w A)).length ≤ 240) ∧ g' m 30 = 1))) := by
        refine nat_loop 21 ?_
        intro i hi ih hlo g1 o1x  rc rn
        have hv : g1 (m + 14) i = gA (m + 14) i := rn i (Nat.le_refl _)
        refine ef_iload (pc := 103) d138_103 rfl ?_
        refine ef_bipush (pc := 105) d138_105 (by decide) ?_
        refine ef_icmp_ge (pc := 107) d138_107 (t := 146) rfl (fun h107 => ?_) (fun h107 => ?_)
        · have hii : i = 21 := by omega
          subst hii
          refine ef_iconst (pc := 146) d138_146 (by decide) ?_
          refine ef_istore (pc := 147) d138_147 (ls' := [_, _, _, _, _, _, _]) rfl ?_
          exact l2 0 (by omega) (by omega) g1 (fun a h1 h2 => o1x a h1) rc (fun k h1 h2 => absurd h2 (by omega)) (fun k h1 => by rw [o1x _ (by omega)])
        · refine ef_aload_n (pc := 110) d138_110 rfl ?_
          refine eg_getR (pc := 111) d138_111 lf_8_50 (by assumption) (by decide) (by assumption) ?_
          refine ef_iload (pc := 114) d138_114 rfl ?_
          refine ef_aload_n (pc := 116) d138_116 rfl ?_
          refine eg_getR (pc := 117) d138_117 lf_8_50 (by assumption) (by decide) (by assumption) ?_
          refine ef_iload (pc := 120) d138_120 rfl ?_
          refine eg_iald (pc := 122) d138_122 (i := i) (by assumption) (rfl) (by omega) ?_
          rw [hv]
          refine ef_iload_n (pc := 123) d138_123 rfl ?_
          refine ef_icmp_ne (pc := 124) d138_124 (t := 132) rfl (fun h124 => ?_) (fun h124 => ?_)
          · have hcase := h124
            refine ef_aload_n (pc := 132) d138_132 rfl ?_
            refine eg_getR (pc := 133) d138_133 lf_8_50 (by assumption) (by decide) (by assumption) ?_
            refine ef_iload (pc := 136) d138_136 rfl ?_
            refine eg_iald (pc := 138) d138_138 (i := i) (by assumption) (rfl) (by omega) ?_
            rw [hv]
            refine eg_iast (pc := 139) d138_139 (i := i) (by assumption) (rfl) (by omega) rfl ?_
            refine ef_iinc (pc := 140) d138_140 (ls' := [_, _, _, _, _, _, _]) (z := ((i + 1 : Nat) : Int)) rfl (by decide) (by omega) ⟨by omega, by omega⟩ rfl ?_
            refine ef_goto (pc := 143) d138_143 (t := 103) rfl ?_
            refine ih (by omega) (by omega) _ (fun a h1 => by rw [u2_ne h1]; exact o1x a h1)  (fun k h1 h2 => ?_) (fun k h1 => by rw [u2_ni (by omega)]; exact rn k (by omega))
            by_cases hki : k = i
            · rw [hki, u2_at]; first | (rw [if_pos hcase]) | (rw [if_neg hcase])
            · rw [u2_ni hki]; exact rc k h1 (by omega)
          · have hcase := h124
            refine ef_iload (pc := 127) d138_127 rfl ?_
            refine ef_goto (pc := 129) d138_129 (t := 139) rfl ?_
            refine eg_iast (pc := 139) d138_139 (i := i) (by assumption) (rfl) (by omega) rfl ?_
            refine ef_iinc (pc := 140) d138_140 (ls' := [_, _, _, _, _, _, _]) (z := ((i + 1 : Nat) : Int)) rfl (by decide) (by omega) ⟨by omega, by omega⟩ rfl ?_
            refine ef_goto (pc := 143) d138_143 (t := 103) rfl ?_
            refine ih (by omega) (by omega) _ (fun a h1 => by rw [u2_ne h1]; exact o1x a h1)  (fun k h1 h2 => ?_) (fun k h1 => by rw [u2_ni (by omega)]; exact rn k (by omega))
            by_cases hki : k = i
            · rw [hki, u2_at]; first | (rw [if_pos hcase]) | (rw [if_neg hcase])
            · rw [u2_ni hki]; exact rc k h1 (by omega)
      refine ef_aload_n (pc := 49) d138_49 rfl ?_
      refine eg_getR (pc := 50) d138_50 lf_8_16 (by assumption) (by decide) (by assumption) ?_
      refine ef_iload_n (pc := 53) d138_53 rfl ?_
      refine eg_iald (pc := 54) d138_54 (i := n) (by assumption) (rfl) (by omega) ?_
      rw [z3]
      refine ef_iconst (pc := 55) d138_55 (by decide) ?_
      refine ef_icmp_neT (pc := 56) d138_56 (t := 67) rfl (by rw [k2]; decide) ?_
      refine ef_aload_n (pc := 67) d138_67 rfl ?_
      refine eg_getR (pc := 68) d138_68 lf_8_16 (by assumption) (by decide) (by assumption) ?_
      refine ef_iload_n (pc := 71) d138_71 rfl ?_
      refine eg_iald (pc := 72) d138_72 (i := n) (by assumption) (rfl) (by omega) ?_
      rw [z3]
      refine ef_iconst (pc := 73) d138_73 (by decide) ?_
      refine ef_icmp_neT (pc := 74) d138_74 (t := 90) rfl (by rw [k2]; decide) ?_
      refine ef_aload_n (pc := 90) d138_90 rfl ?_
      refine eg_getR (pc := 91) d138_91 lf_8_16 (by assumption) (by decide) (by assumption) ?_
      refine ef_iload_n (pc := 94) d138_94 rfl ?_
      refine eg_iald (pc := 95) d138_95 (i := n) (by assumption) (rfl) (by omega) ?_
      rw [z3]
      refine ef_iconst (pc := 96) d138_96 (by decide) ?_
      refine ef_icmp_neF (pc := 97) d138_97 (t := 245) rfl (by rw [k2]; rfl) ?_
      refine ef_iconst (pc := 100) d138_100 (by decide) ?_
      refine ef_istore (pc := 101) d138_101 (ls' := [_, _, _, _, _, _, _]) rfl ?_
      exact l1 1 (by omega) (by omega) gA (fun a h1 => rfl) (fun k h1 h2 => absurd h2 (by omega)) (fun k h1 => rfl)
    · have hk3 : kd n = 3 := by omega
      have hm21 : 21 ≤ oo := by
        rcases Nat.lt_or_ge oo 21 with h | h
        · exfalso
          have h0 : 0 ≤ g (m + 12) oo := by
            have := hso
            unfold oNum at this
            rw [if_pos h] at this
            rw [this, hwo]; exact (v8.2 o1 ho).1
          obtain ⟨x, hx, x1, -⟩ := rp1.1 oo ho1 h h0
          refine v9 x hx o1 ho ?_
          rw [x1, ← hwo, ← hso]
          unfold oNum
          rw [if_pos h]
        · exact h
      have hmo : gA (m + 19) (oo - 21) = oNum g m oo := by rw [oA _ (by omega)]; unfold oNum; rw [if_neg (by omega)]
      have hm0 : 0 ≤ o1.1 := (v8.2 o1 ho).1
      obtain ⟨x, hx, x1, x2, x3⟩ := rm1.1 (oo - 21) (by omega) (by rw [← oA (m + 19) (by omega), hmo, hso, hwo]; exact hm0)
      have hxo1 : x = o1 := v8.one hx ho (by rw [x1, ← oA (m + 19) (by omega), hmo, hso, hwo])
      subst hxo1
      have hna : gA (m + 20) (oo - 21) = x.2.2.1 := by rw [oA _ (by omega)]; exact x2.symm
      have hxr := v15 x ho
      have hnmr := nmM_rg y5
      refine ef_aload_n (pc := 49) d138_49 rfl ?_
      refine eg_getR (pc := 50) d138_50 lf_8_16 (by assumption) (by decide) (by assumption) ?_
      refine ef_iload_n (pc := 53) d138_53 rfl ?_
      refine eg_iald (pc := 54) d138_54 (i := n) (by assumption) (rfl) (by omega) ?_
      rw [z3]
      refine ef_iconst (pc := 55) d138_55 (by decide) ?_
      refine ef_icmp_neT (pc := 56) d138_56 (t := 67) rfl (by rw [hk3]; decide) ?_
      refine ef_aload_n (pc := 67) d138_67 rfl ?_
      refine eg_getR (pc := 68) d138_68 lf_8_16 (by assumption) (by decide) (by assumption) ?_
      refine ef_iload_n (pc := 71) d138_71 rfl ?_
      refine eg_iald (pc := 72) d138_72 (i := n) (by assumption) (rfl) (by omega) ?_
      rw [z3]
      refine ef_iconst (pc := 73) d138_73 (by decide) ?_
      refine ef_icmp_neT (pc := 74) d138_74 (t := 90) rfl (by rw [hk3]; decide) ?_
      refine ef_aload_n (pc := 90) d138_90 rfl ?_
      refine eg_getR (pc := 91) d138_91 lf_8_16 (by assumption) (by decide) (by assumption) ?_
      refine ef_iload_n (pc := 94) d138_94 rfl ?_
      refine eg_iald (pc := 95) d138_95 (i := n) (by assumption) (rfl) (by omega) ?_
      rw [z3]
      refine ef_iconst (pc := 96) d138_96 (by decide) ?_
      refine ef_icmp_neT (pc := 97) d138_97 (t := 245) rfl (by rw [hk3]; decide) ?_
      refine ef_aload_n (pc := 245) d138_245 rfl ?_
      refine eg_getR (pc := 246) d138_246 lf_8_16 (by assumption) (by decide) (by assumption) ?_
      refine ef_iload_n (pc := 249) d138_249 rfl ?_
      refine eg_iald (pc := 250) d138_250 (i := n) (by assumption) (rfl) (by omega) ?_
      rw [z3]
      refine ef_iconst (pc := 251) d138_251 (by decide) ?_
      refine ef_icmp_neF (pc := 252) d138_252 (t := 305) rfl (by rw [hk3]; rfl) ?_
      refine ef_iconst (pc := 255) d138_255 (by decide) ?_
      refine ef_aload_n (pc := 256) d138_256 rfl ?_
      refine eg_getR (pc := 257) d138_257 lf_8_23 (by assumption) (by decide) (by assumption) ?_
      refine ef_iload_n (pc := 260) d138_260 rfl ?_
      refine eg_iald (pc := 261) d138_261 (i := n) (by assumption) (rfl) (by omega) ?_
      rw [z5]
      refine ef_bipush (pc := 262) d138_262 (by decide) ?_
      refine ef_isub (pc := 264) d138_264 rfl ⟨by omega, by omega⟩ ?_
      refine ef_imul (pc := 265) d138_265 rfl ⟨by omega, by omega⟩ ?_
      refine ef_istore (pc := 266) d138_266 (ls' := [_, _, _, _, _, _, _]) rfl ?_
      refine ef_iload (pc := 268) d138_268 rfl ?_
      refine ef_bipush (pc := 270) d138_270 (by decide) ?_
      refine ef_iload (pc := 272) d138_272 rfl ?_
      refine ef_ishl (pc := 274) d138_274 rfl ?_
      refine ef_iconst (pc := 275) d138_275 (by decide) ?_
      refine ef_ixor (pc := 276) d138_276 rfl ?_
      refine ef_iand (pc := 277) d138_277 rfl ?_
      refine ef_aload_n (pc := 278) d138_278 rfl ?_
      refine eg_getR (pc := 279) d138_279 lf_8_68 (by assumption) (by decide) (by assumption) ?_
      refine ef_iload_n (pc := 282) d138_282 rfl ?_
      refine ef_bipush (pc := 283) d138_283 (by decide) ?_
      refine ef_isub (pc := 285) d138_285 (z := ((oo - 21 : Nat) : Int)) (by omega) ⟨by omega, by omega⟩ ?_
      refine eg_iald (pc := 286) d138_286 (i := oo - 21) (by assumption) (rfl) (by omega) ?_
      rw [hna]
      refine ef_iconst (pc := 287) d138_287 (by decide) ?_
      refine ef_iadd (pc := 288) d138_288 rfl ⟨by omega, by omega⟩ ?_
      refine ef_iload (pc := 289) d138_289 rfl ?_
      refine ef_ishl (pc := 291) d138_291 rfl ?_
      refine ef_ior (pc := 292) d138_292 rfl ?_
      refine ef_istore (pc := 293) d138_293 (ls' := [_, _, _, _, _, _, _]) rfl ?_
      refine ef_aload_n (pc := 295) d138_295 rfl ?_
      refine eg_getR (pc := 296) d138_296 lf_8_65 (by assumption) (by decide) (by assumption) ?_
      refine ef_iload_n (pc := 299) d138_299 rfl ?_
      refine ef_bipush (pc := 300) d138_300 (by decide) ?_
      refine ef_isub (pc := 302) d138_302 (z := ((oo - 21 : Nat) : Int)) (by omega) ⟨by omega, by omega⟩ ?_
      refine ef_iconst (pc := 303) d138_303 (by decide) ?_
      refine eg_iast (pc := 304) d138_304 (i := oo - 21) (by assumption) (rfl) (by omega) rfl ?_
      refine rest _ (lbF (nmM (nm n)) l x.2.2.1) _ (fun a h1 h2 => by rw [u2_ne (by omega)]; exact oA a (by omega)) (by rw [u2_ne (by omega)]; exact mA) (slA _ (fun k hk => by rw [u2_ne (by omega)]) (fun x h1 h2 => ?_)) ?_ ((inA e3).kp (KpP.same (u2_ne (by omega)))) ?_
      · by_cases hxo : x = oo
        · right; unfold oNum; rw [if_neg (by omega), hxo, u2_at]; decide
        · left; rw [← onA x]; unfold oNum
          split
          · rw [u2_ne (by omega)]
          · rw [u2_ni (by omega)]
      · have hr2 : rea2 kd e' w.2.2 B1 = (B1.1, (B1.2.1, (delN B1.2.2.1 w.2.2, B1.2.2.2))) := by unfold rea2; rw [htn, if_neg k0, if_neg k1, if_neg k2]
        rw [hr2]
        exact rel_delm (kk := oo - 21) relA i3 (by omega) (by rw [hmo, hso, hwo]; exact hm0) (by rw [hmo, hso]) (by rw [u2_eq]) (fun j h1 h2 h3 => u2_ne (by omega)) (by rw [u2_ne (by omega)])
      · have hna2 : naN B1.2.2.1 w.2.2 = x.2.2.1 := by unfold naN; rw [show B1.2.2.1 = A.2.2.1 by rw [hb1p.2], hwo, v8.get ho]
        unfold reaM; rw [htn, if_neg (by omega), hna2]; exact e4.bd (y6 hk3) (v15 x ho)
  have z4 : g (m + 4) n = rp n := t3
  change Ef P _ 138 0 [some (vR m), none, none, none, none, none, none] [] _ _
  refine ef_aload_n (pc := 0) d138_0 rfl ?_
  refine eg_getI (pc := 1) d138_1 lf_8_304 (by assumption) (by decide) ?_
  rw [h65]
  refine ef_istore_n (pc := 4) d138_4 (ls' := [_, _, _, _, _, _, _]) rfl ?_
  refine ef_aload_n (pc := 5) d138_5 rfl ?_
  refine eg_getI (pc := 6) d138_6 lf_8_307 (by assumption) (by decide) ?_
  rw [h66]
  refine ef_istore_n (pc := 9) d138_9 (ls' := [_, _, _, _, _, _, _]) rfl ?_
  refine ef_aload_n (pc := 10) d138_10 rfl ?_
  refine eg_getR (pc := 11) d138_11 lf_8_56 (by assumption) (by decide) (by assumption) ?_
  refine ef_iload_n (pc := 14) d138_14 rfl ?_
  refine eg_iald (pc := 15) d138_15 (i := kk) (by assumption) (rfl) (by omega) ?_
  rw [hnd]
  refine ef_istore_n (pc := 16) d138_16 (ls' := [_, _, _, _, _, _, _]) rfl ?_
  refine ef_aload_n (pc := 17) d138_17 rfl ?_
  refine eg_getR (pc := 18) d138_18 lf_8_59 (by assumption) (by decide) (by assumption) ?_
  refine ef_iload_n (pc := 21) d138_21 rfl ?_
  refine eg_iald (pc := 22) d138_22 (i := kk) (by assumption) (rfl) (by omega) ?_
  rw [q1]
  refine ef_istore (pc := 23) d138_23 (ls' := [_, _, _, _, _, _, _]) rfl ?_
  refine ef_aload_n (pc := 25) d138_25 rfl ?_
  refine eg_getR (pc := 26) d138_26 lf_8_62 (by assumption) (by decide) (by assumption) ?_
  refine ef_iload_n (pc := 29) d138_29 rfl ?_
  refine eg_iald (pc := 30) d138_30 (i := kk) (by assumption) (rfl) (by omega) ?_
  rw [hl]
  refine ef_istore (pc := 31) d138_31 (ls' := [_, _, _, _, _, _, _]) rfl ?_
  refine ef_aload_n (pc := 33) d138_33 rfl ?_
  refine eg_getR (pc := 34) d138_34 lf_8_19 (by assumption) (by decide) (by assumption) ?_
  refine ef_iload_n (pc := 37) d138_37 rfl ?_
  refine eg_bald (pc := 38) d138_38 (i := n) (by assumption) (rfl) (by omega) ?_
  rw [z4]
  refine ef_if_ne (pc := 39) d138_39 (t := 49) rfl (fun h39 => ?_) (fun h39 => ?_)
  · have hB1e : B1 = A := by rw [← hB1]; unfold rea1; rw [htn, if_pos h39]
    first
    | exact kinds g (fun a _ => rfl) (fun k _ => Or.inl rfl) (by rw [hB1e]; exact hA)
    | (refine kinds _ (fun a ha => u2_ne ha) (fun k hk => ?_) ?_
       · by_cases hkk : k = kk
         · right; rw [hkk, u2_at]
         · left; rw [u2_ni hkk]
       · rw [hB1e]; exact rel_delg hA v7 hk40 hg0 (by rw [hsg, hwe]) (by rw [u2_eq]) (fun j h1 h2 h3 => u2_ne (by omega)) (by rw [u2_ne (by omega)]))
  · have hix : (ixF A.2.1 w.2.1 0).toNat = (ixF A.2.1 e'.1 0).toNat ∧ delN A.2.1 e'.1 = A.2.1.eraseIdx (ixF A.2.1 e'.1 0).toNat := by
      rcases ix_spec e'.1 A.2.1 0 with ⟨-, h2, -⟩ | ⟨i, x, h1, -, -, -, h5, -⟩
      · rw [v7.get he] at h2; cases h2
      · refine ⟨by rw [hwe], ?_⟩
        rw [h5, h1, Nat.zero_add, Int.toNat_natCast]
    have hB1e : B1 = (A.1, (delN A.2.1 e'.1, A.2.2)) := by rw [← hB1]; unfold rea1; rw [htn, if_neg (fun hh => hh h39), hix.1, hix.2]
    refine ef_aload_n (pc := 42) d138_42 rfl ?_
    refine eg_getR (pc := 43) d138_43 lf_8_53 (by assumption) (by decide) (by assumption) ?_
    refine ef_iload_n (pc := 46) d138_46 rfl ?_
    refine ef_iconst (pc := 47) d138_47 (by decide) ?_
    refine eg_iast (pc := 48) d138_48 (i := kk) (by assumption) (rfl) (by omega) rfl ?_
    first
    | exact kinds g (fun a _ => rfl) (fun k _ => Or.inl rfl) (by rw [hB1e]; exact hA)
    | (refine kinds _ (fun a ha => u2_ne ha) (fun k hk => ?_) ?_
       · by_cases hkk : k = kk
         · right; rw [hkk, u2_at]
         · left; rw [u2_ni hkk]
       · rw [hB1e]; exact rel_delg hA v7 hk40 hg0 (by rw [hsg, hwe]) (by rw [u2_eq]) (fun j h1 h2 h3 => u2_ne (by omega)) (by rw [u2_ne (by omega)]))
