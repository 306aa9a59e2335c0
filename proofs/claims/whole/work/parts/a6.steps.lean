/-! Each call of the law, class and model side by side. Written by wip/whole/gen/ca6.py. -/
theorem st0 {P : Pg} {h n : Nat} {u : Mm} {g : Nat → Nat → Int} {e : Int64} {k : Int} (hn : n < 600) (H : LI h n u g) : Ec P 70 151 [vR h, vL e, vI k, vR (h + 753)] (sI u g) (HQ P h n 92 [vL e, vI k] lI) := by
  obtain ⟨s, t, r, q, W, kd, nm, rp, en, sz, c, K, X, hC, hM, hF, b1, b2⟩ := H
  obtain ⟨ht, hT⟩ := hC.ht
  have hF3 := hF.2.2.1
  have F1 := hF.up Up.refl
  have F2 := hF.hole Up.refl
  have MH := hM.hole hF3
  have CH := hC.hole hF3
  refine Ec.deep (show 3 ≤ 70 by decide) (Ec.imp (h151 (d := 2) (o := h + 753) (A := fun kz z v g' => FP h (n + 1) v ∧ MP h v g' W kd nm rp en sz c K X ∧ ∃ s t r q W', CVs v g' h s t r q W' kd nm rp en sz c K X ∧ ((kz = 1 ∧ W' = W ∧ ¬ ((1 ≤ k ∧ k ≤ 8) ∧ okB e k.toNat = true)) ∨ (kz = 2 ∧ W' = W ∧ ((1 ≤ k ∧ k ≤ 8) ∧ okB e k.toNat = true) ∧ 120 < (W.length : Int) + k) ∨ (kz = 0 ∧ ((1 ≤ k ∧ k ≤ 8) ∧ okB e k.toNat = true) ∧ (W.length : Int) + k ≤ 120 ∧ W' = W ++ byL e k.toNat ∧ z = (W.length : Int) + k))) hC.1.1 (Ec.imp (c3 (d := 0) hC.1 hC.2.1) ?_)) ?_)
  · rintro x u' (⟨h1, rfl, rfl⟩ | ⟨h1, ⟨h2, rfl, rfl⟩ | ⟨h2, g', rfl, rfl, o1, cw, kf⟩⟩)
    · exact ⟨_, g, rfl, F2.1, Or.inr (Or.inl ⟨_, rfl, F2, MH, s, t, r, q, W, CH, Or.inl ⟨rfl, rfl, h1⟩⟩)⟩
    · exact ⟨_, g, rfl, F2.1, Or.inr (Or.inr ⟨_, rfl, F2, MH, s, t, r, q, W, CH, Or.inr (Or.inl ⟨rfl, rfl, h1, h2⟩)⟩)⟩
    · refine ⟨u, g', rfl, F1.1, Or.inl ⟨_, rfl, F1, hM.cl Up.refl (fun a ha => o1 a (by omega)), s, t, r, q, _, ?_, Or.inr (Or.inr ⟨rfl, h1, h2, rfl, rfl⟩)⟩⟩
      obtain ⟨a1, a2, a3, a4, a5, a6, a7⟩ := hC
      have hs : (s = h + 13 ∨ s = h + 34) ∧ (r = h + 55 ∨ r = h + 60) := by
        obtain ⟨-, -, -, -, -, -, -, -, -, -, -, -, -, -, -, -, -, -, -, -, e1, e2⟩ := a1
        omega
      exact ⟨a1, cw, a3.of (fun a h1 h2 => o1 a (by omega)), a4.of (fun a h1 h2 => o1 a (by omega)), a5.of (kf 8 (by decide)) (fun a h1 h2 => o1 a (by omega)), a6.of (fun a h1 h2 => o1 a (by omega)), a7.of (o1 _ (by omega)) (o1 _ (by omega))⟩
  · rintro x0 u0 ⟨kz, z, v, g', L, rfl, ⟨fF, fM, fA⟩, rfl, hL, hz⟩
    have fM := fM.sL hL
    have fF : FP h (n + 1) (sL v L) := fF
    refine ⟨kz, z, sL v L, g', rfl, rfl, fM.1.1, fF.2.1, Ec.deep (show 1 ≤ 70 by decide) (Ec.imp (c92 (d := 0) fM.1 fM.2.1 fM.2.2.1 hC.2.1.2.2.1) ?_)⟩
    rintro x1 u1 hx
    obtain ⟨s, t, r, q, W', cv, hA⟩ := fA
    rcases hx with ⟨h1, rfl, rfl⟩ | ⟨h1, ⟨h2, rfl, rfl⟩ | ⟨h2, g2, rfl, rfl, e0, e2, rw2, oc, of⟩⟩
    · rcases hA with ⟨rfl, rfl, -⟩ | ⟨rfl, rfl, h3, h4⟩ | ⟨rfl, h3, -⟩
      · exact ⟨0, _, _, rfl, rfl, u2_at, fun hh => absurd hh (by decide), s, t, r, q, W', _, _, _, _, _, _, _, _, (CVs.md (u := sL v L) cv (fun a ha => by rw [u2_ne (by omega), u2_ne (by omega)])), (fM.fl).fl, fF, by omega, by omega⟩
      · exact absurd h3 h1
      · exact absurd h3 h1
    · rcases hA with ⟨rfl, rfl, h3⟩ | ⟨rfl, rfl, h3, h4⟩ | ⟨rfl, h3, h4, -⟩
      · exact absurd h1 h3
      · exact ⟨0, _, _, rfl, rfl, u2_at, fun hh => absurd hh (by decide), s, t, r, q, W', _, _, _, _, _, _, _, _, (CVs.md (u := sL v L) cv (fun a ha => by rw [u2_ne (by omega), u2_ne (by omega)])), (fM.fl).fl, fF, by omega, by omega⟩
      · omega
    · rcases hA with ⟨rfl, rfl, h3⟩ | ⟨rfl, rfl, h3, h4⟩ | ⟨rfl, h3, h4, rfl, rfl⟩
      · exact absurd h1 h3
      · omega
      · have hl : (W ++ byL e k.toNat).length = W.length + k.toNat := by rw [List.length_append]; unfold byL; rw [List.length_map, List.length_range]
        refine ⟨_, _, _, rfl, rfl, e0, fun _ => ⟨rfl, hz rfl⟩, s, t, r, q, _, _, _, _, _, _, _, _, _, (CVs.md (u := sL v L) cv (fun a ha => oc a (by omega) (by omega))), ?_, fF, by omega, by omega⟩
        obtain ⟨m1, m2, m3, m4, m5, m6⟩ := fM
        exact ⟨m1, by rw [e2, hl]; omega, rw2, m4.same (fun j hj => oc _ (by omega) (by omega)) (fun f hf => of f (by omega) (by omega)), m5.of (oc _ (by omega) (by omega)) rfl, m6.of (fun f h1 h2 => of f (by omega) (by omega))⟩
theorem st2 {P : Pg} {h n : Nat} {u : Mm} {g : Nat → Nat → Int}  (hn : n < 600) (hp : pSv P < h) (H : LI h n u g) : Ec P 70 152 [vR h, vR (h + 753)] (sI u g) (HQ P h n 96 [] lI) := by
  obtain ⟨s, t, r, q, W, kd, nm, rp, en, sz, c, K, X, hC, hM, hF, b1, b2⟩ := H
  obtain ⟨ht, hT⟩ := hC.ht
  have hF3 := hF.2.2.1
  have F1 := hF.up Up.refl
  have F2 := hF.hole Up.refl
  have MH := hM.hole hF3
  have CH := hC.hole hF3
  refine Ec.deep (show 53 ≤ 70 by decide) (Ec.imp (h152 (d := 52) (o := h + 753) (A := fun kz z v g' => FP h (n + 1) v ∧ MP h v g' W kd nm rp en sz c K X ∧ ∃ s t r q kd' nm' rp' en' sz' c', CVs v g' h s t r q W kd' nm' rp' en' sz' c' K (0, (0, (0, (-1, 0)))) ∧ c'.1.2.2.2.1 ≤ 50 ∧ c'.2.2 = 0 ∧ ((∃ y : Nat, paF (nsp W) (0, (0, (kd, (nm, (rp, en))))) = .inl y ∧ kz = ((y + 1 : Nat) : Int) ∧ sz' = 0 ∧ c' = (([], ([], ([], (0, false)))), ([], 0))) ∨ (∃ S', paF (nsp W) (0, (0, (kd, (nm, (rp, en))))) = .inr S' ∧ bgF S'.2.2.1 S'.2.2.2.1 S'.2.2.2.2.1 S'.2.2.2.2.2 S'.2.1 = none ∧ kz = 3 ∧ sz' = 0 ∧ c' = (([], ([], ([], (0, false)))), ([], 0))) ∨ (∃ S', paF (nsp W) (0, (0, (kd, (nm, (rp, en))))) = .inr S' ∧ bgF S'.2.2.1 S'.2.2.2.1 S'.2.2.2.2.1 S'.2.2.2.2.2 S'.2.1 = some c' ∧ kz = 0 ∧ z = (S'.2.1 : Int) ∧ sz' = S'.2.1 ∧ kd' = S'.2.2.1 ∧ nm' = S'.2.2.2.1 ∧ rp' = S'.2.2.2.2.1 ∧ en' = S'.2.2.2.2.2))) hC.1.1 (Ec.imp (c6 hC (hF.2.1 _ hp)) ?_)) ?_)
  · rintro x u' ⟨v, g', s', t', r', q', kd', nm', rp', en', hU, hO, hx⟩
    have G1 := hF.up hU
    have G2 := hF.hole hU
    have M1 := hM.cl hU hO
    have M2 := M1.hole (by have := G1.2.2.1; omega)
    have h754 := G1.2.2.1
    rcases hx with ⟨y, h1, rfl, rfl, cv⟩ | ⟨S', h1, rfl, rfl, rfl, rfl, ⟨h2, rfl, rfl, cv⟩ | ⟨c', h2, rfl, rfl, cv, b3, b4⟩⟩
    · have hy := pa_e h1
      have hA : ∀ kz : Int, kz = ((y + 1 : Nat) : Int) → _ := fun kz hk => (⟨s', t', r', q', kd', nm', rp', en', 0, _, cv.hole h754, by show (0 : Int) ≤ 50; decide, rfl, Or.inl ⟨y, h1, hk, rfl, rfl⟩⟩ : ∃ s t r q kd' nm' rp' en' sz' c', CVs (mHole v 6) g' h s t r q W kd' nm' rp' en' sz' c' K (0, (0, (0, (-1, 0)))) ∧ c'.1.2.2.2.1 ≤ 50 ∧ c'.2.2 = 0 ∧ ((∃ y : Nat, paF (nsp W) (0, (0, (kd, (nm, (rp, en))))) = .inl y ∧ kz = ((y + 1 : Nat) : Int) ∧ sz' = 0 ∧ c' = (([], ([], ([], (0, false)))), ([], 0))) ∨ (∃ S', paF (nsp W) (0, (0, (kd, (nm, (rp, en))))) = .inr S' ∧ bgF S'.2.2.1 S'.2.2.2.1 S'.2.2.2.2.1 S'.2.2.2.2.2 S'.2.1 = none ∧ kz = 3 ∧ sz' = 0 ∧ c' = (([], ([], ([], (0, false)))), ([], 0))) ∨ (∃ S', paF (nsp W) (0, (0, (kd, (nm, (rp, en))))) = .inr S' ∧ bgF S'.2.2.1 S'.2.2.2.1 S'.2.2.2.2.1 S'.2.2.2.2.2 S'.2.1 = some c' ∧ kz = 0 ∧ (0 : Int) = (S'.2.1 : Int) ∧ sz' = S'.2.1 ∧ kd' = S'.2.2.1 ∧ nm' = S'.2.2.2.1 ∧ rp' = S'.2.2.2.2.1 ∧ en' = S'.2.2.2.2.2)))
      have hy2 : y = 0 ∨ y = 1 := by omega
      rcases hy2 with rfl | rfl
      · exact ⟨_, g', rfl, G2.1, Or.inr (Or.inl ⟨_, rfl, G2, M2, hA 1 rfl⟩)⟩
      · exact ⟨_, g', rfl, G2.1, Or.inr (Or.inr (Or.inl ⟨_, rfl, G2, M2, hA 2 rfl⟩))⟩
    · exact ⟨_, g', rfl, G2.1, Or.inr (Or.inr (Or.inr ⟨_, rfl, G2, M2, s', t', r', q', _, _, _, _, 0, _, cv.hole h754, by show (0 : Int) ≤ 50; decide, rfl, Or.inr (Or.inl ⟨S', h1, h2, rfl, rfl, rfl⟩)⟩))⟩
    · exact ⟨v, g', rfl, G1.1, Or.inl ⟨_, rfl, G1, M1, s', t', r', q', _, _, _, _, _, c', cv, b3, b4, Or.inr (Or.inr ⟨S', h1, h2, rfl, rfl, rfl, rfl, rfl, rfl, rfl⟩)⟩⟩
  · rintro x0 u0 ⟨kz, z, v, g', L, rfl, ⟨fF, fM, fA⟩, rfl, hL, hz⟩
    have fM := fM.sL hL
    have fF : FP h (n + 1) (sL v L) := fF
    obtain ⟨s, t, r, q, kd', nm', rp', en', sz', c', cv, b3, b4, hA⟩ := fA
    have hT0 : TmOk kd' nm' en' 0 (fun _ => 0) := TmOk.zero
    have hdiff : ∀ (g2 : Nat → Nat → Int), RdW (h + 710) g' g2 → g2 (h + 710) 57 = 0 → Mc g2 (h + 710) kd' nm' rp' en' sz' c' → LI h (n + 1) (sL v L) g2 := by
      intro g2 rd h57 hMc
      obtain ⟨m1, m2, m3, m4, m5, m6⟩ := fM
      refine ⟨s, t, r, q, W, kd', nm', rp', en', sz', c', K, _, (CVs.md (u := sL v L) cv (fun a ha => rd.1 a (by omega) (by omega))), ⟨m1, by rw [rd.2 2 (by decide) (by decide) (by decide) (by decide) (by decide) (by decide) (by decide) (by decide) (by decide) (by decide) (by decide) (by decide) (by decide) (by decide) (by decide) (by decide)]; exact m2, by rw [rd.1 _ (by omega) (by omega)]; exact m3, hMc, m5.of (rd.1 _ (by omega) (by omega)) rfl, Or.inl ⟨h57, rfl⟩⟩, fF, by omega, by omega⟩
    refine ⟨kz, z, sL v L, g', rfl, rfl, fM.1.1, fF.2.1, Ec.deep (show 7 ≤ 70 by decide) (Ec.imp (c96 (d := 0) (S0 := (0, (0, (kd, (nm, (rp, en)))))) (rF := rp') fM.1 hT0 fM.2.1 fM.2.2.1 hC.2.1.2.2.1 hC.2.1.2.2.2 ⟨rfl, rfl⟩) ?_)⟩
    rintro x1 u1 ⟨g2, rfl, rd, h57, hx⟩
    rcases hA with ⟨y, h1, rfl, rfl, rfl⟩ | ⟨S', h1, h2, rfl, rfl, rfl⟩ | ⟨S', h1, h2, rfl, rfl, rfl, rfl, rfl, rfl, rfl⟩
    · rcases hx with ⟨e, he, rfl, e0, hMc⟩ | ⟨S2, c2, h3, -⟩
      · have hey : e = y := by
          rcases he with he | ⟨-, S2, he, -⟩
          · rw [h1] at he; cases he; rfl
          · rw [h1] at he; cases he
        subst hey
        exact ⟨0, _, _, rfl, rfl, e0, fun hh => absurd hh (by omega), hdiff g2 rd h57 hMc⟩
      · rw [h1] at h3; cases h3
    · rcases hx with ⟨e, he, rfl, e0, hMc⟩ | ⟨S2, c2, h3, h4, -⟩
      · have hey : e = 2 := by
          rcases he with he | ⟨he, -⟩
          · rw [h1] at he; cases he
          · exact he
        subst hey
        exact ⟨0, _, _, rfl, rfl, e0, fun hh => absurd hh (by omega), hdiff g2 rd h57 hMc⟩
      · rw [h1] at h3; cases h3
        rw [h2] at h4; cases h4
    · rcases hx with ⟨e, he, rfl, e0, hMc⟩ | ⟨S2, c2, h3, h4, rfl, e0, hMc⟩
      · exfalso
        rcases he with he | ⟨-, S2, he, he2⟩
        · rw [h1] at he; cases he
        · rw [h1] at he; cases he
          rw [h2] at he2; cases he2
      · rw [h1] at h3; cases h3
        rw [h2] at h4; cases h4
        exact ⟨_, _, _, rfl, rfl, e0, fun _ => ⟨rfl, hz rfl⟩, hdiff g2 rd h57 hMc⟩
theorem st4 {P : Pg} {h n : Nat} {u : Mm} {g : Nat → Nat → Int} {a b : Int} (hn : n < 600) (hi : inR a) (H : LI h n u g) : Ec P 70 153 [vR h, vI a, vI b, vR (h + 753)] (sI u g) (HQ P h n 134 [vI a, vI b] lI) := by
  obtain ⟨s, t, r, q, W, kd, nm, rp, en, sz, c, K, X, hC, hM, hF, b1, b2⟩ := H
  obtain ⟨ht, hT⟩ := hC.ht
  have hF3 := hF.2.2.1
  have F1 := hF.up Up.refl
  have F2 := hF.hole Up.refl
  have MH := hM.hole hF3
  have CH := hC.hole hF3
  obtain ⟨cr1, cr2, cr3, cr4, cr5, cr6⟩ := id hC.2.2.2.2.1
  have hge : ∀ k, k < (rxS kd c.1).length → ∃ y, c.2.1[k]? = some y := fun k hk => ⟨_, List.getElem?_eq_getElem (by rw [cr3]; exact hk)⟩
  have hin : ∀ j, j < (rxS kd c.1).length → inR (c.2.2 - g (r + 4) j) := fun j hj => by
    obtain ⟨y, hy⟩ := hge j hj
    have := cr6 y (List.mem_of_getElem? hy)
    rw [cr2 j y hy]
    exact ⟨by omega, by omega⟩
  refine Ec.deep (show 2 ≤ 70 by decide) (Ec.imp (h153 (d := 1) (o := h + 753) (A := fun kz z v g' => FP h (n + 1) v ∧ MP h v g' W kd nm rp en sz c K X ∧ ∃ s t r q, CVs v g' h s t r q W kd nm rp en sz c K X ∧ ((kz = 1 ∧ ¬ ((0 ≤ a ∧ a < ((rxS kd c.1).length : Int)) ∧ (0 ≤ b ∧ b ≤ 3))) ∨ (∃ (k : Nat) (w : Rd) (y : Int), kz = 0 ∧ a = (k : Int) ∧ (rxS kd c.1)[k]? = some w ∧ c.2.1[k]? = some y ∧ (0 ≤ b ∧ b ≤ 3) ∧ z = (if b = 0 then w.1 else if b = 1 then w.2.1 else if b = 2 then w.2.2 else c.2.2 - y)))) hC.1.1 (Ec.imp (c10 (d := 0) (st := c.2.2) hC.1 cr1 (rxS_len hM.2.2.2.1.2.2.1) cr4 hin) ?_)) ?_)
  · rintro x u' (⟨h1, rfl, rfl⟩ | ⟨k, w, rfl, h2, h3, rfl, rfl⟩)
    · exact ⟨_, g, rfl, F2.1, Or.inr ⟨_, rfl, F2, MH, s, t, r, q, CH, Or.inl ⟨rfl, h1⟩⟩⟩
    · obtain ⟨y, hy⟩ := hge k (List.getElem?_eq_some_iff.mp h2).1
      exact ⟨u, g, rfl, F1.1, Or.inl ⟨_, rfl, F1, hM, s, t, r, q, hC, Or.inr ⟨k, w, y, rfl, rfl, h2, hy, h3, by rw [cr2 k y hy]⟩⟩⟩
  · rintro x0 u0 ⟨kz, z, v, g', L, rfl, ⟨fF, fM, fA⟩, rfl, hL, hz⟩
    have fM := fM.sL hL
    have fF : FP h (n + 1) (sL v L) := fF
    refine ⟨kz, z, sL v L, g', rfl, rfl, fM.1.1, fF.2.1, Ec.deep (show 4 ≤ 70 by decide) (Ec.imp (c134 (d := 0) fM.1 hT fM.2.2.2.1 (by omega) hi) ?_)⟩
    rintro x1 u1 ⟨g2, rfl, zz, hMc, hx⟩
    obtain ⟨s, t, r, q, cv, hA⟩ := fA
    rcases hx with ⟨h1, e0, rfl⟩ | ⟨k, w, y, rfl, h2, h3, h4, e0, rfl⟩
    · rcases hA with ⟨rfl, -⟩ | ⟨k, w, y, rfl, rfl, h2, -, h4, -⟩
      · exact ⟨0, _, _, rfl, rfl, e0, fun hh => absurd hh (by decide), s, t, r, q, _, _, _, _, _, _, _, _, _, (CVs.md (u := sL v L) cv (fun a ha => zz.1 a (by omega) (by omega) (by omega) (by omega) (by omega))), fM.st zz hMc, fF, by omega, by omega⟩
      · have := (List.getElem?_eq_some_iff.mp h2).1
        exact absurd ⟨⟨by omega, by omega⟩, h4⟩ h1
    · rcases hA with ⟨rfl, h5⟩ | ⟨k2, w2, y2, rfl, h5, h6, h7, h8, rfl⟩
      · have := (List.getElem?_eq_some_iff.mp h2).1
        exact absurd ⟨⟨by omega, by omega⟩, h4⟩ h5
      · have hkk : k2 = k := by omega
        subst hkk
        rw [h2] at h6; cases h6
        rw [h3] at h7; cases h7
        exact ⟨_, _, _, rfl, rfl, e0, fun _ => ⟨rfl, hz rfl⟩, s, t, r, q, _, _, _, _, _, _, _, _, _, (CVs.md (u := sL v L) cv (fun a ha => zz.1 a (by omega) (by omega) (by omega) (by omega) (by omega))), fM.st zz hMc, fF, by omega, by omega⟩
theorem st5 {P : Pg} {h n : Nat} {u : Mm} {g : Nat → Nat → Int} {a : Int} (hn : n < 600) (hp : pSv P < h) (hi : inR a) (H : LI h n u g) : Ec P 70 154 [vR h, vI a, vR (h + 753)] (sI u g) (HQ P h n 135 [vI a] lI) := by
  obtain ⟨s, t, r, q, W, kd, nm, rp, en, sz, c, K, X, hC, hM, hF, b1, b2⟩ := H
  obtain ⟨ht, hT⟩ := hC.ht
  have hF3 := hF.2.2.1
  have F1 := hF.up Up.refl
  have F2 := hF.hole Up.refl
  have MH := hM.hole hF3
  have CH := hC.hole hF3
  refine Ec.deep (show 52 ≤ 70 by decide) (Ec.imp (h154 (d := 51) (o := h + 753) (A := fun kz z v g' => FP h (n + 1) v ∧ MP h v g' W kd nm rp en sz c K X ∧ ∃ s t r q c', CVs v g' h s t r q W kd nm rp en sz c' K X ∧ c'.1.2.2.2.1 ≤ c.1.2.2.2.1 + 50 ∧ c'.2.2 ≤ c.2.2 + 1 ∧ ((kz = 1 ∧ c' = c ∧ ¬ (0 ≤ a ∧ a < ((rxS kd c.1).length : Int))) ∨ (∃ k : Nat, a = (k : Int) ∧ k < (rxS kd c.1).length ∧ ((kz = 2 ∧ c' = c ∧ stpF kd nm rp en k c = none) ∨ (kz = 0 ∧ stpF kd nm rp en k c = some c' ∧ z = ((rxS kd c'.1).length : Int)))))) hC.1.1 (Ec.imp (c11 hC (hF.2.1 _ hp) (by omega) (by omega)) ?_)) ?_)
  · rintro x u' ⟨v, g', s', t', r', q', hU, hO, hx⟩
    have G1 := hF.up hU
    have G2 := hF.hole hU
    have M1 := hM.cl hU hO
    have h754 := G1.2.2.1
    have M2 := M1.hole h754
    rcases hx with ⟨h1, rfl, rfl, cv⟩ | ⟨k, rfl, h1, ⟨h2, rfl, rfl, cv⟩ | ⟨c', h2, rfl, rfl, cv, b3, b4⟩⟩
    · exact ⟨_, g', rfl, G2.1, Or.inr (Or.inl ⟨_, rfl, G2, M2, s', t', r', q', c, cv.hole h754, by omega, by omega, Or.inl ⟨rfl, rfl, h1⟩⟩)⟩
    · exact ⟨_, g', rfl, G2.1, Or.inr (Or.inr ⟨_, rfl, G2, M2, s', t', r', q', c, cv.hole h754, by omega, by omega, Or.inr ⟨k, rfl, h1, Or.inl ⟨rfl, rfl, h2⟩⟩⟩)⟩
    · exact ⟨v, g', rfl, G1.1, Or.inl ⟨_, rfl, G1, M1, s', t', r', q', c', cv, by omega, by omega, Or.inr ⟨k, rfl, h1, Or.inr ⟨rfl, h2, rfl⟩⟩⟩⟩
  · rintro x0 u0 ⟨kz, z, v, g', L, rfl, ⟨fF, fM, fA⟩, rfl, hL, hz⟩
    have fM := fM.sL hL
    have fF : FP h (n + 1) (sL v L) := fF
    refine ⟨kz, z, sL v L, g', rfl, rfl, fM.1.1, fF.2.1, Ec.deep (show 9 ≤ 70 by decide) (Ec.imp (c135 (d := 0) fM.1 hT fM.2.2.2.1 (by omega) (by omega) hi) ?_)⟩
    rintro x1 u1 ⟨g2, rfl, zz, hx⟩
    obtain ⟨s, t, r, q, c', cv, b3, b4, hA⟩ := fA
    rcases hx with ⟨h1, e0, hMc, rfl⟩ | ⟨k, rfl, h1, ⟨h2, e0, hMc, rfl⟩ | ⟨c2, h2, e0, hMc, rfl⟩⟩
    · rcases hA with ⟨rfl, rfl, -⟩ | ⟨k, rfl, h2, -⟩
      · exact ⟨0, _, _, rfl, rfl, e0, fun hh => absurd hh (by decide), s, t, r, q, _, _, _, _, _, _, _, _, _, (CVs.md (u := sL v L) cv (fun a ha => zz.1 a (by omega) (by omega) (by omega) (by omega) (by omega))), fM.st zz hMc, fF, by omega, by omega⟩
      · exact absurd ⟨by omega, by omega⟩ h1
    · rcases hA with ⟨rfl, rfl, h3⟩ | ⟨k2, h3, h4, hA⟩
      · exact absurd ⟨by omega, by omega⟩ h3
      · have hkk : k2 = k := by omega
        subst hkk
        rcases hA with ⟨rfl, rfl, -⟩ | ⟨rfl, h5, -⟩
        · exact ⟨0, _, _, rfl, rfl, e0, fun hh => absurd hh (by decide), s, t, r, q, _, _, _, _, _, _, _, _, _, (CVs.md (u := sL v L) cv (fun a ha => zz.1 a (by omega) (by omega) (by omega) (by omega) (by omega))), fM.st zz hMc, fF, by omega, by omega⟩
        · rw [h2] at h5; cases h5
    · rcases hA with ⟨rfl, rfl, h3⟩ | ⟨k2, h3, h4, hA⟩
      · exact absurd ⟨by omega, by omega⟩ h3
      · have hkk : k2 = k := by omega
        subst hkk
        rcases hA with ⟨rfl, rfl, h5⟩ | ⟨rfl, h5, rfl⟩
        · rw [h2] at h5; cases h5
        · rw [h2] at h5; cases h5
          exact ⟨_, _, _, rfl, rfl, e0, fun _ => ⟨rfl, hz rfl⟩, s, t, r, q, _, _, _, _, _, _, _, _, _, (CVs.md (u := sL v L) cv (fun a ha => zz.1 a (by omega) (by omega) (by omega) (by omega) (by omega))), fM.st zz hMc, fF, by omega, by omega⟩
theorem st6 {P : Pg} {h n : Nat} {u : Mm} {g : Nat → Nat → Int} {a : Int} (hn : n < 600) (hp : pSv P < h) (H : LI h n u g) : Ec P 70 155 [vR h, vI a, vR (h + 753)] (sI u g) (HQ P h n 140 [vI a] lI) := by
  obtain ⟨s, t, r, q, W, kd, nm, rp, en, sz, c, K, X, hC, hM, hF, b1, b2⟩ := H
  obtain ⟨ht, hT⟩ := hC.ht
  have hF3 := hF.2.2.1
  have F1 := hF.up Up.refl
  have F2 := hF.hole Up.refl
  have MH := hM.hole hF3
  have CH := hC.hole hF3
  refine Ec.deep (show 52 ≤ 70 by decide) (Ec.imp (h155 (d := 51) (o := h + 753) (A := fun kz z v g' => FP h (n + 1) v ∧ MP h v g' W kd nm rp en sz c K X ∧ ∃ s t r q c', CVs v g' h s t r q W kd nm rp en sz c' K X ∧ c'.1.2.2.2.1 ≤ c.1.2.2.2.1 + 1500 ∧ c'.2.2 ≤ c.2.2 + 30 ∧ ((kz = 1 ∧ c' = c ∧ ¬ (1 ≤ a ∧ a ≤ 30)) ∨ (∃ k : Nat, a = (k : Int) ∧ 1 ≤ k ∧ k ≤ 30 ∧ c' = (faF kd nm rp en k c).1 ∧ ((kz = 2 ∧ (faF kd nm rp en k c).2.2 = true) ∨ (kz = 0 ∧ (faF kd nm rp en k c).2.2 = false ∧ z = ((faF kd nm rp en k c).2.1 : Int)))))) hC.1.1 (Ec.imp (c13 hC (hF.2.1 _ hp) (by omega) (by omega)) ?_)) ?_)
  · rintro x u' ⟨v, g', s', t', r', q', hU, hO, hx⟩
    have G1 := hF.up hU
    have G2 := hF.hole hU
    have M1 := hM.cl hU hO
    have h754 := G1.2.2.1
    have M2 := M1.hole h754
    rcases hx with ⟨h1, rfl, rfl, cv⟩ | ⟨k, F, rfl, h1, h2, rfl, cv, b3, b4, ⟨h3, rfl, rfl⟩ | ⟨h3, rfl, rfl⟩⟩
    · exact ⟨_, g', rfl, G2.1, Or.inr (Or.inl ⟨_, rfl, G2, M2, s', t', r', q', c, cv.hole h754, by omega, by omega, Or.inl ⟨rfl, rfl, h1⟩⟩)⟩
    · exact ⟨_, g', rfl, G2.1, Or.inr (Or.inr ⟨_, rfl, G2, M2, s', t', r', q', _, cv.hole h754, b3, b4, Or.inr ⟨k, rfl, h1, h2, rfl, Or.inl ⟨rfl, h3⟩⟩⟩)⟩
    · exact ⟨v, g', rfl, G1.1, Or.inl ⟨_, rfl, G1, M1, s', t', r', q', _, cv, b3, b4, Or.inr ⟨k, rfl, h1, h2, rfl, Or.inr ⟨rfl, h3, rfl⟩⟩⟩⟩
  · rintro x0 u0 ⟨kz, z, v, g', L, rfl, ⟨fF, fM, fA⟩, rfl, hL, hz⟩
    have fM := fM.sL hL
    have fF : FP h (n + 1) (sL v L) := fF
    refine ⟨kz, z, sL v L, g', rfl, rfl, fM.1.1, fF.2.1, Ec.deep (show 9 ≤ 70 by decide) (Ec.imp (c140 (d := 0) fM.1 hT fM.2.2.2.1 (by omega) (by omega)) ?_)⟩
    rintro x1 u1 ⟨g2, rfl, zz, hx⟩
    obtain ⟨s, t, r, q, c', cv, b3, b4, hA⟩ := fA
    rcases hx with ⟨h1, e0, hMc, rfl⟩ | ⟨k, F, rfl, h1, h2, rfl, hMc, ⟨h3, e0, rfl⟩ | ⟨h3, e0, rfl⟩⟩
    · rcases hA with ⟨rfl, rfl, -⟩ | ⟨k, rfl, h2, h3, -⟩
      · exact ⟨0, _, _, rfl, rfl, e0, fun hh => absurd hh (by decide), s, t, r, q, _, _, _, _, _, _, _, _, _, (CVs.md (u := sL v L) cv (fun a ha => zz.1 a (by omega) (by omega) (by omega) (by omega) (by omega))), fM.st zz hMc, fF, by omega, by omega⟩
      · exact absurd ⟨by omega, by omega⟩ h1
    · rcases hA with ⟨rfl, rfl, h4⟩ | ⟨k2, h4, h5, h6, rfl, hA⟩
      · exact absurd ⟨by omega, by omega⟩ h4
      · have hkk : k2 = k := by omega
        subst hkk
        rcases hA with ⟨rfl, -⟩ | ⟨rfl, h7, -⟩
        · exact ⟨0, _, _, rfl, rfl, e0, fun hh => absurd hh (by decide), s, t, r, q, _, _, _, _, _, _, _, _, _, (CVs.md (u := sL v L) cv (fun a ha => zz.1 a (by omega) (by omega) (by omega) (by omega) (by omega))), fM.st zz hMc, fF, by omega, by omega⟩
        · rw [h3] at h7; cases h7
    · rcases hA with ⟨rfl, rfl, h4⟩ | ⟨k2, h4, h5, h6, rfl, hA⟩
      · exact absurd ⟨by omega, by omega⟩ h4
      · have hkk : k2 = k := by omega
        subst hkk
        rcases hA with ⟨rfl, h7⟩ | ⟨rfl, h7, rfl⟩
        · rw [h3] at h7; cases h7
        · exact ⟨_, _, _, rfl, rfl, e0, fun _ => ⟨rfl, hz rfl⟩, s, t, r, q, _, _, _, _, _, _, _, _, _, (CVs.md (u := sL v L) cv (fun a ha => zz.1 a (by omega) (by omega) (by omega) (by omega) (by omega))), fM.st zz hMc, fF, by omega, by omega⟩
theorem st7 {P : Pg} {h n : Nat} {u : Mm} {g : Nat → Nat → Int} {a : Int} (hn : n < 600) (H : LI h n u g) : Ec P 70 156 [vR h, vI a, vR (h + 753)] (sI u g) (HQ P h n 141 [vI a] lI) := by
  obtain ⟨s, t, r, q, W, kd, nm, rp, en, sz, c, K, X, hC, hM, hF, b1, b2⟩ := H
  obtain ⟨ht, hT⟩ := hC.ht
  have hF3 := hF.2.2.1
  have F1 := hF.up Up.refl
  have F2 := hF.hole Up.refl
  have MH := hM.hole hF3
  have CH := hC.hole hF3
  refine Ec.deep (show 1 ≤ 70 by decide) (Ec.imp (h156 (d := 0) (o := h + 753) (A := fun kz z v g' => FP h (n + 1) v ∧ MP h v g' W kd nm rp en sz c K X ∧ ∃ s t r q, CVs v g' h s t r q W kd nm rp en sz c K X ∧ ((kz = 1 ∧ ¬ (0 ≤ a ∧ a ≤ 4)) ∨ (kz = 0 ∧ (0 ≤ a ∧ a ≤ 4) ∧ z = (if a = 0 then (c.1.1.length : Int) else if a = 1 then (c.1.2.1.length : Int) else if a = 2 then (c.1.2.2.1.length : Int) else if a = 3 then c.1.2.2.2.1 else c.2.2)))) hC.1.1 (Ec.imp (c14 (d := 0) hC.1 hC.2.2.2.1.1 hC.2.2.2.2.1.2.2.2.1) ?_)) ?_)
  · rintro x u' (⟨h1, rfl, rfl⟩ | ⟨h1, rfl, rfl⟩)
    · exact ⟨_, g, rfl, F2.1, Or.inr ⟨_, rfl, F2, MH, s, t, r, q, CH, Or.inl ⟨rfl, h1⟩⟩⟩
    · exact ⟨u, g, rfl, F1.1, Or.inl ⟨_, rfl, F1, hM, s, t, r, q, hC, Or.inr ⟨rfl, h1, rfl⟩⟩⟩
  · rintro x0 u0 ⟨kz, z, v, g', L, rfl, ⟨fF, fM, fA⟩, rfl, hL, hz⟩
    have fM := fM.sL hL
    have fF : FP h (n + 1) (sL v L) := fF
    refine ⟨kz, z, sL v L, g', rfl, rfl, fM.1.1, fF.2.1, Ec.deep (show 1 ≤ 70 by decide) (Ec.imp (c141 (d := 0) fM.1 fM.2.2.2.1) ?_)⟩
    rintro x1 u1 hx
    obtain ⟨s, t, r, q, cv, hA⟩ := fA
    rcases hx with ⟨h1, rfl, rfl⟩ | ⟨h1, rfl, rfl⟩
    · rcases hA with ⟨rfl, -⟩ | ⟨rfl, h2, -⟩
      · exact ⟨0, _, _, rfl, rfl, u2_at, fun hh => absurd hh (by decide), s, t, r, q, _, _, _, _, _, _, _, _, _, (CVs.md (u := sL v L) cv (fun a ha => by rw [u2_ne (by omega), u2_ne (by omega)])), (fM.fl).fl, fF, by omega, by omega⟩
      · exfalso; first | exact h1 h2 | omega
    · rcases hA with ⟨rfl, h2⟩ | ⟨rfl, -, rfl⟩
      · exfalso; first | exact h2 h1 | omega
      · exact ⟨_, _, _, rfl, rfl, u2_at, fun _ => ⟨rfl, hz rfl⟩, s, t, r, q, _, _, _, _, _, _, _, _, _, (CVs.md (u := sL v L) cv (fun a ha => u2_ne (by omega))), fM.fl, fF, by omega, by omega⟩
theorem st8 {P : Pg} {h n : Nat} {u : Mm} {g : Nat → Nat → Int} {a : Int} (hn : n < 600) (hi : inR a) (H : LI h n u g) : Ec P 70 157 [vR h, vI a, vR (h + 753)] (sI u g) (HQ P h n 142 [vI a] lI) := by
  obtain ⟨s, t, r, q, W, kd, nm, rp, en, sz, c, K, X, hC, hM, hF, b1, b2⟩ := H
  obtain ⟨ht, hT⟩ := hC.ht
  have hF3 := hF.2.2.1
  have F1 := hF.up Up.refl
  have F2 := hF.hole Up.refl
  have MH := hM.hole hF3
  have CH := hC.hole hF3
  refine Ec.deep (show 1 ≤ 70 by decide) (Ec.imp (h157 (d := 0) (o := h + 753) (A := fun kz z v g' => FP h (n + 1) v ∧ MP h v g' W kd nm rp en sz c K X ∧ ∃ s t r q, CVs v g' h s t r q W kd nm rp en sz c K X ∧ ((kz = 1 ∧ a < 0) ∨ (kz = 0 ∧ 0 ≤ a ∧ z = (match (teS kd nm rp en c.1)[a.toNat]? with | some c => c | none => -1)))) hC.1.1 (Ec.imp (c15 (d := 0) hC.1 hC.2.2.2.1.2.2.1 hC.2.2.2.1.2.2.2 hi) ?_)) ?_)
  · rintro x u' (⟨h1, rfl, rfl⟩ | ⟨h1, rfl, rfl⟩)
    · exact ⟨_, g, rfl, F2.1, Or.inr ⟨_, rfl, F2, MH, s, t, r, q, CH, Or.inl ⟨rfl, h1⟩⟩⟩
    · exact ⟨u, g, rfl, F1.1, Or.inl ⟨_, rfl, F1, hM, s, t, r, q, hC, Or.inr ⟨rfl, h1, rfl⟩⟩⟩
  · rintro x0 u0 ⟨kz, z, v, g', L, rfl, ⟨fF, fM, fA⟩, rfl, hL, hz⟩
    have fM := fM.sL hL
    have fF : FP h (n + 1) (sL v L) := fF
    refine ⟨kz, z, sL v L, g', rfl, rfl, fM.1.1, fF.2.1, Ec.deep (show 1 ≤ 70 by decide) (Ec.imp (c142 (d := 0) fM.1 fM.2.2.2.1) ?_)⟩
    rintro x1 u1 hx
    obtain ⟨s, t, r, q, cv, hA⟩ := fA
    rcases hx with ⟨h1, rfl, rfl⟩ | ⟨h1, rfl, rfl⟩
    · rcases hA with ⟨rfl, -⟩ | ⟨rfl, h2, -⟩
      · exact ⟨0, _, _, rfl, rfl, u2_at, fun hh => absurd hh (by decide), s, t, r, q, _, _, _, _, _, _, _, _, _, (CVs.md (u := sL v L) cv (fun a ha => by rw [u2_ne (by omega), u2_ne (by omega)])), (fM.fl).fl, fF, by omega, by omega⟩
      · exfalso; first | exact h1 h2 | omega
    · rcases hA with ⟨rfl, h2⟩ | ⟨rfl, -, rfl⟩
      · exfalso; first | exact h2 h1 | omega
      · exact ⟨_, _, _, rfl, rfl, u2_at, fun _ => ⟨rfl, hz rfl⟩, s, t, r, q, _, _, _, _, _, _, _, _, _, (CVs.md (u := sL v L) cv (fun a ha => u2_ne (by omega))), fM.fl, fF, by omega, by omega⟩
theorem st9 {P : Pg} {h n : Nat} {u : Mm} {g : Nat → Nat → Int} {a : Int} (hn : n < 600) (H : LI h n u g) : Ec P 70 158 [vR h, vI a, vR (h + 753)] (sI u g) (HQ P h n 143 [vI a] lI) := by
  obtain ⟨s, t, r, q, W, kd, nm, rp, en, sz, c, K, X, hC, hM, hF, b1, b2⟩ := H
  obtain ⟨ht, hT⟩ := hC.ht
  have hF3 := hF.2.2.1
  have F1 := hF.up Up.refl
  have F2 := hF.hole Up.refl
  have MH := hM.hole hF3
  have CH := hC.hole hF3
  refine Ec.deep (show 3 ≤ 70 by decide) (Ec.imp (h158 (d := 2) (o := h + 753) (A := fun kz z v g' => FP h (n + 1) v ∧ MP h v g' W kd nm rp en sz c K X ∧ ∃ s t r q K', CVs v g' h s t r q W kd nm rp en sz c K' X ∧ ((kz = 1 ∧ K' = K ∧ ¬ (0 ≤ a ∧ a < 3)) ∨ (∃ k : Nat, a = (k : Int) ∧ k < 3 ∧ kz = 0 ∧ K' = (fun i => if i = k then teS kd nm rp en c.1 else K i) ∧ z = ((teS kd nm rp en c.1).length : Int)))) hC.1.1 (Ec.imp (c16 (d := 0) hC.1 hC.2.2.2.1.2.2.1 hC.2.2.2.1.2.2.2) ?_)) ?_)
  · rintro x u' (⟨h1, rfl, rfl⟩ | ⟨k, rfl, h1, g', rfl, rfl, o1, ln⟩)
    · exact ⟨_, g, rfl, F2.1, Or.inr ⟨_, rfl, F2, MH, s, t, r, q, K, CH, Or.inl ⟨rfl, rfl, h1⟩⟩⟩
    · refine ⟨u, g', rfl, F1.1, Or.inl ⟨_, rfl, F1, hM.cl Up.refl (fun a ha => o1 a (by omega)), s, t, r, q, _, ?_, Or.inr ⟨k, rfl, h1, rfl, rfl, rfl⟩⟩⟩
      obtain ⟨a1, a2, a3, a4, a5, a6, a7⟩ := hC
      have hs : (s = h + 13 ∨ s = h + 34) ∧ (r = h + 55 ∨ r = h + 60) := by
        obtain ⟨-, -, -, -, -, -, -, -, -, -, -, -, -, -, -, -, -, -, -, -, e1, e2⟩ := a1
        omega
      refine ⟨a1, a2.of (by rw [o1 h (by omega)]) (o1 _ (by omega)), a3.of (fun a h1 h2 => o1 a (by omega)), a4.of (fun a h1 h2 => o1 a (by omega)), a5.of (by rw [o1 h (by omega)]) (fun a h1 h2 => o1 a (by omega)), fun i hi => ?_, a7.of (o1 _ (by omega)) (o1 _ (by omega))⟩
      by_cases hik : i = k
      · subst hik
        simp only [if_true]
        exact ⟨ln, a4.2.2.2⟩
      · simp only [if_neg hik]
        exact ⟨(a6 i hi).1.off (fun a h1 h2 => o1 a (by omega)), (a6 i hi).2⟩
  · rintro x0 u0 ⟨kz, z, v, g', L, rfl, ⟨fF, fM, fA⟩, rfl, hL, hz⟩
    have fM := fM.sL hL
    have fF : FP h (n + 1) (sL v L) := fF
    refine ⟨kz, z, sL v L, g', rfl, rfl, fM.1.1, fF.2.1, Ec.deep (show 1 ≤ 70 by decide) (Ec.imp (c143 (d := 0) fM.1 fM.2.2.2.1.2.2.2.2.2.1 fM.2.2.2.1.2.2.2.2.2.2.1 fM.2.2.2.1.2.2.2.2.2.2.2.1) ?_)⟩
    rintro x1 u1 hx
    obtain ⟨s, t, r, q, K', cv, hA⟩ := fA
    rcases hx with ⟨h1, rfl, rfl⟩ | ⟨k, rfl, h1, rfl, L2, rfl, l1, l2⟩
    · rcases hA with ⟨rfl, rfl, -⟩ | ⟨k, rfl, h2, -⟩
      · exact ⟨0, _, _, rfl, rfl, u2_at, fun hh => absurd hh (by decide), s, t, r, q, _, _, _, _, _, _, _, _, _, (CVs.md (u := sL v L) cv (fun a ha => by rw [u2_ne (by omega), u2_ne (by omega)])), (fM.fl).fl, fF, by omega, by omega⟩
      · exact absurd ⟨by omega, by omega⟩ h1
    · rcases hA with ⟨rfl, rfl, h2⟩ | ⟨k2, h2, h3, rfl, rfl, rfl⟩
      · exact absurd ⟨by omega, by omega⟩ h2
      · have hkk : k2 = k := by omega
        subst hkk
        refine ⟨_, _, _, rfl, rfl, ?_, fun _ => ⟨rfl, ?_⟩, s, t, r, q, _, _, _, _, _, _, _, _, _, (CVs.md (u := sL (sL v L) L2) cv (fun a ha => by rw [u2_ne (by omega), u2_ne (by omega)])), ?_, fF, by omega, by omega⟩
        · rw [u2_ne (by omega), u2_at]
        · show L2 (h + 753) 0 = _
          rw [l1 _ _ (Or.inl (by omega))]
          exact hz rfl
        · obtain ⟨m1, m2, m3, m4, m5, m6⟩ := fM
          refine ⟨m1, by rw [u2_ne (by omega), u2_ni (by decide)]; exact m2, by rw [u2_ne (by omega), u2_ne (by omega)]; exact m3, m4.same (fun j hj => by rw [u2_ne (by omega), u2_ne (by omega)]) (fun f hf => by rw [u2_ne (by omega), u2_ni (by omega)]), fun i hi => ?_, m6.of (fun f h1 h2 => by rw [u2_ne (by omega), u2_ni (by omega)])⟩
          by_cases hik : i = k2
          · subst hik
            simp only [if_true]
            exact ⟨teS_ch hT m4.2.2.1, m4.2.2.2.2.2.2.2.1, Or.inr ⟨teS_ne, u2_at, l2⟩⟩
          · simp only [if_neg hik]
            obtain ⟨p1, p2, p3⟩ := m5 i hi
            refine ⟨p1, p2, ?_⟩
            rw [u2_ni hik, u2_ne (show h + 710 + 35 ≠ h + 710 by omega)]
            rcases p3 with p3 | ⟨p3, p4, p5⟩
            · exact Or.inl p3
            · refine Or.inr ⟨p3, p4, fun j hj => ?_⟩
              have e := l1 (h + 710 + 36) (30 * i + j) (Or.inr (by omega))
              exact e.trans (p5 j hj)
theorem st10 {P : Pg} {h n : Nat} {u : Mm} {g : Nat → Nat → Int} {a : Int} (hn : n < 600) (H : LI h n u g) : Ec P 70 159 [vR h, vI a, vR (h + 753)] (sI u g) (HQ P h n 145 [vI a] lB) := by
  obtain ⟨s, t, r, q, W, kd, nm, rp, en, sz, c, K, X, hC, hM, hF, b1, b2⟩ := H
  obtain ⟨ht, hT⟩ := hC.ht
  have hF3 := hF.2.2.1
  have F1 := hF.up Up.refl
  have F2 := hF.hole Up.refl
  have MH := hM.hole hF3
  have CH := hC.hole hF3
  refine Ec.deep (show 3 ≤ 70 by decide) (Ec.imp (h159 (d := 2) (o := h + 753) (A := fun kz z v g' => FP h (n + 1) v ∧ MP h v g' W kd nm rp en sz c K X ∧ ∃ s t r q, CVs v g' h s t r q W kd nm rp en sz c K X ∧ ((kz = 1 ∧ ¬ (0 ≤ a ∧ a < 3)) ∨ (∃ k : Nat, a = (k : Int) ∧ k < 3 ∧ ((kz = 2 ∧ (K k).length = 0) ∨ (kz = 0 ∧ (K k).length ≠ 0 ∧ z = (if teS kd nm rp en c.1 = K k then 1 else 0)))))) hC.1.1 (Ec.imp (c18 (d := 0) hC.1 hC.2.2.2.1.2.2.1 hC.2.2.2.1.2.2.2 hC.2.2.2.2.2.1) ?_)) ?_)
  · rintro x u' (⟨h1, rfl, rfl⟩ | ⟨k, rfl, h1, ⟨h2, rfl, rfl⟩ | ⟨h2, rfl, rfl⟩⟩)
    · exact ⟨_, g, rfl, F2.1, Or.inr (Or.inl ⟨_, rfl, F2, MH, s, t, r, q, CH, Or.inl ⟨rfl, h1⟩⟩)⟩
    · exact ⟨_, g, rfl, F2.1, Or.inr (Or.inr ⟨_, rfl, F2, MH, s, t, r, q, CH, Or.inr ⟨k, rfl, h1, Or.inl ⟨rfl, h2⟩⟩⟩)⟩
    · exact ⟨u, g, rfl, F1.1, Or.inl ⟨_, rfl, F1, hM, s, t, r, q, hC, Or.inr ⟨k, rfl, h1, Or.inr ⟨rfl, h2, rfl⟩⟩⟩⟩
  · rintro x0 u0 ⟨kz, z, v, g', L, rfl, ⟨fF, fM, fA⟩, rfl, hL, hz⟩
    have fM := fM.sL hL
    have fF : FP h (n + 1) (sL v L) := fF
    refine ⟨kz, z, sL v L, g', rfl, rfl, fM.1.1, fF.2.1, Ec.deep (show 1 ≤ 70 by decide) (Ec.imp (c145 (d := 0) fM.1 fM.2.2.2.1.2.2.2.2.2.1 fM.2.2.2.1.2.2.2.2.2.2.1 fM.2.2.2.1.2.2.2.2.2.2.2.1 (teS_ch hT fM.2.2.2.1.2.2.1) fM.2.2.2.2.1) ?_)⟩
    rintro x1 u1 hx
    obtain ⟨s, t, r, q, cv, hA⟩ := fA
    rcases hx with ⟨h1, rfl, rfl⟩ | ⟨k, rfl, h1, ⟨h2, rfl, rfl⟩ | ⟨h2, rfl, rfl⟩⟩
    · rcases hA with ⟨rfl, -⟩ | ⟨k, rfl, h2, -⟩
      · exact ⟨0, _, _, rfl, rfl, u2_at, fun hh => absurd hh (by decide), s, t, r, q, _, _, _, _, _, _, _, _, _, (CVs.md (u := sL v L) cv (fun a ha => by rw [u2_ne (by omega), u2_ne (by omega)])), (fM.fl).fl, fF, by omega, by omega⟩
      · exact absurd ⟨by omega, by omega⟩ h1
    · rcases hA with ⟨rfl, h3⟩ | ⟨k2, h3, h4, hA⟩
      · exact absurd ⟨by omega, by omega⟩ h3
      · have hkk : k2 = k := by omega
        subst hkk
        rcases hA with ⟨rfl, -⟩ | ⟨rfl, h5, -⟩
        · exact ⟨0, _, _, rfl, rfl, u2_at, fun hh => absurd hh (by decide), s, t, r, q, _, _, _, _, _, _, _, _, _, (CVs.md (u := sL v L) cv (fun a ha => by rw [u2_ne (by omega), u2_ne (by omega)])), (fM.fl).fl, fF, by omega, by omega⟩
        · exact absurd (by rw [h2]; rfl) h5
    · rcases hA with ⟨rfl, h3⟩ | ⟨k2, h3, h4, hA⟩
      · exact absurd ⟨by omega, by omega⟩ h3
      · have hkk : k2 = k := by omega
        subst hkk
        rcases hA with ⟨rfl, h5⟩ | ⟨rfl, h5, rfl⟩
        · exact absurd (List.eq_nil_of_length_eq_zero h5) h2
        · exact ⟨_, _, _, rfl, rfl, u2_at, fun _ => ⟨rfl, hz rfl⟩, s, t, r, q, _, _, _, _, _, _, _, _, _, (CVs.md (u := sL v L) cv (fun a ha => u2_ne (by omega))), fM.fl, fF, by omega, by omega⟩
theorem st11 {P : Pg} {h n : Nat} {u : Mm} {g : Nat → Nat → Int} {a b : Int} (hn : n < 600) (H : LI h n u g) : Ec P 70 160 [vR h, vI a, vI b, vR (h + 753)] (sI u g) (HQ P h n 146 [vI a, vI b] lB) := by
  obtain ⟨s, t, r, q, W, kd, nm, rp, en, sz, c, K, X, hC, hM, hF, b1, b2⟩ := H
  obtain ⟨ht, hT⟩ := hC.ht
  have hF3 := hF.2.2.1
  have F1 := hF.up Up.refl
  have F2 := hF.hole Up.refl
  have MH := hM.hole hF3
  have CH := hC.hole hF3
  refine Ec.deep (show 3 ≤ 70 by decide) (Ec.imp (h160 (d := 2) (o := h + 753) (A := fun kz z v g' => FP h (n + 1) v ∧ MP h v g' W kd nm rp en sz c K X ∧ ∃ s t r q, CVs v g' h s t r q W kd nm rp en sz c K X ∧ ((kz = 1 ∧ ¬ ((0 ≤ a ∧ a < 6) ∧ (0 ≤ b ∧ b < 6))) ∨ (kz = 0 ∧ ((0 ≤ a ∧ a < 6) ∧ (0 ≤ b ∧ b < 6)) ∧ z = (if shp c.1.1 a b = true then 1 else 0)))) hC.1.1 (Ec.imp (c19 (d := 0) hC.1 hC.2.2.2.1.1) ?_)) ?_)
  · rintro x u' (⟨h1, rfl, rfl⟩ | ⟨h1, rfl, rfl⟩)
    · exact ⟨_, g, rfl, F2.1, Or.inr ⟨_, rfl, F2, MH, s, t, r, q, CH, Or.inl ⟨rfl, h1⟩⟩⟩
    · exact ⟨u, g, rfl, F1.1, Or.inl ⟨_, rfl, F1, hM, s, t, r, q, hC, Or.inr ⟨rfl, h1, rfl⟩⟩⟩
  · rintro x0 u0 ⟨kz, z, v, g', L, rfl, ⟨fF, fM, fA⟩, rfl, hL, hz⟩
    have fM := fM.sL hL
    have fF : FP h (n + 1) (sL v L) := fF
    refine ⟨kz, z, sL v L, g', rfl, rfl, fM.1.1, fF.2.1, Ec.deep (show 1 ≤ 70 by decide) (Ec.imp (c146 (d := 0) fM.1 fM.2.2.2.1) ?_)⟩
    rintro x1 u1 hx
    obtain ⟨s, t, r, q, cv, hA⟩ := fA
    rcases hx with ⟨h1, rfl, rfl⟩ | ⟨h1, rfl, rfl⟩
    · rcases hA with ⟨rfl, -⟩ | ⟨rfl, h2, -⟩
      · exact ⟨0, _, _, rfl, rfl, u2_at, fun hh => absurd hh (by decide), s, t, r, q, _, _, _, _, _, _, _, _, _, (CVs.md (u := sL v L) cv (fun a ha => by rw [u2_ne (by omega), u2_ne (by omega)])), (fM.fl).fl, fF, by omega, by omega⟩
      · exfalso; first | exact h1 h2 | omega
    · rcases hA with ⟨rfl, h2⟩ | ⟨rfl, -, rfl⟩
      · exfalso; first | exact h2 h1 | omega
      · exact ⟨_, _, _, rfl, rfl, u2_at, fun _ => ⟨(by unfold b01; cases shp c.1.1 a b <;> rfl), hz rfl⟩, s, t, r, q, _, _, _, _, _, _, _, _, _, (CVs.md (u := sL v L) cv (fun a ha => u2_ne (by omega))), fM.fl, fF, by omega, by omega⟩
theorem st12 {P : Pg} {h n : Nat} {u : Mm} {g : Nat → Nat → Int} {a b e : Int} (hn : n < 600) (hp : pSv P < h) (H : LI h n u g) : Ec P 70 161 [vR h, vI a, vI b, vI e, vR (h + 753)] (sI u g) (HQ P h n 148 [vI a, vI b, vI e] lI) := by
  obtain ⟨s, t, r, q, W, kd, nm, rp, en, sz, c, K, X, hC, hM, hF, b1, b2⟩ := H
  obtain ⟨ht, hT⟩ := hC.ht
  have hF3 := hF.2.2.1
  have F1 := hF.up Up.refl
  have F2 := hF.hole Up.refl
  have MH := hM.hole hF3
  have CH := hC.hole hF3
  refine Ec.deep (show 52 ≤ 70 by decide) (Ec.imp (h161 (d := 51) (o := h + 753) (A := fun kz z v g' => FP h (n + 1) v ∧ MP h v g' W kd nm rp en sz c K X ∧ ∃ s t r q X', CVs v g' h s t r q W kd nm rp en sz c K X' ∧ ((kz = 1 ∧ X' = X ∧ ¬ ((1 ≤ a ∧ a ≤ 30) ∧ (0 ≤ b ∧ b < 6) ∧ (0 ≤ e ∧ e < 6))) ∨ (∃ k : Nat, a = (k : Int) ∧ 1 ≤ k ∧ k ≤ 30 ∧ ((0 ≤ b ∧ b < 6) ∧ (0 ≤ e ∧ e < 6)) ∧ kz = 0 ∧ X' = exF kd nm rp en k c.1 b e ∧ z = ((exF kd nm rp en k c.1 b e).1 : Int)))) hC.1.1 (Ec.imp (c21 hC (hF.2.1 _ hp) (by omega)) ?_)) ?_)
  · rintro x u' ⟨g', hO, hx⟩
    have M1 := hM.cl Up.refl hO
    have M2 := M1.hole hF3
    rcases hx with ⟨h1, rfl, rfl, cv⟩ | ⟨k, rfl, h1, h2, h3, rfl, rfl, cv⟩
    · exact ⟨_, g', rfl, F2.1, Or.inr ⟨_, rfl, F2, M2, s, t, r, q, X, cv.hole hF3, Or.inl ⟨rfl, rfl, h1⟩⟩⟩
    · exact ⟨u, g', rfl, F1.1, Or.inl ⟨_, rfl, F1, M1, s, t, r, q, _, cv, Or.inr ⟨k, rfl, h1, h2, h3, rfl, rfl, rfl⟩⟩⟩
  · rintro x0 u0 ⟨kz, z, v, g', L, rfl, ⟨fF, fM, fA⟩, rfl, hL, hz⟩
    have fM := fM.sL hL
    have fF : FP h (n + 1) (sL v L) := fF
    refine ⟨kz, z, sL v L, g', rfl, rfl, fM.1.1, fF.2.1, Ec.deep (show 8 ≤ 70 by decide) (Ec.imp (c148 (d := 0) fM.1 hT fM.2.2.2.1 (by omega) (by omega)) ?_)⟩
    rintro x1 u1 hx
    obtain ⟨s, t, r, q, X', cv, hA⟩ := fA
    rcases hx with ⟨h1, rfl, rfl⟩ | ⟨k, rfl, h1, h2, h3, L2, g2, rfl, rfl, l1, xf, hMc, e0, hXr⟩
    · rcases hA with ⟨rfl, rfl, -⟩ | ⟨k, rfl, h2, h3, h4, -⟩
      · exact ⟨0, _, _, rfl, rfl, u2_at, fun hh => absurd hh (by decide), s, t, r, q, _, _, _, _, _, _, _, _, _, (CVs.md (u := sL v L) cv (fun a ha => by rw [u2_ne (by omega), u2_ne (by omega)])), (fM.fl).fl, fF, by omega, by omega⟩
      · exact absurd ⟨⟨by omega, by omega⟩, h4⟩ h1
    · rcases hA with ⟨rfl, rfl, h4⟩ | ⟨k2, h4, h5, h6, h7, rfl, rfl, rfl⟩
      · exact absurd ⟨⟨by omega, by omega⟩, h3⟩ h4
      · have hkk : k2 = k := by omega
        subst hkk
        have hxa : ∀ a, (a < h + 710 + 12 ∨ h + 710 + 34 < a) → a < h + 710 + 37 → a ≠ h + 710 → g2 a = g' a := fun a h1 h2 h3 => xf.1 a ⟨h3, by omega, by omega, by omega, by omega⟩ (by omega) (by omega) (by omega)
        refine ⟨_, _, _, rfl, rfl, e0, fun _ => ⟨rfl, ?_⟩, s, t, r, q, _, _, _, _, _, _, _, _, _, (CVs.md (u := sL (sL v L) L2) cv (fun a ha => hxa a (by omega) (by omega) (by omega))), ?_, fF, by omega, by omega⟩
        · show L2 (h + 753) 0 = _
          rw [l1 _ (by omega)]
          exact hz rfl
        · obtain ⟨m1, m2, m3, m4, m5, m6⟩ := fM
          exact ⟨m1, by rw [xf.2 2 (by unfold XFf; omega)]; exact m2, by rw [hxa _ (by omega) (by omega) (by omega)]; exact m3, hMc, m5.of (hxa _ (by omega) (by omega) (by omega)) (l1 _ (by omega)), hXr⟩
theorem st13 {P : Pg} {h n : Nat} {u : Mm} {g : Nat → Nat → Int} {a : Int} (hn : n < 600) (H : LI h n u g) : Ec P 70 162 [vR h, vI a, vR (h + 753)] (sI u g) (HQ P h n 150 [vI a] lI) := by
  obtain ⟨s, t, r, q, W, kd, nm, rp, en, sz, c, K, X, hC, hM, hF, b1, b2⟩ := H
  obtain ⟨ht, hT⟩ := hC.ht
  have hF3 := hF.2.2.1
  have F1 := hF.up Up.refl
  have F2 := hF.hole Up.refl
  have MH := hM.hole hF3
  have CH := hC.hole hF3
  refine Ec.deep (show 2 ≤ 70 by decide) (Ec.imp (h162 (d := 1) (o := h + 753) (A := fun kz z v g' => FP h (n + 1) v ∧ MP h v g' W kd nm rp en sz c K X ∧ ∃ s t r q, CVs v g' h s t r q W kd nm rp en sz c K X ∧ ((kz = 1 ∧ ¬ (0 ≤ a ∧ a ≤ 4)) ∨ (kz = 0 ∧ (0 ≤ a ∧ a ≤ 4) ∧ z = (if a = 0 then (X.1 : Int) else if a = 1 then X.2.1 else if a = 2 then X.2.2.1 else if a = 3 then X.2.2.2.1 else X.2.2.2.2)))) hC.1.1 (Ec.imp (c22 (d := 0) hC.1 hC.2.2.2.2.2.2) ?_)) ?_)
  · rintro x u' (⟨h1, rfl, rfl⟩ | ⟨h1, rfl, rfl⟩)
    · exact ⟨_, g, rfl, F2.1, Or.inr ⟨_, rfl, F2, MH, s, t, r, q, CH, Or.inl ⟨rfl, h1⟩⟩⟩
    · exact ⟨u, g, rfl, F1.1, Or.inl ⟨_, rfl, F1, hM, s, t, r, q, hC, Or.inr ⟨rfl, h1, rfl⟩⟩⟩
  · rintro x0 u0 ⟨kz, z, v, g', L, rfl, ⟨fF, fM, fA⟩, rfl, hL, hz⟩
    have fM := fM.sL hL
    have fF : FP h (n + 1) (sL v L) := fF
    refine ⟨kz, z, sL v L, g', rfl, rfl, fM.1.1, fF.2.1, Ec.deep (show 1 ≤ 70 by decide) (Ec.imp (c150 (d := 0) fM.1 fM.2.2.2.2.2) ?_)⟩
    rintro x1 u1 hx
    obtain ⟨s, t, r, q, cv, hA⟩ := fA
    rcases hx with ⟨h1, rfl, rfl⟩ | ⟨h1, rfl, rfl⟩
    · rcases hA with ⟨rfl, -⟩ | ⟨rfl, h2, -⟩
      · exact ⟨0, _, _, rfl, rfl, u2_at, fun hh => absurd hh (by decide), s, t, r, q, _, _, _, _, _, _, _, _, _, (CVs.md (u := sL v L) cv (fun a ha => by rw [u2_ne (by omega), u2_ne (by omega)])), (fM.fl).fl, fF, by omega, by omega⟩
      · exfalso; first | exact h1 h2 | omega
    · rcases hA with ⟨rfl, h2⟩ | ⟨rfl, -, rfl⟩
      · exfalso; first | exact h2 h1 | omega
      · exact ⟨_, _, _, rfl, rfl, u2_at, fun _ => ⟨rfl, hz rfl⟩, s, t, r, q, _, _, _, _, _, _, _, _, _, (CVs.md (u := sL v L) cv (fun a ha => u2_ne (by omega))), fM.fl, fF, by omega, by omega⟩
theorem st1 {P : Pg} {h n : Nat} {u : Mm} {g : Nat → Nat → Int} (hn : n < 600) (H : LI h n u g) : Ec P 70 1 [vR h] (sI u g) (fun x u' => ∃ z v g', x = .inl (some (vI z)) ∧ u' = sI v g' ∧ mS v (h + 710) = some (100 + 8, 67) ∧ Ec P 70 95 [vR (h + 710)] (sI v g') (fun x u' => ∃ v g', x = .inl (some (vI z)) ∧ u' = sI v g' ∧ LI h (n + 1) v g')) := by
  obtain ⟨s, t, r, q, W, kd, nm, rp, en, sz, c, K, X, hC, hM, hF, b1, b2⟩ := H
  obtain ⟨ht, hT⟩ := hC.ht
  have hF3 := hF.2.2.1
  have F1 := hF.up Up.refl
  have F2 := hF.hole Up.refl
  have MH := hM.hole hF3
  have CH := hC.hole hF3
  refine Ec.imp (c1 hC.1 hC.2.1) ?_
  rintro x u' ⟨rfl, rfl⟩
  refine ⟨_, u, _, rfl, rfl, hM.1.1, ?_⟩
  refine Ec.imp (c95 hM.1) ?_
  rintro x u' ⟨rfl, rfl⟩
  refine ⟨u, _, by rw [u2_ne (by omega), hM.2.1], rfl, s, t, r, q, [], kd, nm, rp, en, sz, c, K, X, ?_, ?_, F1, by omega, by omega⟩
  · have : CVs u (u2 g h 1 0) h s t r q [] kd nm rp en sz c K X := by
      obtain ⟨a1, a2, a3, a4, a5, a6, a7⟩ := hC
      have hs : (s = h + 13 ∨ s = h + 34) ∧ (r = h + 55 ∨ r = h + 60) := by
        obtain ⟨-, -, -, -, -, -, -, -, -, -, -, -, -, -, -, -, -, -, -, -, e1, e2⟩ := a1
        omega
      exact ⟨a1, ⟨u2_at, (fun i c hc => by cases hc), by decide, fun c hc => absurd hc (List.not_mem_nil)⟩, a3.of (fun a h1 h2 => u2_ne (by omega)), a4.of (fun a h1 h2 => u2_ne (by omega)), a5.of (u2_ni (by decide)) (fun a h1 h2 => u2_ne (by omega)), a6.of (fun a h1 h2 => u2_ne (by omega)), a7.of (u2_ne (by omega)) (u2_ne (by omega))⟩
    exact this.md (fun a ha => by rw [u2_ne (by omega), u2_ne (by omega)])
  · have M1 : MP h u (u2 g h 1 0) W kd nm rp en sz c K X := hM.cl Up.refl (fun a ha => u2_ne (by omega))
    obtain ⟨m1, m2, m3, m4, m5, m6⟩ := M1
    refine ⟨m1, u2_at, (fun i c hc => by cases hc), m4.same (fun j hj => by rw [u2_ne (by omega), u2_ne (by omega)]) (fun f hf => by rw [u2_ni (by omega), u2_ni (by omega)]), m5.of (by rw [u2_ne (by omega), u2_ne (by omega)]) rfl, m6.of (fun f h1 h2 => by rw [u2_ni (by omega), u2_ni (by omega)])⟩
theorem st3 {P : Pg} {h n : Nat} {u : Mm} {g : Nat → Nat → Int} (hn : n < 600) (H : LI h n u g) : Ec P 70 2 [vR h] (sI u g) (fun x u' => ∃ z v g', x = .inl (some (vI z)) ∧ u' = sI v g' ∧ mS v (h + 710) = some (100 + 8, 67) ∧ Ec P 70 130 [vR (h + 710)] (sI v g') (fun x u' => ∃ v g', x = .inl (some (vI z)) ∧ u' = sI v g' ∧ LI h (n + 1) v g')) := by
  obtain ⟨s, t, r, q, W, kd, nm, rp, en, sz, c, K, X, hC, hM, hF, b1, b2⟩ := H
  obtain ⟨ht, hT⟩ := hC.ht
  have hF3 := hF.2.2.1
  have F1 := hF.up Up.refl
  have F2 := hF.hole Up.refl
  have MH := hM.hole hF3
  have CH := hC.hole hF3
  refine Ec.imp (c2 hC.1 hC.2.2.2.2.1.1) ?_
  rintro x u' ⟨rfl, rfl⟩
  refine ⟨_, u, _, rfl, rfl, hM.1.1, ?_⟩
  refine Ec.imp (c130 hM.1 hT hM.2.2.2.1 (by omega)) ?_
  rintro x u' ⟨rfl, rfl⟩
  exact ⟨u, _, rfl, rfl, s, t, r, q, W, kd, nm, rp, en, sz, c, K, X, hC.md (fun a ha => u2_ne (by omega)), hM.fl, F1, by omega, by omega⟩
