/-! The model: going over states. Written by wip/whole/gen/c9p.py. -/
def XFf (f : Nat) : Prop := f ≠ 0 ∧ f ≠ 28 ∧ f ≠ 30 ∧ f ≠ 34 ∧ f ≠ 37 ∧ f ≠ 38 ∧ f ≠ 39 ∧ f ≠ 48 ∧ f ≠ 49 ∧ f ≠ 52 ∧ f ≠ 53 ∧ f ≠ 54 ∧ f ≠ 55 ∧ f ≠ 56 ∧ f ≠ 57 ∧ f ≠ 58 ∧ f ≠ 65 ∧ f ≠ 66
def XFa (m a : Nat) : Prop := a ≠ m ∧ (a < m + 12 ∨ m + 21 < a) ∧ (a < m + 25 ∨ m + 34 < a) ∧ a ≠ m + 41 ∧ a ≠ m + 42
/-- what exploring leaves as it was -/
def XF (g g' : Nat → Nat → Int) (m : Nat) : Prop := (∀ a, XFa m a → a ≠ m + 37 → a ≠ m + 38 → a ≠ m + 40 → g' a = g a) ∧ ∀ f, XFf f → g' m f = g m f
def XMv (g g' : Nat → Nat → Int) (m : Nat) : Prop := (∀ a, XFa m a → g' a = g a) ∧ ∀ f, f ≠ 28 → f ≠ 30 → f ≠ 34 → f ≠ 37 → f ≠ 38 → f ≠ 39 → f ≠ 48 → f ≠ 49 → f ≠ 65 → f ≠ 66 → g' m f = g m f
def XI (u : Mm) (g : Nat → Nat → Int) (Lg : Nat → Nat → Int64) (g1 : Nat → Nat → Int) (m : Nat) (L : List XS) (a : Nat) (st x y : Int) : Prop := XF g g1 m ∧ SvR g m (g1 (m + 37)) 9420 ∧ (∀ q, q ≠ m + 39 → Lg q = mL u q) ∧ MX (sL u Lg) g1 m L ∧ g1 m 53 = (a : Int) ∧ g1 m 54 = st ∧ g1 m 55 = nrF x y L ∧ g1 m 56 = lsD L ∧ g1 m 57 = 1 ∧ g1 m 0 = 0
theorem MX.off {u : Mm} {g g' : Nat → Nat → Int} {m : Nat} {L : List XS} (h : MX u g m L) (h0 : g' m 52 = g m 52) (h1 : g' (m + 37) = g (m + 37)) (h2 : g' (m + 38) = g (m + 38)) (h3 : g' (m + 40) = g (m + 40)) : MX u g' m L := by
  unfold MX
  rw [h0, h1, h2, h3]
  exact h
theorem XI.mv {u : Mm} {g g1 g2 : Nat → Nat → Int} {Lg : Nat → Nat → Int64} {m a : Nat} {L : List XS} {st x y : Int} (h : XI u g Lg g1 m L a st x y) (k : XMv g1 g2 m) : XI u g Lg g2 m L a st x y := by
  obtain ⟨⟨a1, a2⟩, b, c, d, e1, e2, e3, e4, e5, e6⟩ := h
  obtain ⟨k1, k2⟩ := k
  have e37 := k1 (m + 37) ⟨by omega, by omega, by omega, by omega, by omega⟩
  have e38 := k1 (m + 38) ⟨by omega, by omega, by omega, by omega, by omega⟩
  have e40 := k1 (m + 40) ⟨by omega, by omega, by omega, by omega, by omega⟩
  have f : ∀ f, (51 < f ∧ f < 65) ∨ f = 0 → g2 m f = g1 m f := fun f hf => k2 f (by omega) (by omega) (by omega) (by omega) (by omega) (by omega) (by omega) (by omega) (by omega) (by omega)
  refine ⟨⟨fun q h1 h2 h3 h4 => (k1 q h1).trans (a1 q h1 h2 h3 h4), fun q hq => ?_⟩, by rw [e37]; exact b, c, d.off (f 52 (by omega)) e37 e38 e40, by rw [f _ (by omega)]; exact e1, by rw [f _ (by omega)]; exact e2, by rw [f _ (by omega)]; exact e3, by rw [f _ (by omega)]; exact e4, by rw [f _ (by omega)]; exact e5, by rw [f _ (by omega)]; exact e6⟩
  have hq2 := hq
  unfold XFf at hq2
  rw [k2 q (by omega) (by omega) (by omega) (by omega) (by omega) (by omega) (by omega) (by omega) (by omega) (by omega)]
  exact a2 q hq
theorem XMv.mk {g g' : Nat → Nat → Int} {m : Nat} (h : MkF g g' m) : XMv g g' m := ⟨fun a ⟨h1, h2, h3, h4, h5⟩ => h.1 a h1 h2 h3 h4 h5, fun f h1 h2 h3 h4 h5 h6 h7 h8 _ _ => h.2 f h1 h2 h3 h4 h5 h6 h7 h8⟩
theorem XMv.ld {g g' : Nat → Nat → Int} {m : Nat} (h1 : ∀ a, a ≠ m → (a < m + 12 ∨ m + 21 < a) → g' a = g a) (h2 : ∀ f, f ≠ 28 → f ≠ 30 → g' m f = g m f) : XMv g g' m := ⟨fun a ⟨a1, a2, _, _, _⟩ => h1 a a1 a2, fun f a1 a2 _ _ _ _ _ _ _ _ => h2 f a1 a2⟩
theorem XMv.rd {g : Nat → Nat → Int} {m : Nat} {a b : Int} : XMv g (u2 (u2 g m 65 a) m 66 b) m := ⟨fun q ⟨a1, _⟩ => by rw [u2_ne a1, u2_ne a1], fun f _ _ _ _ _ _ _ _ h1 h2 => by rw [u2_ni h2, u2_ni h1]⟩
theorem XMv.refl {g : Nat → Nat → Int} {m : Nat} : XMv g g m := ⟨fun _ _ => rfl, fun _ _ _ _ _ _ _ _ _ _ _ => rfl⟩
theorem Cam.rg {g : Nat → Nat → Int} {m : Nat} {R : List Rd} {D : List Int} {st : Int} (h : Cam g m R D) (hl : D.length = R.length) (hr : ∀ x, x ∈ D → 0 ≤ x ∧ x ≤ st) (h0 : 0 ≤ st) : ∀ kk oo, kk < 40 → 1 ≤ oo → oo < 51 → -1 ≤ g (m + 22) (51 * kk + oo) ∧ g (m + 22) (51 * kk + oo) ≤ st := by
  intro kk oo h1 h2 h3
  obtain ⟨a, b⟩ := h kk oo h1 h2 h3
  by_cases hw : ∃ w, w ∈ R ∧ w.2 = (g (m + 15) kk, oNum g m oo)
  · obtain ⟨w, w1, w2⟩ := hw
    obtain ⟨j, hj⟩ := List.getElem?_of_mem w1
    have := hr _ (List.mem_of_getElem? (a j w hj w2))
    omega
  · have := b (fun w w1 w2 => hw ⟨w, w1, w2⟩)
    omega
theorem XI.fnd {u : Mm} {g g1 g2 : Nat → Nat → Int} {Lg Lg2 : Nat → Nat → Int64} {m a : Nat} {L : List XS} {st x y : Int} {z : XS} (h : XI u g Lg g1 m L a st x y) (hf : FnF g1 g2 m L.length) (hL : L.length < 30) (hz : ∀ w, w ∈ L → 0 ≤ w.2.2) (hl : ∀ q, q ≠ m + 39 → Lg2 q = Lg q) (hX : MX (sL u Lg2) g2 m (L ++ [z])) (h56 : g2 m 56 = z.2.2) (h55 : g2 m 55 = (if g1 m 55 < 0 ∧ shp z.1.1 x y = true then z.2.2 else g1 m 55)) : XI u g Lg2 g2 m (L ++ [z]) a st x y := by
  obtain ⟨⟨a1, a2⟩, b, c, d, e1, e2, e3, e4, e5, e6⟩ := h
  obtain ⟨f1, f2, f3⟩ := hf
  refine ⟨⟨fun q h1 h2 h3 h4 => (f1 q h1.1 h2 h3 h4).trans (a1 q h1 h2 h3 h4), fun q hq => ?_⟩, b.of (fun _ _ _ => rfl) rfl (fun j h1 h2 => f3 j (by omega)), fun q hq => (hl q hq).trans (c q hq), hX, by rw [f2 _ (by decide) (by decide) (by decide)]; exact e1, by rw [f2 _ (by decide) (by decide) (by decide)]; exact e2, ?_, by rw [ls_snoc]; exact h56, by rw [f2 _ (by decide) (by decide) (by decide)]; exact e5, by rw [f2 _ (by decide) (by decide) (by decide)]; exact e6⟩
  · have hq2 := hq
    unfold XFf at hq2
    rw [f2 q (by omega) (by omega) (by omega)]
    exact a2 q hq
  · rw [h55, e3, nr_snoc hz]
theorem XI.fr {u : Mm} {g g1 : Nat → Nat → Int} {Lg : Nat → Nat → Int64} {m a : Nat} {L : List XS} {st x y : Int} (h : XI u g Lg g1 m L a st x y) (q : Nat) (h1 : q < m ∨ m < q) (h2 : q < m + 12 ∨ m + 21 < q) (h3 : q < m + 25 ∨ m + 42 < q) : g1 q = g q := h.1.1 q ⟨by omega, h2, by omega, by omega, by omega⟩ (by omega) (by omega) (by omega)
def MXr (g : Nat → Nat → Int) (m : Nat) (X : XR) : Prop := (g m 57 = 0 ∧ X = (0, (0, (0, (-1, 0))))) ∨ (g m 57 = 1 ∧ g m 52 = (X.1 : Int) ∧ g m 58 = X.2.1 ∧ g m 54 = X.2.2.1 ∧ g m 55 = X.2.2.2.1 ∧ g m 56 = X.2.2.2.2 ∧ (X.2.1 = 0 ∨ X.2.1 = 1))
theorem c148e {P : Pg} {d : Nat} {u : Mm} {g : Nat → Nat → Int} {m : Nat} {sz : Nat} {kd nm rp en : Nat → Int} {ht : Nat → Nat} {c : RS} {lim : Nat} {x y : Int} {RES : List XS × Int} (hM : MdA u m) (hT : TmOk kd nm en sz ht) (hC : Mc g m kd nm rp en sz c) (hnx : c.1.2.2.2.1 ≤ 2147470000) (hst : c.2.2 ≤ 2147480000) (hl2 : lim ≤ 30) : ∀ (a : Nat) (st : Int) (L : List XS) (Lg : Nat → Nat → Int64) (g1 : Nat → Nat → Int) (v4 v5 : Option Vl), XI u g Lg g1 m L a st x y → L.length ≤ lim → ((a = L.length ∧ L.length < lim) ∨ (a < L.length ∧ L.length = lim)) → RES = (L, st) →
      Ef P (d + 8) 148 237 [some (vR m), some (vI (lim : Int)), some (vI x), some (vI y), v4, v5] [] (sI (sL u Lg) g1) (fun r u' => ∃ Lg g', u' = sI (sL u Lg) g' ∧ r = .inl (some (vI (RES.1.length : Int))) ∧ (∀ q, q ≠ m + 39 → Lg q = mL u q) ∧ XF g g' m ∧ Mc g' m kd nm rp en sz c ∧ g' m 0 = 0 ∧ g' m 57 = 1 ∧ g' m 52 = (RES.1.length : Int) ∧ g' m 58 = b01 (decide (RES.1.length < lim)) ∧ g' m 54 = RES.2 ∧ g' m 55 = nrF x y RES.1 ∧ g' m 56 = lsD RES.1) := by
  intro a st L Lg g1 v4 v5 hI hl hal hR
  subst hR
  have hM1 : MdA (sL u Lg) m := hM.sL
  have s0 := hM1.1
  obtain ⟨cT, cR, cV, c29, c30, c49, cW, cL, cC, cg, co, cD, cr, c0⟩ := hC
  have e53 := hI.2.2.2.2.1
  have e52 := hI.2.2.2.1.1
  refine ef_aload_n (pc := 237) d148_237 rfl ?_
  refine ef_aload_n (pc := 238) d148_238 rfl ?_
  refine eg_getI (pc := 239) d148_239 lf_8_356 (by assumption) (by decide) ?_
  rw [e53]
  refine ef_aload_n (pc := 242) d148_242 rfl ?_
  refine eg_getI (pc := 243) d148_243 lf_8_347 (by assumption) (by decide) ?_
  rw [e52]
  refine ef_icmp_ne (pc := 246) d148_246 (t := 253) rfl (fun h246 => ?_) (fun h246 => ?_)
  · have hb : b01 (decide (L.length < lim)) = 0 := by rw [decide_eq_false (by omega)]; rfl
    refine ef_iconst (pc := 253) d148_253 (by decide) ?_
    refine eg_putZ (pc := 254) d148_254 pf_148_365 (by assumption) (by decide) (by omega) ?_
    refine ef_aload_n (pc := 257) d148_257 rfl ?_
    refine ef_bipush (pc := 258) d148_258 (by decide) ?_
    refine ef_callV (pc := 260) d148_260 lm_8_331 (as := [_]) rfl rfl (by assumption) rfl rfl (by decide) (Nat.le_of_ble_eq_true rfl) rfl (Nat.le_of_ble_eq_true rfl) ?_
    refine Ec.imp (Ec.deep (Nat.zero_le _) (c139 (d := 0) (b := 9420) (k := 30) hM1 (by omega) rfl)) ?_
    rintro r260 u260 ⟨g3, rfl, rfl, sv3, e30, o3, f3⟩
    rw [u2_ne (show m + 37 ≠ m by omega)] at sv3
    have rel3 : Rel g3 m c.1 := SvR.rel cR hI.2.1 sv3
    have nums := SvR.nums hI.2.1 sv3
    have r3 : ∀ a, XFa m a → a ≠ m + 37 → a ≠ m + 38 → a ≠ m + 40 → g3 a = g a := fun q b1 b2 b3 b4 => by rw [o3 q b1.1 b1.2.1, u2_ne b1.1]; exact hI.1.1 q b1 b2 b3 b4
    have t3 : TrR g3 m kd nm rp en sz := cT.of (fun j h1 h2 => r3 _ ⟨by omega, by omega, by omega, by omega, by omega⟩ (by omega) (by omega) (by omega))
    refine ef_aload_n (pc := 263) d148_263 rfl ?_
    refine ef_callV (pc := 264) d148_264 lm_8_313 (as := []) rfl rfl (by assumption) rfl rfl (by decide) (Nat.le_of_ble_eq_true rfl) rfl (Nat.le_of_ble_eq_true rfl) ?_
    refine Ec.imp (Ec.deep (by omega) (c113 (d := d) hM1 hT t3 rel3 cV e30)) ?_
    rintro r264 u264 ⟨g4, rfl, rfl, d4, p4⟩
    have e524 : g4 m 52 = (L.length : Int) := by rw [d4.2 52 (by decide) (by decide) (by decide) (by decide) (by decide) (by decide), f3 52 (by decide) (by decide), u2_ni (by decide)]; exact e52
    refine ef_aload_n (pc := 267) d148_267 rfl ?_
    refine eg_getI (pc := 268) d148_268 lf_8_347 (by assumption) (by decide) ?_
    rw [e524]
    refine ef_iret (pc := 271) d148_271 rfl ?_
    rcases p4 with ⟨a1, a2, a3, a4⟩ | ⟨a1, -⟩
    rotate_left
    · omega
    have r4 : ∀ a, a ≠ m → (a < m + 27 ∨ m + 34 < a) → a ≠ m + 41 → a ≠ m + 42 → g4 a = g3 a := d4.1
    have on4 : ∀ x, x < 51 → oNum g4 m x = oNum g m x := fun x hx => by
      rw [← nums.2 x hx]; unfold oNum; rw [r4 _ (by omega) (by omega) (by omega) (by omega), r4 _ (by omega) (by omega) (by omega) (by omega)]
    have n4 : ∀ x, x < 40 → g4 (m + 15) x = g (m + 15) x := fun x hx => by rw [r4 _ (by omega) (by omega) (by omega) (by omega)]; exact nums.1 x hx
    have r34 : ∀ a, XFa m a → a ≠ m + 37 → a ≠ m + 38 → a ≠ m + 40 → g4 a = g a := fun q b1 b2 b3 b4 => by have b5 := b1.2.2.1; rw [r4 q b1.1 (by omega) b1.2.2.2.1 b1.2.2.2.2]; exact r3 q b1 b2 b3 b4
    have fx : ∀ f, f ≠ 28 → f ≠ 30 → f ≠ 37 → f ≠ 38 → f ≠ 39 → f ≠ 48 → f ≠ 49 → f ≠ 58 → g4 m f = g1 m f := fun f b1 b2 b3 b4 b5 b6 b7 b8 => by rw [d4.2 f b2 b3 b4 b5 b6 b7, f3 f b1 b2, u2_ni b8]
    obtain ⟨i1, i2, i3, i4, i5, i6, i7, i8, i9, i10⟩ := hI
    refine ⟨Lg, g4, rfl, rfl, i3, ⟨r34, fun f hf => ?_⟩, ?_, by rw [fx 0 (by decide) (by decide) (by decide) (by decide) (by decide) (by decide) (by decide) (by decide)]; exact i10, by rw [fx 57 (by decide) (by decide) (by decide) (by decide) (by decide) (by decide) (by decide) (by decide)]; exact i9, e524, ?_, by rw [fx 54 (by decide) (by decide) (by decide) (by decide) (by decide) (by decide) (by decide) (by decide)]; exact i6, by rw [fx 55 (by decide) (by decide) (by decide) (by decide) (by decide) (by decide) (by decide) (by decide)]; exact i7, by rw [fx 56 (by decide) (by decide) (by decide) (by decide) (by decide) (by decide) (by decide) (by decide)]; exact i8⟩
    · have hf2 := hf
      unfold XFf at hf2
      rw [fx f (by omega) (by omega) (by omega) (by omega) (by omega) (by omega) (by omega) (by omega)]
      exact i1.2 f hf
    · refine ⟨t3.of (fun j h1 h2 => r4 _ (by omega) (by omega) (by omega) (by omega)), rel3.same (fun j h1 h2 => r4 _ (by omega) (by omega) (by omega) (by omega)) (d4.2 28 (by decide) (by decide) (by decide) (by decide) (by decide) (by decide)), cV, ?_, a2, a3, a4, cL, cC.of n4 on4 ?_, fun hne x hx => ?_, fun hne x h1 h2 => ?_, cD, cr, c0⟩
      · rw [fx 29 (by decide) (by decide) (by decide) (by decide) (by decide) (by decide) (by decide) (by decide), i1.2 29 (by unfold XFf; omega)]; exact c29
      · exact r34 _ ⟨by omega, by omega, by omega, by omega, by omega⟩ (by omega) (by omega) (by omega)
      · rw [n4 x hx, r34 _ ⟨by omega, by omega, by omega, by omega, by omega⟩ (by omega) (by omega) (by omega)]; exact cg hne x hx
      · rw [on4 x h2, r34 _ ⟨by omega, by omega, by omega, by omega, by omega⟩ (by omega) (by omega) (by omega)]; exact co hne x h1 h2
    · rw [d4.2 58 (by decide) (by decide) (by decide) (by decide) (by decide) (by decide), f3 58 (by decide) (by decide), u2_at]; exact hb.symm
  · have hb : b01 (decide (L.length < lim)) = 1 := by rw [decide_eq_true (by omega)]; rfl
    refine ef_iconst (pc := 249) d148_249 (by decide) ?_
    refine ef_goto (pc := 250) d148_250 (t := 254) rfl ?_
    refine eg_putZ (pc := 254) d148_254 pf_148_365 (by assumption) (by decide) (by omega) ?_
    refine ef_aload_n (pc := 257) d148_257 rfl ?_
    refine ef_bipush (pc := 258) d148_258 (by decide) ?_
    refine ef_callV (pc := 260) d148_260 lm_8_331 (as := [_]) rfl rfl (by assumption) rfl rfl (by decide) (Nat.le_of_ble_eq_true rfl) rfl (Nat.le_of_ble_eq_true rfl) ?_
    refine Ec.imp (Ec.deep (Nat.zero_le _) (c139 (d := 0) (b := 9420) (k := 30) hM1 (by omega) rfl)) ?_
    rintro r260 u260 ⟨g3, rfl, rfl, sv3, e30, o3, f3⟩
    rw [u2_ne (show m + 37 ≠ m by omega)] at sv3
    have rel3 : Rel g3 m c.1 := SvR.rel cR hI.2.1 sv3
    have nums := SvR.nums hI.2.1 sv3
    have r3 : ∀ a, XFa m a → a ≠ m + 37 → a ≠ m + 38 → a ≠ m + 40 → g3 a = g a := fun q b1 b2 b3 b4 => by rw [o3 q b1.1 b1.2.1, u2_ne b1.1]; exact hI.1.1 q b1 b2 b3 b4
    have t3 : TrR g3 m kd nm rp en sz := cT.of (fun j h1 h2 => r3 _ ⟨by omega, by omega, by omega, by omega, by omega⟩ (by omega) (by omega) (by omega))
    refine ef_aload_n (pc := 263) d148_263 rfl ?_
    refine ef_callV (pc := 264) d148_264 lm_8_313 (as := []) rfl rfl (by assumption) rfl rfl (by decide) (Nat.le_of_ble_eq_true rfl) rfl (Nat.le_of_ble_eq_true rfl) ?_
    refine Ec.imp (Ec.deep (by omega) (c113 (d := d) hM1 hT t3 rel3 cV e30)) ?_
    rintro r264 u264 ⟨g4, rfl, rfl, d4, p4⟩
    have e524 : g4 m 52 = (L.length : Int) := by rw [d4.2 52 (by decide) (by decide) (by decide) (by decide) (by decide) (by decide), f3 52 (by decide) (by decide), u2_ni (by decide)]; exact e52
    refine ef_aload_n (pc := 267) d148_267 rfl ?_
    refine eg_getI (pc := 268) d148_268 lf_8_347 (by assumption) (by decide) ?_
    rw [e524]
    refine ef_iret (pc := 271) d148_271 rfl ?_
    rcases p4 with ⟨a1, a2, a3, a4⟩ | ⟨a1, -⟩
    rotate_left
    · omega
    have r4 : ∀ a, a ≠ m → (a < m + 27 ∨ m + 34 < a) → a ≠ m + 41 → a ≠ m + 42 → g4 a = g3 a := d4.1
    have on4 : ∀ x, x < 51 → oNum g4 m x = oNum g m x := fun x hx => by
      rw [← nums.2 x hx]; unfold oNum; rw [r4 _ (by omega) (by omega) (by omega) (by omega), r4 _ (by omega) (by omega) (by omega) (by omega)]
    have n4 : ∀ x, x < 40 → g4 (m + 15) x = g (m + 15) x := fun x hx => by rw [r4 _ (by omega) (by omega) (by omega) (by omega)]; exact nums.1 x hx
    have r34 : ∀ a, XFa m a → a ≠ m + 37 → a ≠ m + 38 → a ≠ m + 40 → g4 a = g a := fun q b1 b2 b3 b4 => by have b5 := b1.2.2.1; rw [r4 q b1.1 (by omega) b1.2.2.2.1 b1.2.2.2.2]; exact r3 q b1 b2 b3 b4
    have fx : ∀ f, f ≠ 28 → f ≠ 30 → f ≠ 37 → f ≠ 38 → f ≠ 39 → f ≠ 48 → f ≠ 49 → f ≠ 58 → g4 m f = g1 m f := fun f b1 b2 b3 b4 b5 b6 b7 b8 => by rw [d4.2 f b2 b3 b4 b5 b6 b7, f3 f b1 b2, u2_ni b8]
    obtain ⟨i1, i2, i3, i4, i5, i6, i7, i8, i9, i10⟩ := hI
    refine ⟨Lg, g4, rfl, rfl, i3, ⟨r34, fun f hf => ?_⟩, ?_, by rw [fx 0 (by decide) (by decide) (by decide) (by decide) (by decide) (by decide) (by decide) (by decide)]; exact i10, by rw [fx 57 (by decide) (by decide) (by decide) (by decide) (by decide) (by decide) (by decide) (by decide)]; exact i9, e524, ?_, by rw [fx 54 (by decide) (by decide) (by decide) (by decide) (by decide) (by decide) (by decide) (by decide)]; exact i6, by rw [fx 55 (by decide) (by decide) (by decide) (by decide) (by decide) (by decide) (by decide) (by decide)]; exact i7, by rw [fx 56 (by decide) (by decide) (by decide) (by decide) (by decide) (by decide) (by decide) (by decide)]; exact i8⟩
    · have hf2 := hf
      unfold XFf at hf2
      rw [fx f (by omega) (by omega) (by omega) (by omega) (by omega) (by omega) (by omega) (by omega)]
      exact i1.2 f hf
    · refine ⟨t3.of (fun j h1 h2 => r4 _ (by omega) (by omega) (by omega) (by omega)), rel3.same (fun j h1 h2 => r4 _ (by omega) (by omega) (by omega) (by omega)) (d4.2 28 (by decide) (by decide) (by decide) (by decide) (by decide) (by decide)), cV, ?_, a2, a3, a4, cL, cC.of n4 on4 ?_, fun hne x hx => ?_, fun hne x h1 h2 => ?_, cD, cr, c0⟩
      · rw [fx 29 (by decide) (by decide) (by decide) (by decide) (by decide) (by decide) (by decide) (by decide), i1.2 29 (by unfold XFf; omega)]; exact c29
      · exact r34 _ ⟨by omega, by omega, by omega, by omega, by omega⟩ (by omega) (by omega) (by omega)
      · rw [n4 x hx, r34 _ ⟨by omega, by omega, by omega, by omega, by omega⟩ (by omega) (by omega) (by omega)]; exact cg hne x hx
      · rw [on4 x h2, r34 _ ⟨by omega, by omega, by omega, by omega, by omega⟩ (by omega) (by omega) (by omega)]; exact co hne x h1 h2
    · rw [d4.2 58 (by decide) (by decide) (by decide) (by decide) (by decide) (by decide), f3 58 (by decide) (by decide), u2_at]; exact hb.symm
theorem xo_full {kd nm rp en : Nat → Int} {lim : Nat} : ∀ {f a : Nat} {st : Int} {L : List XS}, lim ≤ L.length → xOut kd nm rp en lim f a st L = (L, st) := by
  intro f a st L h
  cases f with
  | zero => rfl
  | succ f => rw [xOut, if_pos h]
theorem c148i {P : Pg} {d : Nat} {u : Mm} {g : Nat → Nat → Int} {m : Nat} {sz : Nat} {kd nm rp en : Nat → Int} {ht : Nat → Nat} {c : RS} {lim : Nat} {x y : Int} {RES : List XS × Int} (hM : MdA u m) (hT : TmOk kd nm en sz ht) (hC : Mc g m kd nm rp en sz c) (hnx : c.1.2.2.2.1 ≤ 2147470000) (hst : c.2.2 ≤ 2147480000) (hl1 : 1 ≤ lim) (hl2 : lim ≤ 30) : ∀ (f a : Nat) (st : Int) (L : List XS) (Lg : Nat → Nat → Int64) (g1 : Nat → Nat → Int) (v4 v5 : Option Vl), 30 ≤ a + f → XI u g Lg g1 m L a st x y → XOk kd nm rp en sz c.1.2.2.2.1 L → L.length ≤ lim → a ≤ L.length → (L.length = lim → a < L.length) → 0 ≤ st → st ≤ (a : Int) → xOut kd nm rp en lim f a st L = RES →
      Ef P (d + 8) 148 77 [some (vR m), some (vI (lim : Int)), some (vI x), some (vI y), v4, v5] [] (sI (sL u Lg) g1) (fun r u' => ∃ Lg g', u' = sI (sL u Lg) g' ∧ r = .inl (some (vI (RES.1.length : Int))) ∧ (∀ q, q ≠ m + 39 → Lg q = mL u q) ∧ XF g g' m ∧ Mc g' m kd nm rp en sz c ∧ g' m 0 = 0 ∧ g' m 57 = 1 ∧ g' m 52 = (RES.1.length : Int) ∧ g' m 58 = b01 (decide (RES.1.length < lim)) ∧ g' m 54 = RES.2 ∧ g' m 55 = nrF x y RES.1 ∧ g' m 56 = lsD RES.1) := by
  have hC2 := hC
  obtain ⟨cT, cR, cV, c29, c30, c49, cW, cL, cC, cg, co, cD, cr, c0⟩ := hC2
  have hcr := cC.rg cD cr c0
  intro f
  induction f with
  | zero => intro a st L Lg g1 v4 v5 h1 _ _ h2 h3 h4; exfalso; omega
  | succ f ih =>
    intro a st L Lg g1 v4 v5 hf hI hX hl hal hlm hs0 hs1 hR
    have e53 := hI.2.2.2.2.1
    have e52 := hI.2.2.2.1.1
    have hM1 : MdA (sL u Lg) m := hM.sL
    have s0 := hM1.1
    rw [xOut] at hR
    refine ef_aload_n (pc := 77) d148_77 rfl ?_
    refine eg_getI (pc := 78) d148_78 lf_8_356 (by assumption) (by decide) ?_
    rw [e53]
    refine ef_aload_n (pc := 81) d148_81 rfl ?_
    refine eg_getI (pc := 82) d148_82 lf_8_347 (by assumption) (by decide) ?_
    rw [e52]
    refine ef_icmp_ge (pc := 85) d148_85 (t := 237) rfl (fun h85 => ?_) (fun h85 => ?_)
    · have hR : (L, st) = RES := by
        rw [← hR]
        split
        · rfl
        · rw [List.getElem?_eq_none (by omega)]
      have hlt2 : L.length < lim := by
        by_cases hq : L.length = lim
        · have := hlm hq; omega
        · omega
      exact c148e hM hT hC hnx hst hl2 a st L Lg g1 _ _ hI hl (Or.inl ⟨by omega, hlt2⟩) hR.symm
    · have hlt : a < L.length := by omega
      refine ef_aload_n (pc := 88) d148_88 rfl ?_
      refine eg_getI (pc := 89) d148_89 lf_8_347 (by assumption) (by decide) ?_
      rw [e52]
      refine ef_iload_n (pc := 92) d148_92 rfl ?_
      refine ef_icmp_ge (pc := 93) d148_93 (t := 237) rfl (fun h93 => ?_) (fun h93 => ?_)
      · rw [if_pos (by omega)] at hR
        exact c148e hM hT hC hnx hst hl2 a st L Lg g1 _ _ hI hl (Or.inr ⟨hlt, by omega⟩) hR.symm
      · obtain ⟨z, hz, -⟩ := get_of_lt hlt
        rw [if_neg (by omega), hz] at hR
        simp only at hR
        obtain ⟨vz, tz, lz, dz0, dz1, nz⟩ := hX a z hz
        have hRl := rxS_len vz
        generalize hL' : xIn kd nm rp en lim z.1 z.2.2 (rxS kd z.1) L = L' at hR
        have inner : ∀ st', 0 ≤ st' → st' ≤ (a : Int) + 1 → xOut kd nm rp en lim f (a + 1) st' L' = RES → ∀ k, k ≤ (rxS kd z.1).length → ∀ (M : List XS) (Lg : Nat → Nat → Int64) (g2 : Nat → Nat → Int) (bm : Int), XI u g Lg g2 m M a st' x y → XOk kd nm rp en sz c.1.2.2.2.1 M → M.length ≤ lim → M[a]? = some z → Rel g2 m z.1 → g2 m 30 = 0 → ((bm = 1 ∧ ∃ w kk oo, (rxS kd z.1)[k]? = some w ∧ Sl g2 m w kk oo ∧ g2 m 65 = ((kk : Nat) : Int) ∧ g2 m 66 = ((oo : Nat) : Int)) ∨ (bm = 0 ∧ (rxS kd z.1).length ≤ k)) → xIn kd nm rp en lim z.1 z.2.2 ((rxS kd z.1).drop k) M = L' →
            Ef P (d + 8) 148 141 [some (vR m), some (vI (lim : Int)), some (vI x), some (vI y), some (vI (k : Int)), some (vI bm)] [] (sI (sL u Lg) g2) (fun r u' => ∃ Lg g', u' = sI (sL u Lg) g' ∧ r = .inl (some (vI (RES.1.length : Int))) ∧ (∀ q, q ≠ m + 39 → Lg q = mL u q) ∧ XF g g' m ∧ Mc g' m kd nm rp en sz c ∧ g' m 0 = 0 ∧ g' m 57 = 1 ∧ g' m 52 = (RES.1.length : Int) ∧ g' m 58 = b01 (decide (RES.1.length < lim)) ∧ g' m 54 = RES.2 ∧ g' m 55 = nrF x y RES.1 ∧ g' m 56 = lsD RES.1) := by
          intro st' hs0' hs1' hR'
          refine nat_loop (rxS kd z.1).length ?_
          intro k hk ihk M Lg g2 bm hJ hXM hm haz hrel h30 hmore hIn
          have e53 := hJ.2.2.2.2.1
          have e52 := hJ.2.2.2.1.1
          have hM1 : MdA (sL u Lg) m := hM.sL
          have s0 := hM1.1
          have f62 : mF (sL u Lg) m 62 = some (m + 40) := (hM1.2 39 (by decide)).1
          have s62 : mS (sL u Lg) (m + 40) = some (0, 31) := (hM1.2 39 (by decide)).2
          have ham := (List.getElem?_eq_some_iff.mp haz).1
          -- the loop's end
          have stop : M = L' → ∀ v4 v5 : Option Vl, Ef P (d + 8) 148 212 [some (vR m), some (vI (lim : Int)), some (vI x), some (vI y), v4, v5] [] (sI (sL u Lg) g2) (fun r u' => ∃ Lg g', u' = sI (sL u Lg) g' ∧ r = .inl (some (vI (RES.1.length : Int))) ∧ (∀ q, q ≠ m + 39 → Lg q = mL u q) ∧ XF g g' m ∧ Mc g' m kd nm rp en sz c ∧ g' m 0 = 0 ∧ g' m 57 = 1 ∧ g' m 52 = (RES.1.length : Int) ∧ g' m 58 = b01 (decide (RES.1.length < lim)) ∧ g' m 54 = RES.2 ∧ g' m 55 = nrF x y RES.1 ∧ g' m 56 = lsD RES.1) := by
            intro hML v4 v5
            subst hML
            refine ef_aload_n (pc := 212) d148_212 rfl ?_
            refine ef_dup (pc := 213) d148_213 rfl ?_
            refine eg_getI (pc := 214) d148_214 lf_8_356 (by assumption) (by decide) ?_
            rw [e53]
            refine ef_aload_n (pc := 217) d148_217 rfl ?_
            refine eg_getI (pc := 218) d148_218 lf_8_347 (by assumption) (by decide) ?_
            rw [e52]
            refine ef_iload_n (pc := 221) d148_221 rfl ?_
            refine ef_icmp_ne (pc := 222) d148_222 (t := 229) rfl (fun h222 => ?_) (fun h222 => ?_)
            · have hne : M.length < lim := by omega
              refine ef_iconst (pc := 229) d148_229 (by decide) ?_
              refine ef_iadd (pc := 230) d148_230 rfl ⟨by omega, by omega⟩ ?_
              refine eg_putI (pc := 231) d148_231 pf_148_356 (by assumption) (by decide) ?_
              refine ef_goto (pc := 234) d148_234 (t := 77) rfl ?_
              have hJ2 : XI u g Lg (u2 g2 m 53 ((a : Int) + 1)) m M (a + 1) st' x y := by
                obtain ⟨⟨a1, a2⟩, b, q3, q4, q5, q6, q7, q8, q9, q10⟩ := hJ
                refine ⟨⟨fun q h1 h2 h3 h4 => by rw [u2_ne h1.1]; exact a1 q h1 h2 h3 h4, fun q hq => ?_⟩, by rw [u2_ne (by omega)]; exact b, q3, q4.off (by rw [u2_ni (by decide)]) (u2_ne (by omega)) (u2_ne (by omega)) (u2_ne (by omega)), by rw [u2_at]; omega, by rw [u2_ni (by decide)]; exact q6, by rw [u2_ni (by decide)]; exact q7, by rw [u2_ni (by decide)]; exact q8, by rw [u2_ni (by decide)]; exact q9, by rw [u2_ni (by decide)]; exact q10⟩
                have hq2 := hq
                unfold XFf at hq2
                rw [u2_ni (by omega)]
                exact a2 q hq
              exact ih (a + 1) st' M Lg _ _ _ (by omega) hJ2 hXM hm (by omega) (fun h => by omega) hs0' (by omega) hR'
            · have hJ2 : XI u g Lg (u2 g2 m 53 ((a : Int) + 0)) m M a st' x y := by
                obtain ⟨⟨a1, a2⟩, b, q3, q4, q5, q6, q7, q8, q9, q10⟩ := hJ
                refine ⟨⟨fun q h1 h2 h3 h4 => by rw [u2_ne h1.1]; exact a1 q h1 h2 h3 h4, fun q hq => ?_⟩, by rw [u2_ne (by omega)]; exact b, q3, q4.off (by rw [u2_ni (by decide)]) (u2_ne (by omega)) (u2_ne (by omega)) (u2_ne (by omega)), by rw [u2_at]; omega, by rw [u2_ni (by decide)]; exact q6, by rw [u2_ni (by decide)]; exact q7, by rw [u2_ni (by decide)]; exact q8, by rw [u2_ni (by decide)]; exact q9, by rw [u2_ni (by decide)]; exact q10⟩
                have hq2 := hq
                unfold XFf at hq2
                rw [u2_ni (by omega)]
                exact a2 q hq
              have e53b := hJ2.2.2.2.2.1
              have e52b := hJ2.2.2.2.1.1
              refine ef_iconst (pc := 225) d148_225 (by decide) ?_
              refine ef_goto (pc := 226) d148_226 (t := 230) rfl ?_
              refine ef_iadd (pc := 230) d148_230 rfl ⟨by omega, by omega⟩ ?_
              refine eg_putI (pc := 231) d148_231 pf_148_356 (by assumption) (by decide) ?_
              refine ef_goto (pc := 234) d148_234 (t := 77) rfl ?_
              refine ef_aload_n (pc := 77) d148_77 rfl ?_
              refine eg_getI (pc := 78) d148_78 lf_8_356 (by assumption) (by decide) ?_
              rw [e53b]
              refine ef_aload_n (pc := 81) d148_81 rfl ?_
              refine eg_getI (pc := 82) d148_82 lf_8_347 (by assumption) (by decide) ?_
              rw [e52b]
              refine ef_icmp_geF (pc := 85) d148_85 (t := 237) rfl (by omega) ?_
              refine ef_aload_n (pc := 88) d148_88 rfl ?_
              refine eg_getI (pc := 89) d148_89 lf_8_347 (by assumption) (by decide) ?_
              rw [e52b]
              refine ef_iload_n (pc := 92) d148_92 rfl ?_
              refine ef_icmp_geT (pc := 93) d148_93 (t := 237) rfl (by omega) ?_
              refine c148e hM hT hC hnx hst hl2 a st' M Lg _ _ _ hJ2 hm (Or.inr ⟨ham, by omega⟩) ?_
              rw [← hR', xo_full (by omega)]
          refine ef_iload (pc := 141) d148_141 rfl ?_
          refine ef_if_eq (pc := 143) d148_143 (t := 212) rfl (fun h143 => ?_) (fun h143 => ?_)
          · rcases hmore with ⟨hb, -⟩ | ⟨-, hrk⟩
            · omega
            rw [List.drop_eq_nil_of_le hrk] at hIn
            exact stop hIn _ _
          · rcases hmore with ⟨-, w, kk, oo, hw, hsl, h65, h66⟩ | ⟨hb, -⟩
            rotate_left
            · omega
            have hkl := (List.getElem?_eq_some_iff.mp hw).1
            obtain ⟨w2, hw2, hdr⟩ := get_of_lt hkl
            rw [hw] at hw2
            cases hw2
            rw [hdr, xIn] at hIn
            refine ef_aload_n (pc := 146) d148_146 rfl ?_
            refine eg_getI (pc := 147) d148_147 lf_8_347 (by assumption) (by decide) ?_
            rw [e52]
            refine ef_iload_n (pc := 150) d148_150 rfl ?_
            refine ef_icmp_ge (pc := 151) d148_151 (t := 212) rfl (fun h151 => ?_) (fun h151 => ?_)
            · rw [if_pos (by omega)] at hIn
              exact stop hIn _ _
            · rw [if_neg (by omega)] at hIn
              obtain ⟨ew, hew⟩ := rx_w vz hw
              have nf := fol_nx (rp := rp) hT vz hew
              have tz2 : TrR g2 m kd nm rp en sz := cT.of (fun j h1 h2 => hJ.fr _ (by omega) (by omega) (by omega))
              refine ef_aload_n (pc := 154) d148_154 rfl ?_
              refine ef_callV (pc := 155) d148_155 lm_8_328 (as := []) rfl rfl (by assumption) rfl rfl (by decide) (Nat.le_of_ble_eq_true rfl) rfl (Nat.le_of_ble_eq_true rfl) ?_
              refine Ec.imp (Ec.deep (by omega) (c138 (d := d) hM1 hT tz2 hrel vz h30 (by omega) (List.mem_of_getElem? hw) hsl h65 h66)) ?_
              rintro r155 u155 ⟨g3, rfl, rfl, mf3, p3⟩
              have hJ3 := hJ.mv (XMv.mk mf3)
              rcases p3 with ⟨b1, b2, b3, b4, b5, b6, b7, b8⟩ | ⟨b1, b3⟩
              · have hnf := b1
                have d3 : g3 (m + 40) a = z.2.2 := ((hJ3.2.2.2.1.2 a z haz).2.2.2.1)
                refine ef_aload_n (pc := 158) d148_158 rfl ?_
                refine eg_getZ (pc := 159) d148_159 lf_8_215 (by assumption) (by decide) ?_
                rw [b3]
                refine ef_if_neF (pc := 162) d148_162 (t := 182) rfl (by decide) ?_
                refine ef_aload_n (pc := 165) d148_165 rfl ?_
                refine ef_aload_n (pc := 166) d148_166 rfl ?_
                refine eg_getR (pc := 167) d148_167 lf_8_129 (by assumption) (by decide) (by assumption) ?_
                refine ef_aload_n (pc := 170) d148_170 rfl ?_
                refine eg_getI (pc := 171) d148_171 lf_8_356 (by assumption) (by decide) ?_
                rw [hJ3.2.2.2.2.1]
                refine eg_iald (pc := 174) d148_174 (i := a) (by assumption) (rfl) (by omega) ?_
                rw [d3]
                refine ef_iconst (pc := 175) d148_175 (by decide) ?_
                refine ef_iadd (pc := 176) d148_176 rfl ⟨by omega, by omega⟩ ?_
                refine ef_iload_n (pc := 177) d148_177 rfl ?_
                refine ef_iload_n (pc := 178) d148_178 rfl ?_
                refine ef_callV (pc := 179) d148_179 lm_8_362 (as := [_, _, _]) rfl rfl (by assumption) rfl rfl (by decide) (Nat.le_of_ble_eq_true rfl) rfl (Nat.le_of_ble_eq_true rfl) ?_
                refine Ec.imp (Ec.deep (by omega) (c149 (d := d) hM1 hT b4 b5 b6 b7 b2 hJ3.2.2.2.1 (by omega))) ?_
                rintro r179 u179 ⟨rfl, q4⟩
                rcases q4 with ⟨hn, rfl⟩ | ⟨hn, Lg4, g4, rfl, fn4, l4, x4, e564, e554⟩
                · have hst2 : xStep kd nm rp en z.1 z.2.2 w M = M := if_neg (by rw [hn]; intro hh; cases hh.2.2)
                  rw [hst2] at hIn
                  have hXM2 := hXM
                  have hm2 := hm
                  have haz2 := haz
                  refine ef_aload_n (pc := 182) d148_182 rfl ?_
                  refine ef_aload_n (pc := 183) d148_183 rfl ?_
                  refine eg_getI (pc := 184) d148_184 lf_8_356 (by assumption) (by decide) ?_
                  rw [hJ3.2.2.2.2.1]
                  refine ef_callV (pc := 187) d148_187 lm_8_331 (as := [_]) rfl rfl (by assumption) rfl rfl (by decide) (Nat.le_of_ble_eq_true rfl) rfl (Nat.le_of_ble_eq_true rfl) ?_
                  refine Ec.imp (Ec.deep (Nat.zero_le _) (c139 (d := 0) (b := 314 * a) (k := a) (hM.sL) (by omega) rfl)) ?_
                  rintro r187 u187 ⟨g5, rfl, rfl, sv5, e305, o5, f5⟩
                  have hJ5 := hJ3.mv (XMv.ld o5 f5)
                  obtain ⟨⟨gs, gs1, gs2⟩, -, -, edz, -⟩ := hJ3.2.2.2.1.2 a z haz2
                  have rel5 : Rel g5 m z.1 := SvR.rel gs1 gs2 sv5
                  have tz5 : TrR g5 m kd nm rp en sz := cT.of (fun j h1 h2 => hJ5.fr _ (by omega) (by omega) (by omega))
                  have e225 : g5 (m + 22) = g (m + 22) := hJ5.fr _ (by omega) (by omega) (by omega)
                  have e295 : g5 m 29 = c.2.2 := by rw [hJ5.1.2 29 (by unfold XFf; omega)]; exact c29
                  have hM5 : MdA (sL u _) m := hM.sL (L := Lg)
                  refine ef_iinc (pc := 190) d148_190 (ls' := [_, _, _, _, _, _]) (z := ((k + 1 : Nat) : Int)) rfl (by decide) (by omega) ⟨by omega, by omega⟩ rfl ?_
                  refine ef_aload_n (pc := 193) d148_193 rfl ?_
                  refine ef_iload (pc := 194) d148_194 rfl ?_
                  refine ef_callV (pc := 196) d148_196 lm_8_334 (as := [_]) rfl rfl (by assumption) rfl rfl (by decide) (Nat.le_of_ble_eq_true rfl) rfl (Nat.le_of_ble_eq_true rfl) ?_
                  refine Ec.imp (Ec.deep (by omega) (c131e (d := d) (kN := k + 1) hM5 hT tz5 rel5 vz rfl e295 (by rw [e225]; exact hcr) ⟨by omega, hst⟩ rfl ⟨by omega, by omega⟩)) ?_
                  rintro r196 u196 (⟨w6, kk6, oo6, hw6, hsl6, rfl, rfl⟩ | ⟨hle6, rfl, rfl⟩)
                  · refine ef_if_leF (pc := 199) d148_199 (t := 206) rfl (by decide) ?_
                    refine ef_iconst (pc := 202) d148_202 (by decide) ?_
                    refine ef_goto (pc := 203) d148_203 (t := 207) rfl ?_
                    refine ef_istore (pc := 207) d148_207 (ls' := [_, _, _, _, _, _]) rfl ?_
                    refine ef_goto (pc := 209) d148_209 (t := 141) rfl ?_
                    refine ihk hkl _ _ _ 1 (hJ5.mv XMv.rd) hXM2 hm2 haz2 (rel5.same (fun j h1 h2 => by rw [u2_ne (by omega), u2_ne (by omega)]) (by rw [u2_ni (by decide), u2_ni (by decide)])) (by rw [u2_ni (by decide), u2_ni (by decide)]; exact e305) (Or.inl ⟨rfl, w6, kk6, oo6, hw6, ?_, by rw [u2_ni (by decide), u2_at], u2_at⟩) hIn
                    obtain ⟨b1, b2, b3, b4, b5⟩ := hsl6
                    refine ⟨b1, b2, b3, by rw [u2_ne (by omega), u2_ne (by omega)]; exact b4, ?_⟩
                    rw [← b5]; unfold oNum; rw [u2_ne (by omega), u2_ne (by omega), u2_ne (by omega), u2_ne (by omega)]
                  · refine ef_if_leT (pc := 199) d148_199 (t := 206) rfl (by decide) ?_
                    refine ef_iconst (pc := 206) d148_206 (by decide) ?_
                    refine ef_istore (pc := 207) d148_207 (ls' := [_, _, _, _, _, _]) rfl ?_
                    refine ef_goto (pc := 209) d148_209 (t := 141) rfl ?_
                    exact ihk hkl _ _ _ 0 hJ5 hXM2 hm2 haz2 rel5 e305 (Or.inr ⟨rfl, hle6⟩) hIn
                · have hst2 : xStep kd nm rp en z.1 z.2.2 w M = M ++ [(folF kd nm rp en w z.1, (teS kd nm rp en (folF kd nm rp en w z.1), z.2.2 + 1))] := if_pos ⟨b1, b2, hn⟩
                  rw [hst2] at hIn
                  have hJ4 : XI u g Lg4 g4 m _ a st' x y := hJ3.fnd fn4 (by omega) (fun v hv => by obtain ⟨i, hi⟩ := List.getElem?_of_mem hv; exact (hXM i v hi).2.2.2.1) l4 x4 e564 e554
                  have hXM2 := hXM.snoc (y := (folF kd nm rp en w z.1, (teS kd nm rp en (folF kd nm rp en w z.1), z.2.2 + 1))) ⟨b5, rfl, b2, by show 0 ≤ z.2.2 + 1; omega, by show z.2.2 + 1 ≤ (M.length : Int); omega, by show (folF kd nm rp en w z.1).2.2.2.1 ≤ c.1.2.2.2.1 + 50 * (z.2.2 + 1); omega⟩
                  have hm2 : (M ++ [(folF kd nm rp en w z.1, (teS kd nm rp en (folF kd nm rp en w z.1), z.2.2 + 1))]).length ≤ lim := by rw [List.length_append]; show M.length + 1 ≤ lim; omega
                  have haz2 : (M ++ [(folF kd nm rp en w z.1, (teS kd nm rp en (folF kd nm rp en w z.1), z.2.2 + 1))])[a]? = some z := by rw [List.getElem?_append_left ham]; exact haz
                  refine ef_aload_n (pc := 182) d148_182 rfl ?_
                  refine ef_aload_n (pc := 183) d148_183 rfl ?_
                  refine eg_getI (pc := 184) d148_184 lf_8_356 (by assumption) (by decide) ?_
                  rw [hJ4.2.2.2.2.1]
                  refine ef_callV (pc := 187) d148_187 lm_8_331 (as := [_]) rfl rfl (by assumption) rfl rfl (by decide) (Nat.le_of_ble_eq_true rfl) rfl (Nat.le_of_ble_eq_true rfl) ?_
                  refine Ec.imp (Ec.deep (Nat.zero_le _) (c139 (d := 0) (b := 314 * a) (k := a) (hM.sL) (by omega) rfl)) ?_
                  rintro r187 u187 ⟨g5, rfl, rfl, sv5, e305, o5, f5⟩
                  have hJ5 := hJ4.mv (XMv.ld o5 f5)
                  obtain ⟨⟨gs, gs1, gs2⟩, -, -, edz, -⟩ := hJ4.2.2.2.1.2 a z haz2
                  have rel5 : Rel g5 m z.1 := SvR.rel gs1 gs2 sv5
                  have tz5 : TrR g5 m kd nm rp en sz := cT.of (fun j h1 h2 => hJ5.fr _ (by omega) (by omega) (by omega))
                  have e225 : g5 (m + 22) = g (m + 22) := hJ5.fr _ (by omega) (by omega) (by omega)
                  have e295 : g5 m 29 = c.2.2 := by rw [hJ5.1.2 29 (by unfold XFf; omega)]; exact c29
                  have hM5 : MdA (sL u _) m := hM.sL (L := Lg4)
                  refine ef_iinc (pc := 190) d148_190 (ls' := [_, _, _, _, _, _]) (z := ((k + 1 : Nat) : Int)) rfl (by decide) (by omega) ⟨by omega, by omega⟩ rfl ?_
                  refine ef_aload_n (pc := 193) d148_193 rfl ?_
                  refine ef_iload (pc := 194) d148_194 rfl ?_
                  refine ef_callV (pc := 196) d148_196 lm_8_334 (as := [_]) rfl rfl (by assumption) rfl rfl (by decide) (Nat.le_of_ble_eq_true rfl) rfl (Nat.le_of_ble_eq_true rfl) ?_
                  refine Ec.imp (Ec.deep (by omega) (c131e (d := d) (kN := k + 1) hM5 hT tz5 rel5 vz rfl e295 (by rw [e225]; exact hcr) ⟨by omega, hst⟩ rfl ⟨by omega, by omega⟩)) ?_
                  rintro r196 u196 (⟨w6, kk6, oo6, hw6, hsl6, rfl, rfl⟩ | ⟨hle6, rfl, rfl⟩)
                  · refine ef_if_leF (pc := 199) d148_199 (t := 206) rfl (by decide) ?_
                    refine ef_iconst (pc := 202) d148_202 (by decide) ?_
                    refine ef_goto (pc := 203) d148_203 (t := 207) rfl ?_
                    refine ef_istore (pc := 207) d148_207 (ls' := [_, _, _, _, _, _]) rfl ?_
                    refine ef_goto (pc := 209) d148_209 (t := 141) rfl ?_
                    refine ihk hkl _ _ _ 1 (hJ5.mv XMv.rd) hXM2 hm2 haz2 (rel5.same (fun j h1 h2 => by rw [u2_ne (by omega), u2_ne (by omega)]) (by rw [u2_ni (by decide), u2_ni (by decide)])) (by rw [u2_ni (by decide), u2_ni (by decide)]; exact e305) (Or.inl ⟨rfl, w6, kk6, oo6, hw6, ?_, by rw [u2_ni (by decide), u2_at], u2_at⟩) hIn
                    obtain ⟨b1, b2, b3, b4, b5⟩ := hsl6
                    refine ⟨b1, b2, b3, by rw [u2_ne (by omega), u2_ne (by omega)]; exact b4, ?_⟩
                    rw [← b5]; unfold oNum; rw [u2_ne (by omega), u2_ne (by omega), u2_ne (by omega), u2_ne (by omega)]
                  · refine ef_if_leT (pc := 199) d148_199 (t := 206) rfl (by decide) ?_
                    refine ef_iconst (pc := 206) d148_206 (by decide) ?_
                    refine ef_istore (pc := 207) d148_207 (ls' := [_, _, _, _, _, _]) rfl ?_
                    refine ef_goto (pc := 209) d148_209 (t := 141) rfl ?_
                    exact ihk hkl _ _ _ 0 hJ5 hXM2 hm2 haz2 rel5 e305 (Or.inr ⟨rfl, hle6⟩) hIn
              · have hst2 : xStep kd nm rp en z.1 z.2.2 w M = M := if_neg (fun hh => b1 ⟨hh.1, hh.2.1⟩)
                rw [hst2] at hIn
                have hXM2 := hXM
                have hm2 := hm
                have haz2 := haz
                refine ef_aload_n (pc := 158) d148_158 rfl ?_
                refine eg_getZ (pc := 159) d148_159 lf_8_215 (by assumption) (by decide) ?_
                rw [b3]
                refine ef_if_neT (pc := 162) d148_162 (t := 182) rfl (by decide) ?_
                refine ef_aload_n (pc := 182) d148_182 rfl ?_
                refine ef_aload_n (pc := 183) d148_183 rfl ?_
                refine eg_getI (pc := 184) d148_184 lf_8_356 (by assumption) (by decide) ?_
                rw [hJ3.2.2.2.2.1]
                refine ef_callV (pc := 187) d148_187 lm_8_331 (as := [_]) rfl rfl (by assumption) rfl rfl (by decide) (Nat.le_of_ble_eq_true rfl) rfl (Nat.le_of_ble_eq_true rfl) ?_
                refine Ec.imp (Ec.deep (Nat.zero_le _) (c139 (d := 0) (b := 314 * a) (k := a) (hM.sL) (by omega) rfl)) ?_
                rintro r187 u187 ⟨g5, rfl, rfl, sv5, e305, o5, f5⟩
                have hJ5 := hJ3.mv (XMv.ld o5 f5)
                obtain ⟨⟨gs, gs1, gs2⟩, -, -, edz, -⟩ := hJ3.2.2.2.1.2 a z haz2
                have rel5 : Rel g5 m z.1 := SvR.rel gs1 gs2 sv5
                have tz5 : TrR g5 m kd nm rp en sz := cT.of (fun j h1 h2 => hJ5.fr _ (by omega) (by omega) (by omega))
                have e225 : g5 (m + 22) = g (m + 22) := hJ5.fr _ (by omega) (by omega) (by omega)
                have e295 : g5 m 29 = c.2.2 := by rw [hJ5.1.2 29 (by unfold XFf; omega)]; exact c29
                have hM5 : MdA (sL u _) m := hM.sL (L := Lg)
                refine ef_iinc (pc := 190) d148_190 (ls' := [_, _, _, _, _, _]) (z := ((k + 1 : Nat) : Int)) rfl (by decide) (by omega) ⟨by omega, by omega⟩ rfl ?_
                refine ef_aload_n (pc := 193) d148_193 rfl ?_
                refine ef_iload (pc := 194) d148_194 rfl ?_
                refine ef_callV (pc := 196) d148_196 lm_8_334 (as := [_]) rfl rfl (by assumption) rfl rfl (by decide) (Nat.le_of_ble_eq_true rfl) rfl (Nat.le_of_ble_eq_true rfl) ?_
                refine Ec.imp (Ec.deep (by omega) (c131e (d := d) (kN := k + 1) hM5 hT tz5 rel5 vz rfl e295 (by rw [e225]; exact hcr) ⟨by omega, hst⟩ rfl ⟨by omega, by omega⟩)) ?_
                rintro r196 u196 (⟨w6, kk6, oo6, hw6, hsl6, rfl, rfl⟩ | ⟨hle6, rfl, rfl⟩)
                · refine ef_if_leF (pc := 199) d148_199 (t := 206) rfl (by decide) ?_
                  refine ef_iconst (pc := 202) d148_202 (by decide) ?_
                  refine ef_goto (pc := 203) d148_203 (t := 207) rfl ?_
                  refine ef_istore (pc := 207) d148_207 (ls' := [_, _, _, _, _, _]) rfl ?_
                  refine ef_goto (pc := 209) d148_209 (t := 141) rfl ?_
                  refine ihk hkl _ _ _ 1 (hJ5.mv XMv.rd) hXM2 hm2 haz2 (rel5.same (fun j h1 h2 => by rw [u2_ne (by omega), u2_ne (by omega)]) (by rw [u2_ni (by decide), u2_ni (by decide)])) (by rw [u2_ni (by decide), u2_ni (by decide)]; exact e305) (Or.inl ⟨rfl, w6, kk6, oo6, hw6, ?_, by rw [u2_ni (by decide), u2_at], u2_at⟩) hIn
                  obtain ⟨b1, b2, b3, b4, b5⟩ := hsl6
                  refine ⟨b1, b2, b3, by rw [u2_ne (by omega), u2_ne (by omega)]; exact b4, ?_⟩
                  rw [← b5]; unfold oNum; rw [u2_ne (by omega), u2_ne (by omega), u2_ne (by omega), u2_ne (by omega)]
                · refine ef_if_leT (pc := 199) d148_199 (t := 206) rfl (by decide) ?_
                  refine ef_iconst (pc := 206) d148_206 (by decide) ?_
                  refine ef_istore (pc := 207) d148_207 (ls' := [_, _, _, _, _, _]) rfl ?_
                  refine ef_goto (pc := 209) d148_209 (t := 141) rfl ?_
                  exact ihk hkl _ _ _ 0 hJ5 hXM2 hm2 haz2 rel5 e305 (Or.inr ⟨rfl, hle6⟩) hIn
        refine ef_iconst (pc := 96) d148_96 (by decide) ?_
        refine ef_istore (pc := 97) d148_97 (ls' := [_, _, _, _, _, _]) rfl ?_
        refine ef_aload_n (pc := 99) d148_99 rfl ?_
        refine ef_aload_n (pc := 100) d148_100 rfl ?_
        refine eg_getI (pc := 101) d148_101 lf_8_356 (by assumption) (by decide) ?_
        rw [e53]
        refine ef_callV (pc := 104) d148_104 lm_8_331 (as := [_]) rfl rfl (by assumption) rfl rfl (by decide) (Nat.le_of_ble_eq_true rfl) rfl (Nat.le_of_ble_eq_true rfl) ?_
        refine Ec.imp (Ec.deep (Nat.zero_le _) (c139 (d := 0) (b := 314 * a) (k := a) hM1 (by omega) rfl)) ?_
        rintro r104 u104 ⟨g5, rfl, rfl, sv5, e305, o5, f5⟩
        have hI5 := hI.mv (XMv.ld o5 f5)
        obtain ⟨⟨gs, gs1, gs2⟩, -, -, edz, -⟩ := hI.2.2.2.1.2 a z hz
        have rel5 : Rel g5 m z.1 := SvR.rel gs1 gs2 sv5
        have tz5 : TrR g5 m kd nm rp en sz := cT.of (fun j h1 h2 => hI5.fr _ (by omega) (by omega) (by omega))
        have e225 : g5 (m + 22) = g (m + 22) := hI5.fr _ (by omega) (by omega) (by omega)
        have e295 : g5 m 29 = c.2.2 := by rw [hI5.1.2 29 (by unfold XFf; omega)]; exact c29
        have e545 : g5 m 54 = st := hI5.2.2.2.2.2.1
        refine ef_aload_n (pc := 107) d148_107 rfl ?_
        refine ef_iconst (pc := 108) d148_108 (by decide) ?_
        refine ef_callV (pc := 109) d148_109 lm_8_334 (as := [_]) rfl rfl (by assumption) rfl rfl (by decide) (Nat.le_of_ble_eq_true rfl) rfl (Nat.le_of_ble_eq_true rfl) ?_
        refine Ec.imp (Ec.deep (by omega) (c131e (d := d) (kN := 0) hM1 hT tz5 rel5 vz rfl e295 (by rw [e225]; exact hcr) ⟨by omega, hst⟩ rfl ⟨by omega, by omega⟩)) ?_
        rintro r109 u109 (⟨w6, kk6, oo6, hw6, hsl6, rfl, rfl⟩ | ⟨hle6, rfl, rfl⟩)
        · have hpos := (List.getElem?_eq_some_iff.mp hw6).1
          rw [if_neg (by omega)] at hR
          have hK := hI5.mv (XMv.rd (a := (kk6 : Int)) (b := (oo6 : Int)))
          have e54k := hK.2.2.2.2.2.1
          refine ef_if_leF (pc := 112) d148_112 (t := 119) rfl (by decide) ?_
          refine ef_iconst (pc := 115) d148_115 (by decide) ?_
          refine ef_goto (pc := 116) d148_116 (t := 120) rfl ?_
          refine ef_istore (pc := 120) d148_120 (ls' := [_, _, _, _, _, _]) rfl ?_
          refine ef_aload_n (pc := 122) d148_122 rfl ?_
          refine ef_dup (pc := 123) d148_123 rfl ?_
          refine eg_getI (pc := 124) d148_124 lf_8_359 (by assumption) (by decide) ?_
          rw [e54k]
          refine ef_iload (pc := 127) d148_127 rfl ?_
          refine ef_if_eqF (pc := 129) d148_129 (t := 136) rfl (by decide) ?_
          refine ef_iconst (pc := 132) d148_132 (by decide) ?_
          refine ef_goto (pc := 133) d148_133 (t := 137) rfl ?_
          refine ef_iadd (pc := 137) d148_137 rfl ⟨by omega, by omega⟩ ?_
          refine eg_putI (pc := 138) d148_138 pf_148_359 (by assumption) (by decide) ?_
          have e0 : st + 0 = st := Int.add_zero st
          have hJ2 : XI u g Lg (u2 (u2 (u2 g5 m 65 (kk6 : Int)) m 66 (oo6 : Int)) m 54 (st + 0)) m L a (st + 0) x y := by
            obtain ⟨⟨a1, a2⟩, b, q3, q4, q5, q6, q7, q8, q9, q10⟩ := hK
            refine ⟨⟨fun q h1 h2 h3 h4 => by rw [u2_ne h1.1]; exact a1 q h1 h2 h3 h4, fun q hq => ?_⟩, by rw [u2_ne (by omega)]; exact b, q3, q4.off (by rw [u2_ni (by decide)]) (u2_ne (by omega)) (u2_ne (by omega)) (u2_ne (by omega)), by rw [u2_ni (by decide)]; exact q5, u2_at, by rw [u2_ni (by decide)]; exact q7, by rw [u2_ni (by decide)]; exact q8, by rw [u2_ni (by decide)]; exact q9, by rw [u2_ni (by decide)]; exact q10⟩
            have hq2 := hq
            unfold XFf at hq2
            rw [u2_ni (by omega)]
            exact a2 q hq
          refine inner (st + 0) (by omega) (by omega) (by rw [e0]; exact hR) 0 (Nat.zero_le _) L Lg _ 1 hJ2 hX hl hz (rel5.same (fun j h1 h2 => by rw [u2_ne (by omega), u2_ne (by omega), u2_ne (by omega)]) (by rw [u2_ni (by decide), u2_ni (by decide), u2_ni (by decide)])) (by rw [u2_ni (by decide), u2_ni (by decide), u2_ni (by decide)]; exact e305) (Or.inl ⟨rfl, w6, kk6, oo6, hw6, ?_, by rw [u2_ni (by decide), u2_ni (by decide), u2_at], by rw [u2_ni (by decide), u2_at]⟩) (by rw [List.drop_zero]; exact hL')
          obtain ⟨b1, b2, b3, b4, b5⟩ := hsl6
          refine ⟨b1, b2, b3, by rw [u2_ne (by omega), u2_ne (by omega), u2_ne (by omega)]; exact b4, ?_⟩
          rw [← b5]; unfold oNum; rw [u2_ne (by omega), u2_ne (by omega), u2_ne (by omega), u2_ne (by omega), u2_ne (by omega), u2_ne (by omega)]
        · rw [if_pos (by omega)] at hR
          have hK := hI5
          refine ef_if_leT (pc := 112) d148_112 (t := 119) rfl (by decide) ?_
          refine ef_iconst (pc := 119) d148_119 (by decide) ?_
          refine ef_istore (pc := 120) d148_120 (ls' := [_, _, _, _, _, _]) rfl ?_
          refine ef_aload_n (pc := 122) d148_122 rfl ?_
          refine ef_dup (pc := 123) d148_123 rfl ?_
          refine eg_getI (pc := 124) d148_124 lf_8_359 (by assumption) (by decide) ?_
          rw [e545]
          refine ef_iload (pc := 127) d148_127 rfl ?_
          refine ef_if_eqT (pc := 129) d148_129 (t := 136) rfl (by decide) ?_
          refine ef_iconst (pc := 136) d148_136 (by decide) ?_
          refine ef_iadd (pc := 137) d148_137 rfl ⟨by omega, by omega⟩ ?_
          refine eg_putI (pc := 138) d148_138 pf_148_359 (by assumption) (by decide) ?_
          have hJ2 : XI u g Lg (u2 g5 m 54 (st + 1)) m L a (st + 1) x y := by
            obtain ⟨⟨a1, a2⟩, b, q3, q4, q5, q6, q7, q8, q9, q10⟩ := hK
            refine ⟨⟨fun q h1 h2 h3 h4 => by rw [u2_ne h1.1]; exact a1 q h1 h2 h3 h4, fun q hq => ?_⟩, by rw [u2_ne (by omega)]; exact b, q3, q4.off (by rw [u2_ni (by decide)]) (u2_ne (by omega)) (u2_ne (by omega)) (u2_ne (by omega)), by rw [u2_ni (by decide)]; exact q5, u2_at, by rw [u2_ni (by decide)]; exact q7, by rw [u2_ni (by decide)]; exact q8, by rw [u2_ni (by decide)]; exact q9, by rw [u2_ni (by decide)]; exact q10⟩
            have hq2 := hq
            unfold XFf at hq2
            rw [u2_ni (by omega)]
            exact a2 q hq
          exact inner (st + 1) (by omega) (by omega) hR 0 (Nat.zero_le _) L Lg _ 0 hJ2 hX hl hz (rel5.same (fun j h1 h2 => by rw [u2_ne (by omega)]) (by rw [u2_ni (by decide)])) (by rw [u2_ni (by decide)]; exact e305) (Or.inr ⟨rfl, by omega⟩) (by rw [List.drop_zero]; exact hL')
theorem c148 {P : Pg} {d : Nat} {u : Mm} {g : Nat → Nat → Int} {m : Nat} {sz : Nat} {kd nm rp en : Nat → Int} {ht : Nat → Nat} {c : RS} {k x y : Int} (hM : MdA u m) (hT : TmOk kd nm en sz ht) (hC : Mc g m kd nm rp en sz c) (hnx : c.1.2.2.2.1 ≤ 2147470000) (hst : c.2.2 ≤ 2147480000) : Ec P (d + 8) 148 [vR m, vI k, vI x, vI y] (sI u g) (fun r u' => (¬ ((1 ≤ k ∧ k ≤ 30) ∧ (0 ≤ x ∧ x < 6) ∧ (0 ≤ y ∧ y < 6)) ∧ u' = sI u (u2 (u2 g m 0 0) m 0 1) ∧ r = .inl (some (vI 0))) ∨ (∃ n : Nat, k = (n : Int) ∧ 1 ≤ n ∧ n ≤ 30 ∧ ((0 ≤ x ∧ x < 6) ∧ (0 ≤ y ∧ y < 6)) ∧ ∃ Lg g', u' = sI (sL u Lg) g' ∧ r = .inl (some (vI ((exF kd nm rp en n c.1 x y).1 : Int))) ∧ (∀ q, q ≠ m + 39 → Lg q = mL u q) ∧ XF g g' m ∧ Mc g' m kd nm rp en sz c ∧ g' m 0 = 0 ∧ MXr g' m (exF kd nm rp en n c.1 x y))) := by
  have s0 := hM.1
  have f62 : mF u m 62 = some (m + 40) := (hM.2 39 (by decide)).1
  have s62 : mS u (m + 40) = some (0, 31) := (hM.2 39 (by decide)).2
  have hC2 := hC
  obtain ⟨cT, cR, cV, c29, c30, c49, cW, cL, cC, cg, co, cD, cr, c0⟩ := hC2
  change Ef P _ 148 0 [some (vR m), some (vI k), some (vI x), some (vI y), none, none] [] _ _
  refine ef_aload_n (pc := 0) d148_0 rfl ?_
  refine ef_iconst (pc := 1) d148_1 (by decide) ?_
  refine eg_putI (pc := 2) d148_2 pf_148_141 (by assumption) (by decide) ?_
  refine ef_iload_n (pc := 5) d148_5 rfl ?_
  refine ef_iconst (pc := 6) d148_6 (by decide) ?_
  refine ef_bipush (pc := 7) d148_7 (by decide) ?_
  refine ef_callS (pc := 9) d148_9 lm_8_148 (as := [_, _, _]) rfl rfl rfl (Nat.le_of_ble_eq_true rfl) rfl (Nat.le_of_ble_eq_true rfl) ?_
  refine Ec.imp (c93) ?_
  rintro r9 u9 ⟨rfl, rfl⟩
  refine ef_if_eq (pc := 12) d148_12 (t := 33) rfl (fun h12 => ?_) (fun h12 => ?_)
  · have hc1 := of_decide_eq_false (b01_t h12)
    refine ef_aload_n (pc := 33) d148_33 rfl ?_
    refine ef_iconst (pc := 34) d148_34 (by decide) ?_
    refine ef_callV (pc := 35) d148_35 lm_8_152 (as := [_]) rfl rfl (by assumption) rfl rfl (by decide) (Nat.le_of_ble_eq_true rfl) rfl (Nat.le_of_ble_eq_true rfl) ?_
    refine Ec.imp (c94 hM) ?_
    rintro r35 u35 ⟨rfl, rfl⟩
    refine ef_iret (pc := 38) d148_38 rfl ?_
    exact Or.inl ⟨fun hh => by omega, rfl, rfl⟩
  · have hc1 := of_decide_eq_true (b01_f h12)
    refine ef_iload_n (pc := 15) d148_15 rfl ?_
    refine ef_iconst (pc := 16) d148_16 (by decide) ?_
    refine ef_iconst (pc := 17) d148_17 (by decide) ?_
    refine ef_callS (pc := 18) d148_18 lm_8_148 (as := [_, _, _]) rfl rfl rfl (Nat.le_of_ble_eq_true rfl) rfl (Nat.le_of_ble_eq_true rfl) ?_
    refine Ec.imp (c93) ?_
    rintro r18 u18 ⟨rfl, rfl⟩
    refine ef_if_eq (pc := 21) d148_21 (t := 33) rfl (fun h21 => ?_) (fun h21 => ?_)
    · have hc2 := of_decide_eq_false (b01_t h21)
      refine ef_aload_n (pc := 33) d148_33 rfl ?_
      refine ef_iconst (pc := 34) d148_34 (by decide) ?_
      refine ef_callV (pc := 35) d148_35 lm_8_152 (as := [_]) rfl rfl (by assumption) rfl rfl (by decide) (Nat.le_of_ble_eq_true rfl) rfl (Nat.le_of_ble_eq_true rfl) ?_
      refine Ec.imp (c94 hM) ?_
      rintro r35 u35 ⟨rfl, rfl⟩
      refine ef_iret (pc := 38) d148_38 rfl ?_
      exact Or.inl ⟨fun hh => by omega, rfl, rfl⟩
    · have hc2 := of_decide_eq_true (b01_f h21)
      refine ef_iload_n (pc := 24) d148_24 rfl ?_
      refine ef_iconst (pc := 25) d148_25 (by decide) ?_
      refine ef_iconst (pc := 26) d148_26 (by decide) ?_
      refine ef_callS (pc := 27) d148_27 lm_8_148 (as := [_, _, _]) rfl rfl rfl (Nat.le_of_ble_eq_true rfl) rfl (Nat.le_of_ble_eq_true rfl) ?_
      refine Ec.imp (c93) ?_
      rintro r27 u27 ⟨rfl, rfl⟩
      refine ef_if_ne (pc := 30) d148_30 (t := 39) rfl (fun h30 => ?_) (fun h30 => ?_)
      · have hc3 := of_decide_eq_true (b01_f h30)
        refine ef_aload_n (pc := 39) d148_39 rfl ?_
        refine ef_iconst (pc := 40) d148_40 (by decide) ?_
        refine eg_putI (pc := 41) d148_41 pf_148_347 (by assumption) (by decide) ?_
        refine ef_aload_n (pc := 44) d148_44 rfl ?_
        refine ef_iconst (pc := 45) d148_45 (by decide) ?_
        refine eg_putI (pc := 46) d148_46 pf_148_356 (by assumption) (by decide) ?_
        refine ef_aload_n (pc := 49) d148_49 rfl ?_
        refine ef_iconst (pc := 50) d148_50 (by decide) ?_
        refine eg_putI (pc := 51) d148_51 pf_148_359 (by assumption) (by decide) ?_
        refine ef_aload_n (pc := 54) d148_54 rfl ?_
        refine ef_iconst (pc := 55) d148_55 (by decide) ?_
        refine eg_putI (pc := 56) d148_56 pf_148_353 (by assumption) (by decide) ?_
        refine ef_aload_n (pc := 59) d148_59 rfl ?_
        refine ef_iconst (pc := 60) d148_60 (by decide) ?_
        refine eg_putZ (pc := 61) d148_61 pf_148_316 (by assumption) (by decide) (by omega) ?_
        have hin : ((1 ≤ k ∧ k ≤ 30) ∧ (0 ≤ x ∧ x < 6) ∧ (0 ≤ y ∧ y < 6)) := ⟨by omega, by omega, by omega⟩
        obtain ⟨n, rfl⟩ : ∃ n : Nat, k = (n : Int) := ⟨k.toNat, by omega⟩
        generalize hg5 : u2 (u2 (u2 (u2 (u2 (u2 g m 0 0) m 52 0) m 53 0) m 54 0) m 55 (-1)) m 57 1 = g5
        have a5 : ∀ q, q ≠ m → g5 q = g q := fun q hq => by rw [← hg5, u2_ne hq, u2_ne hq, u2_ne hq, u2_ne hq, u2_ne hq, u2_ne hq]
        have f5 : ∀ f, f ≠ 0 → f ≠ 52 → f ≠ 53 → f ≠ 54 → f ≠ 55 → f ≠ 57 → g5 m f = g m f := fun f h1 h2 h3 h4 h5 h6 => by rw [← hg5, u2_ni h6, u2_ni h5, u2_ni h4, u2_ni h3, u2_ni h2, u2_ni h1]
        have i0 : g5 m 0 = 0 := by rw [← hg5]; simp (disch := decide) only [u2_ni, u2_at]
        have i52 : g5 m 52 = 0 := by rw [← hg5]; simp (disch := decide) only [u2_ni, u2_at]
        have i53 : g5 m 53 = 0 := by rw [← hg5]; simp (disch := decide) only [u2_ni, u2_at]
        have i54 : g5 m 54 = 0 := by rw [← hg5]; simp (disch := decide) only [u2_ni, u2_at]
        have i55 : g5 m 55 = -1 := by rw [← hg5]; simp (disch := decide) only [u2_ni, u2_at]
        have i57 : g5 m 57 = 1 := by rw [← hg5]; simp (disch := decide) only [u2_ni, u2_at]
        refine ef_aload_n (pc := 64) d148_64 rfl ?_
        refine ef_bipush (pc := 65) d148_65 (by decide) ?_
        refine ef_callV (pc := 67) d148_67 lm_8_325 (as := [_]) rfl rfl (by assumption) rfl rfl (by decide) (Nat.le_of_ble_eq_true rfl) rfl (Nat.le_of_ble_eq_true rfl) ?_
        refine Ec.imp (Ec.deep (Nat.zero_le _) (c137 (d := 0) (b := 9420) (k := 30) hM (by omega) rfl)) ?_
        rintro r67 u67 ⟨g6, rfl, rfl, sv6, bl6, o6⟩
        have f6 : ∀ f, g6 m f = g5 m f := fun f => by rw [o6 m (by omega)]
        have r6 : Rel g6 m c.1 := cR.same (fun j h1 h2 => by rw [o6 _ (by omega), a5 _ (by omega)]) (by rw [f6, f5 28 (by decide) (by decide) (by decide) (by decide) (by decide) (by decide)])
        have mx6 : MX u g6 m [] := ⟨by rw [f6]; exact i52, fun i y h => by cases h⟩
        refine ef_aload_n (pc := 70) d148_70 rfl ?_
        refine ef_iconst (pc := 71) d148_71 (by decide) ?_
        refine ef_iload_n (pc := 72) d148_72 rfl ?_
        refine ef_iload_n (pc := 73) d148_73 rfl ?_
        refine ef_callV (pc := 74) d148_74 lm_8_362 (as := [_, _, _]) rfl rfl (by assumption) rfl rfl (by decide) (Nat.le_of_ble_eq_true rfl) rfl (Nat.le_of_ble_eq_true rfl) ?_
        refine Ec.imp (Ec.deep (by omega) (c149 (d := d) (L := []) hM hT r6 cV (by rw [f6, f5 49 (by decide) (by decide) (by decide) (by decide) (by decide) (by decide)]; exact c49) (by rw [o6 _ (by omega), a5 _ (by omega)]; exact cW) cL mx6 (by decide))) ?_
        rintro r74 u74 ⟨rfl, q7⟩
        rcases q7 with ⟨hn, -⟩ | ⟨-, Lg7, g7, rfl, fn7, l7, x7, e567, e557⟩
        · cases hn
        have sv7 : SvR g m (g7 (m + 37)) 9420 := sv6.of (fun j h1 h2 => (a5 _ (by omega)).symm) (f5 28 (by decide) (by decide) (by decide) (by decide) (by decide) (by decide)).symm (fun j h1 h2 => fn7.2.2 j (by show 314 * 0 + 314 ≤ j; omega))
        have hI7 : XI u g Lg7 g7 m ([] ++ [(c.1, (teS kd nm rp en c.1, 0))]) 0 0 x y := by
          obtain ⟨n1, n2, n3⟩ := fn7
          refine ⟨⟨fun q h1 h2 h3 h4 => by rw [n1 q h1.1 h2 h3 h4, o6 q h2, a5 q h1.1], fun q hq => ?_⟩, sv7, l7, x7, by rw [n2 _ (by decide) (by decide) (by decide), f6]; exact i53, by rw [n2 _ (by decide) (by decide) (by decide), f6]; exact i54, ?_, by rw [ls_snoc]; exact e567, by rw [n2 _ (by decide) (by decide) (by decide), f6]; exact i57, by rw [n2 _ (by decide) (by decide) (by decide), f6]; exact i0⟩
          · have hq2 := hq
            unfold XFf at hq2
            rw [n2 q (by omega) (by omega) (by omega), f6, f5 q (by omega) (by omega) (by omega) (by omega) (by omega) (by omega)]
          · rw [e557, f6, i55, nr_snoc (fun _ h => absurd h (List.not_mem_nil))]; rfl
        refine Ef.imp (c148i (lim := n) (RES := _) hM hT hC hnx hst (by omega) (by omega) 30 0 0 _ Lg7 g7 _ _ (by omega) hI7 ?_ (by show 1 ≤ n; omega) (Nat.zero_le _) (fun _ => Nat.zero_lt_one) (by omega) (by omega) rfl) ?_
        · intro i z hz
          have hi : i = 0 := by
            have := (List.getElem?_eq_some_iff.mp hz).1
            simp only [List.nil_append, List.length_cons, List.length_nil] at this
            omega
          subst hi
          cases hz
          exact ⟨cV, rfl, cL, Int.le_refl _, Int.le_refl _, by show c.1.2.2.2.1 ≤ c.1.2.2.2.1 + 50 * 0; omega⟩
        · rintro r u' ⟨Lg, g', rfl, rfl, k1, k2, k3, k4, k5, k6, k7, k8, k9, k10⟩
          exact Or.inr ⟨n, rfl, by omega, by omega, hin.2, Lg, g', rfl, rfl, k1, k2, k3, k4, Or.inr ⟨k5, k6, k7, k8, k9, k10, by show b01 _ = 0 ∨ b01 _ = 1; unfold b01; split <;> omega⟩⟩
      · have hc3 := of_decide_eq_false (b01_t h30)
        refine ef_aload_n (pc := 33) d148_33 rfl ?_
        refine ef_iconst (pc := 34) d148_34 (by decide) ?_
        refine ef_callV (pc := 35) d148_35 lm_8_152 (as := [_]) rfl rfl (by assumption) rfl rfl (by decide) (Nat.le_of_ble_eq_true rfl) rfl (Nat.le_of_ble_eq_true rfl) ?_
        refine Ec.imp (c94 hM) ?_
        rintro r35 u35 ⟨rfl, rfl⟩
        refine ef_iret (pc := 38) d148_38 rfl ?_
        exact Or.inl ⟨fun hh => by omega, rfl, rfl⟩
theorem c150 {P : Pg} {d : Nat} {u : Mm} {g : Nat → Nat → Int} {m : Nat} {X : XR} {i : Int} (hM : MdA u m) (hX : MXr g m X) : Ec P (d + 1) 150 [vR m, vI i] (sI u g) (fun r u' => (¬ (0 ≤ i ∧ i ≤ 4) ∧ u' = sI u (u2 (u2 g m 0 0) m 0 1) ∧ r = .inl (some (vI 0))) ∨ ((0 ≤ i ∧ i ≤ 4) ∧ u' = sI u (u2 g m 0 0) ∧ r = .inl (some (vI (if i = 0 then (X.1 : Int) else if i = 1 then X.2.1 else if i = 2 then X.2.2.1 else if i = 3 then X.2.2.2.1 else X.2.2.2.2))))) := by
  have s0 := hM.1
  change Ef P _ 150 0 [some (vR m), some (vI i)] [] _ _
  refine ef_aload_n (pc := 0) d150_0 rfl ?_
  refine ef_iconst (pc := 1) d150_1 (by decide) ?_
  refine eg_putI (pc := 2) d150_2 pf_150_141 (by assumption) (by decide) ?_
  refine ef_iload_n (pc := 5) d150_5 rfl ?_
  refine ef_iconst (pc := 6) d150_6 (by decide) ?_
  refine ef_iconst (pc := 7) d150_7 (by decide) ?_
  refine ef_callS (pc := 8) d150_8 lm_8_148 (as := [_, _, _]) rfl rfl rfl (Nat.le_of_ble_eq_true rfl) rfl (Nat.le_of_ble_eq_true rfl) ?_
  refine Ec.imp (c93) ?_
  rintro r8 u8 ⟨rfl, rfl⟩
  refine ef_if_ne (pc := 11) d150_11 (t := 20) rfl (fun h11 => ?_) (fun h11 => ?_)
  · have hf2 := of_decide_eq_true (b01_f h11)
    rcases hX with hX | hX
    · have e57 : g m 57 = 0 := hX.1
      obtain ⟨-, rfl⟩ := hX
      refine ef_aload_n (pc := 20) d150_20 rfl ?_
      refine eg_getZ (pc := 21) d150_21 lf_8_316 (by assumption) (by decide) ?_
      rw [u2_ni (by decide), e57]
      refine ef_if_neF (pc := 24) d150_24 (t := 38) rfl (by decide) ?_
      refine ef_iload_n (pc := 27) d150_27 rfl ?_
      refine ef_iconst (pc := 28) d150_28 (by decide) ?_
      refine ef_icmp_ne (pc := 29) d150_29 (t := 36) rfl (fun h29 => ?_) (fun h29 => ?_)
      · refine ef_iconst (pc := 36) d150_36 (by decide) ?_
        refine ef_iret (pc := 37) d150_37 rfl ?_
        have hi5 : i = 0 ∨ i = 1 ∨ i = 2 ∨ i = 3 ∨ i = 4 := by omega
        refine Or.inr ⟨by omega, rfl, ?_⟩
        rcases hi5 with rfl | rfl | rfl | rfl | rfl <;> first | omega | rfl
      · refine ef_iconst (pc := 32) d150_32 (by decide) ?_
        refine ef_goto (pc := 33) d150_33 (t := 37) rfl ?_
        refine ef_iret (pc := 37) d150_37 rfl ?_
        have hi5 : i = 0 ∨ i = 1 ∨ i = 2 ∨ i = 3 ∨ i = 4 := by omega
        refine Or.inr ⟨by omega, rfl, ?_⟩
        rcases hi5 with rfl | rfl | rfl | rfl | rfl <;> first | omega | rfl
    · obtain ⟨e57, e52, e58, e54, e55, e56, hz⟩ := hX
      refine ef_aload_n (pc := 20) d150_20 rfl ?_
      refine eg_getZ (pc := 21) d150_21 lf_8_316 (by assumption) (by decide) ?_
      rw [u2_ni (by decide), e57]
      refine ef_if_neT (pc := 24) d150_24 (t := 38) rfl (by decide) ?_
      refine ef_iload_n (pc := 38) d150_38 rfl ?_
      refine ef_iconst (pc := 39) d150_39 (by decide) ?_
      refine ef_icmp_ge (pc := 40) d150_40 (t := 79) rfl (fun h40 => ?_) (fun h40 => ?_)
      · refine ef_iload_n (pc := 79) d150_79 rfl ?_
        refine ef_iconst (pc := 80) d150_80 (by decide) ?_
        refine ef_icmp_ne (pc := 81) d150_81 (t := 91) rfl (fun h81 => ?_) (fun h81 => ?_)
        · refine ef_aload_n (pc := 91) d150_91 rfl ?_
          refine eg_getI (pc := 92) d150_92 lf_8_350 (by assumption) (by decide) ?_
          rw [u2_ni (by decide), e56]
          refine ef_iret (pc := 95) d150_95 rfl ?_
          have hi5 : i = 0 ∨ i = 1 ∨ i = 2 ∨ i = 3 ∨ i = 4 := by omega
          refine Or.inr ⟨by omega, rfl, ?_⟩
          rcases hi5 with rfl | rfl | rfl | rfl | rfl <;> first | omega | rfl | exact congrArg (fun z => Sum.inl (some (vI z))) (by omega)
        · refine ef_aload_n (pc := 84) d150_84 rfl ?_
          refine eg_getI (pc := 85) d150_85 lf_8_353 (by assumption) (by decide) ?_
          rw [u2_ni (by decide), e55]
          refine ef_goto (pc := 88) d150_88 (t := 95) rfl ?_
          refine ef_iret (pc := 95) d150_95 rfl ?_
          have hi5 : i = 0 ∨ i = 1 ∨ i = 2 ∨ i = 3 ∨ i = 4 := by omega
          refine Or.inr ⟨by omega, rfl, ?_⟩
          rcases hi5 with rfl | rfl | rfl | rfl | rfl <;> first | omega | rfl | exact congrArg (fun z => Sum.inl (some (vI z))) (by omega)
      · refine ef_iload_n (pc := 43) d150_43 rfl ?_
        refine ef_if_ne (pc := 44) d150_44 (t := 54) rfl (fun h44 => ?_) (fun h44 => ?_)
        · refine ef_iload_n (pc := 54) d150_54 rfl ?_
          refine ef_iconst (pc := 55) d150_55 (by decide) ?_
          refine ef_icmp_ne (pc := 56) d150_56 (t := 74) rfl (fun h56 => ?_) (fun h56 => ?_)
          · refine ef_aload_n (pc := 74) d150_74 rfl ?_
            refine eg_getI (pc := 75) d150_75 lf_8_359 (by assumption) (by decide) ?_
            rw [u2_ni (by decide), e54]
            refine ef_iret (pc := 78) d150_78 rfl ?_
            have hi5 : i = 0 ∨ i = 1 ∨ i = 2 ∨ i = 3 ∨ i = 4 := by omega
            refine Or.inr ⟨by omega, rfl, ?_⟩
            rcases hi5 with rfl | rfl | rfl | rfl | rfl <;> first | omega | rfl | exact congrArg (fun z => Sum.inl (some (vI z))) (by omega)
          · refine ef_aload_n (pc := 59) d150_59 rfl ?_
            refine eg_getZ (pc := 60) d150_60 lf_8_365 (by assumption) (by decide) ?_
            rw [u2_ni (by decide), e58]
            refine ef_if_eq (pc := 63) d150_63 (t := 70) rfl (fun h63 => ?_) (fun h63 => ?_)
            · refine ef_iconst (pc := 70) d150_70 (by decide) ?_
              refine ef_goto (pc := 71) d150_71 (t := 78) rfl ?_
              refine ef_iret (pc := 78) d150_78 rfl ?_
              have hi5 : i = 0 ∨ i = 1 ∨ i = 2 ∨ i = 3 ∨ i = 4 := by omega
              refine Or.inr ⟨by omega, rfl, ?_⟩
              rcases hi5 with rfl | rfl | rfl | rfl | rfl <;> first | omega | rfl | exact congrArg (fun z => Sum.inl (some (vI z))) (by omega)
            · refine ef_iconst (pc := 66) d150_66 (by decide) ?_
              refine ef_goto (pc := 67) d150_67 (t := 78) rfl ?_
              refine ef_iret (pc := 78) d150_78 rfl ?_
              have hi5 : i = 0 ∨ i = 1 ∨ i = 2 ∨ i = 3 ∨ i = 4 := by omega
              refine Or.inr ⟨by omega, rfl, ?_⟩
              rcases hi5 with rfl | rfl | rfl | rfl | rfl <;> first | omega | rfl | exact congrArg (fun z => Sum.inl (some (vI z))) (by omega)
        · refine ef_aload_n (pc := 47) d150_47 rfl ?_
          refine eg_getI (pc := 48) d150_48 lf_8_347 (by assumption) (by decide) ?_
          rw [u2_ni (by decide), e52]
          refine ef_goto (pc := 51) d150_51 (t := 78) rfl ?_
          refine ef_iret (pc := 78) d150_78 rfl ?_
          have hi5 : i = 0 ∨ i = 1 ∨ i = 2 ∨ i = 3 ∨ i = 4 := by omega
          refine Or.inr ⟨by omega, rfl, ?_⟩
          rcases hi5 with rfl | rfl | rfl | rfl | rfl <;> first | omega | rfl | exact congrArg (fun z => Sum.inl (some (vI z))) (by omega)
  · have hf2 := of_decide_eq_false (b01_t h11)
    refine ef_aload_n (pc := 14) d150_14 rfl ?_
    refine ef_iconst (pc := 15) d150_15 (by decide) ?_
    refine ef_callV (pc := 16) d150_16 lm_8_152 (as := [_]) rfl rfl (by assumption) rfl rfl (by decide) (Nat.le_of_ble_eq_true rfl) rfl (Nat.le_of_ble_eq_true rfl) ?_
    refine Ec.imp (c94 hM) ?_
    rintro r16 u16 ⟨rfl, rfl⟩
    refine ef_iret (pc := 19) d150_19 rfl ?_
    exact Or.inl ⟨hf2, rfl, rfl⟩
