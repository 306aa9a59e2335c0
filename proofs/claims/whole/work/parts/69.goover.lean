/-! The explorer: going over states. Written by wip/whole/gen/c69.py. -/
def xStep (kd nm rp en : Nat → Int) (A : SS) (ds : Int) (w : Rd) (L : List XS) : List XS :=
  if (folF kd nm rp en w A).2.2.2.2 = false ∧ (teS kd nm rp en (folF kd nm rp en w A)).length ≤ 240 ∧ new L (teS kd nm rp en (folF kd nm rp en w A)) = true then L ++ [(folF kd nm rp en w A, (teS kd nm rp en (folF kd nm rp en w A), ds + 1))] else L
def xIn (kd nm rp en : Nat → Int) (lim : Nat) (A : SS) (ds : Int) : List Rd → List XS → List XS
  | [], L => L
  | w :: R, L => if lim ≤ L.length then L else xIn kd nm rp en lim A ds R (xStep kd nm rp en A ds w L)
def xOut (kd nm rp en : Nat → Int) (lim : Nat) : Nat → Nat → Int → List XS → List XS × Int
  | 0, _, st, L => (L, st)
  | f + 1, a, st, L => if lim ≤ L.length then (L, st) else match L[a]? with
    | none => (L, st)
    | some y => xOut kd nm rp en lim f (a + 1) (if (rxS kd y.1).length = 0 then st + 1 else st) (xIn kd nm rp en lim y.1 y.2.2 (rxS kd y.1) L)
def XOk (kd nm rp en : Nat → Int) (sz : Nat) (N : Int) (L : List XS) : Prop := ∀ (i : Nat) (y : XS), L[i]? = some y → Vd kd nm sz y.1 ∧ y.2.1 = teS kd nm rp en y.1 ∧ y.2.1.length ≤ 240 ∧ 0 ≤ y.2.2 ∧ y.2.2 ≤ (i : Int) ∧ y.1.2.2.2.1 ≤ N + 50 * y.2.2
theorem XOk.snoc {kd nm rp en : Nat → Int} {sz : Nat} {N : Int} {L : List XS} {y : XS} (h : XOk kd nm rp en sz N L) (hy : Vd kd nm sz y.1 ∧ y.2.1 = teS kd nm rp en y.1 ∧ y.2.1.length ≤ 240 ∧ 0 ≤ y.2.2 ∧ y.2.2 ≤ (L.length : Int) ∧ y.1.2.2.2.1 ≤ N + 50 * y.2.2) : XOk kd nm rp en sz N (L ++ [y]) := by
  intro i z hz
  by_cases hi : i < L.length
  · rw [List.getElem?_append_left hi] at hz
    exact h i z hz
  · rw [List.getElem?_append_right (by omega)] at hz
    have h0 : i - L.length = 0 := by
      have := (List.getElem?_eq_some_iff.mp hz).1
      simp only [List.length_cons, List.length_nil] at this
      omega
    rw [h0] at hz
    cases hz
    have hi2 : i = L.length := by omega
    subst hi2
    exact hy
theorem Ex.snoc {g : Nat → Nat → Int} {x : Nat} {L : List XS} {y : XS} (h : Ex g x L) (h1 : SR g (x + 8 + 21 * L.length) y.1) (h2 : Ln g (x + 8 + 21 * L.length + 19) y.2.1) (h3 : g (x + 2) L.length = y.2.2) {g' : Nat → Nat → Int} (h4 : g' x 3 = ((L.length + 1 : Nat) : Int)) (h5 : ∀ a, a ≠ x → g' a = g a) : Ex g' x (L ++ [y]) := by
  refine ⟨by rw [h4, List.length_append]; rfl, ?_⟩
  intro i z hz
  have e : ∀ i, SR g (x + 8 + 21 * i) z.1 → Ln g (x + 8 + 21 * i + 19) z.2.1 → g (x + 2) i = z.2.2 → SR g' (x + 8 + 21 * i) z.1 ∧ Ln g' (x + 8 + 21 * i + 19) z.2.1 ∧ g' (x + 2) i = z.2.2 := fun i a b c => ⟨a.off (fun q _ _ => h5 q (by omega)), b.off (fun q _ _ => h5 q (by omega)), by rw [h5 (x + 2) (by omega)]; exact c⟩
  by_cases hi : i < L.length
  · rw [List.getElem?_append_left hi] at hz
    obtain ⟨p1, p2, p3⟩ := h.2 i z hz
    exact e i p1 p2 p3
  · rw [List.getElem?_append_right (by omega)] at hz
    have h0 : i - L.length = 0 := by
      have := (List.getElem?_eq_some_iff.mp hz).1
      simp only [List.length_cons, List.length_nil] at this
      omega
    rw [h0] at hz
    cases hz
    have hi2 : i = L.length := by omega
    subst hi2
    exact e _ h1 h2 h3
def Of2 (l x : Nat) (g g' : Nat → Nat → Int) : Prop := ∀ a, (a < l ∨ l + 5 ≤ a) → (a < x ∨ x + 638 ≤ a) → g' a = g a
theorem Of2.of {l x lo hi : Nat} {g g1 g2 : Nat → Nat → Int} (h : Of2 l x g g1) (k : Off lo hi g1 g2) (h1 : x ≤ lo) (h2 : hi ≤ x + 638) : Of2 l x g g2 := fun a ha hb => (k a (by omega)).trans (h a ha hb)
theorem c25 {P : Pg} {u : Mm} {g : Nat → Nat → Int} {x l tm s sz lim : Nat} {ht : Nat → Nat} {kd nm rp en : Nat → Int} {A : SS} {RES : List XS × Int} (hX : ExA u x) (hA : TlA u l) (hTm : TmA u tm) (hs : StA u s) (h1 : tm + 6 ≤ l) (h2 : l + 5 ≤ s) (h3 : s + 21 ≤ x) (hsv : mS u (pSv P) = none) (hch : ∀ n, 0 ≤ nm n ∧ nm n < 65536) (hT : TmOk kd nm en sz ht) (hV : Vd kd nm sz A) (hS : SR g s A) (hTx : Ln g (s + 19) (teS kd nm rp en A)) (h240 : (teS kd nm rp en A).length ≤ 240) (hnx : A.2.2.2.1 ≤ 2147480000) (hl1 : 1 ≤ lim) (hl2 : lim ≤ 30) (hkd : g (tm + 1) = kd) (hnm : g (tm + 2) = nm) (hrp : g (tm + 3) = rp) (hen : g (tm + 4) = en) (hRES : xOut kd nm rp en lim 30 0 0 [(A, (teS kd nm rp en A, 0))] = RES) :
    Ec P 50 25 [vR x, vR s, vI (lim : Int), vR tm, vR l] (sI u g) (fun r u' => ∃ g', u' = sI u g' ∧ r = .inl none ∧ Of2 l x g g' ∧ Ex g' x RES.1 ∧ RES.1.length ≤ 30 ∧ XOk kd nm rp en sz A.2.2.2.1 RES.1 ∧ g' x 4 = b01 (decide (RES.1.length < lim)) ∧ g' x 5 = RES.2 ∧ g' x 6 = -1) := by
  obtain ⟨y0, y1, y2, y3, y4, y5, y6, y7⟩ := id hX
  obtain ⟨w0, w1, w2, w3, w4, w5, w6, w7, w8⟩ := id hA
  obtain ⟨k0, k1, k2, k3, k4, k5, k6, k7, k8, k9, k10⟩ := id hTm
  obtain ⟨b0, b1, b2, b3, b4, b5, b6, b7, b8⟩ := id y6
  obtain ⟨q0, q1, q2, q3, q4, hP, hG, hM, hL⟩ := id hs
  have outer : ∀ (f a : Nat) (st : Int) (L : List XS) (g1 : Nat → Nat → Int) (v6 v7 : Option Vl), 30 ≤ a + f → Of2 l x g g1 → Ex g1 x L → XOk kd nm rp en sz A.2.2.2.1 L → L.length ≤ lim → g1 x 5 = st → 0 ≤ st → st ≤ (a : Int) → a ≤ 30 → g1 x 6 = -1 → xOut kd nm rp en lim f a st L = RES →
      Ef P 50 25 29 [some (vR x), some (vR s), some (vI (lim : Int)), some (vR tm), some (vR l), some (vI (a : Int)), v6, v7] [] (sI u g1) (fun r u' => ∃ g', u' = sI u g' ∧ r = .inl none ∧ Of2 l x g g' ∧ Ex g' x RES.1 ∧ RES.1.length ≤ 30 ∧ XOk kd nm rp en sz A.2.2.2.1 RES.1 ∧ g' x 4 = b01 (decide (RES.1.length < lim)) ∧ g' x 5 = RES.2 ∧ g' x 6 = -1) := by
    intro f
    induction f with
    | zero =>
      intro a st L g1 v6 v7 hf o1 e1 x1 hl s5 hs0 hs1 ha n6 hR
      have e3 := e1.1
      refine ef_iload (pc := 29) d25_29 rfl ?_
      refine ef_aload_n (pc := 31) d25_31 rfl ?_
      refine eg_getI (pc := 32) d25_32 lf_1_33 (by assumption) (by decide) ?_
      rw [e3]
      refine ef_icmp_geT (pc := 35) d25_35 (t := 197) rfl (by omega) ?_
      have hR1 : RES = (L, st) := hR.symm
      subst hR1
      refine ef_aload_n (pc := 197) d25_197 rfl ?_
      refine ef_aload_n (pc := 198) d25_198 rfl ?_
      refine eg_getI (pc := 199) d25_199 lf_1_33 (by assumption) (by decide) ?_
      rw [e3]
      refine ef_iload_n (pc := 202) d25_202 rfl ?_
      refine ef_icmp_ge (pc := 203) d25_203 (t := 210) rfl (fun h203 => ?_) (fun h203 => ?_)
      · have hb : b01 (decide (L.length < lim)) = 0 := by rw [decide_eq_false (by omega)]; rfl
        refine ef_iconst (pc := 210) d25_210 (by decide) ?_
        refine eg_putZ (pc := 211) d25_211 pf_25_36 (by assumption) (by decide) (by omega) ?_
        refine ef_vret (pc := 214) d25_214 rfl ?_
        refine ⟨_, rfl, rfl, o1.of (lo := x) (hi := x + 1) (Off.refl.up (by omega) (by omega)) (by omega) (by omega), e1.off (u2_ni (by omega)) (fun i hi => by rw [u2_ne (by omega)]) (fun a h4 h5 => u2_ne (by omega)), by show L.length ≤ 30; omega, x1, ?_, ?_, ?_⟩
        · rw [u2_at]; exact hb.symm
        · rw [u2_ni (by omega)]; exact s5
        · rw [u2_ni (by omega)]; exact n6
      · have hb : b01 (decide (L.length < lim)) = 1 := by rw [decide_eq_true (by omega)]; rfl
        refine ef_iconst (pc := 206) d25_206 (by decide) ?_
        refine ef_goto (pc := 207) d25_207 (t := 211) rfl ?_
        refine eg_putZ (pc := 211) d25_211 pf_25_36 (by assumption) (by decide) (by omega) ?_
        refine ef_vret (pc := 214) d25_214 rfl ?_
        refine ⟨_, rfl, rfl, o1.of (lo := x) (hi := x + 1) (Off.refl.up (by omega) (by omega)) (by omega) (by omega), e1.off (u2_ni (by omega)) (fun i hi => by rw [u2_ne (by omega)]) (fun a h4 h5 => u2_ne (by omega)), by show L.length ≤ 30; omega, x1, ?_, ?_, ?_⟩
        · rw [u2_at]; exact hb.symm
        · rw [u2_ni (by omega)]; exact s5
        · rw [u2_ni (by omega)]; exact n6
    | succ f ih =>
      intro a st L g1 v6 v7 hf o1 e1 x1 hl s5 hs0 hs1 ha n6 hR
      have e3 := e1.1
      rw [xOut] at hR
      refine ef_iload (pc := 29) d25_29 rfl ?_
      refine ef_aload_n (pc := 31) d25_31 rfl ?_
      refine eg_getI (pc := 32) d25_32 lf_1_33 (by assumption) (by decide) ?_
      rw [e3]
      refine ef_icmp_ge (pc := 35) d25_35 (t := 197) rfl (fun h35 => ?_) (fun h35 => ?_)
      · have hR : RES = (L, st) := by
          rw [← hR]
          split
          · rfl
          · rw [List.getElem?_eq_none (by omega)]
        have hR := hR.symm
        have hR1 : RES = (L, st) := hR.symm
        subst hR1
        refine ef_aload_n (pc := 197) d25_197 rfl ?_
        refine ef_aload_n (pc := 198) d25_198 rfl ?_
        refine eg_getI (pc := 199) d25_199 lf_1_33 (by assumption) (by decide) ?_
        rw [e3]
        refine ef_iload_n (pc := 202) d25_202 rfl ?_
        refine ef_icmp_ge (pc := 203) d25_203 (t := 210) rfl (fun h203 => ?_) (fun h203 => ?_)
        · have hb : b01 (decide (L.length < lim)) = 0 := by rw [decide_eq_false (by omega)]; rfl
          refine ef_iconst (pc := 210) d25_210 (by decide) ?_
          refine eg_putZ (pc := 211) d25_211 pf_25_36 (by assumption) (by decide) (by omega) ?_
          refine ef_vret (pc := 214) d25_214 rfl ?_
          refine ⟨_, rfl, rfl, o1.of (lo := x) (hi := x + 1) (Off.refl.up (by omega) (by omega)) (by omega) (by omega), e1.off (u2_ni (by omega)) (fun i hi => by rw [u2_ne (by omega)]) (fun a h4 h5 => u2_ne (by omega)), by show L.length ≤ 30; omega, x1, ?_, ?_, ?_⟩
          · rw [u2_at]; exact hb.symm
          · rw [u2_ni (by omega)]; exact s5
          · rw [u2_ni (by omega)]; exact n6
        · have hb : b01 (decide (L.length < lim)) = 1 := by rw [decide_eq_true (by omega)]; rfl
          refine ef_iconst (pc := 206) d25_206 (by decide) ?_
          refine ef_goto (pc := 207) d25_207 (t := 211) rfl ?_
          refine eg_putZ (pc := 211) d25_211 pf_25_36 (by assumption) (by decide) (by omega) ?_
          refine ef_vret (pc := 214) d25_214 rfl ?_
          refine ⟨_, rfl, rfl, o1.of (lo := x) (hi := x + 1) (Off.refl.up (by omega) (by omega)) (by omega) (by omega), e1.off (u2_ni (by omega)) (fun i hi => by rw [u2_ne (by omega)]) (fun a h4 h5 => u2_ne (by omega)), by show L.length ≤ 30; omega, x1, ?_, ?_, ?_⟩
          · rw [u2_at]; exact hb.symm
          · rw [u2_ni (by omega)]; exact s5
          · rw [u2_ni (by omega)]; exact n6
      · have hlt : a < L.length := by omega
        refine ef_aload_n (pc := 38) d25_38 rfl ?_
        refine eg_getI (pc := 39) d25_39 lf_1_33 (by assumption) (by decide) ?_
        rw [e3]
        refine ef_iload_n (pc := 42) d25_42 rfl ?_
        refine ef_icmp_ge (pc := 43) d25_43 (t := 197) rfl (fun h43 => ?_) (fun h43 => ?_)
        · rw [if_pos (by omega)] at hR
          have hR1 : RES = (L, st) := hR.symm
          subst hR1
          refine ef_aload_n (pc := 197) d25_197 rfl ?_
          refine ef_aload_n (pc := 198) d25_198 rfl ?_
          refine eg_getI (pc := 199) d25_199 lf_1_33 (by assumption) (by decide) ?_
          rw [e3]
          refine ef_iload_n (pc := 202) d25_202 rfl ?_
          refine ef_icmp_ge (pc := 203) d25_203 (t := 210) rfl (fun h203 => ?_) (fun h203 => ?_)
          · have hb : b01 (decide (L.length < lim)) = 0 := by rw [decide_eq_false (by omega)]; rfl
            refine ef_iconst (pc := 210) d25_210 (by decide) ?_
            refine eg_putZ (pc := 211) d25_211 pf_25_36 (by assumption) (by decide) (by omega) ?_
            refine ef_vret (pc := 214) d25_214 rfl ?_
            refine ⟨_, rfl, rfl, o1.of (lo := x) (hi := x + 1) (Off.refl.up (by omega) (by omega)) (by omega) (by omega), e1.off (u2_ni (by omega)) (fun i hi => by rw [u2_ne (by omega)]) (fun a h4 h5 => u2_ne (by omega)), by show L.length ≤ 30; omega, x1, ?_, ?_, ?_⟩
            · rw [u2_at]; exact hb.symm
            · rw [u2_ni (by omega)]; exact s5
            · rw [u2_ni (by omega)]; exact n6
          · have hb : b01 (decide (L.length < lim)) = 1 := by rw [decide_eq_true (by omega)]; rfl
            refine ef_iconst (pc := 206) d25_206 (by decide) ?_
            refine ef_goto (pc := 207) d25_207 (t := 211) rfl ?_
            refine eg_putZ (pc := 211) d25_211 pf_25_36 (by assumption) (by decide) (by omega) ?_
            refine ef_vret (pc := 214) d25_214 rfl ?_
            refine ⟨_, rfl, rfl, o1.of (lo := x) (hi := x + 1) (Off.refl.up (by omega) (by omega)) (by omega) (by omega), e1.off (u2_ni (by omega)) (fun i hi => by rw [u2_ne (by omega)]) (fun a h4 h5 => u2_ne (by omega)), by show L.length ≤ 30; omega, x1, ?_, ?_, ?_⟩
            · rw [u2_at]; exact hb.symm
            · rw [u2_ni (by omega)]; exact s5
            · rw [u2_ni (by omega)]; exact n6
        · obtain ⟨y, hy, -⟩ := get_of_lt hlt
          rw [if_neg (by omega), hy] at hR
          simp only at hR
          obtain ⟨vy, ty, ly, dy0, dy1, ny⟩ := x1 a y hy
          obtain ⟨f1, f2, f3⟩ := e1.2 a y hy
          obtain ⟨z1, z2⟩ := y7 a (by omega)
          have hkd1 : g1 (tm + 1) = kd := (o1 _ (by omega) (by omega)).trans hkd
          have hRl := rxS_len vy
          generalize hL' : xIn kd nm rp en lim y.1 y.2.2 (rxS kd y.1) L = L' at hR
          have inner : ∀ st', g1 x 5 = g1 x 5 → 0 ≤ st' → st' ≤ (a : Int) + 1 → xOut kd nm rp en lim f (a + 1) st' L' = RES → ∀ k, k ≤ (rxS kd y.1).length → ∀ (M : List XS) (g2 : Nat → Nat → Int) (v7 : Option Vl), Of2 l x g g2 → Ex g2 x M → XOk kd nm rp en sz A.2.2.2.1 M → M.length ≤ lim → M[a]? = some y → g2 x 5 = st' → g2 x 6 = -1 → Rf g2 (x + 3) (rxS kd y.1) → xIn kd nm rp en lim y.1 y.2.2 ((rxS kd y.1).drop k) M = L' →
              Ef P 50 25 84 [some (vR x), some (vR s), some (vI (lim : Int)), some (vR tm), some (vR l), some (vI (a : Int)), some (vI (k : Int)), v7] [] (sI u g2) (fun r u' => ∃ g', u' = sI u g' ∧ r = .inl none ∧ Of2 l x g g' ∧ Ex g' x RES.1 ∧ RES.1.length ≤ 30 ∧ XOk kd nm rp en sz A.2.2.2.1 RES.1 ∧ g' x 4 = b01 (decide (RES.1.length < lim)) ∧ g' x 5 = RES.2 ∧ g' x 6 = -1) := by
            intro st' _ hs0' hs1' hR'
            refine nat_loop (rxS kd y.1).length ?_
            intro k hk ihk M g2 v7 o2 e2 x2 hm hay s52 n62 r2 hI
            have e32 := e2.1
            have r24 := r2.1
            have ham := (List.getElem?_eq_some_iff.mp hay).1
            refine ef_iload (pc := 84) d25_84 rfl ?_
            refine ef_aload_n (pc := 86) d25_86 rfl ?_
            refine eg_getR (pc := 87) d25_87 lf_1_24 (by assumption) (by decide) (by assumption) ?_
            refine eg_getI (pc := 90) d25_90 lf_1_54 (by assumption) (by decide) ?_
            rw [r24]
            refine ef_icmp_ge (pc := 93) d25_93 (t := 191) rfl (fun h93 => ?_) (fun h93 => ?_)
            · rw [List.drop_eq_nil_of_le (by omega)] at hI
              have hME : M = L' := hI
              refine ef_iinc (pc := 191) d25_191 (ls' := [_, _, _, _, _, _, _, _]) (z := ((a + 1 : Nat) : Int)) rfl (by decide) (by omega) ⟨by omega, by omega⟩ rfl ?_
              refine ef_goto (pc := 194) d25_194 (t := 29) rfl ?_
              exact ih (a + 1) st' M g2 _ _ (by omega) o2 e2 x2 hm s52 hs0' (by omega) (by omega) n62 (by rw [hME]; exact hR')
            · have hkl : k < (rxS kd y.1).length := by omega
              obtain ⟨w, hw, hdr⟩ := get_of_lt hkl
              rw [hdr, xIn] at hI
              refine ef_aload_n (pc := 96) d25_96 rfl ?_
              refine eg_getI (pc := 97) d25_97 lf_1_33 (by assumption) (by decide) ?_
              rw [e32]
              refine ef_iload_n (pc := 100) d25_100 rfl ?_
              refine ef_icmp_ge (pc := 101) d25_101 (t := 191) rfl (fun h101 => ?_) (fun h101 => ?_)
              · rw [if_pos (by omega)] at hI
                have hME : M = L' := hI
                refine ef_iinc (pc := 191) d25_191 (ls' := [_, _, _, _, _, _, _, _]) (z := ((a + 1 : Nat) : Int)) rfl (by decide) (by omega) ⟨by omega, by omega⟩ rfl ?_
                refine ef_goto (pc := 194) d25_194 (t := 29) rfl ?_
                exact ih (a + 1) st' M g2 _ _ (by omega) o2 e2 x2 hm s52 hs0' (by omega) (by omega) n62 (by rw [hME]; exact hR')
              · have hml : M.length < lim := by omega
                rw [if_neg (by omega)] at hI
                obtain ⟨z3, z4⟩ := y7 M.length (by omega)
                obtain ⟨t0, t1, t2, t3, t4, t5, t6, t7, t8⟩ := id z4
                obtain ⟨g11, g12, g13⟩ := e2.2 a y hay
                obtain ⟨p0, p1, p2, p3, p4, p5, p6, p7, p8⟩ := id z2
                have kd2 : g2 (tm + 1) = kd := (o2 _ (by omega) (by omega)).trans hkd
                have nm2 : g2 (tm + 2) = nm := (o2 _ (by omega) (by omega)).trans hnm
                have rp2 : g2 (tm + 3) = rp := (o2 _ (by omega) (by omega)).trans hrp
                have en2 : g2 (tm + 4) = en := (o2 _ (by omega) (by omega)).trans hen
                obtain ⟨ew, hew⟩ := rx_w vy hw
                refine ef_aload_n (pc := 104) d25_104 rfl ?_
                refine eg_getR (pc := 105) d25_105 lf_1_11 (by assumption) (by decide) (by assumption) ?_
                refine ef_aload_n (pc := 108) d25_108 rfl ?_
                refine eg_getI (pc := 109) d25_109 lf_1_33 (by assumption) (by decide) ?_
                rw [e32]
                refine eg_aald (pc := 112) d25_112 (i := M.length) (by assumption) (by decide) (rfl) (by omega) (by assumption) ?_
                refine ef_astore (pc := 113) d25_113 (ls' := [_, _, _, _, _, _, _, _]) rfl ?_
                refine ef_aload (pc := 115) d25_115 rfl ?_
                refine ef_aload_n (pc := 117) d25_117 rfl ?_
                refine eg_getR (pc := 118) d25_118 lf_1_11 (by assumption) (by decide) (by assumption) ?_
                refine ef_iload (pc := 121) d25_121 rfl ?_
                refine eg_aald (pc := 123) d25_123 (i := a) (by assumption) (by decide) (rfl) (by omega) (by assumption) ?_
                refine ef_aload_n (pc := 124) d25_124 rfl ?_
                refine eg_getR (pc := 125) d25_125 lf_1_24 (by assumption) (by decide) (by assumption) ?_
                refine ef_iload (pc := 128) d25_128 rfl ?_
                refine ef_aload_n (pc := 130) d25_130 rfl ?_
                refine ef_callV (pc := 131) d25_131 lm_1_55 (as := [_, _, _, _]) rfl rfl (by assumption) rfl rfl (by decide) (Nat.le_of_ble_eq_true rfl) rfl (Nat.le_of_ble_eq_true rfl) ?_
                refine Ec.imp (Ec.deep (by omega) (c49v (d := 0) z4 z2 y6 hTm (by omega) (by omega) (by omega) hch hT vy g11 g12 ly r2 hw (by omega) kd2 nm2 rp2 en2)) ?_
                rintro r131 u131 ⟨g3, rfl, rfl, o3, s3⟩
                have o23 := o2.of o3 (by omega) (by omega)
                have e33 : Ex g3 x M := e2.off (by rw [o3 x (by omega)]) (fun i hi => by rw [o3 (x + 2) (by omega)]) (fun q h4 h5 => o3 q (by omega))
                have s53 : g3 x 5 = st' := by rw [o3 x (by omega)]; exact s52
                have n63 : g3 x 6 = -1 := by rw [o3 x (by omega)]; exact n62
                have r3 : Rf g3 (x + 3) (rxS kd y.1) := r2.off (fun q h4 h5 => o3 q (by omega))
                refine ef_if_eq (pc := 134) d25_134 (t := 185) rfl (fun h134 => ?_) (fun h134 => ?_)
                · have hfl : (folF kd nm rp en w y.1).2.2.2.2 = true := by
                    cases hq : (folF kd nm rp en w y.1).2.2.2.2
                    · rw [hq] at h134; exact absurd h134 (by decide)
                    · rfl
                  have hst : xStep kd nm rp en y.1 y.2.2 w M = M := if_neg (by rw [hfl]; intro hh; cases hh.1)
                  have og := o23; have eg := e33; have sg := s53; have ng := n63; have rg := r3
                  refine ef_iinc (pc := 185) d25_185 (ls' := [_, _, _, _, _, _, _, _]) (z := ((k + 1 : Nat) : Int)) rfl (by decide) (by omega) ⟨by omega, by omega⟩ rfl ?_
                  refine ef_goto (pc := 188) d25_188 (t := 84) rfl ?_
                  exact ihk hkl M _ _ og eg x2 hm hay sg ng rg (by rw [hst] at hI; exact hI)
                · have hfl : (folF kd nm rp en w y.1).2.2.2.2 = false := by
                    cases hq : (folF kd nm rp en w y.1).2.2.2.2
                    · rfl
                    · rw [hq] at h134; exact absurd rfl h134
                  have vf := fol_vd (rp := rp) hT vy hew hfl
                  have nf := fol_nx (rp := rp) hT vy hew
                  have kd3 : g3 (tm + 1) = kd := (o23 _ (by omega) (by omega)).trans hkd
                  have nm3 : g3 (tm + 2) = nm := (o23 _ (by omega) (by omega)).trans hnm
                  have rp3 : g3 (tm + 3) = rp := (o23 _ (by omega) (by omega)).trans hrp
                  have en3 : g3 (tm + 4) = en := (o23 _ (by omega) (by omega)).trans hen
                  refine ef_aload (pc := 137) d25_137 rfl ?_
                  refine ef_aload (pc := 139) d25_139 rfl ?_
                  refine ef_aload_n (pc := 141) d25_141 rfl ?_
                  refine ef_callV (pc := 142) d25_142 lm_1_59 (as := [_, _]) rfl rfl (by assumption) rfl rfl (by decide) (Nat.le_of_ble_eq_true rfl) rfl (Nat.le_of_ble_eq_true rfl) ?_
                  refine Ec.imp (Ec.deep (by omega) (c58v (ht := ht) hA hTm z4 (by omega) (by omega) hsv hch hT vf s3 kd3 nm3 rp3 en3)) ?_
                  rintro r142 u142 ⟨g4, rfl, hq4⟩
                  rcases hq4 with ⟨l4, rfl, t4x, o4⟩ | ⟨l4, rfl, o4⟩
                  · have og : Of2 l x g g4 := fun q h4 h5 => by
                      by_cases hq : q < x + 8 + 21 * M.length + 19 ∨ x + 8 + 21 * M.length + 21 ≤ q
                      · exact (o4 q h4 hq).trans (o23 q h4 h5)
                      · omega
                    have eg : Ex g4 x M := e33.off (by rw [o4 x (by omega) (by omega)]) (fun i hi => by rw [o4 (x + 2) (by omega) (by omega)]) (fun q h4 h5 => o4 q (by omega) (by omega))
                    have sg : g4 x 5 = st' := by rw [o4 x (by omega) (by omega)]; exact s53
                    have ng : g4 x 6 = -1 := by rw [o4 x (by omega) (by omega)]; exact n63
                    have rg : Rf g4 (x + 3) (rxS kd y.1) := r3.off (fun q h4 h5 => o4 q (by omega) (by omega))
                    have sg4 : SR g4 (x + 8 + 21 * M.length) (folF kd nm rp en w y.1) := s3.off (fun q h4 h5 => o4 q (by omega) (by omega))
                    have e34 := eg.1
                    have d4 := (eg.2 a y hay).2.2
                    have hm4 : ∀ z, z ∈ M → z.2.1.length ≤ 240 := fun z hz => by
                      obtain ⟨i, hi⟩ := List.getElem?_of_mem hz
                      exact (x2 i z hi).2.2.1
                    refine ef_if_eqF (pc := 145) d25_145 (t := 185) rfl (by decide) ?_
                    refine ef_aload_n (pc := 148) d25_148 rfl ?_
                    refine ef_aload (pc := 149) d25_149 rfl ?_
                    refine ef_callV (pc := 151) d25_151 lm_1_65 (as := [_]) rfl rfl (by assumption) rfl rfl (by decide) (Nat.le_of_ble_eq_true rfl) rfl (Nat.le_of_ble_eq_true rfl) ?_
                    refine Ec.imp (Ec.deep (by omega) (c26 (d := 0) hX z4 eg (by omega) t4x l4 hm4)) ?_
                    rintro r151 u151 ⟨rfl, rfl⟩
                    refine ef_if_eq (pc := 154) d25_154 (t := 185) rfl (fun h154 => ?_) (fun h154 => ?_)
                    · have hnw := b01_t h154
                      have hst : xStep kd nm rp en y.1 y.2.2 w M = M := if_neg (by rw [hnw]; intro hh; cases hh.2.2)
                      refine ef_iinc (pc := 185) d25_185 (ls' := [_, _, _, _, _, _, _, _]) (z := ((k + 1 : Nat) : Int)) rfl (by decide) (by omega) ⟨by omega, by omega⟩ rfl ?_
                      refine ef_goto (pc := 188) d25_188 (t := 84) rfl ?_
                      first
                      | exact ihk hkl M _ _ og eg x2 hm hay sg ng rg (by rw [hst] at hI; exact hI)
                      | (refine ihk hkl _ _ _ ?_ ?_ (x2.snoc ⟨vf, rfl, l4, by show 0 ≤ y.2.2 + 1; omega, by show y.2.2 + 1 ≤ (M.length : Int); omega, by show (folF kd nm rp en w y.1).2.2.2.1 ≤ A.2.2.2.1 + 50 * (y.2.2 + 1); omega⟩) ?_ ?_ ?_ ?_ ?_ hI
                         · exact (og.of (lo := x) (hi := x + 3) (g2 := u2 g4 (x + 2) M.length (y.2.2 + 1)) (Off.refl.up (by omega) (by omega)) (by omega) (by omega)).of (lo := x) (hi := x + 3) (Off.refl.up (by omega) (by omega)) (by omega) (by omega)
                         · refine Ex.snoc (g := u2 g4 (x + 2) M.length (y.2.2 + 1)) ?_ ?_ ?_ ?_ u2_at (fun q hq => u2_ne hq)
                           · exact eg.off (by rw [u2_ne (by omega)]) (fun i hi => by rw [u2_ni (by omega)]) (fun q h4 h5 => u2_ne (by omega))
                           · exact sg4.off (fun q h4 h5 => u2_ne (by omega))
                           · exact t4x.off (fun q h4 h5 => u2_ne (by omega))
                           · exact u2_at
                         · rw [List.length_append]; show M.length + 1 ≤ lim; omega
                         · rw [List.getElem?_append_left (by omega)]; exact hay
                         · rw [u2_ni (by omega), u2_ne (by omega)]; exact sg
                         · rw [u2_ni (by omega), u2_ne (by omega)]; exact ng
                         · exact (rg.off (g' := u2 g4 (x + 2) M.length (y.2.2 + 1)) (fun q h4 h5 => u2_ne (by omega))).off (fun q h4 h5 => u2_ne (by omega)))
                    · have hnw := b01_f h154
                      have hst : xStep kd nm rp en y.1 y.2.2 w M = M ++ [(folF kd nm rp en w y.1, (teS kd nm rp en (folF kd nm rp en w y.1), y.2.2 + 1))] := if_pos ⟨hfl, l4, hnw⟩
                      rw [hst] at hI
                      refine ef_aload_n (pc := 157) d25_157 rfl ?_
                      refine eg_getR (pc := 158) d25_158 lf_1_17 (by assumption) (by decide) (by assumption) ?_
                      refine ef_aload_n (pc := 161) d25_161 rfl ?_
                      refine eg_getI (pc := 162) d25_162 lf_1_33 (by assumption) (by decide) ?_
                      try simp (disch := omega) only [u2_ne, u2_at, u2_ni, ur_ne, ur_eq]
                      rw [e34]
                      refine ef_aload_n (pc := 165) d25_165 rfl ?_
                      refine eg_getR (pc := 166) d25_166 lf_1_17 (by assumption) (by decide) (by assumption) ?_
                      refine ef_iload (pc := 169) d25_169 rfl ?_
                      refine eg_iald (pc := 171) d25_171 (i := a) (by assumption) (rfl) (by omega) ?_
                      try simp (disch := omega) only [u2_ne, u2_at, u2_ni, ur_ne, ur_eq]
                      rw [d4]
                      refine ef_iconst (pc := 172) d25_172 (by decide) ?_
                      refine ef_iadd (pc := 173) d25_173 rfl ⟨by omega, by omega⟩ ?_
                      refine eg_iast (pc := 174) d25_174 (i := M.length) (by assumption) (rfl) (by omega) rfl ?_
                      have e5 : u2 g4 (x + 2) M.length (y.2.2 + 1) x 3 = (M.length : Int) := by rw [u2_ne (by omega)]; exact e34
                      refine ef_aload_n (pc := 175) d25_175 rfl ?_
                      refine ef_dup (pc := 176) d25_176 rfl ?_
                      refine eg_getI (pc := 177) d25_177 lf_1_33 (by assumption) (by decide) ?_
                      rw [e5]
                      refine ef_iconst (pc := 180) d25_180 (by decide) ?_
                      refine ef_iadd (pc := 181) d25_181 (z := ((M.length + 1 : Nat) : Int)) (by omega) ⟨by omega, by omega⟩ ?_
                      refine eg_putI (pc := 182) d25_182 pf_25_33 (by assumption) (by decide) ?_
                      refine ef_iinc (pc := 185) d25_185 (ls' := [_, _, _, _, _, _, _, _]) (z := ((k + 1 : Nat) : Int)) rfl (by decide) (by omega) ⟨by omega, by omega⟩ rfl ?_
                      refine ef_goto (pc := 188) d25_188 (t := 84) rfl ?_
                      first
                      | exact ihk hkl M _ _ og eg x2 hm hay sg ng rg (by rw [hst] at hI; exact hI)
                      | (refine ihk hkl _ _ _ ?_ ?_ (x2.snoc ⟨vf, rfl, l4, by show 0 ≤ y.2.2 + 1; omega, by show y.2.2 + 1 ≤ (M.length : Int); omega, by show (folF kd nm rp en w y.1).2.2.2.1 ≤ A.2.2.2.1 + 50 * (y.2.2 + 1); omega⟩) ?_ ?_ ?_ ?_ ?_ hI
                         · exact (og.of (lo := x) (hi := x + 3) (g2 := u2 g4 (x + 2) M.length (y.2.2 + 1)) (Off.refl.up (by omega) (by omega)) (by omega) (by omega)).of (lo := x) (hi := x + 3) (Off.refl.up (by omega) (by omega)) (by omega) (by omega)
                         · refine Ex.snoc (g := u2 g4 (x + 2) M.length (y.2.2 + 1)) ?_ ?_ ?_ ?_ u2_at (fun q hq => u2_ne hq)
                           · exact eg.off (by rw [u2_ne (by omega)]) (fun i hi => by rw [u2_ni (by omega)]) (fun q h4 h5 => u2_ne (by omega))
                           · exact sg4.off (fun q h4 h5 => u2_ne (by omega))
                           · exact t4x.off (fun q h4 h5 => u2_ne (by omega))
                           · exact u2_at
                         · rw [List.length_append]; show M.length + 1 ≤ lim; omega
                         · rw [List.getElem?_append_left (by omega)]; exact hay
                         · rw [u2_ni (by omega), u2_ne (by omega)]; exact sg
                         · rw [u2_ni (by omega), u2_ne (by omega)]; exact ng
                         · exact (rg.off (g' := u2 g4 (x + 2) M.length (y.2.2 + 1)) (fun q h4 h5 => u2_ne (by omega))).off (fun q h4 h5 => u2_ne (by omega)))
                  · have hst : xStep kd nm rp en y.1 y.2.2 w M = M := if_neg (by intro hh; have := hh.2.1; omega)
                    have og : Of2 l x g g4 := fun q h4 h5 => (o4 q (by omega)).trans (o23 q h4 h5)
                    have eg : Ex g4 x M := e33.off (by rw [o4 x (by omega)]) (fun i hi => by rw [o4 (x + 2) (by omega)]) (fun q h4 h5 => o4 q (by omega))
                    have sg : g4 x 5 = st' := by rw [o4 x (by omega)]; exact s53
                    have ng : g4 x 6 = -1 := by rw [o4 x (by omega)]; exact n63
                    have rg : Rf g4 (x + 3) (rxS kd y.1) := r3.off (fun q h4 h5 => o4 q (by omega))
                    refine ef_if_eqT (pc := 145) d25_145 (t := 185) rfl (by decide) ?_
                    refine ef_iinc (pc := 185) d25_185 (ls' := [_, _, _, _, _, _, _, _]) (z := ((k + 1 : Nat) : Int)) rfl (by decide) (by omega) ⟨by omega, by omega⟩ rfl ?_
                    refine ef_goto (pc := 188) d25_188 (t := 84) rfl ?_
                    exact ihk hkl M _ _ og eg x2 hm hay sg ng rg (by rw [hst] at hI; exact hI)
          refine ef_aload_n (pc := 46) d25_46 rfl ?_
          refine eg_getR (pc := 47) d25_47 lf_1_24 (by assumption) (by decide) (by assumption) ?_
          refine ef_aload_n (pc := 50) d25_50 rfl ?_
          refine eg_getR (pc := 51) d25_51 lf_1_11 (by assumption) (by decide) (by assumption) ?_
          refine ef_iload (pc := 54) d25_54 rfl ?_
          refine eg_aald (pc := 56) d25_56 (i := a) (by assumption) (by decide) (rfl) (by omega) (by assumption) ?_
          refine ef_aload_n (pc := 57) d25_57 rfl ?_
          refine ef_callV (pc := 58) d25_58 lm_1_50 (as := [_, _]) rfl rfl (by assumption) rfl rfl (by decide) (Nat.le_of_ble_eq_true rfl) rfl (Nat.le_of_ble_eq_true rfl) ?_
          refine Ec.imp (c34v (d := 47) y6 z2 hTm (by omega) (by omega) f1 vy hT.1.1 hkd1) ?_
          rintro r58 u58 ⟨g6, rfl, rfl, o5, f6⟩
          have r6 : Rf g6 (x + 3) (rxS kd y.1) := f6
          have o6 : Of2 l x g g6 := o1.of o5 (by omega) (by omega)
          have e6 : Ex g6 x L := e1.off (by rw [o5 x (by omega)]) (fun i hi => by rw [o5 (x + 2) (by omega)]) (fun q h4 h5 => o5 q (by omega))
          have s6 : g6 x 5 = st := by rw [o5 x (by omega)]; exact s5
          have n66 : g6 x 6 = -1 := by rw [o5 x (by omega)]; exact n6
          have r64 := r6.1
          refine ef_aload_n (pc := 61) d25_61 rfl ?_
          refine eg_getR (pc := 62) d25_62 lf_1_24 (by assumption) (by decide) (by assumption) ?_
          refine eg_getI (pc := 65) d25_65 lf_1_54 (by assumption) (by decide) ?_
          try simp (disch := omega) only [u2_ne, u2_at, u2_ni, ur_ne, ur_eq]
          rw [r64]
          refine ef_if_ne (pc := 68) d25_68 (t := 81) rfl (fun h68 => ?_) (fun h68 => ?_)
          · rw [if_neg (by omega)] at hR
            refine ef_iconst (pc := 81) d25_81 (by decide) ?_
            refine ef_istore (pc := 82) d25_82 (ls' := [_, _, _, _, _, _, _, _]) rfl ?_
            first
            | exact inner st rfl hs0 (by omega) hR 0 (Nat.zero_le _) L _ _ o6 e6 x1 hl hy s6 n66 r6 (by rw [List.drop_zero]; exact hL')
            | (refine inner (st + 1) rfl (by omega) (by omega) hR 0 (Nat.zero_le _) L _ _ (o6.of (lo := x) (hi := x + 1) (Off.refl.up (by omega) (by omega)) (by omega) (by omega)) (e6.off (u2_ni (by omega)) (fun i hi => by rw [u2_ne (by omega)]) (fun q h4 h5 => u2_ne (by omega))) x1 hl hy u2_at ?_ ?_ (by rw [List.drop_zero]; exact hL')
               · rw [u2_ni (by omega)]; exact n66
               · exact r6.off (fun q h4 h5 => u2_ne (by omega)))
          · rw [if_pos (by omega)] at hR
            refine ef_aload_n (pc := 71) d25_71 rfl ?_
            refine ef_dup (pc := 72) d25_72 rfl ?_
            refine eg_getI (pc := 73) d25_73 lf_1_40 (by assumption) (by decide) ?_
            try simp (disch := omega) only [u2_ne, u2_at, u2_ni, ur_ne, ur_eq]
            rw [s6]
            refine ef_iconst (pc := 76) d25_76 (by decide) ?_
            refine ef_iadd (pc := 77) d25_77 rfl ⟨by omega, by omega⟩ ?_
            refine eg_putI (pc := 78) d25_78 pf_25_40 (by assumption) (by decide) ?_
            refine ef_iconst (pc := 81) d25_81 (by decide) ?_
            refine ef_istore (pc := 82) d25_82 (ls' := [_, _, _, _, _, _, _, _]) rfl ?_
            first
            | exact inner st rfl hs0 (by omega) hR 0 (Nat.zero_le _) L _ _ o6 e6 x1 hl hy s6 n66 r6 (by rw [List.drop_zero]; exact hL')
            | (refine inner (st + 1) rfl (by omega) (by omega) hR 0 (Nat.zero_le _) L _ _ (o6.of (lo := x) (hi := x + 1) (Off.refl.up (by omega) (by omega)) (by omega) (by omega)) (e6.off (u2_ni (by omega)) (fun i hi => by rw [u2_ne (by omega)]) (fun q h4 h5 => u2_ne (by omega))) x1 hl hy u2_at ?_ ?_ (by rw [List.drop_zero]; exact hL')
               · rw [u2_ni (by omega)]; exact n66
               · exact r6.off (fun q h4 h5 => u2_ne (by omega)))
  obtain ⟨z1, z2⟩ := y7 0 (by omega)
  obtain ⟨p0, p1, p2, p3, p4, p5, p6, p7, p8⟩ := id z2
  have hv := id hV
  change Ef P _ 25 0 [some (vR x), some (vR s), some (vI (lim : Int)), some (vR tm), some (vR l), none, none, none] [] _ _
  refine ef_aload_n (pc := 0) d25_0 rfl ?_
  refine ef_callV (pc := 1) d25_1 lm_1_43 (as := []) rfl rfl (by assumption) rfl rfl (by decide) (Nat.le_of_ble_eq_true rfl) rfl (Nat.le_of_ble_eq_true rfl) ?_
  refine Ec.imp (c24 hX) ?_
  rintro r1 u1 ⟨g1, rfl, rfl, o1, f3, f4, f5, f6⟩
  have hSr : Sr g1 s A.1 A.2.1 A.2.2.1 A.2.2.2.1 := by
    have := hS.off (g' := g1) (fun q h4 h5 => o1 q (by omega))
    exact ⟨this.1, this.2.1, this.2.2.1, this.2.2.2.1⟩
  have hT1 : Ln g1 (s + 19) (teS kd nm rp en A) := hTx.off (fun q h4 h5 => o1 q (by omega))
  refine ef_aload_n (pc := 4) d25_4 rfl ?_
  refine eg_getR (pc := 5) d25_5 lf_1_11 (by assumption) (by decide) (by assumption) ?_
  refine ef_iconst (pc := 8) d25_8 (by decide) ?_
  refine eg_aald (pc := 9) d25_9 (i := 0) (by assumption) (by decide) (rfl) (by omega) (by assumption) ?_
  refine ef_aload_n (pc := 10) d25_10 rfl ?_
  refine ef_callV (pc := 11) d25_11 lm_1_46 (as := [_]) rfl rfl (by assumption) rfl rfl (by decide) (Nat.le_of_ble_eq_true rfl) rfl (Nat.le_of_ble_eq_true rfl) ?_
  refine Ec.imp (c50 (d := 47) z2 hs hSr hT1 hV.2.2.1 hV.2.2.2.1 hV.2.2.2.2.1 h240 (by omega)) ?_
  rintro r11 u11 ⟨g2, rfl, rfl, o2, sr2, fl2, t2⟩
  have sr2b : SR g2 (x + 8 + 21 * 0) A := ⟨sr2.1, sr2.2.1, sr2.2.2.1, sr2.2.2.2, by rw [fl2, hV.1]; rfl, hV.2.2.1, hV.2.2.2.1, hV.2.2.2.2.1⟩
  refine ef_aload_n (pc := 14) d25_14 rfl ?_
  refine eg_getR (pc := 15) d25_15 lf_1_17 (by assumption) (by decide) (by assumption) ?_
  refine ef_iconst (pc := 18) d25_18 (by decide) ?_
  refine ef_iconst (pc := 19) d25_19 (by decide) ?_
  refine eg_iast (pc := 20) d25_20 (i := 0) (by assumption) (rfl) (by omega) rfl ?_
  refine ef_aload_n (pc := 21) d25_21 rfl ?_
  refine ef_iconst (pc := 22) d25_22 (by decide) ?_
  refine eg_putI (pc := 23) d25_23 pf_25_33 (by assumption) (by decide) ?_
  refine ef_iconst (pc := 26) d25_26 (by decide) ?_
  refine ef_istore (pc := 27) d25_27 (ls' := [_, _, _, _, _, _, _, _]) rfl ?_
  refine outer 30 0 0 [(A, (teS kd nm rp en A, 0))] _ _ _ (by omega) ?_ ?_ ?_ hl1 ?_ (by omega) (by omega) (by omega) ?_ hRES
  · intro q h4 h5
    rw [u2_ne (by omega), u2_ne (by omega), o2 q (by omega), o1 q (by omega)]
  · refine ⟨u2_at, ?_⟩
    intro i y hy
    have hi : i = 0 := by
      have := (List.getElem?_eq_some_iff.mp hy).1
      simp only [List.length_cons, List.length_nil] at this
      omega
    subst hi
    cases hy
    refine ⟨sr2b.off (fun q h4 h5 => by rw [u2_ne (by omega), u2_ne (by omega)]), t2.off (fun q h4 h5 => by rw [u2_ne (by omega), u2_ne (by omega)]), ?_⟩
    rw [u2_ne (by omega), u2_at]
  · intro i y hy
    have hi : i = 0 := by
      have := (List.getElem?_eq_some_iff.mp hy).1
      simp only [List.length_cons, List.length_nil] at this
      omega
    subst hi
    cases hy
    exact ⟨hV, rfl, h240, Int.le_refl _, Int.le_refl _, by show A.2.2.2.1 ≤ A.2.2.2.1 + 50 * 0; omega⟩
  · rw [u2_ni (by omega), u2_ne (by omega), o2 x (by omega)]; exact f5
  · rw [u2_ni (by omega), u2_ne (by omega), o2 x (by omega)]; exact f6
