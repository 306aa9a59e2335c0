/-! The class's states and the model's: slots by number. Pure, by hand. -/
def pNo (g : Nat → Nat → Int) (m q : Nat) : Int := if q = 0 then -1 else g (m + 12) q
def InS (g : Nat → Nat → Int) (m : Nat) (x w : Int) : Prop := ∃ q : Nat, x = (q : Int) ∧ q < 21 ∧ w = pNo g m q ∧ (q ≠ 0 → 0 ≤ g (m + 12) q)
def MnR (a b : Int) : Prop := ∃ x y z : Nat, x < 7 ∧ y < 7 ∧ z < 7 ∧ a = ((x + 8 * y + 64 * z : Nat) : Int) ∧ b = ((x + 16 * y + 256 * z : Nat) : Int)
def RlP (g : Nat → Nat → Int) (m : Nat) (ps : List Tg) : Prop := (∀ q, 1 ≤ q → q < 21 → 0 ≤ g (m + 12) q → ∃ e, e ∈ ps ∧ e.1 = g (m + 12) q ∧ e.2.2.1 = g (m + 13) q ∧ InS g m (g (m + 14) q) e.2.1) ∧ (∀ e, e ∈ ps → ∃ q, 1 ≤ q ∧ q < 21 ∧ g (m + 12) q = e.1) ∧ ∀ q q', 1 ≤ q → q < 21 → 1 ≤ q' → q' < 21 → 0 ≤ g (m + 12) q → g (m + 12) q = g (m + 12) q' → q = q'
def RlG (g : Nat → Nat → Int) (m : Nat) (gs : List Tg) : Prop := (∀ k, k < 40 → 0 ≤ g (m + 15) k → ∃ e, e ∈ gs ∧ e.1 = g (m + 15) k ∧ e.2.2.2.1 = g (m + 16) k ∧ InS g m (g (m + 17) k) e.2.1 ∧ MnR e.2.2.2.2 (g (m + 18) k)) ∧ (∀ e, e ∈ gs → ∃ k, k < 40 ∧ g (m + 15) k = e.1) ∧ ∀ k k', k < 40 → k' < 40 → 0 ≤ g (m + 15) k → g (m + 15) k = g (m + 15) k' → k = k'
def RlM (g : Nat → Nat → Int) (m : Nat) (ms : List Tg) : Prop := (∀ k, k < 30 → 0 ≤ g (m + 19) k → ∃ e, e ∈ ms ∧ e.1 = g (m + 19) k ∧ e.2.2.1 = g (m + 20) k ∧ InS g m (g (m + 21) k) e.2.1) ∧ (∀ e, e ∈ ms → ∃ k, k < 30 ∧ g (m + 19) k = e.1) ∧ ∀ k k', k < 30 → k' < 30 → 0 ≤ g (m + 19) k → g (m + 19) k = g (m + 19) k' → k = k'
def Rel (g : Nat → Nat → Int) (m : Nat) (A : SS) : Prop := RlP g m A.1 ∧ RlG g m A.2.1 ∧ RlM g m A.2.2.1 ∧ g m 28 = A.2.2.2.1
def nmM (c : Int) : Int := if c < 120 then c - 97 else c - 114
def kdM (k : Int) : Int := if k = 4 then 0 else if k = 5 then 1 else k + 2
/-- the nodes beside one another, from n up to e -/
def Chn (nx : Nat → Int) (af : Nat → Nat) : Nat → Nat → Nat → Prop
  | 0, _, _ => True
  | f + 1, n, e => n < e → nx n = (if af n < e then ((af n : Nat) : Int) else -1) ∧ Chn nx af f (af n) e
def TrR (g : Nat → Nat → Int) (m : Nat) (kd nm rp en : Nat → Int) (sz : Nat) : Prop := (∀ n, n < sz → g (m + 3) n = kdM (kd n) ∧ g (m + 5) n = nmM (nm n) ∧ g (m + 4) n = rp n ∧ (rp n = 0 ∨ rp n = 1) ∧ g (m + 6) n = (if n + 1 < afF en n then ((n + 1 : Nat) : Int) else -1) ∧ Chn (g (m + 8)) (afF en) 51 (n + 1) (afF en n)) ∧ (0 < sz → g (m + 6) 50 = 0) ∧ Chn (g (m + 8)) (afF en) 51 0 sz
theorem rs_all : ∀ a : Nat, a < 7 → ∀ b : Nat, b < 7 → ∀ c : Nat, c < 7 → rsF 6 ((a + 16 * b + 256 * c : Nat) : Int) = (a : Int) - 1 ∧ rsF 7 ((a + 16 * b + 256 * c : Nat) : Int) = (b : Int) - 1 ∧ rsF 8 ((a + 16 * b + 256 * c : Nat) : Int) = (c : Int) - 1 := by decide +kernel
theorem mt_rs {c a b : Int} (h : MnR a b) (hc : (97 ≤ c ∧ c ≤ 102) ∨ (120 ≤ c ∧ c ≤ 122)) : rsF (nmM c) b = mtF c a := by
  obtain ⟨x, y, z, hx, hy, hz, rfl, rfl⟩ := h
  rcases hc with hc | hc
  · unfold nmM mtF rsF
    rw [if_pos (show c < 120 by omega), if_pos (by omega), if_pos (by omega)]
  · have h1 := mt_all x hx y hy z hz
    have h2 := rs_all x hx y hy z hz
    have hc3 : c = 120 ∨ c = 121 ∨ c = 122 := by omega
    rcases hc3 with rfl | rfl | rfl
    · rw [show nmM 120 = 6 from rfl, h1.1, h2.1]
    · rw [show nmM 121 = 7 from rfl, h1.2.1, h2.2.1]
    · rw [show nmM 122 = 8 from rfl, h1.2.2, h2.2.2]
theorem nmM_rg {c : Int} (hc : (97 ≤ c ∧ c ≤ 102) ∨ (120 ≤ c ∧ c ≤ 122)) : 0 ≤ nmM c ∧ nmM c ≤ 8 := by
  unfold nmM
  split <;> omega
theorem InS.eq {g : Nat → Nat → Int} {m : Nat} {x w w' : Int} (h : InS g m x w) (h' : InS g m x w') : w = w' := by
  obtain ⟨q, h1, h2, h3, -⟩ := h
  obtain ⟨q', h1', h2', h3', -⟩ := h'
  have : q = q' := by omega
  subst this
  rw [h3, h3']
/-- the place of a slot -/
theorem RlP.at {g : Nat → Nat → Int} {m : Nat} {ps : List Tg} (h : RlP g m ps) {e : Tg} (he : e ∈ ps) {nx : Int} (hi : Inc ps nx) : ∃ q, 1 ≤ q ∧ q < 21 ∧ g (m + 12) q = e.1 ∧ e.2.2.1 = g (m + 13) q ∧ InS g m (g (m + 14) q) e.2.1 := by
  obtain ⟨q, h1, h2, h3⟩ := h.2.1 e he
  obtain ⟨e', he', h4, h5, h6⟩ := h.1 q h1 h2 (by rw [h3]; exact (hi.2 e he).1)
  have : e' = e := hi.one he' he (h4.trans h3)
  subst this
  exact ⟨q, h1, h2, h3, h5, h6⟩
theorem InS.sl {g : Nat → Nat → Int} {m : Nat} {ps : List Tg} (h : RlP g m ps) {q : Nat} {e : Tg} {x : Int} (hx : InS g m x e.1) (hq : x = (q : Int)) (hq1 : 1 ≤ q) : g (m + 12) q = e.1 := by
  obtain ⟨q', h1, h2, h3, -⟩ := hx
  have : q = q' := by omega
  subst this
  unfold pNo at h3
  rw [if_neg (by omega)] at h3
  exact h3.symm
/-- two slots' contents say the same place exactly if they are the same -/
theorem InS.iff {g : Nat → Nat → Int} {m : Nat} {ps : List Tg} (h : RlP g m ps) {x y w v : Int} (hx : InS g m x w) (hy : InS g m y v) : x = y ↔ w = v := by
  obtain ⟨q, h1, h2, h3, h4⟩ := hx
  obtain ⟨r, h5, h6, h7, h8⟩ := hy
  constructor
  · intro hh
    have : q = r := by omega
    subst this
    rw [h3, h7]
  · intro hh
    rw [h3, h7] at hh
    unfold pNo at hh
    by_cases hq : q = 0
    · by_cases hr : r = 0
      · omega
      · rw [if_pos hq, if_neg hr] at hh
        have := h8 hr
        omega
    · by_cases hr : r = 0
      · rw [if_neg hq, if_pos hr] at hh
        have := h4 hq
        omega
      · rw [if_neg hq, if_neg hr] at hh
        have := h.2.2 q r (by omega) h2 (by omega) h6 (h4 hq) hh
        omega
theorem kdM_inj {a : Int} (h0 : 0 ≤ a) (h5 : a ≤ 5) : (kdM a = 5 ↔ a = 3) ∧ (kdM a = 4 ↔ a = 2) ∧ (kdM a = 2 ↔ a = 0) ∧ (kdM a = 3 ↔ a = 1) ∧ (kdM a = 0 ↔ a = 4) ∧ (kdM a = 1 ↔ a = 5) := by
  unfold kdM
  (repeat split) <;> omega
theorem isR_rx {g : Nat → Nat → Int} {m sz : Nat} {kd nm rp en : Nat → Int} {ht : Nat → Nat} {A : SS} (hT : TmOk kd nm en sz ht) (hR : TrR g m kd nm rp en sz) (hA : Rel g m A) (hV : Vd kd nm sz A) {k o n q : Nat} (hk : k < 40) (ho1 : 1 ≤ o) (ho : o < 51) (hgn : 0 ≤ g (m + 15) k → g (m + 16) k = (n : Int) ∧ g (m + 17) k = (q : Int)) : isR g m k o n q ↔ ∃ w, w ∈ rxS kd A ∧ w.2 = (g (m + 15) k, oNum g m o) := by
  obtain ⟨v1, v2, v3, v4, v5, v6, v7, v8, v9, v10, v11, v12, v13, v14, v15, v16⟩ := id hV
  obtain ⟨rp1, rg1, rm1, -⟩ := hA
  -- the other: a place or a message
  have oth : 0 ≤ oNum g m o → (o < 21 ∧ ∃ p, p ∈ A.1 ∧ p.1 = oNum g m o ∧ p.2.2.1 = g (m + 13) o ∧ InS g m (g (m + 14) o) p.2.1) ∨ (21 ≤ o ∧ ∃ p, p ∈ A.2.2.1 ∧ p.1 = oNum g m o ∧ InS g m (g (m + 21) (o - 21)) p.2.1) := by
    intro h0
    unfold oNum at h0 ⊢
    by_cases h21 : o < 21
    · rw [if_pos h21] at h0 ⊢
      exact Or.inl ⟨h21, rp1.1 o ho1 h21 h0⟩
    · rw [if_neg h21] at h0 ⊢
      obtain ⟨e, he, h1, -, h3⟩ := rm1.1 (o - 21) (by omega) h0
      exact Or.inr ⟨by omega, e, he, h1, h3⟩
  have hx : ∀ {w : Rd}, w ∈ rxs kd A.1 A.2.1 A.2.2.1 ↔ ∃ e, RxV kd A w e := rx_mem v6
  by_cases hg0 : 0 ≤ g (m + 15) k
  · obtain ⟨e, he, e1, e2, e3, e4⟩ := rg1.1 k hk hg0
    obtain ⟨hn, hq⟩ := hgn hg0
    obtain ⟨n', hn1, hn2, hk0, hk3, hnm, hmn⟩ := v16 e he
    have hnn : n' = n := by omega
    subst hnn
    obtain ⟨t1, t2, t3, t4, t5, t6⟩ := hR.1 n' hn2
    have tk := kdM_inj (a := kd n') hk0 (by omega)
    have tc := (hT.2.2 n' hn2).2.2.2.2.1
    have hname : rsF (g (m + 5) n') (g (m + 18) k) = e.2.2.1 := by rw [t2, hnm]; exact mt_rs e4 tc
    rw [hq] at e3
    have htn : e.2.2.2.1.toNat = n' := by rw [hn1]; rfl
    -- the place q
    have plq : q ≠ 0 → ∃ f, f ∈ A.1 ∧ f.1 = e.2.1 ∧ f.1 = g (m + 12) q ∧ InS g m (g (m + 14) q) f.2.1 := by
      intro hq0
      obtain ⟨q', h1, h2, h3, h4⟩ := e3
      have : q' = q := by omega
      subst this
      obtain ⟨f, hf, f1, -, f3⟩ := rp1.1 q' (by omega) h2 (h4 hq0)
      refine ⟨f, hf, ?_, f1, f3⟩
      rw [h3, f1]; unfold pNo; rw [if_neg hq0]
    have hq0 : e.2.1 = -1 ↔ q = 0 := by
      obtain ⟨q', h1, h2, h3, h4⟩ := id e3
      have : q' = q := by omega
      subst this
      constructor
      · intro hh
        refine Classical.byContradiction fun hne => ?_
        have := h4 hne
        rw [h3] at hh
        unfold pNo at hh
        rw [if_neg hne] at hh
        omega
      · intro hh; rw [h3]; unfold pNo; rw [if_pos hh]
    constructor
    · rintro ⟨-, h0, h⟩
      rw [t1, hname] at h
      rcases oth h0 with ⟨ol, p, hp, p1, p2, p3⟩ | ⟨ol, p, hp, p1, p3⟩
      · rcases h with ⟨-, h, -⟩ | ⟨h5, -, hna, h⟩
        · omega
        · rcases h with ⟨h4, hin⟩ | ⟨h4, hqq, h⟩
          · refine ⟨(2, (e.1, p.1)), hx.mpr ⟨e, he, rfl, Or.inr (Or.inr (Or.inl ⟨by rw [htn]; exact tk.2.1.mp h4, rfl, p, hp, ?_, by rw [p2]; exact hna, rfl⟩))⟩, by rw [e1, p1]⟩
            rw [hin] at p3
            exact p3.eq e3
          · obtain ⟨f, hf, f1, f2, f3⟩ := plq hqq
            rcases h with ⟨h2, hne, hin⟩ | ⟨h2, hin⟩
            · refine ⟨(0, (e.1, p.1)), hx.mpr ⟨e, he, rfl, Or.inl ⟨by rw [htn]; exact tk.2.2.1.mp h2, rfl, f, p, hf, hp, f1, ?_, ?_, by rw [p2]; exact hna, rfl⟩⟩, by rw [e1, p1]⟩
              · intro hh
                rw [p1, f2] at hh
                unfold oNum at hh h0
                rw [if_pos ol] at hh h0
                obtain ⟨q', h1, h2', -⟩ := e3
                exact hne (rp1.2.2 o q ho1 ol (by omega) (by omega) h0 hh)
              · rw [hin] at p3; exact p3.eq f3
            · have hk1 : kd n' = 1 := by
                have a := mt (tk.1.mpr) h5
                have b := mt (tk.2.1.mpr) h4
                have c := mt (tk.2.2.1.mpr) h2
                omega
              refine ⟨(1, (e.1, p.1)), hx.mpr ⟨e, he, rfl, Or.inr (Or.inl ⟨by rw [htn]; exact hk1, rfl, f, p, hf, hp, f1, ?_, by rw [p2]; exact hna, rfl⟩)⟩, by rw [e1, p1]⟩
              obtain ⟨q', h1, h2', h3, -⟩ := f3
              have : q' = o := by omega
              subst this
              rw [h3, p1]; unfold pNo oNum; rw [if_pos ol, if_neg (show ¬ q' = 0 by omega)]
      · rcases h with ⟨h5, -, hin⟩ | ⟨-, h, -⟩
        · have := tk.1.mp h5
          refine ⟨(3, (e.1, p.1)), hx.mpr ⟨e, he, rfl, Or.inr (Or.inr (Or.inr ⟨by rw [htn]; omega, by rw [htn]; omega, by rw [htn]; omega, rfl, p, hp, ?_, rfl⟩))⟩, by rw [e1, p1]⟩
          rw [hin] at p3
          exact p3.eq e3
        · omega
    · rintro ⟨w, hw, hw2⟩
      obtain ⟨e', he', we, hh⟩ := hx.mp hw
      have hw21 : w.2.1 = g (m + 15) k := by rw [hw2]
      have hw22 : w.2.2 = oNum g m o := by rw [hw2]
      have hee : e' = e := v7.one he' he (by rw [← we, hw21, e1])
      subst hee
      rw [htn] at hh
      have h0 : 0 ≤ oNum g m o := by
        rw [← hw22]
        rcases hh with ⟨-, -, q1, o1, -, ho1, -, -, -, -, h⟩ | ⟨-, -, q1, o1, -, ho1, -, -, -, h⟩ | ⟨-, -, o1, ho1, -, -, h⟩ | ⟨-, -, -, -, o1, ho1, -, h⟩
        · rw [h]; exact (v6.2 o1 ho1).1
        · rw [h]; exact (v6.2 o1 ho1).1
        · rw [h]; exact (v6.2 o1 ho1).1
        · rw [h]; exact (v8.2 o1 ho1).1
      refine ⟨hg0, h0, ?_⟩
      rw [t1, hname]
      -- a place: which one
      have plo : ∀ p', p' ∈ A.1 → w.2.2 = p'.1 → o < 21 ∧ p'.2.2.1 = g (m + 13) o ∧ InS g m (g (m + 14) o) p'.2.1 ∧ p'.1 = oNum g m o := by
        intro p' hp' hpw
        rcases oth h0 with ⟨ol, p, hp, p1, p2, p3⟩ | ⟨ol, p, hp, p1, p3⟩
        · have : p = p' := v6.one hp hp' (by rw [p1, ← hw22, hpw])
          subst this
          exact ⟨ol, p2, p3, p1⟩
        · exact absurd (show p'.1 = p.1 by rw [p1, ← hw22, hpw]) (v9 p' hp' p hp)
      rcases hh with ⟨kk, -, q1, o1, hq1, ho1', h1, h2, h3, h4, h5⟩ | ⟨kk, -, q1, o1, hq1, ho1', h1, h2, h4, h5⟩ | ⟨kk, -, o1, ho1', h1, h4, h5⟩ | ⟨k0, k1, k2, -, o1, ho1', h1, h5⟩
      · obtain ⟨ol, a1, a2, a3⟩ := plo o1 ho1' h5
        have hqq : q ≠ 0 := fun hz => by have := (hq0.mpr hz); have := (v6.2 q1 hq1).1; omega
        obtain ⟨f, hf, f1, f2, f3⟩ := plq hqq
        have hfq : f = q1 := v6.one hf hq1 (f1.trans h1.symm)
        subst hfq
        refine Or.inr ⟨fun h => by have := tk.1.mp h; omega, ol, by rw [← a1]; exact h4, Or.inr ⟨fun h => by have := tk.2.1.mp h; omega, hqq, Or.inl ⟨tk.2.2.1.mpr kk, fun hoq => ?_, (InS.iff rp1 a2 f3).mpr h3⟩⟩⟩
        subst hoq
        refine h2 ?_
        rw [a3, f2]; unfold oNum; rw [if_pos ol]
      · obtain ⟨ol, a1, a2, a3⟩ := plo o1 ho1' h5
        have hqq : q ≠ 0 := fun hz => by have := (hq0.mpr hz); have := (v6.2 q1 hq1).1; omega
        obtain ⟨f, hf, f1, f2, f3⟩ := plq hqq
        have hfq : f = q1 := v6.one hf hq1 (f1.trans h1.symm)
        subst hfq
        refine Or.inr ⟨fun h => by have := tk.1.mp h; omega, ol, by rw [← a1]; exact h4, Or.inr ⟨fun h => by have := tk.2.1.mp h; omega, hqq, Or.inr ⟨fun h => by have := tk.2.2.1.mp h; omega, ?_⟩⟩⟩
        have hio : InS g m (o : Int) o1.1 := ⟨o, rfl, ol, by rw [a3]; unfold pNo oNum; rw [if_pos ol, if_neg (show ¬ o = 0 by omega)], fun _ => by unfold oNum at h0; rw [if_pos ol] at h0; exact h0⟩
        exact (InS.iff rp1 f3 hio).mpr h2.symm
      · obtain ⟨ol, a1, a2, a3⟩ := plo o1 ho1' h5
        exact Or.inr ⟨fun h => by have := tk.1.mp h; omega, ol, by rw [← a1]; exact h4, Or.inl ⟨tk.2.1.mpr kk, (InS.iff rp1 a2 e3).mpr h1⟩⟩
      · rcases oth h0 with ⟨ol, p, hp, p1, p2, p3⟩ | ⟨ol, p, hp, p1, p3⟩
        · exact absurd (show p.1 = o1.1 by rw [p1, ← hw22, h5]) (v9 p hp o1 ho1')
        · have : p = o1 := v8.one hp ho1' (by rw [p1, ← hw22, h5])
          subst this
          exact Or.inl ⟨tk.1.mpr (by omega), ol, (InS.iff rp1 p3 e3).mpr h1⟩
  · constructor
    · rintro ⟨h, -⟩; exact absurd h hg0
    · rintro ⟨w, hw, hw2⟩
      obtain ⟨e', he', we, -⟩ := hx.mp hw
      have := (v7.2 e' he').1
      have hw21 : w.2.1 = g (m + 15) k := by rw [hw2]
      omega
