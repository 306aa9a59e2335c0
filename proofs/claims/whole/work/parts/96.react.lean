/-! Taking a redex, class and model: removals and moves keep the relation. Pure, by hand. -/
theorem rel_delg {g g' : Nat → Nat → Int} {m kk : Nat} {A : SS} {v : Int} (hA : Rel g m A) (hi : Inc A.2.1 A.2.2.2.1) (hk : kk < 40) (h0 : 0 ≤ g (m + 15) kk) (hv : g (m + 15) kk = v) (a15 : g' (m + 15) = u1 (g (m + 15)) kk (-1)) (ao : ∀ j, 12 ≤ j → j ≤ 21 → j ≠ 15 → g' (m + j) = g (m + j)) (a28 : g' m 28 = g m 28) : Rel g' m (A.1, (delN A.2.1 v, A.2.2)) := by
  obtain ⟨p0, ⟨p1, p2, p3⟩, m1, n1⟩ := hA
  have hkp : KpP m g g' := KpP.same (ao 12 (by omega) (by omega) (by omega))
  refine ⟨p0.same (fun j h1 h2 => ao j h1 (by omega) (by omega)), ⟨?_, ?_, ?_⟩, m1.same hkp (fun j h1 h2 => ao j (by omega) h2 (by omega)), by rw [a28]; exact n1⟩
  · intro k h1 h2
    rw [a15] at h2 ⊢
    by_cases hkk : k = kk
    · rw [hkk, u1_eq] at h2; omega
    · rw [u1_ne hkk] at h2 ⊢
      rw [ao 16 (by omega) (by omega) (by omega), ao 17 (by omega) (by omega) (by omega), ao 18 (by omega) (by omega) (by omega)]
      obtain ⟨x, hx, x1, x2, x3, x4⟩ := p1 k h1 h2
      refine ⟨x, delN_keep hx ?_, x1, x2, x3.kp hkp, x4⟩
      intro hh
      rw [x1, ← hv] at hh
      exact hkk (p3 k kk h1 hk h2 hh)
  · intro x hx
    have hx2 := (delN_sub _).subset hx
    obtain ⟨k, h1, h2⟩ := p2 x hx2
    refine ⟨k, h1, ?_⟩
    rw [a15, u1_ne (fun hh => hi.del hx (by rw [← h2, hh, hv]))]
    exact h2
  · intro k k' h1 h2 h3 h4
    rw [a15] at h3 h4
    by_cases hkk : k = kk
    · rw [hkk, u1_eq] at h3; omega
    · by_cases hkk' : k' = kk
      · rw [u1_ne hkk] at h3 h4; rw [hkk', u1_eq] at h4; omega
      · rw [u1_ne hkk] at h3 h4; rw [u1_ne hkk'] at h4
        exact p3 k k' h1 h2 h3 h4
theorem rel_delm {g g' : Nat → Nat → Int} {m kk : Nat} {A : SS} {v : Int} (hA : Rel g m A) (hi : Inc A.2.2.1 A.2.2.2.1) (hk : kk < 30) (h0 : 0 ≤ g (m + 19) kk) (hv : g (m + 19) kk = v) (a19 : g' (m + 19) = u1 (g (m + 19)) kk (-1)) (ao : ∀ j, 12 ≤ j → j ≤ 21 → j ≠ 19 → g' (m + j) = g (m + j)) (a28 : g' m 28 = g m 28) : Rel g' m (A.1, (A.2.1, (delN A.2.2.1 v, A.2.2.2))) := by
  obtain ⟨p0, g1, ⟨p1, p2, p3⟩, n1⟩ := hA
  have hkp : KpP m g g' := KpP.same (ao 12 (by omega) (by omega) (by omega))
  refine ⟨p0.same (fun j h1 h2 => ao j h1 (by omega) (by omega)), g1.same hkp (fun j h1 h2 => ao j (by omega) (by omega) (by omega)), ⟨?_, ?_, ?_⟩, by rw [a28]; exact n1⟩
  · intro k h1 h2
    rw [a19] at h2 ⊢
    by_cases hkk : k = kk
    · rw [hkk, u1_eq] at h2; omega
    · rw [u1_ne hkk] at h2 ⊢
      rw [ao 20 (by omega) (by omega) (by omega), ao 21 (by omega) (by omega) (by omega)]
      obtain ⟨x, hx, x1, x2, x3⟩ := p1 k h1 h2
      refine ⟨x, delN_keep hx ?_, x1, x2, x3.kp hkp⟩
      intro hh
      rw [x1, ← hv] at hh
      exact hkk (p3 k kk h1 hk h2 hh)
  · intro x hx
    have hx2 := (delN_sub _).subset hx
    obtain ⟨k, h1, h2⟩ := p2 x hx2
    refine ⟨k, h1, ?_⟩
    rw [a19, u1_ne (fun hh => hi.del hx (by rw [← h2, hh, hv]))]
    exact h2
  · intro k k' h1 h2 h3 h4
    rw [a19] at h3 h4
    by_cases hkk : k = kk
    · rw [hkk, u1_eq] at h3; omega
    · by_cases hkk' : k' = kk
      · rw [u1_ne hkk] at h3 h4; rw [hkk', u1_eq] at h4; omega
      · rw [u1_ne hkk] at h3 h4; rw [u1_ne hkk'] at h4
        exact p3 k k' h1 h2 h3 h4
theorem setIn_at {L : List Tg} {nx to : Int} {e : Tg} (hi : Inc L nx) (he : e ∈ L) : (e.1, (to, e.2.2)) ∈ setIn L e.1 to := by
  have : ∀ l : List Tg, e ∈ l → (∀ y, y ∈ l → y.1 = e.1 → y = e) → (e.1, (to, e.2.2)) ∈ setIn l e.1 to := by
    intro l
    induction l with
    | nil => intro h; cases h
    | cons y l ih =>
      intro hm hu
      rw [setIn]
      split
      · rename_i hy
        rw [hu y List.mem_cons_self hy]
        exact List.mem_cons_self
      · rename_i hy
        rcases List.mem_cons.mp hm with hm | hm
        · rw [← hm] at hy; exact absurd rfl hy
        · exact List.mem_cons_of_mem _ (ih hm (fun z hz => hu z (List.mem_cons_of_mem _ hz)))
  exact this L he (fun y hy hh => hi.one hy he hh)
theorem setIn_keep {w to : Int} {e : Tg} (h : e.1 ≠ w) : ∀ {L : List Tg}, e ∈ L → e ∈ setIn L w to := by
  intro L
  induction L with
  | nil => intro h; cases h
  | cons y l ih =>
    intro hm
    rw [setIn]
    rcases List.mem_cons.mp hm with hm | hm
    · subst hm; rw [if_neg h]; exact List.mem_cons_self
    · split
      · exact List.mem_cons_of_mem _ hm
      · exact List.mem_cons_of_mem _ (ih hm)
/-- a place moved -/
theorem rel_mov {g g' : Nat → Nat → Int} {m q : Nat} {A : SS} {v y to : Int} (hA : Rel g m A) (hi : Inc A.1 A.2.2.2.1) (hq1 : 1 ≤ q) (hq2 : q < 21) (h0 : 0 ≤ g (m + 12) q) (hv : g (m + 12) q = v) (hy : InS g m y to) (a14 : g' (m + 14) = u1 (g (m + 14)) q y) (ao : ∀ j, 12 ≤ j → j ≤ 21 → j ≠ 14 → g' (m + j) = g (m + j)) (a28 : g' m 28 = g m 28) : Rel g' m (setIn A.1 v to, A.2) := by
  obtain ⟨⟨p1, p2, p3⟩, g1, m1, n1⟩ := hA
  have e12 := ao 12 (by omega) (by omega) (by omega)
  have hkp : KpP m g g' := KpP.same e12
  refine ⟨⟨?_, ?_, ?_⟩, g1.same hkp (fun j h1 h2 => ao j (by omega) (by omega) (by omega)), m1.same hkp (fun j h1 h2 => ao j (by omega) (by omega) (by omega)), by rw [a28]; exact n1⟩
  · intro k h1 h2 h3
    rw [e12] at h3 ⊢
    rw [ao 13 (by omega) (by omega) (by omega), a14]
    obtain ⟨x, hx, x1, x2, x3⟩ := p1 k h1 h2 h3
    by_cases hkq : k = q
    · subst hkq
      refine ⟨(x.1, (to, x.2.2)), ?_, x1, x2, ?_⟩
      · have := setIn_at (to := to) hi hx
        rw [x1, hv] at this
        rw [x1, hv]; exact this
      · rw [u1_eq]; exact hy.kp hkp
    · refine ⟨x, setIn_keep (fun hh => hkq (p3 k q h1 h2 hq1 hq2 h3 (by rw [← x1, hh, hv]))) hx, x1, x2, ?_⟩
      rw [u1_ne hkq]; exact x3.kp hkp
  · intro x hx
    obtain ⟨z, hz, z1, -⟩ := setIn_pl hx
    obtain ⟨k, h1, h2, h3⟩ := p2 z hz
    exact ⟨k, h1, h2, by rw [e12, h3, z1]⟩
  · rw [e12]; exact p3
/-- a place opened: what is in it goes around -/
theorem rel_open {g g' : Nat → Nat → Int} {m o q : Nat} {A : SS} {x w : Int} (hA : Rel g m A) (hi : Inc A.1 A.2.2.2.1) (ho1 : 1 ≤ o) (ho2 : o < 21) (h0 : 0 ≤ g (m + 12) o) (hx : g (m + 12) o = x) (hq : InS g m (q : Int) w) (hqo : q ≠ o) (hin : ∀ e, e ∈ A.1 → e.1 = x → e.2.1 ≠ x)
    (a12 : g' (m + 12) = u1 (g (m + 12)) o (-1)) (a14 : ∀ i, 1 ≤ i → i < 21 → g' (m + 14) i = if g (m + 14) i = (o : Int) then (q : Int) else g (m + 14) i) (a17 : ∀ i, i < 40 → g' (m + 17) i = if g (m + 17) i = (o : Int) then (q : Int) else g (m + 17) i) (a21 : ∀ i, i < 30 → g' (m + 21) i = if g (m + 21) i = (o : Int) then (q : Int) else g (m + 21) i) (ao : ∀ j, 12 ≤ j → j ≤ 21 → j ≠ 12 → j ≠ 14 → j ≠ 17 → j ≠ 21 → g' (m + j) = g (m + j)) (a28 : g' m 28 = g m 28) : Rel g' m ((delN A.1 x).map (mvF x w), (A.2.1.map (mvF x w), (A.2.2.1.map (mvF x w), A.2.2.2))) := by
  obtain ⟨⟨p1, p2, p3⟩, ⟨g1, g2, g3⟩, ⟨m1, m2, m3⟩, n1⟩ := hA
  have hrp : RlP g m A.1 := ⟨p1, p2, p3⟩
  have iox : InS g m (o : Int) x := ⟨o, rfl, ho2, by unfold pNo; rw [if_neg (by omega), hx], fun _ => h0⟩
  -- places of slots
  have mv : ∀ {v z : Int} (e : Tg), InS g m v e.2.1 → InS g' m (if v = (o : Int) then (q : Int) else v) (mvF x w e).2.1 := by
    intro v z e h
    rw [mvF_in]
    have hiff := InS.iff hrp h iox
    have keep : ∀ r : Nat, r ≠ o → g' (m + 12) r = g (m + 12) r := fun r hr => by rw [a12, u1_ne hr]
    by_cases hvo : v = (o : Int)
    · rw [if_pos hvo, if_pos (hiff.mp hvo)]
      obtain ⟨r, r1, r2, r3, r4⟩ := hq
      have : r = q := by omega
      subst this
      refine ⟨r, rfl, r2, ?_, fun hr => by rw [keep r hqo]; exact r4 hr⟩
      rw [r3]; unfold pNo; rw [keep r hqo]
    · rw [if_neg hvo, if_neg (fun hh => hvo (hiff.mpr hh))]
      obtain ⟨r, r1, r2, r3, r4⟩ := h
      have hro : r ≠ o := fun hh => hvo (by rw [r1, hh])
      refine ⟨r, r1, r2, ?_, fun hr => by rw [keep r hro]; exact r4 hr⟩
      rw [r3]; unfold pNo; rw [keep r hro]
  refine ⟨⟨?_, ?_, ?_⟩, ⟨?_, ?_, ?_⟩, ⟨?_, ?_, ?_⟩, by rw [a28]; exact n1⟩
  · intro k h1 h2 h3
    rw [a12] at h3 ⊢
    by_cases hko : k = o
    · rw [hko, u1_eq] at h3; omega
    · rw [u1_ne hko] at h3 ⊢
      obtain ⟨e, he, e1, e2, e3⟩ := p1 k h1 h2 h3
      refine ⟨mvF x w e, List.mem_map.mpr ⟨e, delN_keep he (fun hh => hko (p3 k o h1 h2 ho1 ho2 h3 (by rw [← e1, hh, hx]))), rfl⟩, by rw [mvF_1.1]; exact e1, ?_, ?_⟩
      · rw [mvF_1.2, ao 13 (by omega) (by omega) (by omega) (by omega) (by omega) (by omega)]; exact e2
      · rw [a14 k h1 h2]; exact mv (z := 0) e e3
  · intro y hy
    obtain ⟨e, he, rfl⟩ := List.mem_map.mp hy
    have he2 := (delN_sub _).subset he
    obtain ⟨k, h1, h2, h3⟩ := p2 e he2
    refine ⟨k, h1, h2, ?_⟩
    rw [mvF_1.1, a12, u1_ne (fun hh => hi.del he (by rw [← h3, hh, hx]))]
    exact h3
  · intro k k' h1 h2 h3 h4 h5 h6
    rw [a12] at h5 h6
    by_cases hk : k = o
    · rw [hk, u1_eq] at h5; omega
    · by_cases hk' : k' = o
      · rw [u1_ne hk] at h5 h6; rw [hk', u1_eq] at h6; omega
      · rw [u1_ne hk] at h5 h6; rw [u1_ne hk'] at h6
        exact p3 k k' h1 h2 h3 h4 h5 h6
  · intro k h1 h3
    rw [ao 15 (by omega) (by omega) (by omega) (by omega) (by omega) (by omega)] at h3 ⊢
    rw [ao 16 (by omega) (by omega) (by omega) (by omega) (by omega) (by omega), ao 18 (by omega) (by omega) (by omega) (by omega) (by omega) (by omega)]
    obtain ⟨e, he, e1, e2, e3, e4⟩ := g1 k h1 h3
    refine ⟨mvF x w e, List.mem_map.mpr ⟨e, he, rfl⟩, by rw [mvF_1.1]; exact e1, by rw [mvF_1.2]; exact e2, ?_, by rw [mvF_1.2]; exact e4⟩
    rw [a17 k h1]; exact mv (z := 0) e e3
  · intro y hy
    obtain ⟨e, he, rfl⟩ := List.mem_map.mp hy
    rw [mvF_1.1, ao 15 (by omega) (by omega) (by omega) (by omega) (by omega) (by omega)]
    exact g2 e he
  · rw [ao 15 (by omega) (by omega) (by omega) (by omega) (by omega) (by omega)]; exact g3
  · intro k h1 h3
    rw [ao 19 (by omega) (by omega) (by omega) (by omega) (by omega) (by omega)] at h3 ⊢
    rw [ao 20 (by omega) (by omega) (by omega) (by omega) (by omega) (by omega)]
    obtain ⟨e, he, e1, e2, e3⟩ := m1 k h1 h3
    refine ⟨mvF x w e, List.mem_map.mpr ⟨e, he, rfl⟩, by rw [mvF_1.1]; exact e1, by rw [mvF_1.2]; exact e2, ?_⟩
    rw [a21 k h1]; exact mv (z := 0) e e3
  · intro y hy
    obtain ⟨e, he, rfl⟩ := List.mem_map.mp hy
    rw [mvF_1.1, ao 19 (by omega) (by omega) (by omega) (by omega) (by omega) (by omega)]
    exact m2 e he
  · rw [ao 19 (by omega) (by omega) (by omega) (by omega) (by omega) (by omega)]; exact m3
/-- the model's meanings, with another one for a letter -/
def lbF (n l c : Int) : Int := bI (fun x y => x ||| y) (bI (fun x y => x &&& y) l (bI (fun x y => x ^^^ y) (bI (fun x y => x <<< (y &&& 31)) 15 (4 * (n - 6))) (-1))) (bI (fun x y => x <<< (y &&& 31)) (c + 1) (4 * (n - 6)))
theorem lb_all : ∀ a : Nat, a < 7 → ∀ b : Nat, b < 7 → ∀ c : Nat, c < 7 → ∀ x : Nat, x < 7 → lbF 6 ((a + 16 * b + 256 * c : Nat) : Int) ((x : Int) - 1) = ((x + 16 * b + 256 * c : Nat) : Int) ∧ lbF 7 ((a + 16 * b + 256 * c : Nat) : Int) ((x : Int) - 1) = ((a + 16 * x + 256 * c : Nat) : Int) ∧ lbF 8 ((a + 16 * b + 256 * c : Nat) : Int) ((x : Int) - 1) = ((a + 16 * b + 256 * x : Nat) : Int) := by decide +kernel
theorem MnR.bd {a b c n : Int} (h : MnR a b) (hc : 120 ≤ c ∧ c ≤ 122) (hn : -1 ≤ n ∧ n ≤ 5) : MnR (bdF c n a) (lbF (nmM c) b n) := by
  obtain ⟨x, y, z, hx, hy, hz, rfl, rfl⟩ := h
  obtain ⟨d, rfl, hd⟩ : ∃ d : Nat, n = (d : Int) - 1 ∧ d < 7 := ⟨(n + 1).toNat, by omega, by omega⟩
  have h1 := bd_all x hx y hy z hz d hd
  have h2 := lb_all x hx y hy z hz d hd
  have hc3 : c = 120 ∨ c = 121 ∨ c = 122 := by omega
  rcases hc3 with rfl | rfl | rfl
  · rw [h1.1, show nmM 120 = 6 from rfl, h2.1]; exact ⟨d, y, z, hd, hy, hz, rfl, rfl⟩
  · rw [h1.2.1, show nmM 121 = 7 from rfl, h2.2.1]; exact ⟨x, d, z, hx, hd, hz, rfl, rfl⟩
  · rw [h1.2.2, show nmM 122 = 8 from rfl, h2.2.2]; exact ⟨x, y, d, hx, hy, hd, rfl, rfl⟩
