/-! Slots: how many; a thing more keeps the relation. Pure, by hand. -/
theorem nd_sub : ∀ (l1 l2 : List Int), l1.Nodup → (∀ x, x ∈ l1 → x ∈ l2) → l1.length ≤ l2.length := by
  intro l1
  induction l1 with
  | nil => intro l2 _ _; exact Nat.zero_le _
  | cons x l ih =>
    intro l2 hn hs
    rw [List.nodup_cons] at hn
    have hx := hs x List.mem_cons_self
    have h1 := ih (l2.erase x) hn.2 (fun y hy => by
      have hne : y ≠ x := fun hh => hn.1 (by rw [← hh]; exact hy)
      exact (List.mem_erase_of_ne hne).mpr (hs y (List.mem_cons_of_mem _ hy)))
    rw [List.length_erase_of_mem hx] at h1
    have h2 : 0 < l2.length := List.length_pos_of_mem hx
    rw [List.length_cons]
    omega
theorem Inc.nd {L : List Tg} {nx : Int} (h : Inc L nx) : (L.map (fun e => e.1)).Nodup := h.1.imp (fun hab => by omega)
/-- all slots taken: as many things -/
theorem slots_all {f : Nat → Int} {lo n : Nat} {L : List Tg} (h1 : ∀ k, lo ≤ k → k < lo + n → ∃ e, e ∈ L ∧ e.1 = f k) (h2 : ∀ k k', lo ≤ k → k < lo + n → lo ≤ k' → k' < lo + n → f k = f k' → k = k') : n ≤ L.length := by
  have := nd_sub ((List.range n).map (fun i => f (lo + i))) (L.map (fun e => e.1)) (by
    rw [List.Nodup, List.pairwise_map]
    refine List.Pairwise.imp_of_mem ?_ List.nodup_range
    intro a b ha hb hab hh
    have ha := List.mem_range.mp ha
    have hb := List.mem_range.mp hb
    have := h2 (lo + a) (lo + b) (by omega) (by omega) (by omega) (by omega) hh
    omega) (by
    intro x hx
    obtain ⟨i, hi, rfl⟩ := List.mem_map.mp hx
    have hi := List.mem_range.mp hi
    obtain ⟨e, he, h⟩ := h1 (lo + i) (by omega) (by omega)
    exact List.mem_map.mpr ⟨e, he, h⟩)
  rwa [List.length_map, List.length_map, List.length_range] at this
/-- a slot free: fewer things than slots -/
theorem slots_free {f : Nat → Int} {lo n k : Nat} {L : List Tg} {nx : Int} (hi : Inc L nx) (hk : lo ≤ k) (hk2 : k < lo + n) (hf : f k < 0) (h1 : ∀ e, e ∈ L → ∃ j, lo ≤ j ∧ j < lo + n ∧ f j = e.1) : L.length < n := by
  have := nd_sub (L.map (fun e => e.1)) (((List.range n).erase (k - lo)).map (fun i => f (lo + i))) hi.nd (by
    intro x hx
    obtain ⟨e, he, rfl⟩ := List.mem_map.mp hx
    obtain ⟨j, j1, j2, j3⟩ := h1 e he
    have hj : j ≠ k := fun hh => by
      subst hh
      have := (hi.2 e he).1
      omega
    refine List.mem_map.mpr ⟨j - lo, (List.mem_erase_of_ne (by omega)).mpr (List.mem_range.mpr (by omega)), ?_⟩
    rw [show lo + (j - lo) = j by omega]
    exact j3)
  rw [List.length_map, List.length_map, List.length_erase_of_mem (List.mem_range.mpr (by omega)), List.length_range] at this
  omega
/-- the places' slots that are taken keep their numbers -/
def KpP (m : Nat) (g g' : Nat → Nat → Int) : Prop := ∀ q, 1 ≤ q → q < 21 → 0 ≤ g (m + 12) q → g' (m + 12) q = g (m + 12) q
theorem KpP.refl {m : Nat} {g : Nat → Nat → Int} : KpP m g g := fun _ _ _ _ => rfl
theorem KpP.trans {m : Nat} {g g1 g2 : Nat → Nat → Int} (h : KpP m g g1) (k : KpP m g1 g2) : KpP m g g2 := fun q h1 h2 h3 => by
  have := h q h1 h2 h3
  rw [← this]
  exact k q h1 h2 (by rw [this]; exact h3)
theorem InS.kp {g g' : Nat → Nat → Int} {m : Nat} {x w : Int} (h : InS g m x w) (k : KpP m g g') : InS g' m x w := by
  obtain ⟨q, h1, h2, h3, h4⟩ := h
  by_cases hq : q = 0
  · refine ⟨q, h1, h2, ?_, fun hh => absurd hq hh⟩
    rw [h3]; unfold pNo; rw [if_pos hq, if_pos hq]
  · have := k q (by omega) h2 (h4 hq)
    refine ⟨q, h1, h2, ?_, fun _ => by rw [this]; exact h4 hq⟩
    rw [h3]; unfold pNo; rw [if_neg hq, if_neg hq, this]
theorem rel_place {g g' : Nat → Nat → Int} {m k : Nat} {A : SS} {n p : Int} {e : Tg} (hA : Rel g m A) (hi : Inc A.1 A.2.2.2.1) (h0 : 0 ≤ A.2.2.2.1) (hk1 : 1 ≤ k) (hk2 : k < 21) (hfr : g (m + 12) k < 0) (he : e.1 = A.2.2.2.1) (hen : e.2.2.1 = n) (hp : InS g m p e.2.1)
    (a12 : g' (m + 12) = u1 (g (m + 12)) k A.2.2.2.1) (a13 : g' (m + 13) = u1 (g (m + 13)) k n) (a14 : g' (m + 14) = u1 (g (m + 14)) k p) (ao : ∀ j, 15 ≤ j → j ≤ 21 → g' (m + j) = g (m + j)) (a28 : g' m 28 = A.2.2.2.1 + 1) : A.1.length < 20 ∧ KpP m g g' ∧ Rel g' m (A.1 ++ [e], (A.2.1, (A.2.2.1, (A.2.2.2.1 + 1, false)))) := by
  obtain ⟨⟨p1, p2, p3⟩, g1, m1, n1⟩ := hA
  have hkp : KpP m g g' := fun q h1 h2 h3 => by
    rw [a12, u1_ne (by intro hh; subst hh; omega)]
  have hlt : A.1.length < 20 := slots_free (f := g (m + 12)) (lo := 1) (n := 20) hi hk1 (by omega) hfr (fun x hx => by
    obtain ⟨q, h1, h2, h3⟩ := p2 x hx
    exact ⟨q, h1, by omega, h3⟩)
  have old : ∀ q, q ≠ k → g' (m + 12) q = g (m + 12) q ∧ g' (m + 13) q = g (m + 13) q ∧ g' (m + 14) q = g (m + 14) q := fun q hq => by rw [a12, a13, a14, u1_ne hq, u1_ne hq, u1_ne hq]; exact ⟨rfl, rfl, rfl⟩
  refine ⟨hlt, hkp, ⟨?_, ?_, ?_⟩, ?_, ?_, a28⟩
  · intro q h1 h2 h3
    by_cases hq : q = k
    · subst hq
      refine ⟨e, List.mem_append_right _ List.mem_cons_self, ?_, ?_, ?_⟩
      · rw [a12, u1_eq]; exact he
      · rw [a13, u1_eq]; exact hen
      · rw [a14, u1_eq]; exact hp.kp hkp
    · obtain ⟨o1, o2, o3⟩ := old q hq
      rw [o1] at h3
      obtain ⟨x, hx, x1, x2, x3⟩ := p1 q h1 h2 h3
      exact ⟨x, List.mem_append_left _ hx, by rw [o1]; exact x1, by rw [o2]; exact x2, by rw [o3]; exact x3.kp hkp⟩
  · intro x hx
    rcases List.mem_append.mp hx with hx | hx
    · obtain ⟨q, h1, h2, h3⟩ := p2 x hx
      refine ⟨q, h1, h2, ?_⟩
      rw [hkp q h1 h2 (by rw [h3]; exact (hi.2 x hx).1)]; exact h3
    · rw [List.mem_singleton.mp hx]
      exact ⟨k, hk1, hk2, by rw [a12, u1_eq]; exact he.symm⟩
  · intro q q' h1 h2 h3 h4 h5 h6
    have num : ∀ q, 1 ≤ q → q < 21 → q ≠ k → g (m + 12) q < A.2.2.2.1 := by
      intro q h1 h2 hq
      by_cases hz : 0 ≤ g (m + 12) q
      · obtain ⟨x, hx, x1, -⟩ := p1 q h1 h2 hz
        have := (hi.2 x hx).2; omega
      · omega
    by_cases hq : q = k
    · by_cases hq' : q' = k
      · rw [hq, hq']
      · rw [(old q' hq').1, hq, a12, u1_eq] at h6
        have := num q' h3 h4 hq'; omega
    · by_cases hq' : q' = k
      · rw [(old q hq).1, hq', a12, u1_eq] at h6
        have := num q h1 h2 hq; omega
      · rw [(old q hq).1, (old q' hq').1] at h6
        rw [(old q hq).1] at h5
        exact p3 q q' h1 h2 h3 h4 h5 h6
  · refine ⟨fun j h1 h2 => ?_, ?_, ?_⟩
    · rw [ao 15 (by omega) (by omega)] at h2 ⊢
      rw [ao 16 (by omega) (by omega), ao 17 (by omega) (by omega), ao 18 (by omega) (by omega)]
      obtain ⟨x, hx, x1, x2, x3, x4⟩ := g1.1 j h1 h2
      exact ⟨x, hx, x1, x2, x3.kp hkp, x4⟩
    · rw [ao 15 (by omega) (by omega)]; exact g1.2.1
    · rw [ao 15 (by omega) (by omega)]; exact g1.2.2
  · refine ⟨fun j h1 h2 => ?_, ?_, ?_⟩
    · rw [ao 19 (by omega) (by omega)] at h2 ⊢
      rw [ao 20 (by omega) (by omega), ao 21 (by omega) (by omega)]
      obtain ⟨x, hx, x1, x2, x3⟩ := m1.1 j h1 h2
      exact ⟨x, hx, x1, x2, x3.kp hkp⟩
    · rw [ao 19 (by omega) (by omega)]; exact m1.2.1
    · rw [ao 19 (by omega) (by omega)]; exact m1.2.2
/-- places and the slots they lie in are untouched -/
theorem RlP.same {g g' : Nat → Nat → Int} {m : Nat} {ps : List Tg} (h : RlP g m ps) (a : ∀ j, 12 ≤ j → j ≤ 14 → g' (m + j) = g (m + j)) : RlP g' m ps := by
  have hk : KpP m g g' := fun q _ _ _ => by rw [a 12 (by omega) (by omega)]
  refine ⟨fun q h1 h2 h3 => ?_, ?_, ?_⟩
  · rw [a 12 (by omega) (by omega)] at h3 ⊢
    rw [a 13 (by omega) (by omega), a 14 (by omega) (by omega)]
    obtain ⟨x, hx, x1, x2, x3⟩ := h.1 q h1 h2 h3
    exact ⟨x, hx, x1, x2, x3.kp hk⟩
  · rw [a 12 (by omega) (by omega)]; exact h.2.1
  · rw [a 12 (by omega) (by omega)]; exact h.2.2
theorem RlG.same {g g' : Nat → Nat → Int} {m : Nat} {gs : List Tg} (h : RlG g m gs) (hk : KpP m g g') (a : ∀ j, 15 ≤ j → j ≤ 18 → g' (m + j) = g (m + j)) : RlG g' m gs := by
  refine ⟨fun q h1 h3 => ?_, ?_, ?_⟩
  · rw [a 15 (by omega) (by omega)] at h3 ⊢
    rw [a 16 (by omega) (by omega), a 17 (by omega) (by omega), a 18 (by omega) (by omega)]
    obtain ⟨x, hx, x1, x2, x3, x4⟩ := h.1 q h1 h3
    exact ⟨x, hx, x1, x2, x3.kp hk, x4⟩
  · rw [a 15 (by omega) (by omega)]; exact h.2.1
  · rw [a 15 (by omega) (by omega)]; exact h.2.2
theorem RlM.same {g g' : Nat → Nat → Int} {m : Nat} {ms : List Tg} (h : RlM g m ms) (hk : KpP m g g') (a : ∀ j, 19 ≤ j → j ≤ 21 → g' (m + j) = g (m + j)) : RlM g' m ms := by
  refine ⟨fun q h1 h3 => ?_, ?_, ?_⟩
  · rw [a 19 (by omega) (by omega)] at h3 ⊢
    rw [a 20 (by omega) (by omega), a 21 (by omega) (by omega)]
    obtain ⟨x, hx, x1, x2, x3⟩ := h.1 q h1 h3
    exact ⟨x, hx, x1, x2, x3.kp hk⟩
  · rw [a 19 (by omega) (by omega)]; exact h.2.1
  · rw [a 19 (by omega) (by omega)]; exact h.2.2
theorem KpP.same {m : Nat} {g g' : Nat → Nat → Int} (h : g' (m + 12) = g (m + 12)) : KpP m g g' := fun q _ _ _ => by rw [h]
theorem rel_msg {g g' : Nat → Nat → Int} {m k : Nat} {A : SS} {n p : Int} {e : Tg} (hA : Rel g m A) (hi : Inc A.2.2.1 A.2.2.2.1) (h0 : 0 ≤ A.2.2.2.1) (hk2 : k < 30) (hfr : g (m + 19) k < 0) (he : e.1 = A.2.2.2.1) (hen : e.2.2.1 = n) (hp : InS g m p e.2.1)
    (a19 : g' (m + 19) = u1 (g (m + 19)) k A.2.2.2.1) (a20 : g' (m + 20) = u1 (g (m + 20)) k n) (a21 : g' (m + 21) = u1 (g (m + 21)) k p) (ao : ∀ j, 12 ≤ j → j ≤ 18 → g' (m + j) = g (m + j)) (a28 : g' m 28 = A.2.2.2.1 + 1) : A.2.2.1.length < 30 ∧ Rel g' m (A.1, (A.2.1, (A.2.2.1 ++ [e], (A.2.2.2.1 + 1, false)))) := by
  obtain ⟨p0, g1, ⟨p1, p2, p3⟩, n1⟩ := hA
  have hkp : KpP m g g' := KpP.same (ao 12 (by omega) (by omega))
  have hlt : A.2.2.1.length < 30 := slots_free (f := g (m + 19)) (lo := 0) (n := 30) hi (Nat.zero_le _) (by omega) hfr (fun x hx => by
    obtain ⟨q, h2, h3⟩ := p2 x hx
    exact ⟨q, Nat.zero_le _, by omega, h3⟩)
  have old : ∀ q, q ≠ k → g' (m + 19) q = g (m + 19) q ∧ g' (m + 20) q = g (m + 20) q ∧ g' (m + 21) q = g (m + 21) q := fun q hq => by rw [a19, a20, a21, u1_ne hq, u1_ne hq, u1_ne hq]; exact ⟨rfl, rfl, rfl⟩
  have num : ∀ q, q < 30 → q ≠ k → g (m + 19) q < A.2.2.2.1 := by
    intro q h2 hq
    by_cases hz : 0 ≤ g (m + 19) q
    · obtain ⟨x, hx, x1, -⟩ := p1 q h2 hz
      have := (hi.2 x hx).2; omega
    · omega
  refine ⟨hlt, p0.same (fun j h1 h2 => ao j h1 (by omega)), g1.same hkp (fun j h1 h2 => ao j (by omega) h2), ⟨?_, ?_, ?_⟩, a28⟩
  · intro q h2 h3
    by_cases hq : q = k
    · subst hq
      refine ⟨e, List.mem_append_right _ List.mem_cons_self, ?_, ?_, ?_⟩
      · rw [a19, u1_eq]; exact he
      · rw [a20, u1_eq]; exact hen
      · rw [a21, u1_eq]; exact hp.kp hkp
    · obtain ⟨o1, o2, o3⟩ := old q hq
      rw [o1] at h3
      obtain ⟨x, hx, x1, x2, x3⟩ := p1 q h2 h3
      exact ⟨x, List.mem_append_left _ hx, by rw [o1]; exact x1, by rw [o2]; exact x2, by rw [o3]; exact x3.kp hkp⟩
  · intro x hx
    rcases List.mem_append.mp hx with hx | hx
    · obtain ⟨q, h2, h3⟩ := p2 x hx
      have hq : q ≠ k := fun hh => by subst hh; have := (hi.2 x hx).1; omega
      exact ⟨q, h2, by rw [(old q hq).1]; exact h3⟩
    · rw [List.mem_singleton.mp hx]
      exact ⟨k, hk2, by rw [a19, u1_eq]; exact he.symm⟩
  · intro q q' h2 h4 h5 h6
    by_cases hq : q = k
    · by_cases hq' : q' = k
      · rw [hq, hq']
      · rw [(old q' hq').1, hq, a19, u1_eq] at h6
        have := num q' h4 hq'; omega
    · by_cases hq' : q' = k
      · rw [(old q hq).1, hq', a19, u1_eq] at h6
        have := num q h2 hq; omega
      · rw [(old q hq).1, (old q' hq').1] at h6
        rw [(old q hq).1] at h5
        exact p3 q q' h2 h4 h5 h6
theorem rel_grd {g g' : Nat → Nat → Int} {m k : Nat} {A : SS} {n p l : Int} {e : Tg} (hA : Rel g m A) (hi : Inc A.2.1 A.2.2.2.1) (h0 : 0 ≤ A.2.2.2.1) (hk2 : k < 40) (hfr : g (m + 15) k < 0) (he : e.1 = A.2.2.2.1) (hen : e.2.2.2.1 = n) (hp : InS g m p e.2.1) (hl : MnR e.2.2.2.2 l)
    (a15 : g' (m + 15) = u1 (g (m + 15)) k A.2.2.2.1) (a16 : g' (m + 16) = u1 (g (m + 16)) k n) (a17 : g' (m + 17) = u1 (g (m + 17)) k p) (a18 : g' (m + 18) = u1 (g (m + 18)) k l) (ap : ∀ j, 12 ≤ j → j ≤ 14 → g' (m + j) = g (m + j)) (am : ∀ j, 19 ≤ j → j ≤ 21 → g' (m + j) = g (m + j)) (a28 : g' m 28 = A.2.2.2.1 + 1) : A.2.1.length < 40 ∧ Rel g' m (A.1, (A.2.1 ++ [e], (A.2.2.1, (A.2.2.2.1 + 1, false)))) := by
  obtain ⟨p0, ⟨p1, p2, p3⟩, m1, n1⟩ := hA
  have hkp : KpP m g g' := KpP.same (ap 12 (by omega) (by omega))
  have hlt : A.2.1.length < 40 := slots_free (f := g (m + 15)) (lo := 0) (n := 40) hi (Nat.zero_le _) (by omega) hfr (fun x hx => by
    obtain ⟨q, h2, h3⟩ := p2 x hx
    exact ⟨q, Nat.zero_le _, by omega, h3⟩)
  have old : ∀ q, q ≠ k → g' (m + 15) q = g (m + 15) q ∧ g' (m + 16) q = g (m + 16) q ∧ g' (m + 17) q = g (m + 17) q ∧ g' (m + 18) q = g (m + 18) q := fun q hq => by rw [a15, a16, a17, a18, u1_ne hq, u1_ne hq, u1_ne hq, u1_ne hq]; exact ⟨rfl, rfl, rfl, rfl⟩
  have num : ∀ q, q < 40 → q ≠ k → g (m + 15) q < A.2.2.2.1 := by
    intro q h2 hq
    by_cases hz : 0 ≤ g (m + 15) q
    · obtain ⟨x, hx, x1, -⟩ := p1 q h2 hz
      have := (hi.2 x hx).2; omega
    · omega
  refine ⟨hlt, p0.same ap, ⟨?_, ?_, ?_⟩, m1.same hkp am, a28⟩
  · intro q h2 h3
    by_cases hq : q = k
    · subst hq
      refine ⟨e, List.mem_append_right _ List.mem_cons_self, ?_, ?_, ?_, ?_⟩
      · rw [a15, u1_eq]; exact he
      · rw [a16, u1_eq]; exact hen
      · rw [a17, u1_eq]; exact hp.kp hkp
      · rw [a18, u1_eq]; exact hl
    · obtain ⟨o1, o2, o3, o4⟩ := old q hq
      rw [o1] at h3
      obtain ⟨x, hx, x1, x2, x3, x4⟩ := p1 q h2 h3
      exact ⟨x, List.mem_append_left _ hx, by rw [o1]; exact x1, by rw [o2]; exact x2, by rw [o3]; exact x3.kp hkp, by rw [o4]; exact x4⟩
  · intro x hx
    rcases List.mem_append.mp hx with hx | hx
    · obtain ⟨q, h2, h3⟩ := p2 x hx
      have hq : q ≠ k := fun hh => by subst hh; have := (hi.2 x hx).1; omega
      exact ⟨q, h2, by rw [(old q hq).1]; exact h3⟩
    · rw [List.mem_singleton.mp hx]
      exact ⟨k, hk2, by rw [a15, u1_eq]; exact he.symm⟩
  · intro q q' h2 h4 h5 h6
    by_cases hq : q = k
    · by_cases hq' : q' = k
      · rw [hq, hq']
      · rw [(old q' hq').1, hq, a15, u1_eq] at h6
        have := num q' h4 hq'; omega
    · by_cases hq' : q' = k
      · rw [(old q hq).1, hq', a15, u1_eq] at h6
        have := num q h2 hq; omega
      · rw [(old q hq).1, (old q' hq').1] at h6
        rw [(old q hq).1] at h5
        exact p3 q q' h2 h4 h5 h6
/-- no slot free: no room in the class either -/
theorem full_place {g : Nat → Nat → Int} {m : Nat} {A : SS} (hA : Rel g m A) (h : ∀ k, 1 ≤ k → k < 21 → 0 ≤ g (m + 12) k) : ¬ A.1.length < 20 := by
  have := slots_all (f := g (m + 12)) (lo := 1) (n := 20) (L := A.1) (fun k h1 h2 => by
    obtain ⟨e, he, e1, -⟩ := hA.1.1 k h1 (by omega) (h k h1 (by omega))
    exact ⟨e, he, e1⟩) (fun k k' h1 h2 h3 h4 h5 => hA.1.2.2 k k' h1 (by omega) h3 (by omega) (h k h1 (by omega)) h5)
  omega
theorem full_msg {g : Nat → Nat → Int} {m : Nat} {A : SS} (hA : Rel g m A) (h : ∀ k, k < 30 → 0 ≤ g (m + 19) k) : ¬ A.2.2.1.length < 30 := by
  have := slots_all (f := g (m + 19)) (lo := 0) (n := 30) (L := A.2.2.1) (fun k h1 h2 => by
    obtain ⟨e, he, e1, -⟩ := hA.2.2.1.1 k (by omega) (h k (by omega))
    exact ⟨e, he, e1⟩) (fun k k' h1 h2 h3 h4 h5 => hA.2.2.1.2.2 k k' (by omega) (by omega) (h k (by omega)) h5)
  omega
theorem full_grd {g : Nat → Nat → Int} {m : Nat} {A : SS} (hA : Rel g m A) (h : ∀ k, k < 40 → 0 ≤ g (m + 15) k) : ¬ A.2.1.length < 40 := by
  have := slots_all (f := g (m + 15)) (lo := 0) (n := 40) (L := A.2.1) (fun k h1 h2 => by
    obtain ⟨e, he, e1, -⟩ := hA.2.1.1 k (by omega) (h k (by omega))
    exact ⟨e, he, e1⟩) (fun k k' h1 h2 h3 h4 h5 => hA.2.1.2.2 k k' (by omega) (by omega) (h k (by omega)) h5)
  omega
