/-! The model: searching redexes. Written by wip/whole/gen/c83.py. -/
theorem u2_4 {g : Nat → Nat → Int} {m : Nat} {x y z w : Int} : u2 (u2 (u2 (u2 g m 65 x) m 66 y) m 65 z) m 66 w = u2 (u2 g m 65 z) m 66 w := by
  funext c k
  by_cases hc : c = m
  · subst hc
    by_cases h6 : k = 66
    · subst h6; rw [u2_at, u2_at]
    · rw [u2_ni h6, u2_ni h6]
      by_cases h5 : k = 65
      · subst h5; rw [u2_at, u2_at]
      · rw [u2_ni h5, u2_ni h6, u2_ni h5, u2_ni h5]
  · rw [u2_ne hc, u2_ne hc, u2_ne hc, u2_ne hc, u2_ne hc, u2_ne hc]
/-- slots of a redex -/
def Sl (g : Nat → Nat → Int) (m : Nat) (w : Rd) (kk oo : Nat) : Prop := kk < 40 ∧ 1 ≤ oo ∧ oo < 51 ∧ g (m + 15) kk = w.2.1 ∧ oNum g m oo = w.2.2
/-- n of a row's redexes are before p -/
def Cut (R : List Rd) (n : Nat) (p : Int × Int) : Prop := n ≤ R.length ∧ ∀ (j : Nat) (w : Rd), R[j]? = some w → (j < n ↔ lt2 w.2 p)
theorem Cut.all {R : List Rd} {n : Nat} {p : Int × Int} (h : Cut R n p) (ha : ∀ w, w ∈ R → lt2 w.2 p) : n = R.length := by
  rcases Nat.lt_or_ge n R.length with h1 | h1
  · obtain ⟨w, hw, -⟩ := get_of_lt h1
    have := (h.2 n w hw).mpr (ha w (List.mem_of_getElem? hw))
    omega
  · have := h.1; omega
theorem Cut.to {R : List Rd} {n : Nat} {p q : Int × Int} (h : Cut R n p) (ha : ∀ w, w ∈ R → (lt2 w.2 p ↔ lt2 w.2 q)) : Cut R n q := ⟨h.1, fun j w hw => (h.2 j w hw).trans (ha w (List.mem_of_getElem? hw))⟩
theorem Cut.at {R : List Rd} {n : Nat} {p : Int × Int} {w : Rd} (hs : Srt R) (h : Cut R n p) (hw : w ∈ R) (hp : w.2 = p) : R[n]? = some w := by
  obtain ⟨j, hj⟩ := List.getElem?_of_mem hw
  have hn : ¬ j < n := fun hh => by
    have := (h.2 j w hj).mp hh
    rw [hp] at this
    unfold lt2 at this
    omega
  have hjl := (List.getElem?_eq_some_iff.mp hj).1
  by_cases hjn : j = n
  · subst hjn; exact hj
  · obtain ⟨x, hx, -⟩ := get_of_lt (L := R) (i := n) (by omega)
    have h1 := hs n j x w hx hj (by omega)
    rw [hp] at h1
    have := (h.2 n x hx).mpr h1
    omega
theorem Cut.up {R : List Rd} {n : Nat} {p : Int × Int} {w : Rd} (hs : Srt R) (h : Cut R n p) (hw : R[n]? = some w) (hp : w.2 = p) : Cut R (n + 1) (p.1, p.2 + 1) := by
  refine ⟨(List.getElem?_eq_some_iff.mp hw).1, fun j x hx => ?_⟩
  have hj := h.2 j x hx
  constructor
  · intro h1
    by_cases hjn : j = n
    · subst hjn
      rw [hw] at hx; cases hx
      rw [hp]; exact Or.inr ⟨rfl, by show p.2 < p.2 + 1; omega⟩
    · have h2 := hj.mp (by omega)
      unfold lt2 at h2 ⊢
      show x.2.1 < p.1 ∨ x.2.1 = p.1 ∧ x.2.2 < p.2 + 1
      omega
  · intro h1
    rcases Nat.lt_or_ge n j with h3 | h3
    · have h4 := hs n j w x hw hx h3
      rw [hp] at h4
      unfold lt2 at h1 h4
      simp only at h1
      omega
    · omega
theorem Cut.no {R : List Rd} {n : Nat} {p : Int × Int} (h : Cut R n p) (hn : ∀ w, w ∈ R → w.2 ≠ p) : Cut R n (p.1, p.2 + 1) := by
  refine h.to fun w hw => ?_
  have h1 := hn w hw
  have h2 : ¬ (w.2.1 = p.1 ∧ w.2.2 = p.2) := fun hh => h1 (Prod.ext hh.1 hh.2)
  unfold lt2
  show _ ↔ w.2.1 < p.1 ∨ w.2.1 = p.1 ∧ w.2.2 < p.2 + 1
  omega
/-- dates: what the model keeps for each redex -/
def Cam (g : Nat → Nat → Int) (m : Nat) (R : List Rd) (D : List Int) : Prop := ∀ kk oo, kk < 40 → 1 ≤ oo → oo < 51 → (∀ (j : Nat) (w : Rd), R[j]? = some w → w.2 = (g (m + 15) kk, oNum g m oo) → D[j]? = some (g (m + 22) (51 * kk + oo))) ∧ ((∀ w, w ∈ R → w.2 ≠ (g (m + 15) kk, oNum g m oo)) → g (m + 22) (51 * kk + oo) = -1)
theorem oNum_of {g g1 : Nat → Nat → Int} {m o : Nat} (h : ∀ a, a ≠ m → g1 a = g a) : oNum g1 m o = oNum g m o := by
  unfold oNum; rw [h _ (by omega), h _ (by omega)]
theorem isR_of {g g1 : Nat → Nat → Int} {m k o n q : Nat} (h : ∀ a, a ≠ m → g1 a = g a) : isR g1 m k o n q ↔ isR g m k o n q := by
  unfold isR; rw [oNum_of h, h _ (by omega), h _ (by omega), h _ (by omega), h _ (by omega), h _ (by omega), h _ (by omega), h _ (by omega)]
/-- every other's number belongs to a slot, and is not negative -/
theorem rx_slots {g : Nat → Nat → Int} {m sz : Nat} {kd nm : Nat → Int} {A : SS} (hA : Rel g m A) (hV : Vd kd nm sz A) {w : Rd} (hw : w ∈ rxS kd A) : ∃ kk oo, Sl g m w kk oo ∧ 0 ≤ w.2.1 ∧ 0 ≤ w.2.2 := by
  obtain ⟨v1, v2, v3, v4, v5, v6, v7, v8, v9, v10, v11, v12, v13, v14, v15, v16⟩ := id hV
  obtain ⟨rp1, rg1, rm1, -⟩ := hA
  obtain ⟨e, he, we, hh⟩ := (rx_mem v6).mp hw
  obtain ⟨kk, hk1, hk2⟩ := rg1.2.1 e he
  have pl : ∀ p, p ∈ A.1 → w.2.2 = p.1 → ∃ oo, 1 ≤ oo ∧ oo < 51 ∧ oNum g m oo = w.2.2 ∧ 0 ≤ w.2.2 := by
    intro p hp hpw
    obtain ⟨q, h1, h2, h3⟩ := rp1.2.1 p hp
    exact ⟨q, h1, by omega, by unfold oNum; rw [if_pos h2, h3, hpw], by rw [hpw]; exact (v6.2 p hp).1⟩
  have hoo : ∃ oo, 1 ≤ oo ∧ oo < 51 ∧ oNum g m oo = w.2.2 ∧ 0 ≤ w.2.2 := by
    rcases hh with ⟨-, -, q1, o1, -, ho1, -, -, -, -, h⟩ | ⟨-, -, q1, o1, -, ho1, -, -, -, h⟩ | ⟨-, -, o1, ho1, -, -, h⟩ | ⟨-, -, -, -, o1, ho1, -, h⟩
    · exact pl o1 ho1 h
    · exact pl o1 ho1 h
    · exact pl o1 ho1 h
    · obtain ⟨q, h1, h3⟩ := rm1.2.1 o1 ho1
      exact ⟨q + 21, by omega, by omega, by unfold oNum; rw [if_neg (by omega), Nat.add_sub_cancel, h3, h], by rw [h]; exact (v8.2 o1 ho1).1⟩
  obtain ⟨oo, h1, h2, h3, h4⟩ := hoo
  exact ⟨kk, oo, ⟨hk1, h1, h2, by rw [hk2, we], h3⟩, by rw [we]; exact (v7.2 e he).1, h4⟩
/-- where a guard of a slot is -/
theorem gd_at {g : Nat → Nat → Int} {m sz : Nat} {kd nm rp en : Nat → Int} {ht : Nat → Nat} {A : SS} (hT : TmOk kd nm en sz ht) (hR : TrR g m kd nm rp en sz) (hA : Rel g m A) (hV : Vd kd nm sz A) {k : Nat} (hk : k < 40) : ∃ n q : Nat, 0 ≤ g (m + 15) k → g (m + 16) k = (n : Int) ∧ n < 51 ∧ g (m + 17) k = (q : Int) ∧ q < 21 ∧ -100 < g (m + 5) n ∧ g (m + 5) n < 100 := by
  by_cases h0 : 0 ≤ g (m + 15) k
  · obtain ⟨e, he, e1, e2, ⟨q, q1, q2, -⟩, -⟩ := hA.2.1.1 k hk h0
    obtain ⟨n, n1, n2, -⟩ := hV.2.2.2.2.2.2.2.2.2.2.2.2.2.2.2 e he
    have := nmM_rg (hT.2.2 n n2).2.2.2.2.1
    have h50 := hT.1.1
    exact ⟨n, q, fun _ => ⟨by omega, by omega, q1, q2, by rw [(hR.1 n n2).2.1]; omega, by rw [(hR.1 n n2).2.1]; omega⟩⟩
  · exact ⟨0, 0, fun h => absurd h h0⟩
theorem INVg {g g1 : Nat → Nat → Int} {m n : Nat} {R : List Rd} {D : List Int} {st b k : Int} (h : ((k ≠ -2 ∧ g1 = g ∧ b = -1 ∧ (0 ≤ k → (n : Int) ≤ k)) ∨ (k = -2 ∧ ((n = 0 ∧ b = -1 ∧ g1 = g) ∨ (∃ j kk oo w x, j < n ∧ R[j]? = some w ∧ D[j]? = some x ∧ b = st - x ∧ (∀ i y, i < n → D[i]? = some y → x ≤ y) ∧ (∀ i y, i < j → D[i]? = some y → x < y) ∧ Sl g m w kk oo ∧ g1 = u2 (u2 g m 65 (kk : Int)) m 66 (oo : Int)))))) : (∀ a, a ≠ m → g1 a = g a) ∧ ∀ f, f ≠ 65 → f ≠ 66 → g1 m f = g m f := by
  rcases h with ⟨-, rfl, -⟩ | ⟨-, ⟨-, -, rfl⟩ | ⟨j, kk, oo, w, x, -, -, -, -, -, -, -, rfl⟩⟩
  · exact ⟨fun _ _ => rfl, fun _ _ _ => rfl⟩
  · exact ⟨fun _ _ => rfl, fun _ _ _ => rfl⟩
  · exact ⟨fun a ha => by rw [u2_ne ha, u2_ne ha], fun f h5 h6 => by rw [u2_ni h6, u2_ni h5]⟩
theorem c131 {P : Pg} {d : Nat} {u : Mm} {g : Nat → Nat → Int} {m : Nat} {sz : Nat} {kd nm rp en : Nat → Int} {ht : Nat → Nat} {A : SS} {R : List Rd} {D : List Int} {st k : Int} (hM : MdA u m) (hT : TmOk kd nm en sz ht) (hTr : TrR g m kd nm rp en sz) (hA : Rel g m A) (hV : Vd kd nm sz A) (hR : rxS kd A = R) (hC : Cam g m R D) (hDl : D.length = R.length) (hst : g m 29 = st) (hDr : ∀ x, x ∈ D → 0 ≤ x ∧ x ≤ st) (hst2 : st ≤ 2147480000) (hk : -2 ≤ k) (hk2 : inR k) : Ec P (d + 3) 131 [vR m, vI k] (sI u g) (fun x u' => ((∃ n : Nat, k = (n : Int) ∧ ((∃ w kk oo, R[n]? = some w ∧ Sl g m w kk oo ∧ x = .inl (some (vI 1)) ∧ u' = sI u (u2 (u2 g m 65 (kk : Int)) m 66 (oo : Int))) ∨ (R.length ≤ n ∧ x = .inl (some (vI 0)) ∧ u' = sI u g))) ∨ (k = -1 ∧ x = .inl (some (vI (R.length : Int))) ∧ u' = sI u g) ∨ (k = -2 ∧ x = .inl (some (vI (R.length : Int))) ∧ ((R.length = 0 ∧ u' = sI u g) ∨ (∃ w kk oo, R[olF D]? = some w ∧ Sl g m w kk oo ∧ u' = sI u (u2 (u2 g m 65 (kk : Int)) m 66 (oo : Int))))))) := by
  have s0 := hM.1
  have f21 : mF u m 21 = some (m + 15) := (hM.2 14 (by decide)).1
  have s21 : mS u (m + 15) = some (0, 40) := (hM.2 14 (by decide)).2
  have f31 : mF u m 31 = some (m + 22) := (hM.2 21 (by decide)).1
  have s31 : mS u (m + 22) = some (0, 2040) := (hM.2 21 (by decide)).2
  have hs : Srt R := by rw [← hR]; exact rxS_srt hV
  have hl : R.length ≤ 1200 := by rw [← hR]; exact rxS_len hV
  have hsl : ∀ w, w ∈ R → ∃ kk oo, Sl g m w kk oo ∧ 0 ≤ w.2.1 ∧ 0 ≤ w.2.2 := fun w hw => rx_slots (kd := kd) hA hV (by rw [hR]; exact hw)
  have fin : ∀ (n : Nat) (b : Int) (g1 : Nat → Nat → Int) (v4 v5 v6 v7 : Option Vl), n = R.length → ((k ≠ -2 ∧ g1 = g ∧ b = -1 ∧ (0 ≤ k → (n : Int) ≤ k)) ∨ (k = -2 ∧ ((n = 0 ∧ b = -1 ∧ g1 = g) ∨ (∃ j kk oo w x, j < n ∧ R[j]? = some w ∧ D[j]? = some x ∧ b = st - x ∧ (∀ i y, i < n → D[i]? = some y → x ≤ y) ∧ (∀ i y, i < j → D[i]? = some y → x < y) ∧ Sl g m w kk oo ∧ g1 = u2 (u2 g m 65 (kk : Int)) m 66 (oo : Int))))) → Ef P (d + 3) 131 143 [some (vR m), some (vI k), some (vI (n : Int)), some (vI b), v4, v5, v6, v7] [] (sI u g1) (fun x u' => ((∃ n : Nat, k = (n : Int) ∧ ((∃ w kk oo, R[n]? = some w ∧ Sl g m w kk oo ∧ x = .inl (some (vI 1)) ∧ u' = sI u (u2 (u2 g m 65 (kk : Int)) m 66 (oo : Int))) ∨ (R.length ≤ n ∧ x = .inl (some (vI 0)) ∧ u' = sI u g))) ∨ (k = -1 ∧ x = .inl (some (vI (R.length : Int))) ∧ u' = sI u g) ∨ (k = -2 ∧ x = .inl (some (vI (R.length : Int))) ∧ ((R.length = 0 ∧ u' = sI u g) ∨ (∃ w kk oo, R[olF D]? = some w ∧ Sl g m w kk oo ∧ u' = sI u (u2 (u2 g m 65 (kk : Int)) m 66 (oo : Int))))))) := by
    intro n b g1 v4 v5 v6 v7 hn hI
    subst hn
    refine ef_iload_n (pc := 143) d131_143 rfl ?_
    refine ef_if_lt (pc := 144) d131_144 (t := 151) rfl (fun h144 => ?_) (fun h144 => ?_)
    · refine ef_iload_n (pc := 151) d131_151 rfl ?_
      refine ef_iret (pc := 152) d131_152 rfl ?_
      rcases hI with ⟨h1, rfl, -, h3⟩ | ⟨h1, ⟨h2, -, rfl⟩ | ⟨j, kk, oo, w, x, j1, j2, j3, j4, j5, j6, j7, rfl⟩⟩
      · first
        | exact Or.inr (Or.inl ⟨by omega, rfl, rfl⟩)
        | exact Or.inl ⟨k.toNat, by omega, Or.inr ⟨by have := h3 (by omega); omega, rfl, rfl⟩⟩
      · first
        | exact Or.inr (Or.inr ⟨h1, rfl, Or.inl ⟨h2, rfl⟩⟩)
        | omega
      · first
        | omega
        | (refine Or.inr (Or.inr ⟨h1, rfl, Or.inr ⟨w, kk, oo, ?_, j7, rfl⟩⟩)
           have hol : olF D = j := by
             refine old_F (S := fun i => match D[i]? with | some y => y | none => 0) (fun i c hc => by simp only [hc]) ⟨by omega, fun i hi => ?_, fun i hi => ?_⟩
             · obtain ⟨y, hy, -⟩ := get_of_lt hi
               simp only [hy, j3]
               exact j5 i y (by omega) hy
             · obtain ⟨y, hy, -⟩ := get_of_lt (L := D) (i := i) (by omega)
               simp only [hy, j3]
               exact j6 i y hi hy
           rw [hol]; exact j2)
    · refine ef_iconst (pc := 147) d131_147 (by decide) ?_
      refine ef_goto (pc := 148) d131_148 (t := 152) rfl ?_
      refine ef_iret (pc := 152) d131_152 rfl ?_
      rcases hI with ⟨h1, rfl, -, h3⟩ | ⟨h1, ⟨h2, -, rfl⟩ | ⟨j, kk, oo, w, x, j1, j2, j3, j4, j5, j6, j7, rfl⟩⟩
      · first
        | exact Or.inr (Or.inl ⟨by omega, rfl, rfl⟩)
        | exact Or.inl ⟨k.toNat, by omega, Or.inr ⟨by have := h3 (by omega); omega, rfl, rfl⟩⟩
      · first
        | exact Or.inr (Or.inr ⟨h1, rfl, Or.inl ⟨h2, rfl⟩⟩)
        | omega
      · first
        | omega
        | (refine Or.inr (Or.inr ⟨h1, rfl, Or.inr ⟨w, kk, oo, ?_, j7, rfl⟩⟩)
           have hol : olF D = j := by
             refine old_F (S := fun i => match D[i]? with | some y => y | none => 0) (fun i c hc => by simp only [hc]) ⟨by omega, fun i hi => ?_, fun i hi => ?_⟩
             · obtain ⟨y, hy, -⟩ := get_of_lt hi
               simp only [hy, j3]
               exact j5 i y (by omega) hy
             · obtain ⟨y, hy, -⟩ := get_of_lt (L := D) (i := i) (by omega)
               simp only [hy, j3]
               exact j6 i y hi hy
           rw [hol]; exact j2)
  -- the inner loop: others of one guard
  have inner : ∀ (kk : Nat), kk < 40 → 0 ≤ g (m + 15) kk →
      (∀ (n : Nat) (b : Int) (g1 : Nat → Nat → Int) (v5 v6 v7 : Option Vl), Cut R n (g (m + 15) kk + 1, -1) → ((k ≠ -2 ∧ g1 = g ∧ b = -1 ∧ (0 ≤ k → (n : Int) ≤ k)) ∨ (k = -2 ∧ ((n = 0 ∧ b = -1 ∧ g1 = g) ∨ (∃ j kk oo w x, j < n ∧ R[j]? = some w ∧ D[j]? = some x ∧ b = st - x ∧ (∀ i y, i < n → D[i]? = some y → x ≤ y) ∧ (∀ i y, i < j → D[i]? = some y → x < y) ∧ Sl g m w kk oo ∧ g1 = u2 (u2 g m 65 (kk : Int)) m 66 (oo : Int))))) → Ef P (d + 3) 131 127 [some (vR m), some (vI k), some (vI (n : Int)), some (vI b), some (vI (kk : Int)), v5, v6, v7] [] (sI u g1) (fun x u' => ((∃ n : Nat, k = (n : Int) ∧ ((∃ w kk oo, R[n]? = some w ∧ Sl g m w kk oo ∧ x = .inl (some (vI 1)) ∧ u' = sI u (u2 (u2 g m 65 (kk : Int)) m 66 (oo : Int))) ∨ (R.length ≤ n ∧ x = .inl (some (vI 0)) ∧ u' = sI u g))) ∨ (k = -1 ∧ x = .inl (some (vI (R.length : Int))) ∧ u' = sI u g) ∨ (k = -2 ∧ x = .inl (some (vI (R.length : Int))) ∧ ((R.length = 0 ∧ u' = sI u g) ∨ (∃ w kk oo, R[olF D]? = some w ∧ Sl g m w kk oo ∧ u' = sI u (u2 (u2 g m 65 (kk : Int)) m 66 (oo : Int)))))))) →
      ∀ (F n : Nat) (b : Int) (g1 : Nat → Nat → Int) (oo : Nat) (v6 v7 : Option Vl), 1 ≤ oo → oo < 51 → 0 ≤ oNum g m oo → A.2.2.2.1 ≤ oNum g m oo + (F : Int) → Cut R n (g (m + 15) kk, oNum g m oo) → ((k ≠ -2 ∧ g1 = g ∧ b = -1 ∧ (0 ≤ k → (n : Int) ≤ k)) ∨ (k = -2 ∧ ((n = 0 ∧ b = -1 ∧ g1 = g) ∨ (∃ j kk oo w x, j < n ∧ R[j]? = some w ∧ D[j]? = some x ∧ b = st - x ∧ (∀ i y, i < n → D[i]? = some y → x ≤ y) ∧ (∀ i y, i < j → D[i]? = some y → x < y) ∧ Sl g m w kk oo ∧ g1 = u2 (u2 g m 65 (kk : Int)) m 66 (oo : Int))))) → Ef P (d + 3) 131 23 [some (vR m), some (vI k), some (vI (n : Int)), some (vI b), some (vI (kk : Int)), some (vI (oo : Int)), v6, v7] [] (sI u g1) (fun x u' => ((∃ n : Nat, k = (n : Int) ∧ ((∃ w kk oo, R[n]? = some w ∧ Sl g m w kk oo ∧ x = .inl (some (vI 1)) ∧ u' = sI u (u2 (u2 g m 65 (kk : Int)) m 66 (oo : Int))) ∨ (R.length ≤ n ∧ x = .inl (some (vI 0)) ∧ u' = sI u g))) ∨ (k = -1 ∧ x = .inl (some (vI (R.length : Int))) ∧ u' = sI u g) ∨ (k = -2 ∧ x = .inl (some (vI (R.length : Int))) ∧ ((R.length = 0 ∧ u' = sI u g) ∨ (∃ w kk oo, R[olF D]? = some w ∧ Sl g m w kk oo ∧ u' = sI u (u2 (u2 g m 65 (kk : Int)) m 66 (oo : Int))))))) := by
    intro kk hkk hg0 cont
    have onx : ∀ oo, 1 ≤ oo → oo < 51 → oNum g m oo < A.2.2.2.1 := by
      intro oo h1 h2
      have hv6 := hV.2.2.2.2.2.1
      have hv8 := hV.2.2.2.2.2.2.2.1
      have hv2 := hV.2.1
      unfold oNum
      split
      · by_cases h0 : 0 ≤ g (m + 12) oo
        · obtain ⟨e, he, e1, -⟩ := hA.1.1 oo h1 (by omega) h0
          have := (hv6.2 e he).2; omega
        · omega
      · by_cases h0 : 0 ≤ g (m + 19) (oo - 21)
        · obtain ⟨e, he, e1, -⟩ := hA.2.2.1.1 (oo - 21) (by omega) h0
          have := (hv8.2 e he).2; omega
        · omega
    intro F
    induction F with
    | zero =>
      intro n b g1 oo v6 v7 h1 h2 h0 hF
      have := onx oo h1 h2
      omega
    | succ F ih =>
      intro n b g1 oo v6 v7 h1 h2 h0 hF hc hI
      obtain ⟨hg1, hg2⟩ := INVg hI
      obtain ⟨nn, q, hnq⟩ := gd_at hT hTr hA hV hkk
      have hnq1 : 0 ≤ g1 (m + 15) kk → g1 (m + 16) kk = (nn : Int) ∧ nn < 51 ∧ g1 (m + 17) kk = (q : Int) ∧ q < 21 ∧ -100 < g1 (m + 5) nn ∧ g1 (m + 5) nn < 100 := by rw [hg1 _ (by omega), hg1 _ (by omega), hg1 _ (by omega), hg1 _ (by omega)]; exact hnq
      have hrx := isR_rx hT hTr hA hV hkk h1 h2 (n := nn) (q := q) (fun h => ⟨(hnq h).1, (hnq h).2.2.1⟩)
      rw [hR] at hrx
      -- on to the next other
      have next : ∀ (n : Nat) (b : Int) (g1 : Nat → Nat → Int) (v6 v7 : Option Vl), Cut R n (g (m + 15) kk, oNum g m oo + 1) → ((k ≠ -2 ∧ g1 = g ∧ b = -1 ∧ (0 ≤ k → (n : Int) ≤ k)) ∨ (k = -2 ∧ ((n = 0 ∧ b = -1 ∧ g1 = g) ∨ (∃ j kk oo w x, j < n ∧ R[j]? = some w ∧ D[j]? = some x ∧ b = st - x ∧ (∀ i y, i < n → D[i]? = some y → x ≤ y) ∧ (∀ i y, i < j → D[i]? = some y → x < y) ∧ Sl g m w kk oo ∧ g1 = u2 (u2 g m 65 (kk : Int)) m 66 (oo : Int))))) → Ef P (d + 3) 131 112 [some (vR m), some (vI k), some (vI (n : Int)), some (vI b), some (vI (kk : Int)), some (vI (oo : Int)), v6, v7] [] (sI u g1) (fun x u' => ((∃ n : Nat, k = (n : Int) ∧ ((∃ w kk oo, R[n]? = some w ∧ Sl g m w kk oo ∧ x = .inl (some (vI 1)) ∧ u' = sI u (u2 (u2 g m 65 (kk : Int)) m 66 (oo : Int))) ∨ (R.length ≤ n ∧ x = .inl (some (vI 0)) ∧ u' = sI u g))) ∨ (k = -1 ∧ x = .inl (some (vI (R.length : Int))) ∧ u' = sI u g) ∨ (k = -2 ∧ x = .inl (some (vI (R.length : Int))) ∧ ((R.length = 0 ∧ u' = sI u g) ∨ (∃ w kk oo, R[olF D]? = some w ∧ Sl g m w kk oo ∧ u' = sI u (u2 (u2 g m 65 (kk : Int)) m 66 (oo : Int))))))) := by
        intro n b g1 v6 v7 hc hI
        obtain ⟨hg1, hg2⟩ := INVg hI
        refine ef_aload_n (pc := 112) d131_112 rfl ?_
        refine ef_aload_n (pc := 113) d131_113 rfl ?_
        refine ef_iload (pc := 114) d131_114 rfl ?_
        refine ef_callV (pc := 116) d131_116 lm_8_292 (as := [_]) rfl rfl (by assumption) rfl rfl (by decide) (Nat.le_of_ble_eq_true rfl) rfl (Nat.le_of_ble_eq_true rfl) ?_
        refine Ec.imp (c128 hM (by omega)) ?_
        rintro r116 u116 ⟨rfl, rfl⟩
        rw [oNum_of hg1]
        refine ef_callV (pc := 119) d131_119 lm_8_298 (as := [_]) rfl rfl (by assumption) rfl rfl (by decide) (Nat.le_of_ble_eq_true rfl) rfl (Nat.le_of_ble_eq_true rfl) ?_
        refine Ec.imp (c133 (d := d + 1) hM) ?_
        rintro r119 u119 ⟨rfl, hb⟩
        simp only [oNum_of hg1] at hb
        rcases hb with ⟨rfl, hb⟩ | ⟨o2, rfl, q1, q2, q3, q4⟩
        · refine ef_istore (pc := 122) d131_122 (ls' := [_, _, _, _, _, _, _, _]) rfl ?_
          refine ef_goto (pc := 124) d131_124 (t := 23) rfl ?_
          refine ef_iload (pc := 23) d131_23 rfl ?_
          refine ef_if_ltT (pc := 25) d131_25 (t := 127) rfl (by decide) ?_
          refine cont n b g1 _ _ _ (hc.to fun w hw => ?_) hI
          obtain ⟨k3, o3, ⟨x1, x2, x3, x4, x5⟩, x6, x7⟩ := hsl w hw
          have := hb o3 x2 x3
          unfold lt2
          simp only
          rw [x5] at this
          omega
        · refine ef_istore (pc := 122) d131_122 (ls' := [_, _, _, _, _, _, _, _]) rfl ?_
          refine ef_goto (pc := 124) d131_124 (t := 23) rfl ?_
          refine ih n b g1 o2 _ _ q1 q2 (by omega) (by omega) (hc.to fun w hw => ?_) hI
          obtain ⟨k3, o3, ⟨x1, x2, x3, x4, x5⟩, x6, x7⟩ := hsl w hw
          unfold lt2
          simp only
          by_cases hgt : oNum g m oo < w.2.2
          · have := q4 o3 x2 x3 (by rw [x5]; exact hgt)
            rw [x5] at this
            omega
          · omega
      refine ef_iload (pc := 23) d131_23 rfl ?_
      refine ef_if_ltF (pc := 25) d131_25 (t := 127) rfl (by omega) ?_
      refine ef_aload_n (pc := 28) d131_28 rfl ?_
      refine ef_iload (pc := 29) d131_29 rfl ?_
      refine ef_iload (pc := 31) d131_31 rfl ?_
      refine ef_callV (pc := 33) d131_33 lm_8_301 (as := [_, _]) rfl rfl (by assumption) rfl rfl (by decide) (Nat.le_of_ble_eq_true rfl) rfl (Nat.le_of_ble_eq_true rfl) ?_
      refine Ec.imp (c129 (d := d + 1) hM hkk h2 hnq1) ?_
      rintro r33 u33 ⟨rfl, hb⟩
      rcases hb with ⟨hyes, rfl⟩ | ⟨hno, rfl⟩
      · have hin := hrx.mp ((isR_of hg1).mp hyes)
        obtain ⟨w, hw, hw2⟩ := hin
        have hwn := hc.at hs hw hw2
        have hcu := hc.up hs hwn hw2
        obtain ⟨cm1, -⟩ := hC kk oo hkk h1 h2
        have hdn := cm1 n w hwn hw2
        have hdr := hDr _ (List.mem_of_getElem? hdn)
        have hnl := (List.getElem?_eq_some_iff.mp hwn).1
        have hst1 : g1 m 29 = st := by rw [hg2 29 (by decide) (by decide)]; exact hst
        have hcam : g1 (m + 22) (51 * kk + oo) = g (m + 22) (51 * kk + oo) := by rw [hg1 _ (by omega)]
        generalize hx : g (m + 22) (51 * kk + oo) = x at hdn hdr hcam
        have hsln : Sl g m w kk oo := ⟨hkk, h1, h2, by rw [hw2], by rw [hw2]⟩
        refine ef_if_eqF (pc := 36) d131_36 (t := 112) rfl (by decide) ?_
        refine ef_aload_n (pc := 39) d131_39 rfl ?_
        refine eg_getI (pc := 40) d131_40 lf_8_212 (by assumption) (by decide) ?_
        rw [hst1]
        refine ef_aload_n (pc := 43) d131_43 rfl ?_
        refine eg_getR (pc := 44) d131_44 lf_8_74 (by assumption) (by decide) (by assumption) ?_
        refine ef_bipush (pc := 47) d131_47 (by decide) ?_
        refine ef_iload (pc := 49) d131_49 rfl ?_
        refine ef_imul (pc := 51) d131_51 (z := ((51 * kk : Nat) : Int)) (by omega) ⟨by omega, by omega⟩ ?_
        refine ef_iload (pc := 52) d131_52 rfl ?_
        refine ef_iadd (pc := 54) d131_54 (z := ((51 * kk + oo : Nat) : Int)) (by omega) ⟨by omega, by omega⟩ ?_
        refine eg_iald (pc := 55) d131_55 (i := 51 * kk + oo) (by assumption) (rfl) (by omega) ?_
        rw [hcam]
        refine ef_isub (pc := 56) d131_56 rfl ⟨by omega, by omega⟩ ?_
        refine ef_istore (pc := 57) d131_57 (ls' := [_, _, _, _, _, _, _, _]) rfl ?_
        refine ef_iload_n (pc := 59) d131_59 rfl ?_
        refine ef_iload_n (pc := 60) d131_60 rfl ?_
        refine ef_icmp_eq (pc := 61) d131_61 (t := 75) rfl (fun h61 => ?_) (fun h61 => ?_)
        · refine ef_iconst (pc := 75) d131_75 (by decide) ?_
          refine ef_goto (pc := 76) d131_76 (t := 80) rfl ?_
          refine ef_istore (pc := 80) d131_80 (ls' := [_, _, _, _, _, _, _, _]) rfl ?_
          refine ef_iload (pc := 82) d131_82 rfl ?_
          refine ef_if_eqF (pc := 84) d131_84 (t := 109) rfl (by decide) ?_
          refine ef_iload (pc := 87) d131_87 rfl ?_
          refine ef_istore_n (pc := 89) d131_89 (ls' := [_, _, _, _, _, _, _, _]) rfl ?_
          refine ef_aload_n (pc := 90) d131_90 rfl ?_
          refine ef_iload (pc := 91) d131_91 rfl ?_
          refine eg_putI (pc := 93) d131_93 pf_131_304 (by assumption) (by decide) ?_
          refine ef_aload_n (pc := 96) d131_96 rfl ?_
          refine ef_iload (pc := 97) d131_97 rfl ?_
          refine eg_putI (pc := 99) d131_99 pf_131_307 (by assumption) (by decide) ?_
          refine ef_iload_n (pc := 102) d131_102 rfl ?_
          refine ef_iload_n (pc := 103) d131_103 rfl ?_
          refine ef_icmp_neF (pc := 104) d131_104 (t := 109) rfl (by omega) ?_
          refine ef_iconst (pc := 107) d131_107 (by decide) ?_
          refine ef_iret (pc := 108) d131_108 rfl ?_
          rcases hI with ⟨h5, rfl, h6, h7⟩ | ⟨h5, -⟩
          · exact Or.inl ⟨n, h61, Or.inl ⟨w, kk, oo, hwn, hsln, rfl, rfl⟩⟩
          · omega
        · refine ef_iload_n (pc := 64) d131_64 rfl ?_
          refine ef_iconst (pc := 65) d131_65 (by decide) ?_
          refine ef_icmp_ge (pc := 66) d131_66 (t := 79) rfl (fun h66 => ?_) (fun h66 => ?_)
          · refine ef_iconst (pc := 79) d131_79 (by decide) ?_
            refine ef_istore (pc := 80) d131_80 (ls' := [_, _, _, _, _, _, _, _]) rfl ?_
            refine ef_iload (pc := 82) d131_82 rfl ?_
            refine ef_if_eqT (pc := 84) d131_84 (t := 109) rfl (by decide) ?_
            refine ef_iinc (pc := 109) d131_109 (ls' := [_, _, _, _, _, _, _, _]) (z := ((n + 1 : Nat) : Int)) rfl (by decide) (by omega) ⟨by omega, by omega⟩ rfl ?_
            refine next (n + 1) _ _ _ _ hcu ?_
            rcases hI with ⟨h5, h6, h7, h8⟩ | ⟨h5, -⟩
            · exact Or.inl ⟨h5, h6, h7, fun hh => by have := h8 hh; omega⟩
            · omega
          · refine ef_iload (pc := 69) d131_69 rfl ?_
            refine ef_iload_n (pc := 71) d131_71 rfl ?_
            refine ef_icmp_le (pc := 72) d131_72 (t := 79) rfl (fun h72 => ?_) (fun h72 => ?_)
            · refine ef_iconst (pc := 79) d131_79 (by decide) ?_
              refine ef_istore (pc := 80) d131_80 (ls' := [_, _, _, _, _, _, _, _]) rfl ?_
              refine ef_iload (pc := 82) d131_82 rfl ?_
              refine ef_if_eqT (pc := 84) d131_84 (t := 109) rfl (by decide) ?_
              refine ef_iinc (pc := 109) d131_109 (ls' := [_, _, _, _, _, _, _, _]) (z := ((n + 1 : Nat) : Int)) rfl (by decide) (by omega) ⟨by omega, by omega⟩ rfl ?_
              refine next (n + 1) _ _ _ _ hcu ?_
              rcases hI with ⟨h5, -⟩ | ⟨-, ⟨h5, h6, -⟩ | ⟨j, k3, o3, w3, x3, j1, j2, j3, j4, j5, j6, j7, j8⟩⟩
              · omega
              · omega
              · refine Or.inr ⟨by omega, Or.inr ⟨j, k3, o3, w3, x3, by omega, j2, j3, j4, fun i y hi hy => ?_, j6, j7, j8⟩⟩
                by_cases hin : i = n
                · subst hin; rw [hdn] at hy; cases hy; omega
                · exact j5 i y (by omega) hy
            · refine ef_iconst (pc := 75) d131_75 (by decide) ?_
              refine ef_goto (pc := 76) d131_76 (t := 80) rfl ?_
              refine ef_istore (pc := 80) d131_80 (ls' := [_, _, _, _, _, _, _, _]) rfl ?_
              refine ef_iload (pc := 82) d131_82 rfl ?_
              refine ef_if_eqF (pc := 84) d131_84 (t := 109) rfl (by decide) ?_
              refine ef_iload (pc := 87) d131_87 rfl ?_
              refine ef_istore_n (pc := 89) d131_89 (ls' := [_, _, _, _, _, _, _, _]) rfl ?_
              refine ef_aload_n (pc := 90) d131_90 rfl ?_
              refine ef_iload (pc := 91) d131_91 rfl ?_
              refine eg_putI (pc := 93) d131_93 pf_131_304 (by assumption) (by decide) ?_
              refine ef_aload_n (pc := 96) d131_96 rfl ?_
              refine ef_iload (pc := 97) d131_97 rfl ?_
              refine eg_putI (pc := 99) d131_99 pf_131_307 (by assumption) (by decide) ?_
              refine ef_iload_n (pc := 102) d131_102 rfl ?_
              refine ef_iload_n (pc := 103) d131_103 rfl ?_
              refine ef_icmp_neT (pc := 104) d131_104 (t := 109) rfl (by omega) ?_
              refine ef_iinc (pc := 109) d131_109 (ls' := [_, _, _, _, _, _, _, _]) (z := ((n + 1 : Nat) : Int)) rfl (by decide) (by omega) ⟨by omega, by omega⟩ rfl ?_
              refine next (n + 1) _ _ _ _ hcu (Or.inr ⟨by omega, Or.inr ⟨n, kk, oo, w, x, by omega, hwn, hdn, rfl, ?_, ?_, hsln, ?_⟩⟩)
              · intro i y hi hy
                by_cases hin : i = n
                · subst hin; rw [hdn] at hy; cases hy; exact Int.le_refl _
                · rcases hI with ⟨h5, -⟩ | ⟨-, ⟨h5, -⟩ | ⟨j, k3, o3, w3, x3, j1, j2, j3, j4, j5, j6, j7, j8⟩⟩
                  · omega
                  · omega
                  · have := j5 i y (by omega) hy; omega
              · intro i y hi hy
                rcases hI with ⟨h5, -⟩ | ⟨-, ⟨h5, -⟩ | ⟨j, k3, o3, w3, x3, j1, j2, j3, j4, j5, j6, j7, j8⟩⟩
                · omega
                · omega
                · have := j5 i y (by omega) hy; omega
              · rcases hI with ⟨h5, -⟩ | ⟨-, ⟨-, -, rfl⟩ | ⟨j, k3, o3, w3, x3, j1, j2, j3, j4, j5, j6, j7, rfl⟩⟩
                · omega
                · rfl
                · exact u2_4
      · have hnn : ∀ w, w ∈ R → w.2 ≠ (g (m + 15) kk, oNum g m oo) := fun w hw hw2 => hno ((isR_of hg1).mpr (hrx.mpr ⟨w, hw, hw2⟩))
        refine ef_if_eqT (pc := 36) d131_36 (t := 112) rfl (by decide) ?_
        exact next n b g1 _ _ (hc.no hnn) hI
  have gnx : ∀ kk, kk < 40 → g (m + 15) kk < A.2.2.2.1 := by
    intro kk h2
    have hv7 := hV.2.2.2.2.2.2.1
    have hv2 := hV.2.1
    by_cases h0 : 0 ≤ g (m + 15) kk
    · obtain ⟨e, he, e1, -⟩ := hA.2.1.1 kk h2 h0
      have := (hv7.2 e he).2; omega
    · omega
  have outer : ∀ (F n : Nat) (b : Int) (g1 : Nat → Nat → Int) (kk : Nat) (v5 v6 v7 : Option Vl), kk < 40 → 0 ≤ g (m + 15) kk → A.2.2.2.1 ≤ g (m + 15) kk + (F : Int) → Cut R n (g (m + 15) kk, -1) → ((k ≠ -2 ∧ g1 = g ∧ b = -1 ∧ (0 ≤ k → (n : Int) ≤ k)) ∨ (k = -2 ∧ ((n = 0 ∧ b = -1 ∧ g1 = g) ∨ (∃ j kk oo w x, j < n ∧ R[j]? = some w ∧ D[j]? = some x ∧ b = st - x ∧ (∀ i y, i < n → D[i]? = some y → x ≤ y) ∧ (∀ i y, i < j → D[i]? = some y → x < y) ∧ Sl g m w kk oo ∧ g1 = u2 (u2 g m 65 (kk : Int)) m 66 (oo : Int))))) → Ef P (d + 3) 131 11 [some (vR m), some (vI k), some (vI (n : Int)), some (vI b), some (vI (kk : Int)), v5, v6, v7] [] (sI u g1) (fun x u' => ((∃ n : Nat, k = (n : Int) ∧ ((∃ w kk oo, R[n]? = some w ∧ Sl g m w kk oo ∧ x = .inl (some (vI 1)) ∧ u' = sI u (u2 (u2 g m 65 (kk : Int)) m 66 (oo : Int))) ∨ (R.length ≤ n ∧ x = .inl (some (vI 0)) ∧ u' = sI u g))) ∨ (k = -1 ∧ x = .inl (some (vI (R.length : Int))) ∧ u' = sI u g) ∨ (k = -2 ∧ x = .inl (some (vI (R.length : Int))) ∧ ((R.length = 0 ∧ u' = sI u g) ∨ (∃ w kk oo, R[olF D]? = some w ∧ Sl g m w kk oo ∧ u' = sI u (u2 (u2 g m 65 (kk : Int)) m 66 (oo : Int))))))) := by
    intro F
    induction F with
    | zero =>
      intro n b g1 kk v5 v6 v7 h1 h0 hF
      have := gnx kk h1
      omega
    | succ F ih =>
      intro n b g1 kk v5 v6 v7 h1 h0 hF hc hI
      obtain ⟨hg1, hg2⟩ := INVg hI
      have cont : ∀ (n : Nat) (b : Int) (g1 : Nat → Nat → Int) (v5 v6 v7 : Option Vl), Cut R n (g (m + 15) kk + 1, -1) → ((k ≠ -2 ∧ g1 = g ∧ b = -1 ∧ (0 ≤ k → (n : Int) ≤ k)) ∨ (k = -2 ∧ ((n = 0 ∧ b = -1 ∧ g1 = g) ∨ (∃ j kk oo w x, j < n ∧ R[j]? = some w ∧ D[j]? = some x ∧ b = st - x ∧ (∀ i y, i < n → D[i]? = some y → x ≤ y) ∧ (∀ i y, i < j → D[i]? = some y → x < y) ∧ Sl g m w kk oo ∧ g1 = u2 (u2 g m 65 (kk : Int)) m 66 (oo : Int))))) → Ef P (d + 3) 131 127 [some (vR m), some (vI k), some (vI (n : Int)), some (vI b), some (vI (kk : Int)), v5, v6, v7] [] (sI u g1) (fun x u' => ((∃ n : Nat, k = (n : Int) ∧ ((∃ w kk oo, R[n]? = some w ∧ Sl g m w kk oo ∧ x = .inl (some (vI 1)) ∧ u' = sI u (u2 (u2 g m 65 (kk : Int)) m 66 (oo : Int))) ∨ (R.length ≤ n ∧ x = .inl (some (vI 0)) ∧ u' = sI u g))) ∨ (k = -1 ∧ x = .inl (some (vI (R.length : Int))) ∧ u' = sI u g) ∨ (k = -2 ∧ x = .inl (some (vI (R.length : Int))) ∧ ((R.length = 0 ∧ u' = sI u g) ∨ (∃ w kk oo, R[olF D]? = some w ∧ Sl g m w kk oo ∧ u' = sI u (u2 (u2 g m 65 (kk : Int)) m 66 (oo : Int))))))) := by
        intro n b g1 v5 v6 v7 hc hI
        obtain ⟨hg1, hg2⟩ := INVg hI
        have hgk : g1 (m + 15) kk = g (m + 15) kk := by rw [hg1 _ (by omega)]
        refine ef_aload_n (pc := 127) d131_127 rfl ?_
        refine ef_aload_n (pc := 128) d131_128 rfl ?_
        refine eg_getR (pc := 129) d131_129 lf_8_53 (by assumption) (by decide) (by assumption) ?_
        refine ef_iload (pc := 132) d131_132 rfl ?_
        refine eg_iald (pc := 134) d131_134 (i := kk) (by assumption) (rfl) (by omega) ?_
        rw [hgk]
        refine ef_callV (pc := 135) d131_135 lm_8_295 (as := [_]) rfl rfl (by assumption) rfl rfl (by decide) (Nat.le_of_ble_eq_true rfl) rfl (Nat.le_of_ble_eq_true rfl) ?_
        refine Ec.imp (c132 (d := d + 2) hM) ?_
        rintro r135 u135 ⟨rfl, hb⟩
        rw [show g1 (m + 15) = g (m + 15) from hg1 _ (by omega)] at hb
        rcases hb with ⟨rfl, hb⟩ | ⟨k2, rfl, q1, q2, q3, q4⟩
        · refine ef_istore (pc := 138) d131_138 (ls' := [_, _, _, _, _, _, _, _]) rfl ?_
          refine ef_goto (pc := 140) d131_140 (t := 11) rfl ?_
          refine ef_iload (pc := 11) d131_11 rfl ?_
          refine ef_if_ltT (pc := 13) d131_13 (t := 143) rfl (by decide) ?_
          refine fin n b g1 _ _ _ _ (hc.all fun w hw => ?_) hI
          obtain ⟨k3, o3, ⟨x1, x2, x3, x4, x5⟩, x6, x7⟩ := hsl w hw
          have := hb k3 (Nat.zero_le _) x1
          rw [x4] at this
          exact Or.inl (by show w.2.1 < g (m + 15) kk + 1; omega)
        · refine ef_istore (pc := 138) d131_138 (ls' := [_, _, _, _, _, _, _, _]) rfl ?_
          refine ef_goto (pc := 140) d131_140 (t := 11) rfl ?_
          refine ih n b g1 k2 _ _ _ q2 (by omega) (by omega) (hc.to fun w hw => ?_) hI
          obtain ⟨k3, o3, ⟨x1, x2, x3, x4, x5⟩, x6, x7⟩ := hsl w hw
          unfold lt2
          simp only
          by_cases hgt : g (m + 15) kk < w.2.1
          · have := q4 k3 (Nat.zero_le _) x1 (by rw [x4]; exact hgt)
            rw [x4] at this
            omega
          · omega
      refine ef_iload (pc := 11) d131_11 rfl ?_
      refine ef_if_ltF (pc := 13) d131_13 (t := 143) rfl (by omega) ?_
      refine ef_aload_n (pc := 16) d131_16 rfl ?_
      refine ef_iconst (pc := 17) d131_17 (by decide) ?_
      refine ef_callV (pc := 18) d131_18 lm_8_298 (as := [_]) rfl rfl (by assumption) rfl rfl (by decide) (Nat.le_of_ble_eq_true rfl) rfl (Nat.le_of_ble_eq_true rfl) ?_
      refine Ec.imp (c133 (d := d + 1) hM) ?_
      rintro r18 u18 ⟨rfl, hb⟩
      simp only [oNum_of hg1] at hb
      rcases hb with ⟨rfl, hb⟩ | ⟨o2, rfl, q1, q2, q3, q4⟩
      · refine ef_istore (pc := 21) d131_21 (ls' := [_, _, _, _, _, _, _, _]) rfl ?_
        refine ef_iload (pc := 23) d131_23 rfl ?_
        refine ef_if_ltT (pc := 25) d131_25 (t := 127) rfl (by decide) ?_
        refine cont n b g1 _ _ _ (hc.to fun w hw => ?_) hI
        obtain ⟨k3, o3, ⟨x1, x2, x3, x4, x5⟩, x6, x7⟩ := hsl w hw
        have := hb o3 x2 x3
        rw [x5] at this
        omega
      · refine ef_istore (pc := 21) d131_21 (ls' := [_, _, _, _, _, _, _, _]) rfl ?_
        refine inner kk h1 h0 cont A.2.2.2.1.toNat n b g1 o2 _ _ q1 q2 (by omega) (by omega) (hc.to fun w hw => ?_) hI
        obtain ⟨k3, o3, ⟨x1, x2, x3, x4, x5⟩, x6, x7⟩ := hsl w hw
        have := q4 o3 x2 x3 (by rw [x5]; omega)
        rw [x5] at this
        unfold lt2
        simp only
        omega
  have hI0 : ∀ g1, g1 = g → ((k ≠ -2 ∧ g1 = g ∧ (-1 : Int) = -1 ∧ (0 ≤ k → ((0 : Nat) : Int) ≤ k)) ∨ (k = -2 ∧ (((0 : Nat) = 0 ∧ (-1 : Int) = -1 ∧ g1 = g) ∨ (∃ j kk oo w x, j < 0 ∧ R[j]? = some w ∧ D[j]? = some x ∧ (-1 : Int) = st - x ∧ (∀ i y, i < 0 → D[i]? = some y → x ≤ y) ∧ (∀ i y, i < j → D[i]? = some y → x < y) ∧ Sl g m w kk oo ∧ g1 = u2 (u2 g m 65 (kk : Int)) m 66 (oo : Int))))) := by
    intro g1 h1
    by_cases h2 : k = -2
    · exact Or.inr ⟨h2, Or.inl ⟨rfl, rfl, h1⟩⟩
    · exact Or.inl ⟨h2, h1, rfl, fun hh => hh⟩
  change Ef P _ 131 0 [some (vR m), some (vI k), none, none, none, none, none, none] [] _ _
  refine ef_iconst (pc := 0) d131_0 (by decide) ?_
  refine ef_istore_n (pc := 1) d131_1 (ls' := [_, _, _, _, _, _, _, _]) rfl ?_
  refine ef_iconst (pc := 2) d131_2 (by decide) ?_
  refine ef_istore_n (pc := 3) d131_3 (ls' := [_, _, _, _, _, _, _, _]) rfl ?_
  refine ef_aload_n (pc := 4) d131_4 rfl ?_
  refine ef_iconst (pc := 5) d131_5 (by decide) ?_
  refine ef_callV (pc := 6) d131_6 lm_8_295 (as := [_]) rfl rfl (by assumption) rfl rfl (by decide) (Nat.le_of_ble_eq_true rfl) rfl (Nat.le_of_ble_eq_true rfl) ?_
  refine Ec.imp (c132 (d := d + 2) hM) ?_
  rintro r6 u6 ⟨rfl, hb⟩
  rcases hb with ⟨rfl, hb⟩ | ⟨k2, rfl, q1, q2, q3, q4⟩
  · refine ef_istore (pc := 9) d131_9 (ls' := [_, _, _, _, _, _, _, _]) rfl ?_
    refine ef_iload (pc := 11) d131_11 rfl ?_
    refine ef_if_ltT (pc := 13) d131_13 (t := 143) rfl (by decide) ?_
    refine fin 0 (-1) g _ _ _ _ ?_ (hI0 g rfl)
    cases hRc : R with
    | nil => rfl
    | cons w l =>
      obtain ⟨k3, o3, ⟨x1, x2, x3, x4, x5⟩, x6, x7⟩ := hsl w (by rw [hRc]; exact List.mem_cons_self)
      have := hb k3 (Nat.zero_le _) x1
      rw [x4] at this
      omega
  · refine ef_istore (pc := 9) d131_9 (ls' := [_, _, _, _, _, _, _, _]) rfl ?_
    refine outer A.2.2.2.1.toNat 0 (-1) g k2 _ _ _ q2 (by omega) (by omega) ⟨Nat.zero_le _, fun j w hw => ?_⟩ (hI0 g rfl)
    obtain ⟨k3, o3, ⟨x1, x2, x3, x4, x5⟩, x6, x7⟩ := hsl w (List.mem_of_getElem? hw)
    have := q4 k3 (Nat.zero_le _) x1 (by rw [x4]; omega)
    rw [x4] at this
    unfold lt2
    simp only
    omega
