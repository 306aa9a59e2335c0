/-! The model: settling dates. Written by wip/whole/gen/c84.py. -/
def CamW (g : Nat → Nat → Int) (m : Nat) (R : List Rd) (D : List Int) : Prop := ∀ kk oo, kk < 40 → 1 ≤ oo → oo < 51 → (∀ (j : Nat) (w : Rd), R[j]? = some w → w.2 = (g (m + 23) kk, g (m + 24) oo) → D[j]? = some (g (m + 22) (51 * kk + oo))) ∧ ((∀ w, w ∈ R → w.2 ≠ (g (m + 23) kk, g (m + 24) oo)) → g (m + 22) (51 * kk + oo) = -1)
/-- who is there keeps its slot -/
def Stb (g : Nat → Nat → Int) (m : Nat) (R : List Rd) : Prop := (∀ kk, kk < 40 → ∀ w, w ∈ R → w.2.1 = g (m + 15) kk → g (m + 23) kk = g (m + 15) kk) ∧ ∀ oo, 1 ≤ oo → oo < 51 → ∀ w, w ∈ R → w.2.2 = oNum g m oo → g (m + 24) oo = oNum g m oo
def Sme (g : Nat → Nat → Int) (m kk oo : Nat) : Prop := g (m + 23) kk = g (m + 15) kk ∧ g (m + 24) oo = oNum g m oo ∧ 0 ≤ g (m + 22) (51 * kk + oo)
def Nw (g : Nat → Nat → Int) (m : Nat) (R : List Rd) (kk oo : Nat) (x : Int) : Prop := ((∃ w, w ∈ R ∧ w.2 = (g (m + 15) kk, oNum g m oo)) → (Sme g m kk oo → x = g (m + 22) (51 * kk + oo)) ∧ (¬ Sme g m kk oo → x = g m 29)) ∧ ((∀ w, w ∈ R → w.2 ≠ (g (m + 15) kk, oNum g m oo)) → x = -1)
theorem dtL_at {e : Rd} {st x : Int} : ∀ {B : List Rd} {D : List Int} {k : Nat} {b : Rd}, Srt B → D.length = B.length → B[k]? = some b → b.2 = e.2 → D[k]? = some x → dtL B D st e = x := by
  intro B
  induction B with
  | nil => intro D k b _ _ h; cases h
  | cons c B ih =>
    intro D k b hs hl hb hbe hx
    cases D with
    | nil => cases hl
    | cons y D =>
      rw [dtL]
      cases k with
      | zero => cases hb; cases hx; rw [if_pos hbe]
      | succ k =>
        have hne : ¬ c.2 = e.2 := fun hh => by
          have := hs 0 (k + 1) c b rfl hb (by omega)
          rw [hh, ← hbe] at this
          unfold lt2 at this
          omega
        rw [if_neg hne]
        exact ih (fun i j a d hi hj hij => hs (i + 1) (j + 1) a d hi hj (by omega)) (by simpa using hl) hb hbe hx
theorem dtL_no {e : Rd} {st : Int} : ∀ {B : List Rd} {D : List Int}, (∀ b, b ∈ B → b.2 ≠ e.2) → dtL B D st e = st := by
  intro B
  induction B with
  | nil => intro D _; cases D <;> rfl
  | cons c B ih =>
    intro D h
    cases D with
    | nil => rfl
    | cons y D => rw [dtL, if_neg (h c List.mem_cons_self)]; exact ih (fun b hb => h b (List.mem_cons_of_mem _ hb))
theorem nw_cam {g : Nat → Nat → Int} {m : Nat} {R R0 : List Rd} {D0 : List Int} (hs : Srt R) (hs0 : Srt R0) (hl : D0.length = R0.length) (hC : CamW g m R0 D0) (hS : Stb g m R0) (hD : ∀ x, x ∈ D0 → 0 ≤ x) {kk oo : Nat} (h1 : kk < 40) (h2 : 1 ≤ oo) (h3 : oo < 51) {x : Int} (hN : Nw g m R kk oo x) : (∀ (j : Nat) (w : Rd), R[j]? = some w → w.2 = (g (m + 15) kk, oNum g m oo) → (R.map (dtL R0 D0 (g m 29)))[j]? = some x) ∧ ((∀ w, w ∈ R → w.2 ≠ (g (m + 15) kk, oNum g m oo)) → x = -1) := by
  refine ⟨fun j w hw hw2 => ?_, hN.2⟩
  rw [List.getElem?_map, hw]
  obtain ⟨n1, n2⟩ := hN.1 ⟨w, List.mem_of_getElem? hw, hw2⟩
  obtain ⟨c1, c2⟩ := hC kk oo h1 h2 h3
  show some (dtL R0 D0 (g m 29) w) = some x
  congr 1
  by_cases hb : ∃ b, b ∈ R0 ∧ b.2 = w.2
  · obtain ⟨b, hb, hbw⟩ := hb
    obtain ⟨i, hi⟩ := List.getElem?_of_mem hb
    have hb1 : b.2.1 = g (m + 15) kk := by rw [hbw, hw2]
    have hb2 : b.2.2 = oNum g m oo := by rw [hbw, hw2]
    have w1 := hS.1 kk h1 b hb hb1
    have w2 := hS.2 oo h2 h3 b hb hb2
    have hd := c1 i b hi (by rw [hbw, hw2, w1, w2])
    rw [dtL_at hs0 hl hi hbw hd]
    exact (n1 ⟨w1, w2, hD _ (List.mem_of_getElem? hd)⟩).symm
  · have hno : ∀ b, b ∈ R0 → b.2 ≠ w.2 := fun b hb1 hb2 => hb ⟨b, hb1, hb2⟩
    rw [dtL_no hno]
    refine (n2 fun hsm => ?_).symm
    have := c2 (fun b hb1 hb2 => hno b hb1 (by rw [hb2, hw2, hsm.1, hsm.2.1]))
    have := hsm.2.2
    omega
theorem c127 {P : Pg} {d : Nat} {u : Mm} {g : Nat → Nat → Int} {m : Nat} {sz : Nat} {kd nm rp en : Nat → Int} {ht : Nat → Nat} {A : SS} {R : List Rd} (hM : MdA u m) (hT : TmOk kd nm en sz ht) (hTr : TrR g m kd nm rp en sz) (hA : Rel g m A) (hV : Vd kd nm sz A) (hR : rxS kd A = R) : Ec P (d + 3) 127 [vR m] (sI u g) (fun x u' => ∃ g', u' = sI u g' ∧ x = .inl none ∧ (∀ a, a ≠ m + 22 → a ≠ m + 23 → a ≠ m + 24 → g' a = g a) ∧ (∀ kk oo, kk < 40 → 1 ≤ oo → oo < 51 → Nw g m R kk oo (g' (m + 22) (51 * kk + oo))) ∧ (∀ kk, kk < 40 → g' (m + 23) kk = g (m + 15) kk) ∧ ∀ oo, 1 ≤ oo → oo < 51 → g' (m + 24) oo = oNum g m oo) := by
  have s0 := hM.1
  have f21 : mF u m 21 = some (m + 15) := (hM.2 14 (by decide)).1
  have s21 : mS u (m + 15) = some (0, 40) := (hM.2 14 (by decide)).2
  have f31 : mF u m 31 = some (m + 22) := (hM.2 21 (by decide)).1
  have s31 : mS u (m + 22) = some (0, 2040) := (hM.2 21 (by decide)).2
  have f32 : mF u m 32 = some (m + 23) := (hM.2 22 (by decide)).1
  have s32 : mS u (m + 23) = some (0, 40) := (hM.2 22 (by decide)).2
  have f33 : mF u m 33 = some (m + 24) := (hM.2 23 (by decide)).1
  have s33 : mS u (m + 24) = some (0, 51) := (hM.2 23 (by decide)).2
  -- the others' numbers
  have l3 : ∀ i, i ≤ 51 → 1 ≤ i → ∀ (g1 : Nat → Nat → Int) (v2 v3 v4 : Option Vl), (∀ a, a ≠ m + 22 → a ≠ m + 23 → a ≠ m + 24 → g1 a = g a) → (∀ kk oo, kk < 40 → 1 ≤ oo → oo < 51 → Nw g m R kk oo (g1 (m + 22) (51 * kk + oo))) → (∀ kk, kk < 40 → g1 (m + 23) kk = g (m + 15) kk) → (∀ oo, 1 ≤ oo → oo < i → g1 (m + 24) oo = oNum g m oo) → Ef P (d + 3) 127 155 [some (vR m), some (vI (i : Int)), v2, v3, v4] [] (sI u g1) (fun x u' => ∃ g', u' = sI u g' ∧ x = .inl none ∧ (∀ a, a ≠ m + 22 → a ≠ m + 23 → a ≠ m + 24 → g' a = g a) ∧ (∀ kk oo, kk < 40 → 1 ≤ oo → oo < 51 → Nw g m R kk oo (g' (m + 22) (51 * kk + oo))) ∧ (∀ kk, kk < 40 → g' (m + 23) kk = g (m + 15) kk) ∧ ∀ oo, 1 ≤ oo → oo < 51 → g' (m + 24) oo = oNum g m oo) := by
    refine nat_loop 51 ?_
    intro i hi ih h1 g1 v2 v3 v4 o1 n1 w1 w2
    have hon : oNum g1 m i = oNum g m i := by unfold oNum; rw [o1 _ (by omega) (by omega) (by omega), o1 _ (by omega) (by omega) (by omega)]
    refine ef_iload_n (pc := 155) d127_155 rfl ?_
    refine ef_bipush (pc := 156) d127_156 (by decide) ?_
    refine ef_icmp_ge (pc := 158) d127_158 (t := 178) rfl (fun h158 => ?_) (fun h158 => ?_)
    · have hii : i = 51 := by omega
      subst hii
      refine ef_vret (pc := 178) d127_178 rfl ?_
      exact ⟨g1, rfl, rfl, o1, n1, w1, w2⟩
    · refine ef_aload_n (pc := 161) d127_161 rfl ?_
      refine eg_getR (pc := 162) d127_162 lf_8_80 (by assumption) (by decide) (by assumption) ?_
      refine ef_iload_n (pc := 165) d127_165 rfl ?_
      refine ef_aload_n (pc := 166) d127_166 rfl ?_
      refine ef_iload_n (pc := 167) d127_167 rfl ?_
      refine ef_callV (pc := 168) d127_168 lm_8_292 (as := [_]) rfl rfl (by assumption) rfl rfl (by decide) (Nat.le_of_ble_eq_true rfl) rfl (Nat.le_of_ble_eq_true rfl) ?_
      refine Ec.imp (c128 hM (by omega)) ?_
      rintro r168 u168 ⟨rfl, rfl⟩
      rw [hon]
      refine eg_iast (pc := 171) d127_171 (i := i) (by assumption) (rfl) (by omega) rfl ?_
      refine ef_iinc (pc := 172) d127_172 (ls' := [_, _, _, _, _]) (z := ((i + 1 : Nat) : Int)) rfl (by decide) (by omega) ⟨by omega, by omega⟩ rfl ?_
      refine ef_goto (pc := 175) d127_175 (t := 155) rfl ?_
      refine ih (by omega) (by omega) _ _ _ _ (fun a h3 h4 h5 => by rw [u2_ne h5]; exact o1 a h3 h4 h5) (fun kk oo h3 h4 h5 => by rw [u2_ne (by omega)]; exact n1 kk oo h3 h4 h5) (fun kk h3 => by rw [u2_ne (by omega)]; exact w1 kk h3) (fun oo h3 h4 => ?_)
      by_cases ho : oo = i
      · subst ho; rw [u2_at]
      · rw [u2_ni ho]; exact w2 oo h3 (by omega)
  have l2 : ∀ i, i ≤ 40 → ∀ (g1 : Nat → Nat → Int) (v2 v3 v4 : Option Vl), (∀ a, a ≠ m + 22 → a ≠ m + 23 → g1 a = g a) → (∀ kk oo, kk < 40 → 1 ≤ oo → oo < 51 → Nw g m R kk oo (g1 (m + 22) (51 * kk + oo))) → (∀ kk, kk < i → g1 (m + 23) kk = g (m + 15) kk) → Ef P (d + 3) 127 129 [some (vR m), some (vI (i : Int)), v2, v3, v4] [] (sI u g1) (fun x u' => ∃ g', u' = sI u g' ∧ x = .inl none ∧ (∀ a, a ≠ m + 22 → a ≠ m + 23 → a ≠ m + 24 → g' a = g a) ∧ (∀ kk oo, kk < 40 → 1 ≤ oo → oo < 51 → Nw g m R kk oo (g' (m + 22) (51 * kk + oo))) ∧ (∀ kk, kk < 40 → g' (m + 23) kk = g (m + 15) kk) ∧ ∀ oo, 1 ≤ oo → oo < 51 → g' (m + 24) oo = oNum g m oo) := by
    refine nat_loop 40 ?_
    intro i hi ih g1 v2 v3 v4 o1 n1 w1
    have hon : g1 (m + 15) i = g (m + 15) i := by rw [o1 _ (by omega) (by omega)]
    refine ef_iload_n (pc := 129) d127_129 rfl ?_
    refine ef_bipush (pc := 130) d127_130 (by decide) ?_
    refine ef_icmp_ge (pc := 132) d127_132 (t := 153) rfl (fun h132 => ?_) (fun h132 => ?_)
    · have hii : i = 40 := by omega
      subst hii
      refine ef_iconst (pc := 153) d127_153 (by decide) ?_
      refine ef_istore_n (pc := 154) d127_154 (ls' := [_, _, _, _, _]) rfl ?_
      exact l3 1 (by omega) (by omega) g1 _ _ _ (fun a h3 h4 h5 => o1 a h3 h4) n1 w1 (fun oo h3 h4 => absurd h4 (by omega))
    · refine ef_aload_n (pc := 135) d127_135 rfl ?_
      refine eg_getR (pc := 136) d127_136 lf_8_77 (by assumption) (by decide) (by assumption) ?_
      refine ef_iload_n (pc := 139) d127_139 rfl ?_
      refine ef_aload_n (pc := 140) d127_140 rfl ?_
      refine eg_getR (pc := 141) d127_141 lf_8_53 (by assumption) (by decide) (by assumption) ?_
      refine ef_iload_n (pc := 144) d127_144 rfl ?_
      refine eg_iald (pc := 145) d127_145 (i := i) (by assumption) (rfl) (by omega) ?_
      rw [hon]
      refine eg_iast (pc := 146) d127_146 (i := i) (by assumption) (rfl) (by omega) rfl ?_
      refine ef_iinc (pc := 147) d127_147 (ls' := [_, _, _, _, _]) (z := ((i + 1 : Nat) : Int)) rfl (by decide) (by omega) ⟨by omega, by omega⟩ rfl ?_
      refine ef_goto (pc := 150) d127_150 (t := 129) rfl ?_
      refine ih (by omega) _ _ _ _ (fun a h3 h4 => by rw [u2_ne h4]; exact o1 a h3 h4) (fun kk oo h3 h4 h5 => by rw [u2_ne (by omega)]; exact n1 kk oo h3 h4 h5) (fun kk h3 => ?_)
      by_cases ho : kk = i
      · subst ho; rw [u2_at]
      · rw [u2_ni ho]; exact w1 kk (by omega)
  have l1 : ∀ i, i ≤ 40 → ∀ (g1 : Nat → Nat → Int) (j : Nat) (v2 v3 v4 : Option Vl), j = 1 → (∀ a, a ≠ m + 22 → g1 a = g a) → (∀ kk oo, kk < 40 → 1 ≤ oo → oo < 51 → (kk < i ∨ (kk = i ∧ oo < j)) → Nw g m R kk oo (g1 (m + 22) (51 * kk + oo))) → (∀ kk oo, kk < 40 → 1 ≤ oo → oo < 51 → ¬ (kk < i ∨ (kk = i ∧ oo < j)) → g1 (m + 22) (51 * kk + oo) = g (m + 22) (51 * kk + oo)) → Ef P (d + 3) 127 2 [some (vR m), some (vI (i : Int)), v2, v3, v4] [] (sI u g1) (fun x u' => ∃ g', u' = sI u g' ∧ x = .inl none ∧ (∀ a, a ≠ m + 22 → a ≠ m + 23 → a ≠ m + 24 → g' a = g a) ∧ (∀ kk oo, kk < 40 → 1 ≤ oo → oo < 51 → Nw g m R kk oo (g' (m + 22) (51 * kk + oo))) ∧ (∀ kk, kk < 40 → g' (m + 23) kk = g (m + 15) kk) ∧ ∀ oo, 1 ≤ oo → oo < 51 → g' (m + 24) oo = oNum g m oo) := by
    refine nat_loop 40 ?_
    intro i hi ih g1 j v2 v3 v4 hj o1 n1 p1
    subst hj
    have inn : i < 40 → ∀ j, j ≤ 51 → 1 ≤ j → ∀ (g1 : Nat → Nat → Int) (v3 v4 : Option Vl), (∀ a, a ≠ m + 22 → g1 a = g a) → (∀ kk oo, kk < 40 → 1 ≤ oo → oo < 51 → (kk < i ∨ (kk = i ∧ oo < j)) → Nw g m R kk oo (g1 (m + 22) (51 * kk + oo))) → (∀ kk oo, kk < 40 → 1 ≤ oo → oo < 51 → ¬ (kk < i ∨ (kk = i ∧ oo < j)) → g1 (m + 22) (51 * kk + oo) = g (m + 22) (51 * kk + oo)) → Ef P (d + 3) 127 10 [some (vR m), some (vI (i : Int)), some (vI (j : Int)), v3, v4] [] (sI u g1) (fun x u' => ∃ g', u' = sI u g' ∧ x = .inl none ∧ (∀ a, a ≠ m + 22 → a ≠ m + 23 → a ≠ m + 24 → g' a = g a) ∧ (∀ kk oo, kk < 40 → 1 ≤ oo → oo < 51 → Nw g m R kk oo (g' (m + 22) (51 * kk + oo))) ∧ (∀ kk, kk < 40 → g' (m + 23) kk = g (m + 15) kk) ∧ ∀ oo, 1 ≤ oo → oo < 51 → g' (m + 24) oo = oNum g m oo) := by
      intro hi40
      refine nat_loop 51 ?_
      intro j hj ihj h1 g1 v3 v4 o1 n1 p1
      have hon : oNum g1 m j = oNum g m j := by unfold oNum; rw [o1 _ (by omega), o1 _ (by omega)]
      have e15 : g1 (m + 15) = g (m + 15) := o1 _ (by omega)
      have e23 : g1 (m + 23) = g (m + 23) := o1 _ (by omega)
      have e24 : g1 (m + 24) = g (m + 24) := o1 _ (by omega)
      have e29 : g1 m = g m := o1 _ (by omega)
      obtain ⟨nn, q, hnq⟩ := gd_at hT hTr hA hV hi40
      have hnq1 : 0 ≤ g1 (m + 15) i → g1 (m + 16) i = (nn : Int) ∧ nn < 51 ∧ g1 (m + 17) i = (q : Int) ∧ q < 21 ∧ -100 < g1 (m + 5) nn ∧ g1 (m + 5) nn < 100 := by rw [o1 _ (by omega), o1 _ (by omega), o1 _ (by omega), o1 _ (by omega)]; exact hnq
      have iso : isR g1 m i j nn q ↔ isR g m i j nn q := by
        unfold isR
        rw [hon, o1 _ (by omega), o1 _ (by omega), o1 _ (by omega), o1 _ (by omega), o1 _ (by omega), o1 _ (by omega), o1 _ (by omega)]
      -- the rest of a round: same is known
      have rest : j < 51 → ∀ (b : Int), ((Sme g m i j ∧ b = 1) ∨ (¬ Sme g m i j ∧ b = 0)) → ∀ v4, Ef P (d + 3) 127 64 [some (vR m), some (vI (i : Int)), some (vI (j : Int)), v3, v4] [vI b] (sI u g1) (fun x u' => ∃ g', u' = sI u g' ∧ x = .inl none ∧ (∀ a, a ≠ m + 22 → a ≠ m + 23 → a ≠ m + 24 → g' a = g a) ∧ (∀ kk oo, kk < 40 → 1 ≤ oo → oo < 51 → Nw g m R kk oo (g' (m + 22) (51 * kk + oo))) ∧ (∀ kk, kk < 40 → g' (m + 23) kk = g (m + 15) kk) ∧ ∀ oo, 1 ≤ oo → oo < 51 → g' (m + 24) oo = oNum g m oo) := by
        intro hj51 b hb v4
        have hrx := isR_rx hT hTr hA hV hi40 h1 hj51 (n := nn) (q := q) (fun h => ⟨(hnq h).1, (hnq h).2.2.1⟩)
        rw [hR] at hrx
        have hold : g1 (m + 22) (51 * i + j) = g (m + 22) (51 * i + j) := p1 i j hi40 h1 hj51 (by omega)
        have go : ∀ (x : Int) (v3 v4 : Option Vl), Nw g m R i j x → Ef P (d + 3) 127 115 [some (vR m), some (vI (i : Int)), some (vI (j : Int)), v3, v4] [] (sI u (u2 g1 (m + 22) (51 * i + j) x)) (fun x u' => ∃ g', u' = sI u g' ∧ x = .inl none ∧ (∀ a, a ≠ m + 22 → a ≠ m + 23 → a ≠ m + 24 → g' a = g a) ∧ (∀ kk oo, kk < 40 → 1 ≤ oo → oo < 51 → Nw g m R kk oo (g' (m + 22) (51 * kk + oo))) ∧ (∀ kk, kk < 40 → g' (m + 23) kk = g (m + 15) kk) ∧ ∀ oo, 1 ≤ oo → oo < 51 → g' (m + 24) oo = oNum g m oo) := by
          intro x v3 v4 hx
          refine ef_iinc (pc := 115) d127_115 (ls' := [_, _, _, _, _]) (z := ((j + 1 : Nat) : Int)) rfl (by decide) (by omega) ⟨by omega, by omega⟩ rfl ?_
          refine ef_goto (pc := 118) d127_118 (t := 10) rfl ?_
          refine ihj hj51 (by omega) _ _ _ (fun a h3 => by rw [u2_ne h3]; exact o1 a h3) (fun kk oo h3 h4 h5 h6 => ?_) (fun kk oo h3 h4 h5 h6 => ?_)
          · by_cases hko : kk = i ∧ oo = j
            · rw [hko.1, hko.2, u2_at]; exact hx
            · rw [u2_ni (by omega)]; exact n1 kk oo h3 h4 h5 (by omega)
          · rw [u2_ni (by omega)]; exact p1 kk oo h3 h4 h5 (by omega)
        refine ef_istore_n (pc := 64) d127_64 (ls' := [_, _, _, _, _]) rfl ?_
        refine ef_aload_n (pc := 65) d127_65 rfl ?_
        refine ef_iload_n (pc := 66) d127_66 rfl ?_
        refine ef_iload_n (pc := 67) d127_67 rfl ?_
        refine ef_callV (pc := 68) d127_68 lm_8_301 (as := [_, _]) rfl rfl (by assumption) rfl rfl (by decide) (Nat.le_of_ble_eq_true rfl) rfl (Nat.le_of_ble_eq_true rfl) ?_
        refine Ec.imp (c129 (d := d + 1) hM hi40 hj51 hnq1) ?_
        rintro r68 u68 ⟨rfl, hq⟩
        rcases hq with ⟨hyes, rfl⟩ | ⟨hno, rfl⟩
        · refine ef_istore (pc := 71) d127_71 (ls' := [_, _, _, _, _]) rfl ?_
          refine ef_aload_n (pc := 73) d127_73 rfl ?_
          refine eg_getR (pc := 74) d127_74 lf_8_74 (by assumption) (by decide) (by assumption) ?_
          refine ef_bipush (pc := 77) d127_77 (by decide) ?_
          refine ef_iload_n (pc := 79) d127_79 rfl ?_
          refine ef_imul (pc := 80) d127_80 (z := ((51 * i : Nat) : Int)) (by omega) ⟨by omega, by omega⟩ ?_
          refine ef_iload_n (pc := 81) d127_81 rfl ?_
          refine ef_iadd (pc := 82) d127_82 (z := ((51 * i + j : Nat) : Int)) (by omega) ⟨by omega, by omega⟩ ?_
          refine ef_iload (pc := 83) d127_83 rfl ?_
          refine ef_if_neT (pc := 85) d127_85 (t := 92) rfl (by decide) ?_
          refine ef_iload_n (pc := 92) d127_92 rfl ?_
          refine ef_if_eq (pc := 93) d127_93 (t := 110) rfl (fun h93 => ?_) (fun h93 => ?_)
          · have hns : ¬ Sme g m i j := by
              rcases hb with ⟨-, h⟩ | ⟨h, -⟩
              · omega
              · exact h
            refine ef_aload_n (pc := 110) d127_110 rfl ?_
            refine eg_getI (pc := 111) d127_111 lf_8_212 (by assumption) (by decide) ?_
            rw [e29]
            refine eg_iast (pc := 114) d127_114 (i := 51 * i + j) (by assumption) (rfl) (by omega) rfl ?_
            first
            | exact go _ _ _ ⟨fun _ => ⟨fun h => absurd h hns, fun _ => rfl⟩, fun h => by obtain ⟨w, hw, hw2⟩ := hrx.mp (iso.mp hyes); exact absurd hw2 (h w hw)⟩
            | exact go _ _ _ ⟨fun _ => ⟨fun _ => rfl, fun h => absurd hsm h⟩, fun h => by obtain ⟨w, hw, hw2⟩ := hrx.mp (iso.mp hyes); exact absurd hw2 (h w hw)⟩
          · have hsm : Sme g m i j := by
              rcases hb with ⟨h, -⟩ | ⟨-, h⟩
              · exact h
              · omega
            refine ef_aload_n (pc := 96) d127_96 rfl ?_
            refine eg_getR (pc := 97) d127_97 lf_8_74 (by assumption) (by decide) (by assumption) ?_
            refine ef_bipush (pc := 100) d127_100 (by decide) ?_
            refine ef_iload_n (pc := 102) d127_102 rfl ?_
            refine ef_imul (pc := 103) d127_103 (z := ((51 * i : Nat) : Int)) (by omega) ⟨by omega, by omega⟩ ?_
            refine ef_iload_n (pc := 104) d127_104 rfl ?_
            refine ef_iadd (pc := 105) d127_105 (z := ((51 * i + j : Nat) : Int)) (by omega) ⟨by omega, by omega⟩ ?_
            refine eg_iald (pc := 106) d127_106 (i := 51 * i + j) (by assumption) (rfl) (by omega) ?_
            rw [hold]
            refine ef_goto (pc := 107) d127_107 (t := 114) rfl ?_
            refine eg_iast (pc := 114) d127_114 (i := 51 * i + j) (by assumption) (rfl) (by omega) rfl ?_
            first
            | exact go _ _ _ ⟨fun _ => ⟨fun h => absurd h hns, fun _ => rfl⟩, fun h => by obtain ⟨w, hw, hw2⟩ := hrx.mp (iso.mp hyes); exact absurd hw2 (h w hw)⟩
            | exact go _ _ _ ⟨fun _ => ⟨fun _ => rfl, fun h => absurd hsm h⟩, fun h => by obtain ⟨w, hw, hw2⟩ := hrx.mp (iso.mp hyes); exact absurd hw2 (h w hw)⟩
        · refine ef_istore (pc := 71) d127_71 (ls' := [_, _, _, _, _]) rfl ?_
          refine ef_aload_n (pc := 73) d127_73 rfl ?_
          refine eg_getR (pc := 74) d127_74 lf_8_74 (by assumption) (by decide) (by assumption) ?_
          refine ef_bipush (pc := 77) d127_77 (by decide) ?_
          refine ef_iload_n (pc := 79) d127_79 rfl ?_
          refine ef_imul (pc := 80) d127_80 (z := ((51 * i : Nat) : Int)) (by omega) ⟨by omega, by omega⟩ ?_
          refine ef_iload_n (pc := 81) d127_81 rfl ?_
          refine ef_iadd (pc := 82) d127_82 (z := ((51 * i + j : Nat) : Int)) (by omega) ⟨by omega, by omega⟩ ?_
          refine ef_iload (pc := 83) d127_83 rfl ?_
          refine ef_if_neF (pc := 85) d127_85 (t := 92) rfl (by decide) ?_
          refine ef_iconst (pc := 88) d127_88 (by decide) ?_
          refine ef_goto (pc := 89) d127_89 (t := 114) rfl ?_
          refine eg_iast (pc := 114) d127_114 (i := 51 * i + j) (by assumption) (rfl) (by omega) rfl ?_
          exact go _ _ _ ⟨fun h => absurd (iso.mpr (hrx.mpr h)) hno, fun _ => rfl⟩
      refine ef_iload_n (pc := 10) d127_10 rfl ?_
      refine ef_bipush (pc := 11) d127_11 (by decide) ?_
      refine ef_icmp_ge (pc := 13) d127_13 (t := 121) rfl (fun h13 => ?_) (fun h13 => ?_)
      · have hjj : j = 51 := by omega
        subst hjj
        refine ef_iinc (pc := 121) d127_121 (ls' := [_, _, _, _, _]) (z := ((i + 1 : Nat) : Int)) rfl (by decide) (by omega) ⟨by omega, by omega⟩ rfl ?_
        refine ef_goto (pc := 124) d127_124 (t := 2) rfl ?_
        refine ih hi40 g1 1 _ _ _ rfl o1 (fun kk oo h3 h4 h5 h6 => n1 kk oo h3 h4 h5 (by omega)) (fun kk oo h3 h4 h5 h6 => p1 kk oo h3 h4 h5 (by omega))
      · refine ef_aload_n (pc := 16) d127_16 rfl ?_
        refine eg_getR (pc := 17) d127_17 lf_8_77 (by assumption) (by decide) (by assumption) ?_
        refine ef_iload_n (pc := 20) d127_20 rfl ?_
        refine eg_iald (pc := 21) d127_21 (i := i) (by assumption) (rfl) (by omega) ?_
        rw [e23]
        refine ef_aload_n (pc := 22) d127_22 rfl ?_
        refine eg_getR (pc := 23) d127_23 lf_8_53 (by assumption) (by decide) (by assumption) ?_
        refine ef_iload_n (pc := 26) d127_26 rfl ?_
        refine eg_iald (pc := 27) d127_27 (i := i) (by assumption) (rfl) (by omega) ?_
        rw [e15]
        refine ef_icmp_ne (pc := 28) d127_28 (t := 63) rfl (fun h28 => ?_) (fun h28 => ?_)
        · have hns : ¬ Sme g m i j := fun h => h28 h.1
          refine ef_iconst (pc := 63) d127_63 (by decide) ?_
          first
          | exact rest (by omega) 0 (Or.inr ⟨hns, rfl⟩) _
          | exact rest (by omega) 1 (Or.inl ⟨hsm, rfl⟩) _
        · refine ef_aload_n (pc := 31) d127_31 rfl ?_
          refine eg_getR (pc := 32) d127_32 lf_8_80 (by assumption) (by decide) (by assumption) ?_
          refine ef_iload_n (pc := 35) d127_35 rfl ?_
          refine eg_iald (pc := 36) d127_36 (i := j) (by assumption) (rfl) (by omega) ?_
          rw [e24]
          refine ef_aload_n (pc := 37) d127_37 rfl ?_
          refine ef_iload_n (pc := 38) d127_38 rfl ?_
          refine ef_callV (pc := 39) d127_39 lm_8_292 (as := [_]) rfl rfl (by assumption) rfl rfl (by decide) (Nat.le_of_ble_eq_true rfl) rfl (Nat.le_of_ble_eq_true rfl) ?_
          refine Ec.imp (c128 hM (by omega)) ?_
          rintro r39 u39 ⟨rfl, rfl⟩
          rw [hon]
          refine ef_icmp_ne (pc := 42) d127_42 (t := 63) rfl (fun h42 => ?_) (fun h42 => ?_)
          · have hns : ¬ Sme g m i j := fun h => h42 h.2.1
            refine ef_iconst (pc := 63) d127_63 (by decide) ?_
            first
            | exact rest (by omega) 0 (Or.inr ⟨hns, rfl⟩) _
            | exact rest (by omega) 1 (Or.inl ⟨hsm, rfl⟩) _
          · refine ef_aload_n (pc := 45) d127_45 rfl ?_
            refine eg_getR (pc := 46) d127_46 lf_8_74 (by assumption) (by decide) (by assumption) ?_
            refine ef_bipush (pc := 49) d127_49 (by decide) ?_
            refine ef_iload_n (pc := 51) d127_51 rfl ?_
            refine ef_imul (pc := 52) d127_52 (z := ((51 * i : Nat) : Int)) (by omega) ⟨by omega, by omega⟩ ?_
            refine ef_iload_n (pc := 53) d127_53 rfl ?_
            refine ef_iadd (pc := 54) d127_54 (z := ((51 * i + j : Nat) : Int)) (by omega) ⟨by omega, by omega⟩ ?_
            refine eg_iald (pc := 55) d127_55 (i := 51 * i + j) (by assumption) (rfl) (by omega) ?_
            try simp (disch := omega) only [u2_ne, u2_at, u2_ni, ur_ne, ur_eq]
            rw [p1 i j hi40 h1 (by omega) (by omega)]
            refine ef_if_lt (pc := 56) d127_56 (t := 63) rfl (fun h56 => ?_) (fun h56 => ?_)
            · have hns : ¬ Sme g m i j := fun h => by have := h.2.2; omega
              refine ef_iconst (pc := 63) d127_63 (by decide) ?_
              first
              | exact rest (by omega) 0 (Or.inr ⟨hns, rfl⟩) _
              | exact rest (by omega) 1 (Or.inl ⟨hsm, rfl⟩) _
            · have hsm : Sme g m i j := ⟨h28, h42, by omega⟩
              refine ef_iconst (pc := 59) d127_59 (by decide) ?_
              refine ef_goto (pc := 60) d127_60 (t := 64) rfl ?_
              first
              | exact rest (by omega) 0 (Or.inr ⟨hns, rfl⟩) _
              | exact rest (by omega) 1 (Or.inl ⟨hsm, rfl⟩) _
    refine ef_iload_n (pc := 2) d127_2 rfl ?_
    refine ef_bipush (pc := 3) d127_3 (by decide) ?_
    refine ef_icmp_ge (pc := 5) d127_5 (t := 127) rfl (fun h5 => ?_) (fun h5 => ?_)
    · have hii : i = 40 := by omega
      subst hii
      refine ef_iconst (pc := 127) d127_127 (by decide) ?_
      refine ef_istore_n (pc := 128) d127_128 (ls' := [_, _, _, _, _]) rfl ?_
      exact l2 0 (by omega) g1 _ _ _ (fun a h3 h4 => o1 a h3) (fun kk oo h3 h4 h5 => n1 kk oo h3 h4 h5 (by omega)) (fun kk h3 => absurd h3 (by omega))
    · refine ef_iconst (pc := 8) d127_8 (by decide) ?_
      refine ef_istore_n (pc := 9) d127_9 (ls' := [_, _, _, _, _]) rfl ?_
      exact inn (by omega) 1 (by omega) (by omega) g1 _ _ o1 n1 p1
  change Ef P _ 127 0 [some (vR m), none, none, none, none] [] _ _
  refine ef_iconst (pc := 0) d127_0 (by decide) ?_
  refine ef_istore_n (pc := 1) d127_1 (ls' := [_, _, _, _, _]) rfl ?_
  exact l1 0 (by omega) g 1 _ _ _ rfl (fun a h3 => rfl) (fun kk oo h3 h4 h5 h6 => by omega) (fun kk oo h3 h4 h5 h6 => rfl)
