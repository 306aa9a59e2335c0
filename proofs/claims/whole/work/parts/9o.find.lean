/-! The model: a state found. Written by wip/whole/gen/c9o.py. -/
theorem Chs.nil : Chs [] := fun _ h => absurd h (List.not_mem_nil)
theorem Chs.cons {c : Int} {T : List Int} (hc : 0 ≤ c ∧ c < 256) (h : Chs T) : Chs (c :: T) := fun x hx => by
  rcases List.mem_cons.mp hx with rfl | hx
  · exact hc
  · exact h x hx
theorem Chs.app {T U : List Int} (h : Chs T) (k : Chs U) : Chs (T ++ U) := fun x hx => by
  rcases List.mem_append.mp hx with hx | hx
  · exact h x hx
  · exact k x hx
def AlC (l : List (List Int)) : Prop := ∀ x, x ∈ l → Chs x
theorem AlC.ins {x : List Int} (hx : Chs x) : ∀ {l : List (List Int)}, AlC l → AlC (insT x l) := by
  intro l
  induction l with
  | nil => intro _ y hy; rw [insT, List.mem_singleton] at hy; rw [hy]; exact hx
  | cons z l ih =>
    intro h
    rw [insT]
    split
    · intro y hy
      rcases List.mem_cons.mp hy with rfl | hy
      · exact hx
      · exact h y hy
    · intro y hy
      rcases List.mem_cons.mp hy with rfl | hy
      · exact h _ (List.mem_cons_self)
      · exact ih (fun w hw => h w (List.mem_cons_of_mem _ hw)) y hy
theorem AlC.srt {l : List (List Int)} (h : AlC l) : AlC (srtT l) := by
  have key : ∀ (l a : List (List Int)), AlC l → AlC a → AlC (l.foldl (fun a x => insT x a) a) := by
    intro l
    induction l with
    | nil => intro a _ h; exact h
    | cons x l ih => intro a h1 h2; exact ih _ (fun w hw => h1 w (List.mem_cons_of_mem _ hw)) (AlC.ins (h1 x List.mem_cons_self) h2)
  exact key l [] h (fun _ h => absurd h (List.not_mem_nil))
theorem AlC.il {b : Bool} : ∀ {l : List (List Int)}, AlC l → Chs (ilF b l) := by
  intro l
  induction l generalizing b with
  | nil => intro _; exact Chs.nil
  | cons x l ih =>
    intro h
    rw [ilF]
    refine Chs.app ?_ ((h x List.mem_cons_self).app (ih (fun w hw => h w (List.mem_cons_of_mem _ hw))))
    split
    · exact Chs.cons (by decide) Chs.nil
    · exact Chs.nil
theorem AlC.jn {t : Bool} {l : List (List Int)} (h : AlC l) : Chs (jnL t l) := by
  unfold jnL
  split
  · exact Chs.cons (by decide) Chs.nil
  · split
    · exact h.il
    · unfold joinL
      refine Chs.app ?_ (h.il.app ?_)
      · split
        · exact Chs.cons (by decide) Chs.nil
        · exact Chs.nil
      · split
        · exact Chs.cons (by decide) Chs.nil
        · exact Chs.nil
theorem nmT_ch {c m : Int} (hc : (97 ≤ c ∧ c ≤ 102) ∨ (120 ≤ c ∧ c ≤ 122)) (hm : MnOk m) : 0 ≤ nmT c m ∧ nmT c m < 256 := by
  have := mt_rg hm hc
  unfold nmT
  split <;> omega
theorem inm_ok {kd nm en : Nat → Int} {sz n : Nat} {ht : Nat → Nat} {m : Int} (hT : TmOk kd nm en sz ht) (hn : n < sz) (hm : MnOk m) : MnOk (inm kd nm n m) := by
  unfold inm
  split
  · rename_i h3
    exact bd_ok hm ((hT.2.2 n hn).2.2.2.2.2 h3) (by omega)
  · exact hm
theorem sgnC_ch {k : Int} : 0 ≤ sgnC k ∧ sgnC k < 256 := by
  unfold sgnC
  by_cases h0 : k = 0
  · rw [if_pos h0]; decide
  · rw [if_neg h0]
    by_cases h1 : k = 1
    · rw [if_pos h1]; decide
    · rw [if_neg h1]
      by_cases h2 : k = 2
      · rw [if_pos h2]; decide
      · rw [if_neg h2]; decide
theorem hdT_ch {kd nm rp en : Nat → Int} {sz n : Nat} {ht : Nat → Nat} {m : Int} (hT : TmOk kd nm en sz ht) (hn : n < sz) (hm : MnOk m) : Chs (hdT kd nm rp n m) := by
  have hc := nmT_ch (hT.2.2 n hn).2.2.2.2.1 hm
  unfold hdT
  split
  · exact Chs.cons hc (Chs.cons (by decide) Chs.nil)
  · split
    · exact Chs.cons (by decide) (Chs.cons hc Chs.nil)
    · refine Chs.app ?_ (Chs.cons ?_ (Chs.cons hc (Chs.cons (by decide) Chs.nil)))
      · split
        · exact Chs.nil
        · exact Chs.cons (by decide) Chs.nil
      · exact sgnC_ch
theorem txR_ch {kd nm rp en : Nat → Int} {sz : Nat} {ht : Nat → Nat} (hT : TmOk kd nm en sz ht) : ∀ (f n to : Nat) (m : Int), to ≤ sz → MnOk m → AlC (txR kd nm rp (afF en) f n to m) := by
  intro f
  induction f with
  | zero => intro n to m _ _ x hx; exact absurd hx (List.not_mem_nil)
  | succ f ih =>
    intro n to m ht hm
    rw [txR]
    split
    · intro x hx; exact absurd hx (List.not_mem_nil)
    · rename_i hlt
      have hn : n < sz := by omega
      have haf := (hT.1.2 n (Nat.zero_le _) hn).2.1
      have hm2 := inm_ok hT hn hm
      intro x hx
      rcases List.mem_cons.mp hx with rfl | hx
      · refine (hdT_ch hT hn hm2).app ?_
        split
        · exact Chs.nil
        · refine (ih (n + 1) (afF en n) _ haf hm2).srt.jn.app ?_
          split
          · exact Chs.cons (by decide) Chs.nil
          · exact Chs.nil
      · exact ih (afF en n) to m ht hm x hx
theorem txN_ch {kd nm rp en : Nat → Int} {sz f n : Nat} {ht : Nat → Nat} {m : Int} (hT : TmOk kd nm en sz ht) (hn : n < sz) (hm : MnOk m) : Chs (txN kd nm rp (afF en) f n m) := by
  have hm2 := inm_ok hT hn hm
  have haf := (hT.1.2 n (Nat.zero_le _) hn).2.1
  unfold txN
  refine (hdT_ch hT hn hm2).app ?_
  split
  · exact Chs.nil
  · refine (txR_ch hT f (n + 1) (afF en n) _ haf hm2).srt.jn.app ?_
    split
    · exact Chs.cons (by decide) Chs.nil
    · exact Chs.nil
theorem teS_ch {kd nm rp en : Nat → Int} {sz : Nat} {ht : Nat → Nat} {A : SS} (hT : TmOk kd nm en sz ht) (hV : Vd kd nm sz A) : Chs (teS kd nm rp en A) := by
  obtain ⟨v1, v2, v3, v4, v5, v6, v7, v8, v9, v10, v11, v12, v13, v14, v15, v16⟩ := hV
  have key : ∀ (f : Nat) (w : Int), Chs (plT kd nm rp (afF en) A.1 A.2.1 A.2.2.1 f w) := by
    intro f
    induction f with
    | zero => intro w; exact Chs.nil
    | succ f ih =>
      intro w
      rw [plT]
      refine AlC.jn (AlC.srt (fun x hx => ?_))
      rcases List.mem_append.mp hx with hx | hx
      · obtain ⟨e, he, rfl⟩ := List.mem_map.mp hx
        have := v14 e (List.mem_filter.mp he).1
        exact ((Chs.cons (by omega) (Chs.cons (by decide) Chs.nil)).app (ih _)).app (Chs.cons (by decide) Chs.nil)
      · rcases List.mem_append.mp hx with hx | hx
        · obtain ⟨e, he, rfl⟩ := List.mem_map.mp hx
          obtain ⟨n, n1, n2, -, -, -, n6⟩ := v16 e (List.mem_filter.mp he).1
          rw [n1, Int.toNat_natCast]
          exact txN_ch hT n2 n6
        · obtain ⟨e, he, rfl⟩ := List.mem_map.mp hx
          have := v15 e (List.mem_filter.mp he).1
          exact Chs.cons (by decide) (Chs.cons (by omega) Chs.nil)
  exact key 21 (-1)
/-- the model's states found -/
def MX (u : Mm) (g : Nat → Nat → Int) (m : Nat) (L : List XS) : Prop := g m 52 = (L.length : Int) ∧ ∀ i y, L[i]? = some y → (∃ gs, Rel gs m y.1 ∧ SvR gs m (g (m + 37)) (314 * i)) ∧ g (m + 38) i = (y.2.1.length : Int) ∧ (∀ k, k < 30 → mL u (m + 39) (30 * i + k) = ekF y.2.1 k 8) ∧ g (m + 40) i = y.2.2 ∧ Chs y.2.1 ∧ y.2.1.length ≤ 240
theorem nr_snoc {a b : Int} {y : XS} : ∀ {L : List XS}, (∀ z, z ∈ L → 0 ≤ z.2.2) → nrF a b (L ++ [y]) = (if nrF a b L < 0 ∧ shp y.1.1 a b = true then y.2.2 else nrF a b L) := by
  intro L
  have e0 : nrF a b [] = -1 := rfl
  have e1 : ∀ (z : XS) (M : List XS), nrF a b (z :: M) = if shp z.1.1 a b = true then z.2.2 else nrF a b M := fun _ _ => rfl
  induction L with
  | nil =>
    intro _
    rw [List.nil_append, e1, e0]
    by_cases h : shp y.1.1 a b = true
    · rw [if_pos h, if_pos ⟨by decide, h⟩]
    · rw [if_neg h, if_neg (fun hh => h hh.2)]
  | cons z L ih =>
    intro h
    have h0 := h z List.mem_cons_self
    rw [List.cons_append, e1, e1]
    by_cases hz : shp z.1.1 a b = true
    · rw [if_pos hz, if_pos hz, if_neg (by omega)]
    · rw [if_neg hz, if_neg hz]
      exact ih (fun w hw => h w (List.mem_cons_of_mem _ hw))
theorem ls_snoc {L : List XS} {y : XS} : lsD (L ++ [y]) = y.2.2 := by
  unfold lsD
  rw [List.getLast?_append]
  rfl
theorem new_no {L : List XS} {T : List Int} (h : new L T = false) : ∃ (i : Nat) (y : XS), L[i]? = some y ∧ y.2.1 = T := by
  unfold new at h
  rw [List.all_eq_false] at h
  obtain ⟨y, hy, h2⟩ := h
  obtain ⟨i, hi⟩ := List.getElem?_of_mem hy
  exact ⟨i, y, hi, by simpa using h2⟩
theorem new_ys {L : List XS} {T : List Int} (h : ∀ (i : Nat) (y : XS), L[i]? = some y → y.2.1 ≠ T) : new L T = true := by
  unfold new
  rw [List.all_eq_true]
  intro y hy
  obtain ⟨i, hi⟩ := List.getElem?_of_mem hy
  exact decide_eq_true (h i y hi)
theorem MX.snoc {u v : Mm} {g g' : Nat → Nat → Int} {m : Nat} {L : List XS} {y : XS} (h : MX u g m L) (h52 : g' m 52 = ((L.length + 1 : Nat) : Int)) (hb : ∀ j, j < 314 * L.length → g' (m + 37) j = g (m + 37) j) (hs : ∃ gs, Rel gs m y.1 ∧ SvR gs m (g' (m + 37)) (314 * L.length)) (h38 : ∀ i, i ≠ L.length → g' (m + 38) i = g (m + 38) i) (h38' : g' (m + 38) L.length = (y.2.1.length : Int)) (hl : ∀ i, i < 30 * L.length → mL v (m + 39) i = mL u (m + 39) i) (hl' : ∀ k, k < 30 → mL v (m + 39) (30 * L.length + k) = ekF y.2.1 k 8) (h40 : ∀ i, i ≠ L.length → g' (m + 40) i = g (m + 40) i) (h40' : g' (m + 40) L.length = y.2.2) (hc : Chs y.2.1) (h240 : y.2.1.length ≤ 240) : MX v g' m (L ++ [y]) := by
  refine ⟨by rw [h52, List.length_append]; rfl, fun i z hz => ?_⟩
  by_cases hi : i < L.length
  · rw [List.getElem?_append_left hi] at hz
    obtain ⟨⟨gs, p1, p2⟩, p3, p4, p5, p6⟩ := h.2 i z hz
    refine ⟨⟨gs, p1, p2.of (fun _ _ _ => rfl) rfl (fun j h1 h2 => hb j (by omega))⟩, by rw [h38 i (by omega)]; exact p3, fun k hk => by rw [hl _ (by omega)]; exact p4 k hk, by rw [h40 i (by omega)]; exact p5, p6⟩
  · rw [List.getElem?_append_right (by omega)] at hz
    have h0 : i - L.length = 0 := by
      have := (List.getElem?_eq_some_iff.mp hz).1
      simp only [List.length_cons, List.length_nil] at this
      omega
    rw [h0] at hz
    cases hz
    have hi2 : i = L.length := by omega
    subst hi2
    exact ⟨hs, h38', hl', h40', hc, h240⟩
def FnF (g g' : Nat → Nat → Int) (m n : Nat) : Prop := (∀ a, a ≠ m → a ≠ m + 37 → a ≠ m + 38 → a ≠ m + 40 → g' a = g a) ∧ (∀ f, f ≠ 52 → f ≠ 55 → f ≠ 56 → g' m f = g m f) ∧ ∀ j, 314 * n + 314 ≤ j → g' (m + 37) j = g (m + 37) j
theorem c149 {P : Pg} {d : Nat} {u : Mm} {g : Nat → Nat → Int} {m : Nat} {sz : Nat} {kd nm rp en : Nat → Int} {ht : Nat → Nat} {B : SS} {L : List XS} {ds a b : Int} (hM : MdA u m) (hT : TmOk kd nm en sz ht) (hB : Rel g m B) (hV : Vd kd nm sz B) (h49 : g m 49 = ((teS kd nm rp en B).length : Int)) (hTx : Row (g (m + 27)) (teS kd nm rp en B)) (h240 : (teS kd nm rp en B).length ≤ 240) (hX : MX u g m L) (hL : L.length < 30) : Ec P (d + 1) 149 [vR m, vI ds, vI a, vI b] (sI u g) (fun x u' => x = .inl none ∧ ((new L (teS kd nm rp en B) = false ∧ u' = sI u g) ∨ (new L (teS kd nm rp en B) = true ∧ ∃ Lg g', u' = sI (sL u Lg) g' ∧ FnF g g' m L.length ∧ (∀ a, a ≠ m + 39 → Lg a = mL u a) ∧ MX (sL u Lg) g' m (L ++ [(B, (teS kd nm rp en B, ds))]) ∧ g' m 56 = ds ∧ g' m 55 = (if g m 55 < 0 ∧ shp B.1 a b = true then ds else g m 55)))) := by
  have s0 := hM.1
  have f60 : mF u m 60 = some (m + 38) := (hM.2 37 (by decide)).1
  have s60 : mS u (m + 38) = some (0, 31) := (hM.2 37 (by decide)).2
  have f61 : mF u m 61 = some (m + 39) := (hM.2 38 (by decide)).1
  have s61 : mS u (m + 39) = some (3, 930) := (hM.2 38 (by decide)).2
  have f62 : mF u m 62 = some (m + 40) := (hM.2 39 (by decide)).1
  have s62 : mS u (m + 40) = some (0, 31) := (hM.2 39 (by decide)).2
  have hch := teS_ch (rp := rp) hT hV
  generalize hTT : teS kd nm rp en B = TT at *
  -- adding
  have add : new L TT = true → ∀ i, i ≤ 30 → ∀ (Lg : Nat → Nat → Int64) (g1 : Nat → Nat → Int) (v5 v6 : Option Vl), (∀ a, a ≠ m + 37 → a ≠ m + 38 → g1 a = g a) → SvR g m (g1 (m + 37)) (314 * L.length) → (∀ j, j < 314 * L.length ∨ 314 * L.length + 314 ≤ j → g1 (m + 37) j = g (m + 37) j) → (∀ i, i ≠ L.length → g1 (m + 38) i = g (m + 38) i) → g1 (m + 38) L.length = (TT.length : Int) → (∀ a, a ≠ m + 39 → Lg a = mL u a) → (∀ j, j < 30 * L.length → Lg (m + 39) j = mL u (m + 39) j) → (∀ j, j < i → Lg (m + 39) (30 * L.length + j) = ekF TT j 8) → Ef P (d + 1) 149 120 [some (vR m), some (vI ds), some (vI a), some (vI b), some (vI (i : Int)), v5, v6] [] (sI (sL u Lg) g1) (fun x u' => x = .inl none ∧ ((new L TT = false ∧ u' = sI u g) ∨ (new L TT = true ∧ ∃ Lg g', u' = sI (sL u Lg) g' ∧ FnF g g' m L.length ∧ (∀ a, a ≠ m + 39 → Lg a = mL u a) ∧ MX (sL u Lg) g' m (L ++ [(B, (TT, ds))]) ∧ g' m 56 = ds ∧ g' m 55 = (if g m 55 < 0 ∧ shp B.1 a b = true then ds else g m 55)))) := by
    intro hnew
    refine nat_loop 30 ?_
    intro i hi ih Lg g1 v5 v6 a1 a2 a3 a4 a5 l1 l2 l3
    have s0 : mS (sL u Lg) m = some (100 + 8, 67) := s0
    have f61 : mF (sL u Lg) m 61 = some (m + 39) := f61
    have s61 : mS (sL u Lg) (m + 39) = some (3, 930) := s61
    have f62 : mF (sL u Lg) m 62 = some (m + 40) := f62
    have s62 : mS (sL u Lg) (m + 40) = some (0, 31) := s62
    have e52 : g1 m 52 = (L.length : Int) := by rw [a1 m (by omega) (by omega)]; exact hX.1
    have e49 : g1 m 49 = (TT.length : Int) := by rw [a1 m (by omega) (by omega)]; exact h49
    have e27 : Row (g1 (m + 27)) TT := by rw [a1 _ (by omega) (by omega)]; exact hTx
    have e55 : g1 m 55 = g m 55 := by rw [a1 m (by omega) (by omega)]
    refine ef_iload (pc := 120) d149_120 rfl ?_
    refine ef_bipush (pc := 122) d149_122 (by decide) ?_
    refine ef_icmp_ge (pc := 124) d149_124 (t := 154) rfl (fun h124 => ?_) (fun h124 => ?_)
    · have hii : i = 30 := by omega
      subst hii
      refine ef_aload_n (pc := 154) d149_154 rfl ?_
      refine eg_getR (pc := 155) d149_155 lf_8_129 (by assumption) (by decide) (by assumption) ?_
      refine ef_aload_n (pc := 158) d149_158 rfl ?_
      refine eg_getI (pc := 159) d149_159 lf_8_347 (by assumption) (by decide) ?_
      rw [e52]
      refine ef_iload_n (pc := 162) d149_162 rfl ?_
      refine eg_iast (pc := 163) d149_163 (i := L.length) (by assumption) (rfl) (by omega) rfl ?_
      refine ef_aload_n (pc := 164) d149_164 rfl ?_
      refine ef_iload_n (pc := 165) d149_165 rfl ?_
      refine eg_putI (pc := 166) d149_166 pf_149_350 (by assumption) (by decide) ?_
      refine ef_aload_n (pc := 169) d149_169 rfl ?_
      refine eg_getI (pc := 170) d149_170 lf_8_353 (by assumption) (by decide) ?_
      rw [u2_ni (by decide), u2_ne (by omega), e55]
      refine ef_if_ge (pc := 173) d149_173 (t := 190) rfl (fun h173 => ?_) (fun h173 => ?_)
      · have hsh : ¬ (g m 55 < 0 ∧ shp B.1 a b = true) := fun hh => by omega
        refine ef_aload_n (pc := 190) d149_190 rfl ?_
        refine ef_dup (pc := 191) d149_191 rfl ?_
        refine eg_getI (pc := 192) d149_192 lf_8_347 (by assumption) (by decide) ?_
        simp (disch := omega) only [u2_ne, u2_ni, u2_at]; rw [e52]
        refine ef_iconst (pc := 195) d149_195 (by decide) ?_
        refine ef_iadd (pc := 196) d149_196 (z := ((L.length + 1 : Nat) : Int)) (by omega) ⟨by omega, by omega⟩ ?_
        refine eg_putI (pc := 197) d149_197 pf_149_347 (by assumption) (by decide) ?_
        refine ef_vret (pc := 200) d149_200 rfl ?_
        refine ⟨rfl, Or.inr ⟨hnew, Lg, _, rfl, ⟨fun q b0 b1 b2 b3 => ?_, fun f b0 b1 b2 => ?_, fun j hj => ?_⟩, l1, ?_, ?_, ?_⟩⟩
        · simp (disch := omega) only [u2_ne, u2_ni, u2_at]; exact a1 q b1 b2
        · simp (disch := omega) only [u2_ne, u2_ni, u2_at]; rw [a1 m (by omega) (by omega)]
        · simp (disch := omega) only [u2_ne, u2_ni, u2_at]; exact a3 j (Or.inr hj)
        · refine hX.snoc ?_ (fun j hj => ?_) ⟨g, hB, ?_⟩ (fun i hi => ?_) ?_ l2 (fun k hk => l3 k (by omega)) (fun i hi => ?_) ?_ hch h240
          · simp (disch := omega) only [u2_ne, u2_ni, u2_at]
          · simp (disch := omega) only [u2_ne, u2_ni, u2_at]; exact a3 j (Or.inl hj)
          · simp (disch := omega) only [u2_ne, u2_ni, u2_at]; exact a2
          · simp (disch := omega) only [u2_ne, u2_ni, u2_at]; exact a4 i hi
          · simp (disch := omega) only [u2_ne, u2_ni, u2_at]; exact a5
          · simp (disch := omega) only [u2_ne, u2_ni, u2_at]; rw [a1 _ (by omega) (by omega)]
          · simp (disch := omega) only [u2_ne, u2_ni, u2_at]
        · simp (disch := omega) only [u2_ne, u2_ni, u2_at]
        · simp (disch := omega) only [u2_ne, u2_ni, u2_at]; first | rw [if_pos hsh] | rw [if_neg hsh, e55]
      · refine ef_aload_n (pc := 176) d149_176 rfl ?_
        refine ef_iload_n (pc := 177) d149_177 rfl ?_
        refine ef_iload_n (pc := 178) d149_178 rfl ?_
        refine ef_callV (pc := 179) d149_179 lm_8_344 (as := [_, _]) rfl rfl (by assumption) rfl rfl (by decide) (Nat.le_of_ble_eq_true rfl) rfl (Nat.le_of_ble_eq_true rfl) ?_
        refine Ec.imp (c147 (c := (B, ([], 0))) (hM.sL) (hB.same (fun j h1 h2 => by rw [u2_ne (by omega), u2_ne (by omega), a1 _ (by omega) (by omega)]) (by rw [u2_ni (by decide), u2_ne (by omega), a1 m (by omega) (by omega)])) hV) ?_
        rintro r179 u179 ⟨rfl, rfl⟩
        refine ef_if_eq (pc := 182) d149_182 (t := 190) rfl (fun h182 => ?_) (fun h182 => ?_)
        · have hz := b01_t h182
          have hsh : ¬ (g m 55 < 0 ∧ shp B.1 a b = true) := fun hh => by rw [show shp B.1 a b = false from hz] at hh; cases hh.2
          refine ef_aload_n (pc := 190) d149_190 rfl ?_
          refine ef_dup (pc := 191) d149_191 rfl ?_
          refine eg_getI (pc := 192) d149_192 lf_8_347 (by assumption) (by decide) ?_
          simp (disch := omega) only [u2_ne, u2_ni, u2_at]; rw [e52]
          refine ef_iconst (pc := 195) d149_195 (by decide) ?_
          refine ef_iadd (pc := 196) d149_196 (z := ((L.length + 1 : Nat) : Int)) (by omega) ⟨by omega, by omega⟩ ?_
          refine eg_putI (pc := 197) d149_197 pf_149_347 (by assumption) (by decide) ?_
          refine ef_vret (pc := 200) d149_200 rfl ?_
          refine ⟨rfl, Or.inr ⟨hnew, Lg, _, rfl, ⟨fun q b0 b1 b2 b3 => ?_, fun f b0 b1 b2 => ?_, fun j hj => ?_⟩, l1, ?_, ?_, ?_⟩⟩
          · simp (disch := omega) only [u2_ne, u2_ni, u2_at]; exact a1 q b1 b2
          · simp (disch := omega) only [u2_ne, u2_ni, u2_at]; rw [a1 m (by omega) (by omega)]
          · simp (disch := omega) only [u2_ne, u2_ni, u2_at]; exact a3 j (Or.inr hj)
          · refine hX.snoc ?_ (fun j hj => ?_) ⟨g, hB, ?_⟩ (fun i hi => ?_) ?_ l2 (fun k hk => l3 k (by omega)) (fun i hi => ?_) ?_ hch h240
            · simp (disch := omega) only [u2_ne, u2_ni, u2_at]
            · simp (disch := omega) only [u2_ne, u2_ni, u2_at]; exact a3 j (Or.inl hj)
            · simp (disch := omega) only [u2_ne, u2_ni, u2_at]; exact a2
            · simp (disch := omega) only [u2_ne, u2_ni, u2_at]; exact a4 i hi
            · simp (disch := omega) only [u2_ne, u2_ni, u2_at]; exact a5
            · simp (disch := omega) only [u2_ne, u2_ni, u2_at]; rw [a1 _ (by omega) (by omega)]
            · simp (disch := omega) only [u2_ne, u2_ni, u2_at]
          · simp (disch := omega) only [u2_ne, u2_ni, u2_at]
          · simp (disch := omega) only [u2_ne, u2_ni, u2_at]; first | rw [if_pos hsh] | rw [if_neg hsh, e55]
        · have hz := b01_f h182
          have hsh : g m 55 < 0 ∧ shp B.1 a b = true := ⟨by omega, hz⟩
          refine ef_aload_n (pc := 185) d149_185 rfl ?_
          refine ef_iload_n (pc := 186) d149_186 rfl ?_
          refine eg_putI (pc := 187) d149_187 pf_149_353 (by assumption) (by decide) ?_
          refine ef_aload_n (pc := 190) d149_190 rfl ?_
          refine ef_dup (pc := 191) d149_191 rfl ?_
          refine eg_getI (pc := 192) d149_192 lf_8_347 (by assumption) (by decide) ?_
          simp (disch := omega) only [u2_ne, u2_ni, u2_at]; rw [e52]
          refine ef_iconst (pc := 195) d149_195 (by decide) ?_
          refine ef_iadd (pc := 196) d149_196 (z := ((L.length + 1 : Nat) : Int)) (by omega) ⟨by omega, by omega⟩ ?_
          refine eg_putI (pc := 197) d149_197 pf_149_347 (by assumption) (by decide) ?_
          refine ef_vret (pc := 200) d149_200 rfl ?_
          refine ⟨rfl, Or.inr ⟨hnew, Lg, _, rfl, ⟨fun q b0 b1 b2 b3 => ?_, fun f b0 b1 b2 => ?_, fun j hj => ?_⟩, l1, ?_, ?_, ?_⟩⟩
          · simp (disch := omega) only [u2_ne, u2_ni, u2_at]; exact a1 q b1 b2
          · simp (disch := omega) only [u2_ne, u2_ni, u2_at]; rw [a1 m (by omega) (by omega)]
          · simp (disch := omega) only [u2_ne, u2_ni, u2_at]; exact a3 j (Or.inr hj)
          · refine hX.snoc ?_ (fun j hj => ?_) ⟨g, hB, ?_⟩ (fun i hi => ?_) ?_ l2 (fun k hk => l3 k (by omega)) (fun i hi => ?_) ?_ hch h240
            · simp (disch := omega) only [u2_ne, u2_ni, u2_at]
            · simp (disch := omega) only [u2_ne, u2_ni, u2_at]; exact a3 j (Or.inl hj)
            · simp (disch := omega) only [u2_ne, u2_ni, u2_at]; exact a2
            · simp (disch := omega) only [u2_ne, u2_ni, u2_at]; exact a4 i hi
            · simp (disch := omega) only [u2_ne, u2_ni, u2_at]; exact a5
            · simp (disch := omega) only [u2_ne, u2_ni, u2_at]; rw [a1 _ (by omega) (by omega)]
            · simp (disch := omega) only [u2_ne, u2_ni, u2_at]
          · simp (disch := omega) only [u2_ne, u2_ni, u2_at]
          · simp (disch := omega) only [u2_ne, u2_ni, u2_at]; first | rw [if_pos hsh] | rw [if_neg hsh, e55]
    · have hlt : i < 30 := by omega
      refine ef_aload_n (pc := 127) d149_127 rfl ?_
      refine eg_getR (pc := 128) d149_128 lf_8_126 (by assumption) (by decide) (by assumption) ?_
      refine ef_bipush (pc := 131) d149_131 (by decide) ?_
      refine ef_aload_n (pc := 133) d149_133 rfl ?_
      refine eg_getI (pc := 134) d149_134 lf_8_347 (by assumption) (by decide) ?_
      rw [e52]
      refine ef_imul (pc := 137) d149_137 rfl ⟨by omega, by omega⟩ ?_
      refine ef_iload (pc := 138) d149_138 rfl ?_
      refine ef_iadd (pc := 140) d149_140 (z := ((30 * L.length + i : Nat) : Int)) (by omega) ⟨by omega, by omega⟩ ?_
      refine ef_aload_n (pc := 141) d149_141 rfl ?_
      refine ef_iload (pc := 142) d149_142 rfl ?_
      refine ef_callV (pc := 144) d149_144 lm_8_340 (as := [_]) rfl rfl (by assumption) rfl rfl (by decide) (Nat.le_of_ble_eq_true rfl) rfl (Nat.le_of_ble_eq_true rfl) ?_
      refine Ec.imp (c144 (T := TT) (hM.sL) e49 e27 h240 hlt) ?_
      rintro r144 u144 ⟨rfl, rfl⟩
      refine eg_last (pc := 147) d149_147 (i := 30 * L.length + i) (by assumption) (rfl) (by omega) ?_
      refine ef_iinc (pc := 148) d149_148 (ls' := [_, _, _, _, _, _, _]) (z := ((i + 1 : Nat) : Int)) rfl (by decide) (by omega) ⟨by omega, by omega⟩ rfl ?_
      refine ef_goto (pc := 151) d149_151 (t := 120) rfl ?_
      refine ih hlt (u2 Lg (m + 39) (30 * L.length + i) (ekF TT i 8)) g1 _ _ a1 a2 a3 a4 a5 (fun q hq => by rw [u2_ne hq]; exact l1 q hq) (fun j hj => by rw [u2_ni (by omega)]; exact l2 j hj) (fun j hj => ?_)
      by_cases hji : j = i
      · subst hji; rw [u2_at]
      · rw [u2_ni (by omega)]; exact l3 j (by omega)
  have cmp : ∀ i, i ≤ L.length → (∀ j y, j < i → L[j]? = some y → y.2.1 ≠ TT) → ∀ v5 v6 : Option Vl, (∃ x5 x6, v5 = x5 ∧ v6 = x6) → Ef P (d + 1) 149 3 [some (vR m), some (vI ds), some (vI a), some (vI b), some (vI (i : Int)), v5, v6] [] (sI u g) (fun x u' => x = .inl none ∧ ((new L TT = false ∧ u' = sI u g) ∨ (new L TT = true ∧ ∃ Lg g', u' = sI (sL u Lg) g' ∧ FnF g g' m L.length ∧ (∀ a, a ≠ m + 39 → Lg a = mL u a) ∧ MX (sL u Lg) g' m (L ++ [(B, (TT, ds))]) ∧ g' m 56 = ds ∧ g' m 55 = (if g m 55 < 0 ∧ shp B.1 a b = true then ds else g m 55)))) := by
    refine nat_loop L.length ?_
    intro i hi ih hno v5 v6 _
    have hX1 := hX.1
    have inner : ∀ y, L[i]? = some y → ∀ k, k ≤ 30 → ∀ z : Bool, (z = true ↔ (y.2.1.length = TT.length ∧ ∀ j, j < k → ekF y.2.1 j 8 = ekF TT j 8)) → Ef P (d + 1) 149 36 [some (vR m), some (vI ds), some (vI a), some (vI b), some (vI (i : Int)), some (vI (b01 z)), some (vI (k : Int))] [] (sI u g) (fun x u' => x = .inl none ∧ ((new L TT = false ∧ u' = sI u g) ∨ (new L TT = true ∧ ∃ Lg g', u' = sI (sL u Lg) g' ∧ FnF g g' m L.length ∧ (∀ a, a ≠ m + 39 → Lg a = mL u a) ∧ MX (sL u Lg) g' m (L ++ [(B, (TT, ds))]) ∧ g' m 56 = ds ∧ g' m 55 = (if g m 55 < 0 ∧ shp B.1 a b = true then ds else g m 55)))) := by
      intro y hy
      obtain ⟨p1, p2, p3, p4, p5, p6⟩ := hX.2 i y hy
      have hil := (List.getElem?_eq_some_iff.mp hy).1
      -- the comparison's end
      have stop : ∀ (z : Bool) (v6 : Option Vl), (z = true → y.2.1 = TT) → (z = false → y.2.1 ≠ TT) → Ef P (d + 1) 149 84 [some (vR m), some (vI ds), some (vI a), some (vI b), some (vI (i : Int)), some (vI (b01 z)), v6] [] (sI u g) (fun x u' => x = .inl none ∧ ((new L TT = false ∧ u' = sI u g) ∨ (new L TT = true ∧ ∃ Lg g', u' = sI (sL u Lg) g' ∧ FnF g g' m L.length ∧ (∀ a, a ≠ m + 39 → Lg a = mL u a) ∧ MX (sL u Lg) g' m (L ++ [(B, (TT, ds))]) ∧ g' m 56 = ds ∧ g' m 55 = (if g m 55 < 0 ∧ shp B.1 a b = true then ds else g m 55)))) := by
        intro z v6 h1 h2
        refine ef_iload (pc := 84) d149_84 rfl ?_
        refine ef_if_eq (pc := 86) d149_86 (t := 90) rfl (fun h86 => ?_) (fun h86 => ?_)
        · have hz := b01_t h86
          refine ef_iinc (pc := 90) d149_90 (ls' := [_, _, _, _, _, _, _]) (z := ((i + 1 : Nat) : Int)) rfl (by decide) (by omega) ⟨by omega, by omega⟩ rfl ?_
          refine ef_goto (pc := 93) d149_93 (t := 3) rfl ?_
          refine ih hil (fun j w hj hw => ?_) _ _ ⟨_, _, rfl, rfl⟩
          by_cases hji : j = i
          · subst hji; rw [hy] at hw; cases hw; exact h2 hz
          · exact hno j w (by omega) hw
        · have hz := b01_f h86
          refine ef_vret (pc := 89) d149_89 rfl ?_
          refine ⟨rfl, Or.inl ⟨?_, rfl⟩⟩
          cases hq : new L TT
          · rfl
          · exfalso
            have := List.all_eq_true.mp hq y (List.mem_of_getElem? hy)
            exact (of_decide_eq_true this) (h1 hz)
      refine nat_loop 30 ?_
      intro k hk ihk z hz
      refine ef_iload (pc := 36) d149_36 rfl ?_
      refine ef_bipush (pc := 38) d149_38 (by decide) ?_
      refine ef_icmp_ge (pc := 40) d149_40 (t := 84) rfl (fun h40 => ?_) (fun h40 => ?_)
      · have hkk : k = 30 := by omega
        subst hkk
        refine stop z _ (fun h => ?_) (fun h => ?_)
        · obtain ⟨q1, q2⟩ := hz.mp h
          exact ek_eq p5 hch q1 p6 q2
        · intro he
          have := hz.mpr ⟨by rw [he], fun j _ => by rw [he]⟩
          rw [h] at this; cases this
      · have hlt : k < 30 := by omega
        refine ef_iload (pc := 43) d149_43 rfl ?_
        refine ef_if_eq (pc := 45) d149_45 (t := 84) rfl (fun h45 => ?_) (fun h45 => ?_)
        · have hzf := b01_t h45
          refine stop z _ (fun h => by rw [hzf] at h; cases h) (fun _ he => ?_)
          have := hz.mpr ⟨by rw [he], fun j _ => by rw [he]⟩
          rw [hzf] at this; cases this
        · have hzt := b01_f h45
          refine ef_aload_n (pc := 48) d149_48 rfl ?_
          refine eg_getR (pc := 49) d149_49 lf_8_126 (by assumption) (by decide) (by assumption) ?_
          refine ef_bipush (pc := 52) d149_52 (by decide) ?_
          refine ef_iload (pc := 54) d149_54 rfl ?_
          refine ef_imul (pc := 56) d149_56 rfl ⟨by omega, by omega⟩ ?_
          refine ef_iload (pc := 57) d149_57 rfl ?_
          refine ef_iadd (pc := 59) d149_59 (z := ((30 * i + k : Nat) : Int)) (by omega) ⟨by omega, by omega⟩ ?_
          refine eg_lald (pc := 60) d149_60 (i := 30 * i + k) (by assumption) (rfl) (by omega) ?_
          rw [p3 k hlt]
          refine ef_aload_n (pc := 61) d149_61 rfl ?_
          refine ef_iload (pc := 62) d149_62 rfl ?_
          refine ef_callV (pc := 64) d149_64 lm_8_340 (as := [_]) rfl rfl (by assumption) rfl rfl (by decide) (Nat.le_of_ble_eq_true rfl) rfl (Nat.le_of_ble_eq_true rfl) ?_
          refine Ec.imp (c144 (T := TT) hM h49 hTx h240 hlt) ?_
          rintro r64 u64 ⟨rfl, rfl⟩
          refine ef_lcmp (pc := 67) d149_67 ?_
          refine ef_if_ne (pc := 68) d149_68 (t := 75) rfl (fun h68 => ?_) (fun h68 => ?_)
          · have hnq := fun h => h68 (lcz.mpr h)
            refine ef_iconst (pc := 75) d149_75 (by decide) ?_
            refine ef_istore (pc := 76) d149_76 (ls' := [_, _, _, _, _, _, _]) rfl ?_
            refine ef_iinc (pc := 78) d149_78 (ls' := [_, _, _, _, _, _, _]) (z := ((k + 1 : Nat) : Int)) rfl (by decide) (by omega) ⟨by omega, by omega⟩ rfl ?_
            refine ef_goto (pc := 81) d149_81 (t := 36) rfl ?_
            first
            | exact ihk hlt true ⟨fun _ => ⟨(hz.mp hzt).1, fun j hj => by
                by_cases hjk : j = k
                · subst hjk; exact hyq
                · exact (hz.mp hzt).2 j (by omega)⟩, fun _ => rfl⟩
            | exact ihk hlt false ⟨fun h => absurd h (by decide), fun h => absurd (h.2 k (by omega)) hnq⟩
          · have hyq := lcz.mp h68
            refine ef_iconst (pc := 71) d149_71 (by decide) ?_
            refine ef_goto (pc := 72) d149_72 (t := 76) rfl ?_
            refine ef_istore (pc := 76) d149_76 (ls' := [_, _, _, _, _, _, _]) rfl ?_
            refine ef_iinc (pc := 78) d149_78 (ls' := [_, _, _, _, _, _, _]) (z := ((k + 1 : Nat) : Int)) rfl (by decide) (by omega) ⟨by omega, by omega⟩ rfl ?_
            refine ef_goto (pc := 81) d149_81 (t := 36) rfl ?_
            first
            | exact ihk hlt true ⟨fun _ => ⟨(hz.mp hzt).1, fun j hj => by
                by_cases hjk : j = k
                · subst hjk; exact hyq
                · exact (hz.mp hzt).2 j (by omega)⟩, fun _ => rfl⟩
            | exact ihk hlt false ⟨fun h => absurd h (by decide), fun h => absurd (h.2 k (by omega)) hnq⟩
    refine ef_iload (pc := 3) d149_3 rfl ?_
    refine ef_aload_n (pc := 5) d149_5 rfl ?_
    refine eg_getI (pc := 6) d149_6 lf_8_347 (by assumption) (by decide) ?_
    rw [hX1]
    refine ef_icmp_ge (pc := 9) d149_9 (t := 96) rfl (fun h9 => ?_) (fun h9 => ?_)
    · have hii : i = L.length := by omega
      subst hii
      have hnew := new_ys (T := TT) (fun j y hy => hno j y (List.getElem?_eq_some_iff.mp hy).1 hy)
      refine ef_aload_n (pc := 96) d149_96 rfl ?_
      refine ef_aload_n (pc := 97) d149_97 rfl ?_
      refine eg_getI (pc := 98) d149_98 lf_8_347 (by assumption) (by decide) ?_
      rw [hX1]
      refine ef_callV (pc := 101) d149_101 lm_8_325 (as := [_]) rfl rfl (by assumption) rfl rfl (by decide) (Nat.le_of_ble_eq_true rfl) rfl (Nat.le_of_ble_eq_true rfl) ?_
      refine Ec.imp (c137 (k := L.length) hM (by omega) rfl) ?_
      rintro r101 u101 ⟨g1, rfl, rfl, sv1, bl1, o1⟩
      have e52 : g1 m 52 = (L.length : Int) := by rw [o1 m (by omega)]; exact hX1
      have e49 : g1 m 49 = (TT.length : Int) := by rw [o1 m (by omega)]; exact h49
      refine ef_aload_n (pc := 104) d149_104 rfl ?_
      refine eg_getR (pc := 105) d149_105 lf_8_123 (by assumption) (by decide) (by assumption) ?_
      refine ef_aload_n (pc := 108) d149_108 rfl ?_
      refine eg_getI (pc := 109) d149_109 lf_8_347 (by assumption) (by decide) ?_
      rw [e52]
      refine ef_aload_n (pc := 112) d149_112 rfl ?_
      refine eg_getI (pc := 113) d149_113 lf_8_219 (by assumption) (by decide) ?_
      rw [e49]
      refine eg_iast (pc := 116) d149_116 (i := L.length) (by assumption) (rfl) (by omega) rfl ?_
      refine ef_iconst (pc := 117) d149_117 (by decide) ?_
      refine ef_istore (pc := 118) d149_118 (ls' := [_, _, _, _, _, _, _]) rfl ?_
      refine add hnew 0 (Nat.zero_le _) (mL u) (u2 g1 (m + 38) L.length (TT.length : Int)) _ _ (fun q b0 b1 => by rw [u2_ne b1]; exact o1 q b0) (by rw [u2_ne (by omega)]; exact sv1) (fun j hj => by rw [u2_ne (by omega)]; exact bl1 j hj) (fun j hj => by rw [u2_ni hj, o1 _ (by omega)]) u2_at (fun _ _ => rfl) (fun _ _ => rfl) (fun j hj => absurd hj (by omega))
    · have hil : i < L.length := by omega
      obtain ⟨y, hy, -⟩ := get_of_lt hil
      obtain ⟨p1, p2, p3, p4, p5, p6⟩ := hX.2 i y hy
      refine ef_aload_n (pc := 12) d149_12 rfl ?_
      refine eg_getR (pc := 13) d149_13 lf_8_123 (by assumption) (by decide) (by assumption) ?_
      refine ef_iload (pc := 16) d149_16 rfl ?_
      refine eg_iald (pc := 18) d149_18 (i := i) (by assumption) (rfl) (by omega) ?_
      rw [p2]
      refine ef_aload_n (pc := 19) d149_19 rfl ?_
      refine eg_getI (pc := 20) d149_20 lf_8_219 (by assumption) (by decide) ?_
      rw [h49]
      refine ef_icmp_ne (pc := 23) d149_23 (t := 30) rfl (fun h23 => ?_) (fun h23 => ?_)
      · refine ef_iconst (pc := 30) d149_30 (by decide) ?_
        refine ef_istore (pc := 31) d149_31 (ls' := [_, _, _, _, _, _, _]) rfl ?_
        refine ef_iconst (pc := 33) d149_33 (by decide) ?_
        refine ef_istore (pc := 34) d149_34 (ls' := [_, _, _, _, _, _, _]) rfl ?_
        first
        | exact inner y hy 0 (Nat.zero_le _) true ⟨fun _ => ⟨by omega, fun j hj => absurd hj (by omega)⟩, fun _ => rfl⟩
        | exact inner y hy 0 (Nat.zero_le _) false ⟨fun h => absurd h (by decide), fun h => by have := h.1; omega⟩
      · refine ef_iconst (pc := 26) d149_26 (by decide) ?_
        refine ef_goto (pc := 27) d149_27 (t := 31) rfl ?_
        refine ef_istore (pc := 31) d149_31 (ls' := [_, _, _, _, _, _, _]) rfl ?_
        refine ef_iconst (pc := 33) d149_33 (by decide) ?_
        refine ef_istore (pc := 34) d149_34 (ls' := [_, _, _, _, _, _, _]) rfl ?_
        first
        | exact inner y hy 0 (Nat.zero_le _) true ⟨fun _ => ⟨by omega, fun j hj => absurd hj (by omega)⟩, fun _ => rfl⟩
        | exact inner y hy 0 (Nat.zero_le _) false ⟨fun h => absurd h (by decide), fun h => by have := h.1; omega⟩
  change Ef P _ 149 0 [some (vR m), some (vI ds), some (vI a), some (vI b), none, none, none] [] _ _
  refine ef_iconst (pc := 0) d149_0 (by decide) ?_
  refine ef_istore (pc := 1) d149_1 (ls' := [_, _, _, _, _, _, _]) rfl ?_
  exact cmp 0 (Nat.zero_le _) (fun j y hj => absurd hj (by omega)) _ _ ⟨_, _, rfl, rfl⟩
