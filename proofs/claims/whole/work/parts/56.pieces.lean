/-! Pieces: how a state of the teller stands among them; the text of nodes. Pure. -/
theorem sub_app {W X : List Int} {p : Nat × Nat} (h : p.2 ≤ W.length) (h1 : p.1 ≤ p.2) : sub (W ++ X) p = sub W p := by
  unfold sub
  rw [List.drop_append_of_le_length (by omega), List.take_append_of_le_length (by rw [List.length_drop]; omega)]
theorem sub_end {W X : List Int} : sub (W ++ X) (W.length, W.length + X.length) = X := by
  unfold sub
  rw [List.drop_left, Nat.add_sub_cancel_left, List.take_length]
/-- behind W0 and the pieces I stand the texts of l, written one behind the other, and in order as pieces -/
def Pcs (W0 : List Int) (I : List (Nat × Nat)) (l : List (List Int)) (S : TS) : Prop := S.1 = W0 ++ l.flatten ∧ S.2.1 = false ∧ ∃ J, S.2.2 = I ++ J ∧ J.map (sub S.1) = srtT l
theorem flat_len {l : List (List Int)} : l.flatten.length = sumL l := by unfold sumL; rw [List.length_flatten]
theorem Pcs.cnt {W0 : List Int} {I : List (Nat × Nat)} {l : List (List Int)} {S : TS} (h : Pcs W0 I l S) : S.2.2.length = I.length + l.length := by
  obtain ⟨-, -, J, h1, h2⟩ := h
  have := congrArg List.length h2
  rw [List.length_map, srtT_len] at this
  rw [h1, List.length_append, this]
theorem sumL_ge {l : List (List Int)} (h : ∀ x, x ∈ l → 0 < x.length) : l.length ≤ sumL l := by
  induction l with
  | nil => exact Nat.zero_le _
  | cons x l ih =>
    have h1 := h x List.mem_cons_self
    have h2 := ih (fun y hy => h y (List.mem_cons_of_mem _ hy))
    have h3 : sumL (x :: l) = x.length + sumL l := by simp [sumL]
    rw [List.length_cons]
    omega
/-- one more text written: it takes its turn -/
theorem Pcs.add {W0 : List Int} {I : List (Nat × Nat)} {l : List (List Int)} {S : TS} {x : List Int} {h : Nat} (hP : Pcs W0 I l S) (hq : ∀ p, p ∈ S.2.2 → p.1 ≤ p.2 ∧ p.2 ≤ S.1.length)
    (hI : Ins (S.1 ++ x) I.length (S.1.length, (S.1 ++ x).length) S.2.2 h) : Pcs W0 I (l ++ [x]) (S.1 ++ x, (S.2.1, S.2.2.take h ++ (S.1.length, (S.1 ++ x).length) :: S.2.2.drop h)) := by
  obtain ⟨h1, h2, J, h3, h4⟩ := hP
  obtain ⟨i1, i2, i3, i4⟩ := hI
  rw [h3, List.length_append] at i2
  refine ⟨by rw [h1, List.flatten_append]; simp, h2, J.take (h - I.length) ++ (S.1.length, (S.1 ++ x).length) :: J.drop (h - I.length), ?_, ?_⟩
  · show S.2.2.take h ++ (S.1.length, (S.1 ++ x).length) :: S.2.2.drop h = _
    rw [h3, List.take_append, List.drop_append, List.take_of_length_le i1, List.drop_eq_nil_of_le i1, List.append_assoc, List.nil_append]
  · have hs : J.map (sub (S.1 ++ x)) = srtT l := by
      rw [← h4]
      refine List.map_congr_left fun p hp => ?_
      have := hq p (by rw [h3]; exact List.mem_append_right _ hp)
      exact sub_app this.2 this.1
    have hx : sub (S.1 ++ x) (S.1.length, (S.1 ++ x).length) = x := by rw [List.length_append]; exact sub_end
    rw [hx] at i3 i4
    show (J.take (h - I.length) ++ (S.1.length, (S.1 ++ x).length) :: J.drop (h - I.length)).map (sub (S.1 ++ x)) = _
    rw [List.map_append, List.map_cons, hx, List.map_take, List.map_drop, hs, srtT_snoc]
    have hlen : (srtT l).length = J.length := by rw [← h4, List.length_map]
    have get : ∀ (k : Nat) (y : List Int), (srtT l)[k]? = some y → ∃ p, S.2.2[I.length + k]? = some p ∧ sub (S.1 ++ x) p = y := by
      intro k y hy
      rw [← hs, List.getElem?_map] at hy
      cases hj : J[k]? with
      | none => rw [hj] at hy; cases hy
      | some p =>
        rw [hj] at hy
        refine ⟨p, ?_, by simpa using hy⟩
        rw [h3, List.getElem?_append_right (by omega), Nat.add_sub_cancel_left]
        exact hj
    refine (insT_at (srtT l) (h - I.length) (srtT_or l) (by omega) ?_ ?_).symm
    · intro k y hk hy
      obtain ⟨p, hp, rfl⟩ := get k y hy
      exact i3 _ p (by omega) hp
    · rcases i4 with i4 | ⟨p, j1, j2, j3⟩
      · exact Or.inl (by omega)
      · by_cases hz : h - I.length = 0
        · exact Or.inl hz
        · refine Or.inr ⟨sub (S.1 ++ x) p, by omega, ?_, j3⟩
          rw [← hs, List.getElem?_map]
          rw [h3, List.getElem?_append_right (by omega), show h - 1 - I.length = h - I.length - 1 by omega] at j2
          rw [j2]; rfl
/-- what a telling does: the text is written, or it is too long -/
def Out (S S' : TS) (T : List Int) : Prop := (S' = (S.1 ++ T, (false, S.2.2))) ∨ (S'.2.1 = true ∧ S'.2.2 = S.2.2 ∧ 240 < S.1.length + T.length ∧ ∃ X, S'.1 = S.1 ++ X)
theorem jn_len {W0 : List Int} {I : List (Nat × Nat)} {l : List (List Int)} {S : TS} {t : Bool} (hP : Pcs W0 I l S) (h2 : 2 ≤ S.2.2.length - I.length) : (joinL t ((S.2.2.drop I.length).map (sub S.1))).length = S.1.length - W0.length + (S.2.2.length - I.length) - 1 + (if t = true then 2 else 0) := by
  have hc := hP.cnt
  obtain ⟨h1, -, J, h3, h4⟩ := hP
  rw [h3, List.drop_left, h4, joinL_len, srtT_sum, srtT_len, h1, List.length_append, flat_len, ← h3]
  omega
theorem jn_ok {W0 : List Int} {I : List (Nat × Nat)} {l : List (List Int)} {S : TS} {t : Bool} (hP : Pcs W0 I l S) (h240 : S.1.length ≤ 240) : (jnT I.length W0.length t S = (W0 ++ jnL t (srtT l), (false, I))) ∨ ((jnT I.length W0.length t S).2.1 = true ∧ (jnT I.length W0.length t S).2.2 = I ∧ 240 < W0.length + (jnL t (srtT l)).length ∧ ∃ X, (jnT I.length W0.length t S).1 = W0 ++ X) := by
  have hc := hP.cnt
  obtain ⟨h1, h2, J, h3, h4⟩ := hP
  have htk : S.2.2.take I.length = I := by rw [h3, List.take_left]
  have hdr : (S.2.2.drop I.length).map (sub S.1) = srtT l := by rw [h3, List.drop_left, h4]
  have hsl := srtT_len (l := l)
  unfold jnT jnL
  rw [htk, hdr]
  by_cases c0 : l.length = 0
  · have hl0 : l = [] := List.length_eq_zero_iff.mp c0
    subst hl0
    rw [if_pos (show S.2.2.length - I.length = 0 by omega), if_pos (show (srtT []).length = 0 from rfl)]
    rw [List.flatten_nil, List.append_nil] at h1
    unfold putT
    by_cases hw : S.1.length < 240
    · rw [if_pos hw]
      exact Or.inl (by rw [h1, h2])
    · rw [if_neg hw]
      refine Or.inr ⟨rfl, rfl, ?_, [], by rw [h1, List.append_nil]⟩
      have : S.1.length = W0.length := by rw [h1]
      show 240 < W0.length + 1
      omega
  · rw [if_neg (show ¬ S.2.2.length - I.length = 0 by omega), if_neg (show ¬ (srtT l).length = 0 by omega)]
    by_cases c1 : l.length = 1
    · obtain ⟨x, rfl⟩ := List.length_eq_one_iff.mp c1
      rw [if_pos (show S.2.2.length - I.length = 1 by omega), if_pos (show (srtT [x]).length = 1 from rfl)]
      refine Or.inl ?_
      rw [h1, h2]
      show (W0 ++ [x].flatten, (false, I)) = (W0 ++ ilF false [x], (false, I))
      simp [ilF]
    · rw [if_neg (show ¬ S.2.2.length - I.length = 1 by omega), if_neg (show ¬ (srtT l).length = 1 by omega), h2]
      by_cases c2 : 240 < W0.length + (joinL t (srtT l)).length
      · rw [if_pos (Or.inr c2)]
        exact Or.inr ⟨rfl, rfl, c2, _, h1⟩
      · rw [if_neg (by simp only [Bool.false_eq_true, false_or]; exact c2)]
        refine Or.inl ?_
        rw [h1, List.take_left]
theorem jn_long {first fr : Nat} {t : Bool} {S : TS} (h : S.2.1 = true) : (jnT first fr t S).2.1 = true ∧ (jnT first fr t S).2.2 = S.2.2.take first ∧ ∃ X, (jnT first fr t S).1 = S.1 ++ X := by
  unfold jnT putT
  split
  · split
    · exact ⟨h, rfl, _, rfl⟩
    · exact ⟨rfl, rfl, [], (List.append_nil _).symm⟩
  · split
    · exact ⟨h, rfl, [], (List.append_nil _).symm⟩
    · rw [if_pos (Or.inl h)]
      exact ⟨rfl, rfl, [], (List.append_nil _).symm⟩
theorem put_ok {c : Int} {S : TS} (h : S.2.1 = false) (h240 : S.1.length ≤ 240) : Out S (putT c S) [c] := by
  unfold putT
  by_cases hw : S.1.length < 240
  · rw [if_pos hw]
    refine Or.inl ?_
    obtain ⟨a, b, i⟩ := S
    simp only at h
    subst h
    rfl
  · rw [if_neg hw]
    exact Or.inr ⟨rfl, rfl, by show 240 < S.1.length + 1; omega, [], (List.append_nil _).symm⟩
theorem put_long {c : Int} {S : TS} (h : S.2.1 = true) : (putT c S).2.1 = true ∧ (putT c S).2.2 = S.2.2 ∧ ∃ X, (putT c S).1 = S.1 ++ X := by
  unfold putT
  split
  · exact ⟨h, rfl, _, rfl⟩
  · exact ⟨rfl, rfl, [], (List.append_nil _).symm⟩
theorem puts_long : ∀ (cs : List Int) {S : TS}, S.2.1 = true → (putsT cs S).2.1 = true ∧ (putsT cs S).2.2 = S.2.2 ∧ ∃ X, (putsT cs S).1 = S.1 ++ X := by
  intro cs
  induction cs with
  | nil => intro S h; exact ⟨h, rfl, [], (List.append_nil _).symm⟩
  | cons c cs ih =>
    intro S h
    have h1 := put_long (c := c) h
    obtain ⟨a, b, X, hX⟩ := ih h1.1
    obtain ⟨Y, hY⟩ := h1.2.2
    exact ⟨a, b.trans h1.2.1, Y ++ X, by rw [← List.append_assoc, ← hY]; exact hX⟩
theorem puts_ok : ∀ (cs : List Int) {S : TS}, S.2.1 = false → S.1.length ≤ 240 → Out S (putsT cs S) cs := by
  intro cs
  induction cs with
  | nil =>
    intro S h _
    obtain ⟨a, b, i⟩ := S
    simp only at h
    subst h
    exact Or.inl (by simp [putsT])
  | cons c cs ih =>
    intro S h h240
    have e : putsT (c :: cs) S = putsT cs (putT c S) := rfl
    rw [e]
    by_cases hw : S.1.length < 240
    · have hp : putT c S = (S.1 ++ [c], (false, S.2.2)) := by
        rcases put_ok (c := c) h h240 with h1 | h1
        · exact h1
        · have := h1.2.2.1
          simp only [List.length_cons, List.length_nil] at this
          omega
      rw [hp]
      rcases ih (S := (S.1 ++ [c], (false, S.2.2))) rfl (by simp; omega) with h1 | ⟨h1, h2, h3, X, h4⟩
      · exact Or.inl (by rw [h1]; simp)
      · refine Or.inr ⟨h1, h2, ?_, c :: X, by rw [h4]; simp⟩
        simp only [List.length_append, List.length_cons, List.length_nil] at h3 ⊢
        omega
    · have hp : putT c S = (S.1, (true, S.2.2)) := by unfold putT; rw [if_neg hw]
      rw [hp]
      obtain ⟨h1, h2, X, h3⟩ := puts_long cs (S := (S.1, (true, S.2.2))) rfl
      refine Or.inr ⟨h1, h2, ?_, X, h3⟩
      rw [List.length_cons]
      omega
/-- what a letter of an input's own means in its tail -/
def inm (kd nm : Nat → Int) (n : Nat) (m : Int) : Int := if kd n = 3 then bdF (nm n) (-1) m else m
/-- the texts of the nodes of a range -/
def txR (kd nm rp : Nat → Int) (af : Nat → Nat) : Nat → Nat → Nat → Int → List (List Int)
  | 0, _, _, _ => []
  | f + 1, n, to, m => if to ≤ n then [] else (hdT kd nm rp n (inm kd nm n m) ++ (if kd n = 5 then [] else jnL (decide (kd n ≠ 4)) (srtT (txR kd nm rp af f (n + 1) (af n) (inm kd nm n m))) ++ (if kd n = 4 then [93] else []))) :: txR kd nm rp af f (af n) to m
def txN (kd nm rp : Nat → Int) (af : Nat → Nat) (f n : Nat) (m : Int) : List Int := hdT kd nm rp n (inm kd nm n m) ++ (if kd n = 5 then [] else jnL (decide (kd n ≠ 4)) (srtT (txR kd nm rp af f (n + 1) (af n) (inm kd nm n m))) ++ (if kd n = 4 then [93] else []))
theorem txR_s {kd nm rp : Nat → Int} {af : Nat → Nat} {f n to : Nat} {m : Int} (h : n < to) : txR kd nm rp af (f + 1) n to m = txN kd nm rp af f n m :: txR kd nm rp af f (af n) to m := by
  rw [txR, if_neg (by omega)]; rfl
theorem hdT_len {kd nm rp : Nat → Int} {n : Nat} {m : Int} : 2 ≤ (hdT kd nm rp n m).length := by
  unfold hdT
  split
  · simp
  · split
    · simp
    · simp
theorem txN_pos {kd nm rp : Nat → Int} {af : Nat → Nat} {f n : Nat} {m : Int} : 2 ≤ (txN kd nm rp af f n m).length := by
  unfold txN
  rw [List.length_append]
  have := hdT_len (kd := kd) (nm := nm) (rp := rp) (n := n) (m := inm kd nm n m)
  omega
