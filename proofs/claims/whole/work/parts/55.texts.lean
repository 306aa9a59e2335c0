/-! Texts: sorted pieces, joined; the text of nodes. Pure. -/
def insT (x : List Int) : List (List Int) → List (List Int)
  | [] => [x]
  | y :: l => if lexL x y = true then x :: y :: l else y :: insT x l
def srtT (l : List (List Int)) : List (List Int) := l.foldl (fun a x => insT x a) []
def jnL (t : Bool) (l : List (List Int)) : List Int := if l.length = 0 then [48] else if l.length = 1 then ilF false l else joinL t l
def sumL (l : List (List Int)) : Nat := (l.map List.length).sum
theorem srtT_snoc {l : List (List Int)} {x : List Int} : srtT (l ++ [x]) = insT x (srtT l) := by unfold srtT; rw [List.foldl_append]; rfl
theorem insT_len {x : List Int} {l : List (List Int)} : (insT x l).length = l.length + 1 := by
  induction l with
  | nil => rfl
  | cons y l ih =>
    rw [insT]
    split
    · rfl
    · rw [List.length_cons, ih, List.length_cons]
theorem insT_sum {x : List Int} {l : List (List Int)} : sumL (insT x l) = x.length + sumL l := by
  induction l with
  | nil => simp [insT, sumL]
  | cons y l ih =>
    rw [insT]
    split
    · simp [sumL]
    · have h1 : sumL (y :: insT x l) = y.length + sumL (insT x l) := by simp [sumL]
      have h2 : sumL (y :: l) = y.length + sumL l := by simp [sumL]
      omega
theorem sumL_snoc {l : List (List Int)} {x : List Int} : sumL (l ++ [x]) = sumL l + x.length := by simp [sumL]
theorem srtT_ls (l : List (List Int)) : ∀ a, (l.foldl (fun a x => insT x a) a).length = a.length + l.length ∧ sumL (l.foldl (fun a x => insT x a) a) = sumL a + sumL l := by
  induction l with
  | nil => intro a; simp [sumL]
  | cons x l ih =>
    intro a
    rw [List.foldl_cons]
    have h := ih (insT x a)
    rw [insT_len, insT_sum] at h
    have h2 : sumL (x :: l) = x.length + sumL l := by simp [sumL]
    rw [h2, List.length_cons]
    omega
theorem srtT_len {l : List (List Int)} : (srtT l).length = l.length := by have := (srtT_ls l []).1; unfold srtT; simpa using this
theorem srtT_sum {l : List (List Int)} : sumL (srtT l) = sumL l := by have := (srtT_ls l []).2; unfold srtT; simpa [sumL] using this
theorem ilF_len : ∀ (l : List (List Int)) (b : Bool), (ilF b l).length = sumL l + (if b = true then l.length else l.length - 1) := by
  intro l
  induction l with
  | nil => intro b; cases b <;> simp [ilF, sumL]
  | cons x l ih =>
    intro b
    have h2 : sumL (x :: l) = x.length + sumL l := by simp [sumL]
    rw [ilF, List.length_append, List.length_append, ih true, h2, List.length_cons]
    cases b <;> simp <;> omega
theorem joinL_len {t : Bool} {l : List (List Int)} : (joinL t l).length = sumL l + (l.length - 1) + (if t = true then 2 else 0) := by
  unfold joinL
  rw [List.length_append, List.length_append, ilF_len]
  cases t <;> simp <;> omega
theorem jnL_ge {t : Bool} {l : List (List Int)} : sumL l ≤ (jnL t l).length := by
  unfold jnL
  split
  · rename_i h
    have : l = [] := List.length_eq_zero_iff.mp h
    subst this
    simp [sumL]
  · split
    · rw [ilF_len]; omega
    · rw [joinL_len]; omega
/-- the order of letters: nothing before itself, all comparable, one after another -/
theorem lexL_irr : ∀ x : List Int, lexL x x = false := by
  intro x
  induction x with
  | nil => rfl
  | cons a x ih => rw [lexL, if_pos rfl]; exact ih
theorem lexL_nil (x : List Int) : lexL x [] = false := by cases x <;> rfl
theorem lexL_tri : ∀ x y : List Int, lexL x y = false → lexL y x = false → x = y := by
  intro x
  induction x with
  | nil => intro y h1 h2; cases y with
    | nil => rfl
    | cons b y => cases h1
  | cons a x ih => intro y h1 h2; cases y with
    | nil => cases h2
    | cons b y =>
      rw [lexL] at h1 h2
      by_cases h : a = b
      · subst h
        rw [if_pos rfl] at h1 h2
        rw [ih y h1 h2]
      · rw [if_neg h] at h1
        rw [if_neg (fun hh => h hh.symm)] at h2
        have h3 := of_decide_eq_false h1
        have h4 := of_decide_eq_false h2
        omega
theorem lexL_tr : ∀ x y z : List Int, lexL x y = true → lexL y z = true → lexL x z = true := by
  intro x
  induction x with
  | nil => intro y z h1 h2; cases z with
    | nil => rw [lexL_nil] at h2; cases h2
    | cons c z => rfl
  | cons a x ih => intro y z h1 h2; cases y with
    | nil => cases h1
    | cons b y => cases z with
      | nil => cases h2
      | cons c z =>
        rw [lexL] at h1 h2 ⊢
        by_cases h : a = b
        · subst h
          rw [if_pos rfl] at h1
          by_cases h' : a = c
          · subst h'; rw [if_pos rfl] at h2 ⊢; exact ih y z h1 h2
          · rw [if_neg h'] at h2 ⊢; exact h2
        · rw [if_neg h] at h1
          have h3 := of_decide_eq_true h1
          by_cases h' : b = c
          · subst h'; rw [if_neg h]; exact h1
          · rw [if_neg h'] at h2
            have h4 := of_decide_eq_true h2
            rw [if_neg (by omega)]
            exact decide_eq_true (by omega)
theorem lexL_as {x y : List Int} (h : lexL x y = true) : lexL y x = false := by
  cases hq : lexL y x
  · rfl
  · exact absurd ((lexL_tr x y x h hq).symm.trans (lexL_irr x)) (by decide)
/-- in order: none behind is before -/
def OrT : List (List Int) → Prop
  | [] => True
  | x :: l => (∀ y, y ∈ l → lexL y x = false) ∧ OrT l
theorem insT_mem {x z : List Int} {l : List (List Int)} : z ∈ insT x l ↔ z = x ∨ z ∈ l := by
  induction l with
  | nil => simp [insT]
  | cons y l ih =>
    rw [insT]
    split
    · simp
    · rw [List.mem_cons, ih, List.mem_cons]
      constructor
      · rintro (h | h | h)
        · exact Or.inr (Or.inl h)
        · exact Or.inl h
        · exact Or.inr (Or.inr h)
      · rintro (h | h | h)
        · exact Or.inr (Or.inl h)
        · exact Or.inl h
        · exact Or.inr (Or.inr h)
theorem insT_or {x : List Int} {l : List (List Int)} (h : OrT l) : OrT (insT x l) := by
  induction l with
  | nil => exact ⟨fun y hy => absurd hy (List.not_mem_nil), trivial⟩
  | cons y l ih =>
    rw [insT]
    split
    · rename_i hxy
      refine ⟨fun z hz => ?_, h⟩
      rcases List.mem_cons.mp hz with hz | hz
      · subst hz; exact lexL_as hxy
      · cases hq : lexL z x
        · rfl
        · exact absurd ((lexL_tr z x y hq hxy).symm.trans (h.1 z hz)) (by decide)
    · rename_i hxy
      refine ⟨fun z hz => ?_, ih h.2⟩
      rcases insT_mem.mp hz with hz | hz
      · subst hz
        cases hq : lexL z y
        · rfl
        · exact absurd hq hxy
      · exact h.1 z hz
theorem srtT_or (l : List (List Int)) : OrT (srtT l) := by
  have key : ∀ a, OrT a → OrT (l.foldl (fun a x => insT x a) a) := by
    induction l with
    | nil => intro a h; exact h
    | cons x l ih => intro a h; rw [List.foldl_cons]; exact ih _ (insT_or h)
  exact key [] trivial
/-- where a piece takes its turn, it is sorted in -/
theorem insT_at {x : List Int} : ∀ (l : List (List Int)) (h : Nat), OrT l → h ≤ l.length → (∀ (k : Nat) (y : List Int), h ≤ k → l[k]? = some y → lexL x y = true) → (h = 0 ∨ ∃ y, 0 < h ∧ l[h - 1]? = some y ∧ lexL x y = false) → insT x l = l.take h ++ x :: l.drop h := by
  intro l
  induction l with
  | nil => intro h _ hh _ _; have h0 : h = 0 := by simpa using hh
           subst h0; rfl
  | cons y l ih =>
    intro h ho hh ha hb
    cases h with
    | zero =>
      rw [insT, if_pos (ha 0 y (Nat.le_refl _) rfl)]
      rfl
    | succ h =>
      have hy : lexL x y = false := by
        rcases hb with hb | ⟨z, -, hz, hxz⟩
        · cases hb
        · rw [Nat.add_sub_cancel] at hz
          cases h with
          | zero => cases hz; exact hxz
          | succ h =>
            have hzm : z ∈ l := List.mem_of_getElem? hz
            have hzy := ho.1 z hzm
            cases hq : lexL x y
            · rfl
            · cases hyz : lexL y z
              · have := lexL_tri y z hyz hzy
                subst this
                rw [hq] at hxz; cases hxz
              · rw [lexL_tr x y z hq hyz] at hxz; cases hxz
      rw [insT, if_neg (by rw [hy]; decide), ih h ho.2 (by simpa using hh) (fun k z hk hz => ha (k + 1) z (by omega) hz)]
      · rfl
      · cases h with
        | zero => exact Or.inl rfl
        | succ h =>
          refine Or.inr ?_
          rcases hb with hb | ⟨z, -, hz, hxz⟩
          · cases hb
          · exact ⟨z, by omega, hz, hxz⟩
