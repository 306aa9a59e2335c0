/-! Valid states: what every state of a run keeps. Pure, by hand. -/
def MnOk (m : Int) : Prop := ∃ a b c : Nat, a < 7 ∧ b < 7 ∧ c < 7 ∧ m = ((a + 8 * b + 64 * c : Nat) : Int)
theorem mt_all : ∀ a : Nat, a < 7 → ∀ b : Nat, b < 7 → ∀ c : Nat, c < 7 → mtF 120 ((a + 8 * b + 64 * c : Nat) : Int) = (a : Int) - 1 ∧ mtF 121 ((a + 8 * b + 64 * c : Nat) : Int) = (b : Int) - 1 ∧ mtF 122 ((a + 8 * b + 64 * c : Nat) : Int) = (c : Int) - 1 := by decide +kernel
theorem bd_all : ∀ a : Nat, a < 7 → ∀ b : Nat, b < 7 → ∀ c : Nat, c < 7 → ∀ x : Nat, x < 7 → bdF 120 ((x : Int) - 1) ((a + 8 * b + 64 * c : Nat) : Int) = ((x + 8 * b + 64 * c : Nat) : Int) ∧ bdF 121 ((x : Int) - 1) ((a + 8 * b + 64 * c : Nat) : Int) = ((a + 8 * x + 64 * c : Nat) : Int) ∧ bdF 122 ((x : Int) - 1) ((a + 8 * b + 64 * c : Nat) : Int) = ((a + 8 * b + 64 * x : Nat) : Int) := by decide +kernel
theorem mt_rg {c m : Int} (hm : MnOk m) (hc : (97 ≤ c ∧ c ≤ 102) ∨ (120 ≤ c ∧ c ≤ 122)) : -1 ≤ mtF c m ∧ mtF c m ≤ 5 := by
  rcases hc with hc | hc
  · unfold mtF; rw [if_pos (by omega)]; omega
  · obtain ⟨a, b, d, ha, hb, hd, rfl⟩ := hm
    have h := mt_all a ha b hb d hd
    have hc3 : c = 120 ∨ c = 121 ∨ c = 122 := by omega
    rcases hc3 with rfl | rfl | rfl
    · rw [h.1]; omega
    · rw [h.2.1]; omega
    · rw [h.2.2]; omega
theorem bd_ok {c x m : Int} (hm : MnOk m) (hc : 120 ≤ c ∧ c ≤ 122) (hx : -1 ≤ x ∧ x ≤ 5) : MnOk (bdF c x m) := by
  obtain ⟨a, b, d, ha, hb, hd, rfl⟩ := hm
  obtain ⟨y, rfl, hy⟩ : ∃ y : Nat, x = (y : Int) - 1 ∧ y < 7 := ⟨(x + 1).toNat, by omega, by omega⟩
  have h := bd_all a ha b hb d hd y hy
  have hc3 : c = 120 ∨ c = 121 ∨ c = 122 := by omega
  rcases hc3 with rfl | rfl | rfl
  · rw [h.1]; exact ⟨y, b, d, hy, hb, hd, rfl⟩
  · rw [h.2.1]; exact ⟨a, y, d, ha, hy, hd, rfl⟩
  · rw [h.2.2]; exact ⟨a, b, y, ha, hb, hy, rfl⟩
theorem MnOk.zero : MnOk 0 := ⟨0, 0, 0, by decide, by decide, by decide, rfl⟩
/-- numbers that rise, all below nx -/
def Inc (L : List Tg) (nx : Int) : Prop := (L.map (fun e => e.1)).Pairwise (fun a b => a < b) ∧ ∀ e, e ∈ L → 0 ≤ e.1 ∧ e.1 < nx
theorem Inc.nil {nx : Int} : Inc [] nx := ⟨List.Pairwise.nil, fun _ h => absurd h (List.not_mem_nil)⟩
theorem Inc.mono {L : List Tg} {nx ny : Int} (h : Inc L nx) (k : nx ≤ ny) : Inc L ny := ⟨h.1, fun e he => by have := h.2 e he; omega⟩
theorem Inc.snoc {L : List Tg} {nx : Int} {e : Tg} (h : Inc L nx) (he : e.1 = nx) (h0 : 0 ≤ nx) : Inc (L ++ [e]) (nx + 1) := by
  refine ⟨?_, ?_⟩
  · rw [List.map_append, List.pairwise_append]
    refine ⟨h.1, by simp, ?_⟩
    intro a ha b hb
    obtain ⟨x, hx, rfl⟩ := List.mem_map.mp ha
    have hb2 : b = e.1 := by simpa using hb
    have := h.2 x hx
    omega
  · intro x hx
    rcases List.mem_append.mp hx with hx | hx
    · have := h.2 x hx; omega
    · rw [List.mem_singleton.mp hx]; omega
theorem Inc.sub {L L' : List Tg} {nx : Int} (h : Inc L nx) (hs : L'.Sublist L) : Inc L' nx := ⟨h.1.sublist (hs.map _), fun e he => h.2 e (hs.subset he)⟩
theorem Inc.nums {L L' : List Tg} {nx : Int} (h : Inc L nx) (hs : L'.map (fun e => e.1) = L.map (fun e => e.1)) : Inc L' nx := by
  refine ⟨by rw [hs]; exact h.1, fun e he => ?_⟩
  have h1 : e.1 ∈ L'.map (fun e => e.1) := List.mem_map.mpr ⟨e, he, rfl⟩
  rw [hs] at h1
  obtain ⟨x, hx, h2⟩ := List.mem_map.mp h1
  have := h.2 x hx
  omega
theorem Inc.one {L : List Tg} {nx : Int} (h : Inc L nx) {a b : Tg} (ha : a ∈ L) (hb : b ∈ L) (hab : a.1 = b.1) : a = b := by
  induction L with
  | nil => cases ha
  | cons x l ih =>
    have hp := h.1
    rw [List.map_cons, List.pairwise_cons] at hp
    have hl : Inc l nx := ⟨hp.2, fun e he => h.2 e (List.mem_cons_of_mem _ he)⟩
    have low : ∀ y, y ∈ l → x.1 < y.1 := fun y hy => hp.1 _ (List.mem_map.mpr ⟨y, hy, rfl⟩)
    rcases List.mem_cons.mp ha with h1 | h1
    · rcases List.mem_cons.mp hb with h2 | h2
      · rw [h1, h2]
      · have := low b h2; rw [← h1] at this; omega
    · rcases List.mem_cons.mp hb with h2 | h2
      · have := low a h1; rw [← h2] at this; omega
      · exact ih hl h1 h2
theorem Inc.uq {L : List Tg} {nx : Int} (h : Inc L nx) : Uq L := by
  intro i j a b hi hj hab
  have hm : (L.map (fun e => e.1))[i]? = some a.1 := by rw [List.getElem?_map, hi]; rfl
  have hn : (L.map (fun e => e.1))[j]? = some b.1 := by rw [List.getElem?_map, hj]; rfl
  have hp := List.pairwise_iff_getElem.mp h.1
  obtain ⟨h1, h2⟩ := List.getElem?_eq_some_iff.mp hm
  obtain ⟨h3, h4⟩ := List.getElem?_eq_some_iff.mp hn
  rcases Nat.lt_trichotomy i j with hij | hij | hij
  · have := hp i j h1 h3 hij; omega
  · exact hij
  · have := hp j i h3 h1 hij; omega
theorem getN_mem {L : List Tg} {w : Int} {e : Tg} (h : getN L w = some e) : e ∈ L ∧ e.1 = w := by
  induction L with
  | nil => cases h
  | cons x l ih =>
    rw [getN] at h
    split at h
    · cases h; exact ⟨List.mem_cons_self, by assumption⟩
    · exact ⟨List.mem_cons_of_mem _ (ih h).1, (ih h).2⟩
theorem getN_none {L : List Tg} {w : Int} (h : getN L w = none) : ∀ e, e ∈ L → e.1 ≠ w := by
  induction L with
  | nil => intro e he; cases he
  | cons x l ih =>
    rw [getN] at h
    split at h
    · cases h
    · intro e he
      rcases List.mem_cons.mp he with rfl | he
      · assumption
      · exact ih h e he
theorem Inc.get {L : List Tg} {nx : Int} (h : Inc L nx) {e : Tg} (he : e ∈ L) : getN L e.1 = some e := by
  cases hg : getN L e.1 with
  | none => exact absurd rfl (getN_none hg e he)
  | some x =>
    have := getN_mem hg
    rw [h.one this.1 he this.2]
theorem setIn_nums {w to : Int} : ∀ L : List Tg, (setIn L w to).map (fun e => e.1) = L.map (fun e => e.1) := by
  intro L
  induction L with
  | nil => rfl
  | cons x l ih =>
    rw [setIn]
    split
    · rfl
    · rw [List.map_cons, ih, List.map_cons]
theorem setIn_len {w to : Int} (L : List Tg) : (setIn L w to).length = L.length := by
  have := congrArg List.length (setIn_nums (w := w) (to := to) L)
  rwa [List.length_map, List.length_map] at this
theorem setIn_mem {w to : Int} {e : Tg} : ∀ {L : List Tg}, e ∈ setIn L w to → (e ∈ L) ∨ (∃ x, x ∈ L ∧ x.1 = w ∧ e = (x.1, (to, x.2.2))) := by
  intro L
  induction L with
  | nil => intro h; exact Or.inl h
  | cons x l ih =>
    intro h
    rw [setIn] at h
    split at h
    · rcases List.mem_cons.mp h with h | h
      · exact Or.inr ⟨x, List.mem_cons_self, by assumption, h⟩
      · exact Or.inl (List.mem_cons_of_mem _ h)
    · rcases List.mem_cons.mp h with h | h
      · exact Or.inl (by rw [h]; exact List.mem_cons_self)
      · rcases ih h with h | ⟨y, hy, h1, h2⟩
        · exact Or.inl (List.mem_cons_of_mem _ h)
        · exact Or.inr ⟨y, List.mem_cons_of_mem _ hy, h1, h2⟩
theorem nums_mem {L L' : List Tg} (h : L'.map (fun e => e.1) = L.map (fun e => e.1)) {e : Tg} (he : e ∈ L) : ∃ x, x ∈ L' ∧ x.1 = e.1 := by
  have h1 : e.1 ∈ L.map (fun e => e.1) := List.mem_map.mpr ⟨e, he, rfl⟩
  rw [← h] at h1
  obtain ⟨x, hx, h2⟩ := List.mem_map.mp h1
  exact ⟨x, hx, h2⟩
theorem delN_sub {w : Int} : ∀ L : List Tg, (delN L w).Sublist L := by
  intro L
  induction L with
  | nil => exact List.Sublist.refl _
  | cons x l ih =>
    rw [delN]
    split
    · exact List.sublist_cons_self _ _
    · exact ih.cons₂ _
theorem delN_keep {w : Int} {e : Tg} : ∀ {L : List Tg}, e ∈ L → e.1 ≠ w → e ∈ delN L w := by
  intro L
  induction L with
  | nil => intro h; cases h
  | cons x l ih =>
    intro h hw
    rw [delN]
    rcases List.mem_cons.mp h with rfl | h
    · rw [if_neg hw]; exact List.mem_cons_self
    · split
      · exact h
      · exact List.mem_cons_of_mem _ (ih h hw)
theorem Inc.del {L : List Tg} {nx w : Int} (h : Inc L nx) {e : Tg} (he : e ∈ delN L w) : e.1 ≠ w := by
  induction L with
  | nil => cases he
  | cons x l ih =>
    have hp := h.1
    rw [List.map_cons, List.pairwise_cons] at hp
    have hl : Inc l nx := ⟨hp.2, fun e he => h.2 e (List.mem_cons_of_mem _ he)⟩
    rw [delN] at he
    split at he
    · have := hp.1 _ (List.mem_map.mpr ⟨e, he, rfl⟩); omega
    · rcases List.mem_cons.mp he with rfl | he
      · assumption
      · exact ih hl he
theorem mvF_1 {x y : Int} {e : Tg} : (mvF x y e).1 = e.1 ∧ (mvF x y e).2.2 = e.2.2 := by
  unfold mvF; split <;> exact ⟨rfl, rfl⟩
theorem mvF_in {x y : Int} {e : Tg} : (mvF x y e).2.1 = if e.2.1 = x then y else e.2.1 := by
  unfold mvF; split <;> rfl
theorem mvF_nums {x y : Int} (L : List Tg) : (L.map (mvF x y)).map (fun e => e.1) = L.map (fun e => e.1) := by
  rw [List.map_map]
  exact List.map_congr_left (fun e _ => mvF_1.1)
/-- in places that are there -/
def InV (ps L : List Tg) : Prop := ∀ e, e ∈ L → e.2.1 = -1 ∨ ∃ p, p ∈ ps ∧ p.1 = e.2.1
def Fo (ps : List Tg) : Prop := ∃ rk : Int → Nat, ∀ e, e ∈ ps → rk e.1 < rk e.2.1
theorem Fo.nil : Fo [] := ⟨fun _ => 0, fun _ h => absurd h (List.not_mem_nil)⟩
/-- ranks no higher than there are places -/
theorem Fo.low {ps : List Tg} (h : Fo ps) : ∃ rk : Int → Nat, (∀ e, e ∈ ps → rk e.1 < rk e.2.1) ∧ ∀ w, rk w ≤ ps.length := by
  obtain ⟨rk, hr⟩ := h
  refine ⟨fun w => (ps.filter (fun e => decide (rk e.1 < rk w))).length, ?_, fun w => List.length_filter_le _ _⟩
  intro e he
  have hlt := hr e he
  have key : ∀ l : List Tg, (l.filter (fun x => decide (rk x.1 < rk e.1))).length ≤ (l.filter (fun x => decide (rk x.1 < rk e.2.1))).length ∧ (e ∈ l → (l.filter (fun x => decide (rk x.1 < rk e.1))).length < (l.filter (fun x => decide (rk x.1 < rk e.2.1))).length) := by
    intro l
    induction l with
    | nil => exact ⟨Nat.le_refl _, fun h => absurd h (List.not_mem_nil)⟩
    | cons y l ih =>
      rw [List.filter_cons, List.filter_cons]
      by_cases h1 : rk y.1 < rk e.1
      · rw [if_pos (decide_eq_true h1), if_pos (decide_eq_true (by omega)), List.length_cons, List.length_cons]
        refine ⟨by have := ih.1; omega, fun hm => ?_⟩
        rcases List.mem_cons.mp hm with hm | hm
        · subst hm; omega
        · have := ih.2 hm; omega
      · rw [if_neg (by simpa using h1)]
        by_cases h2 : rk y.1 < rk e.2.1
        · rw [if_pos (decide_eq_true h2), List.length_cons]
          exact ⟨by have := ih.1; omega, fun _ => by have := ih.1; omega⟩
        · rw [if_neg (by simpa using h2)]
          refine ⟨ih.1, fun hm => ?_⟩
          rcases List.mem_cons.mp hm with hm | hm
          · subst hm; omega
          · exact ih.2 hm
  exact (key ps).2 he
/-- a place more, with a new number -/
theorem Fo.snoc {ps : List Tg} {nx : Int} {e : Tg} (h : Fo ps) (hi : Inc ps nx) (hv : InV ps ps) (h0 : 0 ≤ nx) (he : e.1 = nx) (hp : e.2.1 ≠ nx) : Fo (ps ++ [e]) := by
  obtain ⟨rk, hr⟩ := h
  refine ⟨fun w => if w = nx then 0 else rk w + 1, fun x hx => ?_⟩
  rcases List.mem_append.mp hx with hx | hx
  · have h1 := hi.2 x hx
    have h2 : x.2.1 ≠ nx := by
      rcases hv x hx with h2 | ⟨p, hp, h2⟩
      · omega
      · have := hi.2 p hp; omega
    have := hr x hx
    show (if x.1 = nx then 0 else rk x.1 + 1) < (if x.2.1 = nx then 0 else rk x.2.1 + 1)
    rw [if_neg (by omega), if_neg h2]
    omega
  · rw [List.mem_singleton.mp hx]
    show (if e.1 = nx then 0 else rk e.1 + 1) < (if e.2.1 = nx then 0 else rk e.2.1 + 1)
    rw [if_pos he, if_neg hp]
    exact Nat.succ_pos _
theorem Fo.of {ps ps' : List Tg} (h : Fo ps) (hs : ∀ e, e ∈ ps' → e ∈ ps) : Fo ps' := by
  obtain ⟨rk, hr⟩ := h
  exact ⟨rk, fun e he => hr e (hs e he)⟩
/-- a place goes into another beside it -/
theorem Fo.enter {ps : List Tg} {nx : Int} {q o : Tg} (h : Fo ps) (hi : Inc ps nx) (hq : q ∈ ps) (ho : o ∈ ps) (hne : o.1 ≠ q.1) (hb : o.2.1 = q.2.1) : Fo (setIn ps q.1 o.1) := by
  obtain ⟨rk, hr⟩ := h
  have key : ∃ D : Int → Prop, D q.1 ∧ ¬ D o.1 ∧ (∀ e, e ∈ ps → D e.2.1 → D e.1) ∧ (∀ e, e ∈ ps → e.1 ≠ q.1 → D e.1 → D e.2.1) := by
    -- what is in q, at any depth
    let D : Int → Prop := fun w => ∀ S : Int → Prop, S q.1 → (∀ e, e ∈ ps → S e.2.1 → S e.1) → S w
    have dq : D q.1 := fun S h1 _ => h1
    have dn : ∀ e, e ∈ ps → D e.2.1 → D e.1 := fun e he hd S h1 h2 => h2 e he (hd S h1 h2)
    have low : ∀ w, D w → rk w ≤ rk q.1 := fun w hd => hd (fun w => rk w ≤ rk q.1) (Nat.le_refl _) (fun e he hh => Nat.le_trans (Nat.le_of_lt (hr e he)) hh)
    have up : ∀ e, e ∈ ps → e.1 ≠ q.1 → D e.1 → D e.2.1 := by
      intro e he hn hd
      have := hd (fun w => w = q.1 ∨ ∃ x, x ∈ ps ∧ x.1 = w ∧ D x.2.1) (Or.inl rfl) (fun x hx hh => by
        refine Or.inr ⟨x, hx, rfl, ?_⟩
        rcases hh with hh | ⟨y, hy, h1, h2⟩
        · rw [hh]; exact dq
        · rw [← h1]; exact dn y hy h2)
      rcases this with this | ⟨x, hx, h1, h2⟩
      · exact absurd this hn
      · rw [← hi.one hx he h1]; exact h2
    have no : ¬ D o.1 := by
      intro hd
      have h1 := up o ho hne hd
      rw [hb] at h1
      exact Nat.lt_irrefl _ (Nat.lt_of_lt_of_le (hr q hq) (low _ h1))
    exact ⟨D, dq, no, dn, up⟩
  obtain ⟨D, dq, no, dn, up⟩ := key
  have hcl : ∀ w, Decidable (D w) := fun w => Classical.propDecidable _
  refine ⟨fun w => @ite Nat (D w) (hcl w) (rk w) (rk w + rk q.1 + 1), fun e he => ?_⟩
  show @ite Nat (D e.1) (hcl e.1) (rk e.1) (rk e.1 + rk q.1 + 1) < @ite Nat (D e.2.1) (hcl e.2.1) (rk e.2.1) (rk e.2.1 + rk q.1 + 1)
  rcases setIn_mem he with he' | ⟨x, hx, h1, h2⟩
  · by_cases hqq : e.1 = q.1
    · -- the first with this number was set, and it is the only one
      have heq : e = q := hi.one he' hq hqq
      subst heq
      exfalso
      have hnx : Inc (setIn ps e.1 o.1) nx := hi.nums (setIn_nums ps)
      have hmem : (e.1, (o.1, e.2.2)) ∈ setIn ps e.1 o.1 := by
        have : ∀ l : List Tg, e ∈ l → (∀ y, y ∈ l → y.1 = e.1 → y = e) → (e.1, (o.1, e.2.2)) ∈ setIn l e.1 o.1 := by
          intro l
          induction l with
          | nil => intro h; cases h
          | cons y l ih =>
            intro hm hu
            rw [setIn]
            split
            · rename_i hy
              rw [hu y List.mem_cons_self hy]
              exact List.mem_cons_self
            · rename_i hy
              rcases List.mem_cons.mp hm with hm | hm
              · rw [← hm] at hy; exact absurd rfl hy
              · exact List.mem_cons_of_mem _ (ih hm (fun z hz => hu z (List.mem_cons_of_mem _ hz)))
        exact this ps he' (fun y hy hh => hi.one hy he' hh)
      have := hnx.one he hmem rfl
      have h3 : e.2.1 = o.1 := by rw [this]
      have := hr e he'
      have := hr o ho
      rw [← h3, ← hb] at *
      omega
    · have hlt := hr e he'
      by_cases hd : D e.1
      · rw [if_pos hd, if_pos (up e he' hqq hd)]; exact hlt
      · rw [if_neg hd, if_neg (fun hh => hd (dn e he' hh))]; omega
  · subst h2
    show @ite Nat (D x.1) (hcl x.1) (rk x.1) (rk x.1 + rk q.1 + 1) < @ite Nat (D o.1) (hcl o.1) (rk o.1) (rk o.1 + rk q.1 + 1)
    rw [h1, if_pos dq, if_neg no]
    omega
/-- a place gets another one around, higher than it -/
theorem Fo.leave {ps : List Tg} {q : Int} {to : Int} (h : ∃ rk : Int → Nat, (∀ e, e ∈ ps → rk e.1 < rk e.2.1) ∧ rk q < rk to) : Fo (setIn ps q to) := by
  obtain ⟨rk, hr, hq⟩ := h
  refine ⟨rk, fun e he => ?_⟩
  rcases setIn_mem he with he | ⟨x, hx, h1, h2⟩
  · exact hr e he
  · subst h2; show rk x.1 < rk to; rw [h1]; exact hq
