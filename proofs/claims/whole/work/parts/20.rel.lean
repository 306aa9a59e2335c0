/-! The small machine against the JVM's: values, locals, the heap. -/
def tv : Vl → Value
  | .inl x => .int (Int32.ofInt x)
  | .inr (.inl x) => .long x
  | .inr (.inr r) => va_rf r
def vok : Vl → Prop
  | .inl x => inR x
  | _ => True
theorem tv_cat (v : Vl) : (tv v).category = cat v := by
  rcases v with x | x | r
  · rfl
  · rfl
  · cases r <;> rfl
theorem tv_cats (l : List Vl) : ((l.map tv).map fun v => v.category).sum = (l.map cat).sum := by
  rw [List.map_map]
  congr 1
  exact List.map_congr_left fun v _ => tv_cat v
theorem wr_inR (x : Int) : inR (wr x) := by
  unfold wr inR
  have h1 := Int32.le_toInt (Int32.ofInt x)
  have h2 := Int32.toInt_lt (Int32.ofInt x)
  omega
theorem ofI_wr (x : Int) : Int32.ofInt (wr x) = Int32.ofInt x := by
  unfold wr
  exact Int32.ofInt_toInt _
theorem ofI_t (x : Int32) : Int32.ofInt x.toInt = x := Int32.ofInt_toInt _
theorem i32_inR (x : Int32) : inR x.toInt := by
  unfold inR
  have h1 := Int32.le_toInt x
  have h2 := Int32.toInt_lt x
  omega
theorem toI {x : Int} (h : inR x) : (Int32.ofInt x).toInt = x := wr_in h
theorem ofI_lt {x y : Int} (hx : inR x) (hy : inR y) : Int32.ofInt x < Int32.ofInt y ↔ x < y := by rw [Int32.lt_iff_toInt_lt, toI hx, toI hy]
theorem ofI_le {x y : Int} (hx : inR x) (hy : inR y) : Int32.ofInt x ≤ Int32.ofInt y ↔ x ≤ y := by rw [Int32.le_iff_toInt_le, toI hx, toI hy]
theorem ofI_eq {x y : Int} (hx : inR x) (hy : inR y) : Int32.ofInt x = Int32.ofInt y ↔ x = y := ⟨fun h => by rw [← toI hx, h, toI hy], fun h => by rw [h]⟩
theorem ofI_0 : Int32.ofInt 0 = 0 := by decide
theorem inR_0 : inR 0 := ⟨by decide, by decide⟩
theorem ofI_nat (n : Nat) : Int32.ofInt (n : Int) = Int32.ofNat n := rfl
theorem ofI_clamp {x : Int} (h : inR x) (h0 : 0 ≤ x) : (Int32.ofInt x).toNatClampNeg = x.toNat := by
  rw [← Int32.toNat_toInt, toI h]
theorem ofI_in {x : Int} {n : Nat} (h : inR x) (h0 : 0 ≤ x) (hn : x < (n : Int)) : ¬ (Int32.ofInt x < 0 ∨ n ≤ (Int32.ofInt x).toNatClampNeg) := by
  rw [ofI_clamp h h0, ← ofI_0, ofI_lt h inR_0]
  omega
/-- the locals -/
def LR (a : Array Slot) (n : Nat) (ls : Ls) : Prop := ls.length = n ∧ a.size = n ∧ lv_wf a ∧ (∀ (i : Nat) (v : Vl), ls.getD i none = some v → a[i]? = some (.val (tv v))) ∧ ∀ (i : Nat) (v : Vl), ls.getD i none = some v → vok v
def lvl (ls : Ls) : List (Nat × Value) := (List.range ls.length).filterMap fun i => (ls.getD i none).map fun v => (i, tv v)
theorem gD_lt {ls : Ls} {i : Nat} {v : Vl} (h : ls.getD i none = some v) : i < ls.length := by
  rw [List.getD_eq_getElem?_getD] at h
  cases h2 : ls[i]? with
  | none => rw [h2] at h; cases h
  | some w => exact (List.getElem?_eq_some_iff.mp h2).1
theorem lvl_mem {ls : Ls} {i : Nat} {w : Value} : (i, w) ∈ lvl ls ↔ ∃ v, ls.getD i none = some v ∧ w = tv v := by
  unfold lvl
  rw [List.mem_filterMap]
  constructor
  · rintro ⟨k, -, hk⟩
    cases hv : ls.getD k none with
    | none => rw [hv] at hk; cases hk
    | some v =>
      rw [hv] at hk
      simp only [Option.map_some, Option.some.injEq, Prod.mk.injEq] at hk
      obtain ⟨rfl, rfl⟩ := hk
      exact ⟨v, hv, rfl⟩
  · rintro ⟨v, hv, rfl⟩
    exact ⟨i, List.mem_range.mpr (gD_lt hv), by rw [hv]; rfl⟩
theorem LR.has {a : Array Slot} {n : Nat} {ls : Ls} (h : LR a n ls) : lv_has a n (lvl ls) := by
  refine ⟨h.2.1, h.2.2.1, fun q hq => ?_⟩
  obtain ⟨i, w⟩ := q
  obtain ⟨v, hv, rfl⟩ := lvl_mem.mp hq
  exact h.2.2.2.1 i v hv
theorem gD_set {ls : Ls} {i k : Nat} {x : Option Vl} : (ls.set i x).getD k none = if k = i ∧ i < ls.length then x else ls.getD k none := by
  rw [List.getD_eq_getElem?_getD, List.getD_eq_getElem?_getD, List.getElem?_set]
  by_cases h : i = k
  · subst h
    by_cases h2 : i < ls.length
    · simp [h2]
    · simp [h2, List.getElem?_eq_none (Nat.le_of_not_lt h2)]
  · rw [if_neg h, if_neg (fun q => h q.1.symm)]
theorem lClr_gD {ls : Ls} {i k : Nat} : (lClr ls i).getD k none = if k + 1 = i ∧ isLg (ls.getD k none) = true then none else ls.getD k none := by
  unfold lClr
  cases i with
  | zero => simp
  | succ m =>
    simp only
    by_cases h : isLg (ls.getD m none) = true
    · rw [if_pos h, gD_set]
      by_cases hk : k = m
      · subst hk
        by_cases hl : k < ls.length
        · rw [if_pos ⟨rfl, hl⟩, if_pos ⟨rfl, h⟩]
        · have : ls.getD k none = none := by rw [List.getD_eq_getElem?_getD, List.getElem?_eq_none (Nat.le_of_not_lt hl)]; rfl
          rw [this] at h
          cases h
      · rw [if_neg (fun q => hk q.1), if_neg (fun q => hk (by omega))]
    · rw [if_neg h]
      by_cases hk : k + 1 = m + 1 ∧ isLg (ls.getD k none) = true
      · have : k = m := by omega
        subst this
        exact absurd hk.2 h
      · rw [if_neg hk]
theorem lClr_len {ls : Ls} {i : Nat} : (lClr ls i).length = ls.length := by
  unfold lClr
  cases i with
  | zero => rfl
  | succ m =>
    simp only
    split
    · exact List.length_set
    · rfl
theorem isLg_cat {v : Vl} : isLg (some v) = true ↔ cat v = 2 := by
  unfold cat
  by_cases h : isLg (some v) = true
  · simp [h]
  · simp [h]
theorem cat_1 {v : Vl} (h : ¬ isLg (some v) = true) : cat v = 1 := by unfold cat; rw [if_neg h]
/-- a store of one slot -/
theorem LR.put1 {a : Array Slot} {n i : Nat} {ls ls' : Ls} {v : Vl} (h : LR a n ls) (hv : ¬ isLg (some v) = true) (ho : vok v) (hp : lPut ls i v = some ls') :
    i < n ∧ ∀ a' : Array Slot, lv_has a' n ((i, tv v) :: (lvl ls).filter (fun q => !(q.1 == i) && !(q.1 + 1 == i && q.2.category == 2))) → LR a' n ls' := by
  unfold lPut at hp
  rw [if_neg hv] at hp
  by_cases hi : i < ls.length
  · rw [if_pos hi] at hp
    cases hp
    have key : ∀ (k : Nat) (w : Vl), ((lClr ls i).set i (some v)).getD k none = some w → (k = i ∧ w = v) ∨ (k ≠ i ∧ ls.getD k none = some w ∧ ¬ (k + 1 = i ∧ cat w = 2)) := by
      intro k w hw
      rw [gD_set, lClr_len] at hw
      by_cases hk : k = i ∧ i < ls.length
      · rw [if_pos hk] at hw
        cases hw
        exact Or.inl ⟨hk.1, rfl⟩
      · rw [if_neg hk, lClr_gD] at hw
        have hk' : k ≠ i := fun q => hk ⟨q, hi⟩
        by_cases hc : k + 1 = i ∧ isLg (ls.getD k none) = true
        · rw [if_pos hc] at hw; cases hw
        · rw [if_neg hc] at hw
          exact Or.inr ⟨hk', hw, fun q => hc ⟨q.1, by rw [hw]; exact isLg_cat.mpr q.2⟩⟩
    refine ⟨by rw [← h.1]; exact hi, fun a' ha => ⟨by rw [List.length_set, lClr_len]; exact h.1, ha.1, ha.2.1, fun k w hw => ?_, fun k w hw => ?_⟩⟩
    · rcases key k w hw with ⟨rfl, rfl⟩ | ⟨h1, h2, h3⟩
      · exact ha.2.2 (k, tv w) List.mem_cons_self
      · refine ha.2.2 (k, tv w) (List.mem_cons_of_mem _ (List.mem_filter.mpr ⟨lvl_mem.mpr ⟨w, h2, rfl⟩, ?_⟩))
        simp only [tv_cat, Bool.and_eq_true, Bool.not_eq_true', beq_eq_false_iff_ne, Bool.and_eq_false_iff]
        refine ⟨h1, ?_⟩
        by_cases hk : k + 1 = i
        · exact Or.inr (fun q => h3 ⟨hk, q⟩)
        · exact Or.inl hk
    · rcases key k w hw with ⟨rfl, rfl⟩ | ⟨-, h2, -⟩
      · exact ho
      · exact h.2.2.2.2 k w h2
  · rw [if_neg hi] at hp; cases hp
/-- a store of a long -/
theorem LR.put2 {a : Array Slot} {n i : Nat} {ls ls' : Ls} {v : Vl} (h : LR a n ls) (hv : isLg (some v) = true) (ho : vok v) (hp : lPut ls i v = some ls') :
    i + 1 < n ∧ ∀ a' : Array Slot, lv_has a' n ((i, tv v) :: (lvl ls).filter (fun q => !(q.1 == i) && (!(q.1 == i + 1) && !(q.1 + 1 == i && q.2.category == 2)))) → LR a' n ls' := by
  unfold lPut at hp
  rw [if_pos hv] at hp
  by_cases hi : i + 1 < ls.length
  · rw [if_pos hi] at hp
    cases hp
    have key : ∀ (k : Nat) (w : Vl), (((lClr ls i).set i (some v)).set (i + 1) none).getD k none = some w → (k = i ∧ w = v) ∨ (k ≠ i ∧ k ≠ i + 1 ∧ ls.getD k none = some w ∧ ¬ (k + 1 = i ∧ cat w = 2)) := by
      intro k w hw
      rw [gD_set, List.length_set, lClr_len] at hw
      by_cases hk1 : k = i + 1 ∧ i + 1 < ls.length
      · rw [if_pos hk1] at hw; cases hw
      · rw [if_neg hk1, gD_set, lClr_len] at hw
        have hk1' : k ≠ i + 1 := fun q => hk1 ⟨q, hi⟩
        by_cases hk : k = i ∧ i < ls.length
        · rw [if_pos hk] at hw
          cases hw
          exact Or.inl ⟨hk.1, rfl⟩
        · rw [if_neg hk, lClr_gD] at hw
          have hk' : k ≠ i := fun q => hk ⟨q, by omega⟩
          by_cases hc : k + 1 = i ∧ isLg (ls.getD k none) = true
          · rw [if_pos hc] at hw; cases hw
          · rw [if_neg hc] at hw
            exact Or.inr ⟨hk', hk1', hw, fun q => hc ⟨q.1, by rw [hw]; exact isLg_cat.mpr q.2⟩⟩
    refine ⟨by rw [← h.1]; exact hi, fun a' ha => ⟨by rw [List.length_set, List.length_set, lClr_len]; exact h.1, ha.1, ha.2.1, fun k w hw => ?_, fun k w hw => ?_⟩⟩
    · rcases key k w hw with ⟨rfl, rfl⟩ | ⟨h1, h1', h2, h3⟩
      · exact ha.2.2 (k, tv w) List.mem_cons_self
      · refine ha.2.2 (k, tv w) (List.mem_cons_of_mem _ (List.mem_filter.mpr ⟨lvl_mem.mpr ⟨w, h2, rfl⟩, ?_⟩))
        simp only [tv_cat, Bool.and_eq_true, Bool.not_eq_true', beq_eq_false_iff_ne, Bool.and_eq_false_iff]
        refine ⟨h1, h1', ?_⟩
        by_cases hk : k + 1 = i
        · exact Or.inr (fun q => h3 ⟨hk, q⟩)
        · exact Or.inl hk
    · rcases key k w hw with ⟨rfl, rfl⟩ | ⟨-, -, h2, -⟩
      · exact ho
      · exact h.2.2.2.2 k w h2
  · rw [if_neg hi] at hp; cases hp
