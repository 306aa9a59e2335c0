/-! The exceptions: their words; a new one is made and thrown. Written by wip/whole/gen/mk31.py. -/
def eN : Nat → String := fun x => match x with
  | 0 => "java/lang/IllegalArgumentException"
  | 1 => "java/lang/IllegalStateException"
  | 2 => "java/lang/UnsupportedOperationException"
  | 3 => "java/lang/IndexOutOfBoundsException"
  | _ => "java/util/NoSuchElementException"
def eUp : List String := ["java/lang/RuntimeException", "java/lang/Exception"]
/-- what is asked of the tables for an exception, but the statics -/
def eAt (x : Nat) : List Cond := Bundle.throwableAtoms ++ Bundle.chain0Atoms (eN x) eUp ++
  [.instantiable (eN x) 6, .castable (eN x) (eN x), .selects (eN x) Bundle.tFill0 Bundle.tFill0, .selects (eN x) Bundle.tFill Bundle.tFill,
   .lays (eN x) Bundle.tN "cause" "Ljava/lang/Throwable;", .lays (eN x) Bundle.tN "stackTrace" Bundle.steD, .lays (eN x) Bundle.tN "suppressedExceptions" Bundle.listD, .lays (eN x) Bundle.tN "detailMessage" "Ljava/lang/String;",
   .fieldLink Bundle.tN 198 Bundle.tN "backtrace" "Ljava/lang/Object;", .lays Bundle.tN Bundle.tN "backtrace" "Ljava/lang/Object;", .lays (eN x) Bundle.tN "backtrace" "Ljava/lang/Object;", .initialized (eN x)]
def eCo : Cond → Bool
  | .code .. => true
  | .codeSync .. => true
  | _ => false
def eLs : Cond → Bool
  | .laysStatic .. => true
  | _ => false
theorem e_rest : ∀ x, x < 5 → ((eAt x).filter (fun w => !eCo w)).all (fun w => decide (w ∈ tables_1) && (kW w || eLs w)) = true := by decide +kernel
theorem ec_t_fill : Cond.codeSync Bundle.tFill LibCode.Throwable.Fill.code 1 (some (.object Bundle.tN)) ∈ lw_tbl := ts_2 (List.mem_of_getElem? (i := 130) rfl)
theorem ec_t_init : Cond.code Bundle.tInit0 LibCode.Throwable.Init0.code 1 none ∈ lw_tbl := ts_2 (List.mem_of_getElem? (i := 117) rfl)
theorem ec_o_init : Cond.code Bundle.oInit ⟨#[0xb1]⟩ 1 none ∈ lw_tbl := ts_1 (List.mem_of_getElem? (i := 33) rfl)
theorem ec_i_IllegalArgumentException : Cond.code (Bundle.init0 "java/lang/IllegalArgumentException") Bundle.five 1 none ∈ lw_tbl := ts_2 (List.mem_of_getElem? (i := 138) rfl)
theorem ec_i_IllegalStateException : Cond.code (Bundle.init0 "java/lang/IllegalStateException") Bundle.five 1 none ∈ lw_tbl := ts_2 (List.mem_of_getElem? (i := 169) rfl)
theorem ec_i_UnsupportedOperationException : Cond.code (Bundle.init0 "java/lang/UnsupportedOperationException") Bundle.five 1 none ∈ lw_tbl := ts_3 (List.mem_of_getElem? (i := 202) rfl)
theorem ec_i_IndexOutOfBoundsException : Cond.code (Bundle.init0 "java/lang/IndexOutOfBoundsException") Bundle.five 1 none ∈ lw_tbl := ts_4 (List.mem_of_getElem? (i := 33) rfl)
theorem ec_i_NoSuchElementException : Cond.code (Bundle.init0 "java/util/NoSuchElementException") Bundle.five 1 none ∈ lw_tbl := ts_4 (List.mem_of_getElem? (i := 148) rfl)
theorem ec_i_RuntimeException : Cond.code (Bundle.init0 "java/lang/RuntimeException") Bundle.five 1 none ∈ lw_tbl := ts_2 (List.mem_of_getElem? (i := 141) rfl)
theorem ec_i_Exception : Cond.code (Bundle.init0 "java/lang/Exception") Bundle.five 1 none ∈ lw_tbl := ts_2 (List.mem_of_getElem? (i := 144) rfl)
theorem e_cl0 : (eAt 0).filter eCo = [Cond.codeSync Bundle.tFill LibCode.Throwable.Fill.code 1 (some (.object Bundle.tN)), Cond.code Bundle.tInit0 LibCode.Throwable.Init0.code 1 none, Cond.code Bundle.oInit ⟨#[0xb1]⟩ 1 none, Cond.code (Bundle.init0 "java/lang/IllegalArgumentException") Bundle.five 1 none, Cond.code (Bundle.init0 "java/lang/RuntimeException") Bundle.five 1 none, Cond.code (Bundle.init0 "java/lang/Exception") Bundle.five 1 none] := rfl
theorem e_cl1 : (eAt 1).filter eCo = [Cond.codeSync Bundle.tFill LibCode.Throwable.Fill.code 1 (some (.object Bundle.tN)), Cond.code Bundle.tInit0 LibCode.Throwable.Init0.code 1 none, Cond.code Bundle.oInit ⟨#[0xb1]⟩ 1 none, Cond.code (Bundle.init0 "java/lang/IllegalStateException") Bundle.five 1 none, Cond.code (Bundle.init0 "java/lang/RuntimeException") Bundle.five 1 none, Cond.code (Bundle.init0 "java/lang/Exception") Bundle.five 1 none] := rfl
theorem e_cl2 : (eAt 2).filter eCo = [Cond.codeSync Bundle.tFill LibCode.Throwable.Fill.code 1 (some (.object Bundle.tN)), Cond.code Bundle.tInit0 LibCode.Throwable.Init0.code 1 none, Cond.code Bundle.oInit ⟨#[0xb1]⟩ 1 none, Cond.code (Bundle.init0 "java/lang/UnsupportedOperationException") Bundle.five 1 none, Cond.code (Bundle.init0 "java/lang/RuntimeException") Bundle.five 1 none, Cond.code (Bundle.init0 "java/lang/Exception") Bundle.five 1 none] := rfl
theorem e_cl3 : (eAt 3).filter eCo = [Cond.codeSync Bundle.tFill LibCode.Throwable.Fill.code 1 (some (.object Bundle.tN)), Cond.code Bundle.tInit0 LibCode.Throwable.Init0.code 1 none, Cond.code Bundle.oInit ⟨#[0xb1]⟩ 1 none, Cond.code (Bundle.init0 "java/lang/IndexOutOfBoundsException") Bundle.five 1 none, Cond.code (Bundle.init0 "java/lang/RuntimeException") Bundle.five 1 none, Cond.code (Bundle.init0 "java/lang/Exception") Bundle.five 1 none] := rfl
theorem e_cl4 : (eAt 4).filter eCo = [Cond.codeSync Bundle.tFill LibCode.Throwable.Fill.code 1 (some (.object Bundle.tN)), Cond.code Bundle.tInit0 LibCode.Throwable.Init0.code 1 none, Cond.code Bundle.oInit ⟨#[0xb1]⟩ 1 none, Cond.code (Bundle.init0 "java/util/NoSuchElementException") Bundle.five 1 none, Cond.code (Bundle.init0 "java/lang/RuntimeException") Bundle.five 1 none, Cond.code (Bundle.init0 "java/lang/Exception") Bundle.five 1 none] := rfl
theorem e_code : ∀ x, x < 5 → ∀ w ∈ eAt x, eCo w = true → w ∈ lw_tbl := by
  intro x hx w hw hc
  have h := List.mem_filter.mpr ⟨hw, hc⟩
  have hx' : x = 0 ∨ x = 1 ∨ x = 2 ∨ x = 3 ∨ x = 4 := by omega
  rcases hx' with rfl | rfl | rfl | rfl | rfl
  · rw [e_cl0] at h
    simp only [List.mem_cons, List.not_mem_nil, or_false] at h
    rcases h with rfl | rfl | rfl | rfl | rfl | rfl
    · exact ec_t_fill
    · exact ec_t_init
    · exact ec_o_init
    · exact ec_i_IllegalArgumentException
    · exact ec_i_RuntimeException
    · exact ec_i_Exception
  · rw [e_cl1] at h
    simp only [List.mem_cons, List.not_mem_nil, or_false] at h
    rcases h with rfl | rfl | rfl | rfl | rfl | rfl
    · exact ec_t_fill
    · exact ec_t_init
    · exact ec_o_init
    · exact ec_i_IllegalStateException
    · exact ec_i_RuntimeException
    · exact ec_i_Exception
  · rw [e_cl2] at h
    simp only [List.mem_cons, List.not_mem_nil, or_false] at h
    rcases h with rfl | rfl | rfl | rfl | rfl | rfl
    · exact ec_t_fill
    · exact ec_t_init
    · exact ec_o_init
    · exact ec_i_UnsupportedOperationException
    · exact ec_i_RuntimeException
    · exact ec_i_Exception
  · rw [e_cl3] at h
    simp only [List.mem_cons, List.not_mem_nil, or_false] at h
    rcases h with rfl | rfl | rfl | rfl | rfl | rfl
    · exact ec_t_fill
    · exact ec_t_init
    · exact ec_o_init
    · exact ec_i_IndexOutOfBoundsException
    · exact ec_i_RuntimeException
    · exact ec_i_Exception
  · rw [e_cl4] at h
    simp only [List.mem_cons, List.not_mem_nil, or_false] at h
    rcases h with rfl | rfl | rfl | rfl | rfl | rfl
    · exact ec_t_fill
    · exact ec_t_init
    · exact ec_o_init
    · exact ec_i_NoSuchElementException
    · exact ec_i_RuntimeException
    · exact ec_i_Exception
theorem e_in {x : Nat} (hx : x < 5) {w : Cond} (hw : w ∈ eAt x) : w ∈ lw_tbl ∧ (kW w = true ∨ eLs w = true) := by
  by_cases hc : eCo w = true
  · refine ⟨e_code x hx w hw hc, Or.inl ?_⟩
    cases w <;> first | rfl | (simp [eCo] at hc)
  · have h := List.all_eq_true.mp (e_rest x hx) w (List.mem_filter.mpr ⟨hw, by simpa using hc⟩)
    simp only [Bool.and_eq_true, Bool.or_eq_true, decide_eq_true_eq] at h
    exact ⟨List.mem_append_right _ h.1, h.2⟩
/-- what is kept of the law's start at every state -/
def Xs (s0 : State) (s : State) : Prop := s0.WarmedH s.vm ∧ (∀ q, q < s0.heap.size → s.heap[q]? = s0.heap[q]?) ∧ ∀ (a : Nat) (cell : Cell), s0.heap.size ≤ a → s.heap[a]? = some cell → cell.vm.isStatics = false
theorem Xs.step {s0 s U : State} {D : va_G} {dA : Nat → ClassId} {u : Mm} (hW : s.WarmedH U.vm) (hR : HR D dA s0.heap.size s0.heap u U.heap) (h : Xs s0 s) : Xs s0 U :=
  ⟨State.WarmedH.trans h.1 hW, hR.2.2.1, hR.2.2.2.2.2.2.2.2⟩
theorem ls_at {s0 s : State} {O f d : String} {A A' : Array Value} (hX : Xs s0 s) (h : (Cond.laysStatic O f d).before A s0 = true) : (Cond.laysStatic O f d).before A' s = true := by
  obtain ⟨c, k, i, fd, a, cell, hc, hf, hst, hsta, hcell, hiss, hcls, hlt, hty⟩ := Cond.laysStatic_spec h
  obtain ⟨k', hf1, he⟩ := State.fieldFound?_setVm hX.1.alike hf
  have hf' : s.fieldFound? O f d = some (c, k', i, fd) := hf1
  have hc' : s.vm.findClass O = some c := by rw [hX.1.alike.findClass]; exact hc
  have hcell' : s.heap[a]? = some cell := by rw [hX.2.1 a (Array.getElem?_eq_some_iff.mp hcell).1]; exact hcell
  have hsta' : k'.statics = some a := by rw [he]; exact hsta
  have hty' : k'.staticTypes[fd.slot]? = some fd.type := by rw [he]; exact hty
  simp [Cond.before, Cond.holds, Cond.value, hc', hf', hst, hsta', hcell', hiss, hcls, hlt, hty']
theorem rf_at {s0 s : State} {O f d : String} {A A' : Array Value} (hX : Xs s0 s) (h : (Cond.laysStatic O f d).before A s0 = true) (hr : (Cond.isRef (.static O f d)).before A s0 = true) : (Cond.isRef (.static O f d)).before A' s = true := by
  obtain ⟨c, k, i, fd, a, cell, hc, hf, hst, hsta, hcell, hiss, hcls, hlt, hty⟩ := Cond.laysStatic_spec h
  obtain ⟨v, hv⟩ := Cond.staticRefV hf hst hsta hcell hiss hr
  obtain ⟨k', hf1, he⟩ := State.fieldFound?_setVm hX.1.alike hf
  have hf' : s.fieldFound? O f d = some (c, k', i, fd) := hf1
  have hcell' : s.heap[a]? = some cell := by rw [hX.2.1 a (Array.getElem?_eq_some_iff.mp hcell).1]; exact hcell
  have hsta' : k'.statics = some a := by rw [he]; exact hsta
  have e1 : (Term.static O f d).eval A' s none [] s = some v.v := by
    simp [Term.eval, State.fieldNamed?, hf', hst, hsta', hcell', hiss, hv]
  obtain ⟨w, hw⟩ := v
  cases w <;> simp [Value.isRef] at hw <;> simp [Cond.before, Cond.holds, Cond.value, e1]
