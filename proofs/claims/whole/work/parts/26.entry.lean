/-! A method's entry; its ends; what is known where it stands. -/
theorem ent_lv : ∀ (as : List Vl) (off i : Nat) (v : Vl), (ent1 as).getD i none = some v → (off + i, tv v) ∈ lv_args off (as.map tv) := by
  intro as
  induction as with
  | nil => intro off i v h; simp [ent1] at h
  | cons a t ih =>
    intro off i v h
    unfold ent1 at h
    rw [List.map_cons]
    unfold lv_args
    by_cases hl : isLg (some a) = true
    · rw [if_pos hl] at h
      rw [if_pos (by rw [tv_cat]; exact isLg_cat.mp hl)]
      rcases i with _ | _ | i
      · simp at h
        subst h
        exact List.mem_cons_self
      · simp at h
      · refine List.mem_cons_of_mem _ ?_
        have := ih (off + 2) i v (by simpa using h)
        rw [show off + (i + 1 + 1) = off + 2 + i by omega]
        exact this
    · rw [if_neg hl] at h
      rw [if_neg (by rw [tv_cat, cat_1 hl]; decide)]
      rcases i with _ | i
      · simp at h
        subst h
        exact List.mem_cons_self
      · refine List.mem_cons_of_mem _ ?_
        have := ih (off + 1) i v (by simpa using h)
        rw [show off + (i + 1) = off + 1 + i by omega]
        exact this
theorem ent_ok : ∀ (as : List Vl) (i : Nat) (v : Vl), (ent1 as).getD i none = some v → v ∈ as := by
  intro as
  induction as with
  | nil => intro i v h; simp [ent1] at h
  | cons a t ih =>
    intro i v h
    unfold ent1 at h
    by_cases hl : isLg (some a) = true
    · rw [if_pos hl] at h
      rcases i with _ | _ | i
      · simp at h
        subst h
        exact List.mem_cons_self
      · simp at h
      · exact List.mem_cons_of_mem _ (ih i v (by simpa using h))
    · rw [if_neg hl] at h
      rcases i with _ | i
      · simp at h
        subst h
        exact List.mem_cons_self
      · exact List.mem_cons_of_mem _ (ih i v (by simpa using h))
theorem ent_len (as : List Vl) : (lg_sl (as.map tv)).length = (ent1 as).length := by
  induction as with
  | nil => rfl
  | cons a t ih =>
    unfold ent1
    rw [List.map_cons]
    have e : lg_sl (tv a :: t.map tv) = (if (tv a).category = 2 then [Slot.val (tv a), Slot.second] else [Slot.val (tv a)]) ++ lg_sl (t.map tv) := by simp [lg_sl]
    rw [e]
    by_cases hl : isLg (some a) = true
    · rw [if_pos hl, if_pos (by rw [tv_cat]; exact isLg_cat.mp hl)]
      simp [ih]
    · rw [if_neg hl, if_neg (by rw [tv_cat, cat_1 hl]; decide)]
      simp [ih]
theorem ent_gD {P : Pg} {y i : Nat} {as : List Vl} {v : Vl} (h : (ent P y as).getD i none = some v) : (ent1 as).getD i none = some v := by
  unfold ent at h
  rw [List.getD_eq_getElem?_getD] at h ⊢
  by_cases hi : i < (ent1 as).length
  · rw [List.getElem?_append_left hi] at h
    exact h
  · rw [List.getElem?_append_right (by omega), List.getElem?_replicate] at h
    split at h <;> simp at h
theorem ent_LR {P : Pg} {y : Nat} {as : List Vl} (hl : (ent1 as).length ≤ tMx y) (hv : ∀ v ∈ as, vok v) :
    LR ((lg_sl (as.map tv) ++ List.replicate (tMx y - (lg_sl (as.map tv)).length) Slot.unset).toArray) (tMx y) (ent P y as) := by
  have h := lv_entry (as.map tv) (n := tMx y) (by rw [ent_len]; exact hl)
  refine ⟨?_, h.1, h.2.1, fun i v hi => ?_, fun i v hi => hv v (ent_ok as i v (ent_gD hi))⟩
  · unfold ent
    rw [List.length_append, List.length_replicate]
    show (ent1 as).length + (tMx y - (ent1 as).length) = tMx y
    omega
  · have := h.2.2 (i, tv v) (by have := ent_lv as 0 i v (ent_gD hi); simpa using this)
    exact this
/-- where a method stands -/
def Cx (D : va_G) (dA : Nat → ClassId) (P : Pg) (p : Program) (s : State) (m : MethodId) (meth : Method) (c : Code) (j : Nat) : Prop :=
  p.tables.exec = Jvm.exec ∧ c.code = tBc j ∧ c.maxLocals = tMx j ∧ meth.sig.returnType = tRt j ∧ meth.locks = false ∧ s.vm.findClass (cNm (tOw j)) = some m.cls ∧ (tIni j = 1 → meth.name = "<init>") ∧ SK D dA P s ∧
  c.exceptionTable.toList.map (fun h => (h.startPc, h.endPc, h.handlerPc, h.catchType)) = hdL j
/-- an outcome -/
def Oc (dX : Nat → ClassId) (r : Rs) (o : Outcome) (t : State) : Prop := match r with
  | .inl v => o = .returned (v.map tv) ∧ ∀ w ∈ v.toList, vok w
  | .inr x => o = .threw x.2 ∧ x.1 < 5 ∧ ∃ cell : Cell, t.heap[x.2]? = some cell ∧ cell.cls = dX x.1 ∧ cell.vm = .none
def Fin (dX : Nat → ClassId) (D : va_G) (dA : Nat → ClassId) (h0 : Nat) (H0 : Heap) (s : State) (below : List Frame) (r : Rs) (u' : Mm) (mc ms : Nat) : State → Prop := fun t =>
  ∃ (o : Outcome) (L : List Loc), t.status = .running ∧ Ended t below o ∧ (Oc dX r o t ∧ HR D dA h0 H0 u' t.heap) ∧ FE s t L mc ms ∧ ∀ q ∈ L, h0 ≤ q.base
section FX
variable {p : Program} {l : Launch} {e : Env} {R : Room} {s : State} {m : MethodId} {args : Array Value} {below : List Frame} {meth : Method} {c : Code}
variable {dX : Nat → ClassId} {D : va_G} {dA : Nat → ClassId} {h0 : Nat} {H0 : Heap} {u : Mm} {H : Heap} {locs : List Loc} {cells slots : Nat}
theorem fin_of {v : Option Vl} {g : JFrame} (hv : ∀ w ∈ v.toList, vok w) (hR : HR D dA h0 H0 u H) (k : W p l e R s m args below meth c H locs cells slots (MQ below (fun _ _ o t => o = .returned (v.map tv) ∧ t.heap = H) args s cells slots (fun q => h0 ≤ q)) g) :
    W p l e R s m args below meth c H locs cells slots (Fin dX D dA h0 H0 s below (.inl v) u cells slots) g := by
  refine k.mono fun t ht => ?_
  obtain ⟨o, h1, h2, ⟨h3, h4⟩, L, ⟨h5, h6, h7⟩, h8⟩ := ht
  exact ⟨o, L, h1, h2, ⟨⟨h3, hv⟩, by rw [h4]; exact hR⟩, ⟨h6, h7⟩, h8⟩
theorem rk_ty {t : Option FieldType} : (rk t = 0 → t = none) ∧ (rk t = 1 → t = some .int) ∧ (rk t = 2 → t = some .boolean) ∧ (rk t = 3 → t = some .char) ∧ (rk t = 4 → t = some .long) ∧ (rk t = 5 → (∃ n, t = some (.object n)) ∨ ∃ a, t = some (.array a)) ∧ (rk t = 6 → t = some .byte) := by
  refine ⟨fun h => ?_, fun h => ?_, fun h => ?_, fun h => ?_, fun h => ?_, fun h => ?_, fun h => ?_⟩ <;> (rcases t with _ | t) <;> (try cases t) <;> first | rfl | (exact Or.inl ⟨_, rfl⟩) | (exact Or.inr ⟨_, rfl⟩) | (simp [rk] at h)
theorem rt_ok {j : Nat} {i : Instr} {st : List Vl} {r : Option Vl} (hr : rt j i st = some r) (hst : ∀ v ∈ st, vok v) : ∀ w ∈ r.toList, vok w := by
  cases i <;> simp only [rt] at hr <;> (try cases hr)
  all_goals (split at hr)
  all_goals (first | (cases hr; done) | (split at hr))
  all_goals (first | (cases hr; intro w hw; simp at hw; try (subst hw); first | trivial | exact hst _ List.mem_cons_self) | cases hr)
/-- a method's end -/
theorem fin_ret {P : Pg} {j n pc : Nat} {i : Instr} {st : List Vl} {a : Array Slot} {r : Option Vl} (C : Cx D dA P p s m meth c j) (hd : decode (tBc j) pc = .ok (i, n)) (hn : iln i n = true) (hr : rt j i st = some r) (hR : HR D dA h0 H0 u H) (hl : ∀ q ∈ locs, h0 ≤ q.base) (hst : ∀ v ∈ st, vok v) :
    W p l e R s m args below meth c H locs cells slots (Fin dX D dA h0 H0 s below (.inl r) u cells slots) (F0 m pc a (st.map tv)) := by
  obtain ⟨hx, hb, -, hret, hlocks, -⟩ := C
  refine fin_of (rt_ok hr hst) hR ?_
  cases i
  case return_ =>
    have e1 : n = 1 := by simpa [iln] using hn
    subst e1
    unfold rt at hr
    simp only at hr
    split at hr
    · split at hr
      · rename_i hk
        cases hr
        exact W.vret hx hb (hret.trans (rk_ty.1 hk)) (fun t ht _ => ⟨rfl, ht⟩) hl hd hlocks
      · cases hr
    · cases hr
  case ireturn =>
    have e1 : n = 1 := by simpa [iln] using hn
    subst e1
    unfold rt at hr
    simp only at hr
    split at hr
    · rename_i x
      have hxr : inR x := hst _ List.mem_cons_self
      split at hr
      · rename_i hk
        cases hr
        rcases hk with hk | ⟨hk, h01⟩ | ⟨hk, h01⟩ | ⟨hk, h01⟩
        · exact W.iret hx hb (hret.trans (rk_ty.2.1 hk)) (fun t ht _ => ⟨rfl, ht⟩) hl hd hlocks
        · exact W.zret hx hb (hret.trans (rk_ty.2.2.1 hk)) (fit_bool h01).1 (fun t ht _ => ⟨rfl, ht⟩) hl hd hlocks
        · exact W.zret hx hb (hret.trans (rk_ty.2.2.2.1 hk)) (by rw [nar_char hxr, Int.emod_eq_of_lt h01.1 h01.2]) (fun t ht _ => ⟨rfl, ht⟩) hl hd hlocks
        · subst h01
          exact W.zret hx hb (hret.trans (rk_ty.2.2.2.2.2.2 hk)) (by decide) (fun t ht _ => ⟨rfl, ht⟩) hl hd hlocks
      · cases hr
    · cases hr
  case lreturn =>
    have e1 : n = 1 := by simpa [iln] using hn
    subst e1
    unfold rt at hr
    simp only at hr
    split at hr
    · split at hr
      · rename_i hk
        cases hr
        exact W.lret hx hb (hret.trans (rk_ty.2.2.2.2.1 hk)) (fun t ht _ => ⟨rfl, ht⟩) hl hd hlocks
      · cases hr
    · cases hr
  case areturn =>
    have e1 : n = 1 := by simpa [iln] using hn
    subst e1
    unfold rt at hr
    simp only at hr
    split at hr
    · rename_i b
      split at hr
      · rename_i hk
        cases hr
        rcases rk_ty.2.2.2.2.2.1 hk with ⟨nm, he⟩ | ⟨ty, he⟩
        · exact W.aret hx hb (hret.trans he) (Or.inl ⟨_, rfl⟩) (Or.inr ⟨b, rfl⟩) (fun t ht _ => ⟨rfl, ht⟩) hl hd hlocks
        · exact W.aret hx hb (hret.trans he) (Or.inr ⟨_, rfl⟩) (Or.inr ⟨b, rfl⟩) (fun t ht _ => ⟨rfl, ht⟩) hl hd hlocks
      · cases hr
    · cases hr
  all_goals (simp [rt] at hr)
end FX
