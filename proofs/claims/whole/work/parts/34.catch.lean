/-! An exception caught: the rows of the table one behind another, each class looked up as it comes. -/
def hdC (j : Nat) : Bool := ((hdL j).length == (tHs j).length) && ((hdL j).zip (tHs j)).all fun q => (q.1.1 == q.2.1) && (q.1.2.1 == q.2.2.1) && (q.1.2.2.1 == q.2.2.2.1) && (q.1.2.2.2 != 0) && decide (q.2.2.2.2 < 5) && decide (Cond.classLink "MovingBoxesLaw" q.1.2.2.2 (eN q.2.2.2.2) ∈ tables_1)
theorem hd_all : ∀ j, j < 179 → hdC j = true := by decide +kernel
theorem hs_law : ∀ j, j < 179 → tHs j ≠ [] → tOw j = 9 := by decide +kernel
def al (s : State) : List ExceptionTableEntry → List (Nat × (Nat × (Nat × Nat))) → Prop
  | [], [] => True
  | y :: t, r :: hs => (y.startPc = r.1 ∧ y.endPc = r.2.1 ∧ y.handlerPc = r.2.2.1 ∧ y.catchType ≠ 0 ∧ r.2.2.2 < 5 ∧ (Cond.classLink "MovingBoxesLaw" y.catchType (eN r.2.2.2)).before #[] s = true) ∧ al s t hs
  | _, _ => False
theorem al_of {D : va_G} {dA : Nat → ClassId} {P : Pg} {s : State} (hK : SK D dA P s) : ∀ (t : List ExceptionTableEntry) (hd : List (Nat × Nat × Nat × Nat)) (hs : List (Nat × (Nat × (Nat × Nat)))), t.map (fun h => (h.startPc, h.endPc, h.handlerPc, h.catchType)) = hd → hd.length = hs.length →
    (hd.zip hs).all (fun q => (q.1.1 == q.2.1) && (q.1.2.1 == q.2.2.1) && (q.1.2.2.1 == q.2.2.2.1) && (q.1.2.2.2 != 0) && decide (q.2.2.2.2 < 5) && decide (Cond.classLink "MovingBoxesLaw" q.1.2.2.2 (eN q.2.2.2.2) ∈ tables_1)) = true → al s t hs := by
  intro t
  induction t with
  | nil =>
    intro hd hs h1 h2 h3
    subst h1
    cases hs with
    | nil => trivial
    | cons r hs => simp at h2
  | cons y t ih =>
    intro hd hs h1 h2 h3
    subst h1
    cases hs with
    | nil => simp at h2
    | cons r hs =>
      rw [List.map_cons, List.zip_cons_cons, List.all_cons, Bool.and_eq_true] at h3
      refine ⟨?_, ih _ hs rfl (by simpa using h2) h3.2⟩
      have h4 := h3.1
      simp only [Bool.and_eq_true, beq_iff_eq, bne_iff_ne, decide_eq_true_eq] at h4
      obtain ⟨⟨⟨⟨⟨a1, a2⟩, a3⟩, a4⟩, a5⟩, a6⟩ := h4
      exact ⟨a1, a2, a3, a4, a5, hK.w (List.mem_append_right _ a6) rfl _⟩
section CT
theorem goC {e : Env} {s : State} {f : JFrame} {a : Addr} {cell : Cell} {dX : Nat → ClassId} {x : Nat} (hpl : e.platform.magicAccessors = ({} : Platform).magicAccessors) (hown : s.vm.findClass "MovingBoxesLaw" = some f.method.cls) (hobj : ∀ k, cell.vm ≠ .statics k) (hx5 : x < 5) (hcx : cell.cls = dX x)
    (hCA : ∀ y, y < 5 → ClassAt s (eN y) (dX y)) (hno : ∀ y, y < 5 → x ≠ y → s.vm.assignable (dX x) (dX y) = false) :
    ∀ (t : List ExceptionTableEntry) (hs : List (Nat × (Nat × (Nat × Nat)))) (hp : Nat) (V : State), al s t hs → hnd f.pc x hs = some hp → s.WarmedH V.vm → V.heap[a]? = some cell →
      ∃ vm', s.WarmedH vm' ∧ ∀ (Q : Handler → Pre) (E : CtlPost) (d : Bool) (acts : List Action), wp (findHandler.go f a t) Q E e d acts V ↔ Q (.found hp) d acts (V.setVm vm') := by
  intro t
  induction t with
  | nil =>
    intro hs hp V hal hh hW hcell
    cases hs with
    | nil => cases hh
    | cons r hs => exact hal.elim
  | cons y t ih =>
    intro hs hp V hal hh hW hcell
    cases hs with
    | nil => exact hal.elim
    | cons r hs =>
      obtain ⟨a0, b0, h1, ek⟩ := r
      obtain ⟨⟨e1, e2, e3, h0, he5, hlk⟩, hal⟩ := hal
      simp only at e1 e2 e3 he5 hlk
      unfold hnd at hh
      by_cases hcov : a0 ≤ f.pc ∧ f.pc < b0
      · have hc1 : (decide (y.startPc ≤ f.pc) && decide (f.pc < y.endPc)) = true := by rw [e1, e2]; simp [hcov]
        obtain ⟨c', hc', hcl⟩ := Cond.classLink_spec hown hlk e.platform hpl
        have hcc : c' = dX ek := Option.some.inj (hc'.symm.trans (hCA ek he5).1)
        subst hcc
        obtain ⟨dk, _, _, kt, hd, _, _, _, _, hkt, _, hopen⟩ := hcl.here
        have hcl₀ := hW.classLinks hcl
        have hW' : s.WarmedH (V.vm.noted f.method.cls y.catchType (.cls (dX ek))) := hW.noted hd hopen (State.rightAt_cls hcl)
        obtain ⟨ha, ht⟩ := (resolveClass_links e.toSetting hcl₀).op (op := VmOp.resolveClass f.method.cls y.catchType) rfl
        have hal2 : V.vm.Alike (V.vm.noted f.method.cls y.catchType (.cls (dX ek))) := (Vm.Alike.refl V.vm).noted _ _ _
        obtain ⟨-, kx, hkx, -⟩ := hCA x hx5
        obtain ⟨k1, hk1, -⟩ := hW'.alike.2.2 _ _ hkx
        obtain ⟨k2, hk2, -⟩ := hW'.alike.2.2 _ _ hkt
        rw [← hcx] at hk1
        by_cases hek : ek = x
        · subst hek
          rw [if_pos ⟨hcov.1, hcov.2, rfl⟩] at hh
          cases hh
          have hfit : (V.vm.noted f.method.cls y.catchType (.cls (dX ek))).assignable cell.cls (dX ek) = true := by
            rw [hW'.alike.assignable, hcx]
            exact va_assign (hCA ek he5)
          refine ⟨_, hW', fun Q E d acts => ?_⟩
          simp [findHandler.go, hc1, h0, ha, ht, hcell, hobj, hk1, hk2, hfit, VmOp.dirties, VmOp.acts, e3]
        · rw [if_neg (fun q => hek q.2.2)] at hh
          have hfit : (V.vm.noted f.method.cls y.catchType (.cls (dX ek))).assignable cell.cls (dX ek) = false := by
            rw [hW'.alike.assignable, hcx]
            exact hno ek he5 (fun q => hek q.symm)
          obtain ⟨vm', hW2, hq⟩ := ih hs hp (V.setVm (V.vm.noted f.method.cls y.catchType (.cls (dX ek)))) hal hh hW' hcell
          refine ⟨vm', hW2, fun Q E d acts => ?_⟩
          have h9 := hq Q E d acts
          rw [← (show (V.setVm (V.vm.noted f.method.cls y.catchType (.cls (dX ek)))).setVm vm' = V.setVm vm' from rfl)]
          rw [← h9]
          simp [findHandler.go, hc1, h0, ha, ht, hcell, hobj, hk1, hk2, hfit, VmOp.dirties, VmOp.acts]
      · rw [if_neg (fun q => hcov ⟨q.1, q.2.1⟩)] at hh
        have hc1 : covers y f.pc = false := by
          simp only [covers, e1, e2]
          rw [Bool.and_eq_false_iff]
          by_cases h5 : a0 ≤ f.pc
          · exact Or.inr (by simpa using fun q => hcov ⟨h5, q⟩)
          · exact Or.inl (by simpa using h5)
        obtain ⟨vm', hW2, hq⟩ := ih hs hp V hal hh hW hcell
        refine ⟨vm', hW2, fun Q E d acts => ?_⟩
        rw [Jvm.W.findHandler_go_skip hc1]
        exact hq Q E d acts
theorem catch_ok {l : Launch} {dX : Nat → ClassId} {D : va_G} {dA : Nat → ClassId} {P : Pg} {s0 : State} (hE : E0 dX s0) : CatchS l dX D dA P s0.heap.size s0.heap (Xs s0) := by
  intro p e R s m args below meth c T locs cells slots j pc hp x a rest u X C hX hj hR hh hx5 hcl
  obtain ⟨cell, hcell, hcls, hvm⟩ := hcl
  obtain ⟨hx, hb, hml, -, hlocks, hown, -, hK, hxt⟩ := C
  have hne : tHs j ≠ [] := by
    intro h
    rw [h] at hh
    cases hh
  have hcd := hd_all j hj
  unfold hdC at hcd
  rw [Bool.and_eq_true] at hcd
  have hal := al_of hK c.exceptionTable.toList (hdL j) (tHs j) hxt (by simpa using hcd.1) hcd.2
  have hown' : s.vm.findClass "MovingBoxesLaw" = some m.cls := by
    have h9 : cNm (tOw j) = "MovingBoxesLaw" := by rw [hs_law j hj hne]; rfl
    rw [← h9]; exact hown
  have hpl : e.platform.magicAccessors = ({} : Platform).magicAccessors := by rw [X.admits.platform]
  obtain ⟨vm', hW', hq⟩ := goC (e := e) (s := s) (f := F0 m pc a rest) (a := x.2) (cell := cell) (dX := dX) (x := x.1) hpl hown' (fun k h => by rw [hvm] at h; cases h) hx5 hcls (fun y hy => classAt_moved hX.1.alike (hE.2.2.2.1 y hy)) (fun y hy hne => by rw [hX.1.alike.assignable]; exact hE.2.2.2.2 x.1 y hx5 hy hne)
    c.exceptionTable.toList (tHs j) hp ((T.setTop (F0 m pc a rest)).pushFrame (.throwing x.2)) hal hh X.warmed hcell
  refine ⟨vm', X.noted hW', fun target hrest => ?_⟩
  have hfind : ∀ (Q : Handler → Pre) (E : CtlPost) (d : Bool) (acts : List Action), wp (findHandler (F0 m pc a rest) x.2) Q E e d acts ((T.setTop (F0 m pc a rest)).pushFrame (.throwing x.2)) ↔ Q (.found hp) d acts (((T.setTop (F0 m pc a rest)).pushFrame (.throwing x.2)).setVm vm') := by
    intro Q E d acts
    rw [Jvm.W.findHandler_eq (s := (T.setTop (F0 m pc a rest)).pushFrame (.throwing x.2)) (f := F0 m pc a rest) X.method' X.code]
    exact hq Q E d acts
  have h := X.here
  have hhere : At T (F0 m pc a rest).method c below := h
  obtain ⟨hgo, hw⟩ := hhere.throwing x.2
  refine Steps.head hgo hw ?_
  have hstep : (stepThrowing e ((T.setTop (F0 m pc a rest)).pushFrame (.throwing x.2)) x.2 (.java (F0 m pc a rest) :: T.frames.tail)).1 = (((T.setTop (F0 m pc a rest)).pushFrame (.throwing x.2)).setVm vm').setFrames (.java { (F0 m pc a rest) with pc := hp, stack := [.ref x.2] } :: T.frames.tail) := by
    simp only [stepThrowing, searchFrame, vmDo]
    generalize hr : Sem.go _ e false [] ((T.setTop (F0 m pc a rest)).pushFrame (.throwing x.2)) = res
    obtain ⟨as, rfl, ha⟩ := Sem.eq_ok_of hr (a := Handler.found hp) (s' := ((T.setTop (F0 m pc a rest)).pushFrame (.throwing x.2)).setVm vm') (acts' := []) (by simp [hfind _ _ _ _])
    rfl
  rw [stepThread_throwing (frames_entered h.top _), hstep]
  obtain ⟨g₀, hg⟩ := Option.isSome_iff_exists.mp h.top
  obtain ⟨r, hr⟩ := State.topJava?_eq_some.mp hg
  have hr' : (T.setVm vm').frames = .java g₀ :: r := hr
  rw [State.setTop_of_frames _ hr'] at hrest
  have e1 : ((T.setTop (F0 m pc a rest)).pushFrame (.throwing x.2)).setVm vm' = (T.setVm vm').setFrames (.throwing x.2 :: (T.setTop (F0 m pc a rest)).frames) := by
    rw [State.setTop_of_frames _ hr]
    rw [State.pushFrame, State.setFrames_setFrames]
    rfl
  rw [e1, State.setFrames_setFrames, hr, List.tail_cons]
  exact hrest
end CT
