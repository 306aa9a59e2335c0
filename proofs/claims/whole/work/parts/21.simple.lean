/-! Instructions that leave the heap alone: the small machine's step is the JVM's. Written by wip/whole/gen/mk21.py. -/
theorem goS_some {n pc pc' : Nat} {ls ls' : Ls} {u u' : Mm} {o : Option (List Vl)} {st' : List Vl} (h : goS n pc ls u o = some ((pc', (ls', st')), u')) : o = some st' ∧ pc' = pc + n ∧ ls' = ls ∧ u' = u := by
  cases o with
  | none => cases h
  | some q => cases h; exact ⟨rfl, rfl, rfl, rfl⟩
theorem goL_some {n pc pc' : Nat} {ls' : Ls} {st st' : List Vl} {u u' : Mm} {o : Option Ls} (h : goL n pc st u o = some ((pc', (ls', st')), u')) : o = some ls' ∧ pc' = pc + n ∧ st' = st ∧ u' = u := by
  cases o with
  | none => cases h
  | some q => cases h; exact ⟨rfl, rfl, rfl, rfl⟩
theorem goP_some {pc' : Nat} {ls ls' : Ls} {st st' : List Vl} {u u' : Mm} {o : Option Nat} (h : goP ls st u o = some ((pc', (ls', st')), u')) : o = some pc' ∧ ls' = ls ∧ st' = st ∧ u' = u := by
  cases o with
  | none => cases h
  | some q => cases h; exact ⟨rfl, rfl, rfl, rfl⟩
theorem tgt_some {pc t : Nat} {off : Int} (h : tgt pc off = some t) : (pc : Int) + off = (t : Int) := by
  unfold tgt at h
  split at h
  · cases h; omega
  · cases h
theorem kI2_some {f : Int → Int → Int} {st st' : List Vl} (h : kI2 f st = some st') : ∃ x y r, st = vI y :: vI x :: r ∧ st' = vI (f x y) :: r := by
  unfold kI2 at h
  split at h
  · cases h; exact ⟨_, _, _, rfl, rfl⟩
  · cases h
theorem kL2_some {f : Int64 → Int64 → Int64} {st st' : List Vl} (h : kL2 f st = some st') : ∃ x y r, st = vL y :: vL x :: r ∧ st' = vL (f x y) :: r := by
  unfold kL2 at h
  split at h
  · cases h; exact ⟨_, _, _, rfl, rfl⟩
  · cases h
theorem kLI_some {f : Int64 → Int32 → Int64} {st st' : List Vl} (h : kLI f st = some st') : ∃ x y r, st = vI y :: vL x :: r ∧ st' = vL (f x (Int32.ofInt y)) :: r := by
  unfold kLI at h
  split at h
  · cases h; exact ⟨_, _, _, rfl, rfl⟩
  · cases h
theorem kLc_some {st st' : List Vl} (h : kLc st = some st') : ∃ x y r, st = vL y :: vL x :: r ∧ st' = vI (lg_cmp x y).toInt :: r := by
  unfold kLc at h
  split at h
  · cases h; exact ⟨_, _, _, rfl, rfl⟩
  · cases h
theorem kI1_some {f : Int → Int} {st st' : List Vl} (h : kI1 f st = some st') : ∃ x r, st = vI x :: r ∧ st' = vI (f x) :: r := by
  unfold kI1 at h
  split at h
  · cases h; exact ⟨_, _, rfl, rfl⟩
  · cases h
theorem kIL_some {st st' : List Vl} (h : kIL st = some st') : ∃ x r, st = vI x :: r ∧ st' = vL (Int32.ofInt x).toInt64 :: r := by
  unfold kIL at h
  split at h
  · cases h; exact ⟨_, _, rfl, rfl⟩
  · cases h
theorem kLi_some {st st' : List Vl} (h : kLi st = some st') : ∃ x r, st = vL x :: r ∧ st' = vI x.toInt32.toInt :: r := by
  unfold kLi at h
  split at h
  · cases h; exact ⟨_, _, rfl, rfl⟩
  · cases h
theorem kLd_some {t i : Nat} {ls : Ls} {st st' : List Vl} (h : kLd t ls i st = some st') : ∃ v, ls.getD i none = some v ∧ vty v = t ∧ st' = v :: st := by
  unfold kLd at h
  cases hv : ls.getD i none with
  | none => rw [hv] at h; cases h
  | some v =>
    rw [hv] at h
    simp only at h
    by_cases ht : vty v = t
    · rw [if_pos ht] at h; cases h; exact ⟨v, rfl, ht, rfl⟩
    · rw [if_neg ht] at h; cases h
theorem kSt_some {t i n pc pc' : Nat} {ls ls' : Ls} {st st' : List Vl} {u u' : Mm} (h : kSt t ls i n pc u st = some ((pc', (ls', st')), u')) : ∃ v, st = v :: st' ∧ vty v = t ∧ lPut ls i v = some ls' ∧ pc' = pc + n ∧ u' = u := by
  unfold kSt at h
  split at h
  · rename_i v r
    by_cases ht : vty v = t
    · rw [if_pos ht] at h
      obtain ⟨h1, h2, h3, h4⟩ := goL_some h
      subst h3
      exact ⟨v, rfl, ht, h1, h2, h4⟩
    · rw [if_neg ht] at h; cases h
  · cases h
theorem vty_0 {v : Vl} (h : vty v = 0) : ∃ x, v = vI x := by
  rcases v with x | x | x
  · exact ⟨x, rfl⟩
  · cases h
  · cases h
theorem vty_1 {v : Vl} (h : vty v = 1) : ∃ x, v = vL x := by
  rcases v with x | x | x
  · cases h
  · exact ⟨x, rfl⟩
  · cases h
theorem vty_2 {v : Vl} (h : vty v = 2) : ∃ x, v = vF x := by
  rcases v with x | x | x
  · cases h
  · cases h
  · exact ⟨x, rfl⟩
theorem kDup_some {st st' : List Vl} (h : kDup st = some st') : ∃ v r, st = v :: r ∧ cat v = 1 ∧ st' = v :: v :: r := by
  unfold kDup at h
  split at h
  · split at h
    · cases h; exact ⟨_, _, rfl, by assumption, rfl⟩
    · cases h
  · cases h
theorem kPop_some {st st' : List Vl} (h : kPop st = some st') : ∃ v, st = v :: st' ∧ cat v = 1 := by
  unfold kPop at h
  split at h
  · split at h
    · cases h; exact ⟨_, rfl, by assumption⟩
    · cases h
  · cases h
theorem kDx1_some {st st' : List Vl} (h : kDx1 st = some st') : ∃ v w r, st = v :: w :: r ∧ cat v = 1 ∧ cat w = 1 ∧ st' = v :: w :: v :: r := by
  unfold kDx1 at h
  split at h
  · split at h
    · rename_i hc; cases h; exact ⟨_, _, _, rfl, hc.1, hc.2, rfl⟩
    · cases h
  · cases h
theorem kDx2_some {st st' : List Vl} (h : kDx2 st = some st') : ∃ v w x r, st = v :: w :: x :: r ∧ cat v = 1 ∧ cat w = 1 ∧ cat x = 1 ∧ st' = v :: w :: x :: v :: r := by
  unfold kDx2 at h
  split at h
  · split at h
    · rename_i hc; cases h; exact ⟨_, _, _, _, rfl, hc.1, hc.2.1, hc.2.2, rfl⟩
    · cases h
  · cases h
theorem kD2_some {st st' : List Vl} (h : kD2 st = some st') : ∃ v w r, st = v :: w :: r ∧ cat v = 1 ∧ cat w = 1 ∧ st' = v :: w :: v :: w :: r := by
  unfold kD2 at h
  split at h
  · split at h
    · rename_i hc; cases h; exact ⟨_, _, _, rfl, hc.1, hc.2, rfl⟩
    · cases h
  · cases h
theorem tc_1 {v : Vl} (h : cat v = 1) : (tv v).category = 1 := by rw [tv_cat, h]
section SX
variable {p : Program} {l : Launch} {e : Env} {R : Room} {s : State} {m : MethodId} {args : Array Value} {below : List Frame} {meth : Method} {c : Code} {cc : ByteArray}
/-- a step that leaves the memory, and the JVM's heap, alone -/
def Sx (p : Program) (l : Launch) (e : Env) (R : Room) (s : State) (m : MethodId) (args : Array Value) (below : List Frame) (meth : Method) (c : Code) (nL pc : Nat) (a : Array Slot) (st : List Vl) (u : Mm) (pc' : Nat) (ls' : Ls) (st' : List Vl) (u' : Mm) : Prop :=
  u' = u ∧ (∀ v ∈ st', vok v) ∧ ∀ (H : Heap) (locs : List Loc) (cells slots : Nat) (Q : State → Prop), (∀ a', LR a' nL ls' → W p l e R s m args below meth c H locs cells slots Q (F0 m pc' a' (st'.map tv))) → W p l e R s m args below meth c H locs cells slots Q (F0 m pc a (st.map tv))
variable {P : Pg} {j n pc pc' nL : Nat} {a : Array Slot} {ls ls' : Ls} {st st' : List Vl} {u u' : Mm} (hx : p.tables.exec = Jvm.exec) (hb : c.code = cc) (hL : LR a nL ls) (hst : ∀ v ∈ st, vok v)
theorem sx_iconst {x : Int} (hx : p.tables.exec = Jvm.exec) (hb : c.code = cc) (hL : LR a nL ls) (hst : ∀ v ∈ st, vok v) (hd : decode cc pc = .ok (.iconst x, 1)) (hs : stp P j (.iconst x) 1 pc ls st u = some ((pc', (ls', st')), u')) : Sx p l e R s m args below meth c nL pc a st u pc' ls' st' u' := by
  simp only [stp] at hs
  obtain ⟨h1, rfl, rfl, rfl⟩ := goS_some hs
  cases h1
  refine ⟨rfl, List.forall_mem_cons.mpr ⟨wr_inR x, hst⟩, fun H locs cells slots Q k => lv_iconst hx hb hd rfl ?_⟩
  have := k a hL
  simpa only [List.map_cons, tv, ofI_wr] using this
theorem sx_bipush {x : Int} (hx : p.tables.exec = Jvm.exec) (hb : c.code = cc) (hL : LR a nL ls) (hst : ∀ v ∈ st, vok v) (hd : decode cc pc = .ok (.bipush x, 2)) (hs : stp P j (.bipush x) 2 pc ls st u = some ((pc', (ls', st')), u')) : Sx p l e R s m args below meth c nL pc a st u pc' ls' st' u' := by
  simp only [stp] at hs
  obtain ⟨h1, rfl, rfl, rfl⟩ := goS_some hs
  cases h1
  refine ⟨rfl, List.forall_mem_cons.mpr ⟨i32_inR _, hst⟩, fun H locs cells slots Q k => lv_bipush hx hb hd rfl ?_⟩
  have := k a hL
  simpa only [List.map_cons, tv, ofI_t] using this
theorem sx_sipush {x : Int} (hx : p.tables.exec = Jvm.exec) (hb : c.code = cc) (hL : LR a nL ls) (hst : ∀ v ∈ st, vok v) (hd : decode cc pc = .ok (.sipush x, 3)) (hs : stp P j (.sipush x) 3 pc ls st u = some ((pc', (ls', st')), u')) : Sx p l e R s m args below meth c nL pc a st u pc' ls' st' u' := by
  simp only [stp] at hs
  obtain ⟨h1, rfl, rfl, rfl⟩ := goS_some hs
  cases h1
  refine ⟨rfl, List.forall_mem_cons.mpr ⟨i32_inR _, hst⟩, fun H locs cells slots Q k => lv_sipush hx hb hd rfl ?_⟩
  have := k a hL
  simpa only [List.map_cons, tv, ofI_t] using this
theorem sx_lconst {x : Fin 2} (hx : p.tables.exec = Jvm.exec) (hb : c.code = cc) (hL : LR a nL ls) (hst : ∀ v ∈ st, vok v) (hd : decode cc pc = .ok (.lconst x, 1)) (hs : stp P j (.lconst x) 1 pc ls st u = some ((pc', (ls', st')), u')) : Sx p l e R s m args below meth c nL pc a st u pc' ls' st' u' := by
  simp only [stp] at hs
  obtain ⟨h1, rfl, rfl, rfl⟩ := goS_some hs
  cases h1
  exact ⟨rfl, List.forall_mem_cons.mpr ⟨trivial, hst⟩, fun H locs cells slots Q k => lv_lconst hx hb hd rfl (k a hL)⟩
theorem sx_iload {x : Nat} (hx : p.tables.exec = Jvm.exec) (hb : c.code = cc) (hL : LR a nL ls) (hst : ∀ v ∈ st, vok v) (hd : decode cc pc = .ok (.iload x, 2)) (hs : stp P j (.iload x) 2 pc ls st u = some ((pc', (ls', st')), u')) : Sx p l e R s m args below meth c nL pc a st u pc' ls' st' u' := by
  obtain ⟨h1, rfl, rfl, rfl⟩ := goS_some hs
  obtain ⟨v, h2, h3, rfl⟩ := kLd_some h1
  obtain ⟨y, rfl⟩ := vty_0 h3
  exact ⟨rfl, List.forall_mem_cons.mpr ⟨hL.2.2.2.2 _ _ h2, hst⟩, fun H locs cells slots Q k => lv_iload hx hb hd (hL.2.2.2.1 _ _ h2) (k a hL)⟩
theorem sx_iload_n {x : Fin 4} (hx : p.tables.exec = Jvm.exec) (hb : c.code = cc) (hL : LR a nL ls) (hst : ∀ v ∈ st, vok v) (hd : decode cc pc = .ok (.iload_n x, 1)) (hs : stp P j (.iload_n x) 1 pc ls st u = some ((pc', (ls', st')), u')) : Sx p l e R s m args below meth c nL pc a st u pc' ls' st' u' := by
  obtain ⟨h1, rfl, rfl, rfl⟩ := goS_some hs
  obtain ⟨v, h2, h3, rfl⟩ := kLd_some h1
  obtain ⟨y, rfl⟩ := vty_0 h3
  exact ⟨rfl, List.forall_mem_cons.mpr ⟨hL.2.2.2.2 _ _ h2, hst⟩, fun H locs cells slots Q k => lv_iload_n hx hb hd rfl (hL.2.2.2.1 _ _ h2) (k a hL)⟩
theorem sx_lload {x : Nat} (hx : p.tables.exec = Jvm.exec) (hb : c.code = cc) (hL : LR a nL ls) (hst : ∀ v ∈ st, vok v) (hd : decode cc pc = .ok (.lload x, 2)) (hs : stp P j (.lload x) 2 pc ls st u = some ((pc', (ls', st')), u')) : Sx p l e R s m args below meth c nL pc a st u pc' ls' st' u' := by
  obtain ⟨h1, rfl, rfl, rfl⟩ := goS_some hs
  obtain ⟨v, h2, h3, rfl⟩ := kLd_some h1
  obtain ⟨y, rfl⟩ := vty_1 h3
  exact ⟨rfl, List.forall_mem_cons.mpr ⟨hL.2.2.2.2 _ _ h2, hst⟩, fun H locs cells slots Q k => lv_lload hx hb hd (hL.2.2.2.1 _ _ h2) (k a hL)⟩
theorem sx_lload_n {x : Fin 4} (hx : p.tables.exec = Jvm.exec) (hb : c.code = cc) (hL : LR a nL ls) (hst : ∀ v ∈ st, vok v) (hd : decode cc pc = .ok (.lload_n x, 1)) (hs : stp P j (.lload_n x) 1 pc ls st u = some ((pc', (ls', st')), u')) : Sx p l e R s m args below meth c nL pc a st u pc' ls' st' u' := by
  obtain ⟨h1, rfl, rfl, rfl⟩ := goS_some hs
  obtain ⟨v, h2, h3, rfl⟩ := kLd_some h1
  obtain ⟨y, rfl⟩ := vty_1 h3
  exact ⟨rfl, List.forall_mem_cons.mpr ⟨hL.2.2.2.2 _ _ h2, hst⟩, fun H locs cells slots Q k => lv_lload_n hx hb hd rfl (hL.2.2.2.1 _ _ h2) (k a hL)⟩
theorem sx_aload {x : Nat} (hx : p.tables.exec = Jvm.exec) (hb : c.code = cc) (hL : LR a nL ls) (hst : ∀ v ∈ st, vok v) (hd : decode cc pc = .ok (.aload x, 2)) (hs : stp P j (.aload x) 2 pc ls st u = some ((pc', (ls', st')), u')) : Sx p l e R s m args below meth c nL pc a st u pc' ls' st' u' := by
  obtain ⟨h1, rfl, rfl, rfl⟩ := goS_some hs
  obtain ⟨v, h2, h3, rfl⟩ := kLd_some h1
  obtain ⟨y, rfl⟩ := vty_2 h3
  refine ⟨rfl, List.forall_mem_cons.mpr ⟨hL.2.2.2.2 _ _ h2, hst⟩, fun H locs cells slots Q k => ?_⟩
  cases y with
  | none => exact lv_aloadN hx hb hd (hL.2.2.2.1 _ _ h2) (k a hL)
  | some y => exact lv_aload hx hb hd (hL.2.2.2.1 _ _ h2) (k a hL)
theorem sx_aload_n {x : Fin 4} (hx : p.tables.exec = Jvm.exec) (hb : c.code = cc) (hL : LR a nL ls) (hst : ∀ v ∈ st, vok v) (hd : decode cc pc = .ok (.aload_n x, 1)) (hs : stp P j (.aload_n x) 1 pc ls st u = some ((pc', (ls', st')), u')) : Sx p l e R s m args below meth c nL pc a st u pc' ls' st' u' := by
  obtain ⟨h1, rfl, rfl, rfl⟩ := goS_some hs
  obtain ⟨v, h2, h3, rfl⟩ := kLd_some h1
  obtain ⟨y, rfl⟩ := vty_2 h3
  refine ⟨rfl, List.forall_mem_cons.mpr ⟨hL.2.2.2.2 _ _ h2, hst⟩, fun H locs cells slots Q k => ?_⟩
  cases y with
  | none => exact lv_aload_nN hx hb hd rfl (hL.2.2.2.1 _ _ h2) (k a hL)
  | some y => exact lv_aload_n hx hb hd rfl (hL.2.2.2.1 _ _ h2) (k a hL)
theorem sx_istore {x : Nat} (hx : p.tables.exec = Jvm.exec) (hb : c.code = cc) (hL : LR a nL ls) (hst : ∀ v ∈ st, vok v) (hd : decode cc pc = .ok (.istore x, 2)) (hs : stp P j (.istore x) 2 pc ls st u = some ((pc', (ls', st')), u')) : Sx p l e R s m args below meth c nL pc a st u pc' ls' st' u' := by
  obtain ⟨v, rfl, h3, h4, rfl, rfl⟩ := kSt_some hs
  obtain ⟨y, rfl⟩ := vty_0 h3
  obtain ⟨h5, h6⟩ := hL.put1 (by simp [isLg]) (hst _ List.mem_cons_self) h4
  exact ⟨rfl, fun v hv => hst v (List.mem_cons_of_mem _ hv), fun H locs cells slots Q k => lv_istore hx hb hd hL.has h5 rfl (fun a' h => k a' (h6 a' h))⟩
theorem sx_istore_n {x : Fin 4} (hx : p.tables.exec = Jvm.exec) (hb : c.code = cc) (hL : LR a nL ls) (hst : ∀ v ∈ st, vok v) (hd : decode cc pc = .ok (.istore_n x, 1)) (hs : stp P j (.istore_n x) 1 pc ls st u = some ((pc', (ls', st')), u')) : Sx p l e R s m args below meth c nL pc a st u pc' ls' st' u' := by
  obtain ⟨v, rfl, h3, h4, rfl, rfl⟩ := kSt_some hs
  obtain ⟨y, rfl⟩ := vty_0 h3
  obtain ⟨h5, h6⟩ := hL.put1 (by simp [isLg]) (hst _ List.mem_cons_self) h4
  exact ⟨rfl, fun v hv => hst v (List.mem_cons_of_mem _ hv), fun H locs cells slots Q k => lv_istore_n hx hb hd rfl hL.has h5 rfl (fun a' h => k a' (h6 a' h))⟩
theorem sx_lstore {x : Nat} (hx : p.tables.exec = Jvm.exec) (hb : c.code = cc) (hL : LR a nL ls) (hst : ∀ v ∈ st, vok v) (hd : decode cc pc = .ok (.lstore x, 2)) (hs : stp P j (.lstore x) 2 pc ls st u = some ((pc', (ls', st')), u')) : Sx p l e R s m args below meth c nL pc a st u pc' ls' st' u' := by
  obtain ⟨v, rfl, h3, h4, rfl, rfl⟩ := kSt_some hs
  obtain ⟨y, rfl⟩ := vty_1 h3
  obtain ⟨h5, h6⟩ := hL.put2 rfl (hst _ List.mem_cons_self) h4
  exact ⟨rfl, fun v hv => hst v (List.mem_cons_of_mem _ hv), fun H locs cells slots Q k => lv_lstore hx hb hd hL.has h5 rfl (fun a' h => k a' (h6 a' h))⟩
theorem sx_lstore_n {x : Fin 4} (hx : p.tables.exec = Jvm.exec) (hb : c.code = cc) (hL : LR a nL ls) (hst : ∀ v ∈ st, vok v) (hd : decode cc pc = .ok (.lstore_n x, 1)) (hs : stp P j (.lstore_n x) 1 pc ls st u = some ((pc', (ls', st')), u')) : Sx p l e R s m args below meth c nL pc a st u pc' ls' st' u' := by
  obtain ⟨v, rfl, h3, h4, rfl, rfl⟩ := kSt_some hs
  obtain ⟨y, rfl⟩ := vty_1 h3
  obtain ⟨h5, h6⟩ := hL.put2 rfl (hst _ List.mem_cons_self) h4
  exact ⟨rfl, fun v hv => hst v (List.mem_cons_of_mem _ hv), fun H locs cells slots Q k => lv_lstore_n hx hb hd rfl hL.has h5 rfl (fun a' h => k a' (h6 a' h))⟩
theorem sx_astore {x : Nat} (hx : p.tables.exec = Jvm.exec) (hb : c.code = cc) (hL : LR a nL ls) (hst : ∀ v ∈ st, vok v) (hd : decode cc pc = .ok (.astore x, 2)) (hs : stp P j (.astore x) 2 pc ls st u = some ((pc', (ls', st')), u')) : Sx p l e R s m args below meth c nL pc a st u pc' ls' st' u' := by
  obtain ⟨v, rfl, h3, h4, rfl, rfl⟩ := kSt_some hs
  obtain ⟨y, rfl⟩ := vty_2 h3
  obtain ⟨h5, h6⟩ := hL.put1 (by simp [isLg]) (hst _ List.mem_cons_self) h4
  refine ⟨rfl, fun v hv => hst v (List.mem_cons_of_mem _ hv), fun H locs cells slots Q k => ?_⟩
  cases y with
  | none => exact lv_astoreN hx hb hd hL.has h5 rfl (fun a' h => k a' (h6 a' h))
  | some y => exact lv_astore hx hb hd hL.has h5 rfl (fun a' h => k a' (h6 a' h))
theorem sx_astore_n {x : Fin 4} (hx : p.tables.exec = Jvm.exec) (hb : c.code = cc) (hL : LR a nL ls) (hst : ∀ v ∈ st, vok v) (hd : decode cc pc = .ok (.astore_n x, 1)) (hs : stp P j (.astore_n x) 1 pc ls st u = some ((pc', (ls', st')), u')) : Sx p l e R s m args below meth c nL pc a st u pc' ls' st' u' := by
  obtain ⟨v, rfl, h3, h4, rfl, rfl⟩ := kSt_some hs
  obtain ⟨y, rfl⟩ := vty_2 h3
  obtain ⟨h5, h6⟩ := hL.put1 (by simp [isLg]) (hst _ List.mem_cons_self) h4
  refine ⟨rfl, fun v hv => hst v (List.mem_cons_of_mem _ hv), fun H locs cells slots Q k => ?_⟩
  cases y with
  | none => exact lv_astore_nN hx hb hd rfl hL.has h5 rfl (fun a' h => k a' (h6 a' h))
  | some y => exact lv_astore_n hx hb hd rfl hL.has h5 rfl (fun a' h => k a' (h6 a' h))
theorem sx_iinc {i : Nat} {x : Int} (hx : p.tables.exec = Jvm.exec) (hb : c.code = cc) (hL : LR a nL ls) (hst : ∀ v ∈ st, vok v) (hd : decode cc pc = .ok (.iinc i x, 3)) (hs : stp P j (.iinc i x) 3 pc ls st u = some ((pc', (ls', st')), u')) : Sx p l e R s m args below meth c nL pc a st u pc' ls' st' u' := by
  simp only [stp] at hs
  split at hs
  · rename_i y hy
    obtain ⟨h1, rfl, rfl, rfl⟩ := goL_some hs
    obtain ⟨h5, h6⟩ := hL.put1 (v := vI (wr (y + wr x))) (by simp [isLg]) (wr_inR _) h1
    obtain ⟨k0, hk0⟩ := List.getElem?_of_mem (lvl_mem.mpr ⟨_, hy, rfl⟩)
    refine ⟨rfl, hst, fun H locs cells slots Q k => lv_iinc hx hb hd hL.has hk0 rfl h5 rfl (fun a' h => k a' (h6 a' ?_))⟩
    have e1 : tv (vI (wr (y + wr x))) = Value.int (Int32.ofInt y + Int32.ofInt x) := by
      show Value.int _ = _
      rw [ofI_wr, Int32.ofInt_add, ofI_wr]
    rw [e1]
    exact h
  · cases hs
theorem sx_iadd  (hx : p.tables.exec = Jvm.exec) (hb : c.code = cc) (hL : LR a nL ls) (hst : ∀ v ∈ st, vok v) (hd : decode cc pc = .ok (.iadd, 1)) (hs : stp P j (.iadd) 1 pc ls st u = some ((pc', (ls', st')), u')) : Sx p l e R s m args below meth c nL pc a st u pc' ls' st' u' := by
  obtain ⟨h1, rfl, rfl, rfl⟩ := goS_some hs
  obtain ⟨x, y, r, rfl, rfl⟩ := kI2_some h1
  refine ⟨rfl, List.forall_mem_cons.mpr ⟨wr_inR _, fun v hv => hst v (List.mem_cons_of_mem _ (List.mem_cons_of_mem _ hv))⟩, fun H locs cells slots Q k => lv_iadd hx hb hd ?_⟩
  have := k a hL
  simpa only [List.map_cons, tv, ofI_wr, Int32.ofInt_add] using this
theorem sx_isub  (hx : p.tables.exec = Jvm.exec) (hb : c.code = cc) (hL : LR a nL ls) (hst : ∀ v ∈ st, vok v) (hd : decode cc pc = .ok (.isub, 1)) (hs : stp P j (.isub) 1 pc ls st u = some ((pc', (ls', st')), u')) : Sx p l e R s m args below meth c nL pc a st u pc' ls' st' u' := by
  obtain ⟨h1, rfl, rfl, rfl⟩ := goS_some hs
  obtain ⟨x, y, r, rfl, rfl⟩ := kI2_some h1
  refine ⟨rfl, List.forall_mem_cons.mpr ⟨wr_inR _, fun v hv => hst v (List.mem_cons_of_mem _ (List.mem_cons_of_mem _ hv))⟩, fun H locs cells slots Q k => lv_isub hx hb hd ?_⟩
  have := k a hL
  simpa only [List.map_cons, tv, ofI_wr, Int32.ofInt_sub] using this
theorem sx_imul  (hx : p.tables.exec = Jvm.exec) (hb : c.code = cc) (hL : LR a nL ls) (hst : ∀ v ∈ st, vok v) (hd : decode cc pc = .ok (.imul, 1)) (hs : stp P j (.imul) 1 pc ls st u = some ((pc', (ls', st')), u')) : Sx p l e R s m args below meth c nL pc a st u pc' ls' st' u' := by
  obtain ⟨h1, rfl, rfl, rfl⟩ := goS_some hs
  obtain ⟨x, y, r, rfl, rfl⟩ := kI2_some h1
  refine ⟨rfl, List.forall_mem_cons.mpr ⟨wr_inR _, fun v hv => hst v (List.mem_cons_of_mem _ (List.mem_cons_of_mem _ hv))⟩, fun H locs cells slots Q k => lv_imul hx hb hd ?_⟩
  have := k a hL
  simpa only [List.map_cons, tv, ofI_wr, Int32.ofInt_mul] using this
theorem sx_iand  (hx : p.tables.exec = Jvm.exec) (hb : c.code = cc) (hL : LR a nL ls) (hst : ∀ v ∈ st, vok v) (hd : decode cc pc = .ok (.iand, 1)) (hs : stp P j (.iand) 1 pc ls st u = some ((pc', (ls', st')), u')) : Sx p l e R s m args below meth c nL pc a st u pc' ls' st' u' := by
  obtain ⟨h1, rfl, rfl, rfl⟩ := goS_some hs
  obtain ⟨x, y, r, rfl, rfl⟩ := kI2_some h1
  refine ⟨rfl, List.forall_mem_cons.mpr ⟨i32_inR _, fun v hv => hst v (List.mem_cons_of_mem _ (List.mem_cons_of_mem _ hv))⟩, fun H locs cells slots Q k => lv_iand hx hb hd ?_⟩
  have := k a hL
  simpa only [List.map_cons, tv, bI, ofI_t] using this
theorem sx_ior  (hx : p.tables.exec = Jvm.exec) (hb : c.code = cc) (hL : LR a nL ls) (hst : ∀ v ∈ st, vok v) (hd : decode cc pc = .ok (.ior, 1)) (hs : stp P j (.ior) 1 pc ls st u = some ((pc', (ls', st')), u')) : Sx p l e R s m args below meth c nL pc a st u pc' ls' st' u' := by
  obtain ⟨h1, rfl, rfl, rfl⟩ := goS_some hs
  obtain ⟨x, y, r, rfl, rfl⟩ := kI2_some h1
  refine ⟨rfl, List.forall_mem_cons.mpr ⟨i32_inR _, fun v hv => hst v (List.mem_cons_of_mem _ (List.mem_cons_of_mem _ hv))⟩, fun H locs cells slots Q k => lv_ior hx hb hd ?_⟩
  have := k a hL
  simpa only [List.map_cons, tv, bI, ofI_t] using this
theorem sx_ixor  (hx : p.tables.exec = Jvm.exec) (hb : c.code = cc) (hL : LR a nL ls) (hst : ∀ v ∈ st, vok v) (hd : decode cc pc = .ok (.ixor, 1)) (hs : stp P j (.ixor) 1 pc ls st u = some ((pc', (ls', st')), u')) : Sx p l e R s m args below meth c nL pc a st u pc' ls' st' u' := by
  obtain ⟨h1, rfl, rfl, rfl⟩ := goS_some hs
  obtain ⟨x, y, r, rfl, rfl⟩ := kI2_some h1
  refine ⟨rfl, List.forall_mem_cons.mpr ⟨i32_inR _, fun v hv => hst v (List.mem_cons_of_mem _ (List.mem_cons_of_mem _ hv))⟩, fun H locs cells slots Q k => lv_ixor hx hb hd ?_⟩
  have := k a hL
  simpa only [List.map_cons, tv, bI, ofI_t] using this
theorem sx_ishl  (hx : p.tables.exec = Jvm.exec) (hb : c.code = cc) (hL : LR a nL ls) (hst : ∀ v ∈ st, vok v) (hd : decode cc pc = .ok (.ishl, 1)) (hs : stp P j (.ishl) 1 pc ls st u = some ((pc', (ls', st')), u')) : Sx p l e R s m args below meth c nL pc a st u pc' ls' st' u' := by
  obtain ⟨h1, rfl, rfl, rfl⟩ := goS_some hs
  obtain ⟨x, y, r, rfl, rfl⟩ := kI2_some h1
  refine ⟨rfl, List.forall_mem_cons.mpr ⟨i32_inR _, fun v hv => hst v (List.mem_cons_of_mem _ (List.mem_cons_of_mem _ hv))⟩, fun H locs cells slots Q k => lv_ishl hx hb hd ?_⟩
  have := k a hL
  simpa only [List.map_cons, tv, bI, ofI_t] using this
theorem sx_ishr  (hx : p.tables.exec = Jvm.exec) (hb : c.code = cc) (hL : LR a nL ls) (hst : ∀ v ∈ st, vok v) (hd : decode cc pc = .ok (.ishr, 1)) (hs : stp P j (.ishr) 1 pc ls st u = some ((pc', (ls', st')), u')) : Sx p l e R s m args below meth c nL pc a st u pc' ls' st' u' := by
  obtain ⟨h1, rfl, rfl, rfl⟩ := goS_some hs
  obtain ⟨x, y, r, rfl, rfl⟩ := kI2_some h1
  refine ⟨rfl, List.forall_mem_cons.mpr ⟨i32_inR _, fun v hv => hst v (List.mem_cons_of_mem _ (List.mem_cons_of_mem _ hv))⟩, fun H locs cells slots Q k => lv_ishr hx hb hd ?_⟩
  have := k a hL
  simpa only [List.map_cons, tv, bI, ofI_t] using this
theorem ofI_char {x : Int} (h : inR x) : ((Int32.ofInt x).toUInt32 % 65536).toInt32 = Int32.ofInt (x % 65536) := by
  have h1 : 0 ≤ x % 65536 := Int.emod_nonneg _ (by decide)
  have h2 : x % 65536 < 65536 := Int.emod_lt_of_pos _ (by decide)
  rw [pk_char]
  have h3 : (Int32.ofInt x).toBitVec.toNat % 65536 = (x % 65536).toNat := by
    have e1 : ((Int32.ofInt x).toBitVec.toNat : Int) = x % 4294967296 := by
      have : (Int32.ofInt x).toBitVec = BitVec.ofInt 32 x := rfl
      rw [this, BitVec.toNat_ofInt]
      omega
    omega
  rw [h3]
  show Int32.ofNat _ = _
  rw [← ofI_nat, Int.toNat_of_nonneg h1]
theorem sx_i2c  (hx : p.tables.exec = Jvm.exec) (hb : c.code = cc) (hL : LR a nL ls) (hst : ∀ v ∈ st, vok v) (hd : decode cc pc = .ok (.i2c, 1)) (hs : stp P j (.i2c) 1 pc ls st u = some ((pc', (ls', st')), u')) : Sx p l e R s m args below meth c nL pc a st u pc' ls' st' u' := by
  obtain ⟨h1, rfl, rfl, rfl⟩ := goS_some hs
  obtain ⟨x, r, rfl, rfl⟩ := kI1_some h1
  have hx1 : inR x := hst _ List.mem_cons_self
  refine ⟨rfl, List.forall_mem_cons.mpr ⟨?_, fun v hv => hst v (List.mem_cons_of_mem _ hv)⟩, fun H locs cells slots Q k => lv_i2c hx hb hd (ofI_char hx1) (k a hL)⟩
  have h1 : 0 ≤ x % 65536 := Int.emod_nonneg _ (by decide)
  have h2 : x % 65536 < 65536 := Int.emod_lt_of_pos _ (by decide)
  exact ⟨by omega, by omega⟩
theorem sx_i2l  (hx : p.tables.exec = Jvm.exec) (hb : c.code = cc) (hL : LR a nL ls) (hst : ∀ v ∈ st, vok v) (hd : decode cc pc = .ok (.i2l, 1)) (hs : stp P j (.i2l) 1 pc ls st u = some ((pc', (ls', st')), u')) : Sx p l e R s m args below meth c nL pc a st u pc' ls' st' u' := by
  obtain ⟨h1, rfl, rfl, rfl⟩ := goS_some hs
  obtain ⟨x, r, rfl, rfl⟩ := kIL_some h1
  exact ⟨rfl, List.forall_mem_cons.mpr ⟨trivial, fun v hv => hst v (List.mem_cons_of_mem _ hv)⟩, fun H locs cells slots Q k => lv_i2l hx hb hd rfl (k a hL)⟩
theorem sx_l2i  (hx : p.tables.exec = Jvm.exec) (hb : c.code = cc) (hL : LR a nL ls) (hst : ∀ v ∈ st, vok v) (hd : decode cc pc = .ok (.l2i, 1)) (hs : stp P j (.l2i) 1 pc ls st u = some ((pc', (ls', st')), u')) : Sx p l e R s m args below meth c nL pc a st u pc' ls' st' u' := by
  obtain ⟨h1, rfl, rfl, rfl⟩ := goS_some hs
  obtain ⟨x, r, rfl, rfl⟩ := kLi_some h1
  refine ⟨rfl, List.forall_mem_cons.mpr ⟨i32_inR _, fun v hv => hst v (List.mem_cons_of_mem _ hv)⟩, fun H locs cells slots Q k => lv_l2i hx hb hd rfl ?_⟩
  have := k a hL
  simpa only [List.map_cons, tv, ofI_t] using this
theorem sx_land  (hx : p.tables.exec = Jvm.exec) (hb : c.code = cc) (hL : LR a nL ls) (hst : ∀ v ∈ st, vok v) (hd : decode cc pc = .ok (.land, 1)) (hs : stp P j (.land) 1 pc ls st u = some ((pc', (ls', st')), u')) : Sx p l e R s m args below meth c nL pc a st u pc' ls' st' u' := by
  obtain ⟨h1, rfl, rfl, rfl⟩ := goS_some hs
  obtain ⟨x, y, r, rfl, rfl⟩ := kL2_some h1
  exact ⟨rfl, List.forall_mem_cons.mpr ⟨trivial, fun v hv => hst v (List.mem_cons_of_mem _ (List.mem_cons_of_mem _ hv))⟩, fun H locs cells slots Q k => lv_land hx hb hd (k a hL)⟩
theorem sx_lor  (hx : p.tables.exec = Jvm.exec) (hb : c.code = cc) (hL : LR a nL ls) (hst : ∀ v ∈ st, vok v) (hd : decode cc pc = .ok (.lor, 1)) (hs : stp P j (.lor) 1 pc ls st u = some ((pc', (ls', st')), u')) : Sx p l e R s m args below meth c nL pc a st u pc' ls' st' u' := by
  obtain ⟨h1, rfl, rfl, rfl⟩ := goS_some hs
  obtain ⟨x, y, r, rfl, rfl⟩ := kL2_some h1
  exact ⟨rfl, List.forall_mem_cons.mpr ⟨trivial, fun v hv => hst v (List.mem_cons_of_mem _ (List.mem_cons_of_mem _ hv))⟩, fun H locs cells slots Q k => lv_lor hx hb hd (k a hL)⟩
theorem sx_lshl  (hx : p.tables.exec = Jvm.exec) (hb : c.code = cc) (hL : LR a nL ls) (hst : ∀ v ∈ st, vok v) (hd : decode cc pc = .ok (.lshl, 1)) (hs : stp P j (.lshl) 1 pc ls st u = some ((pc', (ls', st')), u')) : Sx p l e R s m args below meth c nL pc a st u pc' ls' st' u' := by
  obtain ⟨h1, rfl, rfl, rfl⟩ := goS_some hs
  obtain ⟨x, y, r, rfl, rfl⟩ := kLI_some h1
  exact ⟨rfl, List.forall_mem_cons.mpr ⟨trivial, fun v hv => hst v (List.mem_cons_of_mem _ (List.mem_cons_of_mem _ hv))⟩, fun H locs cells slots Q k => lv_lshl hx hb hd rfl (k a hL)⟩
theorem sx_lshr  (hx : p.tables.exec = Jvm.exec) (hb : c.code = cc) (hL : LR a nL ls) (hst : ∀ v ∈ st, vok v) (hd : decode cc pc = .ok (.lshr, 1)) (hs : stp P j (.lshr) 1 pc ls st u = some ((pc', (ls', st')), u')) : Sx p l e R s m args below meth c nL pc a st u pc' ls' st' u' := by
  obtain ⟨h1, rfl, rfl, rfl⟩ := goS_some hs
  obtain ⟨x, y, r, rfl, rfl⟩ := kLI_some h1
  exact ⟨rfl, List.forall_mem_cons.mpr ⟨trivial, fun v hv => hst v (List.mem_cons_of_mem _ (List.mem_cons_of_mem _ hv))⟩, fun H locs cells slots Q k => lv_lshr hx hb hd rfl (k a hL)⟩
theorem sx_lcmp  (hx : p.tables.exec = Jvm.exec) (hb : c.code = cc) (hL : LR a nL ls) (hst : ∀ v ∈ st, vok v) (hd : decode cc pc = .ok (.lcmp, 1)) (hs : stp P j (.lcmp) 1 pc ls st u = some ((pc', (ls', st')), u')) : Sx p l e R s m args below meth c nL pc a st u pc' ls' st' u' := by
  obtain ⟨h1, rfl, rfl, rfl⟩ := goS_some hs
  obtain ⟨x, y, r, rfl, rfl⟩ := kLc_some h1
  refine ⟨rfl, List.forall_mem_cons.mpr ⟨i32_inR _, fun v hv => hst v (List.mem_cons_of_mem _ (List.mem_cons_of_mem _ hv))⟩, fun H locs cells slots Q k => W.lcmp hx hb hd ?_⟩
  have := k a hL
  simpa only [List.map_cons, tv, ofI_t] using this
theorem sx_dup  (hx : p.tables.exec = Jvm.exec) (hb : c.code = cc) (hL : LR a nL ls) (hst : ∀ v ∈ st, vok v) (hd : decode cc pc = .ok (.dup, 1)) (hs : stp P j (.dup) 1 pc ls st u = some ((pc', (ls', st')), u')) : Sx p l e R s m args below meth c nL pc a st u pc' ls' st' u' := by
  obtain ⟨h1, rfl, rfl, rfl⟩ := goS_some hs
  obtain ⟨v, r, rfl, hc, rfl⟩ := kDup_some h1
  exact ⟨rfl, List.forall_mem_cons.mpr ⟨hst _ List.mem_cons_self, hst⟩, fun H locs cells slots Q k => lv_dup hx hb hd (tc_1 hc) (k a hL)⟩
theorem sx_pop  (hx : p.tables.exec = Jvm.exec) (hb : c.code = cc) (hL : LR a nL ls) (hst : ∀ v ∈ st, vok v) (hd : decode cc pc = .ok (.pop, 1)) (hs : stp P j (.pop) 1 pc ls st u = some ((pc', (ls', st')), u')) : Sx p l e R s m args below meth c nL pc a st u pc' ls' st' u' := by
  obtain ⟨h1, rfl, rfl, rfl⟩ := goS_some hs
  obtain ⟨v, rfl, hc⟩ := kPop_some h1
  exact ⟨rfl, fun v hv => hst v (List.mem_cons_of_mem _ hv), fun H locs cells slots Q k => lv_pop hx hb hd (tc_1 hc) (k a hL)⟩
theorem sx_dup_x1  (hx : p.tables.exec = Jvm.exec) (hb : c.code = cc) (hL : LR a nL ls) (hst : ∀ v ∈ st, vok v) (hd : decode cc pc = .ok (.dup_x1, 1)) (hs : stp P j (.dup_x1) 1 pc ls st u = some ((pc', (ls', st')), u')) : Sx p l e R s m args below meth c nL pc a st u pc' ls' st' u' := by
  obtain ⟨h1, rfl, rfl, rfl⟩ := goS_some hs
  obtain ⟨v, w, r, rfl, hc, hw, rfl⟩ := kDx1_some h1
  refine ⟨rfl, fun z hz => hst z ?_, fun H locs cells slots Q k => lv_dup_x1 hx hb hd (tc_1 hc) (tc_1 hw) (k a hL)⟩
  simp only [List.mem_cons] at hz ⊢
  rcases hz with h | h | h | h <;> simp [h]
theorem sx_dup_x2  (hx : p.tables.exec = Jvm.exec) (hb : c.code = cc) (hL : LR a nL ls) (hst : ∀ v ∈ st, vok v) (hd : decode cc pc = .ok (.dup_x2, 1)) (hs : stp P j (.dup_x2) 1 pc ls st u = some ((pc', (ls', st')), u')) : Sx p l e R s m args below meth c nL pc a st u pc' ls' st' u' := by
  obtain ⟨h1, rfl, rfl, rfl⟩ := goS_some hs
  obtain ⟨v, w, x, r, rfl, hc, hw, hy, rfl⟩ := kDx2_some h1
  refine ⟨rfl, fun z hz => hst z ?_, fun H locs cells slots Q k => lv_dup_x2 hx hb hd (tc_1 hc) (tc_1 hw) (tc_1 hy) (k a hL)⟩
  simp only [List.mem_cons] at hz ⊢
  rcases hz with h | h | h | h | h <;> simp [h]
theorem sx_dup2  (hx : p.tables.exec = Jvm.exec) (hb : c.code = cc) (hL : LR a nL ls) (hst : ∀ v ∈ st, vok v) (hd : decode cc pc = .ok (.dup2, 1)) (hs : stp P j (.dup2) 1 pc ls st u = some ((pc', (ls', st')), u')) : Sx p l e R s m args below meth c nL pc a st u pc' ls' st' u' := by
  obtain ⟨h1, rfl, rfl, rfl⟩ := goS_some hs
  obtain ⟨v, w, r, rfl, hc, hw, rfl⟩ := kD2_some h1
  refine ⟨rfl, fun z hz => hst z ?_, fun H locs cells slots Q k => lv_dup2_11 hx hb hd (tc_1 hc) (tc_1 hw) (k a hL)⟩
  simp only [List.mem_cons] at hz ⊢
  rcases hz with h | h | h | h | h <;> simp [h]
theorem sx_goto {off : Int} (hx : p.tables.exec = Jvm.exec) (hb : c.code = cc) (hL : LR a nL ls) (hst : ∀ v ∈ st, vok v) (hd : decode cc pc = .ok (.goto off, 3)) (hs : stp P j (.goto off) 3 pc ls st u = some ((pc', (ls', st')), u')) : Sx p l e R s m args below meth c nL pc a st u pc' ls' st' u' := by
  obtain ⟨h1, rfl, rfl, rfl⟩ := goP_some hs
  exact ⟨rfl, hst, fun H locs cells slots Q k => lv_goto hx hb hd (tgt_some h1) (k a hL)⟩
theorem sx_icmp_eq {off : Int} (hx : p.tables.exec = Jvm.exec) (hb : c.code = cc) (hL : LR a nL ls) (hst : ∀ v ∈ st, vok v) (hd : decode cc pc = .ok (.if_icmp .eq off, 3)) (hs : stp P j (.if_icmp .eq off) 3 pc ls st u = some ((pc', (ls', st')), u')) : Sx p l e R s m args below meth c nL pc a st u pc' ls' st' u' := by
  simp only [stp] at hs
  split at hs
  · rename_i y x r
    have hy1 : inR y := hst _ List.mem_cons_self
    have hx1 : inR x := hst _ (List.mem_cons_of_mem _ List.mem_cons_self)
    have hr : ∀ v ∈ r, vok v := fun v hv => hst v (List.mem_cons_of_mem _ (List.mem_cons_of_mem _ hv))
    obtain ⟨h1, rfl, rfl, rfl⟩ := goP_some hs
    obtain ⟨t, h2, h3⟩ := Option.map_eq_some_iff.mp h1
    refine ⟨rfl, hr, fun H locs cells slots Q k => lv_icmp_eq hx hb hd (tgt_some h2) (fun h => ?_) (fun h => ?_)⟩
    · have hc : cmpI .eq x y = true := by
        simp only [cmpI, ofI_eq hx1 hy1] at h ⊢; simpa using h
      rw [if_pos hc] at h3
      subst h3
      exact k a hL
    · have hc : ¬ cmpI .eq x y = true := by
        simp only [cmpI, ofI_eq hx1 hy1] at h ⊢; simpa using h
      rw [if_neg hc] at h3
      subst h3
      exact k a hL
  · cases hs
theorem sx_if_eq {off : Int} (hx : p.tables.exec = Jvm.exec) (hb : c.code = cc) (hL : LR a nL ls) (hst : ∀ v ∈ st, vok v) (hd : decode cc pc = .ok (.ifCond .eq off, 3)) (hs : stp P j (.ifCond .eq off) 3 pc ls st u = some ((pc', (ls', st')), u')) : Sx p l e R s m args below meth c nL pc a st u pc' ls' st' u' := by
  simp only [stp] at hs
  split at hs
  · rename_i x r
    have hx1 : inR x := hst _ List.mem_cons_self
    have hy1 : inR 0 := inR_0
    have hr : ∀ v ∈ r, vok v := fun v hv => hst v (List.mem_cons_of_mem _ hv)
    obtain ⟨h1, rfl, rfl, rfl⟩ := goP_some hs
    obtain ⟨t, h2, h3⟩ := Option.map_eq_some_iff.mp h1
    refine ⟨rfl, hr, fun H locs cells slots Q k => lv_if_eq hx hb hd (tgt_some h2) (fun h => ?_) (fun h => ?_)⟩
    · have hc : cmpI .eq x 0 = true := by
        rw [← ofI_0] at h; simp only [cmpI, ofI_eq hx1 hy1] at h ⊢; simpa using h
      rw [if_pos hc] at h3
      subst h3
      exact k a hL
    · have hc : ¬ cmpI .eq x 0 = true := by
        rw [← ofI_0] at h; simp only [cmpI, ofI_eq hx1 hy1] at h ⊢; simpa using h
      rw [if_neg hc] at h3
      subst h3
      exact k a hL
  · cases hs
theorem sx_icmp_ne {off : Int} (hx : p.tables.exec = Jvm.exec) (hb : c.code = cc) (hL : LR a nL ls) (hst : ∀ v ∈ st, vok v) (hd : decode cc pc = .ok (.if_icmp .ne off, 3)) (hs : stp P j (.if_icmp .ne off) 3 pc ls st u = some ((pc', (ls', st')), u')) : Sx p l e R s m args below meth c nL pc a st u pc' ls' st' u' := by
  simp only [stp] at hs
  split at hs
  · rename_i y x r
    have hy1 : inR y := hst _ List.mem_cons_self
    have hx1 : inR x := hst _ (List.mem_cons_of_mem _ List.mem_cons_self)
    have hr : ∀ v ∈ r, vok v := fun v hv => hst v (List.mem_cons_of_mem _ (List.mem_cons_of_mem _ hv))
    obtain ⟨h1, rfl, rfl, rfl⟩ := goP_some hs
    obtain ⟨t, h2, h3⟩ := Option.map_eq_some_iff.mp h1
    refine ⟨rfl, hr, fun H locs cells slots Q k => lv_icmp_ne hx hb hd (tgt_some h2) (fun h => ?_) (fun h => ?_)⟩
    · have hc : cmpI .ne x y = true := by
        simp only [cmpI, ofI_eq hx1 hy1] at h ⊢; simpa using h
      rw [if_pos hc] at h3
      subst h3
      exact k a hL
    · have hc : ¬ cmpI .ne x y = true := by
        simp only [cmpI, ofI_eq hx1 hy1] at h ⊢; simpa using h
      rw [if_neg hc] at h3
      subst h3
      exact k a hL
  · cases hs
theorem sx_if_ne {off : Int} (hx : p.tables.exec = Jvm.exec) (hb : c.code = cc) (hL : LR a nL ls) (hst : ∀ v ∈ st, vok v) (hd : decode cc pc = .ok (.ifCond .ne off, 3)) (hs : stp P j (.ifCond .ne off) 3 pc ls st u = some ((pc', (ls', st')), u')) : Sx p l e R s m args below meth c nL pc a st u pc' ls' st' u' := by
  simp only [stp] at hs
  split at hs
  · rename_i x r
    have hx1 : inR x := hst _ List.mem_cons_self
    have hy1 : inR 0 := inR_0
    have hr : ∀ v ∈ r, vok v := fun v hv => hst v (List.mem_cons_of_mem _ hv)
    obtain ⟨h1, rfl, rfl, rfl⟩ := goP_some hs
    obtain ⟨t, h2, h3⟩ := Option.map_eq_some_iff.mp h1
    refine ⟨rfl, hr, fun H locs cells slots Q k => lv_if_ne hx hb hd (tgt_some h2) (fun h => ?_) (fun h => ?_)⟩
    · have hc : cmpI .ne x 0 = true := by
        rw [← ofI_0] at h; simp only [cmpI, ofI_eq hx1 hy1] at h ⊢; simpa using h
      rw [if_pos hc] at h3
      subst h3
      exact k a hL
    · have hc : ¬ cmpI .ne x 0 = true := by
        rw [← ofI_0] at h; simp only [cmpI, ofI_eq hx1 hy1] at h ⊢; simpa using h
      rw [if_neg hc] at h3
      subst h3
      exact k a hL
  · cases hs
theorem sx_icmp_lt {off : Int} (hx : p.tables.exec = Jvm.exec) (hb : c.code = cc) (hL : LR a nL ls) (hst : ∀ v ∈ st, vok v) (hd : decode cc pc = .ok (.if_icmp .lt off, 3)) (hs : stp P j (.if_icmp .lt off) 3 pc ls st u = some ((pc', (ls', st')), u')) : Sx p l e R s m args below meth c nL pc a st u pc' ls' st' u' := by
  simp only [stp] at hs
  split at hs
  · rename_i y x r
    have hy1 : inR y := hst _ List.mem_cons_self
    have hx1 : inR x := hst _ (List.mem_cons_of_mem _ List.mem_cons_self)
    have hr : ∀ v ∈ r, vok v := fun v hv => hst v (List.mem_cons_of_mem _ (List.mem_cons_of_mem _ hv))
    obtain ⟨h1, rfl, rfl, rfl⟩ := goP_some hs
    obtain ⟨t, h2, h3⟩ := Option.map_eq_some_iff.mp h1
    refine ⟨rfl, hr, fun H locs cells slots Q k => lv_icmp_lt hx hb hd (tgt_some h2) (fun h => ?_) (fun h => ?_)⟩
    · have hc : cmpI .lt x y = true := by
        simp only [cmpI, ofI_lt hx1 hy1] at h ⊢; simpa using h
      rw [if_pos hc] at h3
      subst h3
      exact k a hL
    · have hc : ¬ cmpI .lt x y = true := by
        simp only [cmpI, ofI_lt hx1 hy1] at h ⊢; simpa using h
      rw [if_neg hc] at h3
      subst h3
      exact k a hL
  · cases hs
theorem sx_if_lt {off : Int} (hx : p.tables.exec = Jvm.exec) (hb : c.code = cc) (hL : LR a nL ls) (hst : ∀ v ∈ st, vok v) (hd : decode cc pc = .ok (.ifCond .lt off, 3)) (hs : stp P j (.ifCond .lt off) 3 pc ls st u = some ((pc', (ls', st')), u')) : Sx p l e R s m args below meth c nL pc a st u pc' ls' st' u' := by
  simp only [stp] at hs
  split at hs
  · rename_i x r
    have hx1 : inR x := hst _ List.mem_cons_self
    have hy1 : inR 0 := inR_0
    have hr : ∀ v ∈ r, vok v := fun v hv => hst v (List.mem_cons_of_mem _ hv)
    obtain ⟨h1, rfl, rfl, rfl⟩ := goP_some hs
    obtain ⟨t, h2, h3⟩ := Option.map_eq_some_iff.mp h1
    refine ⟨rfl, hr, fun H locs cells slots Q k => lv_if_lt hx hb hd (tgt_some h2) (fun h => ?_) (fun h => ?_)⟩
    · have hc : cmpI .lt x 0 = true := by
        rw [← ofI_0] at h; simp only [cmpI, ofI_lt hx1 hy1] at h ⊢; simpa using h
      rw [if_pos hc] at h3
      subst h3
      exact k a hL
    · have hc : ¬ cmpI .lt x 0 = true := by
        rw [← ofI_0] at h; simp only [cmpI, ofI_lt hx1 hy1] at h ⊢; simpa using h
      rw [if_neg hc] at h3
      subst h3
      exact k a hL
  · cases hs
theorem sx_icmp_ge {off : Int} (hx : p.tables.exec = Jvm.exec) (hb : c.code = cc) (hL : LR a nL ls) (hst : ∀ v ∈ st, vok v) (hd : decode cc pc = .ok (.if_icmp .ge off, 3)) (hs : stp P j (.if_icmp .ge off) 3 pc ls st u = some ((pc', (ls', st')), u')) : Sx p l e R s m args below meth c nL pc a st u pc' ls' st' u' := by
  simp only [stp] at hs
  split at hs
  · rename_i y x r
    have hy1 : inR y := hst _ List.mem_cons_self
    have hx1 : inR x := hst _ (List.mem_cons_of_mem _ List.mem_cons_self)
    have hr : ∀ v ∈ r, vok v := fun v hv => hst v (List.mem_cons_of_mem _ (List.mem_cons_of_mem _ hv))
    obtain ⟨h1, rfl, rfl, rfl⟩ := goP_some hs
    obtain ⟨t, h2, h3⟩ := Option.map_eq_some_iff.mp h1
    refine ⟨rfl, hr, fun H locs cells slots Q k => lv_icmp_ge hx hb hd (tgt_some h2) (fun h => ?_) (fun h => ?_)⟩
    · have hc : cmpI .ge x y = true := by
        simp only [cmpI, ofI_le hy1 hx1] at h ⊢; simpa using h
      rw [if_pos hc] at h3
      subst h3
      exact k a hL
    · have hc : ¬ cmpI .ge x y = true := by
        simp only [cmpI, ofI_le hy1 hx1] at h ⊢; simpa using h
      rw [if_neg hc] at h3
      subst h3
      exact k a hL
  · cases hs
theorem sx_if_ge {off : Int} (hx : p.tables.exec = Jvm.exec) (hb : c.code = cc) (hL : LR a nL ls) (hst : ∀ v ∈ st, vok v) (hd : decode cc pc = .ok (.ifCond .ge off, 3)) (hs : stp P j (.ifCond .ge off) 3 pc ls st u = some ((pc', (ls', st')), u')) : Sx p l e R s m args below meth c nL pc a st u pc' ls' st' u' := by
  simp only [stp] at hs
  split at hs
  · rename_i x r
    have hx1 : inR x := hst _ List.mem_cons_self
    have hy1 : inR 0 := inR_0
    have hr : ∀ v ∈ r, vok v := fun v hv => hst v (List.mem_cons_of_mem _ hv)
    obtain ⟨h1, rfl, rfl, rfl⟩ := goP_some hs
    obtain ⟨t, h2, h3⟩ := Option.map_eq_some_iff.mp h1
    refine ⟨rfl, hr, fun H locs cells slots Q k => lv_if_ge hx hb hd (tgt_some h2) (fun h => ?_) (fun h => ?_)⟩
    · have hc : cmpI .ge x 0 = true := by
        rw [← ofI_0] at h; simp only [cmpI, ofI_le hy1 hx1] at h ⊢; simpa using h
      rw [if_pos hc] at h3
      subst h3
      exact k a hL
    · have hc : ¬ cmpI .ge x 0 = true := by
        rw [← ofI_0] at h; simp only [cmpI, ofI_le hy1 hx1] at h ⊢; simpa using h
      rw [if_neg hc] at h3
      subst h3
      exact k a hL
  · cases hs
theorem sx_icmp_gt {off : Int} (hx : p.tables.exec = Jvm.exec) (hb : c.code = cc) (hL : LR a nL ls) (hst : ∀ v ∈ st, vok v) (hd : decode cc pc = .ok (.if_icmp .gt off, 3)) (hs : stp P j (.if_icmp .gt off) 3 pc ls st u = some ((pc', (ls', st')), u')) : Sx p l e R s m args below meth c nL pc a st u pc' ls' st' u' := by
  simp only [stp] at hs
  split at hs
  · rename_i y x r
    have hy1 : inR y := hst _ List.mem_cons_self
    have hx1 : inR x := hst _ (List.mem_cons_of_mem _ List.mem_cons_self)
    have hr : ∀ v ∈ r, vok v := fun v hv => hst v (List.mem_cons_of_mem _ (List.mem_cons_of_mem _ hv))
    obtain ⟨h1, rfl, rfl, rfl⟩ := goP_some hs
    obtain ⟨t, h2, h3⟩ := Option.map_eq_some_iff.mp h1
    refine ⟨rfl, hr, fun H locs cells slots Q k => lv_icmp_gt hx hb hd (tgt_some h2) (fun h => ?_) (fun h => ?_)⟩
    · have hc : cmpI .gt x y = true := by
        simp only [cmpI, ofI_lt hy1 hx1] at h ⊢; simpa using h
      rw [if_pos hc] at h3
      subst h3
      exact k a hL
    · have hc : ¬ cmpI .gt x y = true := by
        simp only [cmpI, ofI_lt hy1 hx1] at h ⊢; simpa using h
      rw [if_neg hc] at h3
      subst h3
      exact k a hL
  · cases hs
theorem sx_if_gt {off : Int} (hx : p.tables.exec = Jvm.exec) (hb : c.code = cc) (hL : LR a nL ls) (hst : ∀ v ∈ st, vok v) (hd : decode cc pc = .ok (.ifCond .gt off, 3)) (hs : stp P j (.ifCond .gt off) 3 pc ls st u = some ((pc', (ls', st')), u')) : Sx p l e R s m args below meth c nL pc a st u pc' ls' st' u' := by
  simp only [stp] at hs
  split at hs
  · rename_i x r
    have hx1 : inR x := hst _ List.mem_cons_self
    have hy1 : inR 0 := inR_0
    have hr : ∀ v ∈ r, vok v := fun v hv => hst v (List.mem_cons_of_mem _ hv)
    obtain ⟨h1, rfl, rfl, rfl⟩ := goP_some hs
    obtain ⟨t, h2, h3⟩ := Option.map_eq_some_iff.mp h1
    refine ⟨rfl, hr, fun H locs cells slots Q k => lv_if_gt hx hb hd (tgt_some h2) (fun h => ?_) (fun h => ?_)⟩
    · have hc : cmpI .gt x 0 = true := by
        rw [← ofI_0] at h; simp only [cmpI, ofI_lt hy1 hx1] at h ⊢; simpa using h
      rw [if_pos hc] at h3
      subst h3
      exact k a hL
    · have hc : ¬ cmpI .gt x 0 = true := by
        rw [← ofI_0] at h; simp only [cmpI, ofI_lt hy1 hx1] at h ⊢; simpa using h
      rw [if_neg hc] at h3
      subst h3
      exact k a hL
  · cases hs
theorem sx_icmp_le {off : Int} (hx : p.tables.exec = Jvm.exec) (hb : c.code = cc) (hL : LR a nL ls) (hst : ∀ v ∈ st, vok v) (hd : decode cc pc = .ok (.if_icmp .le off, 3)) (hs : stp P j (.if_icmp .le off) 3 pc ls st u = some ((pc', (ls', st')), u')) : Sx p l e R s m args below meth c nL pc a st u pc' ls' st' u' := by
  simp only [stp] at hs
  split at hs
  · rename_i y x r
    have hy1 : inR y := hst _ List.mem_cons_self
    have hx1 : inR x := hst _ (List.mem_cons_of_mem _ List.mem_cons_self)
    have hr : ∀ v ∈ r, vok v := fun v hv => hst v (List.mem_cons_of_mem _ (List.mem_cons_of_mem _ hv))
    obtain ⟨h1, rfl, rfl, rfl⟩ := goP_some hs
    obtain ⟨t, h2, h3⟩ := Option.map_eq_some_iff.mp h1
    refine ⟨rfl, hr, fun H locs cells slots Q k => lv_icmp_le hx hb hd (tgt_some h2) (fun h => ?_) (fun h => ?_)⟩
    · have hc : cmpI .le x y = true := by
        simp only [cmpI, ofI_le hx1 hy1] at h ⊢; simpa using h
      rw [if_pos hc] at h3
      subst h3
      exact k a hL
    · have hc : ¬ cmpI .le x y = true := by
        simp only [cmpI, ofI_le hx1 hy1] at h ⊢; simpa using h
      rw [if_neg hc] at h3
      subst h3
      exact k a hL
  · cases hs
theorem sx_if_le {off : Int} (hx : p.tables.exec = Jvm.exec) (hb : c.code = cc) (hL : LR a nL ls) (hst : ∀ v ∈ st, vok v) (hd : decode cc pc = .ok (.ifCond .le off, 3)) (hs : stp P j (.ifCond .le off) 3 pc ls st u = some ((pc', (ls', st')), u')) : Sx p l e R s m args below meth c nL pc a st u pc' ls' st' u' := by
  simp only [stp] at hs
  split at hs
  · rename_i x r
    have hx1 : inR x := hst _ List.mem_cons_self
    have hy1 : inR 0 := inR_0
    have hr : ∀ v ∈ r, vok v := fun v hv => hst v (List.mem_cons_of_mem _ hv)
    obtain ⟨h1, rfl, rfl, rfl⟩ := goP_some hs
    obtain ⟨t, h2, h3⟩ := Option.map_eq_some_iff.mp h1
    refine ⟨rfl, hr, fun H locs cells slots Q k => lv_if_le hx hb hd (tgt_some h2) (fun h => ?_) (fun h => ?_)⟩
    · have hc : cmpI .le x 0 = true := by
        rw [← ofI_0] at h; simp only [cmpI, ofI_le hx1 hy1] at h ⊢; simpa using h
      rw [if_pos hc] at h3
      subst h3
      exact k a hL
    · have hc : ¬ cmpI .le x 0 = true := by
        rw [← ofI_0] at h; simp only [cmpI, ofI_le hx1 hy1] at h ⊢; simpa using h
      rw [if_neg hc] at h3
      subst h3
      exact k a hL
  · cases hs
theorem sx_table {df lo hi : Int} {offs : Array Int} (hx : p.tables.exec = Jvm.exec) (hb : c.code = cc) (hL : LR a nL ls) (hst : ∀ v ∈ st, vok v) (hd : decode cc pc = .ok (.tableswitch df lo hi offs, n)) (hs : stp P j (.tableswitch df lo hi offs) n pc ls st u = some ((pc', (ls', st')), u')) : Sx p l e R s m args below meth c nL pc a st u pc' ls' st' u' := by
  simp only [stp] at hs
  split at hs
  · rename_i x r
    have hx1 : inR x := hst _ List.mem_cons_self
    obtain ⟨h1, rfl, rfl, rfl⟩ := goP_some hs
    obtain ⟨off, h2, h3⟩ := Option.bind_eq_some_iff.mp h1
    refine ⟨rfl, fun v hv => hst v (List.mem_cons_of_mem _ hv), fun H locs cells slots Q k => ?_⟩
    unfold tsw at h2
    by_cases hc : x < lo ∨ hi < x
    · rw [if_pos hc] at h2
      cases h2
      exact lv_tableOut hx hb hd (by rw [toI hx1]; exact hc) (tgt_some h3) (k a hL)
    · rw [if_neg hc] at h2
      exact lv_tableIn hx hb hd (by rw [toI hx1]; exact fun q => hc (Or.inl q)) (by rw [toI hx1]; exact fun q => hc (Or.inr q)) (by rw [toI hx1]; exact h2) (tgt_some h3) (k a hL)
  · cases hs
theorem sx_lookup {df : Int} {ps : Array (Int × Int)} (hx : p.tables.exec = Jvm.exec) (hb : c.code = cc) (hL : LR a nL ls) (hst : ∀ v ∈ st, vok v) (hd : decode cc pc = .ok (.lookupswitch df ps, n)) (hs : stp P j (.lookupswitch df ps) n pc ls st u = some ((pc', (ls', st')), u')) : Sx p l e R s m args below meth c nL pc a st u pc' ls' st' u' := by
  simp only [stp] at hs
  split at hs
  · rename_i x r
    have hx1 : inR x := hst _ List.mem_cons_self
    split at hs
    · rename_i hp
      obtain ⟨h1, rfl, rfl, rfl⟩ := goP_some hs
      exact ⟨rfl, fun v hv => hst v (List.mem_cons_of_mem _ hv), fun H locs cells slots Q k => lv_lookup hx hb hd hp (by rw [toI hx1]) (tgt_some h1) (k a hL)⟩
    · cases hs
  · cases hs
end SX
