/-! Instructions that read or write the heap. Written by wip/whole/gen/mk23.py. -/
theorem kEl_some {u : Mm} {ok : Nat → Bool} {st st' : List Vl} (h : kEl u ok st = some st') : ∃ (x : Int) (a : Nat) (r : List Vl) (k n : Nat), st = vI x :: vR a :: r ∧ mS u a = some (k, n) ∧ ok k = true ∧ k < 100 ∧ 0 ≤ x ∧ x < (n : Int) ∧
    st' = (if k < 3 then vI (mI u a x.toNat) else if k = 3 then vL (mL u a x.toNat) else vF (mF u a x.toNat)) :: r := by
  unfold kEl at h
  split at h
  · rename_i x a r
    cases hm : mS u a with
    | none => rw [hm] at h; cases h
    | some q =>
      obtain ⟨k, n⟩ := q
      rw [hm] at h
      simp only at h
      split at h
      · rename_i hc
        cases h
        exact ⟨x, a, r, k, n, rfl, hm, hc.1, hc.2.1, hc.2.2.1, hc.2.2.2, rfl⟩
      · cases h
  · cases h
theorem kEs_some {n pc pc' kd : Nat} {ls ls' : Ls} {u u' : Mm} {f : Int → Int} {st st' : List Vl} (h : kEs n pc ls u kd f st = some ((pc', (ls', st')), u')) : ∃ (v x : Int) (a m : Nat), st = vI v :: vI x :: vR a :: st' ∧ mS u a = some (kd, m) ∧ 0 ≤ x ∧ x < (m : Int) ∧ pc' = pc + n ∧ ls' = ls ∧ u' = sI u (u2 (mI u) a x.toNat (f v)) := by
  unfold kEs at h
  split at h
  · rename_i v x a r
    cases hm : mS u a with
    | none => rw [hm] at h; cases h
    | some q =>
      obtain ⟨k, m⟩ := q
      rw [hm] at h
      simp only at h
      split at h
      · rename_i hc
        cases h
        obtain ⟨rfl, h1, h2⟩ := hc
        exact ⟨v, x, a, m, rfl, hm, h1, h2, rfl, rfl, rfl⟩
      · cases h
  · cases h
theorem kLs_some {n pc pc' : Nat} {ls ls' : Ls} {u u' : Mm} {st st' : List Vl} (h : kLs n pc ls u st = some ((pc', (ls', st')), u')) : ∃ (v : Int64) (x : Int) (a m : Nat), st = vL v :: vI x :: vR a :: st' ∧ mS u a = some (3, m) ∧ 0 ≤ x ∧ x < (m : Int) ∧ pc' = pc + n ∧ ls' = ls ∧ u' = sL u (u2 (mL u) a x.toNat v) := by
  unfold kLs at h
  split at h
  · rename_i v x a r
    cases hm : mS u a with
    | none => rw [hm] at h; cases h
    | some q =>
      obtain ⟨k, m⟩ := q
      rw [hm] at h
      simp only at h
      split at h
      · rename_i hc
        cases h
        obtain ⟨rfl, h1, h2⟩ := hc
        exact ⟨v, x, a, m, rfl, hm, h1, h2, rfl, rfl, rfl⟩
      · cases h
  · cases h
theorem kAs_some {n pc pc' : Nat} {ls ls' : Ls} {u u' : Mm} {st st' : List Vl} (h : kAs n pc ls u st = some ((pc', (ls', st')), u')) : ∃ (b : Nat) (x : Int) (a c m mb : Nat), st = vR b :: vI x :: vR a :: st' ∧ mS u a = some (4 + c, m) ∧ 4 + c < 100 ∧ mS u b = some (100 + c, mb) ∧ 0 ≤ x ∧ x < (m : Int) ∧ pc' = pc + n ∧ ls' = ls ∧ u' = sF u (u2 (mF u) a x.toNat (some b)) := by
  unfold kAs at h
  split at h
  · rename_i b x a r
    cases hm : mS u a with
    | none => rw [hm] at h; cases h
    | some q =>
      obtain ⟨k, m⟩ := q
      cases hb : mS u b with
      | none => rw [hm, hb] at h; cases h
      | some q =>
        obtain ⟨kb, mb⟩ := q
        rw [hm, hb] at h
        simp only at h
        split at h
        · rename_i hc
          cases h
          obtain ⟨h1, h2, h3, h4, h5⟩ := hc
          obtain ⟨c, rfl⟩ : ∃ c, k = 4 + c := ⟨k - 4, by omega⟩
          refine ⟨b, x, a, c, m, mb, rfl, hm, h2, ?_, h4, h5, rfl, rfl, rfl⟩
          rw [hb, h3]
          congr 2
          omega
        · cases h
  · cases h
theorem kLen_some {u : Mm} {st st' : List Vl} (h : kLen u st = some st') : ∃ (a : Nat) (r : List Vl) (k n : Nat), st = vR a :: r ∧ mS u a = some (k, n) ∧ k < 100 ∧ st' = vI n :: r := by
  unfold kLen at h
  split at h
  · rename_i a r
    cases hm : mS u a with
    | none => rw [hm] at h; cases h
    | some q =>
      obtain ⟨k, n⟩ := q
      rw [hm] at h
      simp only at h
      split at h
      · rename_i hc; cases h; exact ⟨a, r, k, n, rfl, hm, hc, rfl⟩
      · cases h
  · cases h
theorem kGet_some {u : Mm} {o : Option (Nat × (Nat × Nat))} {st st' : List Vl} (h : kGet u o st = some st') : ∃ (a : Nat) (r : List Vl) (c k t n : Nat), st = vR a :: r ∧ o = some (c, (k, t)) ∧ mS u a = some (100 + c, n) ∧ k < n ∧ st' = (if t = 1 then vL (mL u a k) else if t = 2 then vF (mF u a k) else vI (mI u a k)) :: r := by
  unfold kGet at h
  split at h
  · rename_i a r
    cases o with
    | none => cases h
    | some q =>
      obtain ⟨c, k, t⟩ := q
      cases hm : mS u a with
      | none => rw [hm] at h; cases h
      | some q =>
        obtain ⟨kd, n⟩ := q
        rw [hm] at h
        simp only at h
        split at h
        · rename_i hc
          cases h
          obtain ⟨rfl, h2⟩ := hc
          exact ⟨a, r, c, k, t, n, rfl, rfl, hm, h2, rfl⟩
        · cases h
  · cases h
theorem kPut_some {n pc pc' : Nat} {ls ls' : Ls} {u u' : Mm} {o : Option (Nat × (Nat × Nat))} {st st' : List Vl} (h : kPut n pc ls u o st = some ((pc', (ls', st')), u')) :
    (∃ (x : Int) (a c k t m : Nat), st = vI x :: vR a :: st' ∧ o = some (c, (k, t)) ∧ mS u a = some (100 + c, m) ∧ k < m ∧ (t = 0 ∨ (t = 3 ∧ (x = 0 ∨ x = 1))) ∧ pc' = pc + n ∧ ls' = ls ∧ u' = sI u (u2 (mI u) a k x)) ∨
    (∃ (r : Option Nat) (a c k m : Nat), st = vF r :: vR a :: st' ∧ o = some (c, (k, 2)) ∧ mS u a = some (100 + c, m) ∧ k < m ∧ pc' = pc + n ∧ ls' = ls ∧ u' = sF u (u2 (mF u) a k r)) := by
  unfold kPut at h
  split at h
  · rename_i x a r
    cases o with
    | none => cases h
    | some q =>
      obtain ⟨c, k, t⟩ := q
      cases hm : mS u a with
      | none => rw [hm] at h; cases h
      | some q =>
        obtain ⟨kd, m⟩ := q
        rw [hm] at h
        simp only at h
        split at h
        · rename_i hc
          cases h
          obtain ⟨rfl, h2, h3⟩ := hc
          exact Or.inl ⟨x, a, c, k, t, m, rfl, rfl, hm, h2, h3, rfl, rfl, rfl⟩
        · cases h
  · rename_i r a rr
    cases o with
    | none => cases h
    | some q =>
      obtain ⟨c, k, t⟩ := q
      cases hm : mS u a with
      | none => rw [hm] at h; cases h
      | some q =>
        obtain ⟨kd, m⟩ := q
        rw [hm] at h
        simp only at h
        split at h
        · rename_i hc
          cases h
          obtain ⟨rfl, h2, rfl⟩ := hc
          exact Or.inr ⟨r, a, c, k, m, rfl, rfl, hm, h2, rfl, rfl, rfl⟩
        · cases h
  · cases h
theorem kNa_some {n pc pc' k : Nat} {ls ls' : Ls} {u u' : Mm} {st st' : List Vl} (h : kNa n pc ls u k st = some ((pc', (ls', st')), u')) : ∃ (x : Int) (r : List Vl), st = vI x :: r ∧ 0 ≤ x ∧ x < 65536 ∧ pc' = pc + n ∧ ls' = ls ∧ st' = vR (mT u) :: r ∧ u' = mNew u k x.toNat := by
  unfold kNa at h
  split at h
  · rename_i x r
    split at h
    · rename_i hc; cases h; exact ⟨x, r, rfl, hc.1, hc.2, rfl, rfl, rfl, rfl⟩
    · cases h
  · cases h
theorem tPf_some {j k c f t : Nat} (h : tPf j k = some (c, (f, t))) : tLf (tOw j) k = some (c, (f, t)) ∧ (tFin c f = 0 ∨ (tIni j = 1 ∧ tOw j = c)) := by
  unfold tPf at h
  split at h
  · split at h
    · rename_i hl hc; cases h; exact ⟨hl, hc⟩
    · cases h
  · cases h
theorem tFin_ok : ∀ c, c < 9 → ∀ k, k < cNf c → ((cTb c k).2.2.2 = true ↔ tFin c k = 1) ∧ (tFin c k = 0 ∨ tFin c k = 1) := by decide +kernel
theorem cTy_code : ∀ c, c < 9 → ∀ k, k < cNf c → (tyF c k = 0 → cTy c k = .int) ∧ (tyF c k = 3 → cTy c k = .boolean) ∧ (tyF c k = 1 → cTy c k = .long) ∧ (tyF c k = 2 → (cTy c k).isReference = true) := by decide +kernel
theorem updV_sv {u u' : Mm} {k a i : Nat} {v : Value} (hv : svA u' k a i = v) (ho : ∀ q, q ≠ i → svA u' k a q = svA u k a q) : updV (svA u k a) i v = svA u' k a := by
  funext q
  unfold updV
  split
  · rename_i e; rw [e]; exact hv.symm
  · rename_i e; exact (ho q e).symm
section SG
variable {p : Program} {l : Launch} {e : Env} {R : Room} {s : State} {m : MethodId} {args : Array Value} {below : List Frame} {meth : Method} {c : Code} {cc : ByteArray}
variable {D : va_G} {dA : Nat → ClassId} {h0 : Nat} {H0 : Heap}
/-- a step of the small machine is the JVM's -/
def Sg (p : Program) (l : Launch) (e : Env) (R : Room) (s : State) (m : MethodId) (args : Array Value) (below : List Frame) (meth : Method) (c : Code) (D : va_G) (dA : Nat → ClassId) (h0 : Nat) (H0 : Heap) (nL pc : Nat) (a : Array Slot) (st : List Vl) (u : Mm) (pc' : Nat) (ls' : Ls) (st' : List Vl) (u' : Mm) : Prop :=
  mT u ≤ mT u' ∧ mU u ≤ mU u' ∧ ∀ (H : Heap) (locs : List Loc) (cells slots : Nat) (Q : State → Prop), HR D dA h0 H0 u H → (∀ q ∈ locs, h0 ≤ q.base) → cells + (mT u' - mT u) ≤ R.cells → slots + (mU u' - mU u) ≤ R.slots →
    (∀ (a' : Array Slot) (H' : Heap) (locs' : List Loc), LR a' nL ls' → HR D dA h0 H0 u' H' → (∀ v ∈ st', vok v) → (∀ q ∈ locs', h0 ≤ q.base) → W p l e R s m args below meth c H' locs' (cells + (mT u' - mT u)) (slots + (mU u' - mU u)) Q (F0 m pc' a' (st'.map tv))) →
    W p l e R s m args below meth c H locs cells slots Q (F0 m pc a (st.map tv))
variable {P : Pg} {j n pc pc' nL : Nat} {a : Array Slot} {ls ls' : Ls} {st st' : List Vl} {u u' : Mm}
theorem Sx.g (h : Sx p l e R s m args below meth c nL pc a st u pc' ls' st' u') : Sg p l e R s m args below meth c D dA h0 H0 nL pc a st u pc' ls' st' u' := by
  obtain ⟨rfl, hv, k⟩ := h
  refine ⟨Nat.le_refl _, Nat.le_refl _, fun H locs cells slots Q hR hl _ _ kk => k H locs cells slots Q fun a' ha => ?_⟩
  have := kk a' H locs ha hR hv hl
  simpa only [Nat.sub_self, Nat.add_zero] using this
theorem w_00 {H : Heap} {locs : List Loc} {cells slots x y : Nat} {Q : State → Prop} {g : JFrame} (k : W p l e R s m args below meth c H locs (cells + (x - x)) (slots + (y - y)) Q g) : W p l e R s m args below meth c H locs cells slots Q g := by
  rw [Nat.sub_self, Nat.sub_self, Nat.add_zero, Nat.add_zero] at k
  exact k
theorem loc_app {locs : List Loc} {b k : Nat} (hl : ∀ q ∈ locs, h0 ≤ q.base) (hb : h0 ≤ b) : ∀ q ∈ locs ++ [⟨b, k⟩], h0 ≤ q.base := by
  intro q hq
  rcases List.mem_append.mp hq with h | h
  · exact hl q h
  · rw [List.mem_singleton.mp h]; exact hb
theorem sg_iaload  (hx : p.tables.exec = Jvm.exec) (hb : c.code = cc) (hK : SK D dA P s) (hL : LR a nL ls) (hst : ∀ v ∈ st, vok v) (hd : decode cc pc = .ok (.iaload, 1)) (hs : stp P j (.iaload) 1 pc ls st u = some ((pc', (ls', st')), u')) : Sg p l e R s m args below meth c D dA h0 H0 nL pc a st u pc' ls' st' u' := by
  obtain ⟨h1, rfl, rfl, rfl⟩ := goS_some hs
  obtain ⟨x, b, r, k, n, rfl, hm, hok, hk, hx0, hxn, rfl⟩ := kEl_some h1
  have hk0 : k = 0 := by simpa using hok
  subst hk0
  have hxr : inR x := hst _ List.mem_cons_self
  refine ⟨Nat.le_refl _, Nat.le_refl _, fun H locs cells slots Q hR hl _ _ kk => ?_⟩
  obtain ⟨⟨ho, h65⟩, hc⟩ := hR.2.2.2.2.1 b _ _ hm hk
  refine W.iald (v := tv (vI (mI u' b x.toNat))) hx hb hc ((hK.2.2.1 _ ho).1 _ _) (fun q => by cases q) (by rw [arrV_size]; exact ofI_in hxr hx0 hxn) ?_ rfl rfl hd ?_
  · rw [ofI_clamp hxr hx0, arrV_read _ _ (by omega)]
    rfl
  · exact w_00 (x := mT u') (y := mU u') (kk a H locs hL hR (List.forall_mem_cons.mpr ⟨hR.2.2.2.2.2.2.1 b x.toNat, fun v hv => hst v (List.mem_cons_of_mem _ (List.mem_cons_of_mem _ hv))⟩) hl)
theorem sg_caload  (hx : p.tables.exec = Jvm.exec) (hb : c.code = cc) (hK : SK D dA P s) (hL : LR a nL ls) (hst : ∀ v ∈ st, vok v) (hd : decode cc pc = .ok (.caload, 1)) (hs : stp P j (.caload) 1 pc ls st u = some ((pc', (ls', st')), u')) : Sg p l e R s m args below meth c D dA h0 H0 nL pc a st u pc' ls' st' u' := by
  obtain ⟨h1, rfl, rfl, rfl⟩ := goS_some hs
  obtain ⟨x, b, r, k, n, rfl, hm, hok, hk, hx0, hxn, rfl⟩ := kEl_some h1
  have hk0 : k = 1 := by simpa using hok
  subst hk0
  have hxr : inR x := hst _ List.mem_cons_self
  refine ⟨Nat.le_refl _, Nat.le_refl _, fun H locs cells slots Q hR hl _ _ kk => ?_⟩
  obtain ⟨⟨ho, h65⟩, hc⟩ := hR.2.2.2.2.1 b _ _ hm hk
  refine W.cald (v := tv (vI (mI u' b x.toNat))) hx hb hc ((hK.2.2.1 _ ho).1 _ _) (fun q => by cases q) (by rw [arrV_size]; exact ofI_in hxr hx0 hxn) ?_ rfl rfl hd ?_
  · rw [ofI_clamp hxr hx0, arrV_read _ _ (by omega)]
    rfl
  · exact w_00 (x := mT u') (y := mU u') (kk a H locs hL hR (List.forall_mem_cons.mpr ⟨hR.2.2.2.2.2.2.1 b x.toNat, fun v hv => hst v (List.mem_cons_of_mem _ (List.mem_cons_of_mem _ hv))⟩) hl)
theorem sg_baload  (hx : p.tables.exec = Jvm.exec) (hb : c.code = cc) (hK : SK D dA P s) (hL : LR a nL ls) (hst : ∀ v ∈ st, vok v) (hd : decode cc pc = .ok (.baload, 1)) (hs : stp P j (.baload) 1 pc ls st u = some ((pc', (ls', st')), u')) : Sg p l e R s m args below meth c D dA h0 H0 nL pc a st u pc' ls' st' u' := by
  obtain ⟨h1, rfl, rfl, rfl⟩ := goS_some hs
  obtain ⟨x, b, r, k, n, rfl, hm, hok, hk, hx0, hxn, rfl⟩ := kEl_some h1
  have hk0 : k = 2 := by simpa using hok
  subst hk0
  have hxr : inR x := hst _ List.mem_cons_self
  refine ⟨Nat.le_refl _, Nat.le_refl _, fun H locs cells slots Q hR hl _ _ kk => ?_⟩
  obtain ⟨⟨ho, h65⟩, hc⟩ := hR.2.2.2.2.1 b _ _ hm hk
  refine W.zald (v := tv (vI (mI u' b x.toNat))) hx hb hc ((hK.2.2.1 _ ho).1 _ _) (fun q => by cases q) (by rw [arrV_size]; exact ofI_in hxr hx0 hxn) ?_ rfl rfl hd ?_
  · rw [ofI_clamp hxr hx0, arrV_read _ _ (by omega)]
    rfl
  · exact w_00 (x := mT u') (y := mU u') (kk a H locs hL hR (List.forall_mem_cons.mpr ⟨hR.2.2.2.2.2.2.1 b x.toNat, fun v hv => hst v (List.mem_cons_of_mem _ (List.mem_cons_of_mem _ hv))⟩) hl)
theorem sg_laload  (hx : p.tables.exec = Jvm.exec) (hb : c.code = cc) (hK : SK D dA P s) (hL : LR a nL ls) (hst : ∀ v ∈ st, vok v) (hd : decode cc pc = .ok (.laload, 1)) (hs : stp P j (.laload) 1 pc ls st u = some ((pc', (ls', st')), u')) : Sg p l e R s m args below meth c D dA h0 H0 nL pc a st u pc' ls' st' u' := by
  obtain ⟨h1, rfl, rfl, rfl⟩ := goS_some hs
  obtain ⟨x, b, r, k, n, rfl, hm, hok, hk, hx0, hxn, rfl⟩ := kEl_some h1
  have hk0 : k = 3 := by simpa using hok
  subst hk0
  have hxr : inR x := hst _ List.mem_cons_self
  refine ⟨Nat.le_refl _, Nat.le_refl _, fun H locs cells slots Q hR hl _ _ kk => ?_⟩
  obtain ⟨⟨ho, h65⟩, hc⟩ := hR.2.2.2.2.1 b _ _ hm hk
  refine W.lald (v := tv (vL (mL u' b x.toNat))) hx hb hc ((hK.2.2.1 _ ho).1 _ _) (fun q => by cases q) (by rw [arrV_size]; exact ofI_in hxr hx0 hxn) ?_ rfl rfl hd ?_
  · rw [ofI_clamp hxr hx0, arrV_read _ _ (by omega)]
    rfl
  · exact w_00 (x := mT u') (y := mU u') (kk a H locs hL hR (List.forall_mem_cons.mpr ⟨trivial, fun v hv => hst v (List.mem_cons_of_mem _ (List.mem_cons_of_mem _ hv))⟩) hl)
theorem sg_aaload  (hx : p.tables.exec = Jvm.exec) (hb : c.code = cc) (hK : SK D dA P s) (hL : LR a nL ls) (hst : ∀ v ∈ st, vok v) (hd : decode cc pc = .ok (.aaload, 1)) (hs : stp P j (.aaload) 1 pc ls st u = some ((pc', (ls', st')), u')) : Sg p l e R s m args below meth c D dA h0 H0 nL pc a st u pc' ls' st' u' := by
  obtain ⟨h1, rfl, rfl, rfl⟩ := goS_some hs
  obtain ⟨x, b, r, k, n, rfl, hm, hok, hk, hx0, hxn, rfl⟩ := kEl_some h1
  have hk0 : 4 ≤ k := by simpa using hok
  obtain ⟨c0, rfl⟩ : ∃ c0, k = c0 + 4 := ⟨k - 4, by omega⟩
  have hxr : inR x := hst _ List.mem_cons_self
  refine ⟨Nat.le_refl _, Nat.le_refl _, fun H locs cells slots Q hR hl _ _ kk => ?_⟩
  obtain ⟨⟨ho, h65⟩, hc⟩ := hR.2.2.2.2.1 b _ _ hm hk
  have e1 : (if c0 + 4 < 3 then vI (mI u' b x.toNat) else if c0 + 4 = 3 then vL (mL u' b x.toNat) else vF (mF u' b x.toNat)) = vF (mF u' b x.toNat) := by
    rw [if_neg (by omega), if_neg (by omega)]
  rw [e1] at kk
  refine W.aald (v := tv (vF (mF u' b x.toNat))) (ty := aT (c0 + 4)) hx hb hc ((hK.2.2.1 _ ho).1 _ _) rfl (fun q => by cases q) (by rw [arrV_size]; exact ofI_in hxr hx0 hxn) ?_ rfl rfl hd ?_
  · rw [ofI_clamp hxr hx0, arrV_read _ _ (by omega)]
    show some (svA u' (c0 + 4) b x.toNat) = _
    unfold svA
    rw [if_neg (by omega), if_neg (by omega)]
    rfl
  · exact w_00 (x := mT u') (y := mU u') (kk a H locs hL hR (List.forall_mem_cons.mpr ⟨trivial, fun v hv => hst v (List.mem_cons_of_mem _ (List.mem_cons_of_mem _ hv))⟩) hl)
theorem nar_char {v : Int} (h : inR v) : narrow .char (.int (Int32.ofInt v)) = .int (Int32.ofInt (v % 65536)) := by
  have e := vp_nar_char (Int32.ofInt v)
  unfold vp_nar at e
  have e2 : narrow .char (.int (Int32.ofInt v)) = .int ((Int32.ofInt v).toUInt32.toUInt16.toUInt32.toInt32) := rfl
  have e3 : (Int32.ofInt v).toUInt32.toUInt16.toUInt32.toInt32 = ((Int32.ofInt v).toUInt32 % 65536).toInt32 := by
    have : (Int32.ofInt v).toUInt32.toUInt16.toUInt32 = (Int32.ofInt v).toUInt32 % 65536 := by
      apply UInt32.toNat_inj.mp
      simp
    rw [this]
  rw [e2, e3, ofI_char h]
theorem inR_mod {v k : Int} (h0 : 0 < k) (h : k ≤ 65536) : inR (v % k) := by
  have h1 : 0 ≤ v % k := Int.emod_nonneg _ (by omega)
  have h2 : v % k < k := Int.emod_lt_of_pos _ h0
  exact ⟨by omega, by omega⟩
theorem nar_bool {v : Int} (h : inR v) : narrow .boolean (.int (Int32.ofInt v)) = .int (Int32.ofInt (v % 2)) := by
  have e2 : narrow .boolean (.int (Int32.ofInt v)) = .int (Int32.ofInt v &&& 1) := rfl
  rw [e2]
  congr 1
  have h1 := pk_and (Int32.ofInt v) (m := 1) 1 (by decide)
  rw [h1]
  have e1 : ((Int32.ofInt v).toBitVec.toNat : Int) = v % 4294967296 := by
    have : (Int32.ofInt v).toBitVec = BitVec.ofInt 32 v := rfl
    rw [this, BitVec.toNat_ofInt]
    omega
  show Int32.ofNat _ = _
  rw [← ofI_nat]
  congr 1
  omega
theorem sg_iastore  (hx : p.tables.exec = Jvm.exec) (hb : c.code = cc) (hK : SK D dA P s) (hL : LR a nL ls) (hst : ∀ v ∈ st, vok v) (hd : decode cc pc = .ok (.iastore, 1)) (hs : stp P j (.iastore) 1 pc ls st u = some ((pc', (ls', st')), u')) : Sg p l e R s m args below meth c D dA h0 H0 nL pc a st u pc' ls' st' u' := by
  obtain ⟨v, x, b, m0, rfl, hm, hx0, hxn, rfl, rfl, rfl⟩ := kEs_some hs
  have hvr : inR v := hst _ List.mem_cons_self
  have hxr : inR x := hst _ (List.mem_cons_of_mem _ List.mem_cons_self)
  refine ⟨Nat.le_refl _, Nat.le_refl _, fun H locs cells slots Q hR hl _ _ kk => ?_⟩
  obtain ⟨⟨ho, h65⟩, hc⟩ := hR.2.2.2.2.1 b _ _ hm (by decide)
  have hb0 := (hR.2.2.2.1 b _ hm).1
  refine W.iast hx hb hc ((hK.2.2.1 _ ho).1 _ _) (fun q => by cases q) (by rw [arrV_size]; exact ofI_in hxr hx0 hxn) rfl rfl hd fun H' e1 e2 e3 => ?_
  rw [ofI_clamp hxr hx0, arrV_store] at e1
  have hR' : HR D dA h0 H0 (sI u (u2 (mI u) b x.toNat v)) H' := by
    refine hR.wI hm hvr (fun n hn => by rw [hm] at hn; simp at hn) hb0 e2 e3 (fun k n hk hk2 => ?_) (fun c n hk => ?_)
    · rw [hm] at hk
      cases hk
      rw [e1]
      congr 2
      exact updV_sv (u' := sI u (u2 (mI u) b x.toNat v)) (by show Value.int (Int32.ofInt (u2 (mI u) b x.toNat v b x.toNat)) = _; rw [u2_at]) (fun q hq => by show Value.int (Int32.ofInt (u2 (mI u) b x.toNat v b q)) = _; rw [u2_ni hq]; rfl)
    · rw [hm] at hk
      exact absurd (congrArg (fun q => q.map Prod.fst) hk) (by simp; omega)
  exact w_00 (x := mT u) (y := mU u) (kk a H' _ hL hR' (fun v hv => hst v (List.mem_cons_of_mem _ (List.mem_cons_of_mem _ (List.mem_cons_of_mem _ hv)))) (loc_app (k := (Int32.ofInt x).toNatClampNeg) hl hb0))
theorem sg_castore  (hx : p.tables.exec = Jvm.exec) (hb : c.code = cc) (hK : SK D dA P s) (hL : LR a nL ls) (hst : ∀ v ∈ st, vok v) (hd : decode cc pc = .ok (.castore, 1)) (hs : stp P j (.castore) 1 pc ls st u = some ((pc', (ls', st')), u')) : Sg p l e R s m args below meth c D dA h0 H0 nL pc a st u pc' ls' st' u' := by
  obtain ⟨v, x, b, m0, rfl, hm, hx0, hxn, rfl, rfl, rfl⟩ := kEs_some hs
  have hvr : inR v := hst _ List.mem_cons_self
  have hxr : inR x := hst _ (List.mem_cons_of_mem _ List.mem_cons_self)
  refine ⟨Nat.le_refl _, Nat.le_refl _, fun H locs cells slots Q hR hl _ _ kk => ?_⟩
  obtain ⟨⟨ho, h65⟩, hc⟩ := hR.2.2.2.2.1 b _ _ hm (by decide)
  have hb0 := (hR.2.2.2.1 b _ hm).1
  refine W.cast hx hb hc ((hK.2.2.1 _ ho).1 _ _) (fun q => by cases q) (by rw [arrV_size]; exact ofI_in hxr hx0 hxn) rfl rfl hd fun H' e1 e2 e3 => ?_
  rw [nar_char hvr] at e1
  rw [ofI_clamp hxr hx0, arrV_store] at e1
  have hR' : HR D dA h0 H0 (sI u (u2 (mI u) b x.toNat (v % 65536))) H' := by
    refine hR.wI hm (inR_mod (by decide) (by decide)) (fun n hn => ⟨Int.emod_nonneg _ (by decide), Int.emod_lt_of_pos _ (by decide)⟩) hb0 e2 e3 (fun k n hk hk2 => ?_) (fun c n hk => ?_)
    · rw [hm] at hk
      cases hk
      rw [e1]
      congr 2
      exact updV_sv (u' := sI u (u2 (mI u) b x.toNat (v % 65536))) (by show Value.int (Int32.ofInt (u2 (mI u) b x.toNat (v % 65536) b x.toNat)) = _; rw [u2_at]) (fun q hq => by show Value.int (Int32.ofInt (u2 (mI u) b x.toNat (v % 65536) b q)) = _; rw [u2_ni hq]; rfl)
    · rw [hm] at hk
      exact absurd (congrArg (fun q => q.map Prod.fst) hk) (by simp; omega)
  exact w_00 (x := mT u) (y := mU u) (kk a H' _ hL hR' (fun v hv => hst v (List.mem_cons_of_mem _ (List.mem_cons_of_mem _ (List.mem_cons_of_mem _ hv)))) (loc_app (k := (Int32.ofInt x).toNatClampNeg) hl hb0))
theorem sg_bastore  (hx : p.tables.exec = Jvm.exec) (hb : c.code = cc) (hK : SK D dA P s) (hL : LR a nL ls) (hst : ∀ v ∈ st, vok v) (hd : decode cc pc = .ok (.bastore, 1)) (hs : stp P j (.bastore) 1 pc ls st u = some ((pc', (ls', st')), u')) : Sg p l e R s m args below meth c D dA h0 H0 nL pc a st u pc' ls' st' u' := by
  obtain ⟨v, x, b, m0, rfl, hm, hx0, hxn, rfl, rfl, rfl⟩ := kEs_some hs
  have hvr : inR v := hst _ List.mem_cons_self
  have hxr : inR x := hst _ (List.mem_cons_of_mem _ List.mem_cons_self)
  refine ⟨Nat.le_refl _, Nat.le_refl _, fun H locs cells slots Q hR hl _ _ kk => ?_⟩
  obtain ⟨⟨ho, h65⟩, hc⟩ := hR.2.2.2.2.1 b _ _ hm (by decide)
  have hb0 := (hR.2.2.2.1 b _ hm).1
  refine W.zast hx hb hc ((hK.2.2.1 _ ho).1 _ _) (fun q => by cases q) (by rw [arrV_size]; exact ofI_in hxr hx0 hxn) rfl rfl hd fun H' e1 e2 e3 => ?_
  rw [nar_bool hvr] at e1
  rw [ofI_clamp hxr hx0, arrV_store] at e1
  have hR' : HR D dA h0 H0 (sI u (u2 (mI u) b x.toNat (v % 2))) H' := by
    refine hR.wI hm (inR_mod (by decide) (by decide)) (fun n hn => by rw [hm] at hn; simp at hn) hb0 e2 e3 (fun k n hk hk2 => ?_) (fun c n hk => ?_)
    · rw [hm] at hk
      cases hk
      rw [e1]
      congr 2
      exact updV_sv (u' := sI u (u2 (mI u) b x.toNat (v % 2))) (by show Value.int (Int32.ofInt (u2 (mI u) b x.toNat (v % 2) b x.toNat)) = _; rw [u2_at]) (fun q hq => by show Value.int (Int32.ofInt (u2 (mI u) b x.toNat (v % 2) b q)) = _; rw [u2_ni hq]; rfl)
    · rw [hm] at hk
      exact absurd (congrArg (fun q => q.map Prod.fst) hk) (by simp; omega)
  exact w_00 (x := mT u) (y := mU u) (kk a H' _ hL hR' (fun v hv => hst v (List.mem_cons_of_mem _ (List.mem_cons_of_mem _ (List.mem_cons_of_mem _ hv)))) (loc_app (k := (Int32.ofInt x).toNatClampNeg) hl hb0))
theorem sg_lastore  (hx : p.tables.exec = Jvm.exec) (hb : c.code = cc) (hK : SK D dA P s) (hL : LR a nL ls) (hst : ∀ v ∈ st, vok v) (hd : decode cc pc = .ok (.lastore, 1)) (hs : stp P j (.lastore) 1 pc ls st u = some ((pc', (ls', st')), u')) : Sg p l e R s m args below meth c D dA h0 H0 nL pc a st u pc' ls' st' u' := by
  obtain ⟨v, x, b, m0, rfl, hm, hx0, hxn, rfl, rfl, rfl⟩ := kLs_some hs
  have hxr : inR x := hst _ (List.mem_cons_of_mem _ List.mem_cons_self)
  refine ⟨Nat.le_refl _, Nat.le_refl _, fun H locs cells slots Q hR hl _ _ kk => ?_⟩
  obtain ⟨⟨ho, h65⟩, hc⟩ := hR.2.2.2.2.1 b _ _ hm (by decide)
  have hb0 := (hR.2.2.2.1 b _ hm).1
  refine W.last hx hb hc ((hK.2.2.1 _ ho).1 _ _) (fun q => by cases q) (by rw [arrV_size]; exact ofI_in hxr hx0 hxn) rfl rfl hd fun H' e1 e2 e3 => ?_
  rw [ofI_clamp hxr hx0, arrV_store] at e1
  have hR' : HR D dA h0 H0 (sL u (u2 (mL u) b x.toNat v)) H' := by
    refine hR.wL hm hb0 e2 e3 (fun k n hk hk2 => ?_) (fun c n hk => ?_)
    · rw [hm] at hk
      cases hk
      rw [e1]
      congr 2
      exact updV_sv (u' := sL u (u2 (mL u) b x.toNat v)) (by show Value.long (u2 (mL u) b x.toNat v b x.toNat) = _; rw [u2_at]) (fun q hq => by show Value.long (u2 (mL u) b x.toNat v b q) = _; rw [u2_ni hq]; rfl)
    · rw [hm] at hk
      exact absurd (congrArg (fun q => q.map Prod.fst) hk) (by simp; omega)
  exact w_00 (x := mT u) (y := mU u) (kk a H' _ hL hR' (fun v hv => hst v (List.mem_cons_of_mem _ (List.mem_cons_of_mem _ (List.mem_cons_of_mem _ hv)))) (loc_app (k := (Int32.ofInt x).toNatClampNeg) hl hb0))
theorem sg_aastore  (hx : p.tables.exec = Jvm.exec) (hb : c.code = cc) (hK : SK D dA P s) (hL : LR a nL ls) (hst : ∀ v ∈ st, vok v) (hd : decode cc pc = .ok (.aastore, 1)) (hs : stp P j (.aastore) 1 pc ls st u = some ((pc', (ls', st')), u')) : Sg p l e R s m args below meth c D dA h0 H0 nL pc a st u pc' ls' st' u' := by
  obtain ⟨v, x, b, c0, m0, mb, rfl, hm, hc1, hmb, hx0, hxn, rfl, rfl, rfl⟩ := kAs_some hs
  have hxr : inR x := hst _ (List.mem_cons_of_mem _ List.mem_cons_self)
  refine ⟨Nat.le_refl _, Nat.le_refl _, fun H locs cells slots Q hR hl _ _ kk => ?_⟩
  obtain ⟨⟨ho, h65⟩, hc⟩ := hR.2.2.2.2.1 b _ _ hm hc1
  have hb0 := (hR.2.2.2.1 b _ hm).1
  obtain ⟨hc9, -, cell, g1, g2, g3, -⟩ := hR.2.2.2.2.2.1 v _ _ hmb
  obtain ⟨-, hfc, kC, hkC, hkind⟩ := hK.kn hc9
  have hra := (hK.2.2.1 _ ho).2
  have hae : aT (4 + c0) = .object (cNm c0) := by rw [Nat.add_comm]; rfl
  rw [hae] at hra
  obtain ⟨kA, comp, a1, a2, a3, -⟩ := hra
  have hcomp : comp = D.1 c0 := Option.some.inj (a3.symm.trans hfc)
  subst hcomp
  refine W.aast hx hb hc (fun q => by intro h; cases h) (fun q => by cases q) a1 a2 rfl hkC (by rw [arrV_size, ofI_clamp hxr hx0]; exact ⟨by rw [← ofI_0, ofI_lt hxr inR_0]; omega, by omega⟩) g1 (fun q => by rw [g3]; intro h; cases h) (by rw [g2]; exact hkC) (by rw [g2]; exact va_assign ⟨hfc, kC, hkC, hkind⟩) rfl rfl hd fun H' e1 e2 e3 => ?_
  rw [ofI_clamp hxr hx0, arrV_store] at e1
  have hR' : HR D dA h0 H0 (sF u (u2 (mF u) b x.toNat (some v))) H' := by
    refine hR.wF hm hb0 e2 e3 (fun k n hk hk2 => ?_) (fun c n hk => ?_)
    · rw [hm] at hk
      cases hk
      rw [e1]
      congr 2
      have n1 : ¬ 4 + c0 < 3 := by omega
      have n2 : ¬ 4 + c0 = 3 := by omega
      exact updV_sv (u' := sF u (u2 (mF u) b x.toNat (some v))) (by simp only [svA, if_neg n1, if_neg n2]; show va_rf (u2 (mF u) b x.toNat (some v) b x.toNat) = _; rw [u2_at]; rfl) (fun q hq => by simp only [svA, if_neg n1, if_neg n2]; show va_rf (u2 (mF u) b x.toNat (some v) b q) = _; rw [u2_ni hq])
    · rw [hm] at hk
      exact absurd (congrArg (fun q => q.map Prod.fst) hk) (by simp; omega)
  exact w_00 (x := mT u) (y := mU u) (kk a H' _ hL hR' (fun v hv => hst v (List.mem_cons_of_mem _ (List.mem_cons_of_mem _ (List.mem_cons_of_mem _ hv)))) (loc_app (k := (Int32.ofInt x).toNatClampNeg) hl hb0))
theorem sg_arraylength  (hx : p.tables.exec = Jvm.exec) (hb : c.code = cc) (hK : SK D dA P s) (hL : LR a nL ls) (hst : ∀ v ∈ st, vok v) (hd : decode cc pc = .ok (.arraylength, 1)) (hs : stp P j (.arraylength) 1 pc ls st u = some ((pc', (ls', st')), u')) : Sg p l e R s m args below meth c D dA h0 H0 nL pc a st u pc' ls' st' u' := by
  obtain ⟨h1, rfl, rfl, rfl⟩ := goS_some hs
  obtain ⟨b, r, k, n, rfl, hm, hk, rfl⟩ := kLen_some h1
  refine ⟨Nat.le_refl _, Nat.le_refl _, fun H locs cells slots Q hR hl _ _ kk => ?_⟩
  obtain ⟨⟨ho, h65⟩, hc⟩ := hR.2.2.2.2.1 b _ _ hm hk
  refine W.alen (n := Int32.ofNat n) hx hb hc ((hK.2.2.1 _ ho).1 _ _) (by rw [arrV_size] <;> rfl) rfl rfl hd ?_
  exact w_00 (x := mT u') (y := mU u') (kk a H locs hL hR (List.forall_mem_cons.mpr ⟨(show inR (n : Int) from ⟨by omega, by omega⟩), fun v hv => hst v (List.mem_cons_of_mem _ hv)⟩) hl)
theorem svF_2 {u : Mm} {a i : Nat} : svF u 2 a i = va_rf (mF u a i) := rfl
theorem svF_1 {u : Mm} {a i : Nat} : svF u 1 a i = .long (mL u a i) := rfl
theorem svF_o {u : Mm} {t a i : Nat} (h1 : t ≠ 1) (h2 : t ≠ 2) : svF u t a i = .int (Int32.ofInt (mI u a i)) := by unfold svF; rw [if_neg h1, if_neg h2]
theorem svF_tv {u : Mm} {t a i : Nat} : svF u t a i = tv (if t = 1 then vL (mL u a i) else if t = 2 then vF (mF u a i) else vI (mI u a i)) := by
  unfold svF
  split
  · rfl
  · split <;> rfl
theorem sg_getfield {k0 : Nat} (hx : p.tables.exec = Jvm.exec) (hb : c.code = cc) (hK : SK D dA P s) (hL : LR a nL ls) (hst : ∀ v ∈ st, vok v) (hown : s.vm.findClass (cNm (tOw j)) = some m.cls) (hd : decode cc pc = .ok (.getfield k0, 3)) (hs : stp P j (.getfield k0) 3 pc ls st u = some ((pc', (ls', st')), u')) : Sg p l e R s m args below meth c D dA h0 H0 nL pc a st u pc' ls' st' u' := by
  obtain ⟨h1, rfl, rfl, rfl⟩ := goS_some hs
  obtain ⟨b, r, c0, k, t, n, rfl, hl, hm, hk, rfl⟩ := kGet_some h1
  refine ⟨Nat.le_refl _, Nat.le_refl _, fun H locs cells slots Q hR hlc _ _ kk => ?_⟩
  obtain ⟨hc9, rfl, cell, g1, g2, g3, g4⟩ := hR.2.2.2.2.2.1 b _ _ hm
  obtain ⟨-, hkn, hty, hw⟩ := lf_ok hl
  obtain ⟨hS, hfc, kC, hkC, hkind⟩ := hK.kn hc9
  obtain ⟨cf, kf, fi, f, hi, hsl⟩ := hS k hk
  have hst0 := (u_facts hfc hkC (hK.lays hc9 hk args) hi).1
  have hi2 : s.fieldFound? (cNm c0) (cTb c0 k).2.1 (cTb c0 k).2.2.1 = some (cf, kf, fi, f) := by rw [← cOwn c0 hc9 k hk]; exact hi
  have hv : cell.slots[f.slot]? = some (tv (if t = 1 then vL (mL u' b k) else if t = 2 then vF (mF u' b k) else vI (mI u' b k))) := by
    rw [hsl, g4 k hk]
    show some (svF u' (tyF c0 k) b k) = _
    rw [hty]
    congr 1
    exact svF_tv
  have hvok : vok (if t = 1 then vL (mL u' b k) else if t = 2 then vF (mF u' b k) else vI (mI u' b k)) := by
    split
    · trivial
    · split
      · trivial
      · exact hR.2.2.2.2.2.2.1 b k
  have K := w_00 (x := mT u') (y := mU u') (kk a H locs hL hR (List.forall_mem_cons.mpr ⟨hvok, fun v hv => hst v (List.mem_cons_of_mem _ hv)⟩) hlc)
  rcases hw with hw | hw
  · exact va_Wgetf hx hb hown (hK.w hw rfl args) hi2 hst0 g1 (by rw [g3]; exact fun h => by cases h) hv rfl rfl hd K
  · exact W.getf hx hb hown (hK.w hw rfl args) hi2 hst0 g1 (by rw [g3]; exact fun h => by cases h) hv rfl rfl hd K
theorem updV_svF {u u' : Mm} {c0 k a : Nat} {v : Value} (hv : svF u' (tyF c0 k) a k = v) (ho : ∀ q, q ≠ k → svF u' (tyF c0 q) a q = svF u (tyF c0 q) a q) : ∀ q, updV (fun q => svF u (tyF c0 q) a q) k v q = svF u' (tyF c0 q) a q := by
  intro q
  unfold updV
  split
  · rename_i e; rw [e]; exact hv.symm
  · rename_i e; exact (ho q e).symm
theorem fit_bool {x : Int} (h : x = 0 ∨ x = 1) : narrow .boolean (.int (Int32.ofInt x)) = .int (Int32.ofInt x) ∧ fits .boolean (.int (Int32.ofInt x)) = true := by
  rcases h with rfl | rfl <;> exact ⟨by decide, by decide⟩
theorem fit_ref {ty : FieldType} (h : ty.isReference = true) (r : Option Nat) : narrow ty (va_rf r) = va_rf r ∧ fits ty (va_rf r) = true := by
  cases ty <;> simp [FieldType.isReference] at h <;> cases r <;> exact ⟨rfl, rfl⟩
/-- a store into a field: the machine's side of it -/
theorem sg_store {k0 c0 k b : Nat} {cell : Cell} {v : Value} {H : Heap} {locs : List Loc} {cells slots : Nat} {Q : State → Prop} {st : List Value} {ss : Array Slot} (hx : p.tables.exec = Jvm.exec) (hb : c.code = cc) (hK : SK D dA P s) (hown : s.vm.findClass (cNm (tOw j)) = some m.cls) (hini : tIni j = 1 → meth.name = "<init>")
    {t : Nat} (hl : tPf j k0 = some (c0, (k, t))) (g1 : H[b]? = some cell) (g2 : cell.cls = D.1 c0) (g3 : cell.vm = .none) {V : Nat → Value} (g4 : ∀ q, q < cNf c0 → cell.slots[D.2 c0 q]? = some (V q)) (hn : narrow (cTy c0 k) v = v) (hf : fits (cTy c0 k) v = true) (hd : decode cc pc = .ok (.putfield k0, 3))
    (kk : ∀ (H' : Heap) (z : Nat), H'.size = H.size → (∀ q, q ≠ b → H'[q]? = H[q]?) → t_OB b (D.1 c0) (cNf c0) (D.2 c0) H' (updV V k v) → W p l e R s m args below meth c H' (locs ++ [⟨b, z⟩]) cells slots Q (F0 m (pc + 3) ss st)) :
    W p l e R s m args below meth c H locs cells slots Q (F0 m pc ss (v :: .ref b :: st)) := by
  obtain ⟨hl, hfin⟩ := tPf_some hl
  obtain ⟨hc9, hk, hty, hw⟩ := lf_ok hl
  obtain ⟨hS, hfc, kC, hkC, hkind⟩ := hK.kn hc9
  obtain ⟨cf, kf, fi, f, hi, hsl⟩ := hS k hk
  have hst0 := (u_facts hfc hkC (hK.lays hc9 hk args) hi).1
  have hi2 : s.fieldFound? (cNm c0) (cTb c0 k).2.1 (cTb c0 k).2.2.1 = some (cf, kf, fi, f) := by rw [← cOwn c0 hc9 k hk]; exact hi
  have hm := lay_in hc9 _ (u_in_lay (C := cNm c0) (T := cTb c0) hk)
  unfold u_lay at hm
  have hend : ∀ H' : Heap, H'[b]? = some (cell.setSlot f.slot v) → H'.size = H.size → (∀ q, q ≠ b → H'[q]? = H[q]?) → W p l e R s m args below meth c H' (locs ++ [⟨b, f.slot⟩]) cells slots Q (F0 m (pc + 3) ss st) := by
    intro H' e1 e2 e3
    rw [hsl] at e1
    exact kk H' f.slot e2 e3 ⟨_, e1, g2, g3, t_set g4 (hK.apart hc9) hk v⟩
  have hlt : f.slot < cell.slots.size := by rw [hsl]; exact k2_hasslot (g4 k hk)
  by_cases hF : (cTb c0 k).2.2.2 = true
  · rw [if_pos hF] at hm
    have hlay := hK.w hm rfl args
    have h6 := u_fits hfc hkC hkind (Or.inr hlay) hi (cTy_ok c0 hc9 k hk) hn hf
    have h1 := ((tFin_ok c0 hc9 k hk).1.mp hF)
    rcases hfin with h0 | ⟨hi1, ho⟩
    · omega
    · have hcf : m.cls = cf := by
        obtain ⟨_, _, c', _, _, _, -, -, hf', -, -, -, hown2, -⟩ := Cond.laysFinal_spec hlay
        have e1 : c' = cf := by have := hi.symm.trans hf'; simp at this; exact this.1.symm
        rw [cOwn c0 hc9 k hk, ← ho] at hown2
        rw [← e1]; exact Option.some.inj (hown.symm.trans hown2)
      rcases hw with hw | hw
      · exact va_Wputf hx hb hown (hK.w hw rfl args) hi2 hst0 (Or.inr ⟨hcf, hini hi1⟩) g1 (by rw [g3]; exact fun h => by cases h) hlt h6.1 (by rw [g2, g3]; exact h6.2) rfl rfl hd (hend _ (by rw [Array.getElem?_setIfInBounds]; simp [(Array.getElem?_eq_some_iff.mp g1).1]) (by simp) (fun q hq => Array.getElem?_setIfInBounds_ne (Ne.symm hq)))
      · exact W.putFinK hx hb hown (hK.w hw rfl args) hi2 hst0 hcf (hini hi1) (by rw [g2]; exact h6) g1 g3 hlt rfl rfl hd hend
  · rw [if_neg hF] at hm
    have hlay := hK.w hm rfl args
    have h6 := u_store hfc hkC hkind hlay hi (cTy_ok c0 hc9 k hk) hn hf
    rcases hw with hw | hw
    · exact va_WputK hx hb hown (hK.w hw rfl args) hi2 hst0 (by rw [g2]; exact h6) g1 g3 hlt rfl rfl hd hend
    · exact W.putK hx hb (f := f) ⟨hown, hK.w hw rfl args, ⟨_, _, _, hi2⟩, hst0⟩ (by rw [g2]; exact h6) g1 g3 hlt rfl rfl hd hend
theorem sg_putfield {k0 : Nat} (hx : p.tables.exec = Jvm.exec) (hb : c.code = cc) (hK : SK D dA P s) (hL : LR a nL ls) (hst : ∀ v ∈ st, vok v) (hown : s.vm.findClass (cNm (tOw j)) = some m.cls) (hini : tIni j = 1 → meth.name = "<init>") (hd : decode cc pc = .ok (.putfield k0, 3)) (hs : stp P j (.putfield k0) 3 pc ls st u = some ((pc', (ls', st')), u')) : Sg p l e R s m args below meth c D dA h0 H0 nL pc a st u pc' ls' st' u' := by
  rcases kPut_some hs with ⟨x, b, c0, k, t, n, rfl, hl, hm, hk, ht, rfl, rfl, rfl⟩ | ⟨x, b, c0, k, n, rfl, hl, hm, hk, rfl, rfl, rfl⟩
  · have hxr : inR x := hst _ List.mem_cons_self
    refine ⟨Nat.le_refl _, Nat.le_refl _, fun H locs cells slots Q hR hlc _ _ kk => ?_⟩
    have hb0 := (hR.2.2.2.1 b _ hm).1
    obtain ⟨hc9, rfl, cell, g1, g2, g3, g4⟩ := hR.2.2.2.2.2.1 b _ _ hm
    obtain ⟨-, -, hty, -⟩ := lf_ok (tPf_some hl).1
    have hcd := cTy_code c0 hc9 k hk
    have hnf : narrow (cTy c0 k) (tv (vI x)) = tv (vI x) ∧ fits (cTy c0 k) (tv (vI x)) = true := by
      rcases ht with rfl | ⟨rfl, h01⟩
      · rw [hcd.1 hty]; exact ⟨rfl, rfl⟩
      · rw [hcd.2.1 hty]; exact fit_bool h01
    have hto : tyF c0 k ≠ 1 ∧ tyF c0 k ≠ 2 := by rw [hty]; rcases ht with rfl | ⟨rfl, -⟩ <;> decide
    refine sg_store hx hb hK hown hini hl g1 g2 g3 g4 hnf.1 hnf.2 hd fun H' z e2 e3 e4 => ?_
    have hR' : HR D dA h0 H0 (sI u (u2 (mI u) b k x)) H' := by
      refine hR.wI hm hxr (fun n' hn' => by rw [hm] at hn'; simp at hn'; omega) hb0 e2 e3 (fun k' n' hk' hk2 => ?_) (fun c' n' hk' => ?_)
      · rw [hm] at hk'
        have := congrArg (fun q => q.map Prod.fst) hk'
        simp at this
        omega
      · rw [hm] at hk'
        have e5 : c' = c0 ∧ n' = cNf c0 := by simp at hk'; omega
        obtain ⟨rfl, rfl⟩ := e5
        refine e4.to (fun q _ => updV_svF (u' := sI u (u2 (mI u) b k x)) ?_ (fun q hq => ?_) q)
        · rw [svF_o hto.1 hto.2]
          show Value.int (Int32.ofInt (u2 (mI u) b k x b k)) = _
          rw [u2_at]
          rfl
        · simp only [svF]
          show (if _ then _ else if _ then _ else Value.int (Int32.ofInt (u2 (mI u) b k x b q))) = _
          rw [u2_ni hq]
          rfl
    exact w_00 (x := mT u) (y := mU u) (kk a H' _ hL hR' (fun v hv => hst v (List.mem_cons_of_mem _ (List.mem_cons_of_mem _ hv))) (loc_app hlc hb0))
  · refine ⟨Nat.le_refl _, Nat.le_refl _, fun H locs cells slots Q hR hlc _ _ kk => ?_⟩
    have hb0 := (hR.2.2.2.1 b _ hm).1
    obtain ⟨hc9, rfl, cell, g1, g2, g3, g4⟩ := hR.2.2.2.2.2.1 b _ _ hm
    obtain ⟨-, -, hty, -⟩ := lf_ok (tPf_some hl).1
    have hnf := fit_ref ((cTy_code c0 hc9 k hk).2.2.2 hty) x
    refine sg_store hx hb hK hown hini hl g1 g2 g3 g4 hnf.1 hnf.2 hd fun H' z e2 e3 e4 => ?_
    have hR' : HR D dA h0 H0 (sF u (u2 (mF u) b k x)) H' := by
      refine hR.wF hm hb0 e2 e3 (fun k' n' hk' hk2 => ?_) (fun c' n' hk' => ?_)
      · rw [hm] at hk'
        have := congrArg (fun q => q.map Prod.fst) hk'
        simp at this
        omega
      · rw [hm] at hk'
        have e5 : c' = c0 ∧ n' = cNf c0 := by simp at hk'; omega
        obtain ⟨rfl, rfl⟩ := e5
        refine e4.to (fun q _ => updV_svF (u' := sF u (u2 (mF u) b k x)) ?_ (fun q hq => ?_) q)
        · rw [hty]
          show va_rf (u2 (mF u) b k x b k) = _
          rw [u2_at]
          rfl
        · simp only [svF]
          show (if _ then _ else if _ then va_rf (u2 (mF u) b k x b q) else _) = _
          rw [u2_ni hq]
          rfl
    exact w_00 (x := mT u) (y := mU u) (kk a H' _ hL hR' (fun v hv => hst v (List.mem_cons_of_mem _ (List.mem_cons_of_mem _ hv))) (loc_app hlc hb0))
theorem new_svA {u : Mm} {k n i : Nat} : svA (mNew u k n) k (mT u) i = if k < 3 then .int 0 else if k = 3 then .long 0 else .null := by
  unfold svA
  have e1 : mI (mNew u k n) (mT u) = fun _ => 0 := if_pos rfl
  have e2 : mL (mNew u k n) (mT u) = fun _ => 0 := if_pos rfl
  have e3 : mF (mNew u k n) (mT u) = fun _ => none := if_pos rfl
  rw [e1, e2, e3]
  rfl
theorem new_svF {u : Mm} {k n t i : Nat} : svF (mNew u k n) t (mT u) i = if t = 1 then .long 0 else if t = 2 then .null else .int 0 := by
  unfold svF
  have e1 : mI (mNew u k n) (mT u) = fun _ => 0 := if_pos rfl
  have e2 : mL (mNew u k n) (mT u) = fun _ => 0 := if_pos rfl
  have e3 : mF (mNew u k n) (mT u) = fun _ => none := if_pos rfl
  rw [e1, e2, e3]
  rfl
theorem dflt_F : ∀ c, c < 9 → ∀ k, k < cNf c → defaultValue (cTy c k) = (if tyF c k = 1 then .long 0 else if tyF c k = 2 then .null else .int 0) := by decide +kernel
theorem sg_new {k0 : Nat} (hx : p.tables.exec = Jvm.exec) (hb : c.code = cc) (hK : SK D dA P s) (hL : LR a nL ls) (hst : ∀ v ∈ st, vok v) (hown : s.vm.findClass (cNm (tOw j)) = some m.cls) (hd : decode cc pc = .ok (.new k0, 3)) (hs : stp P j (.new k0) 3 pc ls st u = some ((pc', (ls', st')), u')) : Sg p l e R s m args below meth c D dA h0 H0 nL pc a st u pc' ls' st' u' := by
  simp only [stp] at hs
  cases hlc : pLc P (pOw P j) k0 with
  | none => rw [hlc] at hs; cases hs
  | some q =>
    obtain ⟨c0, n⟩ := q
    rw [hlc] at hs
    cases hs
    obtain ⟨hc9, rfl, hw⟩ := lc_ok hlc
    have d1 : mT (mNew u (100 + c0) (cNf c0)) - mT u = 1 := by show mT u + 1 - mT u = 1; omega
    have d2 : mU (mNew u (100 + c0) (cNf c0)) - mU u = cNf c0 := by show mU u + cNf c0 - mU u = _; omega
    refine ⟨Nat.le_succ _, Nat.le_add_right _ _, fun H locs cells slots Q hR hlc h1 h2 kk => ?_⟩
    rw [d1] at h1 kk
    rw [d2] at h2 kk
    obtain ⟨hS, hfc, -⟩ := hK.kn hc9
    refine W.newcK hx hb hown (hK.w hw rfl args) (hK.w (tm (ins_ok c0 hc9)) rfl args) (hK.w (tm (ini_ok c0 (by omega))) rfl args) rfl hd h1 h2 hfc hR.1 fun H' kC hkC e1 e2 e3 => ?_
    refine kk a H' locs hL (hR.new (by rw [e2, hR.1]) (fun q hq => e3 q (by rw [← hR.1]; exact hq)) (fun h => absurd h (by omega)) (fun c' hc' => ?_)) (List.forall_mem_cons.mpr ⟨trivial, hst⟩) hlc
    have : c' = c0 := by omega
    subst this
    refine ⟨hc9, rfl, ?_⟩
    refine ⟨_, e1, rfl, rfl, fun q hq => ?_⟩
    obtain ⟨cf, kf, fi, fd, hi, he⟩ := hS q hq
    have h3 := (u_facts hfc hkC (hK.lays hc9 hq args) hi).2.2
    rw [(State.fieldFound?_type hi (cTy_ok c' hc9 q hq)).2] at h3
    rw [← he]
    show _ = some (svF (mNew u (100 + c') (cNf c')) (tyF c' q) (mT u) q)
    rw [new_svF, ← dflt_F c' hc9 q hq]
    exact k2_blank h3
theorem sg_newarray {t : ArrayType} (hx : p.tables.exec = Jvm.exec) (hb : c.code = cc) (hK : SK D dA P s) (hL : LR a nL ls) (hst : ∀ v ∈ st, vok v) (hd : decode cc pc = .ok (.newarray t, 2)) (hs : stp P j (.newarray t) 2 pc ls st u = some ((pc', (ls', st')), u')) : Sg p l e R s m args below meth c D dA h0 H0 nL pc a st u pc' ls' st' u' := by
  simp only [stp] at hs
  cases hlc : aKd t with
  | none => rw [hlc] at hs; cases hs
  | some k =>
    rw [hlc] at hs
    obtain ⟨x, r, rfl, hx0, hx1, rfl, rfl, rfl, rfl⟩ := kNa_some hs
    have hxr : inR x := hst _ List.mem_cons_self
    have hk4 : k < 4 ∧ newarray.typeOf t = aT k ∧ defaultValue (aT k) = (if k < 3 then .int 0 else if k = 3 then .long 0 else .null) ∧ componentBytes (aT k) ≤ 8 := by
      cases t <;> cases hlc <;> decide
    obtain ⟨hk4, hty, hdv, hcb⟩ := hk4
    have d1 : mT (mNew u k x.toNat) - mT u = 1 := by show mT u + 1 - mT u = 1; omega
    have d2 : mU (mNew u k x.toNat) - mU u = x.toNat := by show mU u + x.toNat - mU u = _; omega
    refine ⟨Nat.le_succ _, Nat.le_add_right _ _, fun H locs cells slots Q hR hlc h1 h2 kk => ?_⟩
    rw [d1] at h1 kk
    rw [d2] at h2 kk
    have ho : okK k := Or.inl hk4
    refine va_newaK hx hb (by rw [hty]; exact hK.w (tm (ar_ok k hk4)) (by rcases k with _ | _ | _ | _ | k <;> first | rfl | omega) args) rfl hd rfl (by rw [← ofI_0, ofI_lt hxr inR_0]; omega) (ofI_clamp hxr hx0) (by rw [hty]; exact Nat.le_trans (Nat.mul_le_mul (show x.toNat ≤ 65536 by omega) hcb) (by decide)) h1 h2 hR.1 fun H' cA e1 e2 e3 _ e5 => ?_
    have hcA : cA = dA k := by
      have hra := (hK.2.2.1 k ho).2
      rw [hty] at e5
      have : s.vm.findClass ("[" ++ (aT k).toString) = some (dA k) := by
        rcases k with _ | _ | _ | _ | k <;> first | exact hra | omega
      exact Option.some.inj (e5.symm.trans this)
    subst hcA
    refine kk a H' locs hL (hR.new (by rw [e2, hR.1]) (fun q hq => e3 q (by rw [← hR.1]; exact hq)) (fun _ => ⟨⟨ho, by omega⟩, ?_⟩) (fun c' hc' => by omega)) (List.forall_mem_cons.mpr ⟨trivial, fun v hv => hst v (List.mem_cons_of_mem _ hv)⟩) hlc
    rw [hR.1, e1]
    congr 2
    funext i
    rw [new_svA, hty, hdv]
theorem aRA {c0 : Nat} (hK : SK D dA P s) (ho : okK (4 + c0)) : ∃ (kA : Class) (comp : ClassId), s.vm.classes[dA (4 + c0)]? = some kA ∧ kA.kind = .array comp (.object (cNm c0)) ∧ s.vm.findClass (cNm c0) = some comp ∧ s.vm.findClass ("[" ++ (FieldType.object (cNm c0)).toString) = some (dA (4 + c0)) := by
  have hra := (hK.2.2.1 _ ho).2
  have hae : aT (4 + c0) = .object (cNm c0) := by rw [Nat.add_comm]; rfl
  rw [hae] at hra
  exact hra
theorem sg_anewarray {k0 : Nat} (hx : p.tables.exec = Jvm.exec) (hb : c.code = cc) (hK : SK D dA P s) (hL : LR a nL ls) (hst : ∀ v ∈ st, vok v) (hown : s.vm.findClass (cNm (tOw j)) = some m.cls) (hd : decode cc pc = .ok (.anewarray k0, 3)) (hs : stp P j (.anewarray k0) 3 pc ls st u = some ((pc', (ls', st')), u')) : Sg p l e R s m args below meth c D dA h0 H0 nL pc a st u pc' ls' st' u' := by
  simp only [stp] at hs
  cases hla : pLa P (pOw P j) k0 with
  | none => rw [hla] at hs; cases hs
  | some c0 =>
    rw [hla] at hs
    obtain ⟨x, r, rfl, hx0, hx1, rfl, rfl, rfl, rfl⟩ := kNa_some hs
    have hxr : inR x := hst _ List.mem_cons_self
    obtain ⟨hc24, hw, -⟩ := la_ok hla
    have ho : okK (4 + c0) := by unfold okK; omega
    have hao : va_AO (cNm c0) s := by
      rcases hc24 with rfl | rfl
      · exact hK.2.2.2.1
      · exact hK.2.2.2.2.1
    have d1 : mT (mNew u (4 + c0) x.toNat) - mT u = 1 := by show mT u + 1 - mT u = 1; omega
    have d2 : mU (mNew u (4 + c0) x.toNat) - mU u = x.toNat := by show mU u + x.toNat - mU u = _; omega
    refine ⟨Nat.le_succ _, Nat.le_add_right _ _, fun H locs cells slots Q hR hlc h1 h2 kk => ?_⟩
    rw [d1] at h1 kk
    rw [d2] at h2 kk
    have hcl : (Int32.ofInt x).toNatClampNeg = x.toNat := ofI_clamp hxr hx0
    refine W.anew hx hb hown (hK.w hw rfl args) (va_AO.use hao) rfl hd rfl (by rw [← ofI_0, ofI_lt hxr inR_0]; omega) (by rw [hcl]; omega) h1 (by rw [hcl]; exact h2) fun cA kA comp f1 f2 f3 f4 => ?_
    rw [hcl]
    obtain ⟨kA', comp', -, -, -, e4⟩ := aRA hK ho
    have hcA : cA = dA (4 + c0) := Option.some.inj (f1.symm.trans e4)
    subst hcA
    generalize hH1 : H.push ({ cls := dA (4 + c0), slots := Array.replicate x.toNat .null, vm := .none } : Cell) = H1
    have z1 : H1.size = H.size + 1 := by rw [← hH1, Array.size_push]
    have e1 : H1[H.size]? = some (arrV (dA (4 + c0)) x.toNat (fun _ => .null)) := by rw [← hH1, Array.getElem?_push_size, ← arrV_new]
    have o1 : ∀ q : Nat, q < H.size → H1[q]? = H[q]? := fun q hq => by rw [← hH1, Array.getElem?_push, if_neg (Nat.ne_of_lt hq)]
    have K := kk a H1 locs hL (hR.new z1 o1 (fun _ => ⟨⟨ho, by omega⟩, ?_⟩) (fun c' hc' => by omega)) (List.forall_mem_cons.mpr ⟨trivial, fun v hv => hst v (List.mem_cons_of_mem _ hv)⟩) hlc
    · rw [← hR.1] at K
      exact K
    · rw [e1]
      congr 2
      funext i
      rw [new_svA, if_neg (by omega), if_neg (by omega)]
theorem sg_ldc2 {k0 : Nat} (hx : p.tables.exec = Jvm.exec) (hb : c.code = cc) (hK : SK D dA P s) (hL : LR a nL ls) (hst : ∀ v ∈ st, vok v) (hown : s.vm.findClass (cNm (tOw j)) = some m.cls) (hd : decode cc pc = .ok (.ldc2_w k0, 3)) (hs : stp P j (.ldc2_w k0) 3 pc ls st u = some ((pc', (ls', st')), u')) : Sg p l e R s m args below meth c D dA h0 H0 nL pc a st u pc' ls' st' u' := by
  simp only [stp] at hs
  cases hla : pLl P (pOw P j) k0 with
  | none => rw [hla] at hs; cases hs
  | some v =>
    rw [hla] at hs
    cases hs
    refine ⟨Nat.le_refl _, Nat.le_refl _, fun H locs cells slots Q hR hlc _ _ kk => lv_ldc2 hx hb hown (hK.w (ll_ok hla) rfl args) hd ?_⟩
    exact w_00 (x := mT u) (y := mU u) (kk a H locs hL hR (List.forall_mem_cons.mpr ⟨trivial, hst⟩) hlc)
theorem ls_ok {o k z : Nat} (h : tLs o k = some z) : (o = 6 ∧ k = 84) ∨ (o = 5 ∧ k = 125) := by
  have := lk2_mem h
  simp [tLsL] at this
  omega
theorem sg_ldc {k0 : Nat} (hx : p.tables.exec = Jvm.exec) (hb : c.code = cc) (hK : SK D dA P s) (hL : LR a nL ls) (hst : ∀ v ∈ st, vok v) (hown : s.vm.findClass (cNm (tOw j)) = some m.cls) (hd : decode cc pc = .ok (.ldc k0, 2)) (hs : stp P j (.ldc k0) 2 pc ls st u = some ((pc', (ls', st')), u')) : Sg p l e R s m args below meth c D dA h0 H0 nL pc a st u pc' ls' st' u' := by
  simp only [stp] at hs
  cases hla : pLs P (pOw P j) k0 with
  | none => rw [hla] at hs; cases hs
  | some z =>
    rw [hla] at hs
    cases hs
    refine ⟨Nat.le_refl _, Nat.le_refl _, fun H locs cells slots Q hR hlc _ _ kk => ?_⟩
    have K := w_00 (x := mT u) (y := mU u) (kk a H locs hL hR (List.forall_mem_cons.mpr ⟨trivial, hst⟩) hlc)
    rcases ls_ok hla with ⟨h1, rfl⟩ | ⟨h1, rfl⟩
    · have hown' : s.vm.findClass "MovingBoxes$Term" = some m.cls := by
        have : cNm (tOw j) = "MovingBoxes$Term" := by rw [show tOw j = 6 from h1]; rfl
        rw [← this]; exact hown
      exact va_ldcS hx hb hown' hK.2.2.2.2.2.1 hd K
    · have hown' : s.vm.findClass "MovingBoxes$Teller" = some m.cls := by
        have : cNm (tOw j) = "MovingBoxes$Teller" := by rw [show tOw j = 5 from h1]; rfl
        rw [← this]; exact hown
      exact va_ldcS hx hb hown' hK.2.2.2.2.2.2 hd K
end SG
