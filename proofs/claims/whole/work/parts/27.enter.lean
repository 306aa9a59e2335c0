/-! A call's entry. The memory only grows. -/
theorem cd_spec {j : Nat} {A : Array Value} {s : State} (h : (cdW j).before A s = true) : ∃ m meth c, s.methodNamed? (yN j) = some m ∧ s.vm.method? m = some meth ∧ meth.code = some c ∧ c.code = tBc j ∧ c.maxLocals = tMx j ∧ meth.sig.returnType = tRt j ∧ meth.locks = false ∧ parseMethodDescriptor (yN j).desc = some meth.sig ∧
    c.exceptionTable.toList.map (fun h => (h.startPc, h.endPc, h.handlerPc, h.catchType)) = hdL j := by
  unfold cdW at h
  split at h
  · rename_i he
    obtain ⟨mk, hnamed⟩ := Cond.code_named h
    obtain ⟨meth, c, h1, h2, h3, h4, h5, h6, h7, h8⟩ := Cond.code_spec hnamed h
    refine ⟨mk, meth, c, hnamed, h1, h2, h3, h4, h5, h6, h8, ?_⟩
    rw [he]
    have : c.exceptionTable.toList = [] := by simpa using h7
    rw [this]
    rfl
  · rename_i hd tl he
    obtain ⟨m, meth, c, h1, h2, h3, h4, h5, h6, h7, h8, h9⟩ := Cond.codeWith_spec h
    exact ⟨m, meth, c, h1, h2, h3, h4, h5, h7, h8, h9, by rw [he]; exact h6⟩
theorem cd_kW (j : Nat) : kW (cdW j) = true := by
  unfold cdW
  split <;> rfl
theorem cl_some {P : Pg} {j y : Nat} {i : Instr} {st as rest : List Vl} (h : cl P j i st = some (y, (as, rest))) : ∃ k, iK i = some k ∧ tLm (tOw j) k = some (y, as.length) ∧ cK i y = true ∧ st = as.reverse ++ rest := by
  unfold cl at h
  cases hk : iK i with
  | none => rw [hk] at h; cases h
  | some k =>
    rw [hk] at h
    simp only at h
    cases hm : pLm P (pOw P j) k with
    | none => rw [hm] at h; cases h
    | some q =>
      obtain ⟨y', n⟩ := q
      rw [hm] at h
      simp only at h
      split at h
      · rename_i hc
        cases h
        refine ⟨k, rfl, ?_, hc.2, ?_⟩
        · rw [List.length_reverse, List.length_take, Nat.min_eq_left hc.1]
          exact hm
        · rw [List.reverse_reverse, List.take_append_drop]
      · cases h
theorem rcv_spec {P : Pg} {u : Mm} {y : Nat} {as : List Vl} (h : rcv P u y as = true) (h1 : tSt y ≠ 1) : ∃ b t, as = vR b :: t ∧ (tSt y ≠ 2 → (tOw y = 12 ∧ b = pSg P) ∨ (tOw y ≠ 12 ∧ ∃ n, mS u b = some (100 + tOw y, n))) := by
  unfold rcv at h
  rw [if_neg h1] at h
  split at h
  · rename_i b t
    refine ⟨b, t, rfl, fun h2 => ?_⟩
    rw [if_neg h2] at h
    by_cases h12 : tOw y = 12
    · rw [if_pos h12] at h
      exact Or.inl ⟨h12, by simpa using h⟩
    · rw [if_neg h12] at h
      split at h
      · rename_i k n hm
        have : k = 100 + tOw y := by simpa using h
        subst this
        exact Or.inr ⟨h12, n, hm⟩
      · cases h
  · cases h
theorem init_plain : ∀ j, j < 178 → tSt j = 2 → hdL j = [] ∧ rk (tRt j) = 0 := by decide +kernel
theorem nm_p : ∀ j, j < 178 → plainFor (yN j) = true := by
  have h : ∀ j, j < 178 → tOw j < 10 ∨ j = 163 ∨ j = 164 ∨ j = 165 ∨ j = 166 ∨ j = 167 ∨ j = 168 ∨ j = 169 ∨ j = 170 ∨ j = 171 ∨ j = 172 ∨ j = 173 ∨ j = 174 ∨ j = 175 ∨ j = 176 ∨ j = 177 := by decide +kernel
  intro j hj
  rcases h j hj with h1 | rfl | rfl | rfl | rfl | rfl | rfl | rfl | rfl | rfl | rfl | rfl | rfl | rfl | rfl | rfl
  · exact plainFor_of_name (nm_3 j hj h1)
  · exact nm_3_163
  · exact nm_3_164
  · exact nm_3_165
  · exact nm_3_166
  · exact nm_3_167
  · exact nm_3_168
  · exact nm_3_169
  · exact nm_3_170
  · exact nm_3_171
  · exact nm_3_172
  · exact nm_3_173
  · exact nm_3_174
  · exact nm_3_175
  · exact nm_3_176
  · exact nm_3_177
theorem tKd_lt {y : Nat} (h : tKd y = 0) : y < 500 := by
  unfold tKd at h
  split at h
  · assumption
  · split at h
    · cases h
    · split at h <;> cases h
section EN
variable {p : Program} {l : Launch} {e : Env} {R : Room} {s : State} {m : MethodId} {args : Array Value} {below : List Frame} {meth : Method} {c : Code} {T : State} {locs : List Loc} {cells slots : Nat}
variable {D : va_G} {dA : Nat → ClassId} {P : Pg} {h0 : Nat} {H0 : Heap} {u : Mm}
theorem enter_ok (X : Stand p l e R s m args below meth c T locs cells slots) {j y n pc : Nat} {i : Instr} {a : Array Slot} {st as rest : List Vl} (C : Cx D dA P p s m meth c j) (hd : decode (tBc j) pc = .ok (i, n)) (hn : iln i n = true) (hcl : cl P j i st = some (y, (as, rest))) (hy : y < 178) (hrc : rcv P u y as = true) (hR : HR D dA h0 H0 u T.heap) (hStr : ∃ cell : Cell, T.heap[pSg P]? = some cell ∧ (∀ k, cell.vm ≠ .statics k) ∧ s.vm.findClass (cNm 12) = some cell.cls) :
    ∃ (vm₁ : Vm) (mk : MethodId) (methY : Method) (cY : Code), Stand p l e R s m args below meth c (T.setVm vm₁) locs cells slots ∧ s.methodNamed? (yN y) = some mk ∧ s.vm.method? mk = some methY ∧ methY.code = some cY ∧ cY.maxLocals = tMx y ∧
      ∀ target, Steps p.tables e below (doInvoke e ((T.setVm vm₁).setTop (F0 m pc a (rest.map tv))) [] mk (as.map tv).toArray).1 target → Steps p.tables e below (T.setTop (F0 m pc a (st.map tv))) target := by
  obtain ⟨hx, hb, -, -, -, hown, -, hK, -⟩ := C
  obtain ⟨k, hik, hlm, hck, rfl⟩ := cl_some hcl
  obtain ⟨hyn, hw⟩ := lm_ok hlm
  have hlen : as.length = tNa y + (if tSt y = 1 then 0 else 1) := by
    rcases hyn with h | h
    · omega
    · exact h.2
  have hcode := hK.w (code_ok y hy) (cd_kW y) args
  obtain ⟨mk, methY, cY, g1, g2, g3, g4, g5, g6, g7, g8, g9⟩ := cd_spec hcode
  have hsig : methY.sig.parameters.length = tNa y := by
    have := nm_2 y hy
    rw [g8] at this
    simpa using this
  have hy2 := nm_1 y hy
  have hini : (Cond.initialized (yN y).cls).before args s = true := by
    rw [nm_5 y hy]
    exact hK.w (tm (ini_ok (tOw y) (nm_6 y hy).1)) rfl args
  obtain ⟨kP, hkP, -⟩ := className_of_methodNamed g1
  have hinitP : kP.init = .initialized := Cond.initialized_spec (findClass_of_methodNamed g1) hkP hini
  have hst3 := (nm_6 y hy).2
  have e3 : n = 3 := by cases i <;> first | (simp [iK] at hik; done) | (simpa [iln] using hn)
  subst e3
  rw [← hb] at hd
  rcases (show tSt y = 1 ∨ tSt y = 0 ∨ tSt y = 2 by omega) with h1 | h1 | h1
  · -- static
    rw [if_pos h1] at hlen
    have hi : i = .invokestatic k := by
      cases i <;> simp [iK] at hik <;> subst hik <;> simp [cK, h1] at hck <;> first | rfl | omega
    subst hi
    have hstatic : methY.isStatic = true := Cond.static_spec g1 g2 (hK.w (tm ((si_ok y hy).1 h1)) rfl args)
    have hstack : (F0 m pc a ((as.reverse ++ rest).map tv)).stack = (as.map tv).reverse ++ rest.map tv := by
      show (as.reverse ++ rest).map tv = _
      rw [List.map_append, List.map_reverse]
    have hlen2 : (as.map tv).length = methY.sig.parameters.length := by rw [List.length_map, hsig, hlen, Nat.add_zero]
    rcases hw with hw | hw
    · obtain ⟨vm₁, X₁, hstep₁⟩ := X.invokestaticNest hx hown (hK.w hw rfl args) g1 g2 hstatic hkP hinitP hy2 (g := F0 m pc a ((as.reverse ++ rest).map tv)) rfl (argsL := as.map tv) (rest := rest.map tv) hlen2 hstack hd
      exact ⟨vm₁, mk, methY, cY, X₁, g1, g2, g3, g5, fun target h => hstep₁ _ fun acts => by rw [doInvoke_state]; exact h⟩
    · obtain ⟨vm₁, X₁, hstep₁⟩ := X.invokestatic hx hown (hK.w hw rfl args) g1 g2 hstatic hkP hinitP hy2 (g := F0 m pc a ((as.reverse ++ rest).map tv)) rfl (argsL := as.map tv) (rest := rest.map tv) hlen2 hstack hd
      exact ⟨vm₁, mk, methY, cY, X₁, g1, g2, g3, g5, fun target h => hstep₁ _ fun acts => by rw [doInvoke_state]; exact h⟩
  · -- virtual
    rw [if_neg (by omega)] at hlen
    have hi : i = .invokevirtual k := by
      cases i <;> simp [iK] at hik <;> subst hik <;> simp [cK, h1] at hck <;> first | rfl | omega
    subst hi
    obtain ⟨b, t, rfl, hsh⟩ := rcv_spec hrc (by omega)
    have hcc : ∃ cell : Cell, T.heap[b]? = some cell ∧ (∀ k, cell.vm ≠ .statics k) ∧ s.vm.findClass (cNm (tOw y)) = some cell.cls := by
      rcases hsh (by omega) with ⟨h12, rfl⟩ | ⟨-, nb, hnb⟩
      · rw [h12]; exact hStr
      · obtain ⟨hc9, -, cell, q1, q2, q3, -⟩ := hR.2.2.2.2.2.1 b _ _ hnb
        exact ⟨cell, q1, (fun z h => by rw [q3] at h; cases h), by rw [q2]; exact (hK.kn hc9).2.1⟩
    obtain ⟨cell, q1, q3, q2⟩ := hcc
    have hinst := hK.w (tm ((si_ok y hy).2.1 (by omega))) rfl args
    obtain ⟨mk', methM, hnamed, hmethM, hstM, habM⟩ := Cond.instanceMethod_spec hinst
    cases g1.symm.trans hnamed
    cases g2.symm.trans hmethM
    have hsel := hK.w (List.mem_of_getElem? ((si_ok y hy).2.2 h1)) rfl args
    have hcls : s.vm.findClass (yN y).cls = some cell.cls := by rw [nm_5 y hy]; exact q2
    obtain ⟨c2, r2, m2, p1, p2, p3, p4, kQ, hkQ, hkQi⟩ := Cond.selects_spec hsel
    cases hcls.symm.trans p1
    cases (State.methodFound?_of_named hnamed hy2).symm.trans p2
    cases hnamed.symm.trans p3
    have hselP : selectMethod e.platform s.vm cell.cls mk = .method mk := by rw [Launch.admits_selectMethod X.admits]; exact p4
    have hstack : (F0 m pc a (((vR b :: t).reverse ++ rest).map tv)).stack = (t.map tv).reverse ++ .ref b :: rest.map tv := by
      show ((vR b :: t).reverse ++ rest).map tv = _
      simp [List.map_append, List.map_reverse]
      rfl
    have hlen2 : (t.map tv).length = methY.sig.parameters.length := by rw [List.length_map, hsig]; simp at hlen; omega
    rcases hw with hw | hw
    · obtain ⟨vm₁, X₁, hstep₁⟩ := X.invokevirtualNest hx hown (hK.w hw rfl args) g1 g2 hstM hkQ hkQi hy2 (a := b) (cell := cell) q1 q3 hselP g2 habM hkQ hkQi (g := F0 m pc a (((vR b :: t).reverse ++ rest).map tv)) rfl (argsL := t.map tv) (rest := rest.map tv) hlen2 hstack hd
      exact ⟨vm₁, mk, methY, cY, X₁, g1, g2, g3, g5, fun target h => hstep₁ _ fun acts => by rw [doInvoke_state]; exact h⟩
    · obtain ⟨vm₁, X₁, hstep₁⟩ := X.invokevirtual hx hown (hK.w hw rfl args) g1 g2 hstM hkQ hkQi hy2 (a := b) (cell := cell) q1 q3 hselP g2 habM hkQ hkQi (g := F0 m pc a (((vR b :: t).reverse ++ rest).map tv)) rfl (argsL := t.map tv) (rest := rest.map tv) hlen2 hstack hd
      exact ⟨vm₁, mk, methY, cY, X₁, g1, g2, g3, g5, fun target h => hstep₁ _ fun acts => by rw [doInvoke_state]; exact h⟩
  · -- a constructor
    rw [if_neg (by omega)] at hlen
    have hi : i = .invokespecial k := by
      cases i <;> simp [iK] at hik <;> subst hik <;> simp [cK, h1] at hck <;> first | rfl | omega
    subst hi
    obtain ⟨b, t, rfl, -⟩ := rcv_spec hrc (by omega)
    have hinst := hK.w (tm ((si_ok y hy).2.1 (by omega))) rfl args
    obtain ⟨hhd, hrk⟩ := init_plain y hy h1
    have hcode2 : (Cond.code (yN y) (tBc y) (tMx y) none).before args s = true := by
      unfold cdW at hcode
      rw [hhd] at hcode
      simp only at hcode
      rw [rk_ty.1 hrk] at hcode
      exact hcode
    have hstack : (F0 m pc a (((vR b :: t).reverse ++ rest).map tv)).stack = (t.map tv).reverse ++ .ref b :: rest.map tv := by
      show ((vR b :: t).reverse ++ rest).map tv = _
      simp [List.map_append, List.map_reverse]
      rfl
    have hlen2 : ∀ sig, parseMethodDescriptor (yN y).desc = some sig → (t.map tv).length = sig.parameters.length := by
      intro sig hs
      rw [g8] at hs
      cases hs
      rw [List.length_map, hsig]; simp at hlen; omega
    have hpl : e.platform.magicAccessors = ({} : Platform).magicAccessors := by rw [X.admits.platform]
    have hnm := (nm_4 y hy).1 h1
    rcases hw with hw | hw
    · obtain ⟨mk', methM, cM, kQ, vm₁, hnamed, hmethM, hcodeM, -, hlocalsM, -, hkQ, -, hW₁, hstep₁⟩ := Steps.initColdArgsNest (e := e) X.here hx X.warmed hpl hown hnm hy2 (hK.w hw rfl args) hinst hcode2 (f := F0 m pc a (((vR b :: t).reverse ++ rest).map tv)) rfl hlen2 hstack hd
      cases g1.symm.trans hnamed
      exact ⟨vm₁, mk, methY, cY, X.noted hW₁, g1, g2, g3, g5, fun target h => hstep₁ _ fun acts => by rw [doInvoke_state]; exact h⟩
    · obtain ⟨mk', methM, cM, kQ, vm₁, hnamed, hmethM, hcodeM, -, hlocalsM, -, hkQ, -, hW₁, hstep₁⟩ := Steps.initColdArgs (e := e) X.here hx X.warmed hpl hown hnm hy2 (hK.w hw rfl args) hinst hcode2 (f := F0 m pc a (((vR b :: t).reverse ++ rest).map tv)) rfl hlen2 hstack hd
      cases g1.symm.trans hnamed
      exact ⟨vm₁, mk, methY, cY, X.noted hW₁, g1, g2, g3, g5, fun target h => hstep₁ _ fun acts => by rw [doInvoke_state]; exact h⟩
end EN
