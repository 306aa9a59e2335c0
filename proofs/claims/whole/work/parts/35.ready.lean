/-! What stands ready: Object's constructor, arraycopy. -/
theorem lm_nn : (tLmL.zip lmP).all (fun q => lmC q && (decide (q.1.2.2.1 < 500) || !q.2.2)) = true := by decide +kernel
theorem lm_bi {o k j n : Nat} (h : tLm o k = some (j, n)) (hj : 500 ≤ j) : Cond.methodLink (cNm o) k (yN j) ∈ lw_tbl := by
  obtain ⟨y, hy⟩ := zip_all lm_nn rfl (lk2_mem h)
  simp only [lmC, Bool.and_eq_true, Bool.or_eq_true, decide_eq_true_eq, Bool.not_eq_true'] at hy
  obtain ⟨⟨-, h4⟩, h5⟩ := hy
  have h6 : y.2 = false := by
    rcases h5 with h5 | h5
    · omega
    · exact h5
  rw [if_neg (by rw [h6]; decide)] at h4
  exact tm (of_decide_eq_true h4)
theorem w_nat : Cond.native arraycopyName ∈ lw_tbl := tm (i := 664) (by decide +kernel)
theorem w_sta : Cond.static arraycopyName ∈ lw_tbl := tm (i := 663) (by decide +kernel)
theorem w_sys : Cond.initialized "java/lang/System" ∈ lw_tbl := tm (i := 21) (by decide +kernel)
theorem w_obj : Cond.instanceMethod Lib.objectInit ∈ lw_tbl := tm (i := 32) (by decide +kernel)
section RD
variable {p : Program} {l : Launch} {e : Env} {R : Room} {s : State} {m : MethodId} {args : Array Value} {below : List Frame} {meth : Method} {c : Code} {H : Heap} {locs : List Loc} {cells slots : Nat} {Q : State → Prop}
theorem w_copy {cc : ByteArray} {pc : Nat} {ls : Array Slot} {rest : List Value} (hexec : p.tables.exec = Jvm.exec) (hb : c.code = cc) (hml : c.maxLocals = ls.size) {own : String} {index : Nat} (hown : s.vm.findClass own = some m.cls) (hlink : (Cond.methodLink own index arraycopyName).before args s = true) (hnat : (Cond.native arraycopyName).before args s = true) (hstat : (Cond.static arraycopyName).before args s = true) (hini : (Cond.initialized "java/lang/System").before args s = true)
    {a0 a : Nat} {cA : ClassId} {n0 n1 : Nat} {f g : Nat → Int32} {ty : FieldType} (hc0 : H[a0]? = some (arrV cA n0 (fun j => .int (f j)))) (hc1 : H[a]? = some (arrV cA n1 (fun j => .int (g j)))) (hAr : ArrOfT s cA ty) (hprim : refKind ty = false)
    {sp dp n : Int32} (h1 : ¬ sp < 0) (h2 : ¬ dp < 0) (h3 : ¬ n < 0) (h4 : sp.toNatClampNeg + n.toNatClampNeg ≤ n0) (h5 : dp.toNatClampNeg + n.toNatClampNeg ≤ n1) (hfit : ∀ i, i < n.toNatClampNeg → fits ty (.int (f (sp.toNatClampNeg + i))) = true)
    (hframes : 1 ≤ R.frames) (hlocals : (rest.map fun v => v.category).sum + (nativeFrameWords "java/lang/System" "arraycopy" 5 + 11) ≤ R.locals) (hdg : decode cc pc = .ok (.invokestatic index, 3))
    (kk : ∀ (H1 : Heap) (L : List Loc), H1[a]? = some (arrV cA n1 (fun j => .int (va_cpy f g sp.toNatClampNeg dp.toNatClampNeg n.toNatClampNeg j))) → H1.size = H.size → (∀ q, q ≠ a → H1[q]? = H[q]?) → (∀ q ∈ L, q.base = a) → W p l e R s m args below meth c H1 (locs ++ L) cells slots Q (F0 m (pc + 3) ls rest)) : W p l e R s m args below meth c H locs cells slots Q (F0 m pc ls (.int n :: .int dp :: .ref a :: .int sp :: .ref a0 :: rest)) := by
  have nn : ∀ z : Int32, ¬ z < 0 → z.toInt = (z.toNatClampNeg : Int) := by
    intro z hz
    have hz0 : (0 : Int) ≤ z.toInt := by
      have := Int32.not_lt.mp hz
      simpa using Int32.le_iff_toInt_le.mp this
    show z.toInt = ((z.toInt.toNat : Nat) : Int)
    omega
  intro T hT X
  obtain ⟨-, k0, hk0, cm0, hkk0⟩ := hAr n0 (fun j => .int (f j))
  obtain ⟨-, k1, hk1, cm1, hkk1⟩ := hAr n1 (fun j => .int (g j))
  obtain ⟨vm', X', step⟩ := X.arraycopy hexec hown hlink hnat hstat hini (src := a0) (dst := a) (cs := arrV cA n0 (fun j => .int (f j))) (cd := arrV cA n1 (fun j => .int (g j))) (srcPos := sp) (destPos := dp) (n := n) (by rw [hT]; exact hc0) (by rw [hT]; exact hc1)
    (fun _ h => by cases h) (fun _ h => by cases h) (fun h => by cases h) (fun h => by cases h) hk0 hk1 hkk0 hkk1 (by simp [hprim]) h1 h2 h3
    (by rw [nn sp h1, nn n h3, arrV_size]; omega)
    (by rw [nn dp h2, nn n h3, arrV_size]; omega)
    (fun vm₁ _ i hi => by
      have e1 : (arrV cA n0 (fun j => .int (f j))).slots.getD (sp.toNatClampNeg + i) .null = .int (f (sp.toNatClampNeg + i)) := by
        rw [Array.getD_eq_getD_getElem?, arrV_read _ _ (by omega)]
        rfl
      refine ⟨?_, ?_⟩
      · rw [e1]
        exact hfit i hi
      · rw [e1]
        exact trivial)
    (g := F0 m pc ls (.int n :: .int dp :: .ref a :: .int sp :: .ref a0 :: rest)) rfl (by rw [hml]) (rest := rest) rfl (by rw [hb]; exact hdg) hframes (by show 2 * 0 + _ + _ ≤ _; omega)
  have e1 : copied (arrV cA n0 (fun j => .int (f j))) (arrV cA n1 (fun j => .int (g j))) sp dp n = arrV cA n1 (fun j => .int (va_cpy f g sp.toNatClampNeg dp.toNatClampNeg n.toNatClampNeg j)) := va_copied (fun z => .int z) cA cA f g h4
  rw [e1] at X' step
  have hl : a < H.size := (Array.getElem?_eq_some_iff.mp hc1).1
  have hheap : ((T.setVm vm').setCell a (arrV cA n1 (fun j => .int (va_cpy f g sp.toNatClampNeg dp.toNatClampNeg n.toNatClampNeg j)))).heap = H.setIfInBounds a (arrV cA n1 (fun j => .int (va_cpy f g sp.toNatClampNeg dp.toNatClampNeg n.toNatClampNeg j))) := by rw [← hT]; rfl
  obtain ⟨t, a1, b1⟩ := kk _ _ (show (H.setIfInBounds a _)[a]? = some _ by simp [Array.getElem?_setIfInBounds, hl]) (by simp) (fun q hq => by simp [Array.getElem?_setIfInBounds, Ne.symm hq]) (fun q hq => by
      obtain ⟨z, -, hz⟩ := List.mem_map.mp hq
      rw [← hz]) _ hheap X'
  exact ⟨t, step t a1, b1⟩
end RD
theorem kd_cases {y : Nat} {P : Pg} {as : List Vl} {u u' : Mm} {v : Option Vl} (h : bi P (tKd y) as u = some (v, u')) : (y = 500 ∧ ∃ b, as = [vR b] ∧ v = none ∧ u' = u) ∨ (y = 501 ∧ bi P 4 as u = some (v, u')) := by
  unfold tKd at h
  split at h
  · simp [bi] at h
  · split at h
    · rename_i h5
      refine Or.inl ⟨h5, ?_⟩
      simp only [bi] at h
      split at h
      · cases h; exact ⟨_, rfl, rfl, rfl⟩
      · cases h
    · split at h
      · rename_i h5
        exact Or.inr ⟨h5, h⟩
      · simp [bi] at h
set_option maxRecDepth 100000 in
set_option maxHeartbeats 4000000 in
theorem ready_ok {l : Launch} {D : va_G} {dA : Nat → ClassId} {P : Pg} {h0 : Nat} {H0 : Heap} {X : State → Prop} : ReadyS l D dA P h0 H0 X := by
  intro p e R s m args below meth c j y n pc i a ls st as rest u u' v C hX hF hLo hd hn hcl hw hbi hL hst
  have hC := C
  obtain ⟨hx, hb, hml, hret, hlocks, hown, hini, hK, hxt⟩ := hC
  obtain ⟨k, hik, hlm, hck, rfl⟩ := cl_some hcl
  have e3 : n = 3 := by cases i <;> first | (simp [iK] at hik; done) | (simpa [iln] using hn)
  subst e3
  rcases kd_cases hbi with ⟨rfl, b, rfl, rfl, rfl⟩ | ⟨rfl, hb4⟩
  · have hi : i = .invokespecial k := by
      cases i <;> simp [iK] at hik <;> subst hik <;> first | rfl | exact absurd (show false = true from hck) (by decide)
    subst hi
    refine ⟨Nat.le_refl _, Nat.le_refl _, fun H locs cells slots Q hR hlc _ _ kk => ?_⟩
    have K := w_00 (x := mT u') (y := mU u') (kk a H locs hL hR (fun w hw' => hst w (List.mem_append_right _ hw')) hlc)
    refine W.objInit hx hb hown (hK.w (lm_bi hlm (Nat.le_refl _)) rfl args) (hK.w w_obj rfl args) (hK.w ec_o_init rfl args) (g := F0 m pc a (([vR b].reverse ++ rest).map tv)) rfl (by rw [hml]; exact hL.2.1) (a := b) (rest := rest.map tv) rfl hd (by omega) ?_ K
    show 2 * 0 + ((rest.map tv).map fun v => v.category).sum + 12 ≤ R.locals
    rw [tv_cats]
    omega
  · have hi : i = .invokestatic k := by
      cases i <;> simp [iK] at hik <;> subst hik <;> first | rfl | exact absurd (show false = true from hck) (by decide)
    subst hi
    simp only [bi] at hb4
    split at hb4
    · rename_i a0 sp b dp cn
      cases hm0 : mS u a0 with
      | none => simp only [hm0] at hb4; cases hb4
      | some q0 =>
        obtain ⟨k0, la⟩ := q0
        cases hm1 : mS u b with
        | none => simp only [hm0, hm1] at hb4; cases hb4
        | some q1 =>
          obtain ⟨k1, lb⟩ := q1
          simp only [hm0, hm1] at hb4
          split at hb4
          · rename_i hcc
            cases hb4
            obtain ⟨rfl, hk2, hne, hsp, hdp, hcn, hle0, hle1⟩ := hcc
            have hr : ∀ z : Int, vI z ∈ [vR a0, vI sp, vR b, vI dp, vI cn] → inR z := fun z hz => hst (vI z) (List.mem_append_left _ (List.mem_reverse.mpr hz))
            have hrs : inR sp := hr sp (by simp)
            have hrd : inR dp := hr dp (by simp)
            have hrn : inR cn := hr cn (by simp)
            refine ⟨Nat.le_refl _, Nat.le_refl _, fun H locs cells slots Q hR hlc _ _ kk => ?_⟩
            obtain ⟨⟨ho, -⟩, hc0⟩ := hR.2.2.2.2.1 a0 _ _ hm0 (by omega)
            obtain ⟨-, hc1⟩ := hR.2.2.2.2.1 b _ _ hm1 (by omega)
            have hsv : ∀ q, svA u k0 q = fun j => Value.int (Int32.ofInt (mI u q j)) := fun q => by
              funext z
              unfold svA
              rw [if_pos (by omega)]
            rw [hsv] at hc0 hc1
            have c1 : (Int32.ofInt sp).toNatClampNeg = sp.toNat := ofI_clamp hrs hsp
            have c2 : (Int32.ofInt dp).toNatClampNeg = dp.toNat := ofI_clamp hrd hdp
            have c3 : (Int32.ofInt cn).toNatClampNeg = cn.toNat := ofI_clamp hrn hcn
            have hb0 := (hR.2.2.2.1 b _ hm1).1
            refine w_copy (rest := rest.map tv) hx hb (by rw [hml]; exact hL.2.1.symm) hown (hK.w (lm_bi hlm (by decide)) rfl args) (hK.w w_nat rfl args) (hK.w w_sta rfl args) (hK.w w_sys rfl args) hc0 hc1 (hK.2.2.1 _ ho).1 (by
                rcases (show k0 = 0 ∨ k0 = 1 by omega) with rfl | rfl <;> rfl)
              (by rw [← ofI_0, ofI_lt hrs inR_0]; omega) (by rw [← ofI_0, ofI_lt hrd inR_0]; omega) (by rw [← ofI_0, ofI_lt hrn inR_0]; omega) (by rw [c1, c3]; omega) (by rw [c2, c3]; omega) (fun q hq => ?_) (by omega) ?_ hd fun H1 L e1 e2 e3 e4 => ?_
            · rcases (show k0 = 0 ∨ k0 = 1 by omega) with rfl | rfl
              · rfl
              · obtain ⟨w1, w2⟩ := hR.2.2.2.2.2.2.2.1 a0 la hm0 ((Int32.ofInt sp).toNatClampNeg + q)
                have h9 := (pk_charN (q := (mI u a0 ((Int32.ofInt sp).toNatClampNeg + q)).toNat) (by omega)).2
                have h8 : nI (mI u a0 ((Int32.ofInt sp).toNatClampNeg + q)).toNat = Int32.ofInt (mI u a0 ((Int32.ofInt sp).toNatClampNeg + q)) := by
                  show Int32.ofNat _ = _
                  rw [← ofI_nat, Int.toNat_of_nonneg w1]
                rw [h8] at h9
                exact h9
            · rw [tv_cats]
              have h7 : nativeFrameWords "java/lang/System" "arraycopy" 5 ≤ 500 := by decide +kernel
              omega
            · rw [c1, c2, c3] at e1
              have hR' : HR D dA h0 H0 (sI u (fun c => if c = b then cpy (mI u a0) (mI u b) sp.toNat dp.toNat cn.toNat else mI u c)) H1 := by
                have hrow : mI (sI u (fun c => if c = b then cpy (mI u a0) (mI u b) sp.toNat dp.toNat cn.toNat else mI u c)) b = cpy (mI u a0) (mI u b) sp.toNat dp.toNat cn.toNat := if_pos rfl
                have hA' : ∀ k n, mS u b = some (k, n) → k < 100 → H1[b]? = some (arrV (dA k) n (svA (sI u (fun c => if c = b then cpy (mI u a0) (mI u b) sp.toNat dp.toNat cn.toNat else mI u c)) k b)) := by
                  intro k' n' hk' _
                  rw [hm1] at hk'
                  cases hk'
                  rw [e1]
                  refine congrArg some (congrArg (arrV (dA k0) lb) ?_)
                  funext z
                  unfold svA
                  rw [if_pos (by omega), hrow]
                  unfold va_cpy cpy
                  split <;> rfl
                have hO' : ∀ c n, mS u b = some (100 + c, n) → t_OB b (D.1 c) n (D.2 c) H1 (fun k => svF (sI u (fun c => if c = b then cpy (mI u a0) (mI u b) sp.toNat dp.toNat cn.toNat else mI u c)) (tyF c k) b k) := by
                  intro c' n' hk'
                  rw [hm1] at hk'
                  have := congrArg (fun q => q.map Prod.fst) hk'
                  simp at this
                  omega
                refine hR.upd (u' := sI u (fun c => if c = b then cpy (mI u a0) (mI u b) sp.toNat dp.toNat cn.toNat else mI u c)) (a := b) rfl rfl (fun q hq => ⟨if_neg hq, rfl, rfl⟩) hb0 e2 e3 (fun z => ?_) (fun n' hn' z => ?_) (ns_of hm1 hA' hO') hA' hO'
                · rw [hrow]
                  unfold cpy
                  split
                  · exact hR.2.2.2.2.2.2.1 a0 _
                  · exact hR.2.2.2.2.2.2.1 b _
                · rw [hm1] at hn'
                  cases hn'
                  rw [hrow]
                  unfold cpy
                  split
                  · exact hR.2.2.2.2.2.2.2.1 a0 _ hm0 _
                  · exact hR.2.2.2.2.2.2.2.1 b _ hm1 _
              exact w_00 (x := mT u) (y := mU u) (kk a H1 _ hL hR' (fun w hw' => hst w (List.mem_append_right _ hw')) (fun q hq => by
                rcases List.mem_append.mp hq with h9 | h9
                · exact hlc q h9
                · rw [e4 q h9]; exact hb0))
          · cases hb4
    · cases hb4
