/-! The methods of texts, over the signs alone. -/
theorem wt_9 : Cond.fieldLink "java/lang/String" 9 "java/lang/String" "value" "[B" ∈ lw_tbl := tm (i := 1382) (by decide +kernel)
theorem wt_15 : Cond.fieldLink "java/lang/String" 15 "java/lang/String" "coder" "B" ∈ lw_tbl := tm (i := 1381) (by decide +kernel)
theorem wt_38 : Cond.fieldLink "java/lang/String" 38 "java/lang/String" "COMPACT_STRINGS" "Z" ∈ lw_tbl := tm (i := 492) (by decide +kernel)
theorem wt_1053 : Cond.fieldLink "java/lang/String" 1053 "jdk/internal/util/Preconditions" "SIOOBE_FORMATTER" "Ljava/util/function/BiFunction;" ∈ lw_tbl := tm (i := 535) (by decide +kernel)
/-- what is known of the signs at the start -/
def T0 (P : Pg) (s0 : State) : Prop :=
  va_O "java/lang/String" (pSg P) (fun q => s0.heap.size ≤ q) s0 s0.heap ∧ va_OF "java/lang/String" "coder" "B" (.int 0) (pSg P) (fun q => s0.heap.size ≤ q) s0 s0.heap ∧ va_OF "java/lang/String" "value" "[B" (.ref (pSv P)) (pSg P) (fun q => s0.heap.size ≤ q) s0 s0.heap ∧
  va_T .byte (pSv P) 4 (fun j => .int (Int32.ofInt (sgnC j))) (fun q => s0.heap.size ≤ q) s0 s0.heap ∧ va_Z "java/lang/String" "COMPACT_STRINGS" "Z" (.int 1) (fun q => s0.heap.size ≤ q) s0 s0.heap ∧
  va_Z "jdk/internal/util/Preconditions" "SIOOBE_FORMATTER" "Ljava/util/function/BiFunction;" (va_rf (pFm P)) (fun q => s0.heap.size ≤ q) s0 s0.heap ∧
  (pLn P < 65536 ∧ pB P < s0.heap.size ∧ ∃ xs : Nat → Int32, (∀ i, pX P i = (xs i).toInt) ∧ va_X (pB P) (pLn P) xs s0 s0.heap)
theorem text_ok {P : Pg} {s0 : State} (h : T0 P s0) : TextS P s0.heap.size s0.heap (Xs s0) := by
  intro s hX
  obtain ⟨cell, h1, h2, h3, h4⟩ := va_O.moved hX.1.alike h.1
  exact ⟨Nat.lt_of_not_le h4, cell, h1, VmData.ne_statics_of h2, h3⟩
theorem sgnC_in (k : Int) : inR (sgnC k) := by
  unfold sgnC
  repeat' split
  all_goals exact ⟨by decide, by decide⟩
theorem spec_ok {l : Launch} {D : va_G} {dA : Nat → ClassId} {P : Pg} {s0 : State} (hT : T0 P s0) : SpecS l D dA P s0.heap.size s0.heap (Xs s0) := by
  intro p e R s m args below meth c j n pc i a ls st st' u C hX hd hn hsp hL hst
  obtain ⟨hx, hb, hml, hret, hlocks, hown, hini, hK, hxt⟩ := C
  unfold sps at hsp
  by_cases h12 : tOw j < 12 ∧ j ≠ 178
  · rw [if_pos h12] at hsp; cases hsp
  rw [if_neg h12] at hsp
  have ho12 : tOw j = 12 → s.vm.findClass "java/lang/String" = some m.cls := fun h => by
    have h9 : cNm (tOw j) = "java/lang/String" := by rw [h]; rfl
    rw [← h9]; exact hown
  cases i
  case i2b =>
    have e1 : n = 1 := by simpa [iln] using hn
    subst e1
    simp only at hsp
    obtain ⟨x, r, rfl, rfl⟩ := kI1_some hsp
    refine Sx.g ⟨rfl, List.forall_mem_cons.mpr ⟨i32_inR _, fun v hv => hst v (List.mem_cons_of_mem _ hv)⟩, fun H locs cells slots Q k => lv_i2b hx hb hd rfl ?_⟩
    have := k a hL
    simpa only [List.map_cons, tv, ofI_t] using this
  case getstatic k =>
    have e1 : n = 3 := by simpa [iln] using hn
    subst e1
    simp only at hsp
    split at hsp
    · rename_i hc
      cases hsp
      obtain ⟨hc1, rfl⟩ := hc
      refine ⟨Nat.le_refl _, Nat.le_refl _, fun H locs cells slots Q hR hlc _ _ kk => ?_⟩
      have K := w_00 (x := mT u) (y := mU u) (kk a H locs hL hR (List.forall_mem_cons.mpr ⟨(show inR 1 from ⟨by decide, by decide⟩), hst⟩) hlc)
      obtain ⟨cf, kf, fi, f, b, cell, h1, h2, h3, h4, h5, h6, h7, h8⟩ := va_Z.moved hX.1.alike hT.2.2.2.2.1
      exact W.gets hx hb (ho12 hc1) (hK.w wt_38 rfl args) h1 h2 h3 h4 (by rw [hR.2.2.1 b (Nat.lt_of_not_le h8)]; exact h5) (fun e => by rw [e] at h6; cases h6) h7 rfl hd K
    · split at hsp
      · rename_i hc
        cases hsp
        obtain ⟨hc1, rfl⟩ := hc
        refine ⟨Nat.le_refl _, Nat.le_refl _, fun H locs cells slots Q hR hlc _ _ kk => ?_⟩
        have K := w_00 (x := mT u) (y := mU u) (kk a H locs hL hR (List.forall_mem_cons.mpr ⟨trivial, hst⟩) hlc)
        obtain ⟨cf, kf, fi, f, b, cell, h1, h2, h3, h4, h5, h6, h7, h8⟩ := va_Z.moved hX.1.alike hT.2.2.2.2.2.1
        exact W.gets hx hb (ho12 hc1) (hK.w wt_1053 rfl args) h1 h2 h3 h4 (by rw [hR.2.2.1 b (Nat.lt_of_not_le h8)]; exact h5) (fun e => by rw [e] at h6; cases h6) h7 rfl hd K
      · cases hsp
  case getfield k =>
    have e1 : n = 3 := by simpa [iln] using hn
    subst e1
    simp only at hsp
    split at hsp
    · rename_i b r
      split at hsp
      · rename_i hc
        obtain ⟨rfl, hc1⟩ := hc
        split at hsp
        · rename_i hk
          subst hk
          cases hsp
          refine ⟨Nat.le_refl _, Nat.le_refl _, fun H locs cells slots Q hR hlc _ _ kk => ?_⟩
          have K := w_00 (x := mT u) (y := mU u) (kk a H locs hL hR (List.forall_mem_cons.mpr ⟨trivial, fun v hv => hst v (List.mem_cons_of_mem _ hv)⟩) hlc)
          obtain ⟨cf, kf, fi, f, cell, h1, h2, h3, h4, h5, h6⟩ := va_OF.moved hX.1.alike hT.2.2.1
          exact W.getf hx hb (ho12 hc1) (hK.w wt_9 rfl args) h1 h2 (by rw [hR.2.2.1 _ (Nat.lt_of_not_le h6)]; exact h3) h4 h5 rfl rfl hd K
        · split at hsp
          · rename_i hk
            subst hk
            cases hsp
            refine ⟨Nat.le_refl _, Nat.le_refl _, fun H locs cells slots Q hR hlc _ _ kk => ?_⟩
            have K := w_00 (x := mT u) (y := mU u) (kk a H locs hL hR (List.forall_mem_cons.mpr ⟨inR_0, fun v hv => hst v (List.mem_cons_of_mem _ hv)⟩) hlc)
            obtain ⟨cf, kf, fi, f, cell, h1, h2, h3, h4, h5, h6⟩ := va_OF.moved hX.1.alike hT.2.1
            exact W.getf hx hb (ho12 hc1) (hK.w wt_15 rfl args) h1 h2 (by rw [hR.2.2.1 _ (Nat.lt_of_not_le h6)]; exact h3) h4 h5 rfl rfl hd K
          · cases hsp
      · cases hsp
    · cases hsp
  case arraylength =>
    have e1 : n = 1 := by simpa [iln] using hn
    subst e1
    simp only at hsp
    split at hsp
    · rename_i b r
      split at hsp
      · rename_i hc
        subst hc
        cases hsp
        refine ⟨Nat.le_refl _, Nat.le_refl _, fun H locs cells slots Q hR hlc _ _ kk => ?_⟩
        have K := w_00 (x := mT u) (y := mU u) (kk a H locs hL hR (List.forall_mem_cons.mpr ⟨(show inR 4 from ⟨by decide, by decide⟩), fun v hv => hst v (List.mem_cons_of_mem _ hv)⟩) hlc)
        obtain ⟨cell, h1, h2, h3, h4, h5, h6, h7⟩ := va_T.moved hX.1.alike hT.2.2.2.1
        exact W.alen (n := Int32.ofNat 4) hx hb (by rw [hR.2.2.1 _ (Nat.lt_of_not_le h7)]; exact h1) h2 h5 rfl rfl hd K
      · split at hsp
        · rename_i hc
          subst hc
          cases hsp
          obtain ⟨hl6, hbl, xs, hxs, hXX⟩ := hT.2.2.2.2.2.2
          refine ⟨Nat.le_refl _, Nat.le_refl _, fun H locs cells slots Q hR hlc _ _ kk => ?_⟩
          have K := w_00 (x := mT u) (y := mU u) (kk a H locs hL hR (List.forall_mem_cons.mpr ⟨(show inR (pLn P : Int) from ⟨by omega, by omega⟩), fun v hv => hst v (List.mem_cons_of_mem _ hv)⟩) hlc)
          obtain ⟨scr, h1, h2, h3, h4, h5⟩ := va_X.moved hX.1.alike hXX
          exact W.alen (n := Int32.ofNat (pLn P)) hx hb (by rw [hR.2.2.1 _ hbl]; exact h1) h2 (by rw [h4] <;> rfl) rfl rfl hd K
        · cases hsp
    · cases hsp
  case iaload =>
    have e1 : n = 1 := by simpa [iln] using hn
    subst e1
    simp only at hsp
    split at hsp
    · rename_i x b r
      split at hsp
      · rename_i hc
        obtain ⟨rfl, hx0, hxl⟩ := hc
        cases hsp
        obtain ⟨hl6, hbl, xs, hxs, hXX⟩ := hT.2.2.2.2.2.2
        have hxr : inR x := hst _ List.mem_cons_self
        refine ⟨Nat.le_refl _, Nat.le_refl _, fun H locs cells slots Q hR hlc _ _ kk => ?_⟩
        have K := w_00 (x := mT u) (y := mU u) (kk a H locs hL hR (List.forall_mem_cons.mpr ⟨(show inR (pX P x.toNat) by rw [hxs]; exact i32_inR _), fun v hv => hst v (List.mem_cons_of_mem _ (List.mem_cons_of_mem _ hv))⟩) hlc)
        obtain ⟨scr, h1, h2, h3, h4, h5⟩ := va_X.moved hX.1.alike hXX
        refine W.iald (v := tv (vI (pX P x.toNat))) hx hb (by rw [hR.2.2.1 _ hbl]; exact h1) h2 h3 (by rw [h4]; exact ofI_in hxr hx0 hxl) ?_ rfl rfl hd K
        rw [ofI_clamp hxr hx0, h5 _ (by omega), hxs]
        show _ = some (Value.int (Int32.ofInt (xs x.toNat).toInt))
        rw [ofI_t]
      · cases hsp
    · cases hsp
  case baload =>
    have e1 : n = 1 := by simpa [iln] using hn
    subst e1
    simp only at hsp
    split at hsp
    · rename_i x b r
      split at hsp
      · rename_i hc
        obtain ⟨rfl, hx0, hx4⟩ := hc
        cases hsp
        have hxr : inR x := hst _ List.mem_cons_self
        refine ⟨Nat.le_refl _, Nat.le_refl _, fun H locs cells slots Q hR hlc _ _ kk => ?_⟩
        have K := w_00 (x := mT u) (y := mU u) (kk a H locs hL hR (List.forall_mem_cons.mpr ⟨(sgnC_in x : inR _), fun v hv => hst v (List.mem_cons_of_mem _ (List.mem_cons_of_mem _ hv))⟩) hlc)
        obtain ⟨cell, h1, h2, h3, h4, h5, h6, h7⟩ := va_T.moved hX.1.alike hT.2.2.2.1
        refine W.bald (v := tv (vI (sgnC x))) hx hb (by rw [hR.2.2.1 _ (Nat.lt_of_not_le h7)]; exact h1) h2 h3 ?_ ?_ rfl rfl hd K
        · have h9 := ofI_in (n := 4) hxr hx0 (by omega)
          intro q
          rcases q with q | q
          · exact h9 (Or.inl q)
          · exact h9 (Or.inr (Nat.le_trans h4 q))
        · rw [ofI_clamp hxr hx0, h6 _ (by omega)]
          show some (Value.int (Int32.ofInt (sgnC (x.toNat : Int)))) = _
          rw [Int.toNat_of_nonneg hx0]
          rfl
      · cases hsp
    · cases hsp
  all_goals (simp at hsp)
