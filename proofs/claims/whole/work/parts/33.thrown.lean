/-! The machine's throw is the small machine's. Written by wip/whole/gen/mk33.py. -/
def lxP : List Nat := [333, 398, 441, 451, 671, 742, 857]
def lyP : List Nat := [376, 407, 442, 452, 680, 751, 866]
def lxC (q : (Nat × (Nat × (Nat × Nat))) × Nat) : Bool := decide (q.1.2.2.1 < 5) && (q.1.2.2.2 == 6) && decide (tables_1[q.2]? = some (.classLink (cNm q.1.1) q.1.2.1 (eN q.1.2.2.1)))
theorem lx_all : (tLxL.zip lxP).all lxC = true := by decide +kernel
theorem lx_ok {o k x n : Nat} (h : tLx o k = some (x, n)) : x < 5 ∧ n = 6 ∧ Cond.classLink (cNm o) k (eN x) ∈ lw_tbl := by
  obtain ⟨y, hy⟩ := zip_all lx_all rfl (lk2_mem h)
  simp only [lxC, Bool.and_eq_true, decide_eq_true_eq, beq_iff_eq] at hy
  exact ⟨hy.1.1, hy.1.2, tm hy.2⟩
def lyC (q : (Nat × (Nat × Nat)) × Nat) : Bool := decide (tables_1[q.2]? = some (.methodLink (cNm q.1.1) q.1.2.1 (Bundle.init0 (eN q.1.2.2))))
theorem ly_all : (tLyL.zip lyP).all lyC = true := by decide +kernel
theorem ly_ok {o k x : Nat} (h : tLy o k = some x) : Cond.methodLink (cNm o) k (Bundle.init0 (eN x)) ∈ lw_tbl := by
  obtain ⟨y, hy⟩ := zip_all ly_all rfl (lk2_mem h)
  simp only [lyC, decide_eq_true_eq] at hy
  exact tm hy
theorem e_fit : ∀ x, x < 5 → Bundle.fit (eN x) = true := by decide +kernel
theorem e_up : ∀ n ∈ eUp, Bundle.fit n = true := by decide +kernel
theorem thrOk_spec {j pc x : Nat} (h : thrOk j pc x = true) : decode (tBc j) (pc + 3) = .ok (.dup, 1) ∧ (∃ k, decode (tBc j) (pc + 4) = .ok (.invokespecial k, 3) ∧ tLy (tOw j) k = some x) ∧ decode (tBc j) (pc + 7) = .ok (.athrow, 1) := by
  unfold thrOk at h
  rw [Bool.and_eq_true, Bool.and_eq_true] at h
  obtain ⟨⟨h1, h2⟩, h3⟩ := h
  refine ⟨?_, ?_, ?_⟩
  · split at h1
    · rename_i h9
      exact h9
    · cases h1
  · split at h2
    · rename_i k hk
      exact ⟨k, hk, by simpa using h2⟩
    · cases h2
  · split at h3
    · rename_i h9
      exact h9
    · cases h3
/-- what is known of the start for the exceptions -/
def E0 (dX : Nat → ClassId) (s0 : State) : Prop := (∀ w ∈ lw_tbl, eLs w = true → w.before #[] s0 = true) ∧ (Cond.isRef (.static Bundle.tN "UNASSIGNED_STACK" Bundle.steD)).before #[] s0 = true ∧ (Cond.isRef (.static Bundle.tN "SUPPRESSED_SENTINEL" Bundle.listD)).before #[] s0 = true ∧ (∀ x, x < 5 → ClassAt s0 (eN x) (dX x)) ∧ ∀ x y, x < 5 → y < 5 → x ≠ y → s0.vm.assignable (dX x) (dX y) = false
theorem lsU : Cond.laysStatic Bundle.tN "UNASSIGNED_STACK" Bundle.steD ∈ lw_tbl := tm (i := 360) (by decide +kernel)
theorem lsS : Cond.laysStatic Bundle.tN "SUPPRESSED_SENTINEL" Bundle.listD ∈ lw_tbl := tm (i := 362) (by decide +kernel)
theorem e_at {D : va_G} {dA : Nat → ClassId} {P : Pg} {dX : Nat → ClassId} {s0 s : State} {x : Nat} (hx : x < 5) (hE : E0 dX s0) (hX : Xs s0 s) (hK : SK D dA P s) (A : Array Value) : ∀ w ∈ eAt x, w.before A s = true := by
  intro w hw
  obtain ⟨h1, h2⟩ := e_in hx hw
  rcases h2 with h2 | h2
  · exact hK.w h1 h2 A
  · have h3 := hE.1 w h1 h2
    cases w <;> simp [eLs] at h2
    exact ls_at hX h3
set_option maxHeartbeats 4000000 in
theorem throw_ok {l : Launch} {dX : Nat → ClassId} {D : va_G} {dA : Nat → ClassId} {P : Pg} {s0 : State} (htr : ∀ e : Env, l.admits e → e.platform.stackTraces = false) (hE : E0 dX s0) : ThrowS l dX D dA P s0.heap.size s0.heap (Xs s0) := by
  intro p e R s m args below meth c j pc k x n a ls st u H locs cells slots C hX hj hF hLo hd hlx hh ht hL hR hlc hw hce hsl
  have hC := C
  obtain ⟨hx, hb, hml, -, hlocks, hown, -, hK, hxt⟩ := hC
  obtain ⟨hx5, rfl, hcl⟩ := lx_ok hlx
  obtain ⟨hd3, ⟨k2, hd4, hly⟩, hd7⟩ := thrOk_spec ht
  have hCA := classAt_moved hX.1.alike (hE.2.2.2.1 x hx5)
  obtain ⟨hfc, kX, hkX, hord⟩ := hCA
  have hats := e_at hx5 hE hX hK args
  have hins : (Cond.instantiable (eN x) 6).before args s = true := hats _ (by simp [eAt])
  have hini : (Cond.initialized (eN x)).before args s = true := hats _ (by simp [eAt])
  intro T0 hT0 X0
  have hsz : s.heap.size ≤ mT u := by rw [← hR.1, ← hT0]; exact X0.same.2.1
  refine (W.newcK hx hb hown (hK.w hcl rfl args) hins hini rfl hd hce hsl hfc hR.1 fun H' kC hkC e1 e2 e3 => ?_ : W p l e R s m args below meth c H locs cells slots _ (F0 m pc a (st.map tv))) T0 hT0 X0
  refine lv_dup hx hb hd3 rfl ?_
  intro T hT XT
  have hcell : T.heap[mT u]? = some (freshCell (dX x) kC) := by rw [hT]; exact e1
  obtain ⟨U, ce, L, st1, run1, end1, wm, same, hLb, hce1, hcls, hvm, hsz1, hoff⟩ := thrX XT hx (htr e XT.admits) hx5 hown (e_fit x hx5) e_up hats (hK.w (ly_ok hly) rfl args)
    (rf_at hX (hE.1 _ lsU rfl) hE.2.1) (rf_at hX (hE.1 _ lsS rfl) hE.2.2.1) (fun q hq cell hcell => hX.2.2 q.base cell (hlc q hq) hcell) hfc hkC hcell hsz
    (g := F0 m (pc + 4) a (.ref (mT u) :: .ref (mT u) :: st.map tv)) rfl (by rw [hml]; exact hL.2.1) rfl rfl (rest := st.map tv) rfl (by rw [hb]; exact hd4) (by rw [hb]; exact hd7)
    (by
      have h9 : c.exceptionTable.toList = [] := by
        have h8 := hxt
        rw [hs_hd j hj hh] at h8
        simpa using h8
      rw [h9]
      intro z hz
      cases hz) (by omega) (by
      show 2 * 0 + _ + 80 ≤ R.locals
      rw [List.map_cons, List.sum_cons, tv_cats]
      have : (Value.ref (mT u)).category = 1 := rfl
      omega) hlocks
  have hHs : H.size = mT u := hR.1
  have hTs : T.heap.size = mT u + 1 := by rw [hT]; exact e2
  refine ⟨U, st1, .threw (mT u), locs ++ L, run1, end1, ⟨⟨rfl, hx5, ce, hce1, hcls, hvm⟩, ?_⟩, ⟨wm, same⟩, fun q hq => ?_⟩
  · refine hR.hole (by rw [hsz1, hTs, hHs]) (fun q hq => ?_) (fun cell hc => ?_)
    · have hq2 : q < mT u := by rw [← hHs]; exact hq
      rw [hoff q (Nat.ne_of_lt hq2), hT]
      exact e3 q hq2
    · rw [hHs, hce1] at hc
      cases hc
      rw [hvm]
      rfl
  · rcases List.mem_append.mp hq with h9 | h9
    · exact hlc q h9
    · rw [hLb q h9]
      exact hR.2.1
