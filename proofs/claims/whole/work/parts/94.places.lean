/-! The model: places told; a state described. Written by wip/whole/gen/c94.py. -/
def DF2 (g g' : Nat → Nat → Int) (m : Nat) : Prop := (∀ a, a ≠ m → (a < m + 27 ∨ m + 34 < a) → a ≠ m + 41 → a ≠ m + 42 → g' a = g a) ∧ ∀ f, f ≠ 30 → f ≠ 37 → f ≠ 38 → f ≠ 39 → f ≠ 48 → f ≠ 49 → g' m f = g m f
theorem DFr.w {g g' : Nat → Nat → Int} {m : Nat} (h : DFr g g' m) : DF2 g g' m := ⟨h.1, fun f h1 h2 h3 h4 h5 _ => h.2 f h1 h2 h3 h4 h5⟩
theorem DF2.trans {g g1 g2 : Nat → Nat → Int} {m : Nat} (a : DF2 g g1 m) (b : DF2 g1 g2 m) : DF2 g g2 m := ⟨fun x h1 h2 h3 h4 => (b.1 x h1 h2 h3 h4).trans (a.1 x h1 h2 h3 h4), fun f h1 h2 h3 h4 h5 h6 => (b.2 f h1 h2 h3 h4 h5 h6).trans (a.2 f h1 h2 h3 h4 h5 h6)⟩
theorem brk_jn {br : Int} {l : List (List Int)} (h : br = 0 ∨ br = 91) : (brk br l).length = (jnL false l).length + (if br = 91 then 2 else 0) := by
  unfold brk
  rcases h with rfl | rfl
  · rfl
  · rw [if_pos rfl, if_pos rfl, List.length_append, List.length_append]
    simp only [List.length_cons, List.length_nil]
    omega
def PLs (P : Pg) (d : Nat) (u : Mm) (m tot : Nat) (kd nm rp en : Nat → Int) (A : SS) (rk : Int → Nat) (g0 : Nat → Nat → Int) (QP : Option Vl ⊕ (Nat × Nat) → Mm → Prop) (f : Nat) : Prop :=
    ∀ (j : Nat), j ≤ 91 → ∀ (p : Nat) (w : Int) (c b : Nat) (W0 H W : List Int) (dn : List (List Int)) (Q : List (Nat × Nat)) (g : Nat → Nat → Int) (br : Int), p < 21 → InS g0 m (p : Int) w → rk w ≤ f → c + rk w ≤ 21 → DFr g0 g m → DX g m W → g m 39 = ((c + 1 : Nat) : Int) → g (m + 30) c = 0 → g (m + 31) c = (p : Int) → g (m + 32) c = (j : Int) → g (m + 33) c = (b : Int) → ((p = 0 ∧ br = 0 ∧ b = 0) ∨ (p ≠ 0 ∧ br = 91 ∧ 1 ≤ b)) → g m 38 = ((b + Q.length : Nat) : Int) → b + Q.length ≤ 100 → PcR g m b W.length Q → Q.map (sub W) = dn → W.take (W0.length + H.length) = W0 ++ H → W.length = W0.length + H.length + sumL dn → (0 < b → g (m + 28) (b - 1) = (W0.length : Int) ∧ g (m + 42) (b - 1) = (H.length : Int)) → (b = 0 → W0.length + H.length = 0) → (∀ x, x ∈ dn → 2 ≤ x.length) →
      W0.length + H.length + (brk br (srtT (dn ++ (mRs g0 m kd nm rp (afF en) (plT kd nm rp (afF en) A.1 A.2.1 A.2.2.1 f) p j)))).length ≤ tot → 3 * b + (jnL false (srtT (dn ++ (mRs g0 m kd nm rp (afF en) (plT kd nm rp (afF en) A.1 A.2.1 A.2.2.1 f) p j)))).length ≤ tot + 2 →
      (∀ g', DF2 g0 g' m → (0 < b → DFr g0 g' m ∧ g' (m + 28) (b - 1) = (W0.length : Int) ∧ g' (m + 29) (b - 1) = ((H.length + (brk br (srtT (dn ++ (mRs g0 m kd nm rp (afF en) (plT kd nm rp (afF en) A.1 A.2.1 A.2.2.1 f) p j)))).length : Nat) : Int)) → (b = 0 → g' m 49 = ((W0 ++ H ++ (brk br (srtT (dn ++ (mRs g0 m kd nm rp (afF en) (plT kd nm rp (afF en) A.1 A.2.1 A.2.2.1 f) p j))))).length : Int)) → DX g' m (W0 ++ H ++ (brk br (srtT (dn ++ (mRs g0 m kd nm rp (afF en) (plT kd nm rp (afF en) A.1 A.2.1 A.2.2.1 f) p j))))) → g' m 39 = (c : Int) → g' m 38 = (b : Int) → Pre g g' m c (b - 1) → Ef P (d + 6) 113 23 [some (vR m)] [] (sI u g') QP) →
      Ef P (d + 6) 113 23 [some (vR m)] [] (sI u g) QP
theorem pl_step {P : Pg} {d : Nat} {u : Mm} {m sz tot : Nat} {kd nm rp en : Nat → Int} {ht : Nat → Nat} {A : SS} {rk : Int → Nat} {g0 : Nat → Nat → Int} {QP : Option Vl ⊕ (Nat × Nat) → Mm → Prop} (hM : MdA u m) (hT : TmOk kd nm en sz ht) (hTr : TrR g0 m kd nm rp en sz) (hA : Rel g0 m A) (hV : Vd kd nm sz A) (hrk : ∀ e, e ∈ A.1 → rk e.1 < rk e.2.1)
    (fx : ∀ g', DF2 g0 g' m → g' m 30 = 1 → 240 < tot → Ef P (d + 6) 113 23 [some (vR m)] [] (sI u g') QP) (f : Nat) (IH : ∀ f', f = f' + 1 → PLs P d u m tot kd nm rp en A rk g0 QP f') : PLs P d u m tot kd nm rp en A rk g0 QP f := by
  have s0 := hM.1
  have f43 : mF u m 43 = some (m + 30) := (hM.2 29 (by decide)).1
  have s43 : mS u (m + 30) = some (0, 40) := (hM.2 29 (by decide)).2
  obtain ⟨v1, v2, v3, v4, v5, v6, v7, v8, v9, v10, v11, v12, v13, v14, v15, v16⟩ := id hV
  obtain ⟨rp1, rg1, rm1, -⟩ := id hA
  unfold PLs
  refine nat_loop 91 ?_
  intro j hj ih p w c b W0 H W dn Q g br hp hw hrf hcr hfr hX h39 hki hth hnx hb hbr h38 h100 hQ hdn hWt hWl hfh hb0 hge hB1 hB2 cont
  obtain ⟨x1, x2, x3, x4⟩ := id hX
  have row : ∀ i, 3 ≤ i → i ≤ 24 → g (m + i) = g0 (m + i) := fun i h1 h2 => hfr.1 _ (by omega) (by omega) (by omega) (by omega)
  have hbr2 : br = 0 ∨ br = 91 := by omega
  have dq : DQ g m W := Or.inl hX
  have hTr1 : TrR g m kd nm rp en sz := hTr.of (fun i h1 h2 => row i h1 (by omega))
  have hQl : Q.length = dn.length := by rw [← hdn, List.length_map]
  have hsd := sumL_2 hge
  by_cases hj91 : j = 91
  · subst hj91
    rw [mRs_e, List.append_nil] at hB1 hB2 cont
    refine ef_aload_n (pc := 23) d113_23 rfl ?_
    refine eg_getI (pc := 24) d113_24 lf_8_245 (by assumption) (by decide) ?_
    rw [h39]
    refine ef_if_leF (pc := 27) d113_27 (t := 111) rfl (by omega) ?_
    refine ef_aload_n (pc := 30) d113_30 rfl ?_
    refine eg_getZ (pc := 31) d113_31 lf_8_215 (by assumption) (by decide) ?_
    rw [x2]
    refine ef_if_neF (pc := 34) d113_34 (t := 111) rfl (by decide) ?_
    refine ef_aload_n (pc := 37) d113_37 rfl ?_
    refine eg_getR (pc := 38) d113_38 lf_8_98 (by assumption) (by decide) (by assumption) ?_
    refine ef_aload_n (pc := 41) d113_41 rfl ?_
    refine eg_getI (pc := 42) d113_42 lf_8_245 (by assumption) (by decide) ?_
    rw [h39]
    refine ef_iconst (pc := 45) d113_45 (by decide) ?_
    refine ef_isub (pc := 46) d113_46 (z := (c : Int)) (by omega) ⟨by omega, by omega⟩ ?_
    refine eg_iald (pc := 47) d113_47 (i := c) (by assumption) (rfl) (by omega) ?_
    rw [hki]
    refine ef_if_neF (pc := 48) d113_48 (t := 64) rfl (by decide) ?_
    refine ef_aload_n (pc := 51) d113_51 rfl ?_
    refine ef_aload_n (pc := 52) d113_52 rfl ?_
    refine eg_getI (pc := 53) d113_53 lf_8_245 (by assumption) (by decide) ?_
    rw [h39]
    refine ef_iconst (pc := 56) d113_56 (by decide) ?_
    refine ef_isub (pc := 57) d113_57 (z := (c : Int)) (by omega) ⟨by omega, by omega⟩ ?_
    refine ef_callV (pc := 58) d113_58 lm_8_286 (as := [_]) rfl rfl (by assumption) rfl rfl (by decide) (Nat.le_of_ble_eq_true rfl) rfl (Nat.le_of_ble_eq_true rfl) ?_
    refine Ec.imp (Ec.deep (by omega) (c115e (d := d) (st := W0.length + H.length) (Q := Q) (br := br) hM x1 x2 x4 h38 (by omega) hQ (by omega) (fun h => hb0 h) (fun h => ⟨W0.length, H.length, (hfh h).1, (hfh h).2, rfl⟩) h39 (by omega) hb hth hnx (by omega))) ?_
    rintro r58 u58 ⟨g2, rfl, rfl, d2, s2, p2, q2, a2, e2, c2, b2⟩
    refine ef_goto (pc := 61) d113_61 (t := 74) rfl ?_
    rw [hdn, hWt] at d2 p2 q2
    have hfr2 : DF2 g0 g2 m := hfr.w.trans ⟨fun a h1 h2 h3 h4 => a2 a h1 (by omega) (by omega) (by omega) (by omega) h3, fun f h1 h2 h3 h4 h5 h6 => b2 f h1 h2 h3 h4 h6⟩
    refine chk hM d2.used.1 s2 c2 (fun h => ?_) (fun h _ _ => ?_)
    · refine fx _ (hfr2.trans ⟨fun a h1 h2 h3 h4 => u2_ne h1, fun f h1 h2 h3 h4 h5 h6 => u2_ni h1⟩) u2_at ?_
      rcases h with h | h | h
      · have := d2.f h
        rw [List.length_append, List.length_append] at this
        omega
      · omega
      · omega
    · refine cont g2 hfr2 (fun hb1 => ?_) (fun hbz => q2 hbz (d2.x h).1) (d2.x h) c2 s2 ⟨fun i hi => ?_, fun i hi => ?_⟩
      · obtain ⟨i1, i2, i3, i4⟩ := p2 hb1
        refine ⟨⟨hfr2.1, fun f h1 h2 h3 h4 h5 => ?_⟩, by rw [i1 _ (by omega)]; exact (hfh hb1).1, ?_⟩
        · by_cases h49 : f = 49
          · rw [h49, i4]; exact hfr.2 49 (by decide) (by decide) (by decide) (by decide) (by decide)
          · exact hfr2.2 f h1 h2 h3 h4 h5 h49
        · rw [i3 (d2.x h).1, (hfh hb1).1, List.length_append, List.length_append]; omega
      · rw [a2 (m + 30) (by omega) (by omega) (by omega) (by omega) (by omega) (by omega), a2 (m + 31) (by omega) (by omega) (by omega) (by omega) (by omega) (by omega), e2, a2 (m + 33) (by omega) (by omega) (by omega) (by omega) (by omega) (by omega), a2 (m + 34) (by omega) (by omega) (by omega) (by omega) (by omega) (by omega), u1_ne (by omega)]; exact ⟨rfl, rfl, rfl, rfl, rfl⟩
      · obtain ⟨i1, i2, -, -⟩ := p2 (by omega)
        exact ⟨i1 i (by omega), i2 i (by omega), by rw [a2 _ (by omega) (by omega) (by omega) (by omega) (by omega) (by omega)]⟩
  have hjl : j < 91 := by omega
  rw [mRs_s hjl] at hB1 hB2 cont
  -- nothing in this slot
  have skip : mIt g0 m kd nm rp (afF en) (plT kd nm rp (afF en) A.1 A.2.1 A.2.2.1 f) p j = [] → (j < 21 → ¬ (1 ≤ j ∧ 0 ≤ g (m + 12) j ∧ g (m + 14) j = (p : Int))) → (21 ≤ j → j < 61 → ¬ (0 ≤ g (m + 15) (j - 21) ∧ g (m + 17) (j - 21) = (p : Int))) → (61 ≤ j → ¬ (0 ≤ g (m + 19) (j - 61) ∧ g (m + 21) (j - 61) = (p : Int))) → Ef P (d + 6) 113 23 [some (vR m)] [] (sI u g) QP := by
    intro he s1 s2 s3
    rw [he, List.nil_append] at hB1 hB2 cont
    refine ef_aload_n (pc := 23) d113_23 rfl ?_
    refine eg_getI (pc := 24) d113_24 lf_8_245 (by assumption) (by decide) ?_
    rw [h39]
    refine ef_if_leF (pc := 27) d113_27 (t := 111) rfl (by omega) ?_
    refine ef_aload_n (pc := 30) d113_30 rfl ?_
    refine eg_getZ (pc := 31) d113_31 lf_8_215 (by assumption) (by decide) ?_
    rw [x2]
    refine ef_if_neF (pc := 34) d113_34 (t := 111) rfl (by decide) ?_
    refine ef_aload_n (pc := 37) d113_37 rfl ?_
    refine eg_getR (pc := 38) d113_38 lf_8_98 (by assumption) (by decide) (by assumption) ?_
    refine ef_aload_n (pc := 41) d113_41 rfl ?_
    refine eg_getI (pc := 42) d113_42 lf_8_245 (by assumption) (by decide) ?_
    rw [h39]
    refine ef_iconst (pc := 45) d113_45 (by decide) ?_
    refine ef_isub (pc := 46) d113_46 (z := (c : Int)) (by omega) ⟨by omega, by omega⟩ ?_
    refine eg_iald (pc := 47) d113_47 (i := c) (by assumption) (rfl) (by omega) ?_
    rw [hki]
    refine ef_if_neF (pc := 48) d113_48 (t := 64) rfl (by decide) ?_
    refine ef_aload_n (pc := 51) d113_51 rfl ?_
    refine ef_aload_n (pc := 52) d113_52 rfl ?_
    refine eg_getI (pc := 53) d113_53 lf_8_245 (by assumption) (by decide) ?_
    rw [h39]
    refine ef_iconst (pc := 56) d113_56 (by decide) ?_
    refine ef_isub (pc := 57) d113_57 (z := (c : Int)) (by omega) ⟨by omega, by omega⟩ ?_
    refine ef_callV (pc := 58) d113_58 lm_8_286 (as := [_]) rfl rfl (by assumption) rfl rfl (by decide) (Nat.le_of_ble_eq_true rfl) rfl (Nat.le_of_ble_eq_true rfl) ?_
    refine Ec.imp (c115s hM (by omega) hth hnx hjl s1 s2 s3) ?_
    rintro r58 u58 ⟨rfl, rfl⟩
    refine ef_goto (pc := 61) d113_61 (t := 74) rfl ?_
    refine chk (s := ((b + Q.length : Nat) : Int)) (c := ((c + 1 : Nat) : Int)) hM (Or.inl (by rw [u2_ne (by omega)]; exact x2)) (by rw [u2_ne (by omega)]; exact h38) (by rw [u2_ne (by omega)]; exact h39) (fun h => ?_) (fun h _ _ => ?_)
    · rw [u2_ne (by omega), x2] at h; omega
    · refine ih hjl p w c b W0 H W dn Q (u2 g (m + 32) c ((j + 1 : Nat) : Int)) br hp hw hrf hcr (hfr.trans ⟨fun a h1 h2 h3 h4 => u2_ne (by omega), fun f h1 h2 h3 h4 h5 => by rw [u2_ne (by omega)]⟩) ⟨x1, by rw [u2_ne (by omega)]; exact x2, by rw [u2_ne (by omega)]; exact x3, by rw [u2_ne (by omega)]; exact x4⟩ (by rw [u2_ne (by omega)]; exact h39) (by rw [u2_ne (by omega)]; exact hki) (by rw [u2_ne (by omega)]; exact hth) (by rw [u2_at]) (by rw [u2_ne (by omega)]; exact hb) hbr (by rw [u2_ne (by omega)]; exact h38) h100 (fun i q hq => by rw [u2_ne (by omega), u2_ne (by omega)]; exact hQ i q hq) hdn hWt hWl (fun h => by rw [u2_ne (by omega), u2_ne (by omega)]; exact hfh h) hb0 hge hB1 hB2 (fun g2 q1 q2 q3 q4 q5 q6 q7 => cont g2 q1 q2 q3 q4 q5 q6 ⟨fun i hi => ?_, fun i hi => ?_⟩)
      · obtain ⟨e1, e2, e3, e4, e5⟩ := q7.1 i hi
        rw [e1, e2, e3, e4, e5, u2_ne (by omega), u2_ne (by omega), u2_ni (by omega), u2_ne (by omega), u2_ne (by omega)]; exact ⟨rfl, rfl, rfl, rfl, rfl⟩
      · obtain ⟨e1, e2, e3⟩ := q7.2 i hi
        rw [e1, e2, e3, u2_ne (by omega), u2_ne (by omega), u2_ne (by omega)]; exact ⟨rfl, rfl, rfl⟩
  -- one more text
  have one : ∀ Tk : List Int, mIt g0 m kd nm rp (afF en) (plT kd nm rp (afF en) A.1 A.2.1 A.2.2.1 f) p j = [Tk] → 2 ≤ Tk.length →
      (W.length + Tk.length ≤ tot ∧ 3 * (b + Q.length) + Tk.length ≤ tot + 2) ∧
      (∀ g2, DFr g0 g2 m → DX g2 m (W ++ Tk) → g2 m 39 = ((c + 1 : Nat) : Int) → g2 m 38 = ((b + Q.length + 1 : Nat) : Int) → b + Q.length + 1 ≤ 100 → g2 (m + 28) (b + Q.length) = (W.length : Int) → g2 (m + 29) (b + Q.length) = (Tk.length : Int) → (g2 (m + 30) c = 0 ∧ g2 (m + 31) c = (p : Int) ∧ g2 (m + 32) c = ((j + 1 : Nat) : Int) ∧ g2 (m + 33) c = (b : Int)) → Pre g g2 m c (b + Q.length) → Ef P (d + 6) 113 23 [some (vR m)] [] (sI u g2) QP) := by
    intro Tk he hTk2
    rw [he, List.singleton_append] at hB1 hB2 cont
    have hbl := brk_len (br := br) (l := dn ++ Tk :: mRs g0 m kd nm rp (afF en) (plT kd nm rp (afF en) A.1 A.2.1 A.2.2.1 f) p (j + 1))
    have hbj := brk_jn (br := br) (l := srtT (dn ++ Tk :: mRs g0 m kd nm rp (afF en) (plT kd nm rp (afF en) A.1 A.2.1 A.2.2.1 f) p (j + 1))) hbr2
    rw [sumL_app, List.length_append, List.length_cons] at hbl
    have hsc : sumL (Tk :: mRs g0 m kd nm rp (afF en) (plT kd nm rp (afF en) A.1 A.2.1 A.2.2.1 f) p (j + 1)) = Tk.length + sumL (mRs g0 m kd nm rp (afF en) (plT kd nm rp (afF en) A.1 A.2.1 A.2.2.1 f) p (j + 1)) := by simp [sumL]
    rw [hsc] at hbl
    refine ⟨⟨by omega, by omega⟩, ?_⟩
    intro g2 hfr2 hX2 h392 h382 h1002 hf2 hs2 hrow hpre
    have hWTl : (W ++ Tk).length = W.length + Tk.length := List.length_append
    refine ih hjl p w c b W0 H (W ++ Tk) (dn ++ [Tk]) (Q ++ [(W.length, W.length + Tk.length)]) g2 br hp hw hrf hcr hfr2 hX2 h392 hrow.1 hrow.2.1 hrow.2.2.1 hrow.2.2.2 hbr ?_ ?_ ?_ ?_ ?_ ?_ ?_ hb0 ?_ ?_ ?_ ?_
    · rw [h382, List.length_append]; rfl
    · rw [List.length_append]; exact h1002
    · intro i q hq
      by_cases hi : i < Q.length
      · rw [List.getElem?_append_left hi] at hq
        obtain ⟨q1, q2, q3, q4⟩ := hQ i q hq
        obtain ⟨e1, e2, -⟩ := hpre.2 (b + i) (by omega)
        exact ⟨by rw [e1]; exact q1, by rw [e2]; exact q2, q3, by omega⟩
      · rw [List.getElem?_append_right (by omega)] at hq
        have h0 : i - Q.length = 0 := by
          have := (List.getElem?_eq_some_iff.mp hq).1
          simp only [List.length_cons, List.length_nil] at this
          omega
        rw [h0] at hq
        cases hq
        have hi2 : i = Q.length := by omega
        subst hi2
        exact ⟨hf2, by rw [hs2]; show (Tk.length : Int) = ((W.length + Tk.length - W.length : Nat) : Int); rw [Nat.add_sub_cancel_left], by show W.length ≤ W.length + Tk.length; omega, by show W.length + Tk.length ≤ _; omega⟩
    · rw [List.map_append]
      congr 1
      · rw [← hdn]
        refine List.map_congr_left fun q hq => ?_
        obtain ⟨i, hi⟩ := List.getElem?_of_mem hq
        obtain ⟨-, -, q3, q4⟩ := hQ i q hi
        exact sub_app q4 q3
      · show [sub (W ++ Tk) (W.length, W.length + Tk.length)] = [Tk]
        rw [sub_end]
    · rw [List.take_append_of_le_length (by omega)]; exact hWt
    · rw [hWTl, hWl, sumL_app]; simp [sumL]; omega
    · intro hb1
      obtain ⟨e1, -, e3⟩ := hpre.2 (b - 1) (by omega)
      rw [e1, e3]; exact hfh hb1
    · intro x hx
      rcases List.mem_append.mp hx with hx | hx
      · exact hge x hx
      · rw [List.mem_singleton.mp hx]; exact hTk2
    · rw [List.append_assoc]; exact hB1
    · rw [List.append_assoc]; exact hB2
    · intro g' q1 q2 q3 q4 q5 q6 q7
      rw [show dn ++ [Tk] ++ mRs g0 m kd nm rp (afF en) (plT kd nm rp (afF en) A.1 A.2.1 A.2.2.1 f) p (j + 1) = dn ++ Tk :: mRs g0 m kd nm rp (afF en) (plT kd nm rp (afF en) A.1 A.2.1 A.2.2.1 f) p (j + 1) by simp] at q2 q3 q4
      exact cont g' q1 q2 q3 q4 q5 q6 ((hpre.sub (Nat.le_refl _) (by omega)).trans q7)
  -- rows of a frame below a new one
  have below : ∀ (g1 g2 : Nat → Nat → Int) (X : List Int) (a1 a2 a3 a4 : Int), Opn g g1 m W X (b + Q.length) c a1 a2 a3 a4 ((j + 1 : Nat) : Int) → Pre g1 g2 m (c + 1) (b + Q.length) → (g2 (m + 30) c = 0 ∧ g2 (m + 31) c = (p : Int) ∧ g2 (m + 32) c = ((j + 1 : Nat) : Int) ∧ g2 (m + 33) c = (b : Int)) ∧ Pre g g2 m c (b + Q.length) := by
    intro g1 g2 X a1 a2 a3 a4 hO q8
    obtain ⟨p1, p2, p3, p4, ⟨z, p5, p5b⟩, p6, p7, p8, p9, p10, p11, p12⟩ := hO
    obtain ⟨r1, r2, r3, r4, -⟩ := q8.1 c (by omega)
    refine ⟨⟨?_, ?_, ?_, ?_⟩, fun i hi => ?_, fun i hi => ?_⟩
    · rw [r1, p6, u1_ne (by omega)]; exact hki
    · rw [r2, p7, u1_ne (by omega)]; exact hth
    · rw [r3, p8, u1_ne (by omega), u1_eq]
    · rw [r4, p9, u1_ne (by omega)]; exact hb
    · obtain ⟨e1, e2, e3, e4, e5⟩ := q8.1 i (by omega)
      rw [e1, e2, e3, e4, e5, p6, p7, p8, p9, p10, u1_ne (by omega), u1_ne (by omega), u1_ne (by omega), u1_ne (by omega), u1_ne (by omega), u1_ne (by omega)]
      exact ⟨rfl, rfl, rfl, rfl, rfl⟩
    · obtain ⟨e1, e2, e3⟩ := q8.2 i (by omega)
      rw [e1, e2, e3, p4, p5, u1_ne (by omega), u1_ne (by omega), p11 _ (by omega) (by omega) (by omega) (by omega) (by omega)]
      exact ⟨rfl, rfl, rfl⟩
  have opfr : ∀ (g1 : Nat → Nat → Int) (X : List Int) (a1 a2 a3 a4 : Int), Opn g g1 m W X (b + Q.length) c a1 a2 a3 a4 ((j + 1 : Nat) : Int) → DFr g0 g1 m := by
    intro g1 X a1 a2 a3 a4 hO
    obtain ⟨p1, p2, p3, p4, p5, p6, p7, p8, p9, p10, p11, p12⟩ := hO
    exact hfr.trans ⟨fun a h1 h2 h3 h4 => p11 a h1 (by omega) (by omega) (by omega) h4, fun f h1 h2 h3 h4 h5 => p12 f h1 h2 h3 h4 h5⟩
  by_cases hj21 : j < 21
  · by_cases hcd : 1 ≤ j ∧ 0 ≤ g0 (m + 12) j ∧ g0 (m + 14) j = (p : Int)
    · -- a place
      have hit : mIt g0 m kd nm rp (afF en) (plT kd nm rp (afF en) A.1 A.2.1 A.2.2.1 f) p j = [[(97 + g0 (m + 13) j) % 65536, 91] ++ (plT kd nm rp (afF en) A.1 A.2.1 A.2.2.1 f) (g0 (m + 12) j) ++ [93]] := by unfold mIt; rw [if_pos hj21, if_pos hcd]
      obtain ⟨e, he, e1, e2, e3⟩ := rp1.1 j hcd.1 hj21 hcd.2.1
      have hew : e.2.1 = w := by rw [hcd.2.2] at e3; exact e3.eq hw
      have hr1 := hrk e he
      rw [hew, e1] at hr1
      have hnm5 := v14 e he
      rw [e2] at hnm5
      obtain ⟨f', rfl⟩ : ∃ f', f = f' + 1 := ⟨f - 1, by omega⟩
      have hjs : InS g0 m (j : Int) (g0 (m + 12) j) := ⟨j, rfl, hj21, by unfold pNo; rw [if_neg (by omega)], fun _ => hcd.2.1⟩
      have hpl := plT_m (f := f') (rp := rp) (af := afF en) hA hV hjs
      have hTe : [(97 + g0 (m + 13) j) % 65536, 91] ++ (plT kd nm rp (afF en) A.1 A.2.1 A.2.2.1 (f' + 1)) (g0 (m + 12) j) ++ [93] = [loF (g0 (m + 13) j)] ++ brk 91 (srtT (mRs g0 m kd nm rp (afF en) (plT kd nm rp (afF en) A.1 A.2.1 A.2.2.1 f') j 0)) := by
        rw [hpl]
        unfold brk loF
        rw [if_pos rfl, if_pos (by omega), show (97 + g0 (m + 13) j) % 65536 = 97 + g0 (m + 13) j by omega]
        simp
      rw [hTe] at hit
      obtain ⟨⟨t1, t2⟩, after⟩ := one _ hit (by rw [List.length_append]; have := brk_jn (br := 91) (l := srtT (mRs g0 m kd nm rp (afF en) (plT kd nm rp (afF en) A.1 A.2.1 A.2.2.1 f') j 0)) (Or.inr rfl); rw [if_pos rfl] at this; simp only [List.length_cons, List.length_nil]; omega)
      have hbj := brk_jn (br := 91) (l := srtT (mRs g0 m kd nm rp (afF en) (plT kd nm rp (afF en) A.1 A.2.1 A.2.2.1 f') j 0)) (Or.inr rfl)
      rw [if_pos rfl] at hbj
      rw [List.length_append, show ([loF (g0 (m + 13) j)] : List Int).length = 1 from rfl] at t1 t2
      refine ef_aload_n (pc := 23) d113_23 rfl ?_
      refine eg_getI (pc := 24) d113_24 lf_8_245 (by assumption) (by decide) ?_
      rw [h39]
      refine ef_if_leF (pc := 27) d113_27 (t := 111) rfl (by omega) ?_
      refine ef_aload_n (pc := 30) d113_30 rfl ?_
      refine eg_getZ (pc := 31) d113_31 lf_8_215 (by assumption) (by decide) ?_
      rw [x2]
      refine ef_if_neF (pc := 34) d113_34 (t := 111) rfl (by decide) ?_
      refine ef_aload_n (pc := 37) d113_37 rfl ?_
      refine eg_getR (pc := 38) d113_38 lf_8_98 (by assumption) (by decide) (by assumption) ?_
      refine ef_aload_n (pc := 41) d113_41 rfl ?_
      refine eg_getI (pc := 42) d113_42 lf_8_245 (by assumption) (by decide) ?_
      rw [h39]
      refine ef_iconst (pc := 45) d113_45 (by decide) ?_
      refine ef_isub (pc := 46) d113_46 (z := (c : Int)) (by omega) ⟨by omega, by omega⟩ ?_
      refine eg_iald (pc := 47) d113_47 (i := c) (by assumption) (rfl) (by omega) ?_
      rw [hki]
      refine ef_if_neF (pc := 48) d113_48 (t := 64) rfl (by decide) ?_
      refine ef_aload_n (pc := 51) d113_51 rfl ?_
      refine ef_aload_n (pc := 52) d113_52 rfl ?_
      refine eg_getI (pc := 53) d113_53 lf_8_245 (by assumption) (by decide) ?_
      rw [h39]
      refine ef_iconst (pc := 56) d113_56 (by decide) ?_
      refine ef_isub (pc := 57) d113_57 (z := (c : Int)) (by omega) ⟨by omega, by omega⟩ ?_
      refine ef_callV (pc := 58) d113_58 lm_8_286 (as := [_]) rfl rfl (by assumption) rfl rfl (by decide) (Nat.le_of_ble_eq_true rfl) rfl (Nat.le_of_ble_eq_true rfl) ?_
      refine Ec.imp (Ec.deep (by omega) (c115p (d := d) (s := b + Q.length) (p := p) (j := j) hM dq x2 h38 (by omega) h39 (by omega) hth hnx hcd.1 hj21 (by rw [row 12 (by omega) (by omega)]; exact hcd.2.1) (by rw [row 14 (by omega) (by omega)]; exact hcd.2.2) (by rw [row 13 (by omega) (by omega)]) (by omega) (by omega))) ?_
      rintro r58 u58 ⟨g1, rfl, rfl, hO, h481⟩
      refine ef_goto (pc := 61) d113_61 (t := 74) rfl ?_
      have hfr1 := opfr g1 _ _ _ _ _ hO
      obtain ⟨p1, p2, p3, p4, ⟨z, p5, p5b⟩, p6, p7, p8, p9, p10, p11, p12⟩ := id hO
      refine chk hM p1.used.1 p2 p3 (fun h => ?_) (fun h h1001 _ => ?_)
      · refine fx _ (hfr1.w.trans ⟨fun a h1 h2 h3 h4 => u2_ne h1, fun f h1 h2 h3 h4 h5 h6 => u2_ni h1⟩) u2_at ?_
        rcases h with h | h | h
        · have := p1.f h
          rw [List.length_append] at this
          simp only [List.length_cons, List.length_nil] at this
          omega
        · omega
        · omega
      · have hX1 := p1.x h
        have hX1l := hX1.1
        rw [List.length_append] at hX1l
        simp only [List.length_cons, List.length_nil] at hX1l
        refine IH f' rfl 0 (by omega) j (g0 (m + 12) j) (c + 1) (b + Q.length + 1) W [loF (g0 (m + 13) j)] (W ++ [loF (g0 (m + 13) j)]) [] [] g1 91 hj21 hjs (by omega) (by omega) hfr1 hX1 p3 (by rw [p6, u1_eq]) (by rw [p7, u1_eq]) (by rw [p8, u1_eq]; rfl) (by rw [p9, u1_eq]) (Or.inr ⟨by omega, rfl, by omega⟩) p2 (by rw [List.length_nil]; omega) (fun i q hq => by cases hq) rfl (by rw [List.take_of_length_le (by rw [List.length_append]; omega)]) (by rw [List.length_append]; simp [sumL]) (fun _ => ⟨by rw [Nat.add_sub_cancel, p4, u1_eq], by rw [Nat.add_sub_cancel, p5, u1_eq]; exact p5b (by simp only [List.length_cons, List.length_nil]; omega)⟩) (fun hh => by omega) (fun x hx => absurd hx (List.not_mem_nil)) (by rw [List.nil_append]; simp only [List.length_cons, List.length_nil]; omega) (by rw [List.nil_append]; omega) ?_
        intro g2 q1 q2 q3 q4 q5 q6 q7
        rw [List.nil_append] at q2 q4
        rw [List.append_assoc] at q4
        rw [Nat.add_sub_cancel] at q2 q7
        obtain ⟨k1, k2, k3⟩ := q2 (by omega)
        obtain ⟨k4, k5⟩ := below g1 g2 _ _ _ _ _ hO q7
        exact after g2 k1 q4 q5 q6 (by omega) k2 (by rw [k3, List.length_append]) k4 k5
    · exact skip (by unfold mIt; rw [if_pos hj21, if_neg hcd]) (fun _ => by rw [row 12 (by omega) (by omega), row 14 (by omega) (by omega)]; exact hcd) (fun h => by omega) (fun h => by omega)
  · by_cases hj61 : j < 61
    · by_cases hcd : 0 ≤ g0 (m + 15) (j - 21) ∧ g0 (m + 17) (j - 21) = (p : Int)
      · obtain ⟨gi, rfl⟩ : ∃ gi, j = gi + 21 := ⟨j - 21, by omega⟩
        rw [Nat.add_sub_cancel] at hcd
        obtain ⟨e, he, e1, e2, e3, e4⟩ := rg1.1 gi (by omega) hcd.1
        obtain ⟨n, hn1, hn2, hk0, hk3, -, -⟩ := v16 e he
        have hnd : g0 (m + 16) gi = (n : Int) := by rw [← e2]; exact hn1
        obtain ⟨y1, y2, y3, y4, y5, y6⟩ := hT.2.2 n hn2
        obtain ⟨tt1, tt2, tt3, tt4, tt5, tt6⟩ := hTr.1 n hn2
        have h50 := hT.1.1
        have hcln := hT.1.2 n (Nat.zero_le _) hn2
        have hmk : MkR (mcv (g0 (m + 18) gi)) (g0 (m + 18) gi) 0 := by
          have := MkR.of e4
          rw [e4.cv] at this
          exact this
        have hit : mIt g0 m kd nm rp (afF en) (plT kd nm rp (afF en) A.1 A.2.1 A.2.2.1 f) p (gi + 21) = [txN kd nm rp (afF en) 50 n (mcv (g0 (m + 18) gi))] := by
          unfold mIt
          rw [if_neg hj21, if_pos hj61, Nat.add_sub_cancel, if_pos hcd, hnd, Int.toNat_natCast]
        have hTe := txN_g (rp := rp) (af := afF en) (f := 50) hk3 hmk y5 y6
        obtain ⟨⟨t1, t2⟩, after⟩ := one _ hit txN_pos
        rw [hTe, List.length_append] at t1 t2
        have hml := mH_len (kd := kd) (nm := nm) (rp := rp) (n := n) (l := g0 (m + 18) gi) (k := 0)
        refine ef_aload_n (pc := 23) d113_23 rfl ?_
        refine eg_getI (pc := 24) d113_24 lf_8_245 (by assumption) (by decide) ?_
        rw [h39]
        refine ef_if_leF (pc := 27) d113_27 (t := 111) rfl (by omega) ?_
        refine ef_aload_n (pc := 30) d113_30 rfl ?_
        refine eg_getZ (pc := 31) d113_31 lf_8_215 (by assumption) (by decide) ?_
        rw [x2]
        refine ef_if_neF (pc := 34) d113_34 (t := 111) rfl (by decide) ?_
        refine ef_aload_n (pc := 37) d113_37 rfl ?_
        refine eg_getR (pc := 38) d113_38 lf_8_98 (by assumption) (by decide) (by assumption) ?_
        refine ef_aload_n (pc := 41) d113_41 rfl ?_
        refine eg_getI (pc := 42) d113_42 lf_8_245 (by assumption) (by decide) ?_
        rw [h39]
        refine ef_iconst (pc := 45) d113_45 (by decide) ?_
        refine ef_isub (pc := 46) d113_46 (z := (c : Int)) (by omega) ⟨by omega, by omega⟩ ?_
        refine eg_iald (pc := 47) d113_47 (i := c) (by assumption) (rfl) (by omega) ?_
        rw [hki]
        refine ef_if_neF (pc := 48) d113_48 (t := 64) rfl (by decide) ?_
        refine ef_aload_n (pc := 51) d113_51 rfl ?_
        refine ef_aload_n (pc := 52) d113_52 rfl ?_
        refine eg_getI (pc := 53) d113_53 lf_8_245 (by assumption) (by decide) ?_
        rw [h39]
        refine ef_iconst (pc := 56) d113_56 (by decide) ?_
        refine ef_isub (pc := 57) d113_57 (z := (c : Int)) (by omega) ⟨by omega, by omega⟩ ?_
        refine ef_callV (pc := 58) d113_58 lm_8_286 (as := [_]) rfl rfl (by assumption) rfl rfl (by decide) (Nat.le_of_ble_eq_true rfl) rfl (Nat.le_of_ble_eq_true rfl) ?_
        refine Ec.imp (Ec.deep (by omega) (c115g (d := d) (s := b + Q.length) (p := p) (j := gi + 21) (gi := gi) (n := n) (l := g0 (m + 18) gi) hM dq x2 h38 (by omega) h39 (by omega) hth hnx hT hTr1 rfl (by omega) (by rw [row 15 (by omega) (by omega)]; exact hcd.1) (by rw [row 17 (by omega) (by omega)]; exact hcd.2) (by rw [row 16 (by omega) (by omega)]; exact hnd) hn2 hk3 (by rw [row 18 (by omega) (by omega)]))) ?_
        rintro r58 u58 ⟨g1, rfl, rfl, hO, h481⟩
        refine ef_goto (pc := 61) d113_61 (t := 74) rfl ?_
        have hfr1 := opfr g1 _ _ _ _ _ hO
        obtain ⟨p1, p2, p3, p4, ⟨z, p5, p5b⟩, p6, p7, p8, p9, p10, p11, p12⟩ := id hO
        refine chk hM p1.used.1 p2 p3 (fun h => ?_) (fun h h1001 _ => ?_)
        · refine fx _ (hfr1.w.trans ⟨fun a h1 h2 h3 h4 => u2_ne h1, fun f h1 h2 h3 h4 h5 h6 => u2_ni h1⟩) u2_at ?_
          rcases h with h | h | h
          · have := p1.f h
            rw [List.length_append] at this
            omega
          · omega
          · omega
        · have hX1 := p1.x h
          have hX1l := hX1.1
          rw [List.length_append] at hX1l
          refine partsL (gi := gi) (tot := tot) (g0 := g0) hM hT hTr (by omega) rfl (fun g' h1 h2 h3 => fx g' h1.w h2 h3) 50 (n + 1) (afF en n) (inm kd nm n (mcv (g0 (m + 18) gi))) (mkF kd nm n 0) 1 40 (c + 1) (b + Q.length + 1) W (mH kd nm rp n (g0 (m + 18) gi) 0) (W ++ mH kd nm rp n (g0 (m + 18) gi) 0) [] [] g1 (by omega) (by omega) (by omega) (by omega) (Cl.inn hT.1.2 (Nat.zero_le _) hn2) tt6 (fun k h1 h2 => by have := (hT.2.2 k (by omega)).1; omega) (by omega) (hmk.inn y6) hfr1 h481 hX1 p3 (by rw [p6, u1_eq]) (by rw [p8, u1_eq]) (by rw [p9, u1_eq]) (by rw [p10, u1_eq]) (Or.inl ⟨rfl, rfl⟩) (by omega) p2 (by rw [List.length_nil]; omega) (fun i q hq => by cases hq) rfl (by rw [List.take_of_length_le (by rw [List.length_append]; omega)]) (by rw [List.length_append]; simp [sumL]) (by rw [Nat.add_sub_cancel, p4, u1_eq]) (by rw [Nat.add_sub_cancel, p5, u1_eq]; exact p5b hX1l) (fun x hx => absurd hx (List.not_mem_nil)) (by omega) (by rw [List.nil_append]; omega) (by rw [List.nil_append, Nat.add_sub_cancel]; omega) ?_
          intro g2 q1 q2 q3 q4 q5 q6 q7 q8
          rw [List.nil_append, List.append_assoc, ← hTe] at q3
          rw [List.nil_append, Nat.add_sub_cancel, ← List.length_append, ← hTe] at q7
          rw [Nat.add_sub_cancel] at q6 q8
          obtain ⟨k4, k5⟩ := below g1 g2 _ _ _ _ _ hO q8
          exact after g2 q1 q3 q4 q5 (by omega) q6 q7 k4 k5
      · exact skip (by unfold mIt; rw [if_neg hj21, if_pos hj61, if_neg hcd]) (fun h => by omega) (fun _ _ => by rw [row 15 (by omega) (by omega), row 17 (by omega) (by omega)]; exact hcd) (fun h => by omega)
    · by_cases hcd : 0 ≤ g0 (m + 19) (j - 61) ∧ g0 (m + 21) (j - 61) = (p : Int)
      · obtain ⟨mi, rfl⟩ : ∃ mi, j = mi + 61 := ⟨j - 61, by omega⟩
        rw [Nat.add_sub_cancel] at hcd
        obtain ⟨e, he, e1, e2, e3⟩ := rm1.1 mi (by omega) hcd.1
        have hnm5 := v15 e he
        rw [e2] at hnm5
        have hnx0 : nmX (g0 (m + 20) mi) 0 0 = (97 + g0 (m + 20) mi) % 65536 := by
          unfold nmX rsF loF
          rw [if_neg (by omega), if_pos (by omega), if_pos (by omega)]
          omega
        have hit : mIt g0 m kd nm rp (afF en) (plT kd nm rp (afF en) A.1 A.2.1 A.2.2.1 f) p (mi + 61) = [[39, nmX (g0 (m + 20) mi) 0 0]] := by
          unfold mIt
          rw [if_neg hj21, if_neg hj61, Nat.add_sub_cancel, if_pos hcd, hnx0]
        obtain ⟨⟨t1, t2⟩, after⟩ := one _ hit (Nat.le_refl _)
        simp only [List.length_cons, List.length_nil] at t1 t2
        refine ef_aload_n (pc := 23) d113_23 rfl ?_
        refine eg_getI (pc := 24) d113_24 lf_8_245 (by assumption) (by decide) ?_
        rw [h39]
        refine ef_if_leF (pc := 27) d113_27 (t := 111) rfl (by omega) ?_
        refine ef_aload_n (pc := 30) d113_30 rfl ?_
        refine eg_getZ (pc := 31) d113_31 lf_8_215 (by assumption) (by decide) ?_
        rw [x2]
        refine ef_if_neF (pc := 34) d113_34 (t := 111) rfl (by decide) ?_
        refine ef_aload_n (pc := 37) d113_37 rfl ?_
        refine eg_getR (pc := 38) d113_38 lf_8_98 (by assumption) (by decide) (by assumption) ?_
        refine ef_aload_n (pc := 41) d113_41 rfl ?_
        refine eg_getI (pc := 42) d113_42 lf_8_245 (by assumption) (by decide) ?_
        rw [h39]
        refine ef_iconst (pc := 45) d113_45 (by decide) ?_
        refine ef_isub (pc := 46) d113_46 (z := (c : Int)) (by omega) ⟨by omega, by omega⟩ ?_
        refine eg_iald (pc := 47) d113_47 (i := c) (by assumption) (rfl) (by omega) ?_
        rw [hki]
        refine ef_if_neF (pc := 48) d113_48 (t := 64) rfl (by decide) ?_
        refine ef_aload_n (pc := 51) d113_51 rfl ?_
        refine ef_aload_n (pc := 52) d113_52 rfl ?_
        refine eg_getI (pc := 53) d113_53 lf_8_245 (by assumption) (by decide) ?_
        rw [h39]
        refine ef_iconst (pc := 56) d113_56 (by decide) ?_
        refine ef_isub (pc := 57) d113_57 (z := (c : Int)) (by omega) ⟨by omega, by omega⟩ ?_
        refine ef_callV (pc := 58) d113_58 lm_8_286 (as := [_]) rfl rfl (by assumption) rfl rfl (by decide) (Nat.le_of_ble_eq_true rfl) rfl (Nat.le_of_ble_eq_true rfl) ?_
        refine Ec.imp (Ec.deep (by omega) (c115m (d := d) (s := b + Q.length) (p := p) (j := mi + 61) (mi := mi) hM dq x2 h38 (by omega) h39 (by omega) hth hnx rfl (by omega) (by rw [row 19 (by omega) (by omega)]; exact hcd.1) (by rw [row 21 (by omega) (by omega)]; exact hcd.2) (by rw [row 20 (by omega) (by omega)]) (by omega) (by omega))) ?_
        rintro r58 u58 ⟨g1, rfl, rfl, p1, p2, p4, ⟨z, p5, p5b⟩, p8, p11, p12⟩
        refine ef_goto (pc := 61) d113_61 (t := 74) rfl ?_
        have h391 : g1 m 39 = ((c + 1 : Nat) : Int) := by rw [p12 39 (by decide) (by decide) (by decide)]; exact h39
        have hfr1 : DFr g0 g1 m := hfr.trans ⟨fun a h1 h2 h3 h4 => p11 a h1 (by omega) (by omega) (by omega) (by omega), fun f h1 h2 h3 h4 h5 => p12 f h1 h2 h3⟩
        refine chk hM p1.used.1 p2 h391 (fun h => ?_) (fun h h1001 _ => ?_)
        · refine fx _ (hfr1.w.trans ⟨fun a h1 h2 h3 h4 => u2_ne h1, fun f h1 h2 h3 h4 h5 h6 => u2_ni h1⟩) u2_at ?_
          rcases h with h | h | h
          · have := p1.f h
            rw [List.length_append] at this
            simp only [List.length_cons, List.length_nil] at this
            omega
          · omega
          · omega
        · have hX1 := p1.x h
          have hX1l := hX1.1
          rw [List.length_append] at hX1l
          simp only [List.length_cons, List.length_nil] at hX1l
          refine after g1 hfr1 hX1 h391 p2 (by omega) (by rw [p4, u1_eq]) (by rw [p5, u1_eq, p5b (by omega)]; rfl) ⟨by rw [p11 _ (by omega) (by omega) (by omega) (by omega) (by omega)]; exact hki, by rw [p11 _ (by omega) (by omega) (by omega) (by omega) (by omega)]; exact hth, by rw [p8, u1_eq], by rw [p11 _ (by omega) (by omega) (by omega) (by omega) (by omega)]; exact hb⟩ ⟨fun i hi => ?_, fun i hi => ?_⟩
          · rw [p11 (m + 30) (by omega) (by omega) (by omega) (by omega) (by omega), p11 (m + 31) (by omega) (by omega) (by omega) (by omega) (by omega), p8, p11 (m + 33) (by omega) (by omega) (by omega) (by omega) (by omega), p11 (m + 34) (by omega) (by omega) (by omega) (by omega) (by omega), u1_ne (by omega)]; exact ⟨rfl, rfl, rfl, rfl, rfl⟩
          · rw [p4, p5, u1_ne (by omega), u1_ne (by omega), p11 _ (by omega) (by omega) (by omega) (by omega) (by omega)]; exact ⟨rfl, rfl, rfl⟩
      · exact skip (by unfold mIt; rw [if_neg hj21, if_neg hj61, if_neg hcd]) (fun h => by omega) (fun h => by omega) (fun _ => by rw [row 19 (by omega) (by omega), row 21 (by omega) (by omega)]; exact hcd)
