/-! The model: the parts of a node told. Written by wip/whole/gen/c91.py. -/
def Pre (g g' : Nat → Nat → Int) (m c b : Nat) : Prop := (∀ i, i < c → g' (m + 30) i = g (m + 30) i ∧ g' (m + 31) i = g (m + 31) i ∧ g' (m + 32) i = g (m + 32) i ∧ g' (m + 33) i = g (m + 33) i ∧ g' (m + 34) i = g (m + 34) i) ∧ ∀ i, i < b → g' (m + 28) i = g (m + 28) i ∧ g' (m + 29) i = g (m + 29) i ∧ g' (m + 42) i = g (m + 42) i
theorem Pre.trans {g g1 g2 : Nat → Nat → Int} {m c b : Nat} (h : Pre g g1 m c b) (k : Pre g1 g2 m c b) : Pre g g2 m c b := by
  refine ⟨fun i hi => ?_, fun i hi => ?_⟩
  · obtain ⟨a1, a2, a3, a4, a5⟩ := h.1 i hi
    obtain ⟨b1, b2, b3, b4, b5⟩ := k.1 i hi
    exact ⟨b1.trans a1, b2.trans a2, b3.trans a3, b4.trans a4, b5.trans a5⟩
  · obtain ⟨a1, a2, a3⟩ := h.2 i hi
    obtain ⟨b1, b2, b3⟩ := k.2 i hi
    exact ⟨b1.trans a1, b2.trans a2, b3.trans a3⟩
theorem Pre.sub {g g1 : Nat → Nat → Int} {m c b c' b' : Nat} (h : Pre g g1 m c b) (h1 : c' ≤ c) (h2 : b' ≤ b) : Pre g g1 m c' b' := ⟨fun i hi => h.1 i (by omega), fun i hi => h.2 i (by omega)⟩
def DFr (g g' : Nat → Nat → Int) (m : Nat) : Prop := (∀ a, a ≠ m → (a < m + 27 ∨ m + 34 < a) → a ≠ m + 41 → a ≠ m + 42 → g' a = g a) ∧ ∀ f, f ≠ 30 → f ≠ 37 → f ≠ 38 → f ≠ 39 → f ≠ 48 → g' m f = g m f
theorem DFr.trans {g g1 g2 : Nat → Nat → Int} {m : Nat} (a : DFr g g1 m) (b : DFr g1 g2 m) : DFr g g2 m := ⟨fun x h1 h2 h3 h4 => (b.1 x h1 h2 h3 h4).trans (a.1 x h1 h2 h3 h4), fun f h1 h2 h3 h4 h5 => (b.2 f h1 h2 h3 h4 h5).trans (a.2 f h1 h2 h3 h4 h5)⟩
theorem DFr.refl {g : Nat → Nat → Int} {m : Nat} : DFr g g m := ⟨fun _ _ _ _ _ => rfl, fun _ _ _ _ _ _ => rfl⟩
def DX (g : Nat → Nat → Int) (m : Nat) (W : List Int) : Prop := W.length ≤ 640 ∧ g m 30 = 0 ∧ g m 37 = (W.length : Int) ∧ Row (g (m + 27)) W
theorem DQ.x {g : Nat → Nat → Int} {m : Nat} {W : List Int} (h : DQ g m W) (h0 : g m 30 = 0) : DX g m W := by
  rcases h with h | ⟨-, h, -⟩
  · exact h
  · omega
theorem DQ.f {g : Nat → Nat → Int} {m : Nat} {W : List Int} (h : DQ g m W) (h0 : g m 30 = 1) : 640 < W.length := by
  rcases h with ⟨-, h, -⟩ | ⟨h, -⟩
  · omega
  · exact h
theorem TrR.of {g g' : Nat → Nat → Int} {m sz : Nat} {kd nm rp en : Nat → Int} (h : TrR g m kd nm rp en sz) (a : ∀ j, 3 ≤ j → j ≤ 8 → g' (m + j) = g (m + j)) : TrR g' m kd nm rp en sz := by
  unfold TrR
  rw [a 3 (by omega) (by omega), a 4 (by omega) (by omega), a 5 (by omega) (by omega), a 6 (by omega) (by omega), a 8 (by omega) (by omega)]
  exact h
theorem brk_len {br : Int} {l : List (List Int)} : sumL l + (l.length - 1) + (if br = 91 then 2 else 0) ≤ (brk br (srtT l)).length := by
  have key : ∀ t, sumL l + (l.length - 1) ≤ (jnL t (srtT l)).length := by
    intro t
    unfold jnL
    rw [srtT_len]
    split
    · rename_i h
      have : l = [] := List.length_eq_zero_iff.mp h
      subst this
      simp [sumL]
    · split
      · rw [ilF_len, srtT_sum, srtT_len]; simp
      · rw [joinL_len, srtT_sum, srtT_len]; omega
  unfold brk
  split
  · have := key false
    simp only [List.length_append, List.length_cons, List.length_nil]
    omega
  · have := key (decide (br = 40)); omega
theorem sumL_app {a b : List (List Int)} : sumL (a ++ b) = sumL a + sumL b := by simp [sumL]
theorem sumL_2 {l : List (List Int)} (h : ∀ x, x ∈ l → 2 ≤ x.length) : 2 * l.length ≤ sumL l := by
  induction l with
  | nil => exact Nat.zero_le _
  | cons x l ih =>
    have h1 := h x List.mem_cons_self
    have h2 := ih (fun y hy => h y (List.mem_cons_of_mem _ hy))
    have h3 : sumL (x :: l) = x.length + sumL l := by simp [sumL]
    rw [List.length_cons]
    omega
theorem txN_p {kd nm rp : Nat → Int} {af : Nat → Nat} {f n : Nat} {a l k : Int} (h : kd n = 4) (hm : MkR a l k) (hc : (97 ≤ nm n ∧ nm n ≤ 102) ∨ (120 ≤ nm n ∧ nm n ≤ 122)) : txN kd nm rp af f n a = [nmX (nmM (nm n)) l k] ++ brk 91 (srtT (txR kd nm rp af f (n + 1) (af n) (inm kd nm n a))) := by
  unfold txN hdT brk
  rw [if_pos h, if_neg (by omega), if_pos rfl, nmX_eq hm hc]
  have : inm kd nm n a = a := if_neg (by omega)
  rw [this, h, if_pos rfl]
  simp
theorem txN_g {kd nm rp : Nat → Int} {af : Nat → Nat} {f n : Nat} {a l k : Int} (h : kd n ≤ 3) (hm : MkR a l k) (hc : (97 ≤ nm n ∧ nm n ≤ 102) ∨ (120 ≤ nm n ∧ nm n ≤ 122)) (h3 : kd n = 3 → 120 ≤ nm n ∧ nm n ≤ 122) : txN kd nm rp af f n a = mH kd nm rp n l k ++ brk 40 (srtT (txR kd nm rp af f (n + 1) (af n) (inm kd nm n a))) := by
  unfold txN brk
  rw [mH_eq hm h hc h3, if_neg (show ¬ kd n = 5 by omega), if_neg (show ¬ kd n = 4 by omega), if_neg (show ¬ (40 : Int) = 91 by decide), List.append_nil, decide_eq_true (show kd n ≠ 4 by omega), decide_eq_true rfl]
theorem txN_m {kd nm rp : Nat → Int} {af : Nat → Nat} {f n : Nat} {a l k : Int} (h : kd n = 5) (hm : MkR a l k) (hc : (97 ≤ nm n ∧ nm n ≤ 102) ∨ (120 ≤ nm n ∧ nm n ≤ 122)) : txN kd nm rp af f n a = [39, nmX (nmM (nm n)) l k] := by
  unfold txN hdT
  rw [if_neg (show ¬ kd n = 4 by omega), if_pos h, if_pos h, nmX_eq hm hc, List.append_nil]
  have : inm kd nm n a = a := if_neg (by omega)
  rw [this]
theorem chk {P : Pg} {d : Nat} {u : Mm} {g : Nat → Nat → Int} {m : Nat} {s c : Int} {QP : Option Vl ⊕ (Nat × Nat) → Mm → Prop} (hM : MdA u m) (h01 : g m 30 = 0 ∨ g m 30 = 1) (hs : g m 38 = s) (hc : g m 39 = c) (hf : g m 30 = 1 ∨ 100 < s ∨ 36 < c → Ef P (d + 6) 113 23 [some (vR m)] [] (sI u (u2 g m 30 1)) QP) (hn : g m 30 = 0 → s ≤ 100 → c ≤ 36 → Ef P (d + 6) 113 23 [some (vR m)] [] (sI u g) QP) : Ef P (d + 6) 113 74 [some (vR m)] [] (sI u g) QP := by
  have s0 := hM.1
  have f43 : mF u m 43 = some (m + 30) := (hM.2 29 (by decide)).1
  have s43 : mS u (m + 30) = some (0, 40) := (hM.2 29 (by decide)).2
  refine ef_aload_n (pc := 74) d113_74 rfl ?_
  refine ef_aload_n (pc := 75) d113_75 rfl ?_
  refine eg_getZ (pc := 76) d113_76 lf_8_215 (by assumption) (by decide) ?_
  refine ef_if_ne (pc := 79) d113_79 (t := 100) rfl (fun h79 => ?_) (fun h79 => ?_)
  · refine ef_iconst (pc := 100) d113_100 (by decide) ?_
    refine ef_goto (pc := 101) d113_101 (t := 105) rfl ?_
    refine eg_putZ (pc := 105) d113_105 pf_113_215 (by assumption) (by decide) (by omega) ?_
    refine ef_goto (pc := 108) d113_108 (t := 23) rfl ?_
    first
    | exact hf (Or.inl (by omega))
    | exact hf (Or.inr (by omega))
    | (rw [u2_self h0]; exact hn h0 (by omega) (by omega))
  · refine ef_aload_n (pc := 82) d113_82 rfl ?_
    refine eg_getI (pc := 83) d113_83 lf_8_248 (by assumption) (by decide) ?_
    rw [hs]
    refine ef_bipush (pc := 86) d113_86 (by decide) ?_
    refine ef_icmp_gt (pc := 88) d113_88 (t := 100) rfl (fun h88 => ?_) (fun h88 => ?_)
    · refine ef_iconst (pc := 100) d113_100 (by decide) ?_
      refine ef_goto (pc := 101) d113_101 (t := 105) rfl ?_
      refine eg_putZ (pc := 105) d113_105 pf_113_215 (by assumption) (by decide) (by omega) ?_
      refine ef_goto (pc := 108) d113_108 (t := 23) rfl ?_
      first
      | exact hf (Or.inl (by omega))
      | exact hf (Or.inr (by omega))
      | (rw [u2_self h0]; exact hn h0 (by omega) (by omega))
    · refine ef_aload_n (pc := 91) d113_91 rfl ?_
      refine eg_getI (pc := 92) d113_92 lf_8_245 (by assumption) (by decide) ?_
      rw [hc]
      refine ef_bipush (pc := 95) d113_95 (by decide) ?_
      refine ef_icmp_le (pc := 97) d113_97 (t := 104) rfl (fun h97 => ?_) (fun h97 => ?_)
      · have h0 : g m 30 = 0 := by omega
        refine ef_iconst (pc := 104) d113_104 (by decide) ?_
        refine eg_putZ (pc := 105) d113_105 pf_113_215 (by assumption) (by decide) (by omega) ?_
        refine ef_goto (pc := 108) d113_108 (t := 23) rfl ?_
        first
        | exact hf (Or.inl (by omega))
        | exact hf (Or.inr (by omega))
        | (rw [u2_self h0]; exact hn h0 (by omega) (by omega))
      · refine ef_iconst (pc := 100) d113_100 (by decide) ?_
        refine ef_goto (pc := 101) d113_101 (t := 105) rfl ?_
        refine eg_putZ (pc := 105) d113_105 pf_113_215 (by assumption) (by decide) (by omega) ?_
        refine ef_goto (pc := 108) d113_108 (t := 23) rfl ?_
        first
        | exact hf (Or.inl (by omega))
        | exact hf (Or.inr (by omega))
        | (rw [u2_self h0]; exact hn h0 (by omega) (by omega))
theorem partsL {P : Pg} {d : Nat} {u : Mm} {m sz gi tot : Nat} {kd nm rp en : Nat → Int} {ht : Nat → Nat} {g0 : Nat → Nat → Int} {l : Int} {QP : Option Vl ⊕ (Nat × Nat) → Mm → Prop} (hM : MdA u m) (hT : TmOk kd nm en sz ht) (hTr : TrR g0 m kd nm rp en sz) (hgi : gi < 40) (hl : g0 (m + 18) gi = l)
    (fx : ∀ g', DFr g0 g' m → g' m 30 = 1 → 240 < tot → Ef P (d + 6) 113 23 [some (vR m)] [] (sI u g') QP) :
    ∀ (f k to : Nat) (a mu ki br : Int) (c b : Nat) (W0 H W : List Int) (dn : List (List Int)) (Q : List (Nat × Nat)) (g : Nat → Nat → Int), f ≤ 50 → 50 ≤ k + f → k ≤ to → to ≤ sz → Cl (afF en) k to → Chn (g0 (m + 8)) (afF en) (f + 1) k to → (∀ j, k ≤ j → j < to → c + 1 + ht j ≤ 34) → c ≤ 34 → MkR a l mu → DFr g0 g m → g m 48 = (gi : Int) → DX g m W → g m 39 = ((c + 1 : Nat) : Int) → g (m + 30) c = ki → g (m + 32) c = (if k < to then ((k : Nat) : Int) else -1) → g (m + 33) c = (b : Int) → g (m + 34) c = mu → ((ki = 1 ∧ br = 40) ∨ (ki = 2 ∧ br = 91)) → 1 ≤ b → g m 38 = ((b + Q.length : Nat) : Int) → b + Q.length ≤ 100 → PcR g m b W.length Q → Q.map (sub W) = dn → W.take (W0.length + H.length) = W0 ++ H → W.length = W0.length + H.length + sumL dn → g (m + 28) (b - 1) = (W0.length : Int) → g (m + 42) (b - 1) = (H.length : Int) → (∀ x, x ∈ dn → 2 ≤ x.length) → 3 ≤ H.length + (if br = 91 then 2 else 0) →
      W0.length + H.length + (brk br (srtT (dn ++ txR kd nm rp (afF en) f k to a))).length ≤ tot → 3 * (b - 1) + H.length + (brk br (srtT (dn ++ txR kd nm rp (afF en) f k to a))).length ≤ tot + 2 →
      (∀ g', DFr g0 g' m → g' m 48 = (gi : Int) → DX g' m (W0 ++ H ++ brk br (srtT (dn ++ txR kd nm rp (afF en) f k to a))) → g' m 39 = (c : Int) → g' m 38 = (b : Int) → g' (m + 28) (b - 1) = (W0.length : Int) → g' (m + 29) (b - 1) = ((H.length + (brk br (srtT (dn ++ txR kd nm rp (afF en) f k to a))).length : Nat) : Int) → Pre g g' m c (b - 1) → Ef P (d + 6) 113 23 [some (vR m)] [] (sI u g') QP) →
      Ef P (d + 6) 113 23 [some (vR m)] [] (sI u g) QP := by
  have s0 := hM.1
  have f43 : mF u m 43 = some (m + 30) := (hM.2 29 (by decide)).1
  have s43 : mS u (m + 30) = some (0, 40) := (hM.2 29 (by decide)).2
  intro f
  -- the end: joining
  have fin : ∀ (f k to : Nat) (a mu ki br : Int) (c b : Nat) (W0 H W : List Int) (dn : List (List Int)) (Q : List (Nat × Nat)) (g : Nat → Nat → Int), ¬ k < to → txR kd nm rp (afF en) f k to a = [] → c ≤ 34 → DFr g0 g m → g m 48 = (gi : Int) → DX g m W → g m 39 = ((c + 1 : Nat) : Int) → g (m + 30) c = ki → g (m + 32) c = (if k < to then ((k : Nat) : Int) else -1) → g (m + 33) c = (b : Int) → ((ki = 1 ∧ br = 40) ∨ (ki = 2 ∧ br = 91)) → 1 ≤ b → g m 38 = ((b + Q.length : Nat) : Int) → b + Q.length ≤ 100 → PcR g m b W.length Q → Q.map (sub W) = dn → W.take (W0.length + H.length) = W0 ++ H → W.length = W0.length + H.length + sumL dn → g (m + 28) (b - 1) = (W0.length : Int) → g (m + 42) (b - 1) = (H.length : Int) →
      W0.length + H.length + (brk br (srtT (dn ++ txR kd nm rp (afF en) f k to a))).length ≤ tot →
      (∀ g', DFr g0 g' m → g' m 48 = (gi : Int) → DX g' m (W0 ++ H ++ brk br (srtT (dn ++ txR kd nm rp (afF en) f k to a))) → g' m 39 = (c : Int) → g' m 38 = (b : Int) → g' (m + 28) (b - 1) = (W0.length : Int) → g' (m + 29) (b - 1) = ((H.length + (brk br (srtT (dn ++ txR kd nm rp (afF en) f k to a))).length : Nat) : Int) → Pre g g' m c (b - 1) → Ef P (d + 6) 113 23 [some (vR m)] [] (sI u g') QP) →
      Ef P (d + 6) 113 23 [some (vR m)] [] (sI u g) QP := by
    intro f k to a mu ki br c b W0 H W dn Q g hkt htx hc34 hfr h48 hX h39 hki hnx hb hbr hb1 h38 h100 hQ hdn hWt hWl hf0 hh0 hB1 cont
    rw [htx, List.append_nil] at hB1 cont
    rw [if_neg hkt] at hnx
    obtain ⟨x1, x2, x3, x4⟩ := hX
    have kne : ki ≠ 0 := by omega
    refine ef_aload_n (pc := 23) d113_23 rfl ?_
    refine eg_getI (pc := 24) d113_24 lf_8_245 (by assumption) (by decide) ?_
    rw [h39]
    refine ef_if_leF (pc := 27) d113_27 (t := 111) rfl (by omega) ?_
    refine ef_aload_n (pc := 30) d113_30 rfl ?_
    refine eg_getZ (pc := 31) d113_31 lf_8_215 (by assumption) (by decide) ?_
    rw [x2]
    refine ef_if_neF (pc := 34) d113_34 (t := 111) rfl (by decide) ?_
    refine ef_aload_n (pc := 37) d113_37 rfl ?_
    refine eg_getR (pc := 38) d113_38 lf_8_98 (by assumption) (by decide) (by assumption) ?_
    refine ef_aload_n (pc := 41) d113_41 rfl ?_
    refine eg_getI (pc := 42) d113_42 lf_8_245 (by assumption) (by decide) ?_
    rw [h39]
    refine ef_iconst (pc := 45) d113_45 (by decide) ?_
    refine ef_isub (pc := 46) d113_46 (z := (c : Int)) (by omega) ⟨by omega, by omega⟩ ?_
    refine eg_iald (pc := 47) d113_47 (i := c) (by assumption) (rfl) (by omega) ?_
    rw [hki]
    refine ef_if_neT (pc := 48) d113_48 (t := 64) rfl (kne) ?_
    refine ef_aload_n (pc := 64) d113_64 rfl ?_
    refine ef_aload_n (pc := 65) d113_65 rfl ?_
    refine eg_getI (pc := 66) d113_66 lf_8_245 (by assumption) (by decide) ?_
    rw [h39]
    refine ef_iconst (pc := 69) d113_69 (by decide) ?_
    refine ef_isub (pc := 70) d113_70 (z := (c : Int)) (by omega) ⟨by omega, by omega⟩ ?_
    refine ef_callV (pc := 71) d113_71 lm_8_289 (as := [_]) rfl rfl (by assumption) rfl rfl (by decide) (Nat.le_of_ble_eq_true rfl) rfl (Nat.le_of_ble_eq_true rfl) ?_
    refine Ec.imp (Ec.deep (by omega) (c126e (d := d) (st := W0.length + H.length) (Q := Q) (br := br) hM x1 x2 x4 h38 (by omega) hQ (by omega) (fun h => by omega) (fun _ => ⟨W0.length, H.length, hf0, hh0, rfl⟩) h39 (by omega) hb hki hbr hnx)) ?_
    rintro r71 u71 ⟨g2, rfl, rfl, d2, s2, p2, q2, a2, c2, b2⟩
    rw [hdn, hWt] at d2 p2
    obtain ⟨i1, i2, i3, i4⟩ := p2 (by omega)
    have hfr2 : DFr g0 g2 m := hfr.trans ⟨fun a h1 h2 h3 h4 => a2 a h1 (by omega) (by omega) (by omega) h3, fun f h1 h2 h3 h4 h5 => by
      by_cases h49 : f = 49
      · rw [h49]; exact i4
      · exact b2 f h1 h2 h3 h4 h49⟩
    refine chk hM d2.used.1 s2 c2 (fun h => ?_) (fun h _ _ => ?_)
    · refine fx _ (hfr2.trans ⟨fun a h1 h2 h3 h4 => u2_ne h1, fun f h1 h2 h3 h4 h5 => u2_ni h1⟩) u2_at ?_
      rcases h with h | h | h
      · have := d2.f h
        rw [List.length_append, List.length_append] at this
        omega
      · omega
      · omega
    · refine cont g2 hfr2 (by rw [b2 48 (by decide) (by decide) (by decide) (by decide) (by decide)]; exact h48) (d2.x h) c2 s2 (by rw [i1 _ (by omega)]; exact hf0) ?_ ⟨fun i hi => ?_, fun i hi => ⟨i1 i (by omega), i2 i (by omega), by rw [a2 _ (by omega) (by omega) (by omega) (by omega) (by omega)]⟩⟩
      · rw [i3 (d2.x h).1, hf0, List.length_append, List.length_append]; omega
      · rw [a2 _ (by omega) (by omega) (by omega) (by omega) (by omega), a2 _ (by omega) (by omega) (by omega) (by omega) (by omega), a2 _ (by omega) (by omega) (by omega) (by omega) (by omega), a2 _ (by omega) (by omega) (by omega) (by omega) (by omega), a2 _ (by omega) (by omega) (by omega) (by omega) (by omega)]; exact ⟨rfl, rfl, rfl, rfl, rfl⟩
  induction f with
  | zero =>
    intro k to a mu ki br c b W0 H W dn Q g hf50 hf hkt hts hcl hch hdp hc34 hmk hfr h48 hX h39 hki hnx hb hmu hbr hb1 h38 h100 hQ hdn hWt hWl hf0 hh0 hge hH3 hB1 hB2 cont
    have h50 := hT.1.1
    exact fin 0 k to a mu ki br c b W0 H W dn Q g (by omega) rfl hc34 hfr h48 hX h39 hki hnx hb hbr hb1 h38 h100 hQ hdn hWt hWl hf0 hh0 hB1 cont
  | succ f ih =>
    intro k to a mu ki br c b W0 H W dn Q g hf50 hf hkt hts hcl hch hdp hc34 hmk hfr h48 hX h39 hki hnx hb hmu hbr hb1 h38 h100 hQ hdn hWt hWl hf0 hh0 hge hH3 hB1 hB2 cont
    have h50 := hT.1.1
    by_cases hlt : k < to
    · rw [txR_s hlt] at hB1 hB2 cont
      rw [if_pos hlt] at hnx
      have hksz : k < sz := by omega
      obtain ⟨y1, y2, y3, y4, y5, y6⟩ := hT.2.2 k hksz
      obtain ⟨t1, t2, t3, t4, t5, t6⟩ := hTr.1 k hksz
      have hcln := hcl k (Nat.le_refl _) hlt
      obtain ⟨c1, c2⟩ := hch hlt
      obtain ⟨x1, x2, x3, x4⟩ := id hX
      have kne : ki ≠ 0 := by omega
      have hTr1 : TrR g m kd nm rp en sz := hTr.of (fun j h1 h2 => hfr.1 _ (by omega) (by omega) (by omega) (by omega))
      have hl1 : g (m + 18) gi = l := by rw [hfr.1 _ (by omega) (by omega) (by omega) (by omega)]; exact hl
      have hnn : g (m + 8) k = (if afF en k < to then ((afF en k : Nat) : Int) else -1) := by rw [hfr.1 _ (by omega) (by omega) (by omega) (by omega)]; exact c1
      have hcd := hdp k (Nat.le_refl _) hlt
      have hQl : Q.length = dn.length := by rw [← hdn, List.length_map]
      have hsd := sumL_2 hge
      have hTk2 := txN_pos (kd := kd) (nm := nm) (rp := rp) (af := afF en) (f := f) (n := k) (m := a)
      generalize hTk : txN kd nm rp (afF en) f k a = Tk at hB1 hB2 cont hTk2
      have hbl := brk_len (br := br) (l := dn ++ Tk :: txR kd nm rp (afF en) f (afF en k) to a)
      rw [sumL_app, List.length_append, List.length_cons] at hbl
      have hsc : sumL (Tk :: txR kd nm rp (afF en) f (afF en k) to a) = Tk.length + sumL (txR kd nm rp (afF en) f (afF en k) to a) := by simp [sumL]
      rw [hsc] at hbl
      -- behind the child
      have after : ∀ g2, DFr g0 g2 m → g2 m 48 = (gi : Int) → DX g2 m (W ++ Tk) → g2 m 39 = ((c + 1 : Nat) : Int) → g2 m 38 = ((b + Q.length + 1 : Nat) : Int) → b + Q.length + 1 ≤ 100 → g2 (m + 28) (b + Q.length) = (W.length : Int) → g2 (m + 29) (b + Q.length) = (Tk.length : Int) → (g2 (m + 30) c = ki ∧ g2 (m + 32) c = (if afF en k < to then ((afF en k : Nat) : Int) else -1) ∧ g2 (m + 33) c = (b : Int) ∧ g2 (m + 34) c = mu) → Pre g g2 m c (b + Q.length) → Ef P (d + 6) 113 23 [some (vR m)] [] (sI u g2) QP := by
        intro g2 hfr2 h482 hX2 h392 h382 h1002 hf2 hs2 hrow hpre
        have hWTl : (W ++ Tk).length = W.length + Tk.length := List.length_append
        refine ih (afF en k) to a mu ki br c b W0 H (W ++ Tk) (dn ++ [Tk]) (Q ++ [(W.length, W.length + Tk.length)]) g2 (by omega) (by omega) hcln.2.1 hts (Cl.beh hcl hlt) c2 (fun j h1 h2 => hdp j (by omega) h2) hc34 hmk hfr2 h482 hX2 h392 hrow.1 hrow.2.1 hrow.2.2.1 hrow.2.2.2 hbr hb1 ?_ ?_ ?_ ?_ ?_ ?_ ?_ ?_ ?_ hH3 ?_ ?_ ?_
        · rw [h382, List.length_append]; rfl
        · rw [List.length_append]; exact h1002
        · intro i p hp
          by_cases hi : i < Q.length
          · rw [List.getElem?_append_left hi] at hp
            obtain ⟨q1, q2, q3, q4⟩ := hQ i p hp
            obtain ⟨e1, e2, -⟩ := hpre.2 (b + i) (by omega)
            exact ⟨by rw [e1]; exact q1, by rw [e2]; exact q2, q3, by omega⟩
          · rw [List.getElem?_append_right (by omega)] at hp
            have h0 : i - Q.length = 0 := by
              have := (List.getElem?_eq_some_iff.mp hp).1
              simp only [List.length_cons, List.length_nil] at this
              omega
            rw [h0] at hp
            cases hp
            have hi2 : i = Q.length := by omega
            subst hi2
            exact ⟨hf2, by rw [hs2]; show (Tk.length : Int) = ((W.length + Tk.length - W.length : Nat) : Int); rw [Nat.add_sub_cancel_left], by show W.length ≤ W.length + Tk.length; omega, by show W.length + Tk.length ≤ _; omega⟩
        · rw [List.map_append]
          congr 1
          · rw [← hdn]
            refine List.map_congr_left fun p hp => ?_
            obtain ⟨i, hi⟩ := List.getElem?_of_mem hp
            obtain ⟨-, -, q3, q4⟩ := hQ i p hi
            exact sub_app q4 q3
          · show [sub (W ++ Tk) (W.length, W.length + Tk.length)] = [Tk]
            rw [sub_end]
        · rw [List.take_append_of_le_length (by omega)]; exact hWt
        · rw [hWTl, hWl, sumL_app]; simp [sumL]; omega
        · rw [(hpre.2 (b - 1) (by omega)).1]; exact hf0
        · rw [(hpre.2 (b - 1) (by omega)).2.2]; exact hh0
        · intro x hx
          rcases List.mem_append.mp hx with hx | hx
          · exact hge x hx
          · rw [List.mem_singleton.mp hx]; exact hTk2
        · rw [List.append_assoc]; exact hB1
        · rw [List.append_assoc]; exact hB2
        · intro g' q1 q2 q3 q4 q5 q6 q7 q8
          rw [show dn ++ [Tk] ++ txR kd nm rp (afF en) f (afF en k) to a = dn ++ Tk :: txR kd nm rp (afF en) f (afF en k) to a by simp] at q3 q7
          exact cont g' q1 q2 q3 q4 q5 q6 q7 ((hpre.sub (Nat.le_refl _) (by omega)).trans q8)
      -- a string begun with a frame of its own
      have opened : ∀ (g1 : Nat → Nat → Int) (X : List Int) (a1 a4 br1 : Int), Opn g g1 m W X (b + Q.length) c a1 (k : Int) (if k + 1 < afF en k then ((k + 1 : Nat) : Int) else -1) a4 (if afF en k < to then ((afF en k : Nat) : Int) else -1) → g1 m 48 = (gi : Int) → ((a1 = 1 ∧ br1 = 40) ∨ (a1 = 2 ∧ br1 = 91)) → MkR (inm kd nm k a) l a4 → 3 ≤ X.length + (if br1 = 91 then 2 else 0) → Tk = X ++ brk br1 (srtT (txR kd nm rp (afF en) f (k + 1) (afF en k) (inm kd nm k a))) → (1 ≤ ht k ∨ a1 = 1 ∨ True) → Ef P (d + 6) 113 74 [some (vR m)] [] (sI u g1) QP := by
        intro g1 X a1 a4 br1 hO h481 hbr1 hmk1 hX3 hTe _
        obtain ⟨p1, p2, p3, p4, ⟨z, p5, p5b⟩, p6, p7, p8, p9, p10, p11, p12⟩ := hO
        have hTl : Tk.length = X.length + (brk br1 (srtT (txR kd nm rp (afF en) f (k + 1) (afF en k) (inm kd nm k a)))).length := by rw [hTe, List.length_append]
        have hfr1 : DFr g0 g1 m := hfr.trans ⟨fun a h1 h2 h3 h4 => p11 a h1 (by omega) (by omega) (by omega) h4, fun f h1 h2 h3 h4 h5 => p12 f h1 h2 h3 h4 h5⟩
        refine chk hM p1.used.1 p2 p3 (fun h => ?_) (fun h h1001 _ => ?_)
        · refine fx _ (hfr1.trans ⟨fun a h1 h2 h3 h4 => u2_ne h1, fun f h1 h2 h3 h4 h5 => u2_ni h1⟩) u2_at ?_
          rcases h with h | h | h
          · have := p1.f h
            rw [List.length_append] at this
            omega
          · omega
          · omega
        · have hX1 := p1.x h
          have hX1l := hX1.1
          rw [List.length_append] at hX1l
          refine ih (k + 1) (afF en k) (inm kd nm k a) a4 a1 br1 (c + 1) (b + Q.length + 1) W X (W ++ X) [] [] g1 (by omega) (by omega) (by omega) (by omega) (Cl.inn hcl (Nat.le_refl _) hlt) (Chn_le t6 (by omega)) (fun j h1 h2 => by have := hT.2.1 k j hksz (by omega) (by omega); omega) (by omega) hmk1 hfr1 h481 hX1 p3 (by rw [p6, u1_eq]) (by rw [p8, u1_eq]) (by rw [p9, u1_eq]) (by rw [p10, u1_eq]) hbr1 (by omega) p2 (by rw [List.length_nil]; omega) (fun i p hp => by cases hp) rfl (by rw [List.take_of_length_le (by rw [List.length_append]; omega)]) (by rw [List.length_append]; simp [sumL]) (by rw [Nat.add_sub_cancel, p4, u1_eq]) (by rw [Nat.add_sub_cancel, p5, u1_eq]; exact p5b hX1l) (fun x hx => absurd hx (List.not_mem_nil)) hX3 (by rw [List.nil_append]; omega) (by rw [List.nil_append, Nat.add_sub_cancel]; omega) ?_
          intro g2 q1 q2 q3 q4 q5 q6 q7 q8
          rw [List.nil_append, List.append_assoc, ← hTe] at q3
          rw [List.nil_append, Nat.add_sub_cancel, ← hTl] at q7
          rw [Nat.add_sub_cancel] at q6 q8
          obtain ⟨r1, -, r3, r4, r5⟩ := q8.1 c (by omega)
          refine after g2 q1 q2 q3 q4 q5 (by omega) q6 q7 ⟨?_, ?_, ?_, ?_⟩ ⟨fun i hi => ?_, fun i hi => ?_⟩
          · rw [r1, p6, u1_ne (by omega)]; exact hki
          · rw [r3, p8, u1_ne (by omega), u1_eq]
          · rw [r4, p9, u1_ne (by omega)]; exact hb
          · rw [r5, p10, u1_ne (by omega)]; exact hmu
          · obtain ⟨e1, e2, e3, e4, e5⟩ := q8.1 i (by omega)
            rw [e1, e2, e3, e4, e5, p6, p7, p8, p9, p10, u1_ne (by omega), u1_ne (by omega), u1_ne (by omega), u1_ne (by omega), u1_ne (by omega), u1_ne (by omega)]
            exact ⟨rfl, rfl, rfl, rfl, rfl⟩
          · obtain ⟨e1, e2, e3⟩ := q8.2 i (by omega)
            rw [e1, e2, e3, p4, p5, u1_ne (by omega), u1_ne (by omega), p11 _ (by omega) (by omega) (by omega) (by omega) (by omega)]
            exact ⟨rfl, rfl, rfl⟩
      have dq : DQ g m W := Or.inl hX
      by_cases hk4 : kd k = 4
      · skip
        refine ef_aload_n (pc := 23) d113_23 rfl ?_
        refine eg_getI (pc := 24) d113_24 lf_8_245 (by assumption) (by decide) ?_
        rw [h39]
        refine ef_if_leF (pc := 27) d113_27 (t := 111) rfl (by omega) ?_
        refine ef_aload_n (pc := 30) d113_30 rfl ?_
        refine eg_getZ (pc := 31) d113_31 lf_8_215 (by assumption) (by decide) ?_
        rw [x2]
        refine ef_if_neF (pc := 34) d113_34 (t := 111) rfl (by decide) ?_
        refine ef_aload_n (pc := 37) d113_37 rfl ?_
        refine eg_getR (pc := 38) d113_38 lf_8_98 (by assumption) (by decide) (by assumption) ?_
        refine ef_aload_n (pc := 41) d113_41 rfl ?_
        refine eg_getI (pc := 42) d113_42 lf_8_245 (by assumption) (by decide) ?_
        rw [h39]
        refine ef_iconst (pc := 45) d113_45 (by decide) ?_
        refine ef_isub (pc := 46) d113_46 (z := (c : Int)) (by omega) ⟨by omega, by omega⟩ ?_
        refine eg_iald (pc := 47) d113_47 (i := c) (by assumption) (rfl) (by omega) ?_
        rw [hki]
        refine ef_if_neT (pc := 48) d113_48 (t := 64) rfl (kne) ?_
        refine ef_aload_n (pc := 64) d113_64 rfl ?_
        refine ef_aload_n (pc := 65) d113_65 rfl ?_
        refine eg_getI (pc := 66) d113_66 lf_8_245 (by assumption) (by decide) ?_
        rw [h39]
        refine ef_iconst (pc := 69) d113_69 (by decide) ?_
        refine ef_isub (pc := 70) d113_70 (z := (c : Int)) (by omega) ⟨by omega, by omega⟩ ?_
        refine ef_callV (pc := 71) d113_71 lm_8_289 (as := [_]) rfl rfl (by assumption) rfl rfl (by decide) (Nat.le_of_ble_eq_true rfl) rfl (Nat.le_of_ble_eq_true rfl) ?_
        refine Ec.imp (Ec.deep (by omega) (c126p (d := d) (rp := rp) hM hT hTr1 hksz dq x2 h38 (by omega) h39 (by omega) hnx hnn h48 hgi hl1 hmu hk4)) ?_
        rintro r71 u71 ⟨g1, rfl, rfl, hO, h481⟩
        exact opened g1 _ 2 mu 91 hO (by rw [h481]; exact h48) (Or.inr ⟨rfl, rfl⟩) (by rw [show inm kd nm k a = a from if_neg (by omega)]; exact hmk) (by show 3 ≤ 1 + 2; omega) (by rw [← hTk]; exact txN_p hk4 hmk y5) (Or.inr (Or.inr trivial))
      · by_cases hk5 : kd k = 5
        · skip
          refine ef_aload_n (pc := 23) d113_23 rfl ?_
          refine eg_getI (pc := 24) d113_24 lf_8_245 (by assumption) (by decide) ?_
          rw [h39]
          refine ef_if_leF (pc := 27) d113_27 (t := 111) rfl (by omega) ?_
          refine ef_aload_n (pc := 30) d113_30 rfl ?_
          refine eg_getZ (pc := 31) d113_31 lf_8_215 (by assumption) (by decide) ?_
          rw [x2]
          refine ef_if_neF (pc := 34) d113_34 (t := 111) rfl (by decide) ?_
          refine ef_aload_n (pc := 37) d113_37 rfl ?_
          refine eg_getR (pc := 38) d113_38 lf_8_98 (by assumption) (by decide) (by assumption) ?_
          refine ef_aload_n (pc := 41) d113_41 rfl ?_
          refine eg_getI (pc := 42) d113_42 lf_8_245 (by assumption) (by decide) ?_
          rw [h39]
          refine ef_iconst (pc := 45) d113_45 (by decide) ?_
          refine ef_isub (pc := 46) d113_46 (z := (c : Int)) (by omega) ⟨by omega, by omega⟩ ?_
          refine eg_iald (pc := 47) d113_47 (i := c) (by assumption) (rfl) (by omega) ?_
          rw [hki]
          refine ef_if_neT (pc := 48) d113_48 (t := 64) rfl (kne) ?_
          refine ef_aload_n (pc := 64) d113_64 rfl ?_
          refine ef_aload_n (pc := 65) d113_65 rfl ?_
          refine eg_getI (pc := 66) d113_66 lf_8_245 (by assumption) (by decide) ?_
          rw [h39]
          refine ef_iconst (pc := 69) d113_69 (by decide) ?_
          refine ef_isub (pc := 70) d113_70 (z := (c : Int)) (by omega) ⟨by omega, by omega⟩ ?_
          refine ef_callV (pc := 71) d113_71 lm_8_289 (as := [_]) rfl rfl (by assumption) rfl rfl (by decide) (Nat.le_of_ble_eq_true rfl) rfl (Nat.le_of_ble_eq_true rfl) ?_
          refine Ec.imp (Ec.deep (by omega) (c126m (d := d) (rp := rp) hM hT hTr1 hksz dq x2 h38 (by omega) h39 (by omega) hnx hnn h48 hgi hl1 hmu hk5)) ?_
          rintro r71 u71 ⟨g1, rfl, rfl, p1, p2, p4, ⟨z, p5, p5b⟩, p8, p11, p12⟩
          have hTe : Tk = [39, nmX (nmM (nm k)) l mu] := by rw [← hTk]; exact txN_m hk5 hmk y5
          have hTl : Tk.length = 2 := by rw [hTe]; rfl
          have h391 : g1 m 39 = ((c + 1 : Nat) : Int) := by rw [p12 39 (by decide) (by decide) (by decide)]; exact h39
          have hfr1 : DFr g0 g1 m := hfr.trans ⟨fun a h1 h2 h3 h4 => p11 a h1 (by omega) (by omega) (by omega) (by omega), fun f h1 h2 h3 h4 h5 => p12 f h1 h2 h3⟩
          rw [← hTe] at p1
          refine chk hM p1.used.1 p2 h391 (fun h => ?_) (fun h h1001 _ => ?_)
          · refine fx _ (hfr1.trans ⟨fun a h1 h2 h3 h4 => u2_ne h1, fun f h1 h2 h3 h4 h5 => u2_ni h1⟩) u2_at ?_
            rcases h with h | h | h
            · have := p1.f h
              rw [List.length_append] at this
              omega
            · omega
            · omega
          · have hX1 := p1.x h
            have hX1l := hX1.1
            rw [List.length_append] at hX1l
            refine after g1 hfr1 (by rw [p12 48 (by decide) (by decide) (by decide)]; exact h48) hX1 h391 p2 (by omega) (by rw [p4, u1_eq]) (by rw [p5, u1_eq, p5b (by omega), hTl]; rfl) ⟨by rw [p11 _ (by omega) (by omega) (by omega) (by omega) (by omega)]; exact hki, by rw [p8, u1_eq], by rw [p11 _ (by omega) (by omega) (by omega) (by omega) (by omega)]; exact hb, by rw [p11 _ (by omega) (by omega) (by omega) (by omega) (by omega)]; exact hmu⟩ ⟨fun i hi => ?_, fun i hi => ?_⟩
            · rw [p11 (m + 30) (by omega) (by omega) (by omega) (by omega) (by omega), p11 (m + 31) (by omega) (by omega) (by omega) (by omega) (by omega), p8, p11 (m + 33) (by omega) (by omega) (by omega) (by omega) (by omega), p11 (m + 34) (by omega) (by omega) (by omega) (by omega) (by omega), u1_ne (by omega)]; exact ⟨rfl, rfl, rfl, rfl, rfl⟩
            · rw [p4, p5, u1_ne (by omega), u1_ne (by omega), p11 _ (by omega) (by omega) (by omega) (by omega) (by omega)]; exact ⟨rfl, rfl, rfl⟩
        · skip
          refine ef_aload_n (pc := 23) d113_23 rfl ?_
          refine eg_getI (pc := 24) d113_24 lf_8_245 (by assumption) (by decide) ?_
          rw [h39]
          refine ef_if_leF (pc := 27) d113_27 (t := 111) rfl (by omega) ?_
          refine ef_aload_n (pc := 30) d113_30 rfl ?_
          refine eg_getZ (pc := 31) d113_31 lf_8_215 (by assumption) (by decide) ?_
          rw [x2]
          refine ef_if_neF (pc := 34) d113_34 (t := 111) rfl (by decide) ?_
          refine ef_aload_n (pc := 37) d113_37 rfl ?_
          refine eg_getR (pc := 38) d113_38 lf_8_98 (by assumption) (by decide) (by assumption) ?_
          refine ef_aload_n (pc := 41) d113_41 rfl ?_
          refine eg_getI (pc := 42) d113_42 lf_8_245 (by assumption) (by decide) ?_
          rw [h39]
          refine ef_iconst (pc := 45) d113_45 (by decide) ?_
          refine ef_isub (pc := 46) d113_46 (z := (c : Int)) (by omega) ⟨by omega, by omega⟩ ?_
          refine eg_iald (pc := 47) d113_47 (i := c) (by assumption) (rfl) (by omega) ?_
          rw [hki]
          refine ef_if_neT (pc := 48) d113_48 (t := 64) rfl (kne) ?_
          refine ef_aload_n (pc := 64) d113_64 rfl ?_
          refine ef_aload_n (pc := 65) d113_65 rfl ?_
          refine eg_getI (pc := 66) d113_66 lf_8_245 (by assumption) (by decide) ?_
          rw [h39]
          refine ef_iconst (pc := 69) d113_69 (by decide) ?_
          refine ef_isub (pc := 70) d113_70 (z := (c : Int)) (by omega) ⟨by omega, by omega⟩ ?_
          refine ef_callV (pc := 71) d113_71 lm_8_289 (as := [_]) rfl rfl (by assumption) rfl rfl (by decide) (Nat.le_of_ble_eq_true rfl) rfl (Nat.le_of_ble_eq_true rfl) ?_
          refine Ec.imp (Ec.deep (by omega) (c126g (d := d) hM hT hTr1 hksz dq x2 h38 (by omega) h39 (by omega) hnx hnn h48 hgi hl1 hmu (by omega))) ?_
          rintro r71 u71 ⟨g1, rfl, rfl, hO, h481⟩
          exact opened g1 _ 1 (mkF kd nm k mu) 40 hO (by rw [h481]; exact h48) (Or.inl ⟨rfl, rfl⟩) (hmk.inn y6) (by have := (mH_len (kd := kd) (nm := nm) (rp := rp) (n := k) (l := l) (k := mu)).1; omega) (by rw [← hTk]; exact txN_g (by omega) hmk y5 y6) (Or.inr (Or.inr trivial))
    · exact fin (f + 1) k to a mu ki br c b W0 H W dn Q g hlt (by rw [txR, if_pos (by omega)]) hc34 hfr h48 hX h39 hki hnx hb hbr hb1 h38 h100 hQ hdn hWt hWl hf0 hh0 hB1 cont
