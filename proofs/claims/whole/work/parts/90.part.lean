/-! The model: a step in a node's parts. Written by wip/whole/gen/c90.py. -/
/-- meanings with a mask: letters of inputs' own mean nothing -/
def MkR (a l k : Int) : Prop := ∃ x y z p q r : Nat, x < 7 ∧ y < 7 ∧ z < 7 ∧ p < 2 ∧ q < 2 ∧ r < 2 ∧ l = ((x + 16 * y + 256 * z : Nat) : Int) ∧ k = ((p + 2 * q + 4 * r : Nat) : Int) ∧ a = (((if p = 1 then 0 else x) + 8 * (if q = 1 then 0 else y) + 64 * (if r = 1 then 0 else z) : Nat) : Int)
theorem nmX_all : ∀ x : Nat, x < 7 → ∀ y : Nat, y < 7 → ∀ z : Nat, z < 7 → ∀ k : Nat, k < 8 → nmX 6 ((x + 16 * y + 256 * z : Nat) : Int) (k : Int) = (if k % 2 = 1 ∨ x = 0 then 120 else 96 + (x : Int)) ∧ nmX 7 ((x + 16 * y + 256 * z : Nat) : Int) (k : Int) = (if k / 2 % 2 = 1 ∨ y = 0 then 121 else 96 + (y : Int)) ∧ nmX 8 ((x + 16 * y + 256 * z : Nat) : Int) (k : Int) = (if k / 4 = 1 ∨ z = 0 then 122 else 96 + (z : Int)) := by decide +kernel
theorem or_all : ∀ p : Nat, p < 2 → ∀ q : Nat, q < 2 → ∀ r : Nat, r < 2 → bI (fun x y => x ||| y) ((p + 2 * q + 4 * r : Nat) : Int) (bI (fun x y => x <<< (y &&& 31)) 1 (6 - 6)) = ((1 + 2 * q + 4 * r : Nat) : Int) ∧ bI (fun x y => x ||| y) ((p + 2 * q + 4 * r : Nat) : Int) (bI (fun x y => x <<< (y &&& 31)) 1 (7 - 6)) = ((p + 2 * 1 + 4 * r : Nat) : Int) ∧ bI (fun x y => x ||| y) ((p + 2 * q + 4 * r : Nat) : Int) (bI (fun x y => x <<< (y &&& 31)) 1 (8 - 6)) = ((p + 2 * q + 4 * 1 : Nat) : Int) := by decide +kernel
theorem MkR.ok {a l k : Int} (h : MkR a l k) : MnOk a := by
  obtain ⟨x, y, z, p, q, r, hx, hy, hz, hp, hq, hr, -, -, h⟩ := h
  exact ⟨_, _, _, by split <;> omega, by split <;> omega, by split <;> omega, h⟩
theorem MkR.of {a l : Int} (h : MnR a l) : MkR a l 0 := by
  obtain ⟨x, y, z, hx, hy, hz, h1, h2⟩ := h
  exact ⟨x, y, z, 0, 0, 0, hx, hy, hz, by omega, by omega, by omega, h2, rfl, h1⟩
theorem nmT_dig {d : Nat} {c m : Int} (hd : d < 7) (h : mtF c m = (d : Int) - 1) : nmT c m = (if d = 0 then c else 96 + (d : Int)) := by
  unfold nmT
  rw [h]
  by_cases h0 : d = 0
  · rw [if_pos h0, if_pos (by omega)]
  · rw [if_neg h0, if_neg (by omega)]; omega
theorem nmX_eq {a l k c : Int} (h : MkR a l k) (hc : (97 ≤ c ∧ c ≤ 102) ∨ (120 ≤ c ∧ c ≤ 122)) : nmX (nmM c) l k = nmT c a := by
  rcases hc with hc | hc
  · unfold nmM nmX
    rw [if_pos (show c < 120 by omega), if_neg (by omega)]
    have h1 : rsF (c - 97) l = c - 97 := by unfold rsF; rw [if_pos (by omega)]
    have h2 : mtF c a = c - 97 := by unfold mtF; rw [if_pos (by omega)]
    rw [h1]
    unfold loF nmT
    rw [h2, if_pos (by omega), if_neg (by omega)]
    omega
  · obtain ⟨x, y, z, p, q, r, hx, hy, hz, hp, hq, hr, rfl, rfl, rfl⟩ := h
    obtain ⟨t1, t2, t3⟩ := nmX_all x hx y hy z hz (p + 2 * q + 4 * r) (by omega)
    rw [show (p + 2 * q + 4 * r) % 2 = p by omega] at t1
    rw [show (p + 2 * q + 4 * r) / 2 % 2 = q by omega] at t2
    rw [show (p + 2 * q + 4 * r) / 4 = r by omega] at t3
    obtain ⟨m1, m2, m3⟩ := mt_all (if p = 1 then 0 else x) (by split <;> omega) (if q = 1 then 0 else y) (by split <;> omega) (if r = 1 then 0 else z) (by split <;> omega)
    have hc3 : c = 120 ∨ c = 121 ∨ c = 122 := by omega
    rcases hc3 with rfl | rfl | rfl
    · rw [show nmM 120 = 6 from rfl, t1, nmT_dig (by split <;> omega) m1]
      by_cases hp1 : p = 1
      · rw [if_pos (Or.inl hp1), if_pos hp1, if_pos rfl]
      · rw [if_neg hp1]
        by_cases h0 : x = 0
        · rw [if_pos (Or.inr h0), if_pos h0]
        · rw [if_neg (by omega), if_neg h0]
    · rw [show nmM 121 = 7 from rfl, t2, nmT_dig (by split <;> omega) m2]
      by_cases hp1 : q = 1
      · rw [if_pos (Or.inl hp1), if_pos hp1, if_pos rfl]
      · rw [if_neg hp1]
        by_cases h0 : y = 0
        · rw [if_pos (Or.inr h0), if_pos h0]
        · rw [if_neg (by omega), if_neg h0]
    · rw [show nmM 122 = 8 from rfl, t3, nmT_dig (by split <;> omega) m3]
      by_cases hp1 : r = 1
      · rw [if_pos (Or.inl hp1), if_pos hp1, if_pos rfl]
      · rw [if_neg hp1]
        by_cases h0 : z = 0
        · rw [if_pos (Or.inr h0), if_pos h0]
        · rw [if_neg (by omega), if_neg h0]
theorem MkR.inn {kd nm : Nat → Int} {n : Nat} {a l k : Int} (h : MkR a l k) (h3 : kd n = 3 → 120 ≤ nm n ∧ nm n ≤ 122) : MkR (inm kd nm n a) l (mkF kd nm n k) := by
  unfold inm mkF
  by_cases hk : kd n = 3
  · rw [if_pos hk, if_pos hk]
    obtain ⟨x, y, z, p, q, r, hx, hy, hz, hp, hq, hr, rfl, rfl, rfl⟩ := h
    obtain ⟨o1, o2, o3⟩ := or_all p hp q hq r hr
    obtain ⟨b1, b2, b3⟩ := bd_all (if p = 1 then 0 else x) (by split <;> omega) (if q = 1 then 0 else y) (by split <;> omega) (if r = 1 then 0 else z) (by split <;> omega) 0 (by omega)
    have hc := h3 hk
    have hc3 : nm n = 120 ∨ nm n = 121 ∨ nm n = 122 := by omega
    rcases hc3 with hc | hc | hc
    · rw [hc, show nmM 120 = 6 from rfl, o1, show (-1 : Int) = ((0 : Nat) : Int) - 1 from rfl, b1]
      exact ⟨x, y, z, 1, q, r, hx, hy, hz, by omega, hq, hr, rfl, rfl, rfl⟩
    · rw [hc, show nmM 121 = 7 from rfl, o2, show (-1 : Int) = ((0 : Nat) : Int) - 1 from rfl, b2]
      exact ⟨x, y, z, p, 1, r, hx, hy, hz, hp, by omega, hr, rfl, rfl, rfl⟩
    · rw [hc, show nmM 122 = 8 from rfl, o3, show (-1 : Int) = ((0 : Nat) : Int) - 1 from rfl, b3]
      exact ⟨x, y, z, p, q, 1, hx, hy, hz, hp, hq, by omega, rfl, rfl, rfl⟩
  · rw [if_neg hk, if_neg hk]; exact h
theorem mH_eq {kd nm rp : Nat → Int} {n : Nat} {a l k : Int} (h : MkR a l k) (hk : kd n ≤ 3) (hc : (97 ≤ nm n ∧ nm n ≤ 102) ∨ (120 ≤ nm n ∧ nm n ≤ 122)) (h3 : kd n = 3 → 120 ≤ nm n ∧ nm n ≤ 122) : mH kd nm rp n l k = hdT kd nm rp n (inm kd nm n a) := by
  unfold mH hdT
  rw [if_neg (show ¬ kd n = 4 by omega), if_neg (show ¬ kd n = 5 by omega)]
  congr 1
  congr 1
  congr 1
  by_cases hk3 : kd n = 3
  · rw [if_pos hk3]
    have hc := h3 hk3
    have h2 := h.inn (kd := kd) (nm := nm) (n := n) h3
    unfold mkF at h2
    rw [if_pos hk3] at h2
    obtain ⟨x, y, z, p, q, r, hx, hy, hz, hp, hq, hr, rfl, rfl, rfl⟩ := h
    unfold inm
    rw [if_pos hk3]
    obtain ⟨b1, b2, b3⟩ := bd_all (if p = 1 then 0 else x) (by split <;> omega) (if q = 1 then 0 else y) (by split <;> omega) (if r = 1 then 0 else z) (by split <;> omega) 0 (by omega)
    obtain ⟨m1, -, -⟩ := mt_all 0 (by omega) (if q = 1 then 0 else y) (by split <;> omega) (if r = 1 then 0 else z) (by split <;> omega)
    obtain ⟨-, m2, -⟩ := mt_all (if p = 1 then 0 else x) (by split <;> omega) 0 (by omega) (if r = 1 then 0 else z) (by split <;> omega)
    obtain ⟨-, -, m3⟩ := mt_all (if p = 1 then 0 else x) (by split <;> omega) (if q = 1 then 0 else y) (by split <;> omega) 0 (by omega)
    have hc3 : nm n = 120 ∨ nm n = 121 ∨ nm n = 122 := by omega
    rcases hc3 with hc | hc | hc
    · rw [hc, show (-1 : Int) = ((0 : Nat) : Int) - 1 from rfl, b1, nmT_dig (by omega) m1]; rfl
    · rw [hc, show (-1 : Int) = ((0 : Nat) : Int) - 1 from rfl, b2, nmT_dig (by omega) m2]; rfl
    · rw [hc, show (-1 : Int) = ((0 : Nat) : Int) - 1 from rfl, b3, nmT_dig (by omega) m3]; rfl
  · rw [if_neg hk3]
    unfold inm
    rw [if_neg hk3]
    exact nmX_eq h hc
/-- a string begun, with a frame for what is in it -/
def Opn (g g' : Nat → Nat → Int) (m : Nat) (W X : List Int) (s c : Nat) (a1 a2 a3 a4 nxt : Int) : Prop := DQ g' m (W ++ X) ∧ g' m 38 = ((s + 1 : Nat) : Int) ∧ g' m 39 = ((c + 2 : Nat) : Int) ∧ g' (m + 28) = u1 (g (m + 28)) s (W.length : Int) ∧ (∃ z, g' (m + 42) = u1 (g (m + 42)) s z ∧ (W.length + X.length ≤ 640 → z = (X.length : Int))) ∧ g' (m + 30) = u1 (g (m + 30)) (c + 1) a1 ∧ g' (m + 31) = u1 (g (m + 31)) (c + 1) a2 ∧ g' (m + 32) = u1 (u1 (g (m + 32)) c nxt) (c + 1) a3 ∧ g' (m + 33) = u1 (g (m + 33)) (c + 1) ((s + 1 : Nat) : Int) ∧ g' (m + 34) = u1 (g (m + 34)) (c + 1) a4 ∧ (∀ a, a ≠ m → a ≠ m + 27 → a ≠ m + 28 → (a < m + 30 ∨ m + 34 < a) → a ≠ m + 42 → g' a = g a) ∧ (∀ f, f ≠ 30 → f ≠ 37 → f ≠ 38 → f ≠ 39 → f ≠ 48 → g' m f = g m f)
theorem c126p {P : Pg} {d : Nat} {u : Mm} {g : Nat → Nat → Int} {m : Nat} {W : List Int} {s c n sz gi : Nat} {l k nxt : Int} {kd nm rp en : Nat → Int} {ht : Nat → Nat} (hM : MdA u m) (hT : TmOk kd nm en sz ht) (hTr : TrR g m kd nm rp en sz) (hn : n < sz) (hW : DQ g m W) (hf : g m 30 = 0) (hs : g m 38 = (s : Int)) (hs2 : s < 118) (hc : g m 39 = ((c + 1 : Nat) : Int)) (hc2 : c < 38) (hnx : g (m + 32) c = (n : Int)) (hnn : g (m + 8) n = nxt) (hgo : g m 48 = (gi : Int)) (hgi : gi < 40) (hl : g (m + 18) gi = l) (hmk : g (m + 34) c = k) (hk : kd n = 4) : Ec P (d + 4) 126 [vR m, vI (c : Int)] (sI u g) (fun x u' => ∃ g', u' = sI u g' ∧ x = .inl none ∧ Opn g g' m W [nmX (nmM (nm n)) l k] s c 2 (n : Int) (if n + 1 < afF en n then ((n + 1 : Nat) : Int) else -1) k nxt ∧ g' m 48 = g m 48) := by
  have s0 := hM.1
  have f8 : mF u m 8 = some (m + 3) := (hM.2 2 (by decide)).1
  have s8 : mS u (m + 3) = some (0, 51) := (hM.2 2 (by decide)).2
  have f10 : mF u m 10 = some (m + 5) := (hM.2 4 (by decide)).1
  have s10 : mS u (m + 5) = some (0, 51) := (hM.2 4 (by decide)).2
  have f11 : mF u m 11 = some (m + 6) := (hM.2 5 (by decide)).1
  have s11 : mS u (m + 6) = some (0, 51) := (hM.2 5 (by decide)).2
  have f13 : mF u m 13 = some (m + 8) := (hM.2 7 (by decide)).1
  have s13 : mS u (m + 8) = some (0, 51) := (hM.2 7 (by decide)).2
  have f24 : mF u m 24 = some (m + 18) := (hM.2 17 (by decide)).1
  have s24 : mS u (m + 18) = some (0, 40) := (hM.2 17 (by decide)).2
  have f43 : mF u m 43 = some (m + 30) := (hM.2 29 (by decide)).1
  have s43 : mS u (m + 30) = some (0, 40) := (hM.2 29 (by decide)).2
  have f45 : mF u m 45 = some (m + 32) := (hM.2 31 (by decide)).1
  have s45 : mS u (m + 32) = some (0, 40) := (hM.2 31 (by decide)).2
  have f46 : mF u m 46 = some (m + 33) := (hM.2 32 (by decide)).1
  have s46 : mS u (m + 33) = some (0, 40) := (hM.2 32 (by decide)).2
  have f47 : mF u m 47 = some (m + 34) := (hM.2 33 (by decide)).1
  have s47 : mS u (m + 34) = some (0, 40) := (hM.2 33 (by decide)).2
  obtain ⟨t1, t2, t3, t4, t5, t6⟩ := hTr.1 n hn
  obtain ⟨y1, y2, y3, y4, y5, y6⟩ := hT.2.2 n hn
  have h50 := hT.1.1
  have tk := kdM_inj (a := kd n) y3 y4
  have hnmr := nmM_rg y5
  have hu : W.length ≤ 640 ∧ g m 37 = (W.length : Int) := by
    rcases hW with ⟨w1, w2, w3, -⟩ | ⟨-, w2, -⟩
    · exact ⟨w1, w3⟩
    · omega
  generalize hg1 : u2 g (m + 32) c nxt = g1
  have o1 : ∀ a, a ≠ m + 32 → g1 a = g a := fun a h1 => by rw [← hg1, u2_ne h1]
  have e32 : g1 (m + 32) = u1 (g (m + 32)) c nxt := by rw [← hg1, u2_eq]
  have em : g1 m = g m := o1 _ (by omega)
  have e18 : g1 (m + 18) gi = l := by rw [o1 _ (by omega)]; exact hl
  have e48 : g1 m 48 = (gi : Int) := by rw [em]; exact hgo
  have e34 : g1 (m + 34) c = k := by rw [o1 _ (by omega)]; exact hmk
  have e3 : g1 (m + 3) n = kdM (kd n) := by rw [o1 _ (by omega)]; exact t1
  have e5 : g1 (m + 5) n = nmM (nm n) := by rw [o1 _ (by omega)]; exact t2
  have e6 : g1 (m + 6) n = (if n + 1 < afF en n then ((n + 1 : Nat) : Int) else -1) := by rw [o1 _ (by omega)]; exact t5
  have d1 : DQ g1 m W := hW.of (by rw [em]) (by rw [em]) (o1 _ (by omega))
  have hTr1 : TrR g1 m kd nm rp en sz := by
    unfold TrR
    rw [o1 (m + 3) (by omega), o1 (m + 5) (by omega), o1 (m + 4) (by omega), o1 (m + 6) (by omega), o1 (m + 8) (by omega)]
    exact hTr
  have s1 : g1 m 38 = (s : Int) := by rw [em]; exact hs
  change Ef P _ 126 0 [some (vR m), some (vI (c : Int)), none, none, none] [] _ _
  refine ef_aload_n (pc := 0) d126_0 rfl ?_
  refine eg_getR (pc := 1) d126_1 lf_8_104 (by assumption) (by decide) (by assumption) ?_
  refine ef_iload_n (pc := 4) d126_4 rfl ?_
  refine eg_iald (pc := 5) d126_5 (i := c) (by assumption) (rfl) (by omega) ?_
  rw [hnx]
  refine ef_istore_n (pc := 6) d126_6 (ls' := [_, _, _, _, _]) rfl ?_
  refine ef_iload_n (pc := 7) d126_7 rfl ?_
  refine ef_if_geT (pc := 8) d126_8 (t := 49) rfl (by omega) ?_
  refine ef_aload_n (pc := 49) d126_49 rfl ?_
  refine eg_getR (pc := 50) d126_50 lf_8_104 (by assumption) (by decide) (by assumption) ?_
  refine ef_iload_n (pc := 53) d126_53 rfl ?_
  refine ef_aload_n (pc := 54) d126_54 rfl ?_
  refine eg_getR (pc := 55) d126_55 lf_8_32 (by assumption) (by decide) (by assumption) ?_
  refine ef_iload_n (pc := 58) d126_58 rfl ?_
  refine eg_iald (pc := 59) d126_59 (i := n) (by assumption) (rfl) (by omega) ?_
  rw [hnn]
  refine eg_iast (pc := 60) d126_60 (i := c) (by assumption) (rfl) (by omega) rfl ?_
  rw [hg1]
  refine ef_aload_n (pc := 61) d126_61 rfl ?_
  refine eg_getR (pc := 62) d126_62 lf_8_62 (by assumption) (by decide) (by assumption) ?_
  refine ef_aload_n (pc := 65) d126_65 rfl ?_
  refine eg_getI (pc := 66) d126_66 lf_8_274 (by assumption) (by decide) ?_
  rw [e48]
  refine eg_iald (pc := 69) d126_69 (i := gi) (by assumption) (rfl) (by omega) ?_
  rw [e18]
  refine ef_istore_n (pc := 70) d126_70 (ls' := [_, _, _, _, _]) rfl ?_
  refine ef_aload_n (pc := 71) d126_71 rfl ?_
  refine eg_getR (pc := 72) d126_72 lf_8_110 (by assumption) (by decide) (by assumption) ?_
  refine ef_iload_n (pc := 75) d126_75 rfl ?_
  refine eg_iald (pc := 76) d126_76 (i := c) (by assumption) (rfl) (by omega) ?_
  rw [e34]
  refine ef_istore (pc := 77) d126_77 (ls' := [_, _, _, _, _]) rfl ?_
  refine ef_aload_n (pc := 79) d126_79 rfl ?_
  refine eg_getR (pc := 80) d126_80 lf_8_16 (by assumption) (by decide) (by assumption) ?_
  refine ef_iload_n (pc := 83) d126_83 rfl ?_
  refine eg_iald (pc := 84) d126_84 (i := n) (by assumption) (rfl) (by omega) ?_
  rw [e3]
  refine ef_if_neF (pc := 85) d126_85 (t := 126) rfl (by rw [hk]; rfl) ?_
  refine ef_aload_n (pc := 88) d126_88 rfl ?_
  refine ef_callV (pc := 89) d126_89 lm_8_258 (as := []) rfl rfl (by assumption) rfl rfl (by decide) (Nat.le_of_ble_eq_true rfl) rfl (Nat.le_of_ble_eq_true rfl) ?_
  refine Ec.imp (c116 hM s1 (by omega)) ?_
  rintro r89 u89 ⟨rfl, rfl⟩
  generalize hg2 : u2 (u2 g1 (m + 28) s (g1 m 37)) m 38 ((s + 1 : Nat) : Int) = g2
  have o2 : ∀ a, a ≠ m → a ≠ m + 28 → g2 a = g1 a := fun a h1 h2 => by rw [← hg2, u2_ne h1, u2_ne h2]
  have b2 : ∀ f, f ≠ 38 → g2 m f = g1 m f := fun f h1 => by rw [← hg2, u2_ni h1, u2_ne (by omega)]
  have d2 : DQ g2 m W := d1.of (b2 30 (by decide)) (b2 37 (by decide)) (o2 _ (by omega) (by omega))
  have z5 : g2 (m + 5) n = nmM (nm n) := by rw [o2 _ (by omega) (by omega)]; exact e5
  refine ef_aload_n (pc := 92) d126_92 rfl ?_
  refine ef_aload_n (pc := 93) d126_93 rfl ?_
  refine eg_getR (pc := 94) d126_94 lf_8_23 (by assumption) (by decide) (by assumption) ?_
  refine ef_iload_n (pc := 97) d126_97 rfl ?_
  refine eg_iald (pc := 98) d126_98 (i := n) (by assumption) (rfl) (by omega) ?_
  rw [z5]
  refine ef_iload_n (pc := 99) d126_99 rfl ?_
  refine ef_iload (pc := 100) d126_100 rfl ?_
  refine ef_callV (pc := 102) d126_102 lm_8_264 (as := [_, _, _]) rfl rfl (by assumption) rfl rfl (by decide) (Nat.le_of_ble_eq_true rfl) rfl (Nat.le_of_ble_eq_true rfl) ?_
  refine Ec.imp (c121 (d := d + 1) hM d2 (by omega) (by omega)) ?_
  rintro r102 u102 ⟨g3, rfl, rfl, d3, a3, b3⟩
  have s3 : g3 m 38 = ((s + 1 : Nat) : Int) := by rw [b3 38 (by decide) (by decide), ← hg2, u2_at]
  have f3 : g3 (m + 28) = u1 (g (m + 28)) s (W.length : Int) := by rw [a3 _ (by omega) (by omega), ← hg2, u2_ne (by omega), u2_eq, o1 _ (by omega), em, hu.2]
  have f3s : g3 (m + 28) s = (W.length : Int) := by rw [f3, u1_eq]
  obtain ⟨-, nu, hnu, hnu2⟩ := d3.used
  have hin : inR (g3 m 37 - g3 (m + 28) s) := by rw [hnu2, f3s]; unfold inR; omega
  have oo : ∀ a, a ≠ m → a ≠ m + 27 → a ≠ m + 28 → g3 a = g1 a := fun a h1 h2 h3 => by rw [a3 a h1 h2, o2 a h1 h3]
  have c3 : g3 m 39 = ((c + 1 : Nat) : Int) := by rw [b3 39 (by decide) (by decide), b2 39 (by decide), em]; exact hc
  refine ef_aload_n (pc := 105) d126_105 rfl ?_
  refine ef_callV (pc := 106) d126_106 lm_8_267 (as := []) rfl rfl (by assumption) rfl rfl (by decide) (Nat.le_of_ble_eq_true rfl) rfl (Nat.le_of_ble_eq_true rfl) ?_
  refine Ec.imp (c119 hM s3 (by omega) hin) ?_
  rintro r106 u106 ⟨rfl, rfl⟩
  generalize hg4 : u2 g3 (m + 42) s (g3 m 37 - g3 (m + 28) s) = g4
  have o4 : ∀ a, a ≠ m + 42 → g4 a = g3 a := fun a h1 => by rw [← hg4, u2_ne h1]
  have c4 : g4 m 39 = ((c + 1 : Nat) : Int) := by rw [o4 _ (by omega)]; exact c3
  have z6 : g4 (m + 6) n = (if n + 1 < afF en n then ((n + 1 : Nat) : Int) else -1) := by rw [o4 _ (by omega), oo _ (by omega) (by omega) (by omega)]; exact e6
  refine ef_aload_n (pc := 109) d126_109 rfl ?_
  refine ef_iconst (pc := 110) d126_110 (by decide) ?_
  refine ef_iload_n (pc := 111) d126_111 rfl ?_
  refine ef_aload_n (pc := 112) d126_112 rfl ?_
  refine eg_getR (pc := 113) d126_113 lf_8_26 (by assumption) (by decide) (by assumption) ?_
  refine ef_iload_n (pc := 116) d126_116 rfl ?_
  refine eg_iald (pc := 117) d126_117 (i := n) (by assumption) (rfl) (by omega) ?_
  rw [z6]
  refine ef_iload (pc := 118) d126_118 rfl ?_
  refine ef_callV (pc := 120) d126_120 lm_8_270 (as := [_, _, _, _]) rfl rfl (by assumption) rfl rfl (by decide) (Nat.le_of_ble_eq_true rfl) rfl (Nat.le_of_ble_eq_true rfl) ?_
  refine Ec.imp (c114 (c := c + 1) hM c4 (by omega)) ?_
  rintro r120 u120 ⟨rfl, rfl⟩
  refine ef_goto (pc := 123) d126_123 (t := 160) rfl ?_
  refine ef_vret (pc := 160) d126_160 rfl ?_
  refine ⟨_, rfl, rfl, ⟨(d3.of (g' := g4) (by rw [o4 _ (by omega)]) (by rw [o4 _ (by omega)]) (o4 _ (by omega))).of ?_ ?_ ?_, ?_, ?_, ?_, ⟨g3 m 37 - g3 (m + 28) s, ?_, ?_⟩, ?_, ?_, ?_, ?_, ?_, ?_, ?_⟩, ?_⟩
  · simp (disch := omega) only [u2_ne, u2_ni]
  · simp (disch := omega) only [u2_ne, u2_ni]
  · simp (disch := omega) only [u2_ne]
  · simp (disch := omega) only [u2_ne, u2_ni]; rw [o4 _ (by omega)]; exact s3
  · rw [u2_at]
  · simp (disch := omega) only [u2_ne]; rw [o4 _ (by omega)]; exact f3
  · simp (disch := omega) only [u2_ne]; rw [← hg4, u2_eq, oo _ (by omega) (by omega) (by omega), o1 _ (by omega)]
  · intro hle
    rw [hnu2, f3s]
    rcases d3 with ⟨w1, w2, w3, -⟩ | ⟨w1, -⟩
    · rw [hnu2, List.length_append] at w3; omega
    · rw [List.length_append] at w1; omega
  · simp (disch := omega) only [u2_ne, u2_eq]; rw [o4 _ (by omega), oo _ (by omega) (by omega) (by omega), o1 _ (by omega)]
  · simp (disch := omega) only [u2_ne, u2_eq]; rw [o4 _ (by omega), oo _ (by omega) (by omega) (by omega), o1 _ (by omega)]
  · simp (disch := omega) only [u2_ne, u2_eq]; rw [o4 _ (by omega), oo _ (by omega) (by omega) (by omega), e32]
  · simp (disch := omega) only [u2_ne, u2_eq]; rw [o4 _ (by omega), oo _ (by omega) (by omega) (by omega), o1 _ (by omega), o4 _ (by omega), s3]
  · simp (disch := omega) only [u2_ne, u2_eq]; rw [o4 _ (by omega), oo _ (by omega) (by omega) (by omega), o1 _ (by omega)]
  · intro a h1 h2 h3 h4 h5; simp (disch := omega) only [u2_ne]; rw [o4 a h5, oo a h1 h2 h3, o1 a (by omega)]
  · intro f h1 h2 h3 h4 h5; simp (disch := omega) only [u2_ne, u2_ni]; rw [o4 _ (by omega), b3 f h1 h2, b2 f h3, em]
  · simp (disch := omega) only [u2_ne, u2_ni]; rw [o4 _ (by omega), b3 48 (by decide) (by decide), b2 48 (by decide), em]
theorem c126m {P : Pg} {d : Nat} {u : Mm} {g : Nat → Nat → Int} {m : Nat} {W : List Int} {s c n sz gi : Nat} {l k nxt : Int} {kd nm rp en : Nat → Int} {ht : Nat → Nat} (hM : MdA u m) (hT : TmOk kd nm en sz ht) (hTr : TrR g m kd nm rp en sz) (hn : n < sz) (hW : DQ g m W) (hf : g m 30 = 0) (hs : g m 38 = (s : Int)) (hs2 : s < 118) (hc : g m 39 = ((c + 1 : Nat) : Int)) (hc2 : c < 38) (hnx : g (m + 32) c = (n : Int)) (hnn : g (m + 8) n = nxt) (hgo : g m 48 = (gi : Int)) (hgi : gi < 40) (hl : g (m + 18) gi = l) (hmk : g (m + 34) c = k) (hk : kd n = 5) : Ec P (d + 4) 126 [vR m, vI (c : Int)] (sI u g) (fun x u' => ∃ g', u' = sI u g' ∧ x = .inl none ∧ DQ g' m (W ++ [39, nmX (nmM (nm n)) l k]) ∧ g' m 38 = ((s + 1 : Nat) : Int) ∧ g' (m + 28) = u1 (g (m + 28)) s (W.length : Int) ∧ (∃ z, g' (m + 29) = u1 (g (m + 29)) s z ∧ (W.length + 2 ≤ 640 → z = 2)) ∧ g' (m + 32) = u1 (g (m + 32)) c nxt ∧ (∀ a, a ≠ m → a ≠ m + 27 → a ≠ m + 28 → a ≠ m + 29 → a ≠ m + 32 → g' a = g a) ∧ (∀ f, f ≠ 30 → f ≠ 37 → f ≠ 38 → g' m f = g m f)) := by
  have s0 := hM.1
  have f8 : mF u m 8 = some (m + 3) := (hM.2 2 (by decide)).1
  have s8 : mS u (m + 3) = some (0, 51) := (hM.2 2 (by decide)).2
  have f10 : mF u m 10 = some (m + 5) := (hM.2 4 (by decide)).1
  have s10 : mS u (m + 5) = some (0, 51) := (hM.2 4 (by decide)).2
  have f11 : mF u m 11 = some (m + 6) := (hM.2 5 (by decide)).1
  have s11 : mS u (m + 6) = some (0, 51) := (hM.2 5 (by decide)).2
  have f13 : mF u m 13 = some (m + 8) := (hM.2 7 (by decide)).1
  have s13 : mS u (m + 8) = some (0, 51) := (hM.2 7 (by decide)).2
  have f24 : mF u m 24 = some (m + 18) := (hM.2 17 (by decide)).1
  have s24 : mS u (m + 18) = some (0, 40) := (hM.2 17 (by decide)).2
  have f43 : mF u m 43 = some (m + 30) := (hM.2 29 (by decide)).1
  have s43 : mS u (m + 30) = some (0, 40) := (hM.2 29 (by decide)).2
  have f45 : mF u m 45 = some (m + 32) := (hM.2 31 (by decide)).1
  have s45 : mS u (m + 32) = some (0, 40) := (hM.2 31 (by decide)).2
  have f46 : mF u m 46 = some (m + 33) := (hM.2 32 (by decide)).1
  have s46 : mS u (m + 33) = some (0, 40) := (hM.2 32 (by decide)).2
  have f47 : mF u m 47 = some (m + 34) := (hM.2 33 (by decide)).1
  have s47 : mS u (m + 34) = some (0, 40) := (hM.2 33 (by decide)).2
  obtain ⟨t1, t2, t3, t4, t5, t6⟩ := hTr.1 n hn
  obtain ⟨y1, y2, y3, y4, y5, y6⟩ := hT.2.2 n hn
  have h50 := hT.1.1
  have tk := kdM_inj (a := kd n) y3 y4
  have hnmr := nmM_rg y5
  have hu : W.length ≤ 640 ∧ g m 37 = (W.length : Int) := by
    rcases hW with ⟨w1, w2, w3, -⟩ | ⟨-, w2, -⟩
    · exact ⟨w1, w3⟩
    · omega
  generalize hg1 : u2 g (m + 32) c nxt = g1
  have o1 : ∀ a, a ≠ m + 32 → g1 a = g a := fun a h1 => by rw [← hg1, u2_ne h1]
  have e32 : g1 (m + 32) = u1 (g (m + 32)) c nxt := by rw [← hg1, u2_eq]
  have em : g1 m = g m := o1 _ (by omega)
  have e18 : g1 (m + 18) gi = l := by rw [o1 _ (by omega)]; exact hl
  have e48 : g1 m 48 = (gi : Int) := by rw [em]; exact hgo
  have e34 : g1 (m + 34) c = k := by rw [o1 _ (by omega)]; exact hmk
  have e3 : g1 (m + 3) n = kdM (kd n) := by rw [o1 _ (by omega)]; exact t1
  have e5 : g1 (m + 5) n = nmM (nm n) := by rw [o1 _ (by omega)]; exact t2
  have e6 : g1 (m + 6) n = (if n + 1 < afF en n then ((n + 1 : Nat) : Int) else -1) := by rw [o1 _ (by omega)]; exact t5
  have d1 : DQ g1 m W := hW.of (by rw [em]) (by rw [em]) (o1 _ (by omega))
  have hTr1 : TrR g1 m kd nm rp en sz := by
    unfold TrR
    rw [o1 (m + 3) (by omega), o1 (m + 5) (by omega), o1 (m + 4) (by omega), o1 (m + 6) (by omega), o1 (m + 8) (by omega)]
    exact hTr
  change Ef P _ 126 0 [some (vR m), some (vI (c : Int)), none, none, none] [] _ _
  refine ef_aload_n (pc := 0) d126_0 rfl ?_
  refine eg_getR (pc := 1) d126_1 lf_8_104 (by assumption) (by decide) (by assumption) ?_
  refine ef_iload_n (pc := 4) d126_4 rfl ?_
  refine eg_iald (pc := 5) d126_5 (i := c) (by assumption) (rfl) (by omega) ?_
  rw [hnx]
  refine ef_istore_n (pc := 6) d126_6 (ls' := [_, _, _, _, _]) rfl ?_
  refine ef_iload_n (pc := 7) d126_7 rfl ?_
  refine ef_if_geT (pc := 8) d126_8 (t := 49) rfl (by omega) ?_
  refine ef_aload_n (pc := 49) d126_49 rfl ?_
  refine eg_getR (pc := 50) d126_50 lf_8_104 (by assumption) (by decide) (by assumption) ?_
  refine ef_iload_n (pc := 53) d126_53 rfl ?_
  refine ef_aload_n (pc := 54) d126_54 rfl ?_
  refine eg_getR (pc := 55) d126_55 lf_8_32 (by assumption) (by decide) (by assumption) ?_
  refine ef_iload_n (pc := 58) d126_58 rfl ?_
  refine eg_iald (pc := 59) d126_59 (i := n) (by assumption) (rfl) (by omega) ?_
  rw [hnn]
  refine eg_iast (pc := 60) d126_60 (i := c) (by assumption) (rfl) (by omega) rfl ?_
  rw [hg1]
  refine ef_aload_n (pc := 61) d126_61 rfl ?_
  refine eg_getR (pc := 62) d126_62 lf_8_62 (by assumption) (by decide) (by assumption) ?_
  refine ef_aload_n (pc := 65) d126_65 rfl ?_
  refine eg_getI (pc := 66) d126_66 lf_8_274 (by assumption) (by decide) ?_
  rw [e48]
  refine eg_iald (pc := 69) d126_69 (i := gi) (by assumption) (rfl) (by omega) ?_
  rw [e18]
  refine ef_istore_n (pc := 70) d126_70 (ls' := [_, _, _, _, _]) rfl ?_
  refine ef_aload_n (pc := 71) d126_71 rfl ?_
  refine eg_getR (pc := 72) d126_72 lf_8_110 (by assumption) (by decide) (by assumption) ?_
  refine ef_iload_n (pc := 75) d126_75 rfl ?_
  refine eg_iald (pc := 76) d126_76 (i := c) (by assumption) (rfl) (by omega) ?_
  rw [e34]
  refine ef_istore (pc := 77) d126_77 (ls' := [_, _, _, _, _]) rfl ?_
  refine ef_aload_n (pc := 79) d126_79 rfl ?_
  refine eg_getR (pc := 80) d126_80 lf_8_16 (by assumption) (by decide) (by assumption) ?_
  refine ef_iload_n (pc := 83) d126_83 rfl ?_
  refine eg_iald (pc := 84) d126_84 (i := n) (by assumption) (rfl) (by omega) ?_
  rw [e3]
  refine ef_if_neT (pc := 85) d126_85 (t := 126) rfl (by rw [hk]; decide) ?_
  refine ef_aload_n (pc := 126) d126_126 rfl ?_
  refine eg_getR (pc := 127) d126_127 lf_8_16 (by assumption) (by decide) (by assumption) ?_
  refine ef_iload_n (pc := 130) d126_130 rfl ?_
  refine eg_iald (pc := 131) d126_131 (i := n) (by assumption) (rfl) (by omega) ?_
  rw [e3]
  refine ef_iconst (pc := 132) d126_132 (by decide) ?_
  refine ef_icmp_neF (pc := 133) d126_133 (t := 152) rfl (by rw [hk]; rfl) ?_
  refine ef_aload_n (pc := 136) d126_136 rfl ?_
  refine ef_aload_n (pc := 137) d126_137 rfl ?_
  refine eg_getR (pc := 138) d126_138 lf_8_23 (by assumption) (by decide) (by assumption) ?_
  refine ef_iload_n (pc := 141) d126_141 rfl ?_
  refine eg_iald (pc := 142) d126_142 (i := n) (by assumption) (rfl) (by omega) ?_
  rw [e5]
  refine ef_iload_n (pc := 143) d126_143 rfl ?_
  refine ef_iload (pc := 144) d126_144 rfl ?_
  refine ef_callV (pc := 146) d126_146 lm_8_280 (as := [_, _, _]) rfl rfl (by assumption) rfl rfl (by decide) (Nat.le_of_ble_eq_true rfl) rfl (Nat.le_of_ble_eq_true rfl) ?_
  refine Ec.imp (c122 (d := d) hM d1 (by rw [em]; exact hf) (by rw [em]; exact hs) (by omega) (by omega) (by omega)) ?_
  rintro r146 u146 ⟨g2, rfl, rfl, d2, s2, f2, ⟨z, z1, z2⟩, a2, b2⟩
  refine ef_goto (pc := 149) d126_149 (t := 160) rfl ?_
  refine ef_vret (pc := 160) d126_160 rfl ?_
  refine ⟨g2, rfl, rfl, d2, s2, by rw [f2, o1 _ (by omega)], ⟨z, by rw [z1, o1 _ (by omega)], z2⟩, by rw [a2 _ (by omega) (by omega) (by omega) (by omega), e32], fun a h1 h2 h3 h4 h5 => by rw [a2 a h1 h2 h3 h4, o1 a h5], fun f h1 h2 h3 => by rw [b2 f h1 h2 h3, em]⟩
theorem c126g {P : Pg} {d : Nat} {u : Mm} {g : Nat → Nat → Int} {m : Nat} {W : List Int} {s c n sz gi : Nat} {l k nxt : Int} {kd nm rp en : Nat → Int} {ht : Nat → Nat} (hM : MdA u m) (hT : TmOk kd nm en sz ht) (hTr : TrR g m kd nm rp en sz) (hn : n < sz) (hW : DQ g m W) (hf : g m 30 = 0) (hs : g m 38 = (s : Int)) (hs2 : s < 118) (hc : g m 39 = ((c + 1 : Nat) : Int)) (hc2 : c < 38) (hnx : g (m + 32) c = (n : Int)) (hnn : g (m + 8) n = nxt) (hgo : g m 48 = (gi : Int)) (hgi : gi < 40) (hl : g (m + 18) gi = l) (hmk : g (m + 34) c = k) (hk : kd n ≤ 3) : Ec P (d + 4) 126 [vR m, vI (c : Int)] (sI u g) (fun x u' => ∃ g', u' = sI u g' ∧ x = .inl none ∧ Opn g g' m W (mH kd nm rp n l k) s c 1 (n : Int) (if n + 1 < afF en n then ((n + 1 : Nat) : Int) else -1) (mkF kd nm n k) nxt ∧ g' m 48 = g m 48) := by
  have s0 := hM.1
  have f8 : mF u m 8 = some (m + 3) := (hM.2 2 (by decide)).1
  have s8 : mS u (m + 3) = some (0, 51) := (hM.2 2 (by decide)).2
  have f10 : mF u m 10 = some (m + 5) := (hM.2 4 (by decide)).1
  have s10 : mS u (m + 5) = some (0, 51) := (hM.2 4 (by decide)).2
  have f11 : mF u m 11 = some (m + 6) := (hM.2 5 (by decide)).1
  have s11 : mS u (m + 6) = some (0, 51) := (hM.2 5 (by decide)).2
  have f13 : mF u m 13 = some (m + 8) := (hM.2 7 (by decide)).1
  have s13 : mS u (m + 8) = some (0, 51) := (hM.2 7 (by decide)).2
  have f24 : mF u m 24 = some (m + 18) := (hM.2 17 (by decide)).1
  have s24 : mS u (m + 18) = some (0, 40) := (hM.2 17 (by decide)).2
  have f43 : mF u m 43 = some (m + 30) := (hM.2 29 (by decide)).1
  have s43 : mS u (m + 30) = some (0, 40) := (hM.2 29 (by decide)).2
  have f45 : mF u m 45 = some (m + 32) := (hM.2 31 (by decide)).1
  have s45 : mS u (m + 32) = some (0, 40) := (hM.2 31 (by decide)).2
  have f46 : mF u m 46 = some (m + 33) := (hM.2 32 (by decide)).1
  have s46 : mS u (m + 33) = some (0, 40) := (hM.2 32 (by decide)).2
  have f47 : mF u m 47 = some (m + 34) := (hM.2 33 (by decide)).1
  have s47 : mS u (m + 34) = some (0, 40) := (hM.2 33 (by decide)).2
  obtain ⟨t1, t2, t3, t4, t5, t6⟩ := hTr.1 n hn
  obtain ⟨y1, y2, y3, y4, y5, y6⟩ := hT.2.2 n hn
  have h50 := hT.1.1
  have tk := kdM_inj (a := kd n) y3 y4
  have hnmr := nmM_rg y5
  have hu : W.length ≤ 640 ∧ g m 37 = (W.length : Int) := by
    rcases hW with ⟨w1, w2, w3, -⟩ | ⟨-, w2, -⟩
    · exact ⟨w1, w3⟩
    · omega
  generalize hg1 : u2 g (m + 32) c nxt = g1
  have o1 : ∀ a, a ≠ m + 32 → g1 a = g a := fun a h1 => by rw [← hg1, u2_ne h1]
  have e32 : g1 (m + 32) = u1 (g (m + 32)) c nxt := by rw [← hg1, u2_eq]
  have em : g1 m = g m := o1 _ (by omega)
  have e18 : g1 (m + 18) gi = l := by rw [o1 _ (by omega)]; exact hl
  have e48 : g1 m 48 = (gi : Int) := by rw [em]; exact hgo
  have e34 : g1 (m + 34) c = k := by rw [o1 _ (by omega)]; exact hmk
  have e3 : g1 (m + 3) n = kdM (kd n) := by rw [o1 _ (by omega)]; exact t1
  have e5 : g1 (m + 5) n = nmM (nm n) := by rw [o1 _ (by omega)]; exact t2
  have e6 : g1 (m + 6) n = (if n + 1 < afF en n then ((n + 1 : Nat) : Int) else -1) := by rw [o1 _ (by omega)]; exact t5
  have d1 : DQ g1 m W := hW.of (by rw [em]) (by rw [em]) (o1 _ (by omega))
  have hTr1 : TrR g1 m kd nm rp en sz := by
    unfold TrR
    rw [o1 (m + 3) (by omega), o1 (m + 5) (by omega), o1 (m + 4) (by omega), o1 (m + 6) (by omega), o1 (m + 8) (by omega)]
    exact hTr
  change Ef P _ 126 0 [some (vR m), some (vI (c : Int)), none, none, none] [] _ _
  refine ef_aload_n (pc := 0) d126_0 rfl ?_
  refine eg_getR (pc := 1) d126_1 lf_8_104 (by assumption) (by decide) (by assumption) ?_
  refine ef_iload_n (pc := 4) d126_4 rfl ?_
  refine eg_iald (pc := 5) d126_5 (i := c) (by assumption) (rfl) (by omega) ?_
  rw [hnx]
  refine ef_istore_n (pc := 6) d126_6 (ls' := [_, _, _, _, _]) rfl ?_
  refine ef_iload_n (pc := 7) d126_7 rfl ?_
  refine ef_if_geT (pc := 8) d126_8 (t := 49) rfl (by omega) ?_
  refine ef_aload_n (pc := 49) d126_49 rfl ?_
  refine eg_getR (pc := 50) d126_50 lf_8_104 (by assumption) (by decide) (by assumption) ?_
  refine ef_iload_n (pc := 53) d126_53 rfl ?_
  refine ef_aload_n (pc := 54) d126_54 rfl ?_
  refine eg_getR (pc := 55) d126_55 lf_8_32 (by assumption) (by decide) (by assumption) ?_
  refine ef_iload_n (pc := 58) d126_58 rfl ?_
  refine eg_iald (pc := 59) d126_59 (i := n) (by assumption) (rfl) (by omega) ?_
  rw [hnn]
  refine eg_iast (pc := 60) d126_60 (i := c) (by assumption) (rfl) (by omega) rfl ?_
  rw [hg1]
  refine ef_aload_n (pc := 61) d126_61 rfl ?_
  refine eg_getR (pc := 62) d126_62 lf_8_62 (by assumption) (by decide) (by assumption) ?_
  refine ef_aload_n (pc := 65) d126_65 rfl ?_
  refine eg_getI (pc := 66) d126_66 lf_8_274 (by assumption) (by decide) ?_
  rw [e48]
  refine eg_iald (pc := 69) d126_69 (i := gi) (by assumption) (rfl) (by omega) ?_
  rw [e18]
  refine ef_istore_n (pc := 70) d126_70 (ls' := [_, _, _, _, _]) rfl ?_
  refine ef_aload_n (pc := 71) d126_71 rfl ?_
  refine eg_getR (pc := 72) d126_72 lf_8_110 (by assumption) (by decide) (by assumption) ?_
  refine ef_iload_n (pc := 75) d126_75 rfl ?_
  refine eg_iald (pc := 76) d126_76 (i := c) (by assumption) (rfl) (by omega) ?_
  rw [e34]
  refine ef_istore (pc := 77) d126_77 (ls' := [_, _, _, _, _]) rfl ?_
  refine ef_aload_n (pc := 79) d126_79 rfl ?_
  refine eg_getR (pc := 80) d126_80 lf_8_16 (by assumption) (by decide) (by assumption) ?_
  refine ef_iload_n (pc := 83) d126_83 rfl ?_
  refine eg_iald (pc := 84) d126_84 (i := n) (by assumption) (rfl) (by omega) ?_
  rw [e3]
  refine ef_if_neT (pc := 85) d126_85 (t := 126) rfl (fun h => by have := tk.2.2.2.2.1.mp h; omega) ?_
  refine ef_aload_n (pc := 126) d126_126 rfl ?_
  refine eg_getR (pc := 127) d126_127 lf_8_16 (by assumption) (by decide) (by assumption) ?_
  refine ef_iload_n (pc := 130) d126_130 rfl ?_
  refine eg_iald (pc := 131) d126_131 (i := n) (by assumption) (rfl) (by omega) ?_
  rw [e3]
  refine ef_iconst (pc := 132) d126_132 (by decide) ?_
  refine ef_icmp_neT (pc := 133) d126_133 (t := 152) rfl (fun h => by have := tk.2.2.2.2.2.mp h; omega) ?_
  refine ef_aload_n (pc := 152) d126_152 rfl ?_
  refine ef_iload_n (pc := 153) d126_153 rfl ?_
  refine ef_iload_n (pc := 154) d126_154 rfl ?_
  refine ef_iload (pc := 155) d126_155 rfl ?_
  refine ef_callV (pc := 157) d126_157 lm_8_277 (as := [_, _, _]) rfl rfl (by assumption) rfl rfl (by decide) (Nat.le_of_ble_eq_true rfl) rfl (Nat.le_of_ble_eq_true rfl) ?_
  refine Ec.imp (c120 (d := d) (s := s) (c := c + 1) hM hT hTr1 hn hk d1 (by rw [em]; exact hf) (by rw [em]; exact hs) (by omega) (by rw [em]; exact hc) (by omega)) ?_
  rintro r157 u157 ⟨g2, rfl, rfl, d2, s2, c2, f2, ⟨z, z1, z2⟩, r0, r1, r2, r3, r4, a2, b2⟩
  refine ef_vret (pc := 160) d126_160 rfl ?_
  refine ⟨g2, rfl, rfl, ⟨d2, s2, c2, by rw [f2, o1 _ (by omega)], ⟨z, by rw [z1, o1 _ (by omega)], z2⟩, by rw [r0, o1 _ (by omega)], by rw [r1, o1 _ (by omega)], by rw [r2, e32], by rw [r3, o1 _ (by omega)], by rw [r4, o1 _ (by omega)], fun a h1 h2 h3 h4 h5 => by rw [a2 a h1 h2 h3 h4 h5, o1 a (by omega)], fun f h1 h2 h3 h4 _ => by rw [b2 f h1 h2 h3 h4, em]⟩, by rw [b2 48 (by decide) (by decide) (by decide) (by decide), em]⟩
theorem c126e {P : Pg} {d : Nat} {u : Mm} {g : Nat → Nat → Int} {m : Nat} {W : List Int} {b st c : Nat} {br ki : Int} {Q : List (Nat × Nat)} (hM : MdA u m) (hWl : W.length ≤ 640) (h30 : g m 30 = 0) (hW : Row (g (m + 27)) W) (hs : g m 38 = ((b + Q.length : Nat) : Int)) (hs2 : b + Q.length < 119) (hQ : PcR g m b W.length Q) (hst : st ≤ W.length) (hst0 : b = 0 → st = 0) (hst1 : 0 < b → ∃ f0 h0 : Nat, g (m + 28) (b - 1) = (f0 : Int) ∧ g (m + 42) (b - 1) = (h0 : Int) ∧ f0 + h0 = st) (hc : g m 39 = ((c + 1 : Nat) : Int)) (hc2 : c < 38) (hbs : g (m + 33) c = (b : Int)) (hki : g (m + 30) c = ki) (hbr : (ki = 1 ∧ br = 40) ∨ (ki = 2 ∧ br = 91)) (hnx : g (m + 32) c = -1) : Ec P (d + 2) 126 [vR m, vI (c : Int)] (sI u g) (fun x u' => ∃ g', u' = sI u g' ∧ x = .inl none ∧ DQ g' m (W.take st ++ brk br (srtT (Q.map (sub W)))) ∧ g' m 38 = (b : Int) ∧ (0 < b → (∀ i, i < b → g' (m + 28) i = g (m + 28) i) ∧ (∀ i, i + 1 < b → g' (m + 29) i = g (m + 29) i) ∧ ((W.take st ++ brk br (srtT (Q.map (sub W)))).length ≤ 640 → g' (m + 29) (b - 1) = ((W.take st ++ brk br (srtT (Q.map (sub W)))).length : Int) - g (m + 28) (b - 1)) ∧ g' m 49 = g m 49) ∧ (b = 0 → (W.take st ++ brk br (srtT (Q.map (sub W)))).length ≤ 640 → g' m 49 = ((W.take st ++ brk br (srtT (Q.map (sub W)))).length : Int)) ∧ (∀ a, a ≠ m → a ≠ m + 27 → a ≠ m + 28 → a ≠ m + 29 → a ≠ m + 41 → g' a = g a) ∧ g' m 39 = (c : Int) ∧ (∀ f, f ≠ 30 → f ≠ 37 → f ≠ 38 → f ≠ 39 → f ≠ 49 → g' m f = g m f)) := by
  have s0 := hM.1
  have f8 : mF u m 8 = some (m + 3) := (hM.2 2 (by decide)).1
  have s8 : mS u (m + 3) = some (0, 51) := (hM.2 2 (by decide)).2
  have f10 : mF u m 10 = some (m + 5) := (hM.2 4 (by decide)).1
  have s10 : mS u (m + 5) = some (0, 51) := (hM.2 4 (by decide)).2
  have f11 : mF u m 11 = some (m + 6) := (hM.2 5 (by decide)).1
  have s11 : mS u (m + 6) = some (0, 51) := (hM.2 5 (by decide)).2
  have f13 : mF u m 13 = some (m + 8) := (hM.2 7 (by decide)).1
  have s13 : mS u (m + 8) = some (0, 51) := (hM.2 7 (by decide)).2
  have f24 : mF u m 24 = some (m + 18) := (hM.2 17 (by decide)).1
  have s24 : mS u (m + 18) = some (0, 40) := (hM.2 17 (by decide)).2
  have f43 : mF u m 43 = some (m + 30) := (hM.2 29 (by decide)).1
  have s43 : mS u (m + 30) = some (0, 40) := (hM.2 29 (by decide)).2
  have f45 : mF u m 45 = some (m + 32) := (hM.2 31 (by decide)).1
  have s45 : mS u (m + 32) = some (0, 40) := (hM.2 31 (by decide)).2
  have f46 : mF u m 46 = some (m + 33) := (hM.2 32 (by decide)).1
  have s46 : mS u (m + 33) = some (0, 40) := (hM.2 32 (by decide)).2
  have f47 : mF u m 47 = some (m + 34) := (hM.2 33 (by decide)).1
  have s47 : mS u (m + 34) = some (0, 40) := (hM.2 33 (by decide)).2
  have z33 : u2 g m 39 (c : Int) (m + 33) c = (b : Int) := by rw [u2_ne (by omega)]; exact hbs
  have z30 : u2 g m 39 (c : Int) (m + 30) c = ki := by rw [u2_ne (by omega)]; exact hki
  change Ef P _ 126 0 [some (vR m), some (vI (c : Int)), none, none, none] [] _ _
  refine ef_aload_n (pc := 0) d126_0 rfl ?_
  refine eg_getR (pc := 1) d126_1 lf_8_104 (by assumption) (by decide) (by assumption) ?_
  refine ef_iload_n (pc := 4) d126_4 rfl ?_
  refine eg_iald (pc := 5) d126_5 (i := c) (by assumption) (rfl) (by omega) ?_
  rw [hnx]
  refine ef_istore_n (pc := 6) d126_6 (ls' := [_, _, _, _, _]) rfl ?_
  refine ef_iload_n (pc := 7) d126_7 rfl ?_
  refine ef_if_geF (pc := 8) d126_8 (t := 49) rfl (by decide) ?_
  refine ef_aload_n (pc := 11) d126_11 rfl ?_
  refine ef_dup (pc := 12) d126_12 rfl ?_
  refine eg_getI (pc := 13) d126_13 lf_8_245 (by assumption) (by decide) ?_
  rw [hc]
  refine ef_iconst (pc := 16) d126_16 (by decide) ?_
  refine ef_isub (pc := 17) d126_17 (z := (c : Int)) (by omega) ⟨by omega, by omega⟩ ?_
  refine eg_putI (pc := 18) d126_18 pf_126_245 (by assumption) (by decide) ?_
  refine ef_aload_n (pc := 21) d126_21 rfl ?_
  refine ef_aload_n (pc := 22) d126_22 rfl ?_
  refine eg_getR (pc := 23) d126_23 lf_8_107 (by assumption) (by decide) (by assumption) ?_
  refine ef_iload_n (pc := 26) d126_26 rfl ?_
  refine eg_iald (pc := 27) d126_27 (i := c) (by assumption) (rfl) (by omega) ?_
  rw [z33]
  refine ef_aload_n (pc := 28) d126_28 rfl ?_
  refine eg_getR (pc := 29) d126_29 lf_8_98 (by assumption) (by decide) (by assumption) ?_
  refine ef_iload_n (pc := 32) d126_32 rfl ?_
  refine eg_iald (pc := 33) d126_33 (i := c) (by assumption) (rfl) (by omega) ?_
  rw [z30]
  refine ef_iconst (pc := 34) d126_34 (by decide) ?_
  refine ef_icmp_ne (pc := 35) d126_35 (t := 43) rfl (fun h35 => ?_) (fun h35 => ?_)
  · have hb : br = 91 := by omega
    subst hb
    refine ef_bipush (pc := 43) d126_43 (by decide) ?_
    refine ef_callV (pc := 45) d126_45 lm_8_283 (as := [_, _]) rfl rfl (by assumption) rfl rfl (by decide) (Nat.le_of_ble_eq_true rfl) rfl (Nat.le_of_ble_eq_true rfl) ?_
    refine Ec.imp (c123 (d := d) (st := st) hM (by omega) hWl (by rw [u2_ni (by decide)]; exact h30) (by rw [u2_ne (by omega)]; exact hW) (by rw [u2_ni (by decide)]; exact hs) hs2 (fun i p hp => by rw [u2_ne (by omega), u2_ne (by omega)]; exact hQ i p hp) hst hst0 (fun h => by rw [u2_ne (by omega), u2_ne (by omega)]; exact hst1 h)) ?_
    rintro r45 u45 ⟨g2, rfl, rfl, d2, s2, p2, q2, a2, b2⟩
    refine ef_vret (pc := 48) d126_48 rfl ?_
    refine ⟨g2, rfl, rfl, d2, s2, fun h => ?_, q2, fun a h1 h2 h3 h4 h5 => by rw [a2 a h1 h2 h3 h4 h5, u2_ne h1], by rw [b2 39 (by decide) (by decide) (by decide) (by decide), u2_at], fun f h1 h2 h3 h4 h5 => by rw [b2 f h1 h2 h3 h5, u2_ni h4]⟩
    obtain ⟨i1, i2, i3, i4⟩ := p2 h
    refine ⟨fun i hi => by rw [i1 i hi, u2_ne (by omega)], fun i hi => by rw [i2 i hi, u2_ne (by omega)], fun hle => by rw [i3 hle, u2_ne (by omega)], by rw [i4, u2_ni (by decide)]⟩
  · have hb : br = 40 := by omega
    subst hb
    refine ef_bipush (pc := 38) d126_38 (by decide) ?_
    refine ef_goto (pc := 40) d126_40 (t := 45) rfl ?_
    refine ef_callV (pc := 45) d126_45 lm_8_283 (as := [_, _]) rfl rfl (by assumption) rfl rfl (by decide) (Nat.le_of_ble_eq_true rfl) rfl (Nat.le_of_ble_eq_true rfl) ?_
    refine Ec.imp (c123 (d := d) (st := st) hM (by omega) hWl (by rw [u2_ni (by decide)]; exact h30) (by rw [u2_ne (by omega)]; exact hW) (by rw [u2_ni (by decide)]; exact hs) hs2 (fun i p hp => by rw [u2_ne (by omega), u2_ne (by omega)]; exact hQ i p hp) hst hst0 (fun h => by rw [u2_ne (by omega), u2_ne (by omega)]; exact hst1 h)) ?_
    rintro r45 u45 ⟨g2, rfl, rfl, d2, s2, p2, q2, a2, b2⟩
    refine ef_vret (pc := 48) d126_48 rfl ?_
    refine ⟨g2, rfl, rfl, d2, s2, fun h => ?_, q2, fun a h1 h2 h3 h4 h5 => by rw [a2 a h1 h2 h3 h4 h5, u2_ne h1], by rw [b2 39 (by decide) (by decide) (by decide) (by decide), u2_at], fun f h1 h2 h3 h4 h5 => by rw [b2 f h1 h2 h3 h5, u2_ni h4]⟩
    obtain ⟨i1, i2, i3, i4⟩ := p2 h
    refine ⟨fun i hi => by rw [i1 i hi, u2_ne (by omega)], fun i hi => by rw [i2 i hi, u2_ne (by omega)], fun hle => by rw [i3 hle, u2_ne (by omega)], by rw [i4, u2_ni (by decide)]⟩
