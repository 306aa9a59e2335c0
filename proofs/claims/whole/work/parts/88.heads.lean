/-! The model: heads of guards, comparing, copying. Written by wip/whole/gen/c88.py. -/
def mkF (kd nm : Nat → Int) (n : Nat) (k : Int) : Int := if kd n = 3 then bI (fun x y => x ||| y) k (bI (fun x y => x <<< (y &&& 31)) 1 (nmM (nm n) - 6)) else k
def mH (kd nm rp : Nat → Int) (n : Nat) (l k : Int) : List Int := (if rp n = 0 then [] else [33]) ++ [sgnC (kd n), (if kd n = 3 then loF (nmM (nm n)) else nmX (nmM (nm n)) l k), 46]
theorem mH_len {kd nm rp : Nat → Int} {n : Nat} {l k : Int} : 3 ≤ (mH kd nm rp n l k).length ∧ (mH kd nm rp n l k).length ≤ 4 := by
  unfold mH
  rw [List.length_append]
  split <;> simp
theorem c120 {P : Pg} {d : Nat} {u : Mm} {g : Nat → Nat → Int} {m : Nat} {W : List Int} {s c n sz : Nat} {l k : Int} {kd nm rp en : Nat → Int} {ht : Nat → Nat} (hM : MdA u m) (hT : TmOk kd nm en sz ht) (hTr : TrR g m kd nm rp en sz) (hn : n < sz) (hk3 : kd n ≤ 3) (hW : DQ g m W) (hf : g m 30 = 0) (hs : g m 38 = (s : Int)) (hs2 : s < 119) (hc : g m 39 = (c : Int)) (hc2 : c < 40) : Ec P (d + 3) 120 [vR m, vI (n : Int), vI l, vI k] (sI u g) (fun x u' => ∃ g', u' = sI u g' ∧ x = .inl none ∧ DQ g' m (W ++ mH kd nm rp n l k) ∧ g' m 38 = ((s + 1 : Nat) : Int) ∧ g' m 39 = ((c + 1 : Nat) : Int) ∧ g' (m + 28) = u1 (g (m + 28)) s (W.length : Int) ∧ (∃ z, g' (m + 42) = u1 (g (m + 42)) s z ∧ (W.length + (mH kd nm rp n l k).length ≤ 640 → z = ((mH kd nm rp n l k).length : Int))) ∧ g' (m + 30) = u1 (g (m + 30)) c 1 ∧ g' (m + 31) = u1 (g (m + 31)) c (n : Int) ∧ g' (m + 32) = u1 (g (m + 32)) c (if n + 1 < afF en n then ((n + 1 : Nat) : Int) else -1) ∧ g' (m + 33) = u1 (g (m + 33)) c ((s + 1 : Nat) : Int) ∧ g' (m + 34) = u1 (g (m + 34)) c (mkF kd nm n k) ∧ (∀ a, a ≠ m → a ≠ m + 27 → a ≠ m + 28 → (a < m + 30 ∨ m + 34 < a) → a ≠ m + 42 → g' a = g a) ∧ (∀ f, f ≠ 30 → f ≠ 37 → f ≠ 38 → f ≠ 39 → g' m f = g m f)) := by
  have s0 := hM.1
  have f8 : mF u m 8 = some (m + 3) := (hM.2 2 (by decide)).1
  have s8 : mS u (m + 3) = some (0, 51) := (hM.2 2 (by decide)).2
  have f9 : mF u m 9 = some (m + 4) := (hM.2 3 (by decide)).1
  have s9 : mS u (m + 4) = some (2, 51) := (hM.2 3 (by decide)).2
  have f10 : mF u m 10 = some (m + 5) := (hM.2 4 (by decide)).1
  have s10 : mS u (m + 5) = some (0, 51) := (hM.2 4 (by decide)).2
  have f11 : mF u m 11 = some (m + 6) := (hM.2 5 (by decide)).1
  have s11 : mS u (m + 6) = some (0, 51) := (hM.2 5 (by decide)).2
  have hu : W.length ≤ 640 ∧ g m 37 = (W.length : Int) := by
    rcases hW with ⟨w1, w2, w3, -⟩ | ⟨-, w2, -⟩
    · exact ⟨w1, w3⟩
    · omega
  obtain ⟨t1, t2, t3, t4, t5, t6⟩ := hTr.1 n hn
  obtain ⟨y1, y2, y3, y4, y5, y6⟩ := hT.2.2 n hn
  have h50 := hT.1.1
  have tk := kdM_inj (a := kd n) y3 y4
  have hnmr := nmM_rg y5
  have fin : ∀ (g1 : Nat → Nat → Int) (a1 : Int), DQ g1 m (W ++ mH kd nm rp n l k) → (∀ a, a ≠ m → a ≠ m + 27 → g1 a = u2 (u2 g (m + 28) s (g m 37)) m 38 ((s + 1 : Nat) : Int) a) → (∀ f, f ≠ 30 → f ≠ 37 → g1 m f = u2 (u2 g (m + 28) s (g m 37)) m 38 ((s + 1 : Nat) : Int) m f) → Ef P (d + 3) 120 111 [some (vR m), some (vI (n : Int)), some (vI l), some (vI k)] [] (sI u g1) (fun x u' => ∃ g', u' = sI u g' ∧ x = .inl none ∧ DQ g' m (W ++ mH kd nm rp n l k) ∧ g' m 38 = ((s + 1 : Nat) : Int) ∧ g' m 39 = ((c + 1 : Nat) : Int) ∧ g' (m + 28) = u1 (g (m + 28)) s (W.length : Int) ∧ (∃ z, g' (m + 42) = u1 (g (m + 42)) s z ∧ (W.length + (mH kd nm rp n l k).length ≤ 640 → z = ((mH kd nm rp n l k).length : Int))) ∧ g' (m + 30) = u1 (g (m + 30)) c 1 ∧ g' (m + 31) = u1 (g (m + 31)) c (n : Int) ∧ g' (m + 32) = u1 (g (m + 32)) c (if n + 1 < afF en n then ((n + 1 : Nat) : Int) else -1) ∧ g' (m + 33) = u1 (g (m + 33)) c ((s + 1 : Nat) : Int) ∧ g' (m + 34) = u1 (g (m + 34)) c (mkF kd nm n k) ∧ (∀ a, a ≠ m → a ≠ m + 27 → a ≠ m + 28 → (a < m + 30 ∨ m + 34 < a) → a ≠ m + 42 → g' a = g a) ∧ (∀ f, f ≠ 30 → f ≠ 37 → f ≠ 38 → f ≠ 39 → g' m f = g m f)) := by
    intro g1 _ d1 a1 b1
    have s1 : g1 m 38 = ((s + 1 : Nat) : Int) := by rw [b1 38 (by decide) (by decide), u2_at]
    have c1 : g1 m 39 = (c : Int) := by rw [b1 39 (by decide) (by decide), u2_ni (by omega), u2_ne (by omega)]; exact hc
    have f1 : g1 (m + 28) = u1 (g (m + 28)) s (W.length : Int) := by rw [a1 _ (by omega) (by omega), u2_ne (by omega), u2_eq, hu.2]
    have f1s : g1 (m + 28) s = (W.length : Int) := by rw [f1, u1_eq]
    obtain ⟨-, nu, hnu, hnu2⟩ := d1.used
    have hin : inR (g1 m 37 - g1 (m + 28) s) := by rw [hnu2, f1s]; unfold inR; omega
    have o1 : ∀ a, a ≠ m → a ≠ m + 27 → a ≠ m + 28 → g1 a = g a := fun a h1 h2 h3 => by rw [a1 a h1 h2, u2_ne h1, u2_ne h3]
    have e6 : g1 (m + 6) n = (if n + 1 < afF en n then ((n + 1 : Nat) : Int) else -1) := by rw [o1 _ (by omega) (by omega) (by omega)]; exact t5
    have e3 : g1 (m + 3) n = kdM (kd n) := by rw [o1 _ (by omega) (by omega) (by omega)]; exact t1
    have e5 : g1 (m + 5) n = nmM (nm n) := by rw [o1 _ (by omega) (by omega) (by omega)]; exact t2
    refine ef_aload_n (pc := 111) d120_111 rfl ?_
    refine ef_callV (pc := 112) d120_112 lm_8_267 (as := []) rfl rfl (by assumption) rfl rfl (by decide) (Nat.le_of_ble_eq_true rfl) rfl (Nat.le_of_ble_eq_true rfl) ?_
    refine Ec.imp (c119 hM s1 hs2 hin) ?_
    rintro r112 u112 ⟨rfl, rfl⟩
    have c1b : u2 g1 (m + 42) s (g1 m 37 - g1 (m + 28) s) m 39 = (c : Int) := by rw [u2_ne (by omega)]; exact c1
    refine ef_aload_n (pc := 115) d120_115 rfl ?_
    refine ef_iconst (pc := 116) d120_116 (by decide) ?_
    refine ef_iload_n (pc := 117) d120_117 rfl ?_
    refine ef_aload_n (pc := 118) d120_118 rfl ?_
    refine eg_getR (pc := 119) d120_119 lf_8_26 (by assumption) (by decide) (by assumption) ?_
    refine ef_iload_n (pc := 122) d120_122 rfl ?_
    refine eg_iald (pc := 123) d120_123 (i := n) (by assumption) (rfl) (by omega) ?_
    rw [u2_ne (by omega), e6]
    refine ef_aload_n (pc := 124) d120_124 rfl ?_
    refine eg_getR (pc := 125) d120_125 lf_8_16 (by assumption) (by decide) (by assumption) ?_
    refine ef_iload_n (pc := 128) d120_128 rfl ?_
    refine eg_iald (pc := 129) d120_129 (i := n) (by assumption) (rfl) (by omega) ?_
    rw [u2_ne (by omega), e3]
    refine ef_iconst (pc := 130) d120_130 (by decide) ?_
    refine ef_icmp_ne (pc := 131) d120_131 (t := 150) rfl (fun h131 => ?_) (fun h131 => ?_)
    · have hmk : k = mkF kd nm n k := by unfold mkF; rw [if_neg (fun hh => h131 (tk.1.mpr hh))]
      refine ef_iload_n (pc := 150) d120_150 rfl ?_
      refine ef_callV (pc := 151) d120_151 lm_8_270 (as := [_, _, _, _]) rfl rfl (by assumption) rfl rfl (by decide) (Nat.le_of_ble_eq_true rfl) rfl (Nat.le_of_ble_eq_true rfl) ?_
      refine Ec.imp (c114 hM c1b hc2) ?_
      rintro r151 u151 ⟨rfl, rfl⟩
      refine ef_vret (pc := 154) d120_154 rfl ?_
      refine ⟨_, rfl, rfl, d1.of ?_ ?_ ?_, ?_, ?_, ?_, ⟨g1 m 37 - g1 (m + 28) s, ?_, ?_⟩, ?_, ?_, ?_, ?_, ?_, ?_, ?_⟩
      · simp (disch := omega) only [u2_ne, u2_ni]
      · simp (disch := omega) only [u2_ne, u2_ni]
      · simp (disch := omega) only [u2_ne]
      · simp (disch := omega) only [u2_ne, u2_ni]; exact s1
      · rw [u2_at]
      · simp (disch := omega) only [u2_ne]; exact f1
      · simp (disch := omega) only [u2_ne, u2_eq]; rw [o1 _ (by omega) (by omega) (by omega)]
      · intro hle
        rw [hnu2, f1s]
        rcases d1 with ⟨w1, w2, w3, -⟩ | ⟨w1, -⟩
        · rw [hnu2, List.length_append] at w3; omega
        · rw [List.length_append] at w1; omega
      · simp (disch := omega) only [u2_ne, u2_eq]; rw [o1 _ (by omega) (by omega) (by omega)]
      · simp (disch := omega) only [u2_ne, u2_eq]; rw [o1 _ (by omega) (by omega) (by omega)]
      · simp (disch := omega) only [u2_ne, u2_eq]; rw [o1 _ (by omega) (by omega) (by omega)]
      · simp (disch := omega) only [u2_ne, u2_eq]; rw [o1 _ (by omega) (by omega) (by omega), s1]
      · simp (disch := omega) only [u2_ne, u2_eq]; rw [o1 _ (by omega) (by omega) (by omega)]; exact congrArg (u1 (g (m + 34)) c) hmk
      · intro a h1 h2 h3 h4 h5; simp (disch := omega) only [u2_ne]; exact o1 a h1 h2 h3
      · intro f h1 h2 h3 h4; simp (disch := omega) only [u2_ne, u2_ni]; rw [b1 f h1 h2, u2_ni h3, u2_ne (by omega)]
    · have hmk : bI (fun x y => x ||| y) k (bI (fun x y => x <<< (y &&& 31)) 1 (nmM (nm n) - 6)) = mkF kd nm n k := by unfold mkF; rw [if_pos (tk.1.mp h131)]
      refine ef_iload_n (pc := 134) d120_134 rfl ?_
      refine ef_iconst (pc := 135) d120_135 (by decide) ?_
      refine ef_aload_n (pc := 136) d120_136 rfl ?_
      refine eg_getR (pc := 137) d120_137 lf_8_23 (by assumption) (by decide) (by assumption) ?_
      refine ef_iload_n (pc := 140) d120_140 rfl ?_
      refine eg_iald (pc := 141) d120_141 (i := n) (by assumption) (rfl) (by omega) ?_
      rw [u2_ne (by omega), e5]
      refine ef_bipush (pc := 142) d120_142 (by decide) ?_
      refine ef_isub (pc := 144) d120_144 rfl ⟨by omega, by omega⟩ ?_
      refine ef_ishl (pc := 145) d120_145 rfl ?_
      refine ef_ior (pc := 146) d120_146 rfl ?_
      refine ef_goto (pc := 147) d120_147 (t := 151) rfl ?_
      refine ef_callV (pc := 151) d120_151 lm_8_270 (as := [_, _, _, _]) rfl rfl (by assumption) rfl rfl (by decide) (Nat.le_of_ble_eq_true rfl) rfl (Nat.le_of_ble_eq_true rfl) ?_
      refine Ec.imp (c114 hM c1b hc2) ?_
      rintro r151 u151 ⟨rfl, rfl⟩
      refine ef_vret (pc := 154) d120_154 rfl ?_
      refine ⟨_, rfl, rfl, d1.of ?_ ?_ ?_, ?_, ?_, ?_, ⟨g1 m 37 - g1 (m + 28) s, ?_, ?_⟩, ?_, ?_, ?_, ?_, ?_, ?_, ?_⟩
      · simp (disch := omega) only [u2_ne, u2_ni]
      · simp (disch := omega) only [u2_ne, u2_ni]
      · simp (disch := omega) only [u2_ne]
      · simp (disch := omega) only [u2_ne, u2_ni]; exact s1
      · rw [u2_at]
      · simp (disch := omega) only [u2_ne]; exact f1
      · simp (disch := omega) only [u2_ne, u2_eq]; rw [o1 _ (by omega) (by omega) (by omega)]
      · intro hle
        rw [hnu2, f1s]
        rcases d1 with ⟨w1, w2, w3, -⟩ | ⟨w1, -⟩
        · rw [hnu2, List.length_append] at w3; omega
        · rw [List.length_append] at w1; omega
      · simp (disch := omega) only [u2_ne, u2_eq]; rw [o1 _ (by omega) (by omega) (by omega)]
      · simp (disch := omega) only [u2_ne, u2_eq]; rw [o1 _ (by omega) (by omega) (by omega)]
      · simp (disch := omega) only [u2_ne, u2_eq]; rw [o1 _ (by omega) (by omega) (by omega)]
      · simp (disch := omega) only [u2_ne, u2_eq]; rw [o1 _ (by omega) (by omega) (by omega), s1]
      · simp (disch := omega) only [u2_ne, u2_eq]; rw [o1 _ (by omega) (by omega) (by omega)]; exact congrArg (u1 (g (m + 34)) c) hmk
      · intro a h1 h2 h3 h4 h5; simp (disch := omega) only [u2_ne]; exact o1 a h1 h2 h3
      · intro f h1 h2 h3 h4; simp (disch := omega) only [u2_ne, u2_ni]; rw [b1 f h1 h2, u2_ni h3, u2_ne (by omega)]
  have sign : ∀ (g1 : Nat → Nat → Int) (X : List Int), X = (if rp n = 0 then [] else [33]) → DQ g1 m (W ++ X) → (∀ a, a ≠ m → a ≠ m + 27 → g1 a = u2 (u2 g (m + 28) s (g m 37)) m 38 ((s + 1 : Nat) : Int) a) → (∀ f, f ≠ 30 → f ≠ 37 → g1 m f = u2 (u2 g (m + 28) s (g m 37)) m 38 ((s + 1 : Nat) : Int) m f) → Ef P (d + 3) 120 19 [some (vR m), some (vI (n : Int)), some (vI l), some (vI k)] [] (sI u g1) (fun x u' => ∃ g', u' = sI u g' ∧ x = .inl none ∧ DQ g' m (W ++ mH kd nm rp n l k) ∧ g' m 38 = ((s + 1 : Nat) : Int) ∧ g' m 39 = ((c + 1 : Nat) : Int) ∧ g' (m + 28) = u1 (g (m + 28)) s (W.length : Int) ∧ (∃ z, g' (m + 42) = u1 (g (m + 42)) s z ∧ (W.length + (mH kd nm rp n l k).length ≤ 640 → z = ((mH kd nm rp n l k).length : Int))) ∧ g' (m + 30) = u1 (g (m + 30)) c 1 ∧ g' (m + 31) = u1 (g (m + 31)) c (n : Int) ∧ g' (m + 32) = u1 (g (m + 32)) c (if n + 1 < afF en n then ((n + 1 : Nat) : Int) else -1) ∧ g' (m + 33) = u1 (g (m + 33)) c ((s + 1 : Nat) : Int) ∧ g' (m + 34) = u1 (g (m + 34)) c (mkF kd nm n k) ∧ (∀ a, a ≠ m → a ≠ m + 27 → a ≠ m + 28 → (a < m + 30 ∨ m + 34 < a) → a ≠ m + 42 → g' a = g a) ∧ (∀ f, f ≠ 30 → f ≠ 37 → f ≠ 38 → f ≠ 39 → g' m f = g m f)) := by
    intro g1 X hX d1 a1 b1
    have o1 : ∀ a, a ≠ m → a ≠ m + 27 → a ≠ m + 28 → g1 a = g a := fun a h1 h2 h3 => by rw [a1 a h1 h2, u2_ne h1, u2_ne h3]
    have e3 : g1 (m + 3) n = kdM (kd n) := by rw [o1 _ (by omega) (by omega) (by omega)]; exact t1
    have rest : ∀ z, z = sgnC (kd n) → Ef P (d + 3) 120 67 [some (vR m), some (vI (n : Int)), some (vI l), some (vI k)] [vI z, vR m] (sI u g1) (fun x u' => ∃ g', u' = sI u g' ∧ x = .inl none ∧ DQ g' m (W ++ mH kd nm rp n l k) ∧ g' m 38 = ((s + 1 : Nat) : Int) ∧ g' m 39 = ((c + 1 : Nat) : Int) ∧ g' (m + 28) = u1 (g (m + 28)) s (W.length : Int) ∧ (∃ z, g' (m + 42) = u1 (g (m + 42)) s z ∧ (W.length + (mH kd nm rp n l k).length ≤ 640 → z = ((mH kd nm rp n l k).length : Int))) ∧ g' (m + 30) = u1 (g (m + 30)) c 1 ∧ g' (m + 31) = u1 (g (m + 31)) c (n : Int) ∧ g' (m + 32) = u1 (g (m + 32)) c (if n + 1 < afF en n then ((n + 1 : Nat) : Int) else -1) ∧ g' (m + 33) = u1 (g (m + 33)) c ((s + 1 : Nat) : Int) ∧ g' (m + 34) = u1 (g (m + 34)) c (mkF kd nm n k) ∧ (∀ a, a ≠ m → a ≠ m + 27 → a ≠ m + 28 → (a < m + 30 ∨ m + 34 < a) → a ≠ m + 42 → g' a = g a) ∧ (∀ f, f ≠ 30 → f ≠ 37 → f ≠ 38 → f ≠ 39 → g' m f = g m f)) := by
      intro z hz
      refine ef_callV (pc := 67) d120_67 lm_8_242 (as := [_]) rfl rfl (by assumption) rfl rfl (by decide) (Nat.le_of_ble_eq_true rfl) rfl (Nat.le_of_ble_eq_true rfl) ?_
      refine Ec.imp (c118 hM d1) ?_
      rintro r67 u67 ⟨g2, rfl, rfl, d2, a2, b2⟩
      have e3b : g2 (m + 3) n = kdM (kd n) := by rw [a2 _ (by omega) (by omega)]; exact e3
      have e5b : g2 (m + 5) n = nmM (nm n) := by rw [a2 _ (by omega) (by omega), o1 _ (by omega) (by omega) (by omega)]; exact t2
      refine ef_aload_n (pc := 70) d120_70 rfl ?_
      refine eg_getR (pc := 71) d120_71 lf_8_16 (by assumption) (by decide) (by assumption) ?_
      refine ef_iload_n (pc := 74) d120_74 rfl ?_
      refine eg_iald (pc := 75) d120_75 (i := n) (by assumption) (rfl) (by omega) ?_
      try simp (disch := omega) only [u2_ne, u2_at, u2_ni, ur_ne, ur_eq]
      rw [e3b]
      refine ef_iconst (pc := 76) d120_76 (by decide) ?_
      refine ef_icmp_ne (pc := 77) d120_77 (t := 93) rfl (fun h77 => ?_) (fun h77 => ?_)
      · refine ef_aload_n (pc := 93) d120_93 rfl ?_
        refine ef_aload_n (pc := 94) d120_94 rfl ?_
        refine eg_getR (pc := 95) d120_95 lf_8_23 (by assumption) (by decide) (by assumption) ?_
        refine ef_iload_n (pc := 98) d120_98 rfl ?_
        refine eg_iald (pc := 99) d120_99 (i := n) (by assumption) (rfl) (by omega) ?_
        try simp (disch := omega) only [u2_ne, u2_at, u2_ni, ur_ne, ur_eq]
        rw [e5b]
        refine ef_iload_n (pc := 100) d120_100 rfl ?_
        refine ef_iload_n (pc := 101) d120_101 rfl ?_
        refine ef_callV (pc := 102) d120_102 lm_8_264 (as := [_, _, _]) rfl rfl (by assumption) rfl rfl (by decide) (Nat.le_of_ble_eq_true rfl) rfl (Nat.le_of_ble_eq_true rfl) ?_
        refine Ec.imp (c121 (d := d) hM d2 (by omega) (by omega)) ?_
        rintro r102 u102 ⟨g3, rfl, rfl, d3, a3, b3⟩
        refine ef_aload_n (pc := 105) d120_105 rfl ?_
        refine ef_bipush (pc := 106) d120_106 (by decide) ?_
        refine ef_callV (pc := 108) d120_108 lm_8_242 (as := [_]) rfl rfl (by assumption) rfl rfl (by decide) (Nat.le_of_ble_eq_true rfl) rfl (Nat.le_of_ble_eq_true rfl) ?_
        refine Ec.imp (c118 hM d3) ?_
        rintro r108 u108 ⟨g4, rfl, rfl, d4, a4, b4⟩
        refine fin g4 0 ?_ (fun a h1 h2 => by rw [a4 a h1 h2, a3 a h1 h2, a2 a h1 h2]; exact a1 a h1 h2) (fun f h1 h2 => by rw [b4 f h1 h2, b3 f h1 h2, b2 f h1 h2]; exact b1 f h1 h2)
        have hh : W ++ mH kd nm rp n l k = W ++ X ++ [z] ++ [nmX (nmM (nm n)) l k] ++ [46] := by
          rw [hX, hz]
          unfold mH
          rw [if_neg (fun hh => h77 (tk.1.mpr hh))]
          simp only [List.append_assoc]
          rfl
        rw [hh]; exact d4
      · refine ef_aload_n (pc := 80) d120_80 rfl ?_
        refine ef_aload_n (pc := 81) d120_81 rfl ?_
        refine eg_getR (pc := 82) d120_82 lf_8_23 (by assumption) (by decide) (by assumption) ?_
        refine ef_iload_n (pc := 85) d120_85 rfl ?_
        refine eg_iald (pc := 86) d120_86 (i := n) (by assumption) (rfl) (by omega) ?_
        try simp (disch := omega) only [u2_ne, u2_at, u2_ni, ur_ne, ur_eq]
        rw [e5b]
        refine ef_callV (pc := 87) d120_87 lm_8_261 (as := [_]) rfl rfl (by assumption) rfl rfl (by decide) (Nat.le_of_ble_eq_true rfl) rfl (Nat.le_of_ble_eq_true rfl) ?_
        refine Ec.imp (c117 (d := d + 1) hM d2 (by omega) (by omega)) ?_
        rintro r87 u87 ⟨g3, rfl, rfl, d3, a3, b3⟩
        refine ef_goto (pc := 90) d120_90 (t := 105) rfl ?_
        refine ef_aload_n (pc := 105) d120_105 rfl ?_
        refine ef_bipush (pc := 106) d120_106 (by decide) ?_
        refine ef_callV (pc := 108) d120_108 lm_8_242 (as := [_]) rfl rfl (by assumption) rfl rfl (by decide) (Nat.le_of_ble_eq_true rfl) rfl (Nat.le_of_ble_eq_true rfl) ?_
        refine Ec.imp (c118 hM d3) ?_
        rintro r108 u108 ⟨g4, rfl, rfl, d4, a4, b4⟩
        refine fin g4 0 ?_ (fun a h1 h2 => by rw [a4 a h1 h2, a3 a h1 h2, a2 a h1 h2]; exact a1 a h1 h2) (fun f h1 h2 => by rw [b4 f h1 h2, b3 f h1 h2, b2 f h1 h2]; exact b1 f h1 h2)
        have hh : W ++ mH kd nm rp n l k = W ++ X ++ [z] ++ [loF (nmM (nm n))] ++ [46] := by
          rw [hX, hz]
          unfold mH
          rw [if_pos (tk.1.mp h77)]
          simp only [List.append_assoc]
          rfl
        rw [hh]; exact d4
    refine ef_aload_n (pc := 19) d120_19 rfl ?_
    refine ef_aload_n (pc := 20) d120_20 rfl ?_
    refine eg_getR (pc := 21) d120_21 lf_8_16 (by assumption) (by decide) (by assumption) ?_
    refine ef_iload_n (pc := 24) d120_24 rfl ?_
    refine eg_iald (pc := 25) d120_25 (i := n) (by assumption) (rfl) (by omega) ?_
    rw [e3]
    refine ef_iconst (pc := 26) d120_26 (by decide) ?_
    refine ef_icmp_ne (pc := 27) d120_27 (t := 35) rfl (fun h27 => ?_) (fun h27 => ?_)
    · refine ef_aload_n (pc := 35) d120_35 rfl ?_
      refine eg_getR (pc := 36) d120_36 lf_8_16 (by assumption) (by decide) (by assumption) ?_
      refine ef_iload_n (pc := 39) d120_39 rfl ?_
      refine eg_iald (pc := 40) d120_40 (i := n) (by assumption) (rfl) (by omega) ?_
      rw [e3]
      refine ef_iconst (pc := 41) d120_41 (by decide) ?_
      refine ef_icmp_ne (pc := 42) d120_42 (t := 50) rfl (fun h42 => ?_) (fun h42 => ?_)
      · refine ef_aload_n (pc := 50) d120_50 rfl ?_
        refine eg_getR (pc := 51) d120_51 lf_8_16 (by assumption) (by decide) (by assumption) ?_
        refine ef_iload_n (pc := 54) d120_54 rfl ?_
        refine eg_iald (pc := 55) d120_55 (i := n) (by assumption) (rfl) (by omega) ?_
        rw [e3]
        refine ef_iconst (pc := 56) d120_56 (by decide) ?_
        refine ef_icmp_ne (pc := 57) d120_57 (t := 65) rfl (fun h57 => ?_) (fun h57 => ?_)
        · have hq : kd n = 3 := by
            have q1 := mt tk.2.2.1.mpr h27
            have q2 := mt tk.2.2.2.1.mpr h42
            have q3 := mt tk.2.1.mpr h57
            omega
          refine ef_bipush (pc := 65) d120_65 (by decide) ?_
          exact rest _ (by rw [hq]; rfl)
        · have hq := tk.2.1.mp h57
          refine ef_bipush (pc := 60) d120_60 (by decide) ?_
          refine ef_goto (pc := 62) d120_62 (t := 67) rfl ?_
          exact rest _ (by rw [hq]; rfl)
      · have hq := tk.2.2.2.1.mp h42
        refine ef_bipush (pc := 45) d120_45 (by decide) ?_
        refine ef_goto (pc := 47) d120_47 (t := 67) rfl ?_
        exact rest _ (by rw [hq]; rfl)
    · have hq := tk.2.2.1.mp h27
      refine ef_bipush (pc := 30) d120_30 (by decide) ?_
      refine ef_goto (pc := 32) d120_32 (t := 67) rfl ?_
      exact rest _ (by rw [hq]; rfl)
  have w1 : DQ (u2 (u2 g (m + 28) s (g m 37)) m 38 ((s + 1 : Nat) : Int)) m W := hW.of (by rw [u2_ni (by omega), u2_ne (by omega)]) (by rw [u2_ni (by omega), u2_ne (by omega)]) (by rw [u2_ne (by omega), u2_ne (by omega)])
  have e4 : (u2 (u2 g (m + 28) s (g m 37)) m 38 ((s + 1 : Nat) : Int)) (m + 4) n = rp n := by rw [u2_ne (by omega), u2_ne (by omega)]; exact t3
  change Ef P _ 120 0 [some (vR m), some (vI (n : Int)), some (vI l), some (vI k)] [] _ _
  refine ef_aload_n (pc := 0) d120_0 rfl ?_
  refine ef_callV (pc := 1) d120_1 lm_8_258 (as := []) rfl rfl (by assumption) rfl rfl (by decide) (Nat.le_of_ble_eq_true rfl) rfl (Nat.le_of_ble_eq_true rfl) ?_
  refine Ec.imp (c116 hM hs hs2) ?_
  rintro r1 u1 ⟨rfl, rfl⟩
  refine ef_aload_n (pc := 4) d120_4 rfl ?_
  refine eg_getR (pc := 5) d120_5 lf_8_19 (by assumption) (by decide) (by assumption) ?_
  refine ef_iload_n (pc := 8) d120_8 rfl ?_
  refine eg_bald (pc := 9) d120_9 (i := n) (by assumption) (rfl) (by omega) ?_
  rw [e4]
  refine ef_if_eq (pc := 10) d120_10 (t := 19) rfl (fun h10 => ?_) (fun h10 => ?_)
  · first
    | exact sign g2 [33] (by rw [if_neg h10]) d2 a2 b2
    | exact sign _ [] (by rw [if_pos h10]) (by rw [List.append_nil]; exact w1) (fun a _ _ => rfl) (fun f _ _ => rfl)
  · refine ef_aload_n (pc := 13) d120_13 rfl ?_
    refine ef_bipush (pc := 14) d120_14 (by decide) ?_
    refine ef_callV (pc := 16) d120_16 lm_8_242 (as := [_]) rfl rfl (by assumption) rfl rfl (by decide) (Nat.le_of_ble_eq_true rfl) rfl (Nat.le_of_ble_eq_true rfl) ?_
    refine Ec.imp (c118 hM w1) ?_
    rintro r16 u16 ⟨g2, rfl, rfl, d2, a2, b2⟩
    first
    | exact sign g2 [33] (by rw [if_neg h10]) d2 a2 b2
    | exact sign _ [] (by rw [if_pos h10]) (by rw [List.append_nil]; exact w1) (fun a _ _ => rfl) (fun f _ _ => rfl)
def PcR (g : Nat → Nat → Int) (m b N : Nat) (L : List (Nat × Nat)) : Prop := ∀ (i : Nat) (p : Nat × Nat), L[i]? = some p → g (m + 28) (b + i) = (p.1 : Int) ∧ g (m + 29) (b + i) = ((p.2 - p.1 : Nat) : Int) ∧ p.1 ≤ p.2 ∧ p.2 ≤ N
theorem c124 {P : Pg} {d : Nat} {u : Mm} {g : Nat → Nat → Int} {m : Nat} {W : List Int} {i j : Nat} {p q : Nat × Nat} (hM : MdA u m) (hW : Row (g (m + 27)) W) (hWl : W.length ≤ 640) (hi : i < 119) (hj : j < 119) (p1 : g (m + 28) i = (p.1 : Int)) (p2 : g (m + 29) i = ((p.2 - p.1 : Nat) : Int)) (p3 : p.1 ≤ p.2) (p4 : p.2 ≤ W.length) (q1 : g (m + 28) j = (q.1 : Int)) (q2 : g (m + 29) j = ((q.2 - q.1 : Nat) : Int)) (q3 : q.1 ≤ q.2) (q4 : q.2 ≤ W.length) : Ec P d 124 [vR m, vI (i : Int), vI (j : Int)] (sI u g) (fun x u' => u' = sI u g ∧ x = .inl (some (vI (b01 (lexL (sub W p) (sub W q)))))) := by
  have s0 := hM.1
  have f40 : mF u m 40 = some (m + 27) := (hM.2 26 (by decide)).1
  have s40 : mS u (m + 27) = some (0, 900) := (hM.2 26 (by decide)).2
  have f41 : mF u m 41 = some (m + 28) := (hM.2 27 (by decide)).1
  have s41 : mS u (m + 28) = some (0, 120) := (hM.2 27 (by decide)).2
  have f42 : mF u m 42 = some (m + 29) := (hM.2 28 (by decide)).1
  have s42 : mS u (m + 29) = some (0, 120) := (hM.2 28 (by decide)).2
  have lp := sub_len (W := W) (p := p) p4
  have lq := sub_len (W := W) (p := q) q4
  have loop : ∀ F k, k + F = 1000 → k ≤ p.2 - p.1 → k ≤ q.2 - q.1 → lexL (sub W p) (sub W q) = lexL ((sub W p).drop k) ((sub W q).drop k) → ∀ v4 v5, Ef P d 124 2 [some (vR m), some (vI (i : Int)), some (vI (j : Int)), some (vI (k : Int)), v4, v5] [] (sI u g) (fun x u' => u' = sI u g ∧ x = .inl (some (vI (b01 (lexL (sub W p) (sub W q)))))) := by
    intro F
    induction F with
    | zero => intro k hk h1; omega
    | succ F ih =>
      intro k hk h1 h2 hl v4 v5
      refine ef_iload_n (pc := 2) d124_2 rfl ?_
      refine ef_aload_n (pc := 3) d124_3 rfl ?_
      refine eg_getR (pc := 4) d124_4 lf_8_95 (by assumption) (by decide) (by assumption) ?_
      refine ef_iload_n (pc := 7) d124_7 rfl ?_
      refine eg_iald (pc := 8) d124_8 (i := i) (by assumption) (rfl) (by omega) ?_
      rw [p2]
      refine ef_icmp_ge (pc := 9) d124_9 (t := 78) rfl (fun h9 => ?_) (fun h9 => ?_)
      · have hend : lexL (sub W p) (sub W q) = decide (p.2 - p.1 < q.2 - q.1) := by
          rw [hl]
          by_cases hc : p.2 - p.1 ≤ k
          · rw [List.drop_eq_nil_of_le (by omega)]
            cases hd : (sub W q).drop k with
            | nil =>
              have := congrArg List.length hd
              rw [List.length_drop, lq] at this
              simp only [List.length_nil] at this
              rw [decide_eq_false (by omega)]; rfl
            | cons y l =>
              have := congrArg List.length hd
              rw [List.length_drop, lq] at this
              simp only [List.length_cons] at this
              rw [decide_eq_true (by omega)]; rfl
          · rw [List.drop_eq_nil_of_le (as := sub W q) (by omega), lexL_nil, decide_eq_false (by omega)]
        rw [hend]
        refine ef_aload_n (pc := 78) d124_78 rfl ?_
        refine eg_getR (pc := 79) d124_79 lf_8_95 (by assumption) (by decide) (by assumption) ?_
        refine ef_iload_n (pc := 82) d124_82 rfl ?_
        refine eg_iald (pc := 83) d124_83 (i := i) (by assumption) (rfl) (by omega) ?_
        rw [p2]
        refine ef_aload_n (pc := 84) d124_84 rfl ?_
        refine eg_getR (pc := 85) d124_85 lf_8_95 (by assumption) (by decide) (by assumption) ?_
        refine ef_iload_n (pc := 88) d124_88 rfl ?_
        refine eg_iald (pc := 89) d124_89 (i := j) (by assumption) (rfl) (by omega) ?_
        rw [q2]
        refine ef_icmp_ge (pc := 90) d124_90 (t := 97) rfl (fun h90 => ?_) (fun h90 => ?_)
        · rw [decide_eq_false (by omega)]
          refine ef_iconst (pc := 97) d124_97 (by decide) ?_
          refine ef_zret (pc := 98) d124_98 rfl (by omega) ?_
          exact ⟨rfl, rfl⟩
        · rw [decide_eq_true (by omega)]
          refine ef_iconst (pc := 93) d124_93 (by decide) ?_
          refine ef_goto (pc := 94) d124_94 (t := 98) rfl ?_
          refine ef_zret (pc := 98) d124_98 rfl (by omega) ?_
          exact ⟨rfl, rfl⟩
      · refine ef_iload_n (pc := 12) d124_12 rfl ?_
        refine ef_aload_n (pc := 13) d124_13 rfl ?_
        refine eg_getR (pc := 14) d124_14 lf_8_95 (by assumption) (by decide) (by assumption) ?_
        refine ef_iload_n (pc := 17) d124_17 rfl ?_
        refine eg_iald (pc := 18) d124_18 (i := j) (by assumption) (rfl) (by omega) ?_
        rw [q2]
        refine ef_icmp_ge (pc := 19) d124_19 (t := 78) rfl (fun h19 => ?_) (fun h19 => ?_)
        · have hend : lexL (sub W p) (sub W q) = decide (p.2 - p.1 < q.2 - q.1) := by
            rw [hl]
            by_cases hc : p.2 - p.1 ≤ k
            · rw [List.drop_eq_nil_of_le (by omega)]
              cases hd : (sub W q).drop k with
              | nil =>
                have := congrArg List.length hd
                rw [List.length_drop, lq] at this
                simp only [List.length_nil] at this
                rw [decide_eq_false (by omega)]; rfl
              | cons y l =>
                have := congrArg List.length hd
                rw [List.length_drop, lq] at this
                simp only [List.length_cons] at this
                rw [decide_eq_true (by omega)]; rfl
            · rw [List.drop_eq_nil_of_le (as := sub W q) (by omega), lexL_nil, decide_eq_false (by omega)]
          rw [hend]
          refine ef_aload_n (pc := 78) d124_78 rfl ?_
          refine eg_getR (pc := 79) d124_79 lf_8_95 (by assumption) (by decide) (by assumption) ?_
          refine ef_iload_n (pc := 82) d124_82 rfl ?_
          refine eg_iald (pc := 83) d124_83 (i := i) (by assumption) (rfl) (by omega) ?_
          rw [p2]
          refine ef_aload_n (pc := 84) d124_84 rfl ?_
          refine eg_getR (pc := 85) d124_85 lf_8_95 (by assumption) (by decide) (by assumption) ?_
          refine ef_iload_n (pc := 88) d124_88 rfl ?_
          refine eg_iald (pc := 89) d124_89 (i := j) (by assumption) (rfl) (by omega) ?_
          rw [q2]
          refine ef_icmp_ge (pc := 90) d124_90 (t := 97) rfl (fun h90 => ?_) (fun h90 => ?_)
          · rw [decide_eq_false (by omega)]
            refine ef_iconst (pc := 97) d124_97 (by decide) ?_
            refine ef_zret (pc := 98) d124_98 rfl (by omega) ?_
            exact ⟨rfl, rfl⟩
          · rw [decide_eq_true (by omega)]
            refine ef_iconst (pc := 93) d124_93 (by decide) ?_
            refine ef_goto (pc := 94) d124_94 (t := 98) rfl ?_
            refine ef_zret (pc := 98) d124_98 rfl (by omega) ?_
            exact ⟨rfl, rfl⟩
        · obtain ⟨x, hx, hdx⟩ := get_of_lt (L := sub W p) (i := k) (by omega)
          obtain ⟨y, hy, hdy⟩ := get_of_lt (L := sub W q) (i := k) (by omega)
          have vx := hW (p.1 + k) x (by rw [← sub_get (by omega)]; exact hx)
          have vy := hW (q.1 + k) y (by rw [← sub_get (by omega)]; exact hy)
          rw [hdx, hdy, lexL] at hl
          refine ef_aload_n (pc := 22) d124_22 rfl ?_
          refine eg_getR (pc := 23) d124_23 lf_8_89 (by assumption) (by decide) (by assumption) ?_
          refine ef_aload_n (pc := 26) d124_26 rfl ?_
          refine eg_getR (pc := 27) d124_27 lf_8_92 (by assumption) (by decide) (by assumption) ?_
          refine ef_iload_n (pc := 30) d124_30 rfl ?_
          refine eg_iald (pc := 31) d124_31 (i := i) (by assumption) (rfl) (by omega) ?_
          rw [p1]
          refine ef_iload_n (pc := 32) d124_32 rfl ?_
          refine ef_iadd (pc := 33) d124_33 (z := ((p.1 + k : Nat) : Int)) (by omega) ⟨by omega, by omega⟩ ?_
          refine eg_iald (pc := 34) d124_34 (i := p.1 + k) (by assumption) (rfl) (by omega) ?_
          rw [vx]
          refine ef_istore (pc := 35) d124_35 (ls' := [_, _, _, _, _, _]) rfl ?_
          refine ef_aload_n (pc := 37) d124_37 rfl ?_
          refine eg_getR (pc := 38) d124_38 lf_8_89 (by assumption) (by decide) (by assumption) ?_
          refine ef_aload_n (pc := 41) d124_41 rfl ?_
          refine eg_getR (pc := 42) d124_42 lf_8_92 (by assumption) (by decide) (by assumption) ?_
          refine ef_iload_n (pc := 45) d124_45 rfl ?_
          refine eg_iald (pc := 46) d124_46 (i := j) (by assumption) (rfl) (by omega) ?_
          rw [q1]
          refine ef_iload_n (pc := 47) d124_47 rfl ?_
          refine ef_iadd (pc := 48) d124_48 (z := ((q.1 + k : Nat) : Int)) (by omega) ⟨by omega, by omega⟩ ?_
          refine eg_iald (pc := 49) d124_49 (i := q.1 + k) (by assumption) (rfl) (by omega) ?_
          rw [vy]
          refine ef_istore (pc := 50) d124_50 (ls' := [_, _, _, _, _, _]) rfl ?_
          refine ef_iload (pc := 52) d124_52 rfl ?_
          refine ef_iload (pc := 54) d124_54 rfl ?_
          refine ef_icmp_eq (pc := 56) d124_56 (t := 72) rfl (fun h56 => ?_) (fun h56 => ?_)
          · rw [if_pos h56] at hl
            refine ef_iinc (pc := 72) d124_72 (ls' := [_, _, _, _, _, _]) (z := ((k + 1 : Nat) : Int)) rfl (by decide) (by omega) ⟨by omega, by omega⟩ rfl ?_
            refine ef_goto (pc := 75) d124_75 (t := 2) rfl ?_
            exact ih (k + 1) (by omega) (by omega) (by omega) hl _ _
          · rw [if_neg h56] at hl
            refine ef_iload (pc := 59) d124_59 rfl ?_
            refine ef_iload (pc := 61) d124_61 rfl ?_
            refine ef_icmp_ge (pc := 63) d124_63 (t := 70) rfl (fun h63 => ?_) (fun h63 => ?_)
            · rw [hl, decide_eq_false (by omega)]
              refine ef_iconst (pc := 70) d124_70 (by decide) ?_
              refine ef_zret (pc := 71) d124_71 rfl (by omega) ?_
              exact ⟨rfl, rfl⟩
            · rw [hl, decide_eq_true (by omega)]
              refine ef_iconst (pc := 66) d124_66 (by decide) ?_
              refine ef_goto (pc := 67) d124_67 (t := 71) rfl ?_
              refine ef_zret (pc := 71) d124_71 rfl (by omega) ?_
              exact ⟨rfl, rfl⟩
  change Ef P _ 124 0 [some (vR m), some (vI (i : Int)), some (vI (j : Int)), none, none, none] [] _ _
  refine ef_iconst (pc := 0) d124_0 (by decide) ?_
  refine ef_istore_n (pc := 1) d124_1 (ls' := [_, _, _, _, _, _]) rfl ?_
  exact loop 1000 0 (by omega) (by omega) (by omega) (by rw [List.drop_zero, List.drop_zero]) _ _
def CQ (g : Nat → Nat → Int) (m : Nat) (J : List Int) (n : Nat) : Prop := n ≤ 700 ∧ (J.length ≤ 700 → n = J.length) ∧ (700 < J.length → n = 700) ∧ ∀ (i : Nat) (c : Int), i < 700 → J[i]? = some c → g (m + 41) i = c
theorem c125 {P : Pg} {d : Nat} {u : Mm} {g : Nat → Nat → Int} {m : Nat} {J : List Int} {n : Nat} {c : Int} (hM : MdA u m) (hJ : CQ g m J n) : Ec P d 125 [vR m, vI (n : Int), vI c] (sI u g) (fun x u' => ∃ g' n', u' = sI u g' ∧ x = .inl (some (vI ((n' : Nat) : Int))) ∧ CQ g' m (J ++ [c]) n' ∧ ∀ a, a ≠ m + 41 → g' a = g a) := by
  have s0 := hM.1
  have f63 : mF u m 63 = some (m + 41) := (hM.2 40 (by decide)).1
  have s63 : mS u (m + 41) = some (0, 700) := (hM.2 40 (by decide)).2
  obtain ⟨j1, j2, j3, j4⟩ := hJ
  change Ef P _ 125 0 [some (vR m), some (vI (n : Int)), some (vI c)] [] _ _
  refine ef_iload_n (pc := 0) d125_0 rfl ?_
  refine ef_sipush (pc := 1) d125_1 (by decide) ?_
  refine ef_icmp_ge (pc := 4) d125_4 (t := 14) rfl (fun h4 => ?_) (fun h4 => ?_)
  · refine ef_iload_n (pc := 14) d125_14 rfl ?_
    refine ef_sipush (pc := 15) d125_15 (by decide) ?_
    refine ef_icmp_ge (pc := 18) d125_18 (t := 27) rfl (fun h18 => ?_) (fun h18 => ?_)
    · refine ef_iload_n (pc := 27) d125_27 rfl ?_
      refine ef_iret (pc := 28) d125_28 rfl ?_
      first
      | omega
      | (refine ⟨_, n, rfl, rfl, ⟨j1, fun h => ?_, fun _ => by omega, fun i x hi hx => ?_⟩, fun a _ => rfl⟩
         · rw [List.length_append] at h
           have h9 : J.length + 1 ≤ 700 := h
           have := j2 (by omega)
           omega
         · rw [List.getElem?_append_left (by
             rcases Nat.lt_or_ge 700 J.length with h | h
             · omega
             · have := j2 h; omega)] at hx
           exact j4 i x hi hx)
      | (have hJl : n = J.length := by
           rcases Nat.lt_or_ge 700 J.length with h | h
           · have := j3 h; omega
           · exact j2 h
         refine ⟨_, n + 1, rfl, rfl, ⟨by omega, fun h => by rw [List.length_append, hJl]; rfl, fun h => by rw [List.length_append] at h; have h9 : 700 < J.length + 1 := h; omega, fun i x hi hx => ?_⟩, fun a ha => by rw [u2_ne ha]⟩
         subst hJl
         by_cases hij : i = J.length
         · subst hij
           rw [List.getElem?_append_right (Nat.le_refl _), Nat.sub_self] at hx
           cases hx
           rw [u2_at]
         · rw [u2_ni hij]
           rw [List.getElem?_append_left (by
             have := (List.getElem?_eq_some_iff.mp hx).1
             rw [List.length_append] at this
             have h9 : i < J.length + 1 := this
             omega)] at hx
           exact j4 i x hi hx)
    · refine ef_iload_n (pc := 21) d125_21 rfl ?_
      refine ef_iconst (pc := 22) d125_22 (by decide) ?_
      refine ef_iadd (pc := 23) d125_23 (z := ((n + 1 : Nat) : Int)) (by omega) ⟨by omega, by omega⟩ ?_
      refine ef_goto (pc := 24) d125_24 (t := 28) rfl ?_
      refine ef_iret (pc := 28) d125_28 rfl ?_
      first
      | omega
      | (refine ⟨_, n, rfl, rfl, ⟨j1, fun h => ?_, fun _ => by omega, fun i x hi hx => ?_⟩, fun a _ => rfl⟩
         · rw [List.length_append] at h
           have h9 : J.length + 1 ≤ 700 := h
           have := j2 (by omega)
           omega
         · rw [List.getElem?_append_left (by
             rcases Nat.lt_or_ge 700 J.length with h | h
             · omega
             · have := j2 h; omega)] at hx
           exact j4 i x hi hx)
      | (have hJl : n = J.length := by
           rcases Nat.lt_or_ge 700 J.length with h | h
           · have := j3 h; omega
           · exact j2 h
         refine ⟨_, n + 1, rfl, rfl, ⟨by omega, fun h => by rw [List.length_append, hJl]; rfl, fun h => by rw [List.length_append] at h; have h9 : 700 < J.length + 1 := h; omega, fun i x hi hx => ?_⟩, fun a ha => by rw [u2_ne ha]⟩
         subst hJl
         by_cases hij : i = J.length
         · subst hij
           rw [List.getElem?_append_right (Nat.le_refl _), Nat.sub_self] at hx
           cases hx
           rw [u2_at]
         · rw [u2_ni hij]
           rw [List.getElem?_append_left (by
             have := (List.getElem?_eq_some_iff.mp hx).1
             rw [List.length_append] at this
             have h9 : i < J.length + 1 := this
             omega)] at hx
           exact j4 i x hi hx)
  · refine ef_aload_n (pc := 7) d125_7 rfl ?_
    refine eg_getR (pc := 8) d125_8 lf_8_132 (by assumption) (by decide) (by assumption) ?_
    refine ef_iload_n (pc := 11) d125_11 rfl ?_
    refine ef_iload_n (pc := 12) d125_12 rfl ?_
    refine eg_iast (pc := 13) d125_13 (i := n) (by assumption) (rfl) (by omega) rfl ?_
    refine ef_iload_n (pc := 14) d125_14 rfl ?_
    refine ef_sipush (pc := 15) d125_15 (by decide) ?_
    refine ef_icmp_ge (pc := 18) d125_18 (t := 27) rfl (fun h18 => ?_) (fun h18 => ?_)
    · refine ef_iload_n (pc := 27) d125_27 rfl ?_
      refine ef_iret (pc := 28) d125_28 rfl ?_
      first
      | omega
      | (refine ⟨_, n, rfl, rfl, ⟨j1, fun h => ?_, fun _ => by omega, fun i x hi hx => ?_⟩, fun a _ => rfl⟩
         · rw [List.length_append] at h
           have h9 : J.length + 1 ≤ 700 := h
           have := j2 (by omega)
           omega
         · rw [List.getElem?_append_left (by
             rcases Nat.lt_or_ge 700 J.length with h | h
             · omega
             · have := j2 h; omega)] at hx
           exact j4 i x hi hx)
      | (have hJl : n = J.length := by
           rcases Nat.lt_or_ge 700 J.length with h | h
           · have := j3 h; omega
           · exact j2 h
         refine ⟨_, n + 1, rfl, rfl, ⟨by omega, fun h => by rw [List.length_append, hJl]; rfl, fun h => by rw [List.length_append] at h; have h9 : 700 < J.length + 1 := h; omega, fun i x hi hx => ?_⟩, fun a ha => by rw [u2_ne ha]⟩
         subst hJl
         by_cases hij : i = J.length
         · subst hij
           rw [List.getElem?_append_right (Nat.le_refl _), Nat.sub_self] at hx
           cases hx
           rw [u2_at]
         · rw [u2_ni hij]
           rw [List.getElem?_append_left (by
             have := (List.getElem?_eq_some_iff.mp hx).1
             rw [List.length_append] at this
             have h9 : i < J.length + 1 := this
             omega)] at hx
           exact j4 i x hi hx)
    · refine ef_iload_n (pc := 21) d125_21 rfl ?_
      refine ef_iconst (pc := 22) d125_22 (by decide) ?_
      refine ef_iadd (pc := 23) d125_23 (z := ((n + 1 : Nat) : Int)) (by omega) ⟨by omega, by omega⟩ ?_
      refine ef_goto (pc := 24) d125_24 (t := 28) rfl ?_
      refine ef_iret (pc := 28) d125_28 rfl ?_
      first
      | omega
      | (refine ⟨_, n, rfl, rfl, ⟨j1, fun h => ?_, fun _ => by omega, fun i x hi hx => ?_⟩, fun a _ => rfl⟩
         · rw [List.length_append] at h
           have h9 : J.length + 1 ≤ 700 := h
           have := j2 (by omega)
           omega
         · rw [List.getElem?_append_left (by
             rcases Nat.lt_or_ge 700 J.length with h | h
             · omega
             · have := j2 h; omega)] at hx
           exact j4 i x hi hx)
      | (have hJl : n = J.length := by
           rcases Nat.lt_or_ge 700 J.length with h | h
           · have := j3 h; omega
           · exact j2 h
         refine ⟨_, n + 1, rfl, rfl, ⟨by omega, fun h => by rw [List.length_append, hJl]; rfl, fun h => by rw [List.length_append] at h; have h9 : 700 < J.length + 1 := h; omega, fun i x hi hx => ?_⟩, fun a ha => by rw [u2_ne ha]⟩
         subst hJl
         by_cases hij : i = J.length
         · subst hij
           rw [List.getElem?_append_right (Nat.le_refl _), Nat.sub_self] at hx
           cases hx
           rw [u2_at]
         · rw [u2_ni hij]
           rw [List.getElem?_append_left (by
             have := (List.getElem?_eq_some_iff.mp hx).1
             rw [List.length_append] at this
             have h9 : i < J.length + 1 := this
             omega)] at hx
           exact j4 i x hi hx)
