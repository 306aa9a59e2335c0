/-! The model: a step in a place. Written by wip/whole/gen/c92.py. -/
theorem c115s {P : Pg} {d : Nat} {u : Mm} {g : Nat → Nat → Int} {m : Nat} {c p j : Nat} (hM : MdA u m) (hc2 : c < 38) (hth : g (m + 31) c = (p : Int)) (hnx : g (m + 32) c = (j : Int)) (hj : j < 91) (h1 : j < 21 → ¬ (1 ≤ j ∧ 0 ≤ g (m + 12) j ∧ g (m + 14) j = (p : Int))) (h2 : 21 ≤ j → j < 61 → ¬ (0 ≤ g (m + 15) (j - 21) ∧ g (m + 17) (j - 21) = (p : Int))) (h3 : 61 ≤ j → ¬ (0 ≤ g (m + 19) (j - 61) ∧ g (m + 21) (j - 61) = (p : Int))) : Ec P d 115 [vR m, vI (c : Int)] (sI u g) (fun x u' => x = .inl none ∧ u' = sI u (u2 g (m + 32) c ((j + 1 : Nat) : Int))) := by
  have s0 := hM.1
  have f18 : mF u m 18 = some (m + 12) := (hM.2 11 (by decide)).1
  have s18 : mS u (m + 12) = some (0, 21) := (hM.2 11 (by decide)).2
  have f19 : mF u m 19 = some (m + 13) := (hM.2 12 (by decide)).1
  have s19 : mS u (m + 13) = some (0, 21) := (hM.2 12 (by decide)).2
  have f20 : mF u m 20 = some (m + 14) := (hM.2 13 (by decide)).1
  have s20 : mS u (m + 14) = some (0, 21) := (hM.2 13 (by decide)).2
  have f21 : mF u m 21 = some (m + 15) := (hM.2 14 (by decide)).1
  have s21 : mS u (m + 15) = some (0, 40) := (hM.2 14 (by decide)).2
  have f22 : mF u m 22 = some (m + 16) := (hM.2 15 (by decide)).1
  have s22 : mS u (m + 16) = some (0, 40) := (hM.2 15 (by decide)).2
  have f23 : mF u m 23 = some (m + 17) := (hM.2 16 (by decide)).1
  have s23 : mS u (m + 17) = some (0, 40) := (hM.2 16 (by decide)).2
  have f24 : mF u m 24 = some (m + 18) := (hM.2 17 (by decide)).1
  have s24 : mS u (m + 18) = some (0, 40) := (hM.2 17 (by decide)).2
  have f25 : mF u m 25 = some (m + 19) := (hM.2 18 (by decide)).1
  have s25 : mS u (m + 19) = some (0, 30) := (hM.2 18 (by decide)).2
  have f26 : mF u m 26 = some (m + 20) := (hM.2 19 (by decide)).1
  have s26 : mS u (m + 20) = some (0, 30) := (hM.2 19 (by decide)).2
  have f27 : mF u m 27 = some (m + 21) := (hM.2 20 (by decide)).1
  have s27 : mS u (m + 21) = some (0, 30) := (hM.2 20 (by decide)).2
  have f44 : mF u m 44 = some (m + 31) := (hM.2 30 (by decide)).1
  have s44 : mS u (m + 31) = some (0, 40) := (hM.2 30 (by decide)).2
  have f45 : mF u m 45 = some (m + 32) := (hM.2 31 (by decide)).1
  have s45 : mS u (m + 32) = some (0, 40) := (hM.2 31 (by decide)).2
  have f46 : mF u m 46 = some (m + 33) := (hM.2 32 (by decide)).1
  have s46 : mS u (m + 33) = some (0, 40) := (hM.2 32 (by decide)).2
  generalize hg1 : u2 g (m + 32) c ((j + 1 : Nat) : Int) = g1
  have o1 : ∀ a, a ≠ m + 32 → g1 a = g a := fun a h1 => by rw [← hg1, u2_ne h1]
  change Ef P _ 115 0 [some (vR m), some (vI (c : Int)), none, none, none] [] _ _
  refine ef_aload_n (pc := 0) d115_0 rfl ?_
  refine eg_getR (pc := 1) d115_1 lf_8_101 (by assumption) (by decide) (by assumption) ?_
  refine ef_iload_n (pc := 4) d115_4 rfl ?_
  refine eg_iald (pc := 5) d115_5 (i := c) (by assumption) (rfl) (by omega) ?_
  rw [hth]
  refine ef_istore_n (pc := 6) d115_6 (ls' := [_, _, _, _, _]) rfl ?_
  refine ef_aload_n (pc := 7) d115_7 rfl ?_
  refine eg_getR (pc := 8) d115_8 lf_8_104 (by assumption) (by decide) (by assumption) ?_
  refine ef_iload_n (pc := 11) d115_11 rfl ?_
  refine eg_iald (pc := 12) d115_12 (i := c) (by assumption) (rfl) (by omega) ?_
  rw [hnx]
  refine ef_istore_n (pc := 13) d115_13 (ls' := [_, _, _, _, _]) rfl ?_
  refine ef_aload_n (pc := 14) d115_14 rfl ?_
  refine eg_getR (pc := 15) d115_15 lf_8_104 (by assumption) (by decide) (by assumption) ?_
  refine ef_iload_n (pc := 18) d115_18 rfl ?_
  refine ef_dup2 (pc := 19) d115_19 rfl rfl ?_
  refine eg_iald (pc := 20) d115_20 (i := c) (by assumption) (rfl) (by omega) ?_
  rw [hnx]
  refine ef_iconst (pc := 21) d115_21 (by decide) ?_
  refine ef_iadd (pc := 22) d115_22 (z := ((j + 1 : Nat) : Int)) (by omega) ⟨by omega, by omega⟩ ?_
  refine eg_iast (pc := 23) d115_23 (i := c) (by assumption) (rfl) (by omega) rfl ?_
  rw [hg1]
  refine ef_iload_n (pc := 24) d115_24 rfl ?_
  refine ef_bipush (pc := 25) d115_25 (by decide) ?_
  refine ef_icmp_ge (pc := 27) d115_27 (t := 82) rfl (fun h27 => ?_) (fun h27 => ?_)
  · refine ef_iload_n (pc := 82) d115_82 rfl ?_
    refine ef_bipush (pc := 83) d115_83 (by decide) ?_
    refine ef_icmp_ge (pc := 85) d115_85 (t := 143) rfl (fun h85 => ?_) (fun h85 => ?_)
    · refine ef_iload_n (pc := 143) d115_143 rfl ?_
      refine ef_bipush (pc := 144) d115_144 (by decide) ?_
      refine ef_icmp_geF (pc := 146) d115_146 (t := 195) rfl (by omega) ?_
      refine ef_iload_n (pc := 149) d115_149 rfl ?_
      refine ef_bipush (pc := 150) d115_150 (by decide) ?_
      refine ef_isub (pc := 152) d115_152 (z := ((j - 21 : Nat) : Int)) (by omega) ⟨by omega, by omega⟩ ?_
      refine ef_bipush (pc := 153) d115_153 (by decide) ?_
      refine ef_isub (pc := 155) d115_155 (z := ((j - 61 : Nat) : Int)) (by omega) ⟨by omega, by omega⟩ ?_
      refine ef_istore (pc := 156) d115_156 (ls' := [_, _, _, _, _]) rfl ?_
      refine ef_aload_n (pc := 158) d115_158 rfl ?_
      refine eg_getR (pc := 159) d115_159 lf_8_65 (by assumption) (by decide) (by assumption) ?_
      refine ef_iload (pc := 162) d115_162 rfl ?_
      refine eg_iald (pc := 164) d115_164 (i := j - 61) (by assumption) (rfl) (by omega) ?_
      rw [o1 _ (by omega)]
      refine ef_if_lt (pc := 165) d115_165 (t := 192) rfl (fun h165 => ?_) (fun h165 => ?_)
      · refine ef_goto (pc := 192) d115_192 (t := 225) rfl ?_
        refine ef_vret (pc := 225) d115_225 rfl ?_
        exact ⟨rfl, rfl⟩
      · refine ef_aload_n (pc := 168) d115_168 rfl ?_
        refine eg_getR (pc := 169) d115_169 lf_8_71 (by assumption) (by decide) (by assumption) ?_
        refine ef_iload (pc := 172) d115_172 rfl ?_
        refine eg_iald (pc := 174) d115_174 (i := j - 61) (by assumption) (rfl) (by omega) ?_
        rw [o1 _ (by omega)]
        refine ef_iload_n (pc := 175) d115_175 rfl ?_
        refine ef_icmp_ne (pc := 176) d115_176 (t := 192) rfl (fun h176 => ?_) (fun h176 => ?_)
        · refine ef_goto (pc := 192) d115_192 (t := 225) rfl ?_
          refine ef_vret (pc := 225) d115_225 rfl ?_
          exact ⟨rfl, rfl⟩
        · exact absurd ⟨by omega, h176⟩ (h3 (by omega))
    · refine ef_iload_n (pc := 88) d115_88 rfl ?_
      refine ef_bipush (pc := 89) d115_89 (by decide) ?_
      refine ef_isub (pc := 91) d115_91 (z := ((j - 21 : Nat) : Int)) (by omega) ⟨by omega, by omega⟩ ?_
      refine ef_istore (pc := 92) d115_92 (ls' := [_, _, _, _, _]) rfl ?_
      refine ef_aload_n (pc := 94) d115_94 rfl ?_
      refine eg_getR (pc := 95) d115_95 lf_8_53 (by assumption) (by decide) (by assumption) ?_
      refine ef_iload (pc := 98) d115_98 rfl ?_
      refine eg_iald (pc := 100) d115_100 (i := j - 21) (by assumption) (rfl) (by omega) ?_
      rw [o1 _ (by omega)]
      refine ef_if_lt (pc := 101) d115_101 (t := 140) rfl (fun h101 => ?_) (fun h101 => ?_)
      · refine ef_goto (pc := 140) d115_140 (t := 225) rfl ?_
        refine ef_vret (pc := 225) d115_225 rfl ?_
        exact ⟨rfl, rfl⟩
      · refine ef_aload_n (pc := 104) d115_104 rfl ?_
        refine eg_getR (pc := 105) d115_105 lf_8_59 (by assumption) (by decide) (by assumption) ?_
        refine ef_iload (pc := 108) d115_108 rfl ?_
        refine eg_iald (pc := 110) d115_110 (i := j - 21) (by assumption) (rfl) (by omega) ?_
        rw [o1 _ (by omega)]
        refine ef_iload_n (pc := 111) d115_111 rfl ?_
        refine ef_icmp_ne (pc := 112) d115_112 (t := 140) rfl (fun h112 => ?_) (fun h112 => ?_)
        · refine ef_goto (pc := 140) d115_140 (t := 225) rfl ?_
          refine ef_vret (pc := 225) d115_225 rfl ?_
          exact ⟨rfl, rfl⟩
        · exact absurd ⟨by omega, h112⟩ (h2 (by omega) (by omega))
  · refine ef_iload_n (pc := 30) d115_30 rfl ?_
    refine ef_if_le (pc := 31) d115_31 (t := 225) rfl (fun h31 => ?_) (fun h31 => ?_)
    · refine ef_vret (pc := 225) d115_225 rfl ?_
      exact ⟨rfl, rfl⟩
    · refine ef_aload_n (pc := 34) d115_34 rfl ?_
      refine eg_getR (pc := 35) d115_35 lf_8_44 (by assumption) (by decide) (by assumption) ?_
      refine ef_iload_n (pc := 38) d115_38 rfl ?_
      refine eg_iald (pc := 39) d115_39 (i := j) (by assumption) (rfl) (by omega) ?_
      rw [o1 _ (by omega)]
      refine ef_if_lt (pc := 40) d115_40 (t := 225) rfl (fun h40 => ?_) (fun h40 => ?_)
      · refine ef_vret (pc := 225) d115_225 rfl ?_
        exact ⟨rfl, rfl⟩
      · refine ef_aload_n (pc := 43) d115_43 rfl ?_
        refine eg_getR (pc := 44) d115_44 lf_8_50 (by assumption) (by decide) (by assumption) ?_
        refine ef_iload_n (pc := 47) d115_47 rfl ?_
        refine eg_iald (pc := 48) d115_48 (i := j) (by assumption) (rfl) (by omega) ?_
        rw [o1 _ (by omega)]
        refine ef_iload_n (pc := 49) d115_49 rfl ?_
        refine ef_icmp_ne (pc := 50) d115_50 (t := 225) rfl (fun h50 => ?_) (fun h50 => ?_)
        · refine ef_vret (pc := 225) d115_225 rfl ?_
          exact ⟨rfl, rfl⟩
        · exact absurd ⟨by omega, by omega, h50⟩ (h1 (by omega))
theorem c115p {P : Pg} {d : Nat} {u : Mm} {g : Nat → Nat → Int} {m : Nat} {W : List Int} {s c p j : Nat} {nmj : Int} (hM : MdA u m) (hW : DQ g m W) (hf : g m 30 = 0) (hs : g m 38 = (s : Int)) (hs2 : s < 118) (hc : g m 39 = ((c + 1 : Nat) : Int)) (hc2 : c < 38) (hth : g (m + 31) c = (p : Int)) (hnx : g (m + 32) c = (j : Int)) (hj1 : 1 ≤ j) (hj : j < 21) (hlv : 0 ≤ g (m + 12) j) (hin : g (m + 14) j = (p : Int)) (hna : g (m + 13) j = nmj) (hn1 : -50 ≤ nmj) (hn2 : nmj < 50) : Ec P (d + 3) 115 [vR m, vI (c : Int)] (sI u g) (fun x u' => ∃ g', u' = sI u g' ∧ x = .inl none ∧ Opn g g' m W [loF nmj] s c 0 (j : Int) 0 0 ((j + 1 : Nat) : Int) ∧ g' m 48 = g m 48) := by
  have s0 := hM.1
  have f18 : mF u m 18 = some (m + 12) := (hM.2 11 (by decide)).1
  have s18 : mS u (m + 12) = some (0, 21) := (hM.2 11 (by decide)).2
  have f19 : mF u m 19 = some (m + 13) := (hM.2 12 (by decide)).1
  have s19 : mS u (m + 13) = some (0, 21) := (hM.2 12 (by decide)).2
  have f20 : mF u m 20 = some (m + 14) := (hM.2 13 (by decide)).1
  have s20 : mS u (m + 14) = some (0, 21) := (hM.2 13 (by decide)).2
  have f21 : mF u m 21 = some (m + 15) := (hM.2 14 (by decide)).1
  have s21 : mS u (m + 15) = some (0, 40) := (hM.2 14 (by decide)).2
  have f22 : mF u m 22 = some (m + 16) := (hM.2 15 (by decide)).1
  have s22 : mS u (m + 16) = some (0, 40) := (hM.2 15 (by decide)).2
  have f23 : mF u m 23 = some (m + 17) := (hM.2 16 (by decide)).1
  have s23 : mS u (m + 17) = some (0, 40) := (hM.2 16 (by decide)).2
  have f24 : mF u m 24 = some (m + 18) := (hM.2 17 (by decide)).1
  have s24 : mS u (m + 18) = some (0, 40) := (hM.2 17 (by decide)).2
  have f25 : mF u m 25 = some (m + 19) := (hM.2 18 (by decide)).1
  have s25 : mS u (m + 19) = some (0, 30) := (hM.2 18 (by decide)).2
  have f26 : mF u m 26 = some (m + 20) := (hM.2 19 (by decide)).1
  have s26 : mS u (m + 20) = some (0, 30) := (hM.2 19 (by decide)).2
  have f27 : mF u m 27 = some (m + 21) := (hM.2 20 (by decide)).1
  have s27 : mS u (m + 21) = some (0, 30) := (hM.2 20 (by decide)).2
  have f44 : mF u m 44 = some (m + 31) := (hM.2 30 (by decide)).1
  have s44 : mS u (m + 31) = some (0, 40) := (hM.2 30 (by decide)).2
  have f45 : mF u m 45 = some (m + 32) := (hM.2 31 (by decide)).1
  have s45 : mS u (m + 32) = some (0, 40) := (hM.2 31 (by decide)).2
  have f46 : mF u m 46 = some (m + 33) := (hM.2 32 (by decide)).1
  have s46 : mS u (m + 33) = some (0, 40) := (hM.2 32 (by decide)).2
  have hu : W.length ≤ 640 ∧ g m 37 = (W.length : Int) := by
    rcases hW with ⟨w1, w2, w3, -⟩ | ⟨-, w2, -⟩
    · exact ⟨w1, w3⟩
    · omega
  generalize hg1 : u2 g (m + 32) c ((j + 1 : Nat) : Int) = g1
  have o1 : ∀ a, a ≠ m + 32 → g1 a = g a := fun a h1 => by rw [← hg1, u2_ne h1]
  have e32 : g1 (m + 32) = u1 (g (m + 32)) c ((j + 1 : Nat) : Int) := by rw [← hg1, u2_eq]
  have em : g1 m = g m := o1 _ (by omega)
  have d1 : DQ g1 m W := hW.of (by rw [em]) (by rw [em]) (o1 _ (by omega))
  have s1 : g1 m 38 = (s : Int) := by rw [em]; exact hs
  change Ef P _ 115 0 [some (vR m), some (vI (c : Int)), none, none, none] [] _ _
  refine ef_aload_n (pc := 0) d115_0 rfl ?_
  refine eg_getR (pc := 1) d115_1 lf_8_101 (by assumption) (by decide) (by assumption) ?_
  refine ef_iload_n (pc := 4) d115_4 rfl ?_
  refine eg_iald (pc := 5) d115_5 (i := c) (by assumption) (rfl) (by omega) ?_
  rw [hth]
  refine ef_istore_n (pc := 6) d115_6 (ls' := [_, _, _, _, _]) rfl ?_
  refine ef_aload_n (pc := 7) d115_7 rfl ?_
  refine eg_getR (pc := 8) d115_8 lf_8_104 (by assumption) (by decide) (by assumption) ?_
  refine ef_iload_n (pc := 11) d115_11 rfl ?_
  refine eg_iald (pc := 12) d115_12 (i := c) (by assumption) (rfl) (by omega) ?_
  rw [hnx]
  refine ef_istore_n (pc := 13) d115_13 (ls' := [_, _, _, _, _]) rfl ?_
  refine ef_aload_n (pc := 14) d115_14 rfl ?_
  refine eg_getR (pc := 15) d115_15 lf_8_104 (by assumption) (by decide) (by assumption) ?_
  refine ef_iload_n (pc := 18) d115_18 rfl ?_
  refine ef_dup2 (pc := 19) d115_19 rfl rfl ?_
  refine eg_iald (pc := 20) d115_20 (i := c) (by assumption) (rfl) (by omega) ?_
  rw [hnx]
  refine ef_iconst (pc := 21) d115_21 (by decide) ?_
  refine ef_iadd (pc := 22) d115_22 (z := ((j + 1 : Nat) : Int)) (by omega) ⟨by omega, by omega⟩ ?_
  refine eg_iast (pc := 23) d115_23 (i := c) (by assumption) (rfl) (by omega) rfl ?_
  rw [hg1]
  refine ef_iload_n (pc := 24) d115_24 rfl ?_
  refine ef_bipush (pc := 25) d115_25 (by decide) ?_
  refine ef_icmp_geF (pc := 27) d115_27 (t := 82) rfl (by omega) ?_
  refine ef_iload_n (pc := 30) d115_30 rfl ?_
  refine ef_if_leF (pc := 31) d115_31 (t := 225) rfl (by omega) ?_
  refine ef_aload_n (pc := 34) d115_34 rfl ?_
  refine eg_getR (pc := 35) d115_35 lf_8_44 (by assumption) (by decide) (by assumption) ?_
  refine ef_iload_n (pc := 38) d115_38 rfl ?_
  refine eg_iald (pc := 39) d115_39 (i := j) (by assumption) (rfl) (by omega) ?_
  rw [o1 _ (by omega)]
  refine ef_if_ltF (pc := 40) d115_40 (t := 225) rfl (by omega) ?_
  refine ef_aload_n (pc := 43) d115_43 rfl ?_
  refine eg_getR (pc := 44) d115_44 lf_8_50 (by assumption) (by decide) (by assumption) ?_
  refine ef_iload_n (pc := 47) d115_47 rfl ?_
  refine eg_iald (pc := 48) d115_48 (i := j) (by assumption) (rfl) (by omega) ?_
  rw [o1 _ (by omega)]
  refine ef_iload_n (pc := 49) d115_49 rfl ?_
  refine ef_icmp_neF (pc := 50) d115_50 (t := 225) rfl (by exact hin) ?_
  refine ef_aload_n (pc := 53) d115_53 rfl ?_
  refine ef_callV (pc := 54) d115_54 lm_8_258 (as := []) rfl rfl (by assumption) rfl rfl (by decide) (Nat.le_of_ble_eq_true rfl) rfl (Nat.le_of_ble_eq_true rfl) ?_
  refine Ec.imp (c116 hM s1 (by omega)) ?_
  rintro r54 u54 ⟨rfl, rfl⟩
  generalize hg2 : u2 (u2 g1 (m + 28) s (g1 m 37)) m 38 ((s + 1 : Nat) : Int) = g2
  have o2 : ∀ a, a ≠ m → a ≠ m + 28 → g2 a = g1 a := fun a h1 h2 => by rw [← hg2, u2_ne h1, u2_ne h2]
  have b2 : ∀ f, f ≠ 38 → g2 m f = g1 m f := fun f h1 => by rw [← hg2, u2_ni h1, u2_ne (by omega)]
  have d2 : DQ g2 m W := d1.of (b2 30 (by decide)) (b2 37 (by decide)) (o2 _ (by omega) (by omega))
  refine ef_aload_n (pc := 57) d115_57 rfl ?_
  refine ef_aload_n (pc := 58) d115_58 rfl ?_
  refine eg_getR (pc := 59) d115_59 lf_8_47 (by assumption) (by decide) (by assumption) ?_
  refine ef_iload_n (pc := 62) d115_62 rfl ?_
  refine eg_iald (pc := 63) d115_63 (i := j) (by assumption) (rfl) (by omega) ?_
  rw [o2 _ (by omega) (by omega), o1 _ (by omega), hna]
  refine ef_callV (pc := 64) d115_64 lm_8_261 (as := [_]) rfl rfl (by assumption) rfl rfl (by decide) (Nat.le_of_ble_eq_true rfl) rfl (Nat.le_of_ble_eq_true rfl) ?_
  refine Ec.imp (c117 (d := d + 1) hM d2 (by omega) (by omega)) ?_
  rintro r64 u64 ⟨g3, rfl, rfl, d3, a3, b3⟩
  have s3 : g3 m 38 = ((s + 1 : Nat) : Int) := by rw [b3 38 (by decide) (by decide), ← hg2, u2_at]
  have f3 : g3 (m + 28) = u1 (g (m + 28)) s (W.length : Int) := by rw [a3 _ (by omega) (by omega), ← hg2, u2_ne (by omega), u2_eq, o1 _ (by omega), em, hu.2]
  have f3s : g3 (m + 28) s = (W.length : Int) := by rw [f3, u1_eq]
  obtain ⟨-, nu, hnu, hnu2⟩ := d3.used
  have hin2 : inR (g3 m 37 - g3 (m + 28) s) := by rw [hnu2, f3s]; unfold inR; omega
  have oo : ∀ a, a ≠ m → a ≠ m + 27 → a ≠ m + 28 → g3 a = g1 a := fun a h1 h2 h3 => by rw [a3 a h1 h2, o2 a h1 h3]
  have c3 : g3 m 39 = ((c + 1 : Nat) : Int) := by rw [b3 39 (by decide) (by decide), b2 39 (by decide), em]; exact hc
  refine ef_aload_n (pc := 67) d115_67 rfl ?_
  refine ef_callV (pc := 68) d115_68 lm_8_267 (as := []) rfl rfl (by assumption) rfl rfl (by decide) (Nat.le_of_ble_eq_true rfl) rfl (Nat.le_of_ble_eq_true rfl) ?_
  refine Ec.imp (c119 hM s3 (by omega) hin2) ?_
  rintro r68 u68 ⟨rfl, rfl⟩
  generalize hg4 : u2 g3 (m + 42) s (g3 m 37 - g3 (m + 28) s) = g4
  have o4 : ∀ a, a ≠ m + 42 → g4 a = g3 a := fun a h1 => by rw [← hg4, u2_ne h1]
  have c4 : g4 m 39 = ((c + 1 : Nat) : Int) := by rw [o4 _ (by omega)]; exact c3
  refine ef_aload_n (pc := 71) d115_71 rfl ?_
  refine ef_iconst (pc := 72) d115_72 (by decide) ?_
  refine ef_iload_n (pc := 73) d115_73 rfl ?_
  refine ef_iconst (pc := 74) d115_74 (by decide) ?_
  refine ef_iconst (pc := 75) d115_75 (by decide) ?_
  refine ef_callV (pc := 76) d115_76 lm_8_270 (as := [_, _, _, _]) rfl rfl (by assumption) rfl rfl (by decide) (Nat.le_of_ble_eq_true rfl) rfl (Nat.le_of_ble_eq_true rfl) ?_
  refine Ec.imp (c114 (c := c + 1) hM c4 (by omega)) ?_
  rintro r76 u76 ⟨rfl, rfl⟩
  refine ef_goto (pc := 79) d115_79 (t := 225) rfl ?_
  refine ef_vret (pc := 225) d115_225 rfl ?_
  refine ⟨_, rfl, rfl, ⟨(d3.of (g' := g4) (by rw [o4 _ (by omega)]) (by rw [o4 _ (by omega)]) (o4 _ (by omega))).of ?_ ?_ ?_, ?_, ?_, ?_, ⟨g3 m 37 - g3 (m + 28) s, ?_, ?_⟩, ?_, ?_, ?_, ?_, ?_, ?_, ?_⟩, ?_⟩
  · simp (disch := omega) only [u2_ne, u2_ni]
  · simp (disch := omega) only [u2_ne, u2_ni]
  · simp (disch := omega) only [u2_ne]
  · simp (disch := omega) only [u2_ne, u2_ni]; rw [o4 _ (by omega)]; exact s3
  · rw [u2_at]
  · simp (disch := omega) only [u2_ne]; rw [o4 _ (by omega)]; exact f3
  · simp (disch := omega) only [u2_ne]; rw [← hg4, u2_eq, oo _ (by omega) (by omega) (by omega), o1 _ (by omega)]
  · intro hle
    rw [hnu2, f3s]
    rcases d3 with ⟨w1, w2, w3, -⟩ | ⟨w1, -⟩
    · rw [hnu2, List.length_append] at w3; omega
    · rw [List.length_append] at w1; omega
  · simp (disch := omega) only [u2_ne, u2_eq]; rw [o4 _ (by omega), oo _ (by omega) (by omega) (by omega), o1 _ (by omega)]
  · simp (disch := omega) only [u2_ne, u2_eq]; rw [o4 _ (by omega), oo _ (by omega) (by omega) (by omega), o1 _ (by omega)]
  · simp (disch := omega) only [u2_ne, u2_eq]; rw [o4 _ (by omega), oo _ (by omega) (by omega) (by omega), e32]
  · simp (disch := omega) only [u2_ne, u2_eq]; rw [o4 _ (by omega), oo _ (by omega) (by omega) (by omega), o1 _ (by omega), o4 _ (by omega), s3]
  · simp (disch := omega) only [u2_ne, u2_eq]; rw [o4 _ (by omega), oo _ (by omega) (by omega) (by omega), o1 _ (by omega)]
  · intro a h1 h2 h3 h4 h5; simp (disch := omega) only [u2_ne]; rw [o4 a h5, oo a h1 h2 h3, o1 a (by omega)]
  · intro f h1 h2 h3 h4 h5; simp (disch := omega) only [u2_ne, u2_ni]; rw [o4 _ (by omega), b3 f h1 h2, b2 f h3, em]
  · simp (disch := omega) only [u2_ne, u2_ni]; rw [o4 _ (by omega), b3 48 (by decide) (by decide), b2 48 (by decide), em]
theorem c115g {P : Pg} {d : Nat} {u : Mm} {g : Nat → Nat → Int} {m : Nat} {W : List Int} {s c p j : Nat} {gi n sz : Nat} {l : Int} {kd nm rp en : Nat → Int} {ht : Nat → Nat} (hM : MdA u m) (hW : DQ g m W) (hf : g m 30 = 0) (hs : g m 38 = (s : Int)) (hs2 : s < 118) (hc : g m 39 = ((c + 1 : Nat) : Int)) (hc2 : c < 38) (hth : g (m + 31) c = (p : Int)) (hnx : g (m + 32) c = (j : Int)) (hT : TmOk kd nm en sz ht) (hTr : TrR g m kd nm rp en sz) (hj : j = gi + 21) (hgi : gi < 40) (hlv : 0 ≤ g (m + 15) gi) (hin : g (m + 17) gi = (p : Int)) (hnd : g (m + 16) gi = (n : Int)) (hn : n < sz) (hk : kd n ≤ 3) (hl : g (m + 18) gi = l) : Ec P (d + 4) 115 [vR m, vI (c : Int)] (sI u g) (fun x u' => ∃ g', u' = sI u g' ∧ x = .inl none ∧ Opn g g' m W (mH kd nm rp n l 0) s c 1 (n : Int) (if n + 1 < afF en n then ((n + 1 : Nat) : Int) else -1) (mkF kd nm n 0) ((j + 1 : Nat) : Int) ∧ g' m 48 = (gi : Int)) := by
  have s0 := hM.1
  have f18 : mF u m 18 = some (m + 12) := (hM.2 11 (by decide)).1
  have s18 : mS u (m + 12) = some (0, 21) := (hM.2 11 (by decide)).2
  have f19 : mF u m 19 = some (m + 13) := (hM.2 12 (by decide)).1
  have s19 : mS u (m + 13) = some (0, 21) := (hM.2 12 (by decide)).2
  have f20 : mF u m 20 = some (m + 14) := (hM.2 13 (by decide)).1
  have s20 : mS u (m + 14) = some (0, 21) := (hM.2 13 (by decide)).2
  have f21 : mF u m 21 = some (m + 15) := (hM.2 14 (by decide)).1
  have s21 : mS u (m + 15) = some (0, 40) := (hM.2 14 (by decide)).2
  have f22 : mF u m 22 = some (m + 16) := (hM.2 15 (by decide)).1
  have s22 : mS u (m + 16) = some (0, 40) := (hM.2 15 (by decide)).2
  have f23 : mF u m 23 = some (m + 17) := (hM.2 16 (by decide)).1
  have s23 : mS u (m + 17) = some (0, 40) := (hM.2 16 (by decide)).2
  have f24 : mF u m 24 = some (m + 18) := (hM.2 17 (by decide)).1
  have s24 : mS u (m + 18) = some (0, 40) := (hM.2 17 (by decide)).2
  have f25 : mF u m 25 = some (m + 19) := (hM.2 18 (by decide)).1
  have s25 : mS u (m + 19) = some (0, 30) := (hM.2 18 (by decide)).2
  have f26 : mF u m 26 = some (m + 20) := (hM.2 19 (by decide)).1
  have s26 : mS u (m + 20) = some (0, 30) := (hM.2 19 (by decide)).2
  have f27 : mF u m 27 = some (m + 21) := (hM.2 20 (by decide)).1
  have s27 : mS u (m + 21) = some (0, 30) := (hM.2 20 (by decide)).2
  have f44 : mF u m 44 = some (m + 31) := (hM.2 30 (by decide)).1
  have s44 : mS u (m + 31) = some (0, 40) := (hM.2 30 (by decide)).2
  have f45 : mF u m 45 = some (m + 32) := (hM.2 31 (by decide)).1
  have s45 : mS u (m + 32) = some (0, 40) := (hM.2 31 (by decide)).2
  have f46 : mF u m 46 = some (m + 33) := (hM.2 32 (by decide)).1
  have s46 : mS u (m + 33) = some (0, 40) := (hM.2 32 (by decide)).2
  have hu : W.length ≤ 640 ∧ g m 37 = (W.length : Int) := by
    rcases hW with ⟨w1, w2, w3, -⟩ | ⟨-, w2, -⟩
    · exact ⟨w1, w3⟩
    · omega
  generalize hg1 : u2 g (m + 32) c ((j + 1 : Nat) : Int) = g1
  have o1 : ∀ a, a ≠ m + 32 → g1 a = g a := fun a h1 => by rw [← hg1, u2_ne h1]
  have e32 : g1 (m + 32) = u1 (g (m + 32)) c ((j + 1 : Nat) : Int) := by rw [← hg1, u2_eq]
  have em : g1 m = g m := o1 _ (by omega)
  have d1 : DQ g1 m W := hW.of (by rw [em]) (by rw [em]) (o1 _ (by omega))
  generalize hg2 : u2 g1 m 48 (gi : Int) = g2
  have o2 : ∀ a, a ≠ m → g2 a = g1 a := fun a h1 => by rw [← hg2, u2_ne h1]
  have b2 : ∀ f, f ≠ 48 → g2 m f = g m f := fun f h1 => by rw [← hg2, u2_ni h1, em]
  have d2 : DQ g2 m W := d1.of (by rw [b2 30 (by decide), em]) (by rw [b2 37 (by decide), em]) (o2 _ (by omega))
  have hTr2 : TrR g2 m kd nm rp en sz := hTr.of (fun a h1 h2 => by rw [o2 _ (by omega), o1 _ (by omega)])
  change Ef P _ 115 0 [some (vR m), some (vI (c : Int)), none, none, none] [] _ _
  refine ef_aload_n (pc := 0) d115_0 rfl ?_
  refine eg_getR (pc := 1) d115_1 lf_8_101 (by assumption) (by decide) (by assumption) ?_
  refine ef_iload_n (pc := 4) d115_4 rfl ?_
  refine eg_iald (pc := 5) d115_5 (i := c) (by assumption) (rfl) (by omega) ?_
  rw [hth]
  refine ef_istore_n (pc := 6) d115_6 (ls' := [_, _, _, _, _]) rfl ?_
  refine ef_aload_n (pc := 7) d115_7 rfl ?_
  refine eg_getR (pc := 8) d115_8 lf_8_104 (by assumption) (by decide) (by assumption) ?_
  refine ef_iload_n (pc := 11) d115_11 rfl ?_
  refine eg_iald (pc := 12) d115_12 (i := c) (by assumption) (rfl) (by omega) ?_
  rw [hnx]
  refine ef_istore_n (pc := 13) d115_13 (ls' := [_, _, _, _, _]) rfl ?_
  refine ef_aload_n (pc := 14) d115_14 rfl ?_
  refine eg_getR (pc := 15) d115_15 lf_8_104 (by assumption) (by decide) (by assumption) ?_
  refine ef_iload_n (pc := 18) d115_18 rfl ?_
  refine ef_dup2 (pc := 19) d115_19 rfl rfl ?_
  refine eg_iald (pc := 20) d115_20 (i := c) (by assumption) (rfl) (by omega) ?_
  rw [hnx]
  refine ef_iconst (pc := 21) d115_21 (by decide) ?_
  refine ef_iadd (pc := 22) d115_22 (z := ((j + 1 : Nat) : Int)) (by omega) ⟨by omega, by omega⟩ ?_
  refine eg_iast (pc := 23) d115_23 (i := c) (by assumption) (rfl) (by omega) rfl ?_
  rw [hg1]
  refine ef_iload_n (pc := 24) d115_24 rfl ?_
  refine ef_bipush (pc := 25) d115_25 (by decide) ?_
  refine ef_icmp_geT (pc := 27) d115_27 (t := 82) rfl (by omega) ?_
  refine ef_iload_n (pc := 82) d115_82 rfl ?_
  refine ef_bipush (pc := 83) d115_83 (by decide) ?_
  refine ef_icmp_geF (pc := 85) d115_85 (t := 143) rfl (by omega) ?_
  refine ef_iload_n (pc := 88) d115_88 rfl ?_
  refine ef_bipush (pc := 89) d115_89 (by decide) ?_
  refine ef_isub (pc := 91) d115_91 (z := (gi : Int)) (by omega) ⟨by omega, by omega⟩ ?_
  refine ef_istore (pc := 92) d115_92 (ls' := [_, _, _, _, _]) rfl ?_
  refine ef_aload_n (pc := 94) d115_94 rfl ?_
  refine eg_getR (pc := 95) d115_95 lf_8_53 (by assumption) (by decide) (by assumption) ?_
  refine ef_iload (pc := 98) d115_98 rfl ?_
  refine eg_iald (pc := 100) d115_100 (i := gi) (by assumption) (rfl) (by omega) ?_
  rw [o1 _ (by omega)]
  refine ef_if_ltF (pc := 101) d115_101 (t := 140) rfl (by omega) ?_
  refine ef_aload_n (pc := 104) d115_104 rfl ?_
  refine eg_getR (pc := 105) d115_105 lf_8_59 (by assumption) (by decide) (by assumption) ?_
  refine ef_iload (pc := 108) d115_108 rfl ?_
  refine eg_iald (pc := 110) d115_110 (i := gi) (by assumption) (rfl) (by omega) ?_
  rw [o1 _ (by omega)]
  refine ef_iload_n (pc := 111) d115_111 rfl ?_
  refine ef_icmp_neF (pc := 112) d115_112 (t := 140) rfl (by exact hin) ?_
  refine ef_aload_n (pc := 115) d115_115 rfl ?_
  refine ef_iload (pc := 116) d115_116 rfl ?_
  refine eg_putI (pc := 118) d115_118 pf_115_274 (by assumption) (by decide) ?_
  rw [hg2]
  refine ef_aload_n (pc := 121) d115_121 rfl ?_
  refine ef_aload_n (pc := 122) d115_122 rfl ?_
  refine eg_getR (pc := 123) d115_123 lf_8_56 (by assumption) (by decide) (by assumption) ?_
  refine ef_iload (pc := 126) d115_126 rfl ?_
  refine eg_iald (pc := 128) d115_128 (i := gi) (by assumption) (rfl) (by omega) ?_
  rw [o2 _ (by omega), o1 _ (by omega), hnd]
  refine ef_aload_n (pc := 129) d115_129 rfl ?_
  refine eg_getR (pc := 130) d115_130 lf_8_62 (by assumption) (by decide) (by assumption) ?_
  refine ef_iload (pc := 133) d115_133 rfl ?_
  refine eg_iald (pc := 135) d115_135 (i := gi) (by assumption) (rfl) (by omega) ?_
  rw [o2 _ (by omega), o1 _ (by omega), hl]
  refine ef_iconst (pc := 136) d115_136 (by decide) ?_
  refine ef_callV (pc := 137) d115_137 lm_8_277 (as := [_, _, _]) rfl rfl (by assumption) rfl rfl (by decide) (Nat.le_of_ble_eq_true rfl) rfl (Nat.le_of_ble_eq_true rfl) ?_
  refine Ec.imp (c120 (d := d) (s := s) (c := c + 1) hM hT hTr2 hn hk d2 (by rw [b2 30 (by decide)]; exact hf) (by rw [b2 38 (by decide)]; exact hs) (by omega) (by rw [b2 39 (by decide)]; exact hc) (by omega)) ?_
  rintro r137 u137 ⟨g3, rfl, rfl, d3, s3, c3, f3, ⟨z, z1, z2⟩, r0, r1, r2, r3, r4, a3, b3⟩
  refine ef_goto (pc := 140) d115_140 (t := 225) rfl ?_
  refine ef_vret (pc := 225) d115_225 rfl ?_
  refine ⟨g3, rfl, rfl, ⟨d3, s3, c3, by rw [f3, o2 _ (by omega), o1 _ (by omega)], ⟨z, by rw [z1, o2 _ (by omega), o1 _ (by omega)], z2⟩, by rw [r0, o2 _ (by omega), o1 _ (by omega)], by rw [r1, o2 _ (by omega), o1 _ (by omega)], by rw [r2, o2 _ (by omega), e32], by rw [r3, o2 _ (by omega), o1 _ (by omega)], by rw [r4, o2 _ (by omega), o1 _ (by omega)], fun a h1 h2 h3 h4 h5 => by rw [a3 a h1 h2 h3 h4 h5, o2 a h1, o1 a (by omega)], fun f h1 h2 h3 h4 h5 => by rw [b3 f h1 h2 h3 h4, b2 f h5]⟩, by rw [b3 48 (by decide) (by decide) (by decide) (by decide), ← hg2, u2_at]⟩
theorem c115m {P : Pg} {d : Nat} {u : Mm} {g : Nat → Nat → Int} {m : Nat} {W : List Int} {s c p j : Nat} {mi : Nat} {nmj : Int} (hM : MdA u m) (hW : DQ g m W) (hf : g m 30 = 0) (hs : g m 38 = (s : Int)) (hs2 : s < 118) (hc : g m 39 = ((c + 1 : Nat) : Int)) (hc2 : c < 38) (hth : g (m + 31) c = (p : Int)) (hnx : g (m + 32) c = (j : Int)) (hj : j = mi + 61) (hmi : mi < 30) (hlv : 0 ≤ g (m + 19) mi) (hin : g (m + 21) mi = (p : Int)) (hna : g (m + 20) mi = nmj) (hn1 : -50 ≤ nmj) (hn2 : nmj < 50) : Ec P (d + 4) 115 [vR m, vI (c : Int)] (sI u g) (fun x u' => ∃ g', u' = sI u g' ∧ x = .inl none ∧ DQ g' m (W ++ [39, nmX nmj 0 0]) ∧ g' m 38 = ((s + 1 : Nat) : Int) ∧ g' (m + 28) = u1 (g (m + 28)) s (W.length : Int) ∧ (∃ z, g' (m + 29) = u1 (g (m + 29)) s z ∧ (W.length + 2 ≤ 640 → z = 2)) ∧ g' (m + 32) = u1 (g (m + 32)) c ((j + 1 : Nat) : Int) ∧ (∀ a, a ≠ m → a ≠ m + 27 → a ≠ m + 28 → a ≠ m + 29 → a ≠ m + 32 → g' a = g a) ∧ (∀ f, f ≠ 30 → f ≠ 37 → f ≠ 38 → g' m f = g m f)) := by
  have s0 := hM.1
  have f18 : mF u m 18 = some (m + 12) := (hM.2 11 (by decide)).1
  have s18 : mS u (m + 12) = some (0, 21) := (hM.2 11 (by decide)).2
  have f19 : mF u m 19 = some (m + 13) := (hM.2 12 (by decide)).1
  have s19 : mS u (m + 13) = some (0, 21) := (hM.2 12 (by decide)).2
  have f20 : mF u m 20 = some (m + 14) := (hM.2 13 (by decide)).1
  have s20 : mS u (m + 14) = some (0, 21) := (hM.2 13 (by decide)).2
  have f21 : mF u m 21 = some (m + 15) := (hM.2 14 (by decide)).1
  have s21 : mS u (m + 15) = some (0, 40) := (hM.2 14 (by decide)).2
  have f22 : mF u m 22 = some (m + 16) := (hM.2 15 (by decide)).1
  have s22 : mS u (m + 16) = some (0, 40) := (hM.2 15 (by decide)).2
  have f23 : mF u m 23 = some (m + 17) := (hM.2 16 (by decide)).1
  have s23 : mS u (m + 17) = some (0, 40) := (hM.2 16 (by decide)).2
  have f24 : mF u m 24 = some (m + 18) := (hM.2 17 (by decide)).1
  have s24 : mS u (m + 18) = some (0, 40) := (hM.2 17 (by decide)).2
  have f25 : mF u m 25 = some (m + 19) := (hM.2 18 (by decide)).1
  have s25 : mS u (m + 19) = some (0, 30) := (hM.2 18 (by decide)).2
  have f26 : mF u m 26 = some (m + 20) := (hM.2 19 (by decide)).1
  have s26 : mS u (m + 20) = some (0, 30) := (hM.2 19 (by decide)).2
  have f27 : mF u m 27 = some (m + 21) := (hM.2 20 (by decide)).1
  have s27 : mS u (m + 21) = some (0, 30) := (hM.2 20 (by decide)).2
  have f44 : mF u m 44 = some (m + 31) := (hM.2 30 (by decide)).1
  have s44 : mS u (m + 31) = some (0, 40) := (hM.2 30 (by decide)).2
  have f45 : mF u m 45 = some (m + 32) := (hM.2 31 (by decide)).1
  have s45 : mS u (m + 32) = some (0, 40) := (hM.2 31 (by decide)).2
  have f46 : mF u m 46 = some (m + 33) := (hM.2 32 (by decide)).1
  have s46 : mS u (m + 33) = some (0, 40) := (hM.2 32 (by decide)).2
  have hu : W.length ≤ 640 ∧ g m 37 = (W.length : Int) := by
    rcases hW with ⟨w1, w2, w3, -⟩ | ⟨-, w2, -⟩
    · exact ⟨w1, w3⟩
    · omega
  generalize hg1 : u2 g (m + 32) c ((j + 1 : Nat) : Int) = g1
  have o1 : ∀ a, a ≠ m + 32 → g1 a = g a := fun a h1 => by rw [← hg1, u2_ne h1]
  have e32 : g1 (m + 32) = u1 (g (m + 32)) c ((j + 1 : Nat) : Int) := by rw [← hg1, u2_eq]
  have em : g1 m = g m := o1 _ (by omega)
  have d1 : DQ g1 m W := hW.of (by rw [em]) (by rw [em]) (o1 _ (by omega))
  change Ef P _ 115 0 [some (vR m), some (vI (c : Int)), none, none, none] [] _ _
  refine ef_aload_n (pc := 0) d115_0 rfl ?_
  refine eg_getR (pc := 1) d115_1 lf_8_101 (by assumption) (by decide) (by assumption) ?_
  refine ef_iload_n (pc := 4) d115_4 rfl ?_
  refine eg_iald (pc := 5) d115_5 (i := c) (by assumption) (rfl) (by omega) ?_
  rw [hth]
  refine ef_istore_n (pc := 6) d115_6 (ls' := [_, _, _, _, _]) rfl ?_
  refine ef_aload_n (pc := 7) d115_7 rfl ?_
  refine eg_getR (pc := 8) d115_8 lf_8_104 (by assumption) (by decide) (by assumption) ?_
  refine ef_iload_n (pc := 11) d115_11 rfl ?_
  refine eg_iald (pc := 12) d115_12 (i := c) (by assumption) (rfl) (by omega) ?_
  rw [hnx]
  refine ef_istore_n (pc := 13) d115_13 (ls' := [_, _, _, _, _]) rfl ?_
  refine ef_aload_n (pc := 14) d115_14 rfl ?_
  refine eg_getR (pc := 15) d115_15 lf_8_104 (by assumption) (by decide) (by assumption) ?_
  refine ef_iload_n (pc := 18) d115_18 rfl ?_
  refine ef_dup2 (pc := 19) d115_19 rfl rfl ?_
  refine eg_iald (pc := 20) d115_20 (i := c) (by assumption) (rfl) (by omega) ?_
  rw [hnx]
  refine ef_iconst (pc := 21) d115_21 (by decide) ?_
  refine ef_iadd (pc := 22) d115_22 (z := ((j + 1 : Nat) : Int)) (by omega) ⟨by omega, by omega⟩ ?_
  refine eg_iast (pc := 23) d115_23 (i := c) (by assumption) (rfl) (by omega) rfl ?_
  rw [hg1]
  refine ef_iload_n (pc := 24) d115_24 rfl ?_
  refine ef_bipush (pc := 25) d115_25 (by decide) ?_
  refine ef_icmp_geT (pc := 27) d115_27 (t := 82) rfl (by omega) ?_
  refine ef_iload_n (pc := 82) d115_82 rfl ?_
  refine ef_bipush (pc := 83) d115_83 (by decide) ?_
  refine ef_icmp_geT (pc := 85) d115_85 (t := 143) rfl (by omega) ?_
  refine ef_iload_n (pc := 143) d115_143 rfl ?_
  refine ef_bipush (pc := 144) d115_144 (by decide) ?_
  refine ef_icmp_geF (pc := 146) d115_146 (t := 195) rfl (by omega) ?_
  refine ef_iload_n (pc := 149) d115_149 rfl ?_
  refine ef_bipush (pc := 150) d115_150 (by decide) ?_
  refine ef_isub (pc := 152) d115_152 (z := ((mi + 40 : Nat) : Int)) (by omega) ⟨by omega, by omega⟩ ?_
  refine ef_bipush (pc := 153) d115_153 (by decide) ?_
  refine ef_isub (pc := 155) d115_155 (z := (mi : Int)) (by omega) ⟨by omega, by omega⟩ ?_
  refine ef_istore (pc := 156) d115_156 (ls' := [_, _, _, _, _]) rfl ?_
  refine ef_aload_n (pc := 158) d115_158 rfl ?_
  refine eg_getR (pc := 159) d115_159 lf_8_65 (by assumption) (by decide) (by assumption) ?_
  refine ef_iload (pc := 162) d115_162 rfl ?_
  refine eg_iald (pc := 164) d115_164 (i := mi) (by assumption) (rfl) (by omega) ?_
  rw [o1 _ (by omega)]
  refine ef_if_ltF (pc := 165) d115_165 (t := 192) rfl (by omega) ?_
  refine ef_aload_n (pc := 168) d115_168 rfl ?_
  refine eg_getR (pc := 169) d115_169 lf_8_71 (by assumption) (by decide) (by assumption) ?_
  refine ef_iload (pc := 172) d115_172 rfl ?_
  refine eg_iald (pc := 174) d115_174 (i := mi) (by assumption) (rfl) (by omega) ?_
  rw [o1 _ (by omega)]
  refine ef_iload_n (pc := 175) d115_175 rfl ?_
  refine ef_icmp_neF (pc := 176) d115_176 (t := 192) rfl (by exact hin) ?_
  refine ef_aload_n (pc := 179) d115_179 rfl ?_
  refine ef_aload_n (pc := 180) d115_180 rfl ?_
  refine eg_getR (pc := 181) d115_181 lf_8_68 (by assumption) (by decide) (by assumption) ?_
  refine ef_iload (pc := 184) d115_184 rfl ?_
  refine eg_iald (pc := 186) d115_186 (i := mi) (by assumption) (rfl) (by omega) ?_
  rw [o1 _ (by omega), hna]
  refine ef_iconst (pc := 187) d115_187 (by decide) ?_
  refine ef_iconst (pc := 188) d115_188 (by decide) ?_
  refine ef_callV (pc := 189) d115_189 lm_8_280 (as := [_, _, _]) rfl rfl (by assumption) rfl rfl (by decide) (Nat.le_of_ble_eq_true rfl) rfl (Nat.le_of_ble_eq_true rfl) ?_
  refine Ec.imp (c122 (d := d) hM d1 (by rw [em]; exact hf) (by rw [em]; exact hs) (by omega) hn1 hn2) ?_
  rintro r189 u189 ⟨g2, rfl, rfl, d2, s2, f2, ⟨z, z1, z2⟩, a2, b2⟩
  refine ef_goto (pc := 192) d115_192 (t := 225) rfl ?_
  refine ef_vret (pc := 225) d115_225 rfl ?_
  refine ⟨g2, rfl, rfl, d2, s2, by rw [f2, o1 _ (by omega)], ⟨z, by rw [z1, o1 _ (by omega)], z2⟩, by rw [a2 _ (by omega) (by omega) (by omega) (by omega), e32], fun a h1 h2 h3 h4 h5 => by rw [a2 a h1 h2 h3 h4, o1 a h5], fun f h1 h2 h3 => by rw [b2 f h1 h2 h3, em]⟩
theorem c115e {P : Pg} {d : Nat} {u : Mm} {g : Nat → Nat → Int} {m : Nat} {W : List Int} {b st c p : Nat} {br : Int} {Q : List (Nat × Nat)} (hM : MdA u m) (hWl : W.length ≤ 640) (h30 : g m 30 = 0) (hW : Row (g (m + 27)) W) (hs : g m 38 = ((b + Q.length : Nat) : Int)) (hs2 : b + Q.length < 119) (hQ : PcR g m b W.length Q) (hst : st ≤ W.length) (hst0 : b = 0 → st = 0) (hst1 : 0 < b → ∃ f0 h0 : Nat, g (m + 28) (b - 1) = (f0 : Int) ∧ g (m + 42) (b - 1) = (h0 : Int) ∧ f0 + h0 = st) (hc : g m 39 = ((c + 1 : Nat) : Int)) (hc2 : c < 38) (hbs : g (m + 33) c = (b : Int)) (hth : g (m + 31) c = (p : Int)) (hnx : g (m + 32) c = 91) (hbr : (p = 0 ∧ br = 0) ∨ (p ≠ 0 ∧ br = 91)) : Ec P (d + 2) 115 [vR m, vI (c : Int)] (sI u g) (fun x u' => ∃ g', u' = sI u g' ∧ x = .inl none ∧ DQ g' m (W.take st ++ brk br (srtT (Q.map (sub W)))) ∧ g' m 38 = (b : Int) ∧ (0 < b → (∀ i, i < b → g' (m + 28) i = g (m + 28) i) ∧ (∀ i, i + 1 < b → g' (m + 29) i = g (m + 29) i) ∧ ((W.take st ++ brk br (srtT (Q.map (sub W)))).length ≤ 640 → g' (m + 29) (b - 1) = ((W.take st ++ brk br (srtT (Q.map (sub W)))).length : Int) - g (m + 28) (b - 1)) ∧ g' m 49 = g m 49) ∧ (b = 0 → (W.take st ++ brk br (srtT (Q.map (sub W)))).length ≤ 640 → g' m 49 = ((W.take st ++ brk br (srtT (Q.map (sub W)))).length : Int)) ∧ (∀ a, a ≠ m → a ≠ m + 27 → a ≠ m + 28 → a ≠ m + 29 → a ≠ m + 32 → a ≠ m + 41 → g' a = g a) ∧ g' (m + 32) = u1 (g (m + 32)) c 92 ∧ g' m 39 = (c : Int) ∧ (∀ f, f ≠ 30 → f ≠ 37 → f ≠ 38 → f ≠ 39 → f ≠ 49 → g' m f = g m f)) := by
  have s0 := hM.1
  have f18 : mF u m 18 = some (m + 12) := (hM.2 11 (by decide)).1
  have s18 : mS u (m + 12) = some (0, 21) := (hM.2 11 (by decide)).2
  have f19 : mF u m 19 = some (m + 13) := (hM.2 12 (by decide)).1
  have s19 : mS u (m + 13) = some (0, 21) := (hM.2 12 (by decide)).2
  have f20 : mF u m 20 = some (m + 14) := (hM.2 13 (by decide)).1
  have s20 : mS u (m + 14) = some (0, 21) := (hM.2 13 (by decide)).2
  have f21 : mF u m 21 = some (m + 15) := (hM.2 14 (by decide)).1
  have s21 : mS u (m + 15) = some (0, 40) := (hM.2 14 (by decide)).2
  have f22 : mF u m 22 = some (m + 16) := (hM.2 15 (by decide)).1
  have s22 : mS u (m + 16) = some (0, 40) := (hM.2 15 (by decide)).2
  have f23 : mF u m 23 = some (m + 17) := (hM.2 16 (by decide)).1
  have s23 : mS u (m + 17) = some (0, 40) := (hM.2 16 (by decide)).2
  have f24 : mF u m 24 = some (m + 18) := (hM.2 17 (by decide)).1
  have s24 : mS u (m + 18) = some (0, 40) := (hM.2 17 (by decide)).2
  have f25 : mF u m 25 = some (m + 19) := (hM.2 18 (by decide)).1
  have s25 : mS u (m + 19) = some (0, 30) := (hM.2 18 (by decide)).2
  have f26 : mF u m 26 = some (m + 20) := (hM.2 19 (by decide)).1
  have s26 : mS u (m + 20) = some (0, 30) := (hM.2 19 (by decide)).2
  have f27 : mF u m 27 = some (m + 21) := (hM.2 20 (by decide)).1
  have s27 : mS u (m + 21) = some (0, 30) := (hM.2 20 (by decide)).2
  have f44 : mF u m 44 = some (m + 31) := (hM.2 30 (by decide)).1
  have s44 : mS u (m + 31) = some (0, 40) := (hM.2 30 (by decide)).2
  have f45 : mF u m 45 = some (m + 32) := (hM.2 31 (by decide)).1
  have s45 : mS u (m + 32) = some (0, 40) := (hM.2 31 (by decide)).2
  have f46 : mF u m 46 = some (m + 33) := (hM.2 32 (by decide)).1
  have s46 : mS u (m + 33) = some (0, 40) := (hM.2 32 (by decide)).2
  have z33 : u2 (u2 g (m + 32) c 92) m 39 (c : Int) (m + 33) c = (b : Int) := by rw [u2_ne (by omega), u2_ne (by omega)]; exact hbs
  change Ef P _ 115 0 [some (vR m), some (vI (c : Int)), none, none, none] [] _ _
  refine ef_aload_n (pc := 0) d115_0 rfl ?_
  refine eg_getR (pc := 1) d115_1 lf_8_101 (by assumption) (by decide) (by assumption) ?_
  refine ef_iload_n (pc := 4) d115_4 rfl ?_
  refine eg_iald (pc := 5) d115_5 (i := c) (by assumption) (rfl) (by omega) ?_
  rw [hth]
  refine ef_istore_n (pc := 6) d115_6 (ls' := [_, _, _, _, _]) rfl ?_
  refine ef_aload_n (pc := 7) d115_7 rfl ?_
  refine eg_getR (pc := 8) d115_8 lf_8_104 (by assumption) (by decide) (by assumption) ?_
  refine ef_iload_n (pc := 11) d115_11 rfl ?_
  refine eg_iald (pc := 12) d115_12 (i := c) (by assumption) (rfl) (by omega) ?_
  rw [hnx]
  refine ef_istore_n (pc := 13) d115_13 (ls' := [_, _, _, _, _]) rfl ?_
  refine ef_aload_n (pc := 14) d115_14 rfl ?_
  refine eg_getR (pc := 15) d115_15 lf_8_104 (by assumption) (by decide) (by assumption) ?_
  refine ef_iload_n (pc := 18) d115_18 rfl ?_
  refine ef_dup2 (pc := 19) d115_19 rfl rfl ?_
  refine eg_iald (pc := 20) d115_20 (i := c) (by assumption) (rfl) (by omega) ?_
  rw [hnx]
  refine ef_iconst (pc := 21) d115_21 (by decide) ?_
  refine ef_iadd (pc := 22) d115_22 (z := 92) (by omega) ⟨by omega, by omega⟩ ?_
  refine eg_iast (pc := 23) d115_23 (i := c) (by assumption) (rfl) (by omega) rfl ?_
  refine ef_iload_n (pc := 24) d115_24 rfl ?_
  refine ef_bipush (pc := 25) d115_25 (by decide) ?_
  refine ef_icmp_geT (pc := 27) d115_27 (t := 82) rfl (by decide) ?_
  refine ef_iload_n (pc := 82) d115_82 rfl ?_
  refine ef_bipush (pc := 83) d115_83 (by decide) ?_
  refine ef_icmp_geT (pc := 85) d115_85 (t := 143) rfl (by decide) ?_
  refine ef_iload_n (pc := 143) d115_143 rfl ?_
  refine ef_bipush (pc := 144) d115_144 (by decide) ?_
  refine ef_icmp_geT (pc := 146) d115_146 (t := 195) rfl (by decide) ?_
  refine ef_aload_n (pc := 195) d115_195 rfl ?_
  refine ef_dup (pc := 196) d115_196 rfl ?_
  refine eg_getI (pc := 197) d115_197 lf_8_245 (by assumption) (by decide) ?_
  rw [u2_ne (by omega), hc]
  refine ef_iconst (pc := 200) d115_200 (by decide) ?_
  refine ef_isub (pc := 201) d115_201 (z := (c : Int)) (by omega) ⟨by omega, by omega⟩ ?_
  refine eg_putI (pc := 202) d115_202 pf_115_245 (by assumption) (by decide) ?_
  refine ef_aload_n (pc := 205) d115_205 rfl ?_
  refine ef_aload_n (pc := 206) d115_206 rfl ?_
  refine eg_getR (pc := 207) d115_207 lf_8_107 (by assumption) (by decide) (by assumption) ?_
  refine ef_iload_n (pc := 210) d115_210 rfl ?_
  refine eg_iald (pc := 211) d115_211 (i := c) (by assumption) (rfl) (by omega) ?_
  rw [z33]
  refine ef_iload_n (pc := 212) d115_212 rfl ?_
  refine ef_if_ne (pc := 213) d115_213 (t := 220) rfl (fun h213 => ?_) (fun h213 => ?_)
  · have hb : br = 91 := by omega
    subst hb
    refine ef_bipush (pc := 220) d115_220 (by decide) ?_
    refine ef_callV (pc := 222) d115_222 lm_8_283 (as := [_, _]) rfl rfl (by assumption) rfl rfl (by decide) (Nat.le_of_ble_eq_true rfl) rfl (Nat.le_of_ble_eq_true rfl) ?_
    refine Ec.imp (c123 (d := d) (st := st) hM (by omega) hWl (by rw [u2_ni (by decide), u2_ne (by omega)]; exact h30) (by rw [u2_ne (by omega), u2_ne (by omega)]; exact hW) (by rw [u2_ni (by decide), u2_ne (by omega)]; exact hs) hs2 (fun i p hp => by rw [u2_ne (by omega), u2_ne (by omega), u2_ne (by omega), u2_ne (by omega)]; exact hQ i p hp) hst hst0 (fun h => by rw [u2_ne (by omega), u2_ne (by omega), u2_ne (by omega), u2_ne (by omega)]; exact hst1 h)) ?_
    rintro r222 u222 ⟨g2, rfl, rfl, d2, s2, p2, q2, a2, b2⟩
    refine ef_vret (pc := 225) d115_225 rfl ?_
    refine ⟨g2, rfl, rfl, d2, s2, fun h => ?_, q2, fun a h1 h2 h3 h4 h5 h6 => by rw [a2 a h1 h2 h3 h4 h6, u2_ne h1, u2_ne h5], by rw [a2 _ (by omega) (by omega) (by omega) (by omega) (by omega), u2_ne (by omega), u2_eq], by rw [b2 39 (by decide) (by decide) (by decide) (by decide), u2_at], fun f h1 h2 h3 h4 h5 => by rw [b2 f h1 h2 h3 h5, u2_ni h4, u2_ne (by omega)]⟩
    obtain ⟨i1, i2, i3, i4⟩ := p2 h
    refine ⟨fun i hi => by rw [i1 i hi, u2_ne (by omega), u2_ne (by omega)], fun i hi => by rw [i2 i hi, u2_ne (by omega), u2_ne (by omega)], fun hle => by rw [i3 hle, u2_ne (by omega), u2_ne (by omega)], by rw [i4, u2_ni (by decide), u2_ne (by omega)]⟩
  · have hb : br = 0 := by omega
    subst hb
    refine ef_iconst (pc := 216) d115_216 (by decide) ?_
    refine ef_goto (pc := 217) d115_217 (t := 222) rfl ?_
    refine ef_callV (pc := 222) d115_222 lm_8_283 (as := [_, _]) rfl rfl (by assumption) rfl rfl (by decide) (Nat.le_of_ble_eq_true rfl) rfl (Nat.le_of_ble_eq_true rfl) ?_
    refine Ec.imp (c123 (d := d) (st := st) hM (by omega) hWl (by rw [u2_ni (by decide), u2_ne (by omega)]; exact h30) (by rw [u2_ne (by omega), u2_ne (by omega)]; exact hW) (by rw [u2_ni (by decide), u2_ne (by omega)]; exact hs) hs2 (fun i p hp => by rw [u2_ne (by omega), u2_ne (by omega), u2_ne (by omega), u2_ne (by omega)]; exact hQ i p hp) hst hst0 (fun h => by rw [u2_ne (by omega), u2_ne (by omega), u2_ne (by omega), u2_ne (by omega)]; exact hst1 h)) ?_
    rintro r222 u222 ⟨g2, rfl, rfl, d2, s2, p2, q2, a2, b2⟩
    refine ef_vret (pc := 225) d115_225 rfl ?_
    refine ⟨g2, rfl, rfl, d2, s2, fun h => ?_, q2, fun a h1 h2 h3 h4 h5 h6 => by rw [a2 a h1 h2 h3 h4 h6, u2_ne h1, u2_ne h5], by rw [a2 _ (by omega) (by omega) (by omega) (by omega) (by omega), u2_ne (by omega), u2_eq], by rw [b2 39 (by decide) (by decide) (by decide) (by decide), u2_at], fun f h1 h2 h3 h4 h5 => by rw [b2 f h1 h2 h3 h5, u2_ni h4, u2_ne (by omega)]⟩
    obtain ⟨i1, i2, i3, i4⟩ := p2 h
    refine ⟨fun i hi => by rw [i1 i hi, u2_ne (by omega), u2_ne (by omega)], fun i hi => by rw [i2 i hi, u2_ne (by omega), u2_ne (by omega)], fun hle => by rw [i3 hle, u2_ne (by omega), u2_ne (by omega)], by rw [i4, u2_ni (by decide), u2_ne (by omega)]⟩
