/-! States: running, walked. Written by wip/whole/gen/c47.py. -/
theorem run_ok {P : Pg} {u : Mm} {s tm : Nat} {kd nm en : Nat → Int} (hA : StA u s) (hTm : TmA u tm) (hdj : tm + 6 ≤ s ∨ s + 21 ≤ tm) (hch : ∀ n, 0 ≤ nm n ∧ nm n < 65536) : ∀ (f n to : Nat) (pl mn : Int) (dp dd : Nat) (A : SS) (g : Nat → Nat → Int) (v2 v8 v9 : Option Vl), 50 ≤ n + f → to ≤ 50 → dp + dd = 8 → 1 ≤ dp → SR g s A → 0 ≤ A.2.2.2.1 → A.2.2.2.1 ≤ 2147483000 - ((to : Int) - (n : Int)) → A.2.2.2.1 ≤ 2147483000 → n ≤ to → Cl (afF en) n to → g (tm + 1) = kd → g (tm + 2) = nm → g (tm + 4) = en →
    Ef P (dd + 3) 47 16 [some (vR s), some (vR tm), v2, some (vI (to : Int)), some (vI pl), some (vI mn), some (vI (dp : Int)), some (vI (n : Int)), v8, v9] [] (sI u g) (fun x u' => ∃ g', u' = sI u g' ∧ x = .inl none ∧ Off s (s + 19) g g' ∧ SR g' s (runF kd nm (afF en) f n to pl mn dp A)) := by
  obtain ⟨q0, q1, q2, q3, q4, hP, hG, hM, hL⟩ := id hA
  obtain ⟨a0, a1, a2, a3, a4, a5, a6, a7, a8, a9, a10⟩ := id hP
  obtain ⟨b0, b1, b2, b3, b4, b5, b6, b7, b8, b9, b10⟩ := id hG
  obtain ⟨c0, c1, c2, c3, c4, c5, c6, c7', c8', c9, c10⟩ := id hM
  obtain ⟨k0, k1, k2, k3, k4, k5, k6, k7, k8, k9, k10⟩ := id hTm
  intro f
  induction f with
  | zero =>
    intro n to pl mn dp dd A g v2 v8 v9 hf hto hdp h1 hS h0 hb hb2 hnt hcl hkd hnm hen
    refine ef_iload (pc := 16) d47_16 rfl ?_
    refine ef_iload_n (pc := 18) d47_18 rfl ?_
    refine ef_icmp_geT (pc := 19) d47_19 (t := 144) rfl (by omega) ?_
    refine ef_vret (pc := 144) d47_144 rfl ?_
    exact ⟨_, rfl, rfl, Off.refl, hS⟩
  | succ f ih =>
    intro n to pl mn dp dd A g v2 v8 v9 hf hto hdp h1 hS h0 hb hb2 hnt hcl hkd hnm hen
    have hfu := hS.2.2.2.2.1
    have hnx := hS.2.2.2.1
    by_cases hc : to ≤ n ∨ A.2.2.2.2 = true
    · have hr : runF kd nm (afF en) (f + 1) n to pl mn dp A = A := by rw [runF, if_pos hc]
      rw [hr]
      by_cases hc1 : to ≤ n
      · refine ef_iload (pc := 16) d47_16 rfl ?_
        refine ef_iload_n (pc := 18) d47_18 rfl ?_
        refine ef_icmp_geT (pc := 19) d47_19 (t := 144) rfl (by omega) ?_
        refine ef_vret (pc := 144) d47_144 rfl ?_
        exact ⟨_, rfl, rfl, Off.refl, hS⟩
      · refine ef_iload (pc := 16) d47_16 rfl ?_
        refine ef_iload_n (pc := 18) d47_18 rfl ?_
        refine ef_icmp_geF (pc := 19) d47_19 (t := 144) rfl (by omega) ?_
        refine ef_aload_n (pc := 22) d47_22 rfl ?_
        refine eg_getZ (pc := 23) d47_23 lf_4_40 (by assumption) (by decide) ?_
        rw [hfu, hc.resolve_left hc1]
        refine ef_if_neT (pc := 26) d47_26 (t := 144) rfl (by decide) ?_
        refine ef_vret (pc := 144) d47_144 rfl ?_
        exact ⟨_, rfl, rfl, Off.refl, hS⟩
    have hn2 : n < to := by omega
    have hfal : A.2.2.2.2 = false := by
      cases hq : A.2.2.2.2
      · rfl
      · exact absurd (Or.inr hq) hc
    have hal := hcl n (Nat.le_refl _) hn2
    have hbn := addS_nx (k := kd n) (e := (A.2.2.2.1, (pl, (mtF (nm n) mn, ((n : Int), mn))))) (A := A)
    have hnx2 := fun X => runF_nx (kd := kd) (nm := nm) f (n + 1) (afF en n) A.2.2.2.1 mn (dp + 1) X (hcl.inn (Nat.le_refl _) hn2) (by omega)
    rw [runF, if_neg hc]
    generalize hBd : addS (kd n) (A.2.2.2.1, (pl, (mtF (nm n) mn, ((n : Int), mn)))) A = B at hbn ⊢
    simp only at hbn
    have last : ∀ g3 C v8 v9, Off s (s + 19) g g3 → SR g3 s C → A.2.2.2.1 ≤ C.2.2.2.1 → C.2.2.2.1 ≤ A.2.2.2.1 + ((afF en n : Int) - (n : Int)) → Ef P (dd + 3) 47 133 [some (vR s), some (vR tm), v2, some (vI (to : Int)), some (vI pl), some (vI mn), some (vI (dp : Int)), some (vI (n : Int)), v8, v9] [] (sI u g3) (fun x u' => ∃ g', u' = sI u g' ∧ x = .inl none ∧ Off s (s + 19) g g' ∧ SR g' s (runF kd nm (afF en) f (afF en n) to pl mn dp C)) := by
      intro g3 C v8 v9 ho hC hl1 hl2
      refine ef_aload_n (pc := 133) d47_133 rfl ?_
      refine ef_iload (pc := 134) d47_134 rfl ?_
      refine ef_callV (pc := 136) d47_136 lm_4_128 (as := [_]) rfl rfl (by assumption) rfl rfl (by decide) (Nat.le_of_ble_eq_true rfl) rfl (Nat.le_of_ble_eq_true rfl) ?_
      refine Ec.imp (c82 hTm (by omega) ((ho _ (by omega)).trans hen)) ?_
      rintro r136 u136 ⟨rfl, rfl⟩
      refine ef_istore (pc := 139) d47_139 (ls' := [_, _, _, _, _, _, _, _, _, _]) rfl ?_
      refine ef_goto (pc := 141) d47_141 (t := 16) rfl ?_
      refine Ef.imp (ih (afF en n) to pl mn dp dd C g3 _ _ _ (by omega) hto hdp h1 hC (by omega) (by omega) (by omega) hal.2.1 (hcl.beh hn2) ((ho _ (by omega)).trans hkd) ((ho _ (by omega)).trans hnm) ((ho _ (by omega)).trans hen)) ?_
      rintro x u' ⟨g', rfl, rfl, o2, t2⟩
      exact ⟨g', rfl, rfl, ho.trans o2, t2⟩
    have mid : ∀ g2 v9, Off s (s + 19) g g2 → SR g2 s B → Ef P (dd + 3) 47 92 [some (vR s), some (vR tm), v2, some (vI (to : Int)), some (vI pl), some (vI mn), some (vI (dp : Int)), some (vI (n : Int)), some (vI A.2.2.2.1), v9] [] (sI u g2) (fun x u' => ∃ g', u' = sI u g' ∧ x = .inl none ∧ Off s (s + 19) g g' ∧ SR g' s (runF kd nm (afF en) f (afF en n) to pl mn dp (if kd n = 4 ∧ B.2.2.2.2 = false then (if 8 ≤ dp then tooS B else runF kd nm (afF en) f (n + 1) (afF en n) A.2.2.2.1 mn (dp + 1) B) else B))) := by
      intro g2 v9 ho hB
      have hk2 : g2 (tm + 1) = kd := (ho _ (by omega)).trans hkd
      have hn2' : g2 (tm + 2) = nm := (ho _ (by omega)).trans hnm
      have he2 : g2 (tm + 4) = en := (ho _ (by omega)).trans hen
      have hfb := hB.2.2.2.2.1
      refine ef_aload_n (pc := 92) d47_92 rfl ?_
      refine eg_getR (pc := 93) d47_93 lf_4_105 (by assumption) (by decide) (by assumption) ?_
      refine ef_iload (pc := 96) d47_96 rfl ?_
      refine eg_iald (pc := 98) d47_98 (by assumption) rfl (by omega) ?_
      rw [hk2]
      refine ef_iconst (pc := 99) d47_99 (by decide) ?_
      refine ef_icmp_ne (pc := 100) d47_100 (t := 133) rfl (fun h100 => ?_) (fun h100 => ?_)
      · rw [if_neg (show ¬ (kd n = 4 ∧ B.2.2.2.2 = false) from fun hh => h100 hh.1)]
        exact last g2 B _ _ ho hB (by omega) (by omega)
      · refine ef_aload_n (pc := 103) d47_103 rfl ?_
        refine eg_getZ (pc := 104) d47_104 lf_4_40 (by assumption) (by decide) ?_
        rw [hfb]
        refine ef_if_ne (pc := 107) d47_107 (t := 133) rfl (fun h107 => ?_) (fun h107 => ?_)
        · rw [if_neg (show ¬ (kd n = 4 ∧ B.2.2.2.2 = false) from fun hh => h107 (by rw [hh.2]; rfl))]
          exact last g2 B _ _ ho hB (by omega) (by omega)
        · have hbf : B.2.2.2.2 = false := by
            cases hq : B.2.2.2.2
            · rfl
            · rw [hq] at h107; exact absurd h107 (by decide)
          rw [if_pos ⟨h100, hbf⟩]
          refine ef_aload_n (pc := 110) d47_110 rfl ?_
          refine ef_aload_n (pc := 111) d47_111 rfl ?_
          refine ef_iload (pc := 112) d47_112 rfl ?_
          refine ef_iconst (pc := 114) d47_114 (by decide) ?_
          refine ef_iadd (pc := 115) d47_115 (z := ((n + 1 : Nat) : Int)) (by omega) ⟨by omega, by omega⟩ ?_
          refine ef_aload_n (pc := 116) d47_116 rfl ?_
          refine ef_iload (pc := 117) d47_117 rfl ?_
          refine ef_callV (pc := 119) d47_119 lm_4_128 (as := [_]) rfl rfl (by assumption) rfl rfl (by decide) (Nat.le_of_ble_eq_true rfl) rfl (Nat.le_of_ble_eq_true rfl) ?_
          refine Ec.imp (c82 hTm (by omega) he2) ?_
          rintro r119 u119 ⟨rfl, rfl⟩
          refine ef_iload (pc := 122) d47_122 rfl ?_
          refine ef_iload (pc := 124) d47_124 rfl ?_
          refine ef_iload (pc := 126) d47_126 rfl ?_
          refine ef_iconst (pc := 128) d47_128 (by decide) ?_
          refine ef_iadd (pc := 129) d47_129 (z := ((dp + 1 : Nat) : Int)) (by omega) ⟨by omega, by omega⟩ ?_
          refine ef_callV (pc := 130) d47_130 lm_4_65 (as := [_, _, _, _, _, _]) rfl rfl (by assumption) rfl rfl (by decide) (Nat.le_of_ble_eq_true rfl) rfl (Nat.le_of_ble_eq_true rfl) ?_
          by_cases h8 : 8 ≤ dp
          · have h9 : dp = 8 := by omega
            subst h9
            refine Ec.imp (c47x hA hB) ?_
            rintro r130 u130 ⟨g3, rfl, rfl, o3, t3⟩
            rw [if_pos h8]
            exact last g3 (tooS B) _ _ (ho.trans o3) t3 (by show A.2.2.2.1 ≤ B.2.2.2.1; omega) (by show B.2.2.2.1 ≤ _; omega)
          · rw [if_neg h8]
            obtain ⟨d2, rfl⟩ : ∃ d2, dd = d2 + 1 := ⟨dd - 1, by omega⟩
            have h5 := hnx2 B
            refine Ec.imp (show Ec P (d2 + 3) 47 [vR s, vR tm, vI ((n + 1 : Nat) : Int), vI ((afF en n : Nat) : Int), vI A.2.2.2.1, vI mn, vI ((dp + 1 : Nat) : Int)] (sI u g2) (fun x u' => ∃ g', u' = sI u g' ∧ x = .inl none ∧ Off s (s + 19) g2 g' ∧ SR g' s (runF kd nm (afF en) f (n + 1) (afF en n) A.2.2.2.1 mn (dp + 1) B)) from ?_) ?_
            · change Ef P _ 47 0 [some (vR s), some (vR tm), some (vI ((n + 1 : Nat) : Int)), some (vI ((afF en n : Nat) : Int)), some (vI A.2.2.2.1), some (vI mn), some (vI ((dp + 1 : Nat) : Int)), none, none, none] [] _ _
              refine ef_iload (pc := 0) d47_0 rfl ?_
              refine ef_bipush (pc := 2) d47_2 (by decide) ?_
              refine ef_icmp_leT (pc := 4) d47_4 (t := 13) rfl (by omega) ?_
              refine ef_iload_n (pc := 13) d47_13 rfl ?_
              refine ef_istore (pc := 14) d47_14 (ls' := [_, _, _, _, _, _, _, _, _, _]) rfl ?_
              exact ih (n + 1) (afF en n) A.2.2.2.1 mn (dp + 1) d2 B g2 _ _ _ (by omega) (by omega) (by omega) (by omega) hB (by omega) (by omega) (by omega) (by omega) (hcl.inn (Nat.le_refl _) hn2) hk2 hn2' he2
            · rintro r130 u130 ⟨g3, rfl, rfl, o3, t3⟩
              exact last g3 _ _ _ (ho.trans o3) t3 (by omega) (by omega)
    by_cases h4 : kd n = 4
    · refine ef_iload (pc := 16) d47_16 rfl ?_
      refine ef_iload_n (pc := 18) d47_18 rfl ?_
      refine ef_icmp_geF (pc := 19) d47_19 (t := 144) rfl (by omega) ?_
      refine ef_aload_n (pc := 22) d47_22 rfl ?_
      refine eg_getZ (pc := 23) d47_23 lf_4_40 (by assumption) (by decide) ?_
      rw [hfu, hfal]
      refine ef_if_neF (pc := 26) d47_26 (t := 144) rfl (by decide) ?_
      refine ef_aload_n (pc := 29) d47_29 rfl ?_
      refine ef_dup (pc := 30) d47_30 rfl ?_
      refine eg_getI (pc := 31) d47_31 lf_4_37 (by assumption) (by decide) ?_
      rw [hnx]
      refine ef_dup_x1 (pc := 34) d47_34 rfl rfl ?_
      refine ef_iconst (pc := 35) d47_35 (by decide) ?_
      refine ef_iadd (pc := 36) d47_36 rfl ⟨by omega, by omega⟩ ?_
      refine eg_putI (pc := 37) d47_37 pf_47_37 (by assumption) (by decide) ?_
      have o1 : Off s (s + 1) g (u2 g s 4 (A.2.2.2.1 + 1)) := Off.refl.up (by omega) (by omega)
      refine ef_istore (pc := 40) d47_40 (ls' := [_, _, _, _, _, _, _, _, _, _]) rfl ?_
      refine ef_aload_n (pc := 42) d47_42 rfl ?_
      refine eg_getR (pc := 43) d47_43 lf_4_118 (by assumption) (by decide) (by assumption) ?_
      refine ef_iload (pc := 46) d47_46 rfl ?_
      refine eg_cald (pc := 48) d47_48 (by assumption) rfl (by omega) ?_
      try simp (disch := omega) only [u2_ne, u2_at, u2_ni, ur_ne, ur_eq]
      rw [hnm]
      refine ef_iload (pc := 49) d47_49 rfl ?_
      refine ef_callS (pc := 51) d47_51 lm_4_136 (as := [_, _]) rfl rfl rfl (Nat.le_of_ble_eq_true rfl) rfl (Nat.le_of_ble_eq_true rfl) ?_
      refine Ec.imp (c7 (hch n).1 (hch n).2) ?_
      rintro r51 u51 ⟨rfl, rfl⟩
      refine ef_istore (pc := 54) d47_54 (ls' := [_, _, _, _, _, _, _, _, _, _]) rfl ?_
      refine ef_aload_n (pc := 56) d47_56 rfl ?_
      refine ef_aload_n (pc := 57) d47_57 rfl ?_
      refine ef_aload_n (pc := 58) d47_58 rfl ?_
      refine eg_getR (pc := 59) d47_59 lf_4_105 (by assumption) (by decide) (by assumption) ?_
      refine ef_iload (pc := 62) d47_62 rfl ?_
      refine eg_iald (pc := 64) d47_64 (by assumption) rfl (by omega) ?_
      try simp (disch := omega) only [u2_ne, u2_at, u2_ni, ur_ne, ur_eq]
      rw [hkd]
      refine ef_callV (pc := 65) d47_65 lm_4_140 (as := [_]) rfl rfl (by assumption) rfl rfl (by decide) (Nat.le_of_ble_eq_true rfl) rfl (Nat.le_of_ble_eq_true rfl) ?_
      refine Ec.imp (c48 hA) ?_
      rintro r65 u65 ⟨rfl, rfl⟩
      rw [if_pos h4]
      refine ef_iload (pc := 68) d47_68 rfl ?_
      refine ef_iload (pc := 70) d47_70 rfl ?_
      refine ef_iload (pc := 72) d47_72 rfl ?_
      refine ef_iload (pc := 74) d47_74 rfl ?_
      refine ef_iload (pc := 76) d47_76 rfl ?_
      refine ef_callV (pc := 78) d47_78 lm_4_144 (as := [_, _, _, _, _]) rfl rfl (by assumption) rfl rfl (by decide) (Nat.le_of_ble_eq_true rfl) rfl (Nat.le_of_ble_eq_true rfl) ?_
      refine Ec.imp (c84 (by assumption) (hS.1.same o1 (by omega)) (by have := hS.len; omega) (by decide)) ?_
      rintro r78 u78 ⟨g2, rfl, o2, yy, zz⟩
      by_cases hr : A.1.length < 20
      · rw [(yy (by omega)).1]
        refine ef_if_neT (pc := 81) d47_81 (t := 88) rfl (by decide) ?_
        refine ef_iconst (pc := 88) d47_88 (by decide) ?_
        refine eg_putZ (pc := 89) d47_89 pf_47_40 (by assumption) (by decide) (by decide) ?_
        have o3 : Off s (s + 1) g2 (u2 g2 s 5 0) := Off.refl.up (by omega) (by omega)
        refine mid _ _ (((o1.wide (by omega) (by omega)).trans (o2.wide (by omega) (by omega))).trans (o3.wide (by omega) (by omega))) ?_
        rw [← hBd, addS, if_pos h4, if_pos hr]
        refine ⟨(yy (by omega)).2.same o3 (by omega), ((hS.2.1.same o1 (by omega)).same o2 (by omega)).same o3 (by omega), ((hS.2.2.1.same o1 (by omega)).same o2 (by omega)).same o3 (by omega), ?_, u2_at, by simp; omega, hS.len.2.1, hS.len.2.2⟩
        rw [u2_ni (by omega)]; rw [o2 s (by omega), u2_at]
      · rw [(zz (by omega)).1]
        refine ef_if_neF (pc := 81) d47_81 (t := 88) rfl (by decide) ?_
        refine ef_iconst (pc := 84) d47_84 (by decide) ?_
        refine ef_goto (pc := 85) d47_85 (t := 89) rfl ?_
        refine eg_putZ (pc := 89) d47_89 pf_47_40 (by assumption) (by decide) (by decide) ?_
        have o3 : Off s (s + 1) g2 (u2 g2 s 5 1) := Off.refl.up (by omega) (by omega)
        refine mid _ _ (((o1.wide (by omega) (by omega)).trans (o2.wide (by omega) (by omega))).trans (o3.wide (by omega) (by omega))) ?_
        rw [← hBd, addS, if_pos h4, if_neg hr]
        have hg := (zz (by omega)).2
        subst hg
        refine ⟨((hS.1.same o1 (by omega))).same o3 (by omega), ((hS.2.1.same o1 (by omega)).same o2 (by omega)).same o3 (by omega), ((hS.2.2.1.same o1 (by omega)).same o2 (by omega)).same o3 (by omega), ?_, u2_at, hS.len.1, hS.len.2.1, hS.len.2.2⟩
        rw [u2_ni (by omega)]; rw [u2_at]
    by_cases h5 : kd n = 5
    · refine ef_iload (pc := 16) d47_16 rfl ?_
      refine ef_iload_n (pc := 18) d47_18 rfl ?_
      refine ef_icmp_geF (pc := 19) d47_19 (t := 144) rfl (by omega) ?_
      refine ef_aload_n (pc := 22) d47_22 rfl ?_
      refine eg_getZ (pc := 23) d47_23 lf_4_40 (by assumption) (by decide) ?_
      rw [hfu, hfal]
      refine ef_if_neF (pc := 26) d47_26 (t := 144) rfl (by decide) ?_
      refine ef_aload_n (pc := 29) d47_29 rfl ?_
      refine ef_dup (pc := 30) d47_30 rfl ?_
      refine eg_getI (pc := 31) d47_31 lf_4_37 (by assumption) (by decide) ?_
      rw [hnx]
      refine ef_dup_x1 (pc := 34) d47_34 rfl rfl ?_
      refine ef_iconst (pc := 35) d47_35 (by decide) ?_
      refine ef_iadd (pc := 36) d47_36 rfl ⟨by omega, by omega⟩ ?_
      refine eg_putI (pc := 37) d47_37 pf_47_37 (by assumption) (by decide) ?_
      have o1 : Off s (s + 1) g (u2 g s 4 (A.2.2.2.1 + 1)) := Off.refl.up (by omega) (by omega)
      refine ef_istore (pc := 40) d47_40 (ls' := [_, _, _, _, _, _, _, _, _, _]) rfl ?_
      refine ef_aload_n (pc := 42) d47_42 rfl ?_
      refine eg_getR (pc := 43) d47_43 lf_4_118 (by assumption) (by decide) (by assumption) ?_
      refine ef_iload (pc := 46) d47_46 rfl ?_
      refine eg_cald (pc := 48) d47_48 (by assumption) rfl (by omega) ?_
      try simp (disch := omega) only [u2_ne, u2_at, u2_ni, ur_ne, ur_eq]
      rw [hnm]
      refine ef_iload (pc := 49) d47_49 rfl ?_
      refine ef_callS (pc := 51) d47_51 lm_4_136 (as := [_, _]) rfl rfl rfl (Nat.le_of_ble_eq_true rfl) rfl (Nat.le_of_ble_eq_true rfl) ?_
      refine Ec.imp (c7 (hch n).1 (hch n).2) ?_
      rintro r51 u51 ⟨rfl, rfl⟩
      refine ef_istore (pc := 54) d47_54 (ls' := [_, _, _, _, _, _, _, _, _, _]) rfl ?_
      refine ef_aload_n (pc := 56) d47_56 rfl ?_
      refine ef_aload_n (pc := 57) d47_57 rfl ?_
      refine ef_aload_n (pc := 58) d47_58 rfl ?_
      refine eg_getR (pc := 59) d47_59 lf_4_105 (by assumption) (by decide) (by assumption) ?_
      refine ef_iload (pc := 62) d47_62 rfl ?_
      refine eg_iald (pc := 64) d47_64 (by assumption) rfl (by omega) ?_
      try simp (disch := omega) only [u2_ne, u2_at, u2_ni, ur_ne, ur_eq]
      rw [hkd]
      refine ef_callV (pc := 65) d47_65 lm_4_140 (as := [_]) rfl rfl (by assumption) rfl rfl (by decide) (Nat.le_of_ble_eq_true rfl) rfl (Nat.le_of_ble_eq_true rfl) ?_
      refine Ec.imp (c48 hA) ?_
      rintro r65 u65 ⟨rfl, rfl⟩
      rw [if_neg h4, if_pos h5]
      refine ef_iload (pc := 68) d47_68 rfl ?_
      refine ef_iload (pc := 70) d47_70 rfl ?_
      refine ef_iload (pc := 72) d47_72 rfl ?_
      refine ef_iload (pc := 74) d47_74 rfl ?_
      refine ef_iload (pc := 76) d47_76 rfl ?_
      refine ef_callV (pc := 78) d47_78 lm_4_144 (as := [_, _, _, _, _]) rfl rfl (by assumption) rfl rfl (by decide) (Nat.le_of_ble_eq_true rfl) rfl (Nat.le_of_ble_eq_true rfl) ?_
      refine Ec.imp (c84 (by assumption) (hS.2.2.1.same o1 (by omega)) (by have := hS.len; omega) (by decide)) ?_
      rintro r78 u78 ⟨g2, rfl, o2, yy, zz⟩
      by_cases hr : A.2.2.1.length < 30
      · rw [(yy (by omega)).1]
        refine ef_if_neT (pc := 81) d47_81 (t := 88) rfl (by decide) ?_
        refine ef_iconst (pc := 88) d47_88 (by decide) ?_
        refine eg_putZ (pc := 89) d47_89 pf_47_40 (by assumption) (by decide) (by decide) ?_
        have o3 : Off s (s + 1) g2 (u2 g2 s 5 0) := Off.refl.up (by omega) (by omega)
        refine mid _ _ (((o1.wide (by omega) (by omega)).trans (o2.wide (by omega) (by omega))).trans (o3.wide (by omega) (by omega))) ?_
        rw [← hBd, addS, if_neg h4, if_pos h5, if_pos hr]
        refine ⟨((hS.1.same o1 (by omega)).same o2 (by omega)).same o3 (by omega), ((hS.2.1.same o1 (by omega)).same o2 (by omega)).same o3 (by omega), (yy (by omega)).2.same o3 (by omega), ?_, u2_at, hS.len.1, hS.len.2.1, by simp; omega⟩
        rw [u2_ni (by omega)]; rw [o2 s (by omega), u2_at]
      · rw [(zz (by omega)).1]
        refine ef_if_neF (pc := 81) d47_81 (t := 88) rfl (by decide) ?_
        refine ef_iconst (pc := 84) d47_84 (by decide) ?_
        refine ef_goto (pc := 85) d47_85 (t := 89) rfl ?_
        refine eg_putZ (pc := 89) d47_89 pf_47_40 (by assumption) (by decide) (by decide) ?_
        have o3 : Off s (s + 1) g2 (u2 g2 s 5 1) := Off.refl.up (by omega) (by omega)
        refine mid _ _ (((o1.wide (by omega) (by omega)).trans (o2.wide (by omega) (by omega))).trans (o3.wide (by omega) (by omega))) ?_
        rw [← hBd, addS, if_neg h4, if_pos h5, if_neg hr]
        have hg := (zz (by omega)).2
        subst hg
        refine ⟨((hS.1.same o1 (by omega)).same o2 (by omega)).same o3 (by omega), ((hS.2.1.same o1 (by omega)).same o2 (by omega)).same o3 (by omega), ((hS.2.2.1.same o1 (by omega))).same o3 (by omega), ?_, u2_at, hS.len.1, hS.len.2.1, hS.len.2.2⟩
        rw [u2_ni (by omega)]; rw [u2_at]
    refine ef_iload (pc := 16) d47_16 rfl ?_
    refine ef_iload_n (pc := 18) d47_18 rfl ?_
    refine ef_icmp_geF (pc := 19) d47_19 (t := 144) rfl (by omega) ?_
    refine ef_aload_n (pc := 22) d47_22 rfl ?_
    refine eg_getZ (pc := 23) d47_23 lf_4_40 (by assumption) (by decide) ?_
    rw [hfu, hfal]
    refine ef_if_neF (pc := 26) d47_26 (t := 144) rfl (by decide) ?_
    refine ef_aload_n (pc := 29) d47_29 rfl ?_
    refine ef_dup (pc := 30) d47_30 rfl ?_
    refine eg_getI (pc := 31) d47_31 lf_4_37 (by assumption) (by decide) ?_
    rw [hnx]
    refine ef_dup_x1 (pc := 34) d47_34 rfl rfl ?_
    refine ef_iconst (pc := 35) d47_35 (by decide) ?_
    refine ef_iadd (pc := 36) d47_36 rfl ⟨by omega, by omega⟩ ?_
    refine eg_putI (pc := 37) d47_37 pf_47_37 (by assumption) (by decide) ?_
    have o1 : Off s (s + 1) g (u2 g s 4 (A.2.2.2.1 + 1)) := Off.refl.up (by omega) (by omega)
    refine ef_istore (pc := 40) d47_40 (ls' := [_, _, _, _, _, _, _, _, _, _]) rfl ?_
    refine ef_aload_n (pc := 42) d47_42 rfl ?_
    refine eg_getR (pc := 43) d47_43 lf_4_118 (by assumption) (by decide) (by assumption) ?_
    refine ef_iload (pc := 46) d47_46 rfl ?_
    refine eg_cald (pc := 48) d47_48 (by assumption) rfl (by omega) ?_
    try simp (disch := omega) only [u2_ne, u2_at, u2_ni, ur_ne, ur_eq]
    rw [hnm]
    refine ef_iload (pc := 49) d47_49 rfl ?_
    refine ef_callS (pc := 51) d47_51 lm_4_136 (as := [_, _]) rfl rfl rfl (Nat.le_of_ble_eq_true rfl) rfl (Nat.le_of_ble_eq_true rfl) ?_
    refine Ec.imp (c7 (hch n).1 (hch n).2) ?_
    rintro r51 u51 ⟨rfl, rfl⟩
    refine ef_istore (pc := 54) d47_54 (ls' := [_, _, _, _, _, _, _, _, _, _]) rfl ?_
    refine ef_aload_n (pc := 56) d47_56 rfl ?_
    refine ef_aload_n (pc := 57) d47_57 rfl ?_
    refine ef_aload_n (pc := 58) d47_58 rfl ?_
    refine eg_getR (pc := 59) d47_59 lf_4_105 (by assumption) (by decide) (by assumption) ?_
    refine ef_iload (pc := 62) d47_62 rfl ?_
    refine eg_iald (pc := 64) d47_64 (by assumption) rfl (by omega) ?_
    try simp (disch := omega) only [u2_ne, u2_at, u2_ni, ur_ne, ur_eq]
    rw [hkd]
    refine ef_callV (pc := 65) d47_65 lm_4_140 (as := [_]) rfl rfl (by assumption) rfl rfl (by decide) (Nat.le_of_ble_eq_true rfl) rfl (Nat.le_of_ble_eq_true rfl) ?_
    refine Ec.imp (c48 hA) ?_
    rintro r65 u65 ⟨rfl, rfl⟩
    rw [if_neg h4, if_neg h5]
    refine ef_iload (pc := 68) d47_68 rfl ?_
    refine ef_iload (pc := 70) d47_70 rfl ?_
    refine ef_iload (pc := 72) d47_72 rfl ?_
    refine ef_iload (pc := 74) d47_74 rfl ?_
    refine ef_iload (pc := 76) d47_76 rfl ?_
    refine ef_callV (pc := 78) d47_78 lm_4_144 (as := [_, _, _, _, _]) rfl rfl (by assumption) rfl rfl (by decide) (Nat.le_of_ble_eq_true rfl) rfl (Nat.le_of_ble_eq_true rfl) ?_
    refine Ec.imp (c84 (by assumption) (hS.2.1.same o1 (by omega)) (by have := hS.len; omega) (by decide)) ?_
    rintro r78 u78 ⟨g2, rfl, o2, yy, zz⟩
    by_cases hr : A.2.1.length < 40
    · rw [(yy (by omega)).1]
      refine ef_if_neT (pc := 81) d47_81 (t := 88) rfl (by decide) ?_
      refine ef_iconst (pc := 88) d47_88 (by decide) ?_
      refine eg_putZ (pc := 89) d47_89 pf_47_40 (by assumption) (by decide) (by decide) ?_
      have o3 : Off s (s + 1) g2 (u2 g2 s 5 0) := Off.refl.up (by omega) (by omega)
      refine mid _ _ (((o1.wide (by omega) (by omega)).trans (o2.wide (by omega) (by omega))).trans (o3.wide (by omega) (by omega))) ?_
      rw [← hBd, addS, if_neg h4, if_neg h5, if_pos hr]
      refine ⟨((hS.1.same o1 (by omega)).same o2 (by omega)).same o3 (by omega), (yy (by omega)).2.same o3 (by omega), ((hS.2.2.1.same o1 (by omega)).same o2 (by omega)).same o3 (by omega), ?_, u2_at, hS.len.1, by simp; omega, hS.len.2.2⟩
      rw [u2_ni (by omega)]; rw [o2 s (by omega), u2_at]
    · rw [(zz (by omega)).1]
      refine ef_if_neF (pc := 81) d47_81 (t := 88) rfl (by decide) ?_
      refine ef_iconst (pc := 84) d47_84 (by decide) ?_
      refine ef_goto (pc := 85) d47_85 (t := 89) rfl ?_
      refine eg_putZ (pc := 89) d47_89 pf_47_40 (by assumption) (by decide) (by decide) ?_
      have o3 : Off s (s + 1) g2 (u2 g2 s 5 1) := Off.refl.up (by omega) (by omega)
      refine mid _ _ (((o1.wide (by omega) (by omega)).trans (o2.wide (by omega) (by omega))).trans (o3.wide (by omega) (by omega))) ?_
      rw [← hBd, addS, if_neg h4, if_neg h5, if_neg hr]
      have hg := (zz (by omega)).2
      subst hg
      refine ⟨((hS.1.same o1 (by omega)).same o2 (by omega)).same o3 (by omega), ((hS.2.1.same o1 (by omega))).same o3 (by omega), ((hS.2.2.1.same o1 (by omega)).same o2 (by omega)).same o3 (by omega), ?_, u2_at, hS.len.1, hS.len.2.1, hS.len.2.2⟩
      rw [u2_ni (by omega)]; rw [u2_at]
