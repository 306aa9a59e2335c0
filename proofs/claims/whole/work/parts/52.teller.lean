/-! The teller: heads, joining. Written by wip/whole/gen/c52.py. -/
def putsT (cs : List Int) (S : TS) : TS := cs.foldl (fun S c => putT c S) S
def hdT (kd nm rp : Nat → Int) (n : Nat) (m : Int) : List Int := if kd n = 4 then [nmT (nm n) m, 91] else if kd n = 5 then [39, nmT (nm n) m] else (if rp n = 0 then [] else [33]) ++ [sgnC (kd n), nmT (nm n) m, 46]
theorem c64 {P : Pg} {d : Nat} {u : Mm} {g : Nat → Nat → Int} {l tm n : Nat} {S : TS} {m : Int} {kd nm rp : Nat → Int} (hA : TlA u l) (hTm : TmA u tm) (hdj : tm + 6 ≤ l ∨ l + 5 ≤ tm) (hsv : mS u (pSv P) = none) (hS : TL g l S) (hn : n < 50) (hch : ∀ n, 0 ≤ nm n ∧ nm n < 65536) (hk : 0 ≤ kd n ∧ kd n ≤ 5) (hkd : g (tm + 1) = kd) (hnm : g (tm + 2) = nm) (hrp : g (tm + 3) = rp) : Ec P (d + 4) 64 [vR l, vR tm, vI (n : Int), vI m] (sI u g) (fun x u' => ∃ g', u' = sI u g' ∧ x = .inl none ∧ Off l (l + 5) g g' ∧ TL g' l (putsT (hdT kd nm rp n m) S)) := by
  obtain ⟨y0, y1, y2, y3, y4, y5, y6, y7, y8⟩ := id hA
  obtain ⟨k0, k1, k2, k3, k4, k5, k6, k7, k8, k9, k10⟩ := id hTm
  have hsr := sgnC_rg (x := kd n)
  change Ef P _ 64 0 [some (vR l), some (vR tm), some (vI (n : Int)), some (vI m), none] [] _ _
  refine ef_aload_n (pc := 0) d64_0 rfl ?_
  refine eg_getR (pc := 1) d64_1 lf_5_98 (by assumption) (by decide) (by assumption) ?_
  refine ef_iload_n (pc := 4) d64_4 rfl ?_
  refine eg_iald (pc := 5) d64_5 (by assumption) rfl (by omega) ?_
  rw [hkd]
  refine ef_istore (pc := 6) d64_6 (ls' := [_, _, _, _, _]) rfl ?_
  refine ef_iload (pc := 8) d64_8 rfl ?_
  refine ef_iconst (pc := 10) d64_10 (by decide) ?_
  refine ef_icmp_ne (pc := 11) d64_11 (t := 34) rfl (fun h11 => ?_) (fun h11 => ?_)
  · refine ef_iload (pc := 34) d64_34 rfl ?_
    refine ef_iconst (pc := 36) d64_36 (by decide) ?_
    refine ef_icmp_ne (pc := 37) d64_37 (t := 60) rfl (fun h37 => ?_) (fun h37 => ?_)
    · rw [hdT, if_neg h11, if_neg h37]
      refine ef_aload_n (pc := 60) d64_60 rfl ?_
      refine eg_getR (pc := 61) d64_61 lf_5_121 (by assumption) (by decide) (by assumption) ?_
      refine ef_iload_n (pc := 64) d64_64 rfl ?_
      refine eg_bald (pc := 65) d64_65 (by assumption) rfl (by omega) ?_
      rw [hrp]
      refine ef_if_eq (pc := 66) d64_66 (t := 75) rfl (fun h66 => ?_) (fun h66 => ?_)
      · rw [if_pos h66]
        refine ef_aload_n (pc := 75) d64_75 rfl ?_
        refine ef_ldcS (pc := 76) d64_76 (show tLs 5 125 = some 1 by decide +kernel) ?_
        refine ef_iload (pc := 78) d64_78 rfl ?_
        refine ef_callT (pc := 80) d64_80 lm_5_127 (as := [_]) rfl rfl rfl rfl (Nat.le_of_ble_eq_true rfl) rfl (Nat.le_of_ble_eq_true rfl) ?_
        refine Ec.imp (c171 hsv (by omega) (by omega)) ?_
        rintro r80 u80 ⟨rfl, rfl⟩
        refine ef_callV (pc := 83) d64_83 lm_5_67 (as := [_]) rfl rfl (by assumption) rfl rfl (by decide) (Nat.le_of_ble_eq_true rfl) rfl (Nat.le_of_ble_eq_true rfl) ?_
        refine Ec.imp (c60 hA hS (by omega) (by omega)) ?_
        rintro r83 u83 ⟨ga, rfl, rfl, oa, ta⟩
        refine ef_aload_n (pc := 86) d64_86 rfl ?_
        refine ef_aload_n (pc := 87) d64_87 rfl ?_
        refine eg_getR (pc := 88) d64_88 lf_5_103 (by assumption) (by decide) (by assumption) ?_
        refine ef_iload_n (pc := 91) d64_91 rfl ?_
        refine eg_cald (pc := 92) d64_92 (by assumption) rfl (by omega) ?_
        try simp (disch := omega) only [u2_ne, u2_at, u2_ni, ur_ne, ur_eq]
        rw [show ga (tm + 2) = nm from ((oa _ (by omega))).trans hnm]
        refine ef_iload_n (pc := 93) d64_93 rfl ?_
        refine ef_callV (pc := 94) d64_94 lm_5_117 (as := [_, _]) rfl rfl (by assumption) rfl rfl (by decide) (Nat.le_of_ble_eq_true rfl) rfl (Nat.le_of_ble_eq_true rfl) ?_
        refine Ec.imp (c65 hA ta (hch n).1 (hch n).2) ?_
        rintro r94 u94 ⟨gb, rfl, rfl, ob, tb⟩
        refine ef_aload_n (pc := 97) d64_97 rfl ?_
        refine ef_bipush (pc := 98) d64_98 (by decide) ?_
        refine ef_callV (pc := 100) d64_100 lm_5_67 (as := [_]) rfl rfl (by assumption) rfl rfl (by decide) (Nat.le_of_ble_eq_true rfl) rfl (Nat.le_of_ble_eq_true rfl) ?_
        refine Ec.imp (c60 hA tb (by omega) (by omega)) ?_
        rintro r100 u100 ⟨gc, rfl, rfl, oc, tc⟩
        refine ef_vret (pc := 103) d64_103 rfl ?_
        exact ⟨_, rfl, rfl, ((oa.trans ob).trans oc), tc⟩
      · rw [if_neg h66]
        refine ef_aload_n (pc := 69) d64_69 rfl ?_
        refine ef_bipush (pc := 70) d64_70 (by decide) ?_
        refine ef_callV (pc := 72) d64_72 lm_5_67 (as := [_]) rfl rfl (by assumption) rfl rfl (by decide) (Nat.le_of_ble_eq_true rfl) rfl (Nat.le_of_ble_eq_true rfl) ?_
        refine Ec.imp (c60 hA hS (by omega) (by omega)) ?_
        rintro r72 u72 ⟨g0, rfl, rfl, o0, t0⟩
        refine ef_aload_n (pc := 75) d64_75 rfl ?_
        refine ef_ldcS (pc := 76) d64_76 (show tLs 5 125 = some 1 by decide +kernel) ?_
        refine ef_iload (pc := 78) d64_78 rfl ?_
        refine ef_callT (pc := 80) d64_80 lm_5_127 (as := [_]) rfl rfl rfl rfl (Nat.le_of_ble_eq_true rfl) rfl (Nat.le_of_ble_eq_true rfl) ?_
        refine Ec.imp (c171 hsv (by omega) (by omega)) ?_
        rintro r80 u80 ⟨rfl, rfl⟩
        refine ef_callV (pc := 83) d64_83 lm_5_67 (as := [_]) rfl rfl (by assumption) rfl rfl (by decide) (Nat.le_of_ble_eq_true rfl) rfl (Nat.le_of_ble_eq_true rfl) ?_
        refine Ec.imp (c60 hA t0 (by omega) (by omega)) ?_
        rintro r83 u83 ⟨ga, rfl, rfl, oa, ta⟩
        refine ef_aload_n (pc := 86) d64_86 rfl ?_
        refine ef_aload_n (pc := 87) d64_87 rfl ?_
        refine eg_getR (pc := 88) d64_88 lf_5_103 (by assumption) (by decide) (by assumption) ?_
        refine ef_iload_n (pc := 91) d64_91 rfl ?_
        refine eg_cald (pc := 92) d64_92 (by assumption) rfl (by omega) ?_
        try simp (disch := omega) only [u2_ne, u2_at, u2_ni, ur_ne, ur_eq]
        rw [show ga (tm + 2) = nm from (((oa _ (by omega)).trans (o0 _ (by omega)))).trans hnm]
        refine ef_iload_n (pc := 93) d64_93 rfl ?_
        refine ef_callV (pc := 94) d64_94 lm_5_117 (as := [_, _]) rfl rfl (by assumption) rfl rfl (by decide) (Nat.le_of_ble_eq_true rfl) rfl (Nat.le_of_ble_eq_true rfl) ?_
        refine Ec.imp (c65 hA ta (hch n).1 (hch n).2) ?_
        rintro r94 u94 ⟨gb, rfl, rfl, ob, tb⟩
        refine ef_aload_n (pc := 97) d64_97 rfl ?_
        refine ef_bipush (pc := 98) d64_98 (by decide) ?_
        refine ef_callV (pc := 100) d64_100 lm_5_67 (as := [_]) rfl rfl (by assumption) rfl rfl (by decide) (Nat.le_of_ble_eq_true rfl) rfl (Nat.le_of_ble_eq_true rfl) ?_
        refine Ec.imp (c60 hA tb (by omega) (by omega)) ?_
        rintro r100 u100 ⟨gc, rfl, rfl, oc, tc⟩
        refine ef_vret (pc := 103) d64_103 rfl ?_
        exact ⟨_, rfl, rfl, (((o0.trans oa).trans ob).trans oc), tc⟩
    · rw [hdT, if_neg h11, if_pos h37]
      refine ef_aload_n (pc := 40) d64_40 rfl ?_
      refine ef_bipush (pc := 41) d64_41 (by decide) ?_
      refine ef_callV (pc := 43) d64_43 lm_5_67 (as := [_]) rfl rfl (by assumption) rfl rfl (by decide) (Nat.le_of_ble_eq_true rfl) rfl (Nat.le_of_ble_eq_true rfl) ?_
      refine Ec.imp (c60 hA hS (by omega) (by omega)) ?_
      rintro r43 u43 ⟨g1, rfl, rfl, o1, t1⟩
      refine ef_aload_n (pc := 46) d64_46 rfl ?_
      refine ef_aload_n (pc := 47) d64_47 rfl ?_
      refine eg_getR (pc := 48) d64_48 lf_5_103 (by assumption) (by decide) (by assumption) ?_
      refine ef_iload_n (pc := 51) d64_51 rfl ?_
      refine eg_cald (pc := 52) d64_52 (by assumption) rfl (by omega) ?_
      try simp (disch := omega) only [u2_ne, u2_at, u2_ni, ur_ne, ur_eq]
      rw [show g1 (tm + 2) = nm from (o1 _ (by omega)).trans hnm]
      refine ef_iload_n (pc := 53) d64_53 rfl ?_
      refine ef_callV (pc := 54) d64_54 lm_5_117 (as := [_, _]) rfl rfl (by assumption) rfl rfl (by decide) (Nat.le_of_ble_eq_true rfl) rfl (Nat.le_of_ble_eq_true rfl) ?_
      refine Ec.imp (c65 hA t1 (hch n).1 (hch n).2) ?_
      rintro r54 u54 ⟨g2, rfl, rfl, o2, t2⟩
      refine ef_goto (pc := 57) d64_57 (t := 103) rfl ?_
      refine ef_vret (pc := 103) d64_103 rfl ?_
      exact ⟨_, rfl, rfl, o1.trans o2, t2⟩
  · rw [hdT, if_pos h11]
    refine ef_aload_n (pc := 14) d64_14 rfl ?_
    refine ef_aload_n (pc := 15) d64_15 rfl ?_
    refine eg_getR (pc := 16) d64_16 lf_5_103 (by assumption) (by decide) (by assumption) ?_
    refine ef_iload_n (pc := 19) d64_19 rfl ?_
    refine eg_cald (pc := 20) d64_20 (by assumption) rfl (by omega) ?_
    rw [hnm]
    refine ef_iload_n (pc := 21) d64_21 rfl ?_
    refine ef_callV (pc := 22) d64_22 lm_5_117 (as := [_, _]) rfl rfl (by assumption) rfl rfl (by decide) (Nat.le_of_ble_eq_true rfl) rfl (Nat.le_of_ble_eq_true rfl) ?_
    refine Ec.imp (c65 hA hS (hch n).1 (hch n).2) ?_
    rintro r22 u22 ⟨g1, rfl, rfl, o1, t1⟩
    refine ef_aload_n (pc := 25) d64_25 rfl ?_
    refine ef_bipush (pc := 26) d64_26 (by decide) ?_
    refine ef_callV (pc := 28) d64_28 lm_5_67 (as := [_]) rfl rfl (by assumption) rfl rfl (by decide) (Nat.le_of_ble_eq_true rfl) rfl (Nat.le_of_ble_eq_true rfl) ?_
    refine Ec.imp (c60 hA t1 (by omega) (by omega)) ?_
    rintro r28 u28 ⟨g2, rfl, rfl, o2, t2⟩
    refine ef_goto (pc := 31) d64_31 (t := 103) rfl ?_
    refine ef_vret (pc := 103) d64_103 rfl ?_
    exact ⟨_, rfl, rfl, o1.trans o2, t2⟩
