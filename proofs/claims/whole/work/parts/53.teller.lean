/-! The teller: putting pieces in order, joining. Written by wip/whole/gen/c53.py. -/
def ilF (b : Bool) : List (List Int) → List Int
  | [] => []
  | x :: l => (if b = true then [124] else []) ++ (x ++ ilF true l)
def joinL (t : Bool) (l : List (List Int)) : List Int := (if t = true then [40] else []) ++ (ilF false l ++ (if t = true then [41] else []))
theorem Row_cpy {f h : Nat → Int} {W acc : List Int} {p : Nat × Nat} (hf : Row f W) (hh : Row h acc) (h1 : p.1 ≤ p.2) (h2 : p.2 ≤ W.length) : Row (cpy f h p.1 acc.length (p.2 - p.1)) (acc ++ sub W p) := fun i c hc => by
  unfold cpy
  by_cases hi : i < acc.length
  · rw [List.getElem?_append_left hi] at hc
    rw [if_neg (by omega)]
    exact hh i c hc
  · rw [List.getElem?_append_right (by omega)] at hc
    have hl := (List.getElem?_eq_some_iff.mp hc).1
    rw [sub_len h2] at hl
    rw [if_pos (by omega)]
    rw [sub_get hl] at hc
    exact hf _ c hc
theorem c67 {P : Pg} {d : Nat} {u : Mm} {g : Nat → Nat → Int} {l : Nat} {S : TS} {first : Nat} {t : Bool} (hA : TlA u l) (hS : TL g l S) (hf : first ≤ S.2.2.length) (hl : (joinL t ((S.2.2.drop first).map (sub S.1))).length ≤ 240) : Ec P d 67 [vR l, vI (first : Int), vI (b01 t)] (sI u g) (fun x u' => ∃ g', u' = sI u g' ∧ x = .inl none ∧ Off (l + 2) (l + 3) g g' ∧ Row (g' (l + 2)) (joinL t ((S.2.2.drop first).map (sub S.1)))) := by
  obtain ⟨y0, y1, y2, y3, y4, y5, y6, y7, y8⟩ := id hA
  obtain ⟨t1, t2, t3, t4, t5, t6, t7, t8⟩ := id hS
  generalize hX : joinL t ((S.2.2.drop first).map (sub S.1)) = X at hl ⊢
  have loop : ∀ i, i ≤ S.2.2.length → ∀ (acc : List Int) (k : Nat) g1, acc.length = k → first ≤ i → Off (l + 2) (l + 3) g g1 → Row (g1 (l + 2)) acc → acc ++ (ilF (decide (first < i)) ((S.2.2.drop i).map (sub S.1)) ++ (if t = true then [41] else [])) = X → Ef P d 67 20 [some (vR l), some (vI (first : Int)), some (vI (b01 t)), some (vI (k : Int)), some (vI (i : Int))] [] (sI u g1) (fun x u' => ∃ g', u' = sI u g' ∧ x = .inl none ∧ Off (l + 2) (l + 3) g g' ∧ Row (g' (l + 2)) X) := by
    refine nat_loop S.2.2.length ?_
    intro i hi ih acc k g1 hk hfi ho hr hx
    have m1 : g1 (l + 1) = g (l + 1) := ho _ (by omega)
    have m3 : g1 (l + 3) = g (l + 3) := ho _ (by omega)
    have m4 : g1 (l + 4) = g (l + 4) := ho _ (by omega)
    have m0 : g1 l = g l := ho _ (by omega)
    have hlx := congrArg List.length hx
    simp only [List.length_append] at hlx
    refine ef_iload (pc := 20) d67_20 rfl ?_
    refine ef_aload_n (pc := 22) d67_22 rfl ?_
    refine eg_getI (pc := 23) d67_23 lf_5_29 (by assumption) (by decide) ?_
    rw [m0, t4]
    refine ef_icmp_ge (pc := 26) d67_26 (t := 104) rfl (fun h26 => ?_) (fun h26 => ?_)
    · rw [List.drop_eq_nil_of_le (by omega), List.map_nil, ilF, List.nil_append] at hx
      rw [List.drop_eq_nil_of_le (by omega), List.map_nil, ilF] at hlx
      refine ef_iload_n (pc := 104) d67_104 rfl ?_
      refine ef_if_eq (pc := 105) d67_105 (t := 116) rfl (fun h105 => ?_) (fun h105 => ?_)
      · have ht : t = false := by
          cases t
          · rfl
          · exact absurd h105 (by decide)
        subst ht
        rw [if_neg (by decide), List.append_nil] at hx
        refine ef_vret (pc := 116) d67_116 rfl ?_
        subst hk
        rw [← hx]
        first
        | exact ⟨_, rfl, rfl, ho, hr⟩
        | exact ⟨_, rfl, rfl, ho.up (by omega) (by omega), by rw [u2_eq]; exact Row_app hr⟩
      · have ht : t = true := by
          cases t
          · exact absurd rfl h105
          · rfl
        subst ht
        rw [if_pos rfl] at hx hlx
        simp only [List.length_cons, List.length_nil] at hlx
        refine ef_aload_n (pc := 108) d67_108 rfl ?_
        refine eg_getR (pc := 109) d67_109 lf_5_15 (by assumption) (by decide) (by assumption) ?_
        refine ef_iload_n (pc := 112) d67_112 rfl ?_
        refine ef_bipush (pc := 113) d67_113 (by decide) ?_
        refine eg_cast (pc := 115) d67_115 (w := 41) (by assumption) rfl (by omega) (by decide) ?_
        refine ef_vret (pc := 116) d67_116 rfl ?_
        subst hk
        rw [← hx]
        first
        | exact ⟨_, rfl, rfl, ho, hr⟩
        | exact ⟨_, rfl, rfl, ho.up (by omega) (by omega), by rw [u2_eq]; exact Row_app hr⟩
    · obtain ⟨p, hp, hdp⟩ := get_of_lt (L := S.2.2) (i := i) (by omega)
      have hv := t5 i p hp
      have hp8 := t8 p (List.mem_of_getElem? hp)
      rw [hdp, List.map_cons, ilF] at hx
      rw [hdp, List.map_cons, ilF] at hlx
      simp only [List.length_append, sub_len hp8.2] at hlx
      refine ef_iload (pc := 29) d67_29 rfl ?_
      refine ef_iload_n (pc := 31) d67_31 rfl ?_
      refine ef_icmp_le (pc := 32) d67_32 (t := 46) rfl (fun h32 => ?_) (fun h32 => ?_)
      · rw [decide_eq_false (show ¬ first < i by omega), if_neg (by decide)] at hx hlx
        refine ef_aload_n (pc := 46) d67_46 rfl ?_
        refine eg_getR (pc := 47) d67_47 lf_5_9 (by assumption) (by decide) (by assumption) ?_
        refine ef_aload_n (pc := 50) d67_50 rfl ?_
        refine eg_getR (pc := 51) d67_51 lf_5_18 (by assumption) (by decide) (by assumption) ?_
        refine ef_iload (pc := 54) d67_54 rfl ?_
        refine eg_iald (pc := 56) d67_56 (by assumption) rfl (by omega) ?_
        rw [m3, hv.1]
        refine ef_aload_n (pc := 57) d67_57 rfl ?_
        refine eg_getR (pc := 58) d67_58 lf_5_15 (by assumption) (by decide) (by assumption) ?_
        refine ef_iload_n (pc := 61) d67_61 rfl ?_
        refine ef_aload_n (pc := 62) d67_62 rfl ?_
        refine eg_getR (pc := 63) d67_63 lf_5_22 (by assumption) (by decide) (by assumption) ?_
        refine ef_iload (pc := 66) d67_66 rfl ?_
        refine eg_iald (pc := 68) d67_68 (by assumption) rfl (by omega) ?_
        rw [m4, hv.2]
        refine ef_aload_n (pc := 69) d67_69 rfl ?_
        refine eg_getR (pc := 70) d67_70 lf_5_18 (by assumption) (by decide) (by assumption) ?_
        refine ef_iload (pc := 73) d67_73 rfl ?_
        refine eg_iald (pc := 75) d67_75 (by assumption) rfl (by omega) ?_
        rw [m3, hv.1]
        refine ef_isub (pc := 76) d67_76 (z := ((p.2 - p.1 : Nat) : Int)) (by omega) ⟨by omega, by omega⟩ ?_
        refine ef_biS (pc := 77) d67_77 lm_5_151 (as := [_, _, _, _, _]) rfl rfl (by decide) (Nat.le_of_ble_eq_true rfl) (bi_cp (by assumption) (by assumption) (by decide) (by omega) (by omega) (by omega) (by omega) (by omega) (by omega)) ?_
        refine ef_iload_n (pc := 80) d67_80 rfl ?_
        refine ef_aload_n (pc := 81) d67_81 rfl ?_
        refine eg_getR (pc := 82) d67_82 lf_5_22 (by assumption) (by decide) (by assumption) ?_
        refine ef_iload (pc := 85) d67_85 rfl ?_
        refine eg_iald (pc := 87) d67_87 (by assumption) rfl (by omega) ?_
        simp (disch := omega) only [ur_ne]; rw [m4, hv.2]
        refine ef_aload_n (pc := 88) d67_88 rfl ?_
        refine eg_getR (pc := 89) d67_89 lf_5_18 (by assumption) (by decide) (by assumption) ?_
        refine ef_iload (pc := 92) d67_92 rfl ?_
        refine eg_iald (pc := 94) d67_94 (by assumption) rfl (by omega) ?_
        simp (disch := omega) only [ur_ne]; rw [m3, hv.1]
        refine ef_isub (pc := 95) d67_95 (z := ((p.2 - p.1 : Nat) : Int)) (by omega) ⟨by omega, by omega⟩ ?_
        refine ef_iadd (pc := 96) d67_96 (z := ((k + (p.2 - p.1) : Nat) : Int)) (by omega) ⟨by omega, by omega⟩ ?_
        refine ef_istore_n (pc := 97) d67_97 (ls' := [_, _, _, _, _]) rfl ?_
        refine ef_iinc (pc := 98) d67_98 (ls' := [_, _, _, _, _]) (z := ((i + 1 : Nat) : Int)) rfl (by decide) (by omega) ⟨by omega, by omega⟩ rfl ?_
        refine ef_goto (pc := 101) d67_101 (t := 20) rfl ?_
        refine ih (by omega) (acc ++ sub S.1 p) (k + (p.2 - p.1)) _ ?_ (by omega) ?_ ?_ ?_
        · simp only [List.length_append, List.length_cons, List.length_nil, sub_len hp8.2]; omega
        · exact (ho.ur (by omega) (by omega))
        · rw [ur_eq]
          subst hk
          exact Row_cpy (by rw [m1]; exact t2) hr hp8.1 hp8.2
        · rw [decide_eq_true (show first < i + 1 by omega), ← hx]
          simp only [List.append_assoc, List.nil_append, List.cons_append]
      · rw [decide_eq_true (show first < i by omega), if_pos rfl] at hx hlx
        simp only [List.length_cons, List.length_nil] at hlx
        refine ef_aload_n (pc := 35) d67_35 rfl ?_
        refine eg_getR (pc := 36) d67_36 lf_5_15 (by assumption) (by decide) (by assumption) ?_
        refine ef_iload_n (pc := 39) d67_39 rfl ?_
        refine ef_iinc (pc := 40) d67_40 (ls' := [_, _, _, _, _]) (z := ((k + 1 : Nat) : Int)) rfl (by decide) (by omega) ⟨by omega, by omega⟩ rfl ?_
        refine ef_bipush (pc := 43) d67_43 (by decide) ?_
        refine eg_cast (pc := 45) d67_45 (w := 124) (by assumption) rfl (by omega) (by decide) ?_
        refine ef_aload_n (pc := 46) d67_46 rfl ?_
        refine eg_getR (pc := 47) d67_47 lf_5_9 (by assumption) (by decide) (by assumption) ?_
        refine ef_aload_n (pc := 50) d67_50 rfl ?_
        refine eg_getR (pc := 51) d67_51 lf_5_18 (by assumption) (by decide) (by assumption) ?_
        refine ef_iload (pc := 54) d67_54 rfl ?_
        refine eg_iald (pc := 56) d67_56 (by assumption) rfl (by omega) ?_
        simp (disch := omega) only [u2_ne]; rw [m3, hv.1]
        refine ef_aload_n (pc := 57) d67_57 rfl ?_
        refine eg_getR (pc := 58) d67_58 lf_5_15 (by assumption) (by decide) (by assumption) ?_
        refine ef_iload_n (pc := 61) d67_61 rfl ?_
        refine ef_aload_n (pc := 62) d67_62 rfl ?_
        refine eg_getR (pc := 63) d67_63 lf_5_22 (by assumption) (by decide) (by assumption) ?_
        refine ef_iload (pc := 66) d67_66 rfl ?_
        refine eg_iald (pc := 68) d67_68 (by assumption) rfl (by omega) ?_
        simp (disch := omega) only [u2_ne]; rw [m4, hv.2]
        refine ef_aload_n (pc := 69) d67_69 rfl ?_
        refine eg_getR (pc := 70) d67_70 lf_5_18 (by assumption) (by decide) (by assumption) ?_
        refine ef_iload (pc := 73) d67_73 rfl ?_
        refine eg_iald (pc := 75) d67_75 (by assumption) rfl (by omega) ?_
        simp (disch := omega) only [u2_ne]; rw [m3, hv.1]
        refine ef_isub (pc := 76) d67_76 (z := ((p.2 - p.1 : Nat) : Int)) (by omega) ⟨by omega, by omega⟩ ?_
        refine ef_biS (pc := 77) d67_77 lm_5_151 (as := [_, _, _, _, _]) rfl rfl (by decide) (Nat.le_of_ble_eq_true rfl) (bi_cp (by assumption) (by assumption) (by decide) (by omega) (by omega) (by omega) (by omega) (by omega) (by omega)) ?_
        refine ef_iload_n (pc := 80) d67_80 rfl ?_
        refine ef_aload_n (pc := 81) d67_81 rfl ?_
        refine eg_getR (pc := 82) d67_82 lf_5_22 (by assumption) (by decide) (by assumption) ?_
        refine ef_iload (pc := 85) d67_85 rfl ?_
        refine eg_iald (pc := 87) d67_87 (by assumption) rfl (by omega) ?_
        simp (disch := omega) only [ur_ne, u2_ne]; rw [m4, hv.2]
        refine ef_aload_n (pc := 88) d67_88 rfl ?_
        refine eg_getR (pc := 89) d67_89 lf_5_18 (by assumption) (by decide) (by assumption) ?_
        refine ef_iload (pc := 92) d67_92 rfl ?_
        refine eg_iald (pc := 94) d67_94 (by assumption) rfl (by omega) ?_
        simp (disch := omega) only [ur_ne, u2_ne]; rw [m3, hv.1]
        refine ef_isub (pc := 95) d67_95 (z := ((p.2 - p.1 : Nat) : Int)) (by omega) ⟨by omega, by omega⟩ ?_
        refine ef_iadd (pc := 96) d67_96 (z := (((k + 1) + (p.2 - p.1) : Nat) : Int)) (by omega) ⟨by omega, by omega⟩ ?_
        refine ef_istore_n (pc := 97) d67_97 (ls' := [_, _, _, _, _]) rfl ?_
        refine ef_iinc (pc := 98) d67_98 (ls' := [_, _, _, _, _]) (z := ((i + 1 : Nat) : Int)) rfl (by decide) (by omega) ⟨by omega, by omega⟩ rfl ?_
        refine ef_goto (pc := 101) d67_101 (t := 20) rfl ?_
        refine ih (by omega) ((acc ++ [124]) ++ sub S.1 p) ((k + 1) + (p.2 - p.1)) _ ?_ (by omega) ?_ ?_ ?_
        · simp only [List.length_append, List.length_cons, List.length_nil, sub_len hp8.2]; omega
        · exact ((ho.up (by omega) (by omega)).ur (by omega) (by omega))
        · rw [ur_eq]
          subst hk
          have hw := Row_cpy (W := S.1) (acc := acc ++ [(124 : Int)]) (p := p) (f := g1 (l + 1)) (h := u2 g1 (l + 2) acc.length 124 (l + 2)) (by rw [m1]; exact t2) (by rw [u2_eq]; exact Row_app hr) hp8.1 hp8.2
          rw [show (acc ++ [(124 : Int)]).length = acc.length + 1 by simp] at hw
          exact hw
        · rw [decide_eq_true (show first < i + 1 by omega), ← hx]
          simp only [List.append_assoc, List.nil_append, List.cons_append]
        skip
  have hlX := congrArg List.length hX
  unfold joinL at hX hlX
  simp only [List.length_append] at hlX
  change Ef P _ 67 0 [some (vR l), some (vI (first : Int)), some (vI (b01 t)), none, none] [] _ _
  refine ef_iconst (pc := 0) d67_0 (by decide) ?_
  refine ef_istore_n (pc := 1) d67_1 (ls' := [_, _, _, _, _]) rfl ?_
  refine ef_iload_n (pc := 2) d67_2 rfl ?_
  refine ef_if_eq (pc := 3) d67_3 (t := 17) rfl (fun h3 => ?_) (fun h3 => ?_)
  · have ht : t = false := by
      cases t
      · rfl
      · exact absurd h3 (by decide)
    refine ef_iload_n (pc := 17) d67_17 rfl ?_
    refine ef_istore (pc := 18) d67_18 (ls' := [_, _, _, _, _]) rfl ?_
    first
    | exact loop first hf [] 0 g rfl (Nat.le_refl _) Off.refl (fun i c hc => by cases hc) (by rw [decide_eq_false (Nat.lt_irrefl _), ← hX, ht]; rfl)
    | exact loop first hf [40] 1 _ rfl (Nat.le_refl _) (Off.refl.up (by omega) (by omega)) (by rw [u2_eq]; exact Row_app (T := []) (fun i c hc => by cases hc)) (by rw [decide_eq_false (Nat.lt_irrefl _), ← hX, ht]; rfl)
  · have ht : t = true := by
      cases t
      · exact absurd rfl h3
      · rfl
    rw [ht, if_pos rfl] at hlX
    simp only [List.length_cons, List.length_nil] at hlX
    refine ef_aload_n (pc := 6) d67_6 rfl ?_
    refine eg_getR (pc := 7) d67_7 lf_5_15 (by assumption) (by decide) (by assumption) ?_
    refine ef_iload_n (pc := 10) d67_10 rfl ?_
    refine ef_iinc (pc := 11) d67_11 (ls' := [_, _, _, _, _]) (z := ((1 : Nat) : Int)) rfl (by decide) (by omega) ⟨by omega, by omega⟩ rfl ?_
    refine ef_bipush (pc := 14) d67_14 (by decide) ?_
    refine eg_cast (pc := 16) d67_16 (i := 0) (w := 40) (by assumption) (rfl) (by decide) (by decide) ?_
    refine ef_iload_n (pc := 17) d67_17 rfl ?_
    refine ef_istore (pc := 18) d67_18 (ls' := [_, _, _, _, _]) rfl ?_
    first
    | exact loop first hf [] 0 g rfl (Nat.le_refl _) Off.refl (fun i c hc => by cases hc) (by rw [decide_eq_false (Nat.lt_irrefl _), ← hX, ht]; rfl)
    | exact loop first hf [40] 1 _ rfl (Nat.le_refl _) (Off.refl.up (by omega) (by omega)) (by rw [u2_eq]; exact Row_app (T := []) (fun i c hc => by cases hc)) (by rw [decide_eq_false (Nat.lt_irrefl _), ← hX, ht]; rfl)
