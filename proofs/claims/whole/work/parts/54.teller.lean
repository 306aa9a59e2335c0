/-! The teller: joining. Written by wip/whole/gen/c54.py. -/
def jnT (first fr : Nat) (t : Bool) (S : TS) : TS :=
  if S.2.2.length - first = 0 then ((putT 48 S).1, ((putT 48 S).2.1, S.2.2.take first))
  else if S.2.2.length - first = 1 then (S.1, (S.2.1, S.2.2.take first))
  else if S.2.1 = true ∨ 240 < fr + (joinL t ((S.2.2.drop first).map (sub S.1))).length then (S.1, (true, S.2.2.take first))
  else (S.1.take fr ++ joinL t ((S.2.2.drop first).map (sub S.1)), (S.2.1, S.2.2.take first))
theorem TL_take {g g' : Nat → Nat → Int} {l first : Nat} {S : TS} (hS : TL g l S) (hf : first ≤ S.2.2.length) (h1 : ∀ k, k ≠ 5 → g' l k = g l k) (h5 : g' l 5 = (first : Int)) (h2 : ∀ k, 1 ≤ k → k ≤ 4 → g' (l + k) = g (l + k)) : TL g' l (S.1, (S.2.1, S.2.2.take first)) := by
  obtain ⟨t1, t2, t3, t4, t5, t6, t7, t8⟩ := hS
  refine ⟨by rw [h1 2 (by omega)]; exact t1, by rw [h2 1 (by omega) (by omega)]; exact t2, by rw [h1 6 (by omega)]; exact t3, ?_, ?_, t6, ?_, fun p hp => t8 p (List.mem_of_mem_take hp)⟩
  · rw [h5, List.length_take, Nat.min_eq_left hf]
  · intro i p hp
    have hi := (List.getElem?_eq_some_iff.mp hp).1
    rw [List.length_take] at hi
    rw [List.getElem?_take_of_lt (by omega)] at hp
    rw [h2 3 (by omega) (by omega), h2 4 (by omega) (by omega)]
    exact t5 i p hp
  · rw [List.length_take]; omega
theorem Row_at {f h : Nat → Int} {W X : List Int} {fr : Nat} (hf : Row f W) (hX : Row h X) (h1 : fr ≤ W.length) : Row (cpy h f 0 fr X.length) (W.take fr ++ X) := fun i c hc => by
  unfold cpy
  have hl : (W.take fr).length = fr := by rw [List.length_take]; omega
  by_cases hi : i < fr
  · rw [List.getElem?_append_left (by omega), List.getElem?_take_of_lt hi] at hc
    rw [if_neg (by omega)]
    exact hf i c hc
  · rw [List.getElem?_append_right (by omega), hl] at hc
    have hq := (List.getElem?_eq_some_iff.mp hc).1
    rw [if_pos (by omega), Nat.zero_add]
    exact hX _ c hc
theorem c66 {P : Pg} {d : Nat} {u : Mm} {g : Nat → Nat → Int} {l : Nat} {S : TS} {first fr : Nat} {t : Bool} (hA : TlA u l) (hS : TL g l S) (hf : first ≤ S.2.2.length) (hfr : fr ≤ S.1.length) (hp : ∀ p, p ∈ S.2.2.take first → p.2 ≤ fr) (hj : S.2.1 = false → 2 ≤ S.2.2.length - first → (joinL t ((S.2.2.drop first).map (sub S.1))).length = S.1.length - fr + (S.2.2.length - first) - 1 + (if t = true then 2 else 0)) : Ec P (d + 1) 66 [vR l, vI (first : Int), vI (fr : Int), vI (b01 t)] (sI u g) (fun x u' => ∃ g', u' = sI u g' ∧ x = .inl none ∧ Off l (l + 5) g g' ∧ TL g' l (jnT first fr t S)) := by
  obtain ⟨y0, y1, y2, y3, y4, y5, y6, y7, y8⟩ := id hA
  obtain ⟨t1, t2, t3, t4, t5, t6, t7, t8⟩ := id hS
  have fin : ∀ g1 S1, Off l (l + 5) g g1 → TL g1 l S1 → S1.2.2 = S.2.2 → jnT first fr t S = (S1.1, (S1.2.1, S1.2.2.take first)) → ∀ v4 v5, Ef P (d + 1) 66 105 [some (vR l), some (vI (first : Int)), some (vI (fr : Int)), some (vI (b01 t)), v4, v5] [] (sI u g1) (fun x u' => ∃ g', u' = sI u g' ∧ x = .inl none ∧ Off l (l + 5) g g' ∧ TL g' l (jnT first fr t S)) := by
    intro g1 S1 ho h1 h2 h3 v4 v5
    refine ef_aload_n (pc := 105) d66_105 rfl ?_
    refine ef_iload_n (pc := 106) d66_106 rfl ?_
    refine eg_putI (pc := 107) d66_107 pf_66_29 (by assumption) (by decide) ?_
    refine ef_vret (pc := 110) d66_110 rfl ?_
    refine ⟨_, rfl, rfl, ho.up (by omega) (by omega), ?_⟩
    rw [h3]
    exact TL_take h1 (by rw [h2]; exact hf) (fun k hk => u2_ni hk) u2_at (fun k h4 h5 => u2_ne (by omega))
  have hb : t = false ∨ t = true := by cases t <;> simp
  have many : 2 ≤ S.2.2.length - first → ∀ v5, Ef P (d + 1) 66 28 [some (vR l), some (vI (first : Int)), some (vI (fr : Int)), some (vI (b01 t)), some (vI ((S.2.2.length - first : Nat) : Int)), v5] [] (sI u g) (fun x u' => ∃ g', u' = sI u g' ∧ x = .inl none ∧ Off l (l + 5) g g' ∧ TL g' l (jnT first fr t S)) := by
    intro h2 v5
    obtain ⟨n, hn⟩ : ∃ n : Nat, n = S.1.length - fr + (S.2.2.length - first) - 1 + (if t = true then 2 else 0) := ⟨_, rfl⟩
    have mid : Ef P (d + 1) 66 49 [some (vR l), some (vI (first : Int)), some (vI (fr : Int)), some (vI (b01 t)), some (vI ((S.2.2.length - first : Nat) : Int)), v5] [vI (n : Int)] (sI u g) (fun x u' => ∃ g', u' = sI u g' ∧ x = .inl none ∧ Off l (l + 5) g g' ∧ TL g' l (jnT first fr t S)) := by
      refine ef_istore (pc := 49) d66_49 (ls' := [_, _, _, _, _, _]) rfl ?_
      refine ef_aload_n (pc := 51) d66_51 rfl ?_
      refine eg_getZ (pc := 52) d66_52 lf_5_32 (by assumption) (by decide) ?_
      rw [t3]
      refine ef_if_ne (pc := 55) d66_55 (t := 68) rfl (fun h55 => ?_) (fun h55 => ?_)
      · have hbt : S.2.1 = true := by
          cases hq : S.2.1
          · rw [hq] at h55; exact absurd rfl h55
          · rfl
        have hlg : S.2.1 = true ∨ 240 < fr + (joinL t ((S.2.2.drop first).map (sub S.1))).length := Or.inl hbt
        refine ef_aload_n (pc := 68) d66_68 rfl ?_
        refine ef_iconst (pc := 69) d66_69 (by decide) ?_
        refine eg_putZ (pc := 70) d66_70 pf_66_32 (by assumption) (by decide) (by omega) ?_
        refine ef_goto (pc := 73) d66_73 (t := 105) rfl ?_
        refine fin (u2 g l 6 1) (S.1, (true, S.2.2)) (Off.refl.up (by omega) (by omega)) ?_ rfl ?_ _ _
        · refine ⟨?_, ?_, ?_, ?_, ?_, t6, t7, t8⟩
          · rw [u2_ni (by omega)]; exact t1
          · rw [u2_ne (by omega)]; exact t2
          · rw [u2_at]; rfl
          · rw [u2_ni (by omega)]; exact t4
          · intro i p hq; rw [u2_ne (by omega), u2_ne (by omega)]; exact t5 i p hq
        · rw [jnT, if_neg (by omega), if_neg (by omega), if_pos hlg]
      · have hbf : S.2.1 = false := by
          cases hq : S.2.1
          · rfl
          · rw [hq] at h55; exact absurd h55 (by decide)
        have hjn := (hj hbf h2).trans hn.symm
        refine ef_iload_n (pc := 58) d66_58 rfl ?_
        refine ef_iload (pc := 59) d66_59 rfl ?_
        refine ef_iadd (pc := 61) d66_61 (z := ((fr + n : Nat) : Int)) (by omega) ⟨by omega, by split at hn <;> omega⟩ ?_
        refine ef_sipush (pc := 62) d66_62 (by decide) ?_
        refine ef_icmp_le (pc := 65) d66_65 (t := 76) rfl (fun h65 => ?_) (fun h65 => ?_)
        · have hlg : ¬ (S.2.1 = true ∨ 240 < fr + (joinL t ((S.2.2.drop first).map (sub S.1))).length) := by
            rintro (hh | hh)
            · rw [hbf] at hh; cases hh
            · omega
          refine ef_aload_n (pc := 76) d66_76 rfl ?_
          refine ef_iload_n (pc := 77) d66_77 rfl ?_
          refine ef_iload_n (pc := 78) d66_78 rfl ?_
          refine ef_callV (pc := 79) d66_79 lm_5_147 (as := [_, _]) rfl rfl (by assumption) rfl rfl (by decide) (Nat.le_of_ble_eq_true rfl) rfl (Nat.le_of_ble_eq_true rfl) ?_
          refine Ec.imp (c67 hA hS hf (by omega)) ?_
          rintro r79 u79 ⟨g1, rfl, rfl, o1, r1⟩
          have m1 : g1 (l + 1) = g (l + 1) := o1 _ (by omega)
          have m3 : g1 (l + 3) = g (l + 3) := o1 _ (by omega)
          have m4 : g1 (l + 4) = g (l + 4) := o1 _ (by omega)
          have m0 : g1 l = g l := o1 _ (by omega)
          refine ef_aload_n (pc := 82) d66_82 rfl ?_
          refine eg_getR (pc := 83) d66_83 lf_5_15 (by assumption) (by decide) (by assumption) ?_
          refine ef_iconst (pc := 86) d66_86 (by decide) ?_
          refine ef_aload_n (pc := 87) d66_87 rfl ?_
          refine eg_getR (pc := 88) d66_88 lf_5_9 (by assumption) (by decide) (by assumption) ?_
          refine ef_iload_n (pc := 91) d66_91 rfl ?_
          refine ef_iload (pc := 92) d66_92 rfl ?_
          refine ef_biS (pc := 94) d66_94 lm_5_151 (as := [_, _, _, _, _]) rfl rfl (by decide) (Nat.le_of_ble_eq_true rfl) (bi_cp (by assumption) (by assumption) (by decide) (by omega) (by omega) (by omega) (by omega) (by omega) (by omega)) ?_
          refine ef_aload_n (pc := 97) d66_97 rfl ?_
          refine ef_iload_n (pc := 98) d66_98 rfl ?_
          refine ef_iload (pc := 99) d66_99 rfl ?_
          refine ef_iadd (pc := 101) d66_101 (z := ((fr + n : Nat) : Int)) (by omega) ⟨by omega, by omega⟩ ?_
          refine eg_putI (pc := 102) d66_102 pf_66_25 (by assumption) (by decide) ?_
          refine ef_aload_n (pc := 105) d66_105 rfl ?_
          refine ef_iload_n (pc := 106) d66_106 rfl ?_
          refine eg_putI (pc := 107) d66_107 pf_66_29 (by assumption) (by decide) ?_
          refine ef_vret (pc := 110) d66_110 rfl ?_
          refine ⟨_, rfl, rfl, (((o1.wide (by omega) (by omega)).ur (by omega) (by omega)).up (by omega) (by omega)).up (by omega) (by omega), ?_⟩
          rw [jnT, if_neg (by omega), if_neg (by omega), if_neg hlg]
          refine ⟨?_, ?_, ?_, ?_, ?_, ?_, ?_, ?_⟩
          · rw [u2_ni (by omega), u2_at, List.length_append, List.length_take, hjn, Nat.min_eq_left hfr]
          · rw [u2_ne (by omega), u2_ne (by omega), ur_eq, m1]
            have hw := Row_at (fr := fr) t2 r1 hfr
            rw [hjn] at hw
            exact hw
          · rw [u2_ni (by omega), u2_ni (by omega), ur_ne (by omega), m0]; exact t3
          · rw [u2_at, List.length_take, Nat.min_eq_left hf]
          · intro i p hq
            have hi := (List.getElem?_eq_some_iff.mp hq).1
            rw [List.length_take] at hi
            rw [List.getElem?_take_of_lt (by omega)] at hq
            rw [u2_ne (by omega), u2_ne (by omega), u2_ne (by omega), u2_ne (by omega), ur_ne (by omega), ur_ne (by omega), m3, m4]; exact t5 i p hq
          · rw [List.length_append, List.length_take, hjn]; omega
          · rw [List.length_take]; omega
          · intro p hq
            have h8 := t8 p (List.mem_of_mem_take hq)
            have h9 := hp p hq
            refine ⟨h8.1, ?_⟩
            rw [List.length_append, List.length_take]; omega
        · have hlg : S.2.1 = true ∨ 240 < fr + (joinL t ((S.2.2.drop first).map (sub S.1))).length := Or.inr (by omega)
          refine ef_aload_n (pc := 68) d66_68 rfl ?_
          refine ef_iconst (pc := 69) d66_69 (by decide) ?_
          refine eg_putZ (pc := 70) d66_70 pf_66_32 (by assumption) (by decide) (by omega) ?_
          refine ef_goto (pc := 73) d66_73 (t := 105) rfl ?_
          refine fin (u2 g l 6 1) (S.1, (true, S.2.2)) (Off.refl.up (by omega) (by omega)) ?_ rfl ?_ _ _
          · refine ⟨?_, ?_, ?_, ?_, ?_, t6, t7, t8⟩
            · rw [u2_ni (by omega)]; exact t1
            · rw [u2_ne (by omega)]; exact t2
            · rw [u2_at]; rfl
            · rw [u2_ni (by omega)]; exact t4
            · intro i p hq; rw [u2_ne (by omega), u2_ne (by omega)]; exact t5 i p hq
          · rw [jnT, if_neg (by omega), if_neg (by omega), if_pos hlg]
    refine ef_aload_n (pc := 28) d66_28 rfl ?_
    refine eg_getI (pc := 29) d66_29 lf_5_25 (by assumption) (by decide) ?_
    rw [t1]
    refine ef_iload_n (pc := 32) d66_32 rfl ?_
    refine ef_isub (pc := 33) d66_33 (z := ((S.1.length - fr : Nat) : Int)) (by omega) ⟨by omega, by omega⟩ ?_
    refine ef_iload (pc := 34) d66_34 rfl ?_
    refine ef_iadd (pc := 36) d66_36 (z := ((S.1.length - fr + (S.2.2.length - first) : Nat) : Int)) (by omega) ⟨by omega, by omega⟩ ?_
    refine ef_iconst (pc := 37) d66_37 (by decide) ?_
    refine ef_isub (pc := 38) d66_38 (z := ((S.1.length - fr + (S.2.2.length - first) - 1 : Nat) : Int)) (by omega) ⟨by omega, by omega⟩ ?_
    refine ef_iload_n (pc := 39) d66_39 rfl ?_
    refine ef_if_eq (pc := 40) d66_40 (t := 47) rfl (fun h40 => ?_) (fun h40 => ?_)
    · have ht : t = false := by
        cases t
        · rfl
        · exact absurd h40 (by decide)
      rw [ht, if_neg (by decide)] at hn
      refine ef_iconst (pc := 47) d66_47 (by decide) ?_
      refine ef_iadd (pc := 48) d66_48 (z := (n : Int)) (by omega) ⟨by omega, by omega⟩ ?_
      exact mid
    · have ht : t = true := by
        cases t
        · exact absurd rfl h40
        · rfl
      rw [ht, if_pos rfl] at hn
      refine ef_iconst (pc := 43) d66_43 (by decide) ?_
      refine ef_goto (pc := 44) d66_44 (t := 48) rfl ?_
      refine ef_iadd (pc := 48) d66_48 (z := (n : Int)) (by omega) ⟨by omega, by omega⟩ ?_
      exact mid
  change Ef P _ 66 0 [some (vR l), some (vI (first : Int)), some (vI (fr : Int)), some (vI (b01 t)), none, none] [] _ _
  refine ef_aload_n (pc := 0) d66_0 rfl ?_
  refine eg_getI (pc := 1) d66_1 lf_5_29 (by assumption) (by decide) ?_
  rw [t4]
  refine ef_iload_n (pc := 4) d66_4 rfl ?_
  refine ef_isub (pc := 5) d66_5 (z := ((S.2.2.length - first : Nat) : Int)) (by omega) ⟨by omega, by omega⟩ ?_
  refine ef_istore (pc := 6) d66_6 (ls' := [_, _, _, _, _, _]) rfl ?_
  refine ef_iload (pc := 8) d66_8 rfl ?_
  refine ef_if_ne (pc := 10) d66_10 (t := 22) rfl (fun h10 => ?_) (fun h10 => ?_)
  · refine ef_iload (pc := 22) d66_22 rfl ?_
    refine ef_iconst (pc := 24) d66_24 (by decide) ?_
    refine ef_icmp_le (pc := 25) d66_25 (t := 105) rfl (fun h25 => ?_) (fun h25 => ?_)
    · first
      | exact fin _ _ o1 s1 hputs (by rw [jnT, if_pos (by omega), hputs]) _ _
      | exact fin _ S Off.refl hS rfl (by rw [jnT, if_neg (by omega), if_pos (by omega)]) _ _
    · exact many (by omega) _
  · refine ef_aload_n (pc := 13) d66_13 rfl ?_
    refine ef_bipush (pc := 14) d66_14 (by decide) ?_
    refine ef_callV (pc := 16) d66_16 lm_5_67 (as := [_]) rfl rfl (by assumption) rfl rfl (by decide) (Nat.le_of_ble_eq_true rfl) rfl (Nat.le_of_ble_eq_true rfl) ?_
    refine Ec.imp (c60 hA hS (by decide) (by decide)) ?_
    rintro r16 u16 ⟨g1, rfl, rfl, o1, s1⟩
    have hputs : (putT 48 S).2.2 = S.2.2 := by
      unfold putT
      split <;> rfl
    refine ef_goto (pc := 19) d66_19 (t := 105) rfl ?_
    first
    | exact fin _ _ o1 s1 hputs (by rw [jnT, if_pos (by omega), hputs]) _ _
    | exact fin _ S Off.refl hS rfl (by rw [jnT, if_neg (by omega), if_pos (by omega)]) _ _
