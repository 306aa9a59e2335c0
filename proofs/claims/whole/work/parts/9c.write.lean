/-! The model: writing, erasing. Written by wip/whole/gen/c9c.py. -/
theorem by_m {e : Int64} {i : Nat} : ((e >>> ((Int32.ofInt (8 * (i : Int))).toInt64 &&& 63)) &&& 255).toInt32.toInt = byF e i := by
  unfold byF bI
  generalize e >>> ((Int32.ofInt (8 * (i : Int))).toInt64 &&& 63) = x
  rw [Int32.ofInt_toInt, Int64.toInt32_and]
  rfl
theorem c95 {P : Pg} {d : Nat} {u : Mm} {g : Nat → Nat → Int} {m : Nat} (hM : MdA u m) : Ec P d 95 [vR m] (sI u g) (fun x u' => u' = sI u (u2 (u2 g m 0 0) m 2 0) ∧ x = .inl (some (vI (g m 2)))) := by
  have s0 := hM.1
  change Ef P _ 95 0 [some (vR m), none] [] _ _
  refine ef_aload_n (pc := 0) d95_0 rfl ?_
  refine ef_iconst (pc := 1) d95_1 (by decide) ?_
  refine eg_putI (pc := 2) d95_2 pf_95_141 (by assumption) (by decide) ?_
  refine ef_aload_n (pc := 5) d95_5 rfl ?_
  refine eg_getI (pc := 6) d95_6 lf_8_158 (by assumption) (by decide) ?_
  rw [u2_ni (by decide)]
  refine ef_istore_n (pc := 9) d95_9 (ls' := [_, _]) rfl ?_
  refine ef_aload_n (pc := 10) d95_10 rfl ?_
  refine ef_iconst (pc := 11) d95_11 (by decide) ?_
  refine eg_putI (pc := 12) d95_12 pf_95_158 (by assumption) (by decide) ?_
  refine ef_iload_n (pc := 15) d95_15 rfl ?_
  refine ef_iret (pc := 16) d95_16 rfl ?_
  exact ⟨rfl, rfl⟩
theorem c92 {P : Pg} {d : Nat} {u : Mm} {g : Nat → Nat → Int} {m : Nat} {W : List Int} {e : Int64} {n : Int} (hM : MdA u m) (hW1 : g m 2 = (W.length : Int)) (hW2 : Row (g (m + 1)) W) (hW3 : W.length ≤ 120) : Ec P (d + 1) 92 [vR m, vL e, vI n] (sI u g) (fun x u' => (¬ ((1 ≤ n ∧ n ≤ 8) ∧ okB e n.toNat = true) ∧ u' = sI u (u2 (u2 g m 0 0) m 0 1) ∧ x = .inl (some (vI 0))) ∨ (((1 ≤ n ∧ n ≤ 8) ∧ okB e n.toNat = true) ∧ ((120 < (W.length : Int) + n ∧ u' = sI u (u2 (u2 g m 0 0) m 0 2) ∧ x = .inl (some (vI 0))) ∨ ((W.length : Int) + n ≤ 120 ∧ ∃ g', u' = sI u g' ∧ x = .inl (some (vI ((W.length : Int) + n))) ∧ g' m 0 = 0 ∧ g' m 2 = (W.length : Int) + n ∧ Row (g' (m + 1)) (W ++ byL e n.toNat) ∧ (∀ a, a ≠ m → a ≠ m + 1 → g' a = g a) ∧ ∀ f, f ≠ 0 → f ≠ 2 → g' m f = g m f)))) := by
  have s0 := hM.1
  have f3 : mF u m 3 = some (m + 1) := (hM.2 0 (by decide)).1
  have s3 : mS u (m + 1) = some (0, 120) := (hM.2 0 (by decide)).2
  have e2 : u2 g m 0 0 m 2 = (W.length : Int) := by rw [u2_ni (by decide)]; exact hW1
  have bl : ∀ j, (byL e j).length = j := fun j => by unfold byL; rw [List.length_map, List.length_range]
  have wr : ∀ q : Nat, n = (q : Int) → 1 ≤ q → q ≤ 8 → okB e q = true → W.length + q ≤ 120 → ∀ i, i ≤ q → ∀ g1 v4, (∀ a, a ≠ m + 1 → g1 a = u2 g m 0 0 a) → Row (g1 (m + 1)) (W ++ byL e i) → Ef P (d + 1) 92 104 [some (vR m), some (vL e), none, some (vI (q : Int)), some (vI v4), some (vI (i : Int))] [] (sI u g1) (fun x u' => (¬ ((1 ≤ n ∧ n ≤ 8) ∧ okB e n.toNat = true) ∧ u' = sI u (u2 (u2 g m 0 0) m 0 1) ∧ x = .inl (some (vI 0))) ∨ (((1 ≤ n ∧ n ≤ 8) ∧ okB e n.toNat = true) ∧ ((120 < (W.length : Int) + n ∧ u' = sI u (u2 (u2 g m 0 0) m 0 2) ∧ x = .inl (some (vI 0))) ∨ ((W.length : Int) + n ≤ 120 ∧ ∃ g', u' = sI u g' ∧ x = .inl (some (vI ((W.length : Int) + n))) ∧ g' m 0 = 0 ∧ g' m 2 = (W.length : Int) + n ∧ Row (g' (m + 1)) (W ++ byL e n.toNat) ∧ (∀ a, a ≠ m → a ≠ m + 1 → g' a = g a) ∧ ∀ f, f ≠ 0 → f ≠ 2 → g' m f = g m f)))) := by
    intro q hq h1 h8 hok hlen
    refine nat_loop q ?_
    intro i hi ih g1 v4 o1 r1
    have q1 : g1 m 2 = (W.length : Int) := by rw [o1 m (by omega)]; exact e2
    refine ef_iload (pc := 104) d92_104 rfl ?_
    refine ef_iload_n (pc := 106) d92_106 rfl ?_
    refine ef_icmp_ge (pc := 107) d92_107 (t := 140) rfl (fun h107 => ?_) (fun h107 => ?_)
    · have him : i = q := by omega
      subst him
      refine ef_aload_n (pc := 140) d92_140 rfl ?_
      refine ef_dup (pc := 141) d92_141 rfl ?_
      refine eg_getI (pc := 142) d92_142 lf_8_158 (by assumption) (by decide) ?_
      rw [q1]
      refine ef_iload_n (pc := 145) d92_145 rfl ?_
      refine ef_iadd (pc := 146) d92_146 rfl ⟨by omega, by omega⟩ ?_
      refine eg_putI (pc := 147) d92_147 pf_92_158 (by assumption) (by decide) ?_
      refine ef_aload_n (pc := 150) d92_150 rfl ?_
      refine eg_getI (pc := 151) d92_151 lf_8_158 (by assumption) (by decide) ?_
      rw [u2_at]
      refine ef_iret (pc := 154) d92_154 rfl ?_
      refine Or.inr ⟨⟨by omega, by rw [hq, Int.toNat_natCast]; exact hok⟩, Or.inr ⟨by omega, _, rfl, by rw [hq], ?_, ?_, ?_, ?_, ?_⟩⟩
      · rw [u2_ni (by decide), o1 _ (by omega), u2_at]
      · rw [u2_at, hq]
      · rw [u2_ne (by omega), hq, Int.toNat_natCast]; exact r1
      · intro a h1 h2; rw [u2_ne h1, o1 a h2, u2_ne h1]
      · intro f h1 h2; rw [u2_ni h2, o1 _ (by omega), u2_ni h1]
    · have hlt : i < q := by omega
      refine ef_aload_n (pc := 110) d92_110 rfl ?_
      refine eg_getR (pc := 111) d92_111 lf_8_7 (by assumption) (by decide) (by assumption) ?_
      refine ef_aload_n (pc := 114) d92_114 rfl ?_
      refine eg_getI (pc := 115) d92_115 lf_8_158 (by assumption) (by decide) ?_
      rw [q1]
      refine ef_iload (pc := 118) d92_118 rfl ?_
      refine ef_iadd (pc := 120) d92_120 (z := ((W.length + i : Nat) : Int)) (by omega) ⟨by omega, by omega⟩ ?_
      refine ef_lload_n (pc := 121) d92_121 rfl ?_
      refine ef_bipush (pc := 122) d92_122 (by decide) ?_
      refine ef_iload (pc := 124) d92_124 rfl ?_
      refine ef_imul (pc := 126) d92_126 rfl ⟨by omega, by omega⟩ ?_
      refine ef_lshr (pc := 127) d92_127 ?_
      refine ef_ldc2 (pc := 128) d92_128 (show tLl 8 156 = some 255 by decide +kernel) ?_
      refine ef_land (pc := 131) d92_131 ?_
      refine ef_l2i (pc := 132) d92_132 ?_
      rw [by_m]
      refine eg_iast (pc := 133) d92_133 (i := W.length + i) (by assumption) (rfl) (by omega) rfl ?_
      refine ef_iinc (pc := 134) d92_134 (ls' := [_, _, _, _, _, _]) (z := ((i + 1 : Nat) : Int)) rfl (by decide) (by omega) ⟨by omega, by omega⟩ rfl ?_
      refine ef_goto (pc := 137) d92_137 (t := 104) rfl ?_
      refine ih hlt _ _ (fun a ha => by rw [u2_ne ha]; exact o1 a ha) ?_
      rw [u2_eq, show byL e (i + 1) = byL e i ++ [byF e i] by unfold byL; rw [List.range_succ, List.map_append]; rfl, ← List.append_assoc]
      have := Row_app (c := byF e i) r1
      rw [List.length_append, bl] at this
      exact this
  have ck : ∀ q : Nat, n = (q : Int) → 1 ≤ q → q ≤ 8 → ∀ i, i ≤ q → ∀ z : Bool, (z = true ↔ ∀ k, k < i → 32 ≤ byF e k ∧ byF e k ≤ 126) → Ef P (d + 1) 92 27 [some (vR m), some (vL e), none, some (vI (q : Int)), some (vI (b01 z)), some (vI (i : Int))] [] (sI u (u2 g m 0 0)) (fun x u' => (¬ ((1 ≤ n ∧ n ≤ 8) ∧ okB e n.toNat = true) ∧ u' = sI u (u2 (u2 g m 0 0) m 0 1) ∧ x = .inl (some (vI 0))) ∨ (((1 ≤ n ∧ n ≤ 8) ∧ okB e n.toNat = true) ∧ ((120 < (W.length : Int) + n ∧ u' = sI u (u2 (u2 g m 0 0) m 0 2) ∧ x = .inl (some (vI 0))) ∨ ((W.length : Int) + n ≤ 120 ∧ ∃ g', u' = sI u g' ∧ x = .inl (some (vI ((W.length : Int) + n))) ∧ g' m 0 = 0 ∧ g' m 2 = (W.length : Int) + n ∧ Row (g' (m + 1)) (W ++ byL e n.toNat) ∧ (∀ a, a ≠ m → a ≠ m + 1 → g' a = g a) ∧ ∀ f, f ≠ 0 → f ≠ 2 → g' m f = g m f)))) := by
    intro q hq h1 h8
    refine nat_loop q ?_
    intro i hi ih z hz
    have next : ∀ z' : Bool, i < q → (z' = true ↔ (z = true ∧ 32 ≤ byF e i ∧ byF e i ≤ 126)) → ∀ v4, Ef P (d + 1) 92 65 [some (vR m), some (vL e), none, some (vI (q : Int)), v4, some (vI (i : Int))] [vI (b01 z')] (sI u (u2 g m 0 0)) (fun x u' => (¬ ((1 ≤ n ∧ n ≤ 8) ∧ okB e n.toNat = true) ∧ u' = sI u (u2 (u2 g m 0 0) m 0 1) ∧ x = .inl (some (vI 0))) ∨ (((1 ≤ n ∧ n ≤ 8) ∧ okB e n.toNat = true) ∧ ((120 < (W.length : Int) + n ∧ u' = sI u (u2 (u2 g m 0 0) m 0 2) ∧ x = .inl (some (vI 0))) ∨ ((W.length : Int) + n ≤ 120 ∧ ∃ g', u' = sI u g' ∧ x = .inl (some (vI ((W.length : Int) + n))) ∧ g' m 0 = 0 ∧ g' m 2 = (W.length : Int) + n ∧ Row (g' (m + 1)) (W ++ byL e n.toNat) ∧ (∀ a, a ≠ m → a ≠ m + 1 → g' a = g a) ∧ ∀ f, f ≠ 0 → f ≠ 2 → g' m f = g m f)))) := by
      intro z' hlt hz' v4
      refine ef_istore (pc := 65) d92_65 (ls' := [_, _, _, _, _, _]) rfl ?_
      refine ef_iinc (pc := 67) d92_67 (ls' := [_, _, _, _, _, _]) (z := ((i + 1 : Nat) : Int)) rfl (by decide) (by omega) ⟨by omega, by omega⟩ rfl ?_
      refine ef_goto (pc := 70) d92_70 (t := 27) rfl ?_
      refine ih hlt z' (hz'.trans ?_)
      rw [hz]
      constructor
      · rintro ⟨p1, p2⟩ k hk
        by_cases hki : k = i
        · subst hki; exact p2
        · exact p1 k (by omega)
      · intro p; exact ⟨fun k hk => p k (by omega), p i (by omega)⟩
    refine ef_iload (pc := 27) d92_27 rfl ?_
    refine ef_iload_n (pc := 29) d92_29 rfl ?_
    refine ef_icmp_ge (pc := 30) d92_30 (t := 73) rfl (fun h30 => ?_) (fun h30 => ?_)
    · have him : i = q := by omega
      subst him
      refine ef_iload (pc := 73) d92_73 rfl ?_
      refine ef_if_ne (pc := 75) d92_75 (t := 84) rfl (fun h75 => ?_) (fun h75 => ?_)
      · have hzt := b01_f h75
        have hok : okB e i = true := List.all_eq_true.mpr (fun k hk => decide_eq_true (hz.mp hzt k (List.mem_range.mp hk)))
        refine ef_aload_n (pc := 84) d92_84 rfl ?_
        refine eg_getI (pc := 85) d92_85 lf_8_158 (by assumption) (by decide) ?_
        rw [e2]
        refine ef_iload_n (pc := 88) d92_88 rfl ?_
        refine ef_iadd (pc := 89) d92_89 rfl ⟨by omega, by omega⟩ ?_
        refine ef_bipush (pc := 90) d92_90 (by decide) ?_
        refine ef_icmp_le (pc := 92) d92_92 (t := 101) rfl (fun h92 => ?_) (fun h92 => ?_)
        · refine ef_iconst (pc := 101) d92_101 (by decide) ?_
          refine ef_istore (pc := 102) d92_102 (ls' := [_, _, _, _, _, _]) rfl ?_
          exact wr i hq h1 h8 hok (by omega) 0 (Nat.zero_le _) _ _ (fun a _ => rfl) (by rw [u2_ne (by omega), show byL e 0 = [] from rfl, List.append_nil]; exact hW2)
        · refine ef_aload_n (pc := 95) d92_95 rfl ?_
          refine ef_iconst (pc := 96) d92_96 (by decide) ?_
          refine ef_callV (pc := 97) d92_97 lm_8_152 (as := [_]) rfl rfl (by assumption) rfl rfl (by decide) (Nat.le_of_ble_eq_true rfl) rfl (Nat.le_of_ble_eq_true rfl) ?_
          refine Ec.imp (c94 hM) ?_
          rintro r97 u97 ⟨rfl, rfl⟩
          refine ef_iret (pc := 100) d92_100 rfl ?_
          exact Or.inr ⟨⟨by omega, by rw [hq, Int.toNat_natCast]; exact hok⟩, Or.inl ⟨by omega, rfl, rfl⟩⟩
      · have hzf := b01_t h75
        have hno : ¬ ((1 ≤ n ∧ n ≤ 8) ∧ okB e n.toNat = true) := fun hh => by
          have h9 := hh.2
          rw [hq, Int.toNat_natCast] at h9
          have := hz.mpr (fun k hk => okB_y h9 hk)
          rw [hzf] at this; cases this
        refine ef_aload_n (pc := 78) d92_78 rfl ?_
        refine ef_iconst (pc := 79) d92_79 (by decide) ?_
        refine ef_callV (pc := 80) d92_80 lm_8_152 (as := [_]) rfl rfl (by assumption) rfl rfl (by decide) (Nat.le_of_ble_eq_true rfl) rfl (Nat.le_of_ble_eq_true rfl) ?_
        refine Ec.imp (c94 hM) ?_
        rintro r80 u80 ⟨rfl, rfl⟩
        refine ef_iret (pc := 83) d92_83 rfl ?_
        exact Or.inl ⟨hno, rfl, rfl⟩
    · have hlt : i < q := by omega
      refine ef_iload (pc := 33) d92_33 rfl ?_
      refine ef_if_eq (pc := 35) d92_35 (t := 64) rfl (fun h35 => ?_) (fun h35 => ?_)
      · have hzf := b01_t h35
        refine ef_iconst (pc := 64) d92_64 (by decide) ?_
        first
        | exact next true hlt ⟨fun _ => ⟨hzt, hf2⟩, fun _ => rfl⟩ _
        | exact next false hlt ⟨fun h => absurd h (by decide), fun h => absurd h.2 hf2⟩ _
        | exact next false hlt ⟨fun h => absurd h (by decide), fun h => by rw [hzf] at h; cases h.1⟩ _
      · have hzt := b01_f h35
        refine ef_lload_n (pc := 38) d92_38 rfl ?_
        refine ef_bipush (pc := 39) d92_39 (by decide) ?_
        refine ef_iload (pc := 41) d92_41 rfl ?_
        refine ef_imul (pc := 43) d92_43 rfl ⟨by omega, by omega⟩ ?_
        refine ef_lshr (pc := 44) d92_44 ?_
        refine ef_ldc2 (pc := 45) d92_45 (show tLl 8 156 = some 255 by decide +kernel) ?_
        refine ef_land (pc := 48) d92_48 ?_
        refine ef_l2i (pc := 49) d92_49 ?_
        rw [by_m]
        refine ef_bipush (pc := 50) d92_50 (by decide) ?_
        refine ef_bipush (pc := 52) d92_52 (by decide) ?_
        refine ef_callS (pc := 54) d92_54 lm_8_148 (as := [_, _, _]) rfl rfl rfl (Nat.le_of_ble_eq_true rfl) rfl (Nat.le_of_ble_eq_true rfl) ?_
        refine Ec.imp (c93) ?_
        rintro r54 u54 ⟨rfl, rfl⟩
        refine ef_if_eq (pc := 57) d92_57 (t := 64) rfl (fun h57 => ?_) (fun h57 => ?_)
        · have hf2 := of_decide_eq_false (b01_t h57)
          refine ef_iconst (pc := 64) d92_64 (by decide) ?_
          first
          | exact next true hlt ⟨fun _ => ⟨hzt, hf2⟩, fun _ => rfl⟩ _
          | exact next false hlt ⟨fun h => absurd h (by decide), fun h => absurd h.2 hf2⟩ _
          | exact next false hlt ⟨fun h => absurd h (by decide), fun h => by rw [hzf] at h; cases h.1⟩ _
        · have hf2 := of_decide_eq_true (b01_f h57)
          refine ef_iconst (pc := 60) d92_60 (by decide) ?_
          refine ef_goto (pc := 61) d92_61 (t := 65) rfl ?_
          first
          | exact next true hlt ⟨fun _ => ⟨hzt, hf2⟩, fun _ => rfl⟩ _
          | exact next false hlt ⟨fun h => absurd h (by decide), fun h => absurd h.2 hf2⟩ _
          | exact next false hlt ⟨fun h => absurd h (by decide), fun h => by rw [hzf] at h; cases h.1⟩ _
  change Ef P _ 92 0 [some (vR m), some (vL e), none, some (vI n), none, none] [] _ _
  refine ef_aload_n (pc := 0) d92_0 rfl ?_
  refine ef_iconst (pc := 1) d92_1 (by decide) ?_
  refine eg_putI (pc := 2) d92_2 pf_92_141 (by assumption) (by decide) ?_
  refine ef_iload_n (pc := 5) d92_5 rfl ?_
  refine ef_iconst (pc := 6) d92_6 (by decide) ?_
  refine ef_bipush (pc := 7) d92_7 (by decide) ?_
  refine ef_callS (pc := 9) d92_9 lm_8_148 (as := [_, _, _]) rfl rfl rfl (Nat.le_of_ble_eq_true rfl) rfl (Nat.le_of_ble_eq_true rfl) ?_
  refine Ec.imp (c93) ?_
  rintro r9 u9 ⟨rfl, rfl⟩
  refine ef_if_ne (pc := 12) d92_12 (t := 21) rfl (fun h12 => ?_) (fun h12 => ?_)
  · have hf2 := of_decide_eq_true (b01_f h12)
    obtain ⟨q, hq⟩ : ∃ q : Nat, n = (q : Int) := ⟨n.toNat, by omega⟩
    refine ef_iconst (pc := 21) d92_21 (by decide) ?_
    refine ef_istore (pc := 22) d92_22 (ls' := [_, _, _, _, _, _]) rfl ?_
    refine ef_iconst (pc := 24) d92_24 (by decide) ?_
    refine ef_istore (pc := 25) d92_25 (ls' := [_, _, _, _, _, _]) rfl ?_
    rw [hq]
    have := ck q hq (by omega) (by omega) 0 (Nat.zero_le _) true ⟨fun _ k hk => absurd hk (by omega), fun _ => rfl⟩
    rw [hq] at this
    exact this
  · have hf2 := of_decide_eq_false (b01_t h12)
    refine ef_aload_n (pc := 15) d92_15 rfl ?_
    refine ef_iconst (pc := 16) d92_16 (by decide) ?_
    refine ef_callV (pc := 17) d92_17 lm_8_152 (as := [_]) rfl rfl (by assumption) rfl rfl (by decide) (Nat.le_of_ble_eq_true rfl) rfl (Nat.le_of_ble_eq_true rfl) ?_
    refine Ec.imp (c94 hM) ?_
    rintro r17 u17 ⟨rfl, rfl⟩
    refine ef_iret (pc := 20) d92_20 rfl ?_
    exact Or.inl ⟨fun hh => hf2 hh.1, rfl, rfl⟩
