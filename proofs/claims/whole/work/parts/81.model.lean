/-! The model: things made, looked up; what is a redex. Written by wip/whole/gen/c81.py. -/
theorem u2_self {g : Nat → Nat → Int} {a i : Nat} {x : Int} (h : g a i = x) : u2 g a i x = g := by
  funext b k
  by_cases hb : b = a
  · subst hb
    by_cases hk : k = i
    · subst hk; rw [u2_at, h]
    · rw [u2_ni hk]
  · rw [u2_ne hb]
def rsF (n l : Int) : Int := if n < 6 then n else bI (fun x y => x &&& y) (bI (fun x y => x >>> (y &&& 31)) l (4 * (n - 6))) 15 - 1
def oNum (g : Nat → Nat → Int) (m o : Nat) : Int := if o < 21 then g (m + 12) o else g (m + 19) (o - 21)
theorem and_rg {x y : Int} (hy : 0 ≤ y) (hy2 : y < 2147483648) : 0 ≤ bI (fun x y => x &&& y) x y ∧ bI (fun x y => x &&& y) x y ≤ y := by
  have key : ∀ a b : BitVec 32, 0 ≤ b.toInt → 0 ≤ (a &&& b).toInt ∧ (a &&& b).toInt ≤ b.toInt := by
    intro a b hb
    have hle : (a &&& b).toNat ≤ b.toNat := by rw [BitVec.toNat_and]; exact Nat.and_le_right
    have hbl := b.isLt
    rw [BitVec.toInt_eq_toNat_cond] at hb ⊢
    rw [BitVec.toInt_eq_toNat_cond]
    split at hb
    · rw [if_pos (by omega), if_pos (by assumption)]
      omega
    · omega
  have hb : (Int32.ofInt y).toInt = y := by
    rw [Int32.toInt_ofInt]
    have h2 : Int32.size = 4294967296 := rfl
    rw [h2]
    apply Int.bmod_eq_of_le <;> omega
  have := key (Int32.ofInt x).toBitVec (Int32.ofInt y).toBitVec (by show 0 ≤ (Int32.ofInt y).toInt; rw [hb]; exact hy)
  unfold bI
  show 0 ≤ ((Int32.ofInt x).toBitVec &&& (Int32.ofInt y).toBitVec).toInt ∧ ((Int32.ofInt x).toBitVec &&& (Int32.ofInt y).toBitVec).toInt ≤ y
  refine ⟨this.1, ?_⟩
  have h3 : (Int32.ofInt y).toBitVec.toInt = y := hb
  rw [h3] at this
  exact this.2
theorem c109 {P : Pg} {d : Nat} {u : Mm} {g : Nat → Nat → Int} {m : Nat} {n l : Int} (hn : n < 100) (hn2 : -100 < n) : Ec P d 109 [vR m, vI n, vI l] (sI u g) (fun x u' => u' = sI u g ∧ x = .inl (some (vI (rsF n l)))) := by
  have hrg := and_rg (x := bI (fun x y => x >>> (y &&& 31)) l (4 * (n - 6))) (y := 15) (by decide) (by decide)
  change Ef P _ 109 0 [some (vR m), some (vI n), some (vI l)] [] _ _
  refine ef_iload_n (pc := 0) d109_0 rfl ?_
  refine ef_bipush (pc := 1) d109_1 (by decide) ?_
  refine ef_icmp_ge (pc := 3) d109_3 (t := 10) rfl (fun h3 => ?_) (fun h3 => ?_)
  · rw [rsF, if_neg (by omega)]
    refine ef_iload_n (pc := 10) d109_10 rfl ?_
    refine ef_iconst (pc := 11) d109_11 (by decide) ?_
    refine ef_iload_n (pc := 12) d109_12 rfl ?_
    refine ef_bipush (pc := 13) d109_13 (by decide) ?_
    refine ef_isub (pc := 15) d109_15 rfl ⟨by omega, by omega⟩ ?_
    refine ef_imul (pc := 16) d109_16 rfl ⟨by omega, by omega⟩ ?_
    refine ef_ishr (pc := 17) d109_17 rfl ?_
    refine ef_bipush (pc := 18) d109_18 (by decide) ?_
    refine ef_iand (pc := 20) d109_20 rfl ?_
    refine ef_iconst (pc := 21) d109_21 (by decide) ?_
    refine ef_isub (pc := 22) d109_22 rfl ⟨by omega, by omega⟩ ?_
    refine ef_iret (pc := 23) d109_23 rfl ?_
    exact ⟨rfl, rfl⟩
  · rw [rsF, if_pos (by omega)]
    refine ef_iload_n (pc := 6) d109_6 rfl ?_
    refine ef_goto (pc := 7) d109_7 (t := 23) rfl ?_
    refine ef_iret (pc := 23) d109_23 rfl ?_
    exact ⟨rfl, rfl⟩
theorem c128 {P : Pg} {d : Nat} {u : Mm} {g : Nat → Nat → Int} {m : Nat} {k : Nat} (hM : MdA u m) (hk : k < 51) : Ec P d 128 [vR m, vI (k : Int)] (sI u g) (fun x u' => u' = sI u g ∧ x = .inl (some (vI (oNum g m k)))) := by
  have s0 := hM.1
  have f18 : mF u m 18 = some (m + 12) := (hM.2 11 (by decide)).1
  have s18 : mS u (m + 12) = some (0, 21) := (hM.2 11 (by decide)).2
  have f25 : mF u m 25 = some (m + 19) := (hM.2 18 (by decide)).1
  have s25 : mS u (m + 19) = some (0, 30) := (hM.2 18 (by decide)).2
  change Ef P _ 128 0 [some (vR m), some (vI (k : Int))] [] _ _
  refine ef_iload_n (pc := 0) d128_0 rfl ?_
  refine ef_bipush (pc := 1) d128_1 (by decide) ?_
  refine ef_icmp_ge (pc := 3) d128_3 (t := 15) rfl (fun h3 => ?_) (fun h3 => ?_)
  · rw [oNum, if_neg (by omega)]
    refine ef_aload_n (pc := 15) d128_15 rfl ?_
    refine eg_getR (pc := 16) d128_16 lf_8_65 (by assumption) (by decide) (by assumption) ?_
    refine ef_iload_n (pc := 19) d128_19 rfl ?_
    refine ef_bipush (pc := 20) d128_20 (by decide) ?_
    refine ef_isub (pc := 22) d128_22 (z := ((k - 21 : Nat) : Int)) (by omega) ⟨by omega, by omega⟩ ?_
    refine eg_iald (pc := 23) d128_23 (i := k - 21) (by assumption) (rfl) (by omega) ?_
    refine ef_iret (pc := 24) d128_24 rfl ?_
    exact ⟨rfl, rfl⟩
  · rw [oNum, if_pos (by omega)]
    refine ef_aload_n (pc := 6) d128_6 rfl ?_
    refine eg_getR (pc := 7) d128_7 lf_8_44 (by assumption) (by decide) (by assumption) ?_
    refine ef_iload_n (pc := 10) d128_10 rfl ?_
    refine eg_iald (pc := 11) d128_11 (i := k) (by assumption) (rfl) (by omega) ?_
    refine ef_goto (pc := 12) d128_12 (t := 24) rfl ?_
    refine ef_iret (pc := 24) d128_24 rfl ?_
    exact ⟨rfl, rfl⟩
theorem c110 {P : Pg} {d : Nat} {u : Mm} {g : Nat → Nat → Int} {m : Nat} {n p : Int} (hM : MdA u m) : Ec P d 110 [vR m, vI n, vI p] (sI u g) (fun x u' => (∃ k : Nat, 1 ≤ k ∧ k < 21 ∧ g (m + 12) k < 0 ∧ x = .inl (some (vI (k : Int))) ∧ u' = sI u (u2 (u2 (u2 g (m + 12) k (g m 28)) (m + 13) k n) (m + 14) k p)) ∨ ((∀ k, 1 ≤ k → k < 21 → 0 ≤ g (m + 12) k) ∧ x = .inl (some (vI 0)) ∧ u' = sI u (u2 g m 30 1))) := by
  have s0 := hM.1
  have f18 : mF u m 18 = some (m + 12) := (hM.2 11 (by decide)).1
  have s18 : mS u (m + 12) = some (0, 21) := (hM.2 11 (by decide)).2
  have f19 : mF u m 19 = some (m + 13) := (hM.2 12 (by decide)).1
  have s19 : mS u (m + 13) = some (0, 21) := (hM.2 12 (by decide)).2
  have f20 : mF u m 20 = some (m + 14) := (hM.2 13 (by decide)).1
  have s20 : mS u (m + 14) = some (0, 21) := (hM.2 13 (by decide)).2
  have loop : ∀ i, i ≤ 21 → 1 ≤ i → (∀ k, 1 ≤ k → k < i → 0 ≤ g (m + 12) k) → Ef P d 110 2 [some (vR m), some (vI n), some (vI p), some (vI (i : Int))] [] (sI u g) (fun x u' => (∃ k : Nat, 1 ≤ k ∧ k < 21 ∧ g (m + 12) k < 0 ∧ x = .inl (some (vI (k : Int))) ∧ u' = sI u (u2 (u2 (u2 g (m + 12) k (g m 28)) (m + 13) k n) (m + 14) k p)) ∨ ((∀ k, 1 ≤ k → k < 21 → 0 ≤ g (m + 12) k) ∧ x = .inl (some (vI 0)) ∧ u' = sI u (u2 g m 30 1))) := by
    refine nat_loop 21 ?_
    intro i hi ih h1 hb
    refine ef_iload_n (pc := 2) d110_2 rfl ?_
    refine ef_bipush (pc := 3) d110_3 (by decide) ?_
    refine ef_icmp_ge (pc := 5) d110_5 (t := 23) rfl (fun h5 => ?_) (fun h5 => ?_)
    · refine ef_iload_n (pc := 23) d110_23 rfl ?_
      refine ef_bipush (pc := 24) d110_24 (by decide) ?_
      refine ef_icmp_neF (pc := 26) d110_26 (t := 36) rfl (by omega) ?_
      refine ef_aload_n (pc := 29) d110_29 rfl ?_
      refine ef_iconst (pc := 30) d110_30 (by decide) ?_
      refine eg_putZ (pc := 31) d110_31 pf_110_215 (by assumption) (by decide) (by omega) ?_
      refine ef_iconst (pc := 34) d110_34 (by decide) ?_
      refine ef_iret (pc := 35) d110_35 rfl ?_
      exact Or.inr ⟨fun k h3 h4 => hb k h3 (by omega), rfl, rfl⟩
    · refine ef_aload_n (pc := 8) d110_8 rfl ?_
      refine eg_getR (pc := 9) d110_9 lf_8_44 (by assumption) (by decide) (by assumption) ?_
      refine ef_iload_n (pc := 12) d110_12 rfl ?_
      refine eg_iald (pc := 13) d110_13 (i := i) (by assumption) (rfl) (by omega) ?_
      refine ef_if_lt (pc := 14) d110_14 (t := 23) rfl (fun h14 => ?_) (fun h14 => ?_)
      · refine ef_iload_n (pc := 23) d110_23 rfl ?_
        refine ef_bipush (pc := 24) d110_24 (by decide) ?_
        refine ef_icmp_neT (pc := 26) d110_26 (t := 36) rfl (by omega) ?_
        refine ef_aload_n (pc := 36) d110_36 rfl ?_
        refine eg_getR (pc := 37) d110_37 lf_8_44 (by assumption) (by decide) (by assumption) ?_
        refine ef_iload_n (pc := 40) d110_40 rfl ?_
        refine ef_aload_n (pc := 41) d110_41 rfl ?_
        refine eg_getI (pc := 42) d110_42 lf_8_209 (by assumption) (by decide) ?_
        refine eg_iast (pc := 45) d110_45 (i := i) (w := g m 28) (by assumption) (rfl) (by omega) (rfl) ?_
        refine ef_aload_n (pc := 46) d110_46 rfl ?_
        refine eg_getR (pc := 47) d110_47 lf_8_47 (by assumption) (by decide) (by assumption) ?_
        refine ef_iload_n (pc := 50) d110_50 rfl ?_
        refine ef_iload_n (pc := 51) d110_51 rfl ?_
        refine eg_iast (pc := 52) d110_52 (i := i) (by assumption) (rfl) (by omega) rfl ?_
        refine ef_aload_n (pc := 53) d110_53 rfl ?_
        refine eg_getR (pc := 54) d110_54 lf_8_50 (by assumption) (by decide) (by assumption) ?_
        refine ef_iload_n (pc := 57) d110_57 rfl ?_
        refine ef_iload_n (pc := 58) d110_58 rfl ?_
        refine eg_iast (pc := 59) d110_59 (i := i) (by assumption) (rfl) (by omega) rfl ?_
        refine ef_iload_n (pc := 60) d110_60 rfl ?_
        refine ef_iret (pc := 61) d110_61 rfl ?_
        exact Or.inl ⟨i, h1, by omega, by assumption, rfl, rfl⟩
      · refine ef_iinc (pc := 17) d110_17 (ls' := [_, _, _, _]) (z := ((i + 1 : Nat) : Int)) rfl (by decide) (by omega) ⟨by omega, by omega⟩ rfl ?_
        refine ef_goto (pc := 20) d110_20 (t := 2) rfl ?_
        refine ih (by omega) (by omega) (fun k h3 h4 => ?_)
        by_cases hk : k = i
        · subst hk; omega
        · exact hb k h3 (by omega)
  change Ef P _ 110 0 [some (vR m), some (vI n), some (vI p), none] [] _ _
  refine ef_iconst (pc := 0) d110_0 (by decide) ?_
  refine ef_istore_n (pc := 1) d110_1 (ls' := [_, _, _, _]) rfl ?_
  exact loop 1 (by omega) (by omega) (fun k h3 h4 => absurd h4 (by omega))
theorem c111 {P : Pg} {d : Nat} {u : Mm} {g : Nat → Nat → Int} {m : Nat} {n p : Int} (hM : MdA u m) (h30 : g m 30 = 0) : Ec P d 111 [vR m, vI n, vI p] (sI u g) (fun x u' => x = .inl none ∧ ((∃ k : Nat, k < 30 ∧ g (m + 19) k < 0 ∧ u' = sI u (u2 (u2 (u2 g (m + 19) k (g m 28)) (m + 20) k n) (m + 21) k p)) ∨ ((∀ k, k < 30 → 0 ≤ g (m + 19) k) ∧ u' = sI u (u2 g m 30 1)))) := by
  have s0 := hM.1
  have f25 : mF u m 25 = some (m + 19) := (hM.2 18 (by decide)).1
  have s25 : mS u (m + 19) = some (0, 30) := (hM.2 18 (by decide)).2
  have f26 : mF u m 26 = some (m + 20) := (hM.2 19 (by decide)).1
  have s26 : mS u (m + 20) = some (0, 30) := (hM.2 19 (by decide)).2
  have f27 : mF u m 27 = some (m + 21) := (hM.2 20 (by decide)).1
  have s27 : mS u (m + 21) = some (0, 30) := (hM.2 20 (by decide)).2
  have loop : ∀ i, i ≤ 30 → (∀ k, k < i → 0 ≤ g (m + 19) k) → Ef P d 111 2 [some (vR m), some (vI n), some (vI p), some (vI (i : Int))] [] (sI u g) (fun x u' => x = .inl none ∧ ((∃ k : Nat, k < 30 ∧ g (m + 19) k < 0 ∧ u' = sI u (u2 (u2 (u2 g (m + 19) k (g m 28)) (m + 20) k n) (m + 21) k p)) ∨ ((∀ k, k < 30 → 0 ≤ g (m + 19) k) ∧ u' = sI u (u2 g m 30 1)))) := by
    refine nat_loop 30 ?_
    intro i hi ih hb
    refine ef_iload_n (pc := 2) d111_2 rfl ?_
    refine ef_bipush (pc := 3) d111_3 (by decide) ?_
    refine ef_icmp_ge (pc := 5) d111_5 (t := 23) rfl (fun h5 => ?_) (fun h5 => ?_)
    · refine ef_aload_n (pc := 23) d111_23 rfl ?_
      refine ef_aload_n (pc := 24) d111_24 rfl ?_
      refine eg_getZ (pc := 25) d111_25 lf_8_215 (by assumption) (by decide) ?_
      rw [h30]
      refine ef_if_neF (pc := 28) d111_28 (t := 37) rfl (by decide) ?_
      refine ef_iload_n (pc := 31) d111_31 rfl ?_
      refine ef_bipush (pc := 32) d111_32 (by decide) ?_
      refine ef_icmp_neF (pc := 34) d111_34 (t := 41) rfl (by omega) ?_
      refine ef_iconst (pc := 37) d111_37 (by decide) ?_
      refine ef_goto (pc := 38) d111_38 (t := 42) rfl ?_
      refine eg_putZ (pc := 42) d111_42 pf_111_215 (by assumption) (by decide) (by omega) ?_
      refine ef_aload_n (pc := 45) d111_45 rfl ?_
      refine eg_getZ (pc := 46) d111_46 lf_8_215 (by assumption) (by decide) ?_
      rw [u2_at]
      refine ef_if_eqF (pc := 49) d111_49 (t := 53) rfl (by decide) ?_
      refine ef_vret (pc := 52) d111_52 rfl ?_
      exact ⟨rfl, Or.inr ⟨fun k h3 => hb k (by omega), rfl⟩⟩
    · refine ef_aload_n (pc := 8) d111_8 rfl ?_
      refine eg_getR (pc := 9) d111_9 lf_8_65 (by assumption) (by decide) (by assumption) ?_
      refine ef_iload_n (pc := 12) d111_12 rfl ?_
      refine eg_iald (pc := 13) d111_13 (i := i) (by assumption) (rfl) (by omega) ?_
      refine ef_if_lt (pc := 14) d111_14 (t := 23) rfl (fun h14 => ?_) (fun h14 => ?_)
      · refine ef_aload_n (pc := 23) d111_23 rfl ?_
        refine ef_aload_n (pc := 24) d111_24 rfl ?_
        refine eg_getZ (pc := 25) d111_25 lf_8_215 (by assumption) (by decide) ?_
        rw [h30]
        refine ef_if_neF (pc := 28) d111_28 (t := 37) rfl (by decide) ?_
        refine ef_iload_n (pc := 31) d111_31 rfl ?_
        refine ef_bipush (pc := 32) d111_32 (by decide) ?_
        refine ef_icmp_neT (pc := 34) d111_34 (t := 41) rfl (by omega) ?_
        refine ef_iconst (pc := 41) d111_41 (by decide) ?_
        refine eg_putZ (pc := 42) d111_42 pf_111_215 (by assumption) (by decide) (by omega) ?_
        rw [u2_self h30]
        refine ef_aload_n (pc := 45) d111_45 rfl ?_
        refine eg_getZ (pc := 46) d111_46 lf_8_215 (by assumption) (by decide) ?_
        rw [h30]
        refine ef_if_eqT (pc := 49) d111_49 (t := 53) rfl (by decide) ?_
        refine ef_aload_n (pc := 53) d111_53 rfl ?_
        refine eg_getR (pc := 54) d111_54 lf_8_65 (by assumption) (by decide) (by assumption) ?_
        refine ef_iload_n (pc := 57) d111_57 rfl ?_
        refine ef_aload_n (pc := 58) d111_58 rfl ?_
        refine eg_getI (pc := 59) d111_59 lf_8_209 (by assumption) (by decide) ?_
        try simp (disch := omega) only [u2_ne, u2_at, u2_ni, ur_ne, ur_eq]
        refine eg_iast (pc := 62) d111_62 (i := i) (w := g m 28) (by assumption) (rfl) (by omega) (rfl) ?_
        refine ef_aload_n (pc := 63) d111_63 rfl ?_
        refine eg_getR (pc := 64) d111_64 lf_8_68 (by assumption) (by decide) (by assumption) ?_
        refine ef_iload_n (pc := 67) d111_67 rfl ?_
        refine ef_iload_n (pc := 68) d111_68 rfl ?_
        refine eg_iast (pc := 69) d111_69 (i := i) (w := n) (by assumption) (rfl) (by omega) (rfl) ?_
        refine ef_aload_n (pc := 70) d111_70 rfl ?_
        refine eg_getR (pc := 71) d111_71 lf_8_71 (by assumption) (by decide) (by assumption) ?_
        refine ef_iload_n (pc := 74) d111_74 rfl ?_
        refine ef_iload_n (pc := 75) d111_75 rfl ?_
        refine eg_iast (pc := 76) d111_76 (i := i) (w := p) (by assumption) (rfl) (by omega) (rfl) ?_
        refine ef_vret (pc := 77) d111_77 rfl ?_
        exact ⟨rfl, Or.inl ⟨i, by omega, by assumption, rfl⟩⟩
      · refine ef_iinc (pc := 17) d111_17 (ls' := [_, _, _, _]) (z := ((i + 1 : Nat) : Int)) rfl (by decide) (by omega) ⟨by omega, by omega⟩ rfl ?_
        refine ef_goto (pc := 20) d111_20 (t := 2) rfl ?_
        refine ih (by omega) (fun k h3 => ?_)
        by_cases hk : k = i
        · subst hk; omega
        · exact hb k (by omega)
  change Ef P _ 111 0 [some (vR m), some (vI n), some (vI p), none] [] _ _
  refine ef_iconst (pc := 0) d111_0 (by decide) ?_
  refine ef_istore_n (pc := 1) d111_1 (ls' := [_, _, _, _]) rfl ?_
  exact loop 0 (by omega) (fun k h3 => absurd h3 (by omega))
theorem c112 {P : Pg} {d : Nat} {u : Mm} {g : Nat → Nat → Int} {m : Nat} {n p l : Int} (hM : MdA u m) (h30 : g m 30 = 0) : Ec P d 112 [vR m, vI n, vI p, vI l] (sI u g) (fun x u' => x = .inl none ∧ ((∃ k : Nat, k < 40 ∧ g (m + 15) k < 0 ∧ u' = sI u (u2 (u2 (u2 (u2 g (m + 15) k (g m 28)) (m + 16) k n) (m + 17) k p) (m + 18) k l)) ∨ ((∀ k, k < 40 → 0 ≤ g (m + 15) k) ∧ u' = sI u (u2 g m 30 1)))) := by
  have s0 := hM.1
  have f21 : mF u m 21 = some (m + 15) := (hM.2 14 (by decide)).1
  have s21 : mS u (m + 15) = some (0, 40) := (hM.2 14 (by decide)).2
  have f22 : mF u m 22 = some (m + 16) := (hM.2 15 (by decide)).1
  have s22 : mS u (m + 16) = some (0, 40) := (hM.2 15 (by decide)).2
  have f23 : mF u m 23 = some (m + 17) := (hM.2 16 (by decide)).1
  have s23 : mS u (m + 17) = some (0, 40) := (hM.2 16 (by decide)).2
  have f24 : mF u m 24 = some (m + 18) := (hM.2 17 (by decide)).1
  have s24 : mS u (m + 18) = some (0, 40) := (hM.2 17 (by decide)).2
  have loop : ∀ i, i ≤ 40 → (∀ k, k < i → 0 ≤ g (m + 15) k) → Ef P d 112 3 [some (vR m), some (vI n), some (vI p), some (vI l), some (vI (i : Int))] [] (sI u g) (fun x u' => x = .inl none ∧ ((∃ k : Nat, k < 40 ∧ g (m + 15) k < 0 ∧ u' = sI u (u2 (u2 (u2 (u2 g (m + 15) k (g m 28)) (m + 16) k n) (m + 17) k p) (m + 18) k l)) ∨ ((∀ k, k < 40 → 0 ≤ g (m + 15) k) ∧ u' = sI u (u2 g m 30 1)))) := by
    refine nat_loop 40 ?_
    intro i hi ih hb
    refine ef_iload (pc := 3) d112_3 rfl ?_
    refine ef_bipush (pc := 5) d112_5 (by decide) ?_
    refine ef_icmp_ge (pc := 7) d112_7 (t := 26) rfl (fun h7 => ?_) (fun h7 => ?_)
    · refine ef_aload_n (pc := 26) d112_26 rfl ?_
      refine ef_aload_n (pc := 27) d112_27 rfl ?_
      refine eg_getZ (pc := 28) d112_28 lf_8_215 (by assumption) (by decide) ?_
      rw [h30]
      refine ef_if_neF (pc := 31) d112_31 (t := 41) rfl (by decide) ?_
      refine ef_iload (pc := 34) d112_34 rfl ?_
      refine ef_bipush (pc := 36) d112_36 (by decide) ?_
      refine ef_icmp_neF (pc := 38) d112_38 (t := 45) rfl (by omega) ?_
      refine ef_iconst (pc := 41) d112_41 (by decide) ?_
      refine ef_goto (pc := 42) d112_42 (t := 46) rfl ?_
      refine eg_putZ (pc := 46) d112_46 pf_112_215 (by assumption) (by decide) (by omega) ?_
      refine ef_aload_n (pc := 49) d112_49 rfl ?_
      refine eg_getZ (pc := 50) d112_50 lf_8_215 (by assumption) (by decide) ?_
      rw [u2_at]
      refine ef_if_eqF (pc := 53) d112_53 (t := 57) rfl (by decide) ?_
      refine ef_vret (pc := 56) d112_56 rfl ?_
      exact ⟨rfl, Or.inr ⟨fun k h3 => hb k (by omega), rfl⟩⟩
    · refine ef_aload_n (pc := 10) d112_10 rfl ?_
      refine eg_getR (pc := 11) d112_11 lf_8_53 (by assumption) (by decide) (by assumption) ?_
      refine ef_iload (pc := 14) d112_14 rfl ?_
      refine eg_iald (pc := 16) d112_16 (i := i) (by assumption) (rfl) (by omega) ?_
      refine ef_if_lt (pc := 17) d112_17 (t := 26) rfl (fun h17 => ?_) (fun h17 => ?_)
      · refine ef_aload_n (pc := 26) d112_26 rfl ?_
        refine ef_aload_n (pc := 27) d112_27 rfl ?_
        refine eg_getZ (pc := 28) d112_28 lf_8_215 (by assumption) (by decide) ?_
        rw [h30]
        refine ef_if_neF (pc := 31) d112_31 (t := 41) rfl (by decide) ?_
        refine ef_iload (pc := 34) d112_34 rfl ?_
        refine ef_bipush (pc := 36) d112_36 (by decide) ?_
        refine ef_icmp_neT (pc := 38) d112_38 (t := 45) rfl (by omega) ?_
        refine ef_iconst (pc := 45) d112_45 (by decide) ?_
        refine eg_putZ (pc := 46) d112_46 pf_112_215 (by assumption) (by decide) (by omega) ?_
        rw [u2_self h30]
        refine ef_aload_n (pc := 49) d112_49 rfl ?_
        refine eg_getZ (pc := 50) d112_50 lf_8_215 (by assumption) (by decide) ?_
        rw [h30]
        refine ef_if_eqT (pc := 53) d112_53 (t := 57) rfl (by decide) ?_
        refine ef_aload_n (pc := 57) d112_57 rfl ?_
        refine eg_getR (pc := 58) d112_58 lf_8_53 (by assumption) (by decide) (by assumption) ?_
        refine ef_iload (pc := 61) d112_61 rfl ?_
        refine ef_aload_n (pc := 63) d112_63 rfl ?_
        refine eg_getI (pc := 64) d112_64 lf_8_209 (by assumption) (by decide) ?_
        try simp (disch := omega) only [u2_ne, u2_at, u2_ni, ur_ne, ur_eq]
        refine eg_iast (pc := 67) d112_67 (i := i) (w := g m 28) (by assumption) (rfl) (by omega) (rfl) ?_
        refine ef_aload_n (pc := 68) d112_68 rfl ?_
        refine eg_getR (pc := 69) d112_69 lf_8_56 (by assumption) (by decide) (by assumption) ?_
        refine ef_iload (pc := 72) d112_72 rfl ?_
        refine ef_iload_n (pc := 74) d112_74 rfl ?_
        refine eg_iast (pc := 75) d112_75 (i := i) (w := n) (by assumption) (rfl) (by omega) (rfl) ?_
        refine ef_aload_n (pc := 76) d112_76 rfl ?_
        refine eg_getR (pc := 77) d112_77 lf_8_59 (by assumption) (by decide) (by assumption) ?_
        refine ef_iload (pc := 80) d112_80 rfl ?_
        refine ef_iload_n (pc := 82) d112_82 rfl ?_
        refine eg_iast (pc := 83) d112_83 (i := i) (w := p) (by assumption) (rfl) (by omega) (rfl) ?_
        refine ef_aload_n (pc := 84) d112_84 rfl ?_
        refine eg_getR (pc := 85) d112_85 lf_8_62 (by assumption) (by decide) (by assumption) ?_
        refine ef_iload (pc := 88) d112_88 rfl ?_
        refine ef_iload_n (pc := 90) d112_90 rfl ?_
        refine eg_iast (pc := 91) d112_91 (i := i) (w := l) (by assumption) (rfl) (by omega) (rfl) ?_
        refine ef_vret (pc := 92) d112_92 rfl ?_
        exact ⟨rfl, Or.inl ⟨i, by omega, by assumption, rfl⟩⟩
      · refine ef_iinc (pc := 20) d112_20 (ls' := [_, _, _, _, _]) (z := ((i + 1 : Nat) : Int)) rfl (by decide) (by omega) ⟨by omega, by omega⟩ rfl ?_
        refine ef_goto (pc := 23) d112_23 (t := 3) rfl ?_
        refine ih (by omega) (fun k h3 => ?_)
        by_cases hk : k = i
        · subst hk; omega
        · exact hb k (by omega)
  change Ef P _ 112 0 [some (vR m), some (vI n), some (vI p), some (vI l), none] [] _ _
  refine ef_iconst (pc := 0) d112_0 (by decide) ?_
  refine ef_istore (pc := 1) d112_1 (ls' := [_, _, _, _, _]) rfl ?_
  exact loop 0 (by omega) (fun k h3 => absurd h3 (by omega))
theorem c132 {P : Pg} {d : Nat} {u : Mm} {g : Nat → Nat → Int} {m : Nat} {w : Int} (hM : MdA u m) : Ec P d 132 [vR m, vI w] (sI u g) (fun x u' => u' = sI u g ∧ ((x = .inl (some (vI (-1))) ∧ ∀ k, 0 ≤ k → k < 40 → (g (m + 15) k) ≤ w) ∨ (∃ q : Nat, x = .inl (some (vI (q : Int))) ∧ 0 ≤ q ∧ q < 40 ∧ w < (g (m + 15) q) ∧ ∀ k, 0 ≤ k → k < 40 → w < (g (m + 15) k) → (g (m + 15) q) ≤ (g (m + 15) k)))) := by
  have s0 := hM.1
  have f21 : mF u m 21 = some (m + 15) := (hM.2 14 (by decide)).1
  have s21 : mS u (m + 15) = some (0, 40) := (hM.2 14 (by decide)).2
  have loop : ∀ i, i ≤ 40 → 0 ≤ i → ∀ b : Int, ((b = -1 ∧ ∀ k, 0 ≤ k → k < i → (g (m + 15) k) ≤ w) ∨ (∃ q : Nat, b = (q : Int) ∧ 0 ≤ q ∧ q < i ∧ w < (g (m + 15) q) ∧ ∀ k, 0 ≤ k → k < i → w < (g (m + 15) k) → (g (m + 15) q) ≤ (g (m + 15) k))) → Ef P d 132 4 [some (vR m), some (vI w), some (vI b), some (vI (i : Int))] [] (sI u g) (fun x u' => u' = sI u g ∧ ((x = .inl (some (vI (-1))) ∧ ∀ k, 0 ≤ k → k < 40 → (g (m + 15) k) ≤ w) ∨ (∃ q : Nat, x = .inl (some (vI (q : Int))) ∧ 0 ≤ q ∧ q < 40 ∧ w < (g (m + 15) q) ∧ ∀ k, 0 ≤ k → k < 40 → w < (g (m + 15) k) → (g (m + 15) q) ≤ (g (m + 15) k)))) := by
    refine nat_loop 40 ?_
    intro i hi ih h1 b hb
    refine ef_iload_n (pc := 4) d132_4 rfl ?_
    refine ef_bipush (pc := 5) d132_5 (by decide) ?_
    refine ef_icmp_ge (pc := 7) d132_7 (t := 47) rfl (fun h7 => ?_) (fun h7 => ?_)
    · have hii : i = 40 := by omega
      subst hii
      refine ef_iload_n (pc := 47) d132_47 rfl ?_
      refine ef_iret (pc := 48) d132_48 rfl ?_
      rcases hb with ⟨rfl, hb⟩ | ⟨q, rfl, q1, q2, q3, q4⟩
      · exact ⟨rfl, Or.inl ⟨rfl, hb⟩⟩
      · exact ⟨rfl, Or.inr ⟨q, rfl, q1, q2, q3, q4⟩⟩
    · refine ef_aload_n (pc := 10) d132_10 rfl ?_
      refine eg_getR (pc := 11) d132_11 lf_8_53 (by assumption) (by decide) (by assumption) ?_
      refine ef_iload_n (pc := 14) d132_14 rfl ?_
      refine eg_iald (pc := 15) d132_15 (i := i) (by assumption) (rfl) (by omega) ?_
      refine ef_iload_n (pc := 16) d132_16 rfl ?_
      refine ef_icmp_le (pc := 17) d132_17 (t := 41) rfl (fun h17 => ?_) (fun h17 => ?_)
      · refine ef_iinc (pc := 41) d132_41 (ls' := [_, _, _, _]) (z := ((i + 1 : Nat) : Int)) rfl (by decide) (by omega) ⟨by omega, by omega⟩ rfl ?_
        refine ef_goto (pc := 44) d132_44 (t := 4) rfl ?_
        refine ih (by omega) (by omega) b ?_
        rcases hb with ⟨rfl, hb⟩ | ⟨q, rfl, q1, q2, q3, q4⟩
        · refine Or.inl ⟨rfl, fun k h3 h4 => ?_⟩
          by_cases hk : k = i
          · subst hk; omega
          · exact hb k h3 (by omega)
        · refine Or.inr ⟨q, rfl, q1, by omega, q3, fun k h3 h4 h5 => ?_⟩
          by_cases hk : k = i
          · subst hk; omega
          · exact q4 k h3 (by omega) h5
      · refine ef_iload_n (pc := 20) d132_20 rfl ?_
        refine ef_if_lt (pc := 21) d132_21 (t := 39) rfl (fun h21 => ?_) (fun h21 => ?_)
        · refine ef_iload_n (pc := 39) d132_39 rfl ?_
          refine ef_istore_n (pc := 40) d132_40 (ls' := [_, _, _, _]) rfl ?_
          refine ef_iinc (pc := 41) d132_41 (ls' := [_, _, _, _]) (z := ((i + 1 : Nat) : Int)) rfl (by decide) (by omega) ⟨by omega, by omega⟩ rfl ?_
          refine ef_goto (pc := 44) d132_44 (t := 4) rfl ?_
          refine ih (by omega) (by omega) (i : Int) ?_
          refine Or.inr ⟨i, rfl, h1, by omega, by omega, fun k h3 h4 h5 => ?_⟩
          by_cases hk : k = i
          · subst hk; omega
          · rcases hb with ⟨rfl, hb⟩ | ⟨q, rfl, q1, q2, q3, q4⟩
            · have := hb k h3 (by omega); omega
            · have := q4 k h3 (by omega) h5; omega
        · obtain ⟨q, rfl, q1, q2, q3, q4⟩ : ∃ q : Nat, b = (q : Int) ∧ 0 ≤ q ∧ q < i ∧ w < (g (m + 15) q) ∧ ∀ k, 0 ≤ k → k < i → w < (g (m + 15) k) → (g (m + 15) q) ≤ (g (m + 15) k) := by
            rcases hb with ⟨hb0, -⟩ | hb
            · omega
            · exact hb
          have hb : ((q : Int) = -1 ∧ ∀ k, 0 ≤ k → k < i → (g (m + 15) k) ≤ w) ∨ (∃ r : Nat, (q : Int) = (r : Int) ∧ 0 ≤ r ∧ r < i ∧ w < (g (m + 15) r) ∧ ∀ k, 0 ≤ k → k < i → w < (g (m + 15) k) → (g (m + 15) r) ≤ (g (m + 15) k)) := Or.inr ⟨q, rfl, q1, q2, q3, q4⟩
          refine ef_aload_n (pc := 24) d132_24 rfl ?_
          refine eg_getR (pc := 25) d132_25 lf_8_53 (by assumption) (by decide) (by assumption) ?_
          refine ef_iload_n (pc := 28) d132_28 rfl ?_
          refine eg_iald (pc := 29) d132_29 (i := i) (by assumption) (rfl) (by omega) ?_
          refine ef_aload_n (pc := 30) d132_30 rfl ?_
          refine eg_getR (pc := 31) d132_31 lf_8_53 (by assumption) (by decide) (by assumption) ?_
          refine ef_iload_n (pc := 34) d132_34 rfl ?_
          refine eg_iald (pc := 35) d132_35 (i := q) (by assumption) (rfl) (by omega) ?_
          refine ef_icmp_ge (pc := 36) d132_36 (t := 41) rfl (fun h36 => ?_) (fun h36 => ?_)
          · refine ef_iinc (pc := 41) d132_41 (ls' := [_, _, _, _]) (z := ((i + 1 : Nat) : Int)) rfl (by decide) (by omega) ⟨by omega, by omega⟩ rfl ?_
            refine ef_goto (pc := 44) d132_44 (t := 4) rfl ?_
            refine ih (by omega) (by omega) (q : Int) ?_
            refine Or.inr ⟨q, rfl, q1, by omega, q3, fun k h3 h4 h5 => ?_⟩
            by_cases hk : k = i
            · subst hk; omega
            · exact q4 k h3 (by omega) h5
          · refine ef_iload_n (pc := 39) d132_39 rfl ?_
            refine ef_istore_n (pc := 40) d132_40 (ls' := [_, _, _, _]) rfl ?_
            refine ef_iinc (pc := 41) d132_41 (ls' := [_, _, _, _]) (z := ((i + 1 : Nat) : Int)) rfl (by decide) (by omega) ⟨by omega, by omega⟩ rfl ?_
            refine ef_goto (pc := 44) d132_44 (t := 4) rfl ?_
            refine ih (by omega) (by omega) (i : Int) ?_
            refine Or.inr ⟨i, rfl, h1, by omega, by omega, fun k h3 h4 h5 => ?_⟩
            by_cases hk : k = i
            · subst hk; omega
            · have := q4 k h3 (by omega) h5; omega
  change Ef P _ 132 0 [some (vR m), some (vI w), none, none] [] _ _
  refine ef_iconst (pc := 0) d132_0 (by decide) ?_
  refine ef_istore_n (pc := 1) d132_1 (ls' := [_, _, _, _]) rfl ?_
  refine ef_iconst (pc := 2) d132_2 (by decide) ?_
  refine ef_istore_n (pc := 3) d132_3 (ls' := [_, _, _, _]) rfl ?_
  exact loop 0 (by omega) (by omega) (-1) (Or.inl ⟨rfl, fun k h3 h4 => absurd h4 (by omega)⟩)
theorem c133 {P : Pg} {d : Nat} {u : Mm} {g : Nat → Nat → Int} {m : Nat} {w : Int} (hM : MdA u m) : Ec P (d + 1) 133 [vR m, vI w] (sI u g) (fun x u' => u' = sI u g ∧ ((x = .inl (some (vI (-1))) ∧ ∀ k, 1 ≤ k → k < 51 → (oNum g m k) ≤ w) ∨ (∃ q : Nat, x = .inl (some (vI (q : Int))) ∧ 1 ≤ q ∧ q < 51 ∧ w < (oNum g m q) ∧ ∀ k, 1 ≤ k → k < 51 → w < (oNum g m k) → (oNum g m q) ≤ (oNum g m k)))) := by
  have s0 := hM.1
  have loop : ∀ i, i ≤ 51 → 1 ≤ i → ∀ b : Int, ((b = -1 ∧ ∀ k, 1 ≤ k → k < i → (oNum g m k) ≤ w) ∨ (∃ q : Nat, b = (q : Int) ∧ 1 ≤ q ∧ q < i ∧ w < (oNum g m q) ∧ ∀ k, 1 ≤ k → k < i → w < (oNum g m k) → (oNum g m q) ≤ (oNum g m k))) → Ef P (d + 1) 133 4 [some (vR m), some (vI w), some (vI b), some (vI (i : Int))] [] (sI u g) (fun x u' => u' = sI u g ∧ ((x = .inl (some (vI (-1))) ∧ ∀ k, 1 ≤ k → k < 51 → (oNum g m k) ≤ w) ∨ (∃ q : Nat, x = .inl (some (vI (q : Int))) ∧ 1 ≤ q ∧ q < 51 ∧ w < (oNum g m q) ∧ ∀ k, 1 ≤ k → k < 51 → w < (oNum g m k) → (oNum g m q) ≤ (oNum g m k)))) := by
    refine nat_loop 51 ?_
    intro i hi ih h1 b hb
    refine ef_iload_n (pc := 4) d133_4 rfl ?_
    refine ef_bipush (pc := 5) d133_5 (by decide) ?_
    refine ef_icmp_ge (pc := 7) d133_7 (t := 44) rfl (fun h7 => ?_) (fun h7 => ?_)
    · have hii : i = 51 := by omega
      subst hii
      refine ef_iload_n (pc := 44) d133_44 rfl ?_
      refine ef_iret (pc := 45) d133_45 rfl ?_
      rcases hb with ⟨rfl, hb⟩ | ⟨q, rfl, q1, q2, q3, q4⟩
      · exact ⟨rfl, Or.inl ⟨rfl, hb⟩⟩
      · exact ⟨rfl, Or.inr ⟨q, rfl, q1, q2, q3, q4⟩⟩
    · refine ef_aload_n (pc := 10) d133_10 rfl ?_
      refine ef_iload_n (pc := 11) d133_11 rfl ?_
      refine ef_callV (pc := 12) d133_12 lm_8_292 (as := [_]) rfl rfl (by assumption) rfl rfl (by decide) (Nat.le_of_ble_eq_true rfl) rfl (Nat.le_of_ble_eq_true rfl) ?_
      refine Ec.imp (c128 hM (by omega)) ?_
      rintro r12 u12 ⟨rfl, rfl⟩
      refine ef_iload_n (pc := 15) d133_15 rfl ?_
      refine ef_icmp_le (pc := 16) d133_16 (t := 38) rfl (fun h16 => ?_) (fun h16 => ?_)
      · refine ef_iinc (pc := 38) d133_38 (ls' := [_, _, _, _]) (z := ((i + 1 : Nat) : Int)) rfl (by decide) (by omega) ⟨by omega, by omega⟩ rfl ?_
        refine ef_goto (pc := 41) d133_41 (t := 4) rfl ?_
        refine ih (by omega) (by omega) b ?_
        rcases hb with ⟨rfl, hb⟩ | ⟨q, rfl, q1, q2, q3, q4⟩
        · refine Or.inl ⟨rfl, fun k h3 h4 => ?_⟩
          by_cases hk : k = i
          · subst hk; omega
          · exact hb k h3 (by omega)
        · refine Or.inr ⟨q, rfl, q1, by omega, q3, fun k h3 h4 h5 => ?_⟩
          by_cases hk : k = i
          · subst hk; omega
          · exact q4 k h3 (by omega) h5
      · refine ef_iload_n (pc := 19) d133_19 rfl ?_
        refine ef_if_lt (pc := 20) d133_20 (t := 36) rfl (fun h20 => ?_) (fun h20 => ?_)
        · refine ef_iload_n (pc := 36) d133_36 rfl ?_
          refine ef_istore_n (pc := 37) d133_37 (ls' := [_, _, _, _]) rfl ?_
          refine ef_iinc (pc := 38) d133_38 (ls' := [_, _, _, _]) (z := ((i + 1 : Nat) : Int)) rfl (by decide) (by omega) ⟨by omega, by omega⟩ rfl ?_
          refine ef_goto (pc := 41) d133_41 (t := 4) rfl ?_
          refine ih (by omega) (by omega) (i : Int) ?_
          refine Or.inr ⟨i, rfl, h1, by omega, by omega, fun k h3 h4 h5 => ?_⟩
          by_cases hk : k = i
          · subst hk; omega
          · rcases hb with ⟨rfl, hb⟩ | ⟨q, rfl, q1, q2, q3, q4⟩
            · have := hb k h3 (by omega); omega
            · have := q4 k h3 (by omega) h5; omega
        · obtain ⟨q, rfl, q1, q2, q3, q4⟩ : ∃ q : Nat, b = (q : Int) ∧ 1 ≤ q ∧ q < i ∧ w < (oNum g m q) ∧ ∀ k, 1 ≤ k → k < i → w < (oNum g m k) → (oNum g m q) ≤ (oNum g m k) := by
            rcases hb with ⟨hb0, -⟩ | hb
            · omega
            · exact hb
          have hb : ((q : Int) = -1 ∧ ∀ k, 1 ≤ k → k < i → (oNum g m k) ≤ w) ∨ (∃ r : Nat, (q : Int) = (r : Int) ∧ 1 ≤ r ∧ r < i ∧ w < (oNum g m r) ∧ ∀ k, 1 ≤ k → k < i → w < (oNum g m k) → (oNum g m r) ≤ (oNum g m k)) := Or.inr ⟨q, rfl, q1, q2, q3, q4⟩
          refine ef_aload_n (pc := 23) d133_23 rfl ?_
          refine ef_iload_n (pc := 24) d133_24 rfl ?_
          refine ef_callV (pc := 25) d133_25 lm_8_292 (as := [_]) rfl rfl (by assumption) rfl rfl (by decide) (Nat.le_of_ble_eq_true rfl) rfl (Nat.le_of_ble_eq_true rfl) ?_
          refine Ec.imp (c128 hM (by omega)) ?_
          rintro r25 u25 ⟨rfl, rfl⟩
          refine ef_aload_n (pc := 28) d133_28 rfl ?_
          refine ef_iload_n (pc := 29) d133_29 rfl ?_
          refine ef_callV (pc := 30) d133_30 lm_8_292 (as := [_]) rfl rfl (by assumption) rfl rfl (by decide) (Nat.le_of_ble_eq_true rfl) rfl (Nat.le_of_ble_eq_true rfl) ?_
          refine Ec.imp (c128 hM (by omega)) ?_
          rintro r30 u30 ⟨rfl, rfl⟩
          refine ef_icmp_ge (pc := 33) d133_33 (t := 38) rfl (fun h33 => ?_) (fun h33 => ?_)
          · refine ef_iinc (pc := 38) d133_38 (ls' := [_, _, _, _]) (z := ((i + 1 : Nat) : Int)) rfl (by decide) (by omega) ⟨by omega, by omega⟩ rfl ?_
            refine ef_goto (pc := 41) d133_41 (t := 4) rfl ?_
            refine ih (by omega) (by omega) (q : Int) ?_
            refine Or.inr ⟨q, rfl, q1, by omega, q3, fun k h3 h4 h5 => ?_⟩
            by_cases hk : k = i
            · subst hk; omega
            · exact q4 k h3 (by omega) h5
          · refine ef_iload_n (pc := 36) d133_36 rfl ?_
            refine ef_istore_n (pc := 37) d133_37 (ls' := [_, _, _, _]) rfl ?_
            refine ef_iinc (pc := 38) d133_38 (ls' := [_, _, _, _]) (z := ((i + 1 : Nat) : Int)) rfl (by decide) (by omega) ⟨by omega, by omega⟩ rfl ?_
            refine ef_goto (pc := 41) d133_41 (t := 4) rfl ?_
            refine ih (by omega) (by omega) (i : Int) ?_
            refine Or.inr ⟨i, rfl, h1, by omega, by omega, fun k h3 h4 h5 => ?_⟩
            by_cases hk : k = i
            · subst hk; omega
            · have := q4 k h3 (by omega) h5; omega
  change Ef P _ 133 0 [some (vR m), some (vI w), none, none] [] _ _
  refine ef_iconst (pc := 0) d133_0 (by decide) ?_
  refine ef_istore_n (pc := 1) d133_1 (ls' := [_, _, _, _]) rfl ?_
  refine ef_iconst (pc := 2) d133_2 (by decide) ?_
  refine ef_istore_n (pc := 3) d133_3 (ls' := [_, _, _, _]) rfl ?_
  exact loop 1 (by omega) (by omega) (-1) (Or.inl ⟨rfl, fun k h3 h4 => absurd h4 (by omega)⟩)
/-- what the model takes for a redex: guard k with node n at q, other o -/
def isR (g : Nat → Nat → Int) (m k o n q : Nat) : Prop := 0 ≤ g (m + 15) k ∧ 0 ≤ oNum g m o ∧ ((g (m + 3) n = 5 ∧ 21 ≤ o ∧ g (m + 21) (o - 21) = (q : Int)) ∨ (g (m + 3) n ≠ 5 ∧ o < 21 ∧ g (m + 13) o = rsF (g (m + 5) n) (g (m + 18) k) ∧ ((g (m + 3) n = 4 ∧ g (m + 14) o = (q : Int)) ∨ (g (m + 3) n ≠ 4 ∧ q ≠ 0 ∧ ((g (m + 3) n = 2 ∧ o ≠ q ∧ g (m + 14) o = g (m + 14) q) ∨ (g (m + 3) n ≠ 2 ∧ g (m + 14) q = (o : Int)))))))
theorem c129 {P : Pg} {d : Nat} {u : Mm} {g : Nat → Nat → Int} {m : Nat} {k o n q : Nat} (hM : MdA u m) (hk : k < 40) (ho : o < 51) (hgn : 0 ≤ g (m + 15) k → g (m + 16) k = (n : Int) ∧ n < 51 ∧ g (m + 17) k = (q : Int) ∧ q < 21 ∧ -100 < g (m + 5) n ∧ g (m + 5) n < 100) : Ec P (d + 1) 129 [vR m, vI (k : Int), vI (o : Int)] (sI u g) (fun x u' => u' = sI u g ∧ ((isR g m k o n q ∧ x = .inl (some (vI 1))) ∨ (¬ isR g m k o n q ∧ x = .inl (some (vI 0))))) := by
  have s0 := hM.1
  have f8 : mF u m 8 = some (m + 3) := (hM.2 2 (by decide)).1
  have s8 : mS u (m + 3) = some (0, 51) := (hM.2 2 (by decide)).2
  have f10 : mF u m 10 = some (m + 5) := (hM.2 4 (by decide)).1
  have s10 : mS u (m + 5) = some (0, 51) := (hM.2 4 (by decide)).2
  have f19 : mF u m 19 = some (m + 13) := (hM.2 12 (by decide)).1
  have s19 : mS u (m + 13) = some (0, 21) := (hM.2 12 (by decide)).2
  have f20 : mF u m 20 = some (m + 14) := (hM.2 13 (by decide)).1
  have s20 : mS u (m + 14) = some (0, 21) := (hM.2 13 (by decide)).2
  have f21 : mF u m 21 = some (m + 15) := (hM.2 14 (by decide)).1
  have s21 : mS u (m + 15) = some (0, 40) := (hM.2 14 (by decide)).2
  have f22 : mF u m 22 = some (m + 16) := (hM.2 15 (by decide)).1
  have s22 : mS u (m + 16) = some (0, 40) := (hM.2 15 (by decide)).2
  have f23 : mF u m 23 = some (m + 17) := (hM.2 16 (by decide)).1
  have s23 : mS u (m + 17) = some (0, 40) := (hM.2 16 (by decide)).2
  have f24 : mF u m 24 = some (m + 18) := (hM.2 17 (by decide)).1
  have s24 : mS u (m + 18) = some (0, 40) := (hM.2 17 (by decide)).2
  have f27 : mF u m 27 = some (m + 21) := (hM.2 20 (by decide)).1
  have s27 : mS u (m + 21) = some (0, 30) := (hM.2 20 (by decide)).2
  change Ef P _ 129 0 [some (vR m), some (vI (k : Int)), some (vI (o : Int)), none, none] [] _ _
  refine ef_aload_n (pc := 0) d129_0 rfl ?_
  refine eg_getR (pc := 1) d129_1 lf_8_53 (by assumption) (by decide) (by assumption) ?_
  refine ef_iload_n (pc := 4) d129_4 rfl ?_
  refine eg_iald (pc := 5) d129_5 (i := k) (by assumption) (rfl) (by omega) ?_
  refine ef_if_lt (pc := 6) d129_6 (t := 17) rfl (fun h6 => ?_) (fun h6 => ?_)
  · have hno : ¬ isR g m k o n q := by
      unfold isR
      omega
    refine ef_iconst (pc := 17) d129_17 (by decide) ?_
    refine ef_zret (pc := 18) d129_18 rfl (by omega) ?_
    exact ⟨rfl, Or.inr ⟨hno, rfl⟩⟩
  · have h6x : 0 ≤ g (m + 15) k := by omega
    obtain ⟨n1, n2, n3, n4, n5, n6⟩ := hgn h6x
    refine ef_aload_n (pc := 9) d129_9 rfl ?_
    refine ef_iload_n (pc := 10) d129_10 rfl ?_
    refine ef_callV (pc := 11) d129_11 lm_8_292 (as := [_]) rfl rfl (by assumption) rfl rfl (by decide) (Nat.le_of_ble_eq_true rfl) rfl (Nat.le_of_ble_eq_true rfl) ?_
    refine Ec.imp (c128 hM ho) ?_
    rintro r11 u11 ⟨rfl, rfl⟩
    refine ef_if_ge (pc := 14) d129_14 (t := 19) rfl (fun h14 => ?_) (fun h14 => ?_)
    · have h14x : 0 ≤ oNum g m o := by omega
      refine ef_aload_n (pc := 19) d129_19 rfl ?_
      refine eg_getR (pc := 20) d129_20 lf_8_56 (by assumption) (by decide) (by assumption) ?_
      refine ef_iload_n (pc := 23) d129_23 rfl ?_
      refine eg_iald (pc := 24) d129_24 (i := k) (by assumption) (rfl) (by omega) ?_
      try simp (disch := omega) only [u2_ne, u2_at, u2_ni, ur_ne, ur_eq]
      rw [n1]
      refine ef_istore_n (pc := 25) d129_25 (ls' := [_, _, _, _, _]) rfl ?_
      refine ef_aload_n (pc := 26) d129_26 rfl ?_
      refine eg_getR (pc := 27) d129_27 lf_8_59 (by assumption) (by decide) (by assumption) ?_
      refine ef_iload_n (pc := 30) d129_30 rfl ?_
      refine eg_iald (pc := 31) d129_31 (i := k) (by assumption) (rfl) (by omega) ?_
      try simp (disch := omega) only [u2_ne, u2_at, u2_ni, ur_ne, ur_eq]
      rw [n3]
      refine ef_istore (pc := 32) d129_32 (ls' := [_, _, _, _, _]) rfl ?_
      refine ef_aload_n (pc := 34) d129_34 rfl ?_
      refine eg_getR (pc := 35) d129_35 lf_8_16 (by assumption) (by decide) (by assumption) ?_
      refine ef_iload_n (pc := 38) d129_38 rfl ?_
      refine eg_iald (pc := 39) d129_39 (i := n) (by assumption) (rfl) (by omega) ?_
      try simp (disch := omega) only [u2_ne, u2_at, u2_ni, ur_ne, ur_eq]
      refine ef_iconst (pc := 40) d129_40 (by decide) ?_
      refine ef_icmp_ne (pc := 41) d129_41 (t := 70) rfl (fun h41 => ?_) (fun h41 => ?_)
      · refine ef_iload_n (pc := 70) d129_70 rfl ?_
        refine ef_bipush (pc := 71) d129_71 (by decide) ?_
        refine ef_icmp_ge (pc := 73) d129_73 (t := 101) rfl (fun h73 => ?_) (fun h73 => ?_)
        · have hno : ¬ isR g m k o n q := by
            unfold isR
            omega
          refine ef_iconst (pc := 101) d129_101 (by decide) ?_
          refine ef_zret (pc := 102) d129_102 rfl (by omega) ?_
          first
          | exact ⟨rfl, Or.inl ⟨hye, rfl⟩⟩
          | exact ⟨rfl, Or.inr ⟨hno, rfl⟩⟩
        · refine ef_aload_n (pc := 76) d129_76 rfl ?_
          refine eg_getR (pc := 77) d129_77 lf_8_47 (by assumption) (by decide) (by assumption) ?_
          refine ef_iload_n (pc := 80) d129_80 rfl ?_
          refine eg_iald (pc := 81) d129_81 (i := o) (by assumption) (rfl) (by omega) ?_
          try simp (disch := omega) only [u2_ne, u2_at, u2_ni, ur_ne, ur_eq]
          refine ef_aload_n (pc := 82) d129_82 rfl ?_
          refine ef_aload_n (pc := 83) d129_83 rfl ?_
          refine eg_getR (pc := 84) d129_84 lf_8_23 (by assumption) (by decide) (by assumption) ?_
          refine ef_iload_n (pc := 87) d129_87 rfl ?_
          refine eg_iald (pc := 88) d129_88 (i := n) (by assumption) (rfl) (by omega) ?_
          try simp (disch := omega) only [u2_ne, u2_at, u2_ni, ur_ne, ur_eq]
          refine ef_aload_n (pc := 89) d129_89 rfl ?_
          refine eg_getR (pc := 90) d129_90 lf_8_62 (by assumption) (by decide) (by assumption) ?_
          refine ef_iload_n (pc := 93) d129_93 rfl ?_
          refine eg_iald (pc := 94) d129_94 (i := k) (by assumption) (rfl) (by omega) ?_
          try simp (disch := omega) only [u2_ne, u2_at, u2_ni, ur_ne, ur_eq]
          refine ef_callV (pc := 95) d129_95 lm_8_225 (as := [_, _]) rfl rfl (by assumption) rfl rfl (by decide) (Nat.le_of_ble_eq_true rfl) rfl (Nat.le_of_ble_eq_true rfl) ?_
          refine Ec.imp (c109 n6 n5) ?_
          rintro r95 u95 ⟨rfl, rfl⟩
          refine ef_icmp_eq (pc := 98) d129_98 (t := 103) rfl (fun h98 => ?_) (fun h98 => ?_)
          · refine ef_aload_n (pc := 103) d129_103 rfl ?_
            refine eg_getR (pc := 104) d129_104 lf_8_16 (by assumption) (by decide) (by assumption) ?_
            refine ef_iload_n (pc := 107) d129_107 rfl ?_
            refine eg_iald (pc := 108) d129_108 (i := n) (by assumption) (rfl) (by omega) ?_
            try simp (disch := omega) only [u2_ne, u2_at, u2_ni, ur_ne, ur_eq]
            refine ef_iconst (pc := 109) d129_109 (by decide) ?_
            refine ef_icmp_ne (pc := 110) d129_110 (t := 130) rfl (fun h110 => ?_) (fun h110 => ?_)
            · refine ef_iload (pc := 130) d129_130 rfl ?_
              refine ef_if_ne (pc := 132) d129_132 (t := 137) rfl (fun h132 => ?_) (fun h132 => ?_)
              · refine ef_aload_n (pc := 137) d129_137 rfl ?_
                refine eg_getR (pc := 138) d129_138 lf_8_16 (by assumption) (by decide) (by assumption) ?_
                refine ef_iload_n (pc := 141) d129_141 rfl ?_
                refine eg_iald (pc := 142) d129_142 (i := n) (by assumption) (rfl) (by omega) ?_
                try simp (disch := omega) only [u2_ne, u2_at, u2_ni, ur_ne, ur_eq]
                refine ef_iconst (pc := 143) d129_143 (by decide) ?_
                refine ef_icmp_ne (pc := 144) d129_144 (t := 177) rfl (fun h144 => ?_) (fun h144 => ?_)
                · refine ef_aload_n (pc := 177) d129_177 rfl ?_
                  refine eg_getR (pc := 178) d129_178 lf_8_50 (by assumption) (by decide) (by assumption) ?_
                  refine ef_iload (pc := 181) d129_181 rfl ?_
                  refine eg_iald (pc := 183) d129_183 (i := q) (by assumption) (rfl) (by omega) ?_
                  try simp (disch := omega) only [u2_ne, u2_at, u2_ni, ur_ne, ur_eq]
                  refine ef_iload_n (pc := 184) d129_184 rfl ?_
                  refine ef_icmp_ne (pc := 185) d129_185 (t := 192) rfl (fun h185 => ?_) (fun h185 => ?_)
                  · have hno : ¬ isR g m k o n q := by
                      unfold isR
                      omega
                    refine ef_iconst (pc := 192) d129_192 (by decide) ?_
                    refine ef_zret (pc := 193) d129_193 rfl (by omega) ?_
                    first
                    | exact ⟨rfl, Or.inl ⟨hye, rfl⟩⟩
                    | exact ⟨rfl, Or.inr ⟨hno, rfl⟩⟩
                  · have hye : isR g m k o n q := ⟨h6x, h14x, Or.inr ⟨h41, by omega, h98, Or.inr ⟨h110, by omega, Or.inr ⟨h144, h185⟩⟩⟩⟩
                    refine ef_iconst (pc := 188) d129_188 (by decide) ?_
                    refine ef_goto (pc := 189) d129_189 (t := 193) rfl ?_
                    refine ef_zret (pc := 193) d129_193 rfl (by omega) ?_
                    first
                    | exact ⟨rfl, Or.inl ⟨hye, rfl⟩⟩
                    | exact ⟨rfl, Or.inr ⟨hno, rfl⟩⟩
                · refine ef_iload_n (pc := 147) d129_147 rfl ?_
                  refine ef_iload (pc := 148) d129_148 rfl ?_
                  refine ef_icmp_eq (pc := 150) d129_150 (t := 173) rfl (fun h150 => ?_) (fun h150 => ?_)
                  · have hno : ¬ isR g m k o n q := by
                      unfold isR
                      omega
                    refine ef_iconst (pc := 173) d129_173 (by decide) ?_
                    refine ef_goto (pc := 174) d129_174 (t := 193) rfl ?_
                    refine ef_zret (pc := 193) d129_193 rfl (by omega) ?_
                    first
                    | exact ⟨rfl, Or.inl ⟨hye, rfl⟩⟩
                    | exact ⟨rfl, Or.inr ⟨hno, rfl⟩⟩
                  · refine ef_aload_n (pc := 153) d129_153 rfl ?_
                    refine eg_getR (pc := 154) d129_154 lf_8_50 (by assumption) (by decide) (by assumption) ?_
                    refine ef_iload_n (pc := 157) d129_157 rfl ?_
                    refine eg_iald (pc := 158) d129_158 (i := o) (by assumption) (rfl) (by omega) ?_
                    try simp (disch := omega) only [u2_ne, u2_at, u2_ni, ur_ne, ur_eq]
                    refine ef_aload_n (pc := 159) d129_159 rfl ?_
                    refine eg_getR (pc := 160) d129_160 lf_8_50 (by assumption) (by decide) (by assumption) ?_
                    refine ef_iload (pc := 163) d129_163 rfl ?_
                    refine eg_iald (pc := 165) d129_165 (i := q) (by assumption) (rfl) (by omega) ?_
                    try simp (disch := omega) only [u2_ne, u2_at, u2_ni, ur_ne, ur_eq]
                    refine ef_icmp_ne (pc := 166) d129_166 (t := 173) rfl (fun h166 => ?_) (fun h166 => ?_)
                    · have hno : ¬ isR g m k o n q := by
                        unfold isR
                        omega
                      refine ef_iconst (pc := 173) d129_173 (by decide) ?_
                      refine ef_goto (pc := 174) d129_174 (t := 193) rfl ?_
                      refine ef_zret (pc := 193) d129_193 rfl (by omega) ?_
                      first
                      | exact ⟨rfl, Or.inl ⟨hye, rfl⟩⟩
                      | exact ⟨rfl, Or.inr ⟨hno, rfl⟩⟩
                    · have hye : isR g m k o n q := ⟨h6x, h14x, Or.inr ⟨h41, by omega, h98, Or.inr ⟨h110, by omega, Or.inl ⟨h144, by omega, h166⟩⟩⟩⟩
                      refine ef_iconst (pc := 169) d129_169 (by decide) ?_
                      refine ef_goto (pc := 170) d129_170 (t := 193) rfl ?_
                      refine ef_zret (pc := 193) d129_193 rfl (by omega) ?_
                      first
                      | exact ⟨rfl, Or.inl ⟨hye, rfl⟩⟩
                      | exact ⟨rfl, Or.inr ⟨hno, rfl⟩⟩
              · have hno : ¬ isR g m k o n q := by
                  unfold isR
                  omega
                refine ef_iconst (pc := 135) d129_135 (by decide) ?_
                refine ef_zret (pc := 136) d129_136 rfl (by omega) ?_
                first
                | exact ⟨rfl, Or.inl ⟨hye, rfl⟩⟩
                | exact ⟨rfl, Or.inr ⟨hno, rfl⟩⟩
            · refine ef_aload_n (pc := 113) d129_113 rfl ?_
              refine eg_getR (pc := 114) d129_114 lf_8_50 (by assumption) (by decide) (by assumption) ?_
              refine ef_iload_n (pc := 117) d129_117 rfl ?_
              refine eg_iald (pc := 118) d129_118 (i := o) (by assumption) (rfl) (by omega) ?_
              try simp (disch := omega) only [u2_ne, u2_at, u2_ni, ur_ne, ur_eq]
              refine ef_iload (pc := 119) d129_119 rfl ?_
              refine ef_icmp_ne (pc := 121) d129_121 (t := 128) rfl (fun h121 => ?_) (fun h121 => ?_)
              · have hno : ¬ isR g m k o n q := by
                  unfold isR
                  omega
                refine ef_iconst (pc := 128) d129_128 (by decide) ?_
                refine ef_zret (pc := 129) d129_129 rfl (by omega) ?_
                first
                | exact ⟨rfl, Or.inl ⟨hye, rfl⟩⟩
                | exact ⟨rfl, Or.inr ⟨hno, rfl⟩⟩
              · have hye : isR g m k o n q := ⟨h6x, h14x, Or.inr ⟨h41, by omega, h98, Or.inl ⟨h110, h121⟩⟩⟩
                refine ef_iconst (pc := 124) d129_124 (by decide) ?_
                refine ef_goto (pc := 125) d129_125 (t := 129) rfl ?_
                refine ef_zret (pc := 129) d129_129 rfl (by omega) ?_
                first
                | exact ⟨rfl, Or.inl ⟨hye, rfl⟩⟩
                | exact ⟨rfl, Or.inr ⟨hno, rfl⟩⟩
          · have hno : ¬ isR g m k o n q := by
              unfold isR
              omega
            refine ef_iconst (pc := 101) d129_101 (by decide) ?_
            refine ef_zret (pc := 102) d129_102 rfl (by omega) ?_
            first
            | exact ⟨rfl, Or.inl ⟨hye, rfl⟩⟩
            | exact ⟨rfl, Or.inr ⟨hno, rfl⟩⟩
      · refine ef_iload_n (pc := 44) d129_44 rfl ?_
        refine ef_bipush (pc := 45) d129_45 (by decide) ?_
        refine ef_icmp_lt (pc := 47) d129_47 (t := 68) rfl (fun h47 => ?_) (fun h47 => ?_)
        · have hno : ¬ isR g m k o n q := by
            unfold isR
            omega
          refine ef_iconst (pc := 68) d129_68 (by decide) ?_
          refine ef_zret (pc := 69) d129_69 rfl (by omega) ?_
          first
          | exact ⟨rfl, Or.inl ⟨hye, rfl⟩⟩
          | exact ⟨rfl, Or.inr ⟨hno, rfl⟩⟩
        · refine ef_aload_n (pc := 50) d129_50 rfl ?_
          refine eg_getR (pc := 51) d129_51 lf_8_71 (by assumption) (by decide) (by assumption) ?_
          refine ef_iload_n (pc := 54) d129_54 rfl ?_
          refine ef_bipush (pc := 55) d129_55 (by decide) ?_
          refine ef_isub (pc := 57) d129_57 (z := ((o - 21 : Nat) : Int)) (by omega) ⟨by omega, by omega⟩ ?_
          refine eg_iald (pc := 58) d129_58 (i := o - 21) (by assumption) (rfl) (by omega) ?_
          try simp (disch := omega) only [u2_ne, u2_at, u2_ni, ur_ne, ur_eq]
          refine ef_iload (pc := 59) d129_59 rfl ?_
          refine ef_icmp_ne (pc := 61) d129_61 (t := 68) rfl (fun h61 => ?_) (fun h61 => ?_)
          · have hno : ¬ isR g m k o n q := by
              unfold isR
              omega
            refine ef_iconst (pc := 68) d129_68 (by decide) ?_
            refine ef_zret (pc := 69) d129_69 rfl (by omega) ?_
            first
            | exact ⟨rfl, Or.inl ⟨hye, rfl⟩⟩
            | exact ⟨rfl, Or.inr ⟨hno, rfl⟩⟩
          · have hye : isR g m k o n q := ⟨h6x, h14x, Or.inl ⟨h41, by omega, h61⟩⟩
            refine ef_iconst (pc := 64) d129_64 (by decide) ?_
            refine ef_goto (pc := 65) d129_65 (t := 69) rfl ?_
            refine ef_zret (pc := 69) d129_69 rfl (by omega) ?_
            first
            | exact ⟨rfl, Or.inl ⟨hye, rfl⟩⟩
            | exact ⟨rfl, Or.inr ⟨hno, rfl⟩⟩
    · have hno : ¬ isR g m k o n q := by
        unfold isR
        omega
      refine ef_iconst (pc := 17) d129_17 (by decide) ?_
      refine ef_zret (pc := 18) d129_18 rfl (by omega) ?_
      exact ⟨rfl, Or.inr ⟨hno, rfl⟩⟩
