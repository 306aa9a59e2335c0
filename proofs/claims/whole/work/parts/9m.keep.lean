/-! The model: texts packed, kept, compared. Written by wip/whole/gen/c9m.py. -/
def tx (T : List Int) (n : Nat) : Int := match T[n]? with
  | some c => c
  | none => 0
def ekF (T : List Int) (i : Nat) : Nat → Int64
  | 0 => 0
  | k + 1 => ekF T i k ||| ((Int32.ofInt (tx T (8 * i + k))).toInt64 <<< ((Int32.ofInt (8 * (k : Int))).toInt64 &&& 63))
def nkF (T : List Int) (i : Nat) : Nat → Nat
  | 0 => 0
  | k + 1 => nkF T i k ||| ((tx T (8 * i + k)).toNat <<< (8 * k))
theorem nk_bit {T : List Int} {i : Nat} (hT : ∀ n, 0 ≤ tx T n ∧ tx T n < 256) : ∀ k j b, b < 8 → (nkF T i k).testBit (8 * j + b) = (decide (j < k) && (tx T (8 * i + j)).toNat.testBit b) := by
  intro k
  induction k with
  | zero => intro j b hb; simp [nkF]
  | succ k ih =>
    intro j b hb
    rw [nkF, Nat.testBit_or, ih j b hb, Nat.testBit_shiftLeft]
    have hc : ∀ x, 8 ≤ x → (tx T (8 * i + k)).toNat.testBit x = false := fun x hx => Nat.testBit_lt_two_pow (Nat.lt_of_lt_of_le (by have := hT (8 * i + k); omega : (tx T (8 * i + k)).toNat < 2 ^ 8) (Nat.pow_le_pow_right (by decide) hx))
    by_cases h1 : j < k
    · have h2 : ¬ 8 * j + b ≥ 8 * k := by omega
      have h3 : j < k + 1 := by omega
      simp [h1, h2, h3]
    · by_cases h4 : j = k
      · subst h4
        have h2 : 8 * j + b ≥ 8 * j := by omega
        have h5 : 8 * j + b - 8 * j = b := by omega
        simp [h5]
      · have h3 : ¬ j < k + 1 := by omega
        have h5 := hc (8 * j + b - 8 * k) (by omega)
        simp [h1, h3, h5]
theorem nk_lt {T : List Int} {i : Nat} (hT : ∀ n, 0 ≤ tx T n ∧ tx T n < 256) : ∀ k, nkF T i k < 2 ^ (8 * k) := by
  intro k
  induction k with
  | zero => exact Nat.one_pos
  | succ k ih =>
    rw [nkF]
    refine Nat.or_lt_two_pow (Nat.lt_of_lt_of_le ih (Nat.pow_le_pow_right (by decide) (by omega))) ?_
    rw [Nat.shiftLeft_eq, show 8 * (k + 1) = 8 + 8 * k by omega, Nat.pow_add]
    exact Nat.mul_lt_mul_of_pos_right (by have := hT (8 * i + k); omega) (Nat.pow_pos (by decide))
theorem sh_all {x : Int64} : ∀ k : Nat, k < 8 → (x <<< ((Int32.ofInt (8 * (k : Int))).toInt64 &&& 63)).toBitVec = x.toBitVec <<< (8 * k) := by
  intro k hk
  match k, hk with
  | 0, _ => rfl
  | 1, _ => rfl
  | 2, _ => rfl
  | 3, _ => rfl
  | 4, _ => rfl
  | 5, _ => rfl
  | 6, _ => rfl
  | 7, _ => rfl
theorem by_all : ∀ c : Nat, c < 256 → (Int32.ofInt (c : Int)).toInt64.toBitVec.toNat = c := by decide +kernel
theorem ek_nk {T : List Int} {i : Nat} (hT : ∀ n, 0 ≤ tx T n ∧ tx T n < 256) : ∀ k, k ≤ 8 → (ekF T i k).toBitVec.toNat = nkF T i k := by
  intro k
  induction k with
  | zero => intro _; rfl
  | succ k ih =>
    intro hk
    have h1 := hT (8 * i + k)
    obtain ⟨c, hc⟩ : ∃ c : Nat, tx T (8 * i + k) = (c : Int) := ⟨(tx T (8 * i + k)).toNat, by omega⟩
    rw [ekF, nkF, Int64.toBitVec_or, BitVec.toNat_or, ih (by omega), sh_all k (by omega), BitVec.toNat_shiftLeft, hc, by_all c (by omega), Int.toNat_natCast]
    rw [Nat.mod_eq_of_lt]
    rw [Nat.shiftLeft_eq]
    have h2 : c * 2 ^ (8 * k) < 2 ^ 8 * 2 ^ (8 * k) := Nat.mul_lt_mul_of_pos_right (by omega) (Nat.pow_pos (by decide))
    rw [← Nat.pow_add] at h2
    exact Nat.lt_of_lt_of_le h2 (Nat.pow_le_pow_right (by decide) (by omega))
theorem ek_inj {T U : List Int} {i : Nat} (hT : ∀ n, 0 ≤ tx T n ∧ tx T n < 256) (hU : ∀ n, 0 ≤ tx U n ∧ tx U n < 256) (h : ekF T i 8 = ekF U i 8) {j : Nat} (hj : j < 8) : tx T (8 * i + j) = tx U (8 * i + j) := by
  have h1 : nkF T i 8 = nkF U i 8 := by rw [← ek_nk hT 8 (Nat.le_refl _), ← ek_nk hU 8 (Nat.le_refl _), h]
  have h2 : (tx T (8 * i + j)).toNat = (tx U (8 * i + j)).toNat := by
    refine Nat.eq_of_testBit_eq (fun b => ?_)
    rcases Nat.lt_or_ge b 8 with hb | hb
    · have e1 := nk_bit (i := i) hT 8 j b hb
      have e2 := nk_bit (i := i) hU 8 j b hb
      rw [h1, e2] at e1
      simpa [hj] using e1.symm
    · rw [Nat.testBit_lt_two_pow (Nat.lt_of_lt_of_le (by have := hT (8 * i + j); omega : (tx T (8 * i + j)).toNat < 2 ^ 8) (Nat.pow_le_pow_right (by decide) hb)), Nat.testBit_lt_two_pow (Nat.lt_of_lt_of_le (by have := hU (8 * i + j); omega : (tx U (8 * i + j)).toNat < 2 ^ 8) (Nat.pow_le_pow_right (by decide) hb))]
  have := hT (8 * i + j)
  have := hU (8 * i + j)
  omega
def Chs (T : List Int) : Prop := ∀ c, c ∈ T → 0 ≤ c ∧ c < 256
theorem Chs.tx {T : List Int} (h : Chs T) : ∀ n, 0 ≤ tx T n ∧ tx T n < 256 := fun n => by
  show 0 ≤ (match T[n]? with | some c => c | none => 0) ∧ (match T[n]? with | some c => c | none => 0) < 256
  cases hq : T[n]? with
  | none => exact ⟨by decide, by decide⟩
  | some c => exact h c (List.mem_of_getElem? hq)
theorem ek_eq {T U : List Int} (hT : Chs T) (hU : Chs U) (hl : T.length = U.length) (h240 : T.length ≤ 240) (h : ∀ i, i < 30 → ekF T i 8 = ekF U i 8) : T = U := by
  refine List.ext_getElem hl (fun n h1 h2 => ?_)
  have e := ek_inj hT.tx hU.tx (h (n / 8) (by omega)) (j := n % 8) (by omega)
  rw [show 8 * (n / 8) + n % 8 = n by omega] at e
  have e1 : tx T n = T[n] := by show (match T[n]? with | some c => c | none => 0) = _; rw [List.getElem?_eq_getElem h1]
  have e2 : tx U n = U[n] := by show (match U[n]? with | some c => c | none => 0) = _; rw [List.getElem?_eq_getElem h2]
  rw [e1, e2] at e
  exact e
theorem lcz {x y : Int64} : (lg_cmp x y).toInt = 0 ↔ x = y := by
  rw [← lg_cmp_eq x y]
  constructor
  · intro h; exact Int32.toInt_inj.mp (h.trans (by decide))
  · intro h; rw [h]; decide
theorem eg_last {P : Pg} {d j pc : Nat} {ls : List (Option Vl)} {st : List Vl} {u : Mm} {g : Nat → Nat → Int} {Q : Option Vl ⊕ (Nat × Nat) → Mm → Prop} {a n i : Nat} {x : Int} {v : Int64} (hd : decode (pBc P j) pc = .ok (.lastore, 1)) (hs : mS u a = some (3, n)) (hx : x = (i : Int)) (hi : i < n) (k : Ef P d j (pc + 1) ls st (sI (sL u (u2 (mL u) a i v)) g) Q) : Ef P d j pc ls (vL v :: vI x :: vR a :: st) (sI u g) Q := ef_last (u := sI u g) hd hs hx hi k
theorem MdA.sL {u : Mm} {m : Nat} {L : Nat → Nat → Int64} (h : MdA u m) : MdA (sL u L) m := h
theorem zsh : ∀ k : Nat, k < 8 → (Int32.ofInt 0).toInt64 <<< ((Int32.ofInt (8 * (k : Int))).toInt64 &&& 63) = 0 := by decide +kernel
theorem c144 {P : Pg} {d : Nat} {u : Mm} {g : Nat → Nat → Int} {m : Nat} {T : List Int} {i : Nat} (hM : MdA u m) (h49 : g m 49 = (T.length : Int)) (hT : Row (g (m + 27)) T) (hT2 : T.length ≤ 240) (hi : i < 30) : Ec P d 144 [vR m, vI (i : Int)] (sI u g) (fun x u' => u' = sI u g ∧ x = .inl (some (vL (ekF T i 8)))) := by
  have s0 := hM.1
  have f40 : mF u m 40 = some (m + 27) := (hM.2 26 (by decide)).1
  have s40 : mS u (m + 27) = some (0, 900) := (hM.2 26 (by decide)).2
  have loop : ∀ k, k ≤ 8 → Ef P d 144 5 [some (vR m), some (vI (i : Int)), some (vL (ekF T i k)), none, some (vI (k : Int))] [] (sI u g) (fun x u' => u' = sI u g ∧ x = .inl (some (vL (ekF T i 8)))) := by
    refine nat_loop 8 ?_
    intro k hk ih
    refine ef_iload (pc := 5) d144_5 rfl ?_
    refine ef_bipush (pc := 7) d144_7 (by decide) ?_
    refine ef_icmp_ge (pc := 9) d144_9 (t := 58) rfl (fun h9 => ?_) (fun h9 => ?_)
    · have hk8 : k = 8 := by omega
      subst hk8
      refine ef_lload_n (pc := 58) d144_58 rfl ?_
      refine ef_lret (pc := 59) d144_59 rfl ?_
      exact ⟨rfl, rfl⟩
    · have hlt : k < 8 := by omega
      refine ef_lload_n (pc := 12) d144_12 rfl ?_
      refine ef_bipush (pc := 13) d144_13 (by decide) ?_
      refine ef_iload_n (pc := 15) d144_15 rfl ?_
      refine ef_imul (pc := 16) d144_16 rfl ⟨by omega, by omega⟩ ?_
      refine ef_iload (pc := 17) d144_17 rfl ?_
      refine ef_iadd (pc := 19) d144_19 (z := ((8 * i + k : Nat) : Int)) (by omega) ⟨by omega, by omega⟩ ?_
      refine ef_aload_n (pc := 20) d144_20 rfl ?_
      refine eg_getI (pc := 21) d144_21 lf_8_219 (by assumption) (by decide) ?_
      rw [h49]
      refine ef_icmp_ge (pc := 24) d144_24 (t := 49) rfl (fun h24 => ?_) (fun h24 => ?_)
      · have hv : tx T (8 * i + k) = 0 := by show (match T[8 * i + k]? with | some c => c | none => 0) = 0; rw [List.getElem?_eq_none (by omega)]
        refine ef_lconst (pc := 49) d144_49 ?_
        refine ef_lor (pc := 50) d144_50 ?_
        refine ef_lstore_n (pc := 51) d144_51 (ls' := [_, _, _, _, _]) rfl ?_
        refine ef_iinc (pc := 52) d144_52 (ls' := [_, _, _, _, _]) (z := ((k + 1 : Nat) : Int)) rfl (by decide) (by omega) ⟨by omega, by omega⟩ rfl ?_
        refine ef_goto (pc := 55) d144_55 (t := 5) rfl ?_
        have := ih hlt
        rw [ekF, hv] at this
        first
        | exact this
        | (rw [show (Int32.ofInt 0).toInt64 <<< ((Int32.ofInt (8 * (k : Int))).toInt64 &&& 63) = 0 from zsh k hlt] at this; exact this)
      · obtain ⟨c, hci, -⟩ := get_of_lt (show 8 * i + k < T.length by omega)
        have hv : tx T (8 * i + k) = c := by show (match T[8 * i + k]? with | some c => c | none => 0) = c; rw [hci]
        have hg := hT _ c hci
        refine ef_aload_n (pc := 27) d144_27 rfl ?_
        refine eg_getR (pc := 28) d144_28 lf_8_89 (by assumption) (by decide) (by assumption) ?_
        refine ef_bipush (pc := 31) d144_31 (by decide) ?_
        refine ef_iload_n (pc := 33) d144_33 rfl ?_
        refine ef_imul (pc := 34) d144_34 rfl ⟨by omega, by omega⟩ ?_
        refine ef_iload (pc := 35) d144_35 rfl ?_
        refine ef_iadd (pc := 37) d144_37 (z := ((8 * i + k : Nat) : Int)) (by omega) ⟨by omega, by omega⟩ ?_
        refine eg_iald (pc := 38) d144_38 (i := 8 * i + k) (by assumption) (rfl) (by omega) ?_
        rw [hg]
        refine ef_i2l (pc := 39) d144_39 ?_
        refine ef_bipush (pc := 40) d144_40 (by decide) ?_
        refine ef_iload (pc := 42) d144_42 rfl ?_
        refine ef_imul (pc := 44) d144_44 rfl ⟨by omega, by omega⟩ ?_
        refine ef_lshl (pc := 45) d144_45 ?_
        refine ef_goto (pc := 46) d144_46 (t := 50) rfl ?_
        refine ef_lor (pc := 50) d144_50 ?_
        refine ef_lstore_n (pc := 51) d144_51 (ls' := [_, _, _, _, _]) rfl ?_
        refine ef_iinc (pc := 52) d144_52 (ls' := [_, _, _, _, _]) (z := ((k + 1 : Nat) : Int)) rfl (by decide) (by omega) ⟨by omega, by omega⟩ rfl ?_
        refine ef_goto (pc := 55) d144_55 (t := 5) rfl ?_
        have := ih hlt
        rw [ekF, hv] at this
        first
        | exact this
        | (rw [show (Int32.ofInt 0).toInt64 <<< ((Int32.ofInt (8 * (k : Int))).toInt64 &&& 63) = 0 from zsh k hlt] at this; exact this)
  change Ef P _ 144 0 [some (vR m), some (vI (i : Int)), none, none, none] [] _ _
  refine ef_lconst (pc := 0) d144_0 ?_
  refine ef_lstore_n (pc := 1) d144_1 (ls' := [_, _, _, _, _]) rfl ?_
  refine ef_iconst (pc := 2) d144_2 (by decide) ?_
  refine ef_istore (pc := 3) d144_3 (ls' := [_, _, _, _, _]) rfl ?_
  exact loop 0 (Nat.zero_le _)
theorem c143 {P : Pg} {d : Nat} {u : Mm} {g : Nat → Nat → Int} {m : Nat} {T : List Int} {s : Int} (hM : MdA u m) (h49 : g m 49 = (T.length : Int)) (hT : Row (g (m + 27)) T) (hT2 : T.length ≤ 240) : Ec P (d + 1) 143 [vR m, vI s] (sI u g) (fun x u' => (¬ (0 ≤ s ∧ s ≤ 2) ∧ u' = sI u (u2 (u2 g m 0 0) m 0 1) ∧ x = .inl (some (vI 0))) ∨ (∃ n : Nat, s = (n : Int) ∧ n < 3 ∧ x = .inl (some (vI (T.length : Int))) ∧ ∃ L, u' = sI (sL u L) (u2 (u2 g m 0 0) (m + 35) n (T.length : Int)) ∧ (∀ a i, a ≠ m + 36 ∨ i < 30 * n ∨ 30 * n + 30 ≤ i → L a i = mL u a i) ∧ ∀ i, i < 30 → L (m + 36) (30 * n + i) = ekF T i 8)) := by
  have s0 := hM.1
  have f50 : mF u m 50 = some (m + 35) := (hM.2 34 (by decide)).1
  have s50 : mS u (m + 35) = some (0, 3) := (hM.2 34 (by decide)).2
  have f51 : mF u m 51 = some (m + 36) := (hM.2 35 (by decide)).1
  have s51 : mS u (m + 36) = some (3, 90) := (hM.2 35 (by decide)).2
  have loop : ∀ n : Nat, n < 3 → s = (n : Int) → ∀ i, i ≤ 30 → ∀ L, (∀ a j, a ≠ m + 36 ∨ j < 30 * n ∨ 30 * n + 30 ≤ j → L a j = mL u a j) → (∀ j, j < i → L (m + 36) (30 * n + j) = ekF T j 8) → Ef P (d + 1) 143 32 [some (vR m), some (vI s), some (vI (i : Int))] [] (sI (sL u L) (u2 (u2 g m 0 0) (m + 35) n (T.length : Int))) (fun x u' => (¬ (0 ≤ s ∧ s ≤ 2) ∧ u' = sI u (u2 (u2 g m 0 0) m 0 1) ∧ x = .inl (some (vI 0))) ∨ (∃ n : Nat, s = (n : Int) ∧ n < 3 ∧ x = .inl (some (vI (T.length : Int))) ∧ ∃ L, u' = sI (sL u L) (u2 (u2 g m 0 0) (m + 35) n (T.length : Int)) ∧ (∀ a i, a ≠ m + 36 ∨ i < 30 * n ∨ 30 * n + 30 ≤ i → L a i = mL u a i) ∧ ∀ i, i < 30 → L (m + 36) (30 * n + i) = ekF T i 8)) := by
    intro n hn hs
    refine nat_loop 30 ?_
    intro i hi ih L o1 r1
    have s0 : mS (sL u L) m = some (100 + 8, 67) := s0
    have f51 : mF (sL u L) m 51 = some (m + 36) := f51
    have s51 : mS (sL u L) (m + 36) = some (3, 90) := s51
    have e49 : u2 (u2 g m 0 0) (m + 35) n (T.length : Int) m 49 = (T.length : Int) := by rw [u2_ne (by omega), u2_ni (by decide)]; exact h49
    have e27 : Row (u2 (u2 g m 0 0) (m + 35) n (T.length : Int) (m + 27)) T := by rw [u2_ne (by omega), u2_ne (by omega)]; exact hT
    refine ef_iload_n (pc := 32) d143_32 rfl ?_
    refine ef_bipush (pc := 33) d143_33 (by decide) ?_
    refine ef_icmp_ge (pc := 35) d143_35 (t := 60) rfl (fun h35 => ?_) (fun h35 => ?_)
    · have hii : i = 30 := by omega
      refine ef_aload_n (pc := 60) d143_60 rfl ?_
      refine eg_getI (pc := 61) d143_61 lf_8_219 (by assumption) (by decide) ?_
      rw [e49]
      refine ef_iret (pc := 64) d143_64 rfl ?_
      exact Or.inr ⟨n, hs, hn, rfl, L, rfl, o1, fun j hj => r1 j (by omega)⟩
    · have hlt : i < 30 := by omega
      refine ef_aload_n (pc := 38) d143_38 rfl ?_
      refine eg_getR (pc := 39) d143_39 lf_8_116 (by assumption) (by decide) (by assumption) ?_
      refine ef_bipush (pc := 42) d143_42 (by decide) ?_
      refine ef_iload_n (pc := 44) d143_44 rfl ?_
      refine ef_imul (pc := 45) d143_45 rfl ⟨by omega, by omega⟩ ?_
      refine ef_iload_n (pc := 46) d143_46 rfl ?_
      refine ef_iadd (pc := 47) d143_47 (z := ((30 * n + i : Nat) : Int)) (by omega) ⟨by omega, by omega⟩ ?_
      refine ef_aload_n (pc := 48) d143_48 rfl ?_
      refine ef_iload_n (pc := 49) d143_49 rfl ?_
      refine ef_callV (pc := 50) d143_50 lm_8_340 (as := [_]) rfl rfl (by assumption) rfl rfl (by decide) (Nat.le_of_ble_eq_true rfl) rfl (Nat.le_of_ble_eq_true rfl) ?_
      refine Ec.imp (c144 (hM.sL) e49 e27 hT2 hlt) ?_
      rintro r50 u50 ⟨rfl, rfl⟩
      refine eg_last (pc := 53) d143_53 (i := 30 * n + i) (by assumption) (rfl) (by omega) ?_
      refine ef_iinc (pc := 54) d143_54 (ls' := [_, _, _]) (z := ((i + 1 : Nat) : Int)) rfl (by decide) (by omega) ⟨by omega, by omega⟩ rfl ?_
      refine ef_goto (pc := 57) d143_57 (t := 32) rfl ?_
      refine ih hlt (u2 L (m + 36) (30 * n + i) (ekF T i 8)) (fun a j h => ?_) (fun j hj => ?_)
      · by_cases ha : a = m + 36
        · subst ha; rw [u2_ni (by omega)]; exact o1 _ j h
        · rw [u2_ne ha]; exact o1 a j h
      · by_cases hji : j = i
        · subst hji; rw [u2_at]
        · rw [u2_ni (by omega)]; exact r1 j (by omega)
  change Ef P _ 143 0 [some (vR m), some (vI s), none] [] _ _
  refine ef_aload_n (pc := 0) d143_0 rfl ?_
  refine ef_iconst (pc := 1) d143_1 (by decide) ?_
  refine eg_putI (pc := 2) d143_2 pf_143_141 (by assumption) (by decide) ?_
  refine ef_iload_n (pc := 5) d143_5 rfl ?_
  refine ef_iconst (pc := 6) d143_6 (by decide) ?_
  refine ef_iconst (pc := 7) d143_7 (by decide) ?_
  refine ef_callS (pc := 8) d143_8 lm_8_148 (as := [_, _, _]) rfl rfl rfl (Nat.le_of_ble_eq_true rfl) rfl (Nat.le_of_ble_eq_true rfl) ?_
  refine Ec.imp (c93) ?_
  rintro r8 u8 ⟨rfl, rfl⟩
  refine ef_if_ne (pc := 11) d143_11 (t := 20) rfl (fun h11 => ?_) (fun h11 => ?_)
  · have hy := of_decide_eq_true (b01_f h11)
    obtain ⟨n, hn⟩ : ∃ n : Nat, s = (n : Int) := ⟨s.toNat, by omega⟩
    refine ef_aload_n (pc := 20) d143_20 rfl ?_
    refine eg_getR (pc := 21) d143_21 lf_8_113 (by assumption) (by decide) (by assumption) ?_
    refine ef_iload_n (pc := 24) d143_24 rfl ?_
    refine ef_aload_n (pc := 25) d143_25 rfl ?_
    refine eg_getI (pc := 26) d143_26 lf_8_219 (by assumption) (by decide) ?_
    rw [u2_ni (by decide), h49]
    refine eg_iast (pc := 29) d143_29 (i := n) (by assumption) (hn) (by omega) rfl ?_
    refine ef_iconst (pc := 30) d143_30 (by decide) ?_
    refine ef_istore_n (pc := 31) d143_31 (ls' := [_, _, _]) rfl ?_
    exact loop n (by omega) hn 0 (Nat.zero_le _) (mL u) (fun a j _ => rfl) (fun j hj => absurd hj (by omega))
  · have hno := of_decide_eq_false (b01_t h11)
    refine ef_aload_n (pc := 14) d143_14 rfl ?_
    refine ef_iconst (pc := 15) d143_15 (by decide) ?_
    refine ef_callV (pc := 16) d143_16 lm_8_152 (as := [_]) rfl rfl (by assumption) rfl rfl (by decide) (Nat.le_of_ble_eq_true rfl) rfl (Nat.le_of_ble_eq_true rfl) ?_
    refine Ec.imp (c94 hM) ?_
    rintro r16 u16 ⟨rfl, rfl⟩
    refine ef_iret (pc := 19) d143_19 rfl ?_
    exact Or.inl ⟨hno, rfl, rfl⟩
def KtM (u : Mm) (g : Nat → Nat → Int) (m : Nat) (K : Nat → List Int) : Prop := ∀ s, s < 3 → Chs (K s) ∧ (K s).length ≤ 240 ∧ ((K s = [] ∧ g (m + 35) s = -1) ∨ (K s ≠ [] ∧ g (m + 35) s = ((K s).length : Int) ∧ ∀ i, i < 30 → mL u (m + 36) (30 * s + i) = ekF (K s) i 8))
theorem c145 {P : Pg} {d : Nat} {u : Mm} {g : Nat → Nat → Int} {m : Nat} {T : List Int} {K : Nat → List Int} {s : Int} (hM : MdA u m) (h49 : g m 49 = (T.length : Int)) (hT : Row (g (m + 27)) T) (hT2 : T.length ≤ 240) (hTc : Chs T) (hK : KtM u g m K) : Ec P (d + 1) 145 [vR m, vI s] (sI u g) (fun x u' => (¬ (0 ≤ s ∧ s ≤ 2) ∧ u' = sI u (u2 (u2 g m 0 0) m 0 1) ∧ x = .inl (some (vI 0))) ∨ (∃ n : Nat, s = (n : Int) ∧ n < 3 ∧ ((K n = [] ∧ u' = sI u (u2 (u2 g m 0 0) m 0 2) ∧ x = .inl (some (vI 0))) ∨ (K n ≠ [] ∧ u' = sI u (u2 g m 0 0) ∧ x = .inl (some (vI (if T = K n then 1 else 0))))))) := by
  have s0 := hM.1
  have f50 : mF u m 50 = some (m + 35) := (hM.2 34 (by decide)).1
  have s50 : mS u (m + 35) = some (0, 3) := (hM.2 34 (by decide)).2
  have f51 : mF u m 51 = some (m + 36) := (hM.2 35 (by decide)).1
  have s51 : mS u (m + 36) = some (3, 90) := (hM.2 35 (by decide)).2
  have e49 : u2 g m 0 0 m 49 = (T.length : Int) := by rw [u2_ni (by decide)]; exact h49
  have e27 : Row (u2 g m 0 0 (m + 27)) T := by rw [u2_ne (by omega)]; exact hT
  have loop : ∀ n : Nat, n < 3 → s = (n : Int) → K n ≠ [] → (∀ i, i < 30 → mL u (m + 36) (30 * n + i) = ekF (K n) i 8) → ∀ i, i ≤ 30 → ∀ z : Bool, (z = true ↔ ((K n).length = T.length ∧ ∀ j, j < i → ekF (K n) j 8 = ekF T j 8)) → Ef P (d + 1) 145 72 [some (vR m), some (vI s), some (vI (b01 z)), some (vI (i : Int))] [] (sI u (u2 g m 0 0)) (fun x u' => (¬ (0 ≤ s ∧ s ≤ 2) ∧ u' = sI u (u2 (u2 g m 0 0) m 0 1) ∧ x = .inl (some (vI 0))) ∨ (∃ n : Nat, s = (n : Int) ∧ n < 3 ∧ ((K n = [] ∧ u' = sI u (u2 (u2 g m 0 0) m 0 2) ∧ x = .inl (some (vI 0))) ∨ (K n ≠ [] ∧ u' = sI u (u2 g m 0 0) ∧ x = .inl (some (vI (if T = K n then 1 else 0))))))) := by
    intro n hn hs hne hk
    refine nat_loop 30 ?_
    intro i hi ih z hz
    have next : ∀ z' : Bool, i < 30 → (z' = true ↔ (z = true ∧ ekF (K n) i 8 = ekF T i 8)) → ∀ v2, Ef P (d + 1) 145 107 [some (vR m), some (vI s), v2, some (vI (i : Int))] [vI (b01 z')] (sI u (u2 g m 0 0)) (fun x u' => (¬ (0 ≤ s ∧ s ≤ 2) ∧ u' = sI u (u2 (u2 g m 0 0) m 0 1) ∧ x = .inl (some (vI 0))) ∨ (∃ n : Nat, s = (n : Int) ∧ n < 3 ∧ ((K n = [] ∧ u' = sI u (u2 (u2 g m 0 0) m 0 2) ∧ x = .inl (some (vI 0))) ∨ (K n ≠ [] ∧ u' = sI u (u2 g m 0 0) ∧ x = .inl (some (vI (if T = K n then 1 else 0))))))) := by
      intro z' hlt hz' v2
      refine ef_istore_n (pc := 107) d145_107 (ls' := [_, _, _, _]) rfl ?_
      refine ef_iinc (pc := 108) d145_108 (ls' := [_, _, _, _]) (z := ((i + 1 : Nat) : Int)) rfl (by decide) (by omega) ⟨by omega, by omega⟩ rfl ?_
      refine ef_goto (pc := 111) d145_111 (t := 72) rfl ?_
      refine ih hlt z' (hz'.trans ?_)
      rw [hz]
      constructor
      · rintro ⟨⟨p1, p2⟩, p3⟩
        refine ⟨p1, fun j hj => ?_⟩
        by_cases hji : j = i
        · subst hji; exact p3
        · exact p2 j (by omega)
      · rintro ⟨p1, p2⟩
        exact ⟨⟨p1, fun j hj => p2 j (by omega)⟩, p2 i (by omega)⟩
    refine ef_iload_n (pc := 72) d145_72 rfl ?_
    refine ef_bipush (pc := 73) d145_73 (by decide) ?_
    refine ef_icmp_ge (pc := 75) d145_75 (t := 114) rfl (fun h75 => ?_) (fun h75 => ?_)
    · have hii : i = 30 := by omega
      subst hii
      refine ef_iload_n (pc := 114) d145_114 rfl ?_
      refine ef_zret (pc := 115) d145_115 rfl (by cases z <;> decide) ?_
      refine Or.inr ⟨n, hs, hn, Or.inr ⟨hne, rfl, ?_⟩⟩
      cases z with
      | true =>
        obtain ⟨p1, p2⟩ := hz.mp rfl
        rw [if_pos (ek_eq (hK n hn).1 hTc p1 (hK n hn).2.1 p2).symm]; rfl
      | false =>
        rw [if_neg (fun h => by have := hz.mpr ⟨by rw [h], fun j _ => by rw [h]⟩; cases this)]; rfl
    · have hlt : i < 30 := by omega
      refine ef_iload_n (pc := 78) d145_78 rfl ?_
      refine ef_if_eq (pc := 79) d145_79 (t := 106) rfl (fun h79 => ?_) (fun h79 => ?_)
      · have hzf := b01_t h79
        refine ef_iconst (pc := 106) d145_106 (by decide) ?_
        first
        | exact next true hlt ⟨fun _ => ⟨hzt, hyq⟩, fun _ => rfl⟩ _
        | exact next false hlt ⟨fun h => absurd h (by decide), fun h => absurd h.2 hnq⟩ _
        | exact next false hlt ⟨fun h => absurd h (by decide), fun h => by rw [hzf] at h; cases h.1⟩ _
      · have hzt := b01_f h79
        refine ef_aload_n (pc := 82) d145_82 rfl ?_
        refine eg_getR (pc := 83) d145_83 lf_8_116 (by assumption) (by decide) (by assumption) ?_
        refine ef_bipush (pc := 86) d145_86 (by decide) ?_
        refine ef_iload_n (pc := 88) d145_88 rfl ?_
        refine ef_imul (pc := 89) d145_89 rfl ⟨by omega, by omega⟩ ?_
        refine ef_iload_n (pc := 90) d145_90 rfl ?_
        refine ef_iadd (pc := 91) d145_91 (z := ((30 * n + i : Nat) : Int)) (by omega) ⟨by omega, by omega⟩ ?_
        refine eg_lald (pc := 92) d145_92 (i := 30 * n + i) (by assumption) (rfl) (by omega) ?_
        rw [hk i hlt]
        refine ef_aload_n (pc := 93) d145_93 rfl ?_
        refine ef_iload_n (pc := 94) d145_94 rfl ?_
        refine ef_callV (pc := 95) d145_95 lm_8_340 (as := [_]) rfl rfl (by assumption) rfl rfl (by decide) (Nat.le_of_ble_eq_true rfl) rfl (Nat.le_of_ble_eq_true rfl) ?_
        refine Ec.imp (c144 hM e49 e27 hT2 hlt) ?_
        rintro r95 u95 ⟨rfl, rfl⟩
        refine ef_lcmp (pc := 98) d145_98 ?_
        refine ef_if_ne (pc := 99) d145_99 (t := 106) rfl (fun h99 => ?_) (fun h99 => ?_)
        · have hnq := fun h => h99 (lcz.mpr h)
          refine ef_iconst (pc := 106) d145_106 (by decide) ?_
          first
          | exact next true hlt ⟨fun _ => ⟨hzt, hyq⟩, fun _ => rfl⟩ _
          | exact next false hlt ⟨fun h => absurd h (by decide), fun h => absurd h.2 hnq⟩ _
          | exact next false hlt ⟨fun h => absurd h (by decide), fun h => by rw [hzf] at h; cases h.1⟩ _
        · have hyq := lcz.mp h99
          refine ef_iconst (pc := 102) d145_102 (by decide) ?_
          refine ef_goto (pc := 103) d145_103 (t := 107) rfl ?_
          first
          | exact next true hlt ⟨fun _ => ⟨hzt, hyq⟩, fun _ => rfl⟩ _
          | exact next false hlt ⟨fun h => absurd h (by decide), fun h => absurd h.2 hnq⟩ _
          | exact next false hlt ⟨fun h => absurd h (by decide), fun h => by rw [hzf] at h; cases h.1⟩ _
  change Ef P _ 145 0 [some (vR m), some (vI s), none, none] [] _ _
  refine ef_aload_n (pc := 0) d145_0 rfl ?_
  refine ef_iconst (pc := 1) d145_1 (by decide) ?_
  refine eg_putI (pc := 2) d145_2 pf_145_141 (by assumption) (by decide) ?_
  refine ef_iload_n (pc := 5) d145_5 rfl ?_
  refine ef_iconst (pc := 6) d145_6 (by decide) ?_
  refine ef_iconst (pc := 7) d145_7 (by decide) ?_
  refine ef_callS (pc := 8) d145_8 lm_8_148 (as := [_, _, _]) rfl rfl rfl (Nat.le_of_ble_eq_true rfl) rfl (Nat.le_of_ble_eq_true rfl) ?_
  refine Ec.imp (c93) ?_
  rintro r8 u8 ⟨rfl, rfl⟩
  refine ef_if_ne (pc := 11) d145_11 (t := 28) rfl (fun h11 => ?_) (fun h11 => ?_)
  · have hy := of_decide_eq_true (b01_f h11)
    obtain ⟨n, hn⟩ : ∃ n : Nat, s = (n : Int) := ⟨s.toNat, by omega⟩
    have hkn := hK n (by omega)
    refine ef_aload_n (pc := 28) d145_28 rfl ?_
    refine eg_getR (pc := 29) d145_29 lf_8_113 (by assumption) (by decide) (by assumption) ?_
    refine ef_iload_n (pc := 32) d145_32 rfl ?_
    refine eg_iald (pc := 33) d145_33 (i := n) (by assumption) (hn) (by omega) ?_
    rw [u2_ne (by omega)]
    refine ef_if_ge (pc := 34) d145_34 (t := 51) rfl (fun h34 => ?_) (fun h34 => ?_)
    · obtain ⟨k1, k2, ⟨k3, k4⟩ | ⟨k3, k4, k5⟩⟩ := hkn
      · omega
      refine ef_aload_n (pc := 51) d145_51 rfl ?_
      refine eg_getR (pc := 52) d145_52 lf_8_113 (by assumption) (by decide) (by assumption) ?_
      refine ef_iload_n (pc := 55) d145_55 rfl ?_
      refine eg_iald (pc := 56) d145_56 (i := n) (by assumption) (hn) (by omega) ?_
      rw [u2_ne (by omega), k4]
      refine ef_aload_n (pc := 57) d145_57 rfl ?_
      refine eg_getI (pc := 58) d145_58 lf_8_219 (by assumption) (by decide) ?_
      rw [e49]
      refine ef_icmp_ne (pc := 61) d145_61 (t := 68) rfl (fun h61 => ?_) (fun h61 => ?_)
      · refine ef_iconst (pc := 68) d145_68 (by decide) ?_
        refine ef_istore_n (pc := 69) d145_69 (ls' := [_, _, _, _]) rfl ?_
        refine ef_iconst (pc := 70) d145_70 (by decide) ?_
        refine ef_istore_n (pc := 71) d145_71 (ls' := [_, _, _, _]) rfl ?_
        first
        | exact loop n (by omega) hn k3 k5 0 (Nat.zero_le _) true ⟨fun _ => ⟨by omega, fun j hj => absurd hj (by omega)⟩, fun _ => rfl⟩
        | exact loop n (by omega) hn k3 k5 0 (Nat.zero_le _) false ⟨fun h => absurd h (by decide), fun h => by have := h.1; omega⟩
      · refine ef_iconst (pc := 64) d145_64 (by decide) ?_
        refine ef_goto (pc := 65) d145_65 (t := 69) rfl ?_
        refine ef_istore_n (pc := 69) d145_69 (ls' := [_, _, _, _]) rfl ?_
        refine ef_iconst (pc := 70) d145_70 (by decide) ?_
        refine ef_istore_n (pc := 71) d145_71 (ls' := [_, _, _, _]) rfl ?_
        first
        | exact loop n (by omega) hn k3 k5 0 (Nat.zero_le _) true ⟨fun _ => ⟨by omega, fun j hj => absurd hj (by omega)⟩, fun _ => rfl⟩
        | exact loop n (by omega) hn k3 k5 0 (Nat.zero_le _) false ⟨fun h => absurd h (by decide), fun h => by have := h.1; omega⟩
    · obtain ⟨k1, k2, ⟨k3, k4⟩ | ⟨k3, k4, k5⟩⟩ := hkn
      rotate_left
      · omega
      refine ef_aload_n (pc := 37) d145_37 rfl ?_
      refine ef_iconst (pc := 38) d145_38 (by decide) ?_
      refine ef_callV (pc := 39) d145_39 lm_8_152 (as := [_]) rfl rfl (by assumption) rfl rfl (by decide) (Nat.le_of_ble_eq_true rfl) rfl (Nat.le_of_ble_eq_true rfl) ?_
      refine Ec.imp (c94 hM) ?_
      rintro r39 u39 ⟨rfl, rfl⟩
      refine ef_if_leT (pc := 42) d145_42 (t := 49) rfl (by decide) ?_
      refine ef_iconst (pc := 49) d145_49 (by decide) ?_
      refine ef_zret (pc := 50) d145_50 rfl (by omega) ?_
      exact Or.inr ⟨n, hn, by omega, Or.inl ⟨k3, rfl, rfl⟩⟩
  · have hno := of_decide_eq_false (b01_t h11)
    refine ef_aload_n (pc := 14) d145_14 rfl ?_
    refine ef_iconst (pc := 15) d145_15 (by decide) ?_
    refine ef_callV (pc := 16) d145_16 lm_8_152 (as := [_]) rfl rfl (by assumption) rfl rfl (by decide) (Nat.le_of_ble_eq_true rfl) rfl (Nat.le_of_ble_eq_true rfl) ?_
    refine Ec.imp (c94 hM) ?_
    rintro r16 u16 ⟨rfl, rfl⟩
    refine ef_if_leT (pc := 19) d145_19 (t := 26) rfl (by decide) ?_
    refine ef_iconst (pc := 26) d145_26 (by decide) ?_
    refine ef_zret (pc := 27) d145_27 rfl (by omega) ?_
    exact Or.inl ⟨hno, rfl, rfl⟩
