/-! The signs' text: charAt, indexOf. Written by wip/whole/gen/c51.py. -/
section T
variable {P : Pg} {d j pc : Nat} {ls : Ls} {st : List Vl} {u : Mm} {Q : Rs → Mm → Prop}
theorem lf12_9 : tLf 12 9 = none := by decide +kernel
theorem lf12_15 : tLf 12 15 = none := by decide +kernel
theorem ef_sp9 (hd : decode (pBc P j) pc = .ok (.getfield 9, 3)) (ho : tOw j = 12) (k : Ef P d j (pc + 3) ls (vR (pSv P) :: st) u Q) : Ef P d j pc ls (vR (pSg P) :: st) u Q :=
  Ef.sp hd rfl (by simp [stp, goS, kGet, ho, lf12_9]) rfl rfl rfl (by simp [sps, ho]) k
theorem ef_sp15 (hd : decode (pBc P j) pc = .ok (.getfield 15, 3)) (ho : tOw j = 12) (k : Ef P d j (pc + 3) ls (vI 0 :: st) u Q) : Ef P d j pc ls (vR (pSg P) :: st) u Q :=
  Ef.sp hd rfl (by simp [stp, goS, kGet, ho, lf12_15]) rfl rfl rfl (by simp [sps, ho]) k
theorem ef_sp38 (hd : decode (pBc P j) pc = .ok (.getstatic 38, 3)) (ho : tOw j = 12) (k : Ef P d j (pc + 3) ls (vI 1 :: st) u Q) : Ef P d j pc ls st u Q :=
  Ef.sp hd rfl rfl rfl rfl rfl (by simp [sps, ho]) k
theorem ef_sp1053 (hd : decode (pBc P j) pc = .ok (.getstatic 1053, 3)) (ho : tOw j = 12) (k : Ef P d j (pc + 3) ls (vF (pFm P) :: st) u Q) : Ef P d j pc ls st u Q :=
  Ef.sp hd rfl rfl rfl rfl rfl (by simp [sps, ho]) k
theorem ef_spLen (hd : decode (pBc P j) pc = .ok (.arraylength, 1)) (ho : Nat.ble 12 (tOw j) = true) (hs : mS u (pSv P) = none) (k : Ef P d j (pc + 1) ls (vI 4 :: st) u Q) : Ef P d j pc ls (vR (pSv P) :: st) u Q :=
  Ef.sp hd rfl (by simp [stp, goS, kLen, hs]) rfl rfl rfl (by simp [sps, show ¬ tOw j < 12 from Nat.not_lt.mpr (Nat.le_of_ble_eq_true ho)]) k
theorem ef_spB {x : Int} (hd : decode (pBc P j) pc = .ok (.baload, 1)) (ho : Nat.ble 12 (tOw j) = true) (hs : mS u (pSv P) = none) (h0 : 0 ≤ x) (h4 : x < 4) (k : Ef P d j (pc + 1) ls (vI (sgnC x) :: st) u Q) : Ef P d j pc ls (vI x :: vR (pSv P) :: st) u Q :=
  Ef.sp hd rfl (by simp [stp, goS, kEl, hs]) rfl rfl rfl (by simp [sps, show ¬ tOw j < 12 from Nat.not_lt.mpr (Nat.le_of_ble_eq_true ho), h0, h4]) k
theorem ef_spI {x : Int} (hd : decode (pBc P j) pc = .ok (.i2b, 1)) (ho : Nat.ble 12 (tOw j) = true) (k : Ef P d j (pc + 1) ls (vI (Int32.ofInt x).toInt8.toInt32.toInt :: st) u Q) : Ef P d j pc ls (vI x :: st) u Q :=
  Ef.sp hd rfl rfl rfl rfl rfl (by simp [sps, show ¬ tOw j < 12 from Nat.not_lt.mpr (Nat.le_of_ble_eq_true ho), kI1]) k
theorem ef_callT {k0 y m : Nat} {as rest : List Vl} (hd : decode (pBc P j) pc = .ok (.invokevirtual k0, 3)) (hl : pLm P (pOw P j) k0 = some (y, m)) (ha : st = as.reverse ++ vR (pSg P) :: rest) (hm : as.length + 1 = m) (h0 : tSt y = 0) (ho : tOw y = 12) (hw : (rest.map cat).sum ≤ 8) (hk : pKd P y = 0) (hx : (ent1 (vR (pSg P) :: as)).length ≤ pMx P y)
    (k : Ec P d y (vR (pSg P) :: as) u (fun r u' => match r with
      | .inl v => Ef P (d + 1) j (pc + 3) ls (v.toList ++ rest) u' Q
      | .inr x => match hnd pc x.1 (pHs P j) with
        | some h => Ef P (d + 1) j h ls [vR x.2] u' Q
        | none => pHs P j = [] ∧ Q (.inr x) u')) : Ef P (d + 1) j pc ls st u Q :=
  Ef.call hd rfl rfl rfl (by
    subst ha; subst hm
    simp [cl, iK, hl, cK, h0, tk_r, dr_r]) hw hk hx (by simp [rcv, h0, ho]) k
end T
theorem c168 {P : Pg} {d : Nat} {u : Mm} : Ec P d 168 [vR (pSg P)] u (fun r u' => u' = u ∧ r = .inl (some (vI 1))) := by
  change Ef P _ 168 0 [some (vR (pSg P))] [] _ _
  refine ef_sp38 (pc := 0) d168_0 rfl ?_
  refine ef_if_eqF (pc := 3) d168_3 (t := 17) rfl (by decide) ?_
  refine ef_aload_n (pc := 6) d168_6 rfl ?_
  refine ef_sp15 (pc := 7) d168_7 rfl ?_
  refine ef_if_neF (pc := 10) d168_10 (t := 17) rfl (rfl) ?_
  refine ef_iconst (pc := 13) d168_13 (by decide) ?_
  refine ef_goto (pc := 14) d168_14 (t := 18) rfl ?_
  refine ef_zret (pc := 18) d168_18 rfl (by omega) ?_
  exact ⟨rfl, rfl⟩
theorem c170 {P : Pg} {d : Nat} {u : Mm} : Ec P d 170 [vR (pSg P)] u (fun r u' => u' = u ∧ r = .inl (some (vI 0))) := by
  change Ef P _ 170 0 [some (vR (pSg P))] [] _ _
  refine ef_sp38 (pc := 0) d170_0 rfl ?_
  refine ef_if_eqF (pc := 3) d170_3 (t := 13) rfl (by decide) ?_
  refine ef_aload_n (pc := 6) d170_6 rfl ?_
  refine ef_sp15 (pc := 7) d170_7 rfl ?_
  refine ef_goto (pc := 10) d170_10 (t := 14) rfl ?_
  refine ef_bret (pc := 14) d170_14 rfl ?_
  exact ⟨rfl, rfl⟩
theorem c169 {P : Pg} {d : Nat} {u : Mm} (hsv : mS u (pSv P) = none) : Ec P (d + 1) 169 [vR (pSg P)] u (fun r u' => u' = u ∧ r = .inl (some (vI 4))) := by
  change Ef P _ 169 0 [some (vR (pSg P))] [] _ _
  refine ef_aload_n (pc := 0) d169_0 rfl ?_
  refine ef_sp9 (pc := 1) d169_1 rfl ?_
  refine ef_spLen (pc := 4) d169_4 rfl hsv ?_
  refine ef_aload_n (pc := 5) d169_5 rfl ?_
  refine ef_callT (pc := 6) d169_6 lm_12_335 (as := []) rfl rfl rfl rfl (Nat.le_of_ble_eq_true rfl) rfl (Nat.le_of_ble_eq_true rfl) ?_
  refine Ec.imp (c170) ?_
  rintro r6 u6 ⟨rfl, rfl⟩
  refine ef_ishr (pc := 9) d169_9 (z := 4) (by decide) ?_
  refine ef_iret (pc := 10) d169_10 rfl ?_
  exact ⟨rfl, rfl⟩
theorem c177 {P : Pg} {d : Nat} {u : Mm} {x y : Int} {r : Option Nat} (h0 : 0 ≤ x) (h1 : x < y) : Ec P d 177 [vI x, vI y, vF r] u (fun r u' => u' = u ∧ r = .inl (some (vI x))) := by
  change Ef P _ 177 0 [some (vI x), some (vI y), some (vF r)] [] _ _
  refine ef_iload_n (pc := 0) d177_0 rfl ?_
  refine ef_if_ltF (pc := 1) d177_1 (t := 9) rfl (by omega) ?_
  refine ef_iload_n (pc := 4) d177_4 rfl ?_
  refine ef_iload_n (pc := 5) d177_5 rfl ?_
  refine ef_icmp_ltT (pc := 6) d177_6 (t := 16) rfl (by omega) ?_
  refine ef_iload_n (pc := 16) d177_16 rfl ?_
  refine ef_iret (pc := 17) d177_17 rfl ?_
  exact ⟨rfl, rfl⟩
theorem c172 {P : Pg} {d : Nat} {u : Mm} {x y : Int} (h0 : 0 ≤ x) (h1 : x < y) : Ec P (d + 1) 172 [vI x, vI y] u (fun r u' => u' = u ∧ r = .inl none) := by
  change Ef P _ 172 0 [some (vI x), some (vI y)] [] _ _
  refine ef_iload_n (pc := 0) d172_0 rfl ?_
  refine ef_iload_n (pc := 1) d172_1 rfl ?_
  refine ef_sp1053 (pc := 2) d172_2 rfl ?_
  refine ef_callS (pc := 5) d172_5 lm_12_1059 (as := [_, _, _]) rfl rfl rfl (Nat.le_of_ble_eq_true rfl) rfl (Nat.le_of_ble_eq_true rfl) ?_
  refine Ec.imp (c177 h0 h1) ?_
  rintro r5 u5 ⟨rfl, rfl⟩
  refine ef_pop (pc := 8) d172_8 rfl ?_
  refine ef_vret (pc := 9) d172_9 rfl ?_
  exact ⟨rfl, rfl⟩
theorem sgn255 {x : Int} : bI (fun x y => x &&& y) (sgnC x) 255 = sgnC x := by
  unfold sgnC
  split
  · decide
  · split
    · decide
    · split <;> decide
theorem sgnC_rg {x : Int} : 0 ≤ sgnC x ∧ sgnC x < 65536 := by
  unfold sgnC
  split
  · decide
  · split
    · decide
    · split <;> decide
theorem c176 {P : Pg} {d : Nat} {u : Mm} {x : Int} (hsv : mS u (pSv P) = none) (h0 : 0 ≤ x) (h1 : x < 4) : Ec P (d + 2) 176 [vR (pSv P), vI x] u (fun r u' => u' = u ∧ r = .inl (some (vI (sgnC x)))) := by
  have hin := sgnC_rg (x := x)
  change Ef P _ 176 0 [some (vR (pSv P)), some (vI x)] [] _ _
  refine ef_iload_n (pc := 0) d176_0 rfl ?_
  refine ef_aload_n (pc := 1) d176_1 rfl ?_
  refine ef_spLen (pc := 2) d176_2 rfl hsv ?_
  refine ef_callS (pc := 3) d176_3 lm_13_9 (as := [_, _]) rfl rfl rfl (Nat.le_of_ble_eq_true rfl) rfl (Nat.le_of_ble_eq_true rfl) ?_
  refine Ec.imp (c172 h0 h1) ?_
  rintro r3 u3 ⟨rfl, rfl⟩
  refine ef_aload_n (pc := 6) d176_6 rfl ?_
  refine ef_iload_n (pc := 7) d176_7 rfl ?_
  refine ef_spB (pc := 8) d176_8 rfl hsv (by omega) (by omega) ?_
  refine ef_sipush (pc := 9) d176_9 (by decide) ?_
  refine ef_iand (pc := 12) d176_12 (z := sgnC x) sgn255 ?_
  refine ef_i2c (pc := 13) d176_13 (z := sgnC x) (by omega) ?_
  refine ef_cret (pc := 14) d176_14 rfl (by omega) (by omega) ?_
  exact ⟨rfl, rfl⟩
theorem c171 {P : Pg} {d : Nat} {u : Mm} {x : Int} (hsv : mS u (pSv P) = none) (h0 : 0 ≤ x) (h1 : x < 4) : Ec P (d + 3) 171 [vR (pSg P), vI x] u (fun r u' => u' = u ∧ r = .inl (some (vI (sgnC x)))) := by
  have hin := sgnC_rg (x := x)
  change Ef P _ 171 0 [some (vR (pSg P)), some (vI x)] [] _ _
  refine ef_aload_n (pc := 0) d171_0 rfl ?_
  refine ef_callT (pc := 1) d171_1 lm_12_492 (as := []) rfl rfl rfl rfl (Nat.le_of_ble_eq_true rfl) rfl (Nat.le_of_ble_eq_true rfl) ?_
  refine Ec.imp (c168) ?_
  rintro r1 u1 ⟨rfl, rfl⟩
  refine ef_if_eqF (pc := 4) d171_4 (t := 16) rfl (by decide) ?_
  refine ef_aload_n (pc := 7) d171_7 rfl ?_
  refine ef_sp9 (pc := 8) d171_8 rfl ?_
  refine ef_iload_n (pc := 11) d171_11 rfl ?_
  refine ef_callS (pc := 12) d171_12 lm_12_495 (as := [_, _]) rfl rfl rfl (Nat.le_of_ble_eq_true rfl) rfl (Nat.le_of_ble_eq_true rfl) ?_
  refine Ec.imp (c176 hsv h0 h1) ?_
  rintro r12 u12 ⟨rfl, rfl⟩
  refine ef_cret (pc := 15) d171_15 rfl (by omega) (by omega) ?_
  exact ⟨rfl, rfl⟩
theorem c174 {P : Pg} {d : Nat} {u : Mm} {x : Int} : Ec P d 174 [vI x] u (fun r u' => u' = u ∧ r = .inl (some (vI (if 0 ≤ x ∧ x ≤ 255 then 1 else 0)))) := by
  change Ef P _ 174 0 [some (vI x)] [] _ _
  refine ef_iload_n (pc := 0) d174_0 rfl ?_
  refine ef_if_lt (pc := 1) d174_1 (t := 15) rfl (fun h1 => ?_) (fun h1 => ?_)
  · rw [if_neg (show ¬ (0 ≤ x ∧ x ≤ 255) by omega)]
    refine ef_iconst (pc := 15) d174_15 (by decide) ?_
    refine ef_zret (pc := 16) d174_16 rfl (by omega) ?_
    exact ⟨rfl, rfl⟩
  · refine ef_iload_n (pc := 4) d174_4 rfl ?_
    refine ef_sipush (pc := 5) d174_5 (by decide) ?_
    refine ef_icmp_gt (pc := 8) d174_8 (t := 15) rfl (fun h8 => ?_) (fun h8 => ?_)
    · rw [if_neg (show ¬ (0 ≤ x ∧ x ≤ 255) by omega)]
      refine ef_iconst (pc := 15) d174_15 (by decide) ?_
      refine ef_zret (pc := 16) d174_16 rfl (by omega) ?_
      exact ⟨rfl, rfl⟩
    · rw [if_pos (show 0 ≤ x ∧ x ≤ 255 by omega)]
      refine ef_iconst (pc := 11) d174_11 (by decide) ?_
      refine ef_goto (pc := 12) d174_12 (t := 16) rfl ?_
      refine ef_zret (pc := 16) d174_16 rfl (by omega) ?_
      exact ⟨rfl, rfl⟩
/-- a char's byte: below 128 itself, above negative: no sign -/
theorem i2b_lo {x : Int} (h0 : 0 ≤ x) (h1 : x < 128) : (Int32.ofInt x).toInt8.toInt32.toInt = x := by
  rw [Int8.toInt_toInt32, Int32.toInt_toInt8, Int32.toInt_ofInt]
  have h2 : Int32.size = 4294967296 := rfl
  have h3 : Int.bmod x 4294967296 = x := Int.bmod_eq_of_le (by omega) (by omega)
  rw [h2, h3]
  exact Int.bmod_eq_of_le (by omega) (by omega)
theorem i2b_hi {x : Int} (h0 : 128 ≤ x) (h1 : x < 256) : (Int32.ofInt x).toInt8.toInt32.toInt < 0 := by
  rw [Int8.toInt_toInt32, Int32.toInt_toInt8, Int32.toInt_ofInt]
  have h2 : Int32.size = 4294967296 := rfl
  have h3 : Int.bmod x 4294967296 = x := Int.bmod_eq_of_le (by omega) (by omega)
  rw [h2, h3]
  show Int.bmod x 256 < 0
  rw [Int.bmod_def]
  split <;> omega
def ixS (c : Int) (i : Nat) : Int := if i ≤ 0 ∧ c = 62 then 0 else if i ≤ 1 ∧ c = 60 then 1 else if i ≤ 2 ∧ c = 94 then 2 else if i ≤ 3 ∧ c = 63 then 3 else -1
theorem c175 {P : Pg} {d : Nat} {u : Mm} {x : Int} (hsv : mS u (pSv P) = none) (h0 : 0 ≤ x) (h1 : x < 256) : Ec P d 175 [vR (pSv P), vI x, vI 0, vI 4] u (fun r u' => u' = u ∧ r = .inl (some (vI (ixS x 0)))) := by
  obtain ⟨b, hb⟩ : ∃ b, b = (Int32.ofInt x).toInt8.toInt32.toInt := ⟨_, rfl⟩
  have hb1 : (x < 128 ∧ b = x) ∨ (128 ≤ x ∧ b < 0) := by
    by_cases h : x < 128
    · exact Or.inl ⟨h, by rw [hb]; exact i2b_lo h0 h⟩
    · exact Or.inr ⟨by omega, by rw [hb]; exact i2b_hi (by omega) h1⟩
  have loop : ∀ i, i ≤ 4 → ixS x i = ixS x 0 → Ef P d 175 7 [some (vR (pSv P)), some (vI x), some (vI 0), some (vI 4), some (vI b), some (vI (i : Int))] [] u (fun r u' => u' = u ∧ r = .inl (some (vI (ixS x 0)))) := by
    refine nat_loop 4 ?_
    intro i hi ih hx
    have hc : i = 0 ∨ i = 1 ∨ i = 2 ∨ i = 3 ∨ i = 4 := by omega
    have hsg : sgnC ((0 : Nat) : Int) = 62 ∧ sgnC ((1 : Nat) : Int) = 60 ∧ sgnC ((2 : Nat) : Int) = 94 ∧ sgnC ((3 : Nat) : Int) = 63 := by decide
    refine ef_iload (pc := 7) d175_7 rfl ?_
    refine ef_iload_n (pc := 9) d175_9 rfl ?_
    refine ef_icmp_ge (pc := 10) d175_10 (t := 31) rfl (fun h10 => ?_) (fun h10 => ?_)
    · have hs : ixS x i = -1 := by
        have h4 : i = 4 := by omega
        subst h4
        unfold ixS
        (repeat split) <;> omega
      refine ef_iconst (pc := 31) d175_31 (by decide) ?_
      refine ef_iret (pc := 32) d175_32 rfl ?_
      exact ⟨rfl, by rw [← hx, hs]⟩
    · refine ef_aload_n (pc := 13) d175_13 rfl ?_
      refine ef_iload (pc := 14) d175_14 rfl ?_
      refine ef_spB (pc := 16) d175_16 rfl hsv (by omega) (by omega) ?_
      refine ef_iload (pc := 17) d175_17 rfl ?_
      refine ef_icmp_ne (pc := 19) d175_19 (t := 25) rfl (fun h19 => ?_) (fun h19 => ?_)
      · have hs : ixS x (i + 1) = ixS x i := by
          rcases hc with rfl | rfl | rfl | rfl | rfl
          all_goals unfold ixS
          all_goals try simp only [hsg] at h19
          all_goals (repeat split) <;> omega
        refine ef_iinc (pc := 25) d175_25 (ls' := [_, _, _, _, _, _]) (z := ((i + 1 : Nat) : Int)) rfl (by decide) (by omega) ⟨by omega, by omega⟩ rfl ?_
        refine ef_goto (pc := 28) d175_28 (t := 7) rfl ?_
        exact ih (by omega) (hs.trans hx)
      · have hs : ixS x i = (i : Int) := by
          rcases hc with rfl | rfl | rfl | rfl | rfl
          all_goals unfold ixS
          all_goals try simp only [hsg] at h19
          all_goals (repeat split) <;> omega
        refine ef_iload (pc := 22) d175_22 rfl ?_
        refine ef_iret (pc := 24) d175_24 rfl ?_
        exact ⟨rfl, by rw [← hx, hs]⟩
  change Ef P _ 175 0 [some (vR (pSv P)), some (vI x), some (vI 0), some (vI 4), none, none] [] _ _
  refine ef_iload_n (pc := 0) d175_0 rfl ?_
  refine ef_spI (pc := 1) d175_1 rfl ?_
  rw [← hb]
  refine ef_istore (pc := 2) d175_2 (ls' := [_, _, _, _, _, _]) rfl ?_
  refine ef_iload_n (pc := 4) d175_4 rfl ?_
  refine ef_istore (pc := 5) d175_5 (ls' := [_, _, _, _, _, _]) rfl ?_
  exact loop 0 (by omega) rfl
def ixC (c : Int) : Int := if c = 62 then 0 else if c = 60 then 1 else if c = 94 then 2 else if c = 63 then 3 else -1
theorem c173 {P : Pg} {d : Nat} {u : Mm} {x : Int} (hsv : mS u (pSv P) = none) (h0 : 0 ≤ x) (h1 : x < 65536) : Ec P (d + 1) 173 [vR (pSv P), vI x, vI 0, vI 4] u (fun r u' => u' = u ∧ r = .inl (some (vI (ixC x)))) := by
  have hix : x < 256 → ixS x 0 = ixC x := fun _ => by unfold ixS ixC; (repeat split) <;> omega
  change Ef P _ 173 0 [some (vR (pSv P)), some (vI x), some (vI 0), some (vI 4)] [] _ _
  refine ef_iload_n (pc := 0) d173_0 rfl ?_
  refine ef_callS (pc := 1) d173_1 lm_13_88 (as := [_]) rfl rfl rfl (Nat.le_of_ble_eq_true rfl) rfl (Nat.le_of_ble_eq_true rfl) ?_
  refine Ec.imp (c174) ?_
  rintro r1 u1 ⟨rfl, rfl⟩
  by_cases hx : x ≤ 255
  · rw [if_pos ⟨h0, hx⟩]
    refine ef_if_neT (pc := 4) d173_4 (t := 9) rfl (by decide) ?_
    refine ef_iload_n (pc := 9) d173_9 rfl ?_
    refine ef_iconst (pc := 10) d173_10 (by decide) ?_
    refine ef_callS (pc := 11) d173_11 lm_13_92 (as := [_, _]) rfl rfl rfl (Nat.le_of_ble_eq_true rfl) rfl (Nat.le_of_ble_eq_true rfl) ?_
    refine Ec.imp (c163) ?_
    rintro r11 u11 ⟨rfl, rfl⟩
    rw [if_pos (Int.le_refl 0)]
    refine ef_istore_n (pc := 14) d173_14 (ls' := [_, _, _, _]) rfl ?_
    refine ef_iload_n (pc := 15) d173_15 rfl ?_
    refine ef_aload_n (pc := 16) d173_16 rfl ?_
    refine ef_spLen (pc := 17) d173_17 rfl hsv ?_
    refine ef_callS (pc := 18) d173_18 lm_13_38 (as := [_, _]) rfl rfl rfl (Nat.le_of_ble_eq_true rfl) rfl (Nat.le_of_ble_eq_true rfl) ?_
    refine Ec.imp (c164) ?_
    rintro r18 u18 ⟨rfl, rfl⟩
    rw [if_pos (Int.le_refl 4)]
    refine ef_istore_n (pc := 21) d173_21 (ls' := [_, _, _, _]) rfl ?_
    refine ef_iload_n (pc := 22) d173_22 rfl ?_
    refine ef_iload_n (pc := 23) d173_23 rfl ?_
    refine ef_icmp_ltT (pc := 24) d173_24 (t := 29) rfl (by decide) ?_
    refine ef_aload_n (pc := 29) d173_29 rfl ?_
    refine ef_iload_n (pc := 30) d173_30 rfl ?_
    refine ef_iload_n (pc := 31) d173_31 rfl ?_
    refine ef_iload_n (pc := 32) d173_32 rfl ?_
    refine ef_callS (pc := 33) d173_33 lm_13_95 (as := [_, _, _, _]) rfl rfl rfl (Nat.le_of_ble_eq_true rfl) rfl (Nat.le_of_ble_eq_true rfl) ?_
    refine Ec.imp (c175 hsv h0 (by omega)) ?_
    rintro r33 u33 ⟨rfl, rfl⟩
    rw [hix (by omega)]
    refine ef_iret (pc := 36) d173_36 rfl ?_
    exact ⟨rfl, rfl⟩
  · rw [if_neg (show ¬ (0 ≤ x ∧ x ≤ 255) by omega), show ixC x = -1 by unfold ixC; (repeat split) <;> omega]
    refine ef_if_neF (pc := 4) d173_4 (t := 9) rfl (rfl) ?_
    refine ef_iconst (pc := 7) d173_7 (by decide) ?_
    refine ef_iret (pc := 8) d173_8 rfl ?_
    exact ⟨rfl, rfl⟩
theorem c167 {P : Pg} {d : Nat} {u : Mm} {x : Int} (hsv : mS u (pSv P) = none) (h0 : 0 ≤ x) (h1 : x < 65536) : Ec P (d + 2) 167 [vR (pSg P), vI x, vI 0] u (fun r u' => u' = u ∧ r = .inl (some (vI (ixC x)))) := by
  change Ef P _ 167 0 [some (vR (pSg P)), some (vI x), some (vI 0)] [] _ _
  refine ef_aload_n (pc := 0) d167_0 rfl ?_
  refine ef_callT (pc := 1) d167_1 lm_12_492 (as := []) rfl rfl rfl rfl (Nat.le_of_ble_eq_true rfl) rfl (Nat.le_of_ble_eq_true rfl) ?_
  refine Ec.imp (c168) ?_
  rintro r1 u1 ⟨rfl, rfl⟩
  refine ef_if_eqF (pc := 4) d167_4 (t := 23) rfl (by decide) ?_
  refine ef_aload_n (pc := 7) d167_7 rfl ?_
  refine ef_sp9 (pc := 8) d167_8 rfl ?_
  refine ef_iload_n (pc := 11) d167_11 rfl ?_
  refine ef_iload_n (pc := 12) d167_12 rfl ?_
  refine ef_aload_n (pc := 13) d167_13 rfl ?_
  refine ef_callT (pc := 14) d167_14 lm_12_505 (as := []) rfl rfl rfl rfl (Nat.le_of_ble_eq_true rfl) rfl (Nat.le_of_ble_eq_true rfl) ?_
  refine Ec.imp (c169 hsv) ?_
  rintro r14 u14 ⟨rfl, rfl⟩
  refine ef_callS (pc := 17) d167_17 lm_12_637 (as := [_, _, _, _]) rfl rfl rfl (Nat.le_of_ble_eq_true rfl) rfl (Nat.le_of_ble_eq_true rfl) ?_
  refine Ec.imp (c173 hsv h0 h1) ?_
  rintro r17 u17 ⟨rfl, rfl⟩
  refine ef_goto (pc := 20) d167_20 (t := 36) rfl ?_
  refine ef_iret (pc := 36) d167_36 rfl ?_
  exact ⟨rfl, rfl⟩
theorem c166 {P : Pg} {d : Nat} {u : Mm} {x : Int} (hsv : mS u (pSv P) = none) (h0 : 0 ≤ x) (h1 : x < 65536) : Ec P (d + 3) 166 [vR (pSg P), vI x] u (fun r u' => u' = u ∧ r = .inl (some (vI (ixC x)))) := by
  change Ef P _ 166 0 [some (vR (pSg P)), some (vI x)] [] _ _
  refine ef_aload_n (pc := 0) d166_0 rfl ?_
  refine ef_iload_n (pc := 1) d166_1 rfl ?_
  refine ef_iconst (pc := 2) d166_2 (by decide) ?_
  refine ef_callT (pc := 3) d166_3 lm_12_633 (as := [_, _]) rfl rfl rfl rfl (Nat.le_of_ble_eq_true rfl) rfl (Nat.le_of_ble_eq_true rfl) ?_
  refine Ec.imp (c167 hsv h0 h1) ?_
  rintro r3 u3 ⟨rfl, rfl⟩
  refine ef_iret (pc := 6) d166_6 rfl ?_
  exact ⟨rfl, rfl⟩
