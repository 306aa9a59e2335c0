/-! States: what running makes. Written by wip/whole/gen/c46.py. -/
theorem and7 (x : Int) : 0 ≤ bI (fun x y => x &&& y) x 7 ∧ bI (fun x y => x &&& y) x 7 ≤ 7 := by
  unfold bI
  have h1 : ((Int32.ofInt x &&& Int32.ofInt 7).toBitVec).toNat ≤ 7 := by
    rw [Int32.toBitVec_and, BitVec.toNat_and]
    exact Nat.le_trans Nat.and_le_right (by decide)
  have h2 : (Int32.ofInt x &&& Int32.ofInt 7).toInt = (((Int32.ofInt x &&& Int32.ofInt 7).toBitVec).toNat : Int) := by
    rw [← Int32.toInt_toBitVec]
    exact BitVec.toInt_eq_toNat_of_lt (by omega)
  rw [h2]
  omega
/-- the name that a letter means -/
def mtF (c m : Int) : Int := if c < 120 then c - 97 else bI (fun x y => x &&& y) (bI (fun x y => x >>> (y &&& 31)) m (3 * (c - 120))) 7 - 1
def bdF (c nm m : Int) : Int := bI (fun x y => x ||| y) (bI (fun x y => x &&& y) m (bI (fun x y => x ^^^ y) (bI (fun x y => x <<< (y &&& 31)) 7 (3 * (c - 120))) (-1))) (bI (fun x y => x <<< (y &&& 31)) (nm + 1) (3 * (c - 120)))
theorem c7 {P : Pg} {d : Nat} {u : Mm} {c m : Int} (h0 : 0 ≤ c) (h1 : c < 65536) : Ec P d 7 [vI c, vI m] u (fun r u' => u' = u ∧ r = .inl (some (vI (mtF c m)))) := by
  change Ef P _ 7 0 [some (vI c), some (vI m)] [] _ _
  refine ef_iload_n (pc := 0) d7_0 rfl ?_
  refine ef_bipush (pc := 1) d7_1 (by decide) ?_
  refine ef_icmp_ge (pc := 3) d7_3 (t := 13) rfl (fun h3 => ?_) (fun h3 => ?_)
  · rw [mtF, if_neg (show ¬ c < 120 by omega)]
    refine ef_iload_n (pc := 13) d7_13 rfl ?_
    refine ef_iconst (pc := 14) d7_14 (by decide) ?_
    refine ef_iload_n (pc := 15) d7_15 rfl ?_
    refine ef_bipush (pc := 16) d7_16 (by decide) ?_
    refine ef_isub (pc := 18) d7_18 rfl ⟨by omega, by omega⟩ ?_
    refine ef_imul (pc := 19) d7_19 rfl ⟨by omega, by omega⟩ ?_
    refine ef_ishr (pc := 20) d7_20 rfl ?_
    refine ef_bipush (pc := 21) d7_21 (by decide) ?_
    refine ef_iand (pc := 23) d7_23 rfl ?_
    have h7 := and7 (bI (fun x y => x >>> (y &&& 31)) m (3 * (c - 120)))
    refine ef_iconst (pc := 24) d7_24 (by decide) ?_
    refine ef_isub (pc := 25) d7_25 rfl ⟨by omega, by omega⟩ ?_
    refine ef_iret (pc := 26) d7_26 rfl ?_
    exact ⟨rfl, rfl⟩
  · rw [mtF, if_pos (show c < 120 by omega)]
    refine ef_iload_n (pc := 6) d7_6 rfl ?_
    refine ef_bipush (pc := 7) d7_7 (by decide) ?_
    refine ef_isub (pc := 9) d7_9 rfl ⟨by omega, by omega⟩ ?_
    refine ef_goto (pc := 10) d7_10 (t := 26) rfl ?_
    refine ef_iret (pc := 26) d7_26 rfl ?_
    exact ⟨rfl, rfl⟩
theorem c8 {P : Pg} {d : Nat} {u : Mm} {c nm m : Int} (h0 : 0 ≤ c) (h1 : c < 65536) (h2 : -1 ≤ nm) (h3 : nm ≤ 100) : Ec P d 8 [vI c, vI nm, vI m] u (fun r u' => u' = u ∧ r = .inl (some (vI (bdF c nm m)))) := by
  change Ef P _ 8 0 [some (vI c), some (vI nm), some (vI m), none] [] _ _
  refine ef_iconst (pc := 0) d8_0 (by decide) ?_
  refine ef_iload_n (pc := 1) d8_1 rfl ?_
  refine ef_bipush (pc := 2) d8_2 (by decide) ?_
  refine ef_isub (pc := 4) d8_4 rfl ⟨by omega, by omega⟩ ?_
  refine ef_imul (pc := 5) d8_5 rfl ⟨by omega, by omega⟩ ?_
  refine ef_istore_n (pc := 6) d8_6 (ls' := [_, _, _, _]) rfl ?_
  refine ef_iload_n (pc := 7) d8_7 rfl ?_
  refine ef_bipush (pc := 8) d8_8 (by decide) ?_
  refine ef_iload_n (pc := 10) d8_10 rfl ?_
  refine ef_ishl (pc := 11) d8_11 rfl ?_
  refine ef_iconst (pc := 12) d8_12 (by decide) ?_
  refine ef_ixor (pc := 13) d8_13 rfl ?_
  refine ef_iand (pc := 14) d8_14 rfl ?_
  refine ef_iload_n (pc := 15) d8_15 rfl ?_
  refine ef_iconst (pc := 16) d8_16 (by decide) ?_
  refine ef_iadd (pc := 17) d8_17 rfl ⟨by omega, by omega⟩ ?_
  refine ef_iload_n (pc := 18) d8_18 rfl ?_
  refine ef_ishl (pc := 19) d8_19 rfl ?_
  refine ef_ior (pc := 20) d8_20 rfl ?_
  refine ef_iret (pc := 21) d8_21 rfl ?_
  exact ⟨rfl, rfl⟩
/-- where the next node beside this one would be -/
def afF (en : Nat → Int) (n : Nat) : Nat := (if en n ≤ (n : Int) + 1 then (n : Int) + 1 else en n).toNat
theorem afF_i {en : Nat → Int} {n : Nat} : ((afF en n : Nat) : Int) = if en n ≤ (n : Int) + 1 then (n : Int) + 1 else en n := by
  unfold afF
  split <;> omega
theorem afF_gt {en : Nat → Int} {n : Nat} : n < afF en n := by
  have := afF_i (en := en) (n := n)
  split at this <;> omega
theorem c82 {P : Pg} {d : Nat} {u : Mm} {g : Nat → Nat → Int} {tm n : Nat} {en : Nat → Int} (hTm : TmA u tm) (hn : n < 50) (he : g (tm + 4) = en) : Ec P (d + 1) 82 [vR tm, vI (n : Int)] (sI u g) (fun r u' => u' = sI u g ∧ r = .inl (some (vI ((afF en n : Nat) : Int)))) := by
  obtain ⟨k0, k1, k2, k3, k4, k5, k6, k7, k8, k9, k10⟩ := id hTm
  change Ef P _ 82 0 [some (vR tm), some (vI (n : Int))] [] _ _
  refine ef_iload_n (pc := 0) d82_0 rfl ?_
  refine ef_iconst (pc := 1) d82_1 (by decide) ?_
  refine ef_iadd (pc := 2) d82_2 rfl ⟨by omega, by omega⟩ ?_
  refine ef_aload_n (pc := 3) d82_3 rfl ?_
  refine eg_getR (pc := 4) d82_4 lf_6_23 (by assumption) (by decide) (by assumption) ?_
  refine ef_iload_n (pc := 7) d82_7 rfl ?_
  refine eg_iald (pc := 8) d82_8 (by assumption) rfl (by omega) ?_
  rw [he]
  refine ef_callS (pc := 9) d82_9 lm_6_29 (as := [_, _]) rfl rfl rfl (Nat.le_of_ble_eq_true rfl) rfl (Nat.le_of_ble_eq_true rfl) ?_
  refine Ec.imp (c163) ?_
  rintro r9 u9 ⟨rfl, rfl⟩
  rw [← afF_i]
  refine ef_iret (pc := 12) d82_12 rfl ?_
  exact ⟨rfl, rfl⟩
/-- places, guards, messages, the next number, too much -/
abbrev SS : Type := List Tg × (List Tg × (List Tg × (Int × Bool)))
def addS (k : Int) (e : Tg) (A : SS) : SS :=
  if k = 4 then (if A.1.length < 20 then (A.1 ++ [e], (A.2.1, (A.2.2.1, (e.1 + 1, false)))) else (A.1, (A.2.1, (A.2.2.1, (e.1 + 1, true)))))
  else if k = 5 then (if A.2.2.1.length < 30 then (A.1, (A.2.1, (A.2.2.1 ++ [e], (e.1 + 1, false)))) else (A.1, (A.2.1, (A.2.2.1, (e.1 + 1, true)))))
  else (if A.2.1.length < 40 then (A.1, (A.2.1 ++ [e], (A.2.2.1, (e.1 + 1, false)))) else (A.1, (A.2.1, (A.2.2.1, (e.1 + 1, true)))))
def tooS (A : SS) : SS := (A.1, (A.2.1, (A.2.2.1, (A.2.2.2.1, true))))
def runF (kd nm : Nat → Int) (af : Nat → Nat) : Nat → Nat → Nat → Int → Int → Nat → SS → SS
  | 0, _, _, _, _, _, A => A
  | f + 1, n, to, pl, mn, dp, A => if to ≤ n ∨ A.2.2.2.2 = true then A else
    runF kd nm af f (af n) to pl mn dp
      (if kd n = 4 ∧ (addS (kd n) (A.2.2.2.1, (pl, (mtF (nm n) mn, ((n : Int), mn)))) A).2.2.2.2 = false then
        (if 8 ≤ dp then tooS (addS (kd n) (A.2.2.2.1, (pl, (mtF (nm n) mn, ((n : Int), mn)))) A)
          else runF kd nm af f (n + 1) (af n) A.2.2.2.1 mn (dp + 1) (addS (kd n) (A.2.2.2.1, (pl, (mtF (nm n) mn, ((n : Int), mn)))) A))
        else addS (kd n) (A.2.2.2.1, (pl, (mtF (nm n) mn, ((n : Int), mn)))) A)
def b01 (b : Bool) : Int := if b = true then 1 else 0
def SR (g : Nat → Nat → Int) (s : Nat) (A : SS) : Prop := Th g (s + 1) A.1 ∧ Th g (s + 7) A.2.1 ∧ Th g (s + 13) A.2.2.1 ∧ g s 4 = A.2.2.2.1 ∧ g s 5 = b01 A.2.2.2.2 ∧ A.1.length ≤ 20 ∧ A.2.1.length ≤ 40 ∧ A.2.2.1.length ≤ 30
/-- a range whose nodes end in it -/
def Cl (af : Nat → Nat) (n to : Nat) : Prop := ∀ k, n ≤ k → k < to → k < af k ∧ af k ≤ to ∧ ∀ m, k < m → m < af k → af m ≤ af k
theorem Cl.inn {af : Nat → Nat} {n to k : Nat} (h : Cl af n to) (h1 : n ≤ k) (h2 : k < to) : Cl af (k + 1) (af k) := fun m h3 h4 =>
  ⟨(h m (by omega) (by have := (h k h1 h2).2.1; omega)).1, (h k h1 h2).2.2 m (by omega) h4, (h m (by omega) (by have := (h k h1 h2).2.1; omega)).2.2⟩
theorem Cl.beh {af : Nat → Nat} {n to : Nat} (h : Cl af n to) (h2 : n < to) : Cl af (af n) to := fun m h3 h4 => h m (by have := (h n (Nat.le_refl _) h2).1; omega) h4
theorem addS_nx {k : Int} {e : Tg} {A : SS} : (addS k e A).2.2.2.1 = e.1 + 1 := by
  unfold addS
  split
  · split <;> rfl
  · split
    · split <;> rfl
    · split <;> rfl
theorem runF_nx {kd nm : Nat → Int} {af : Nat → Nat} : ∀ (f n to : Nat) (pl mn : Int) (dp : Nat) (A : SS), Cl af n to → n ≤ to → A.2.2.2.1 ≤ (runF kd nm af f n to pl mn dp A).2.2.2.1 ∧ (runF kd nm af f n to pl mn dp A).2.2.2.1 ≤ A.2.2.2.1 + ((to : Int) - (n : Int)) := by
  intro f
  induction f with
  | zero => intro n to pl mn dp A h hn; rw [runF]; omega
  | succ f ih =>
    intro n to pl mn dp A h hn
    rw [runF]
    by_cases hc : to ≤ n ∨ A.2.2.2.2 = true
    · rw [if_pos hc]; omega
    · rw [if_neg hc]
      have hn2 : n < to := by omega
      have ha := h n (Nat.le_refl _) hn2
      have hB := addS_nx (k := kd n) (e := (A.2.2.2.1, (pl, (mtF (nm n) mn, ((n : Int), mn))))) (A := A)
      have h1 := fun X => ih (af n) to pl mn dp X (h.beh hn2) (by omega)
      have h2 := fun X => ih (n + 1) (af n) A.2.2.2.1 mn (dp + 1) X (h.inn (Nat.le_refl _) hn2) (by omega)
      generalize addS (kd n) (A.2.2.2.1, (pl, (mtF (nm n) mn, ((n : Int), mn)))) A = B at hB ⊢
      simp only at hB
      split
      · split
        · have := h1 (tooS B)
          have h3 : (tooS B).2.2.2.1 = B.2.2.2.1 := rfl
          omega
        · have h4 := h2 B
          have := h1 (runF kd nm af f (n + 1) (af n) A.2.2.2.1 mn (dp + 1) B)
          omega
      · have := h1 B
        omega
theorem SR.len {g : Nat → Nat → Int} {s : Nat} {A : SS} (h : SR g s A) : A.1.length ≤ 20 ∧ A.2.1.length ≤ 40 ∧ A.2.2.1.length ≤ 30 := h.2.2.2.2.2
/-- too deep -/
theorem c47x {P : Pg} {d : Nat} {u : Mm} {g : Nat → Nat → Int} {s tm : Nat} {A : SS} {a b pl mn : Int} (hA : StA u s) (hS : SR g s A) : Ec P d 47 [vR s, vR tm, vI a, vI b, vI pl, vI mn, vI 9] (sI u g) (fun x u' => ∃ g', u' = sI u g' ∧ x = .inl none ∧ Off s (s + 19) g g' ∧ SR g' s (tooS A)) := by
  obtain ⟨q0, q1, q2, q3, q4, hP, hG, hM, hL⟩ := id hA
  obtain ⟨a0, a1, a2, a3, a4, a5, a6, a7, a8, a9, a10⟩ := id hP
  obtain ⟨b0, b1, b2, b3, b4, b5, b6, b7, b8, b9, b10⟩ := id hG
  obtain ⟨c0, c1, c2, c3, c4, c5, c6, c7, c8, c9, c10⟩ := id hM
  obtain ⟨l0, l1, l2⟩ := id hL
  change Ef P _ 47 0 [some (vR s), some (vR tm), some (vI a), some (vI b), some (vI pl), some (vI mn), some (vI 9), none, none, none] [] _ _
  refine ef_iload (pc := 0) d47_0 rfl ?_
  refine ef_bipush (pc := 2) d47_2 (by decide) ?_
  refine ef_icmp_leF (pc := 4) d47_4 (t := 13) rfl (by omega) ?_
  refine ef_aload_n (pc := 7) d47_7 rfl ?_
  refine ef_iconst (pc := 8) d47_8 (by decide) ?_
  refine eg_putZ (pc := 9) d47_9 pf_47_40 (by assumption) (by decide) (by omega) ?_
  refine ef_vret (pc := 12) d47_12 rfl ?_
  have o1 : Off s (s + 1) g (u2 g s 5 1) := Off.refl.up (by omega) (by omega)
  refine ⟨_, rfl, rfl, o1.wide (by omega) (by omega), hS.1.same o1 (by omega), hS.2.1.same o1 (by omega), hS.2.2.1.same o1 (by omega), ?_, ?_, hS.len⟩
  · rw [u2_ni (by omega)]; exact hS.2.2.2.1
  · rw [u2_at]; rfl
