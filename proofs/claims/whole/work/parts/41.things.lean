/-! Things: the class's rows of places, guards, messages. Written by wip/whole/gen/c41.py. -/
/-- down from n: each i may use i + 1 -/
theorem nat_loop {C : Nat → Prop} (n : Nat) (h : ∀ i, i ≤ n → (i < n → C (i + 1)) → C i) : ∀ i, i ≤ n → C i := by
  have key : ∀ k i, i + k = n → C i := by
    intro k
    induction k with
    | zero => intro i hi; exact h i (by omega) (fun hl => absurd hl (by omega))
    | succ k ih => intro i hi; exact h i (by omega) (fun _ => ih (i + 1) (by omega))
  intro i hi
  exact key (n - i) i (by omega)
theorem get_of_lt {α : Type} {L : List α} {i : Nat} (h : i < L.length) : ∃ e, L[i]? = some e ∧ L.drop i = e :: L.drop (i + 1) := ⟨L[i], List.getElem?_eq_getElem h, List.drop_eq_getElem_cons h⟩
/-- number, in, name, node, meanings -/
abbrev Tg : Type := Int × (Int × (Int × (Int × Int)))
def ThA (u : Mm) (t n : Nat) : Prop := mS u t = some (100 + 7, 6) ∧ mF u t 0 = some (t + 1) ∧ mF u t 1 = some (t + 2) ∧ mF u t 2 = some (t + 3) ∧ mF u t 3 = some (t + 4) ∧ mF u t 4 = some (t + 5) ∧
  mS u (t + 1) = some (0, n) ∧ mS u (t + 2) = some (0, n) ∧ mS u (t + 3) = some (0, n) ∧ mS u (t + 4) = some (0, n) ∧ mS u (t + 5) = some (0, n)
def Th (g : Nat → Nat → Int) (t : Nat) (L : List Tg) : Prop := g t 5 = (L.length : Int) ∧ ∀ i e, L[i]? = some e → g (t + 1) i = e.1 ∧ g (t + 2) i = e.2.1 ∧ g (t + 3) i = e.2.2.1 ∧ g (t + 4) i = e.2.2.2.1 ∧ g (t + 5) i = e.2.2.2.2
/-- the same off a block -/
def Off (lo hi : Nat) (g g' : Nat → Nat → Int) : Prop := ∀ a, a < lo ∨ hi ≤ a → g' a = g a
def ixF : List Tg → Int → Nat → Int
  | [], _, _ => -1
  | e :: l, w, k => if e.1 = w then (k : Int) else ixF l w (k + 1)
theorem c164 {P : Pg} {d : Nat} {u : Mm} {x y : Int} : Ec P d 164 [vI x, vI y] u (fun r u' => u' = u ∧ r = .inl (some (vI (if x ≤ y then x else y)))) := by
  change Ef P _ 164 0 [some (vI x), some (vI y)] [] _ _
  refine ef_iload_n (pc := 0) d164_0 rfl ?_
  refine ef_iload_n (pc := 1) d164_1 rfl ?_
  refine ef_icmp_gt (pc := 2) d164_2 (t := 9) rfl (fun h2 => ?_) (fun h2 => ?_)
  · rw [if_neg (show ¬ x ≤ y by omega)]
    refine ef_iload_n (pc := 9) d164_9 rfl ?_
    refine ef_iret (pc := 10) d164_10 rfl ?_
    exact ⟨rfl, rfl⟩
  · rw [if_pos (show x ≤ y by omega)]
    refine ef_iload_n (pc := 5) d164_5 rfl ?_
    refine ef_goto (pc := 6) d164_6 (t := 10) rfl ?_
    refine ef_iret (pc := 10) d164_10 rfl ?_
    exact ⟨rfl, rfl⟩
theorem c163 {P : Pg} {d : Nat} {u : Mm} {x y : Int} : Ec P d 163 [vI x, vI y] u (fun r u' => u' = u ∧ r = .inl (some (vI (if y ≤ x then x else y)))) := by
  change Ef P _ 163 0 [some (vI x), some (vI y)] [] _ _
  refine ef_iload_n (pc := 0) d163_0 rfl ?_
  refine ef_iload_n (pc := 1) d163_1 rfl ?_
  refine ef_icmp_lt (pc := 2) d163_2 (t := 9) rfl (fun h2 => ?_) (fun h2 => ?_)
  · rw [if_neg (show ¬ y ≤ x by omega)]
    refine ef_iload_n (pc := 9) d163_9 rfl ?_
    refine ef_iret (pc := 10) d163_10 rfl ?_
    exact ⟨rfl, rfl⟩
  · rw [if_pos (show y ≤ x by omega)]
    refine ef_iload_n (pc := 5) d163_5 rfl ?_
    refine ef_goto (pc := 6) d163_6 (t := 10) rfl ?_
    refine ef_iret (pc := 10) d163_10 rfl ?_
    exact ⟨rfl, rfl⟩
theorem c85 {P : Pg} {d : Nat} {u : Mm} {g : Nat → Nat → Int} {t n : Nat} {L : List Tg} {w : Int} (hA : ThA u t n) (hT : Th g t L) (hl : L.length ≤ n) (hn : n ≤ 1000) : Ec P d 85 [vR t, vI w] (sI u g) (fun r u' => u' = sI u g ∧ r = .inl (some (vI (ixF L w 0)))) := by
  obtain ⟨s0, r0, r1, r2, r3, r4, s1, s2, s3, s4, s5⟩ := hA
  obtain ⟨hz, hT⟩ := hT
  have loop : ∀ i, i ≤ L.length → ixF (L.drop i) w i = ixF L w 0 → Ef P d 85 2 [some (vR t), some (vI w), some (vI (i : Int))] [] (sI u g) (fun r u' => u' = sI u g ∧ r = .inl (some (vI (ixF L w 0)))) := by
    refine nat_loop L.length ?_
    intro i hi ih hx
    refine ef_iload_n (pc := 2) d85_2 rfl ?_
    refine ef_aload_n (pc := 3) d85_3 rfl ?_
    refine eg_getI (pc := 4) d85_4 lf_7_27 (by assumption) (by decide) ?_
    refine ef_icmp_ge (pc := 7) d85_7 (t := 28) rfl (fun h7 => ?_) (fun h7 => ?_)
    · refine ef_iconst (pc := 28) d85_28 (by decide) ?_
      refine ef_iret (pc := 29) d85_29 rfl ?_
      rw [show L.drop i = [] from List.drop_eq_nil_of_le (by omega), ixF] at hx
      exact ⟨rfl, by rw [← hx]⟩
    · obtain ⟨e, he, hd⟩ := get_of_lt (L := L) (i := i) (by omega)
      have hv := hT i e he
      rw [hd, ixF] at hx
      refine ef_aload_n (pc := 10) d85_10 rfl ?_
      refine eg_getR (pc := 11) d85_11 lf_7_9 (by assumption) (by decide) (by assumption) ?_
      refine ef_iload_n (pc := 14) d85_14 rfl ?_
      refine eg_iald (pc := 15) d85_15 (by assumption) rfl (by omega) ?_
      rw [hv.1]
      refine ef_iload_n (pc := 16) d85_16 rfl ?_
      refine ef_icmp_ne (pc := 17) d85_17 (t := 22) rfl (fun h17 => ?_) (fun h17 => ?_)
      · rw [if_neg h17] at hx
        refine ef_iinc (pc := 22) d85_22 (ls' := [_, _, _]) (z := ((i + 1 : Nat) : Int)) rfl (by decide) (by omega) ⟨by omega, by omega⟩ rfl ?_
        refine ef_goto (pc := 25) d85_25 (t := 2) rfl ?_
        exact ih (by omega) hx
      · rw [if_pos h17] at hx
        refine ef_iload_n (pc := 20) d85_20 rfl ?_
        refine ef_iret (pc := 21) d85_21 rfl ?_
        exact ⟨rfl, by rw [← hx]⟩
  change Ef P _ 85 0 [some (vR t), some (vI w), none] [] _ _
  refine ef_iconst (pc := 0) d85_0 (by decide) ?_
  refine ef_istore_n (pc := 1) d85_1 (ls' := [_, _, _]) rfl ?_
  exact loop 0 (by omega) rfl
theorem Off.refl {lo hi : Nat} {g : Nat → Nat → Int} : Off lo hi g g := fun _ _ => rfl
theorem Off.trans {lo hi : Nat} {g g1 g2 : Nat → Nat → Int} (h : Off lo hi g g1) (k : Off lo hi g1 g2) : Off lo hi g g2 := fun a ha => (k a ha).trans (h a ha)
theorem Off.up {lo hi a i : Nat} {x : Int} {g g1 : Nat → Nat → Int} (h : Off lo hi g g1) (h1 : lo ≤ a) (h2 : a < hi) : Off lo hi g (u2 g1 a i x) := fun b hb => by rw [u2_ne (by omega)]; exact h b hb
theorem Off.wide {lo hi lo' hi' : Nat} {g g1 : Nat → Nat → Int} (h : Off lo hi g g1) (h1 : lo' ≤ lo) (h2 : hi ≤ hi') : Off lo' hi' g g1 := fun b hb => h b (by omega)
/-- a row written anew -/
def ur (g : Nat → Nat → Int) (b : Nat) (f : Nat → Int) : Nat → Nat → Int := fun c => if c = b then f else g c
theorem ur_eq {g : Nat → Nat → Int} {b : Nat} {f : Nat → Int} : ur g b f b = f := if_pos rfl
theorem ur_ne {g : Nat → Nat → Int} {b c : Nat} {f : Nat → Int} (h : c ≠ b) : ur g b f c = g c := if_neg h
theorem Off.ur {lo hi a : Nat} {f : Nat → Int} {g g1 : Nat → Nat → Int} (h : Off lo hi g g1) (h1 : lo ≤ a) (h2 : a < hi) : Off lo hi g (ur g1 a f) := fun b hb => by rw [ur_ne (by omega)]; exact h b hb
theorem bi_cp {P : Pg} {u : Mm} {g : Nat → Nat → Int} {a b k la lb : Nat} {sp dp n : Int} (ha : mS u a = some (k, la)) (hb : mS u b = some (k, lb)) (hk : k < 2) (hab : a ≠ b) (h1 : 0 ≤ sp) (h2 : 0 ≤ dp) (h3 : 0 ≤ n) (h4 : sp + n ≤ (la : Int)) (h5 : dp + n ≤ (lb : Int)) :
    bi P (pKd P 501) [vR a, vI sp, vR b, vI dp, vI n] (sI u g) = some (none, sI u (ur g b (cpy (g a) (g b) sp.toNat dp.toNat n.toNat))) := by
  show bi P 4 [vR a, vI sp, vR b, vI dp, vI n] (sI u g) = _
  simp only [bi, mS_sI, ha, hb]
  rw [if_pos ⟨trivial, hk, hab, h1, h2, h3, h4, h5⟩]
  rfl
theorem Th_app {g g' : Nat → Nat → Int} {t : Nat} {L : List Tg} {e : Tg} (hT : Th g t L) (h0 : g' t 5 = ((L.length + 1 : Nat) : Int)) (h1 : g' (t + 1) = u1 (g (t + 1)) L.length e.1) (h2 : g' (t + 2) = u1 (g (t + 2)) L.length e.2.1) (h3 : g' (t + 3) = u1 (g (t + 3)) L.length e.2.2.1) (h4 : g' (t + 4) = u1 (g (t + 4)) L.length e.2.2.2.1) (h5 : g' (t + 5) = u1 (g (t + 5)) L.length e.2.2.2.2) : Th g' t (L ++ [e]) := by
  refine ⟨by rw [h0, List.length_append]; rfl, fun i e' he => ?_⟩
  rw [h1, h2, h3, h4, h5]
  by_cases hi : i < L.length
  · rw [List.getElem?_append_left hi] at he
    simp only [u1_ne (show i ≠ L.length by omega)]
    exact hT.2 i e' he
  · have hl := (List.getElem?_eq_some_iff.mp he).1
    rw [List.length_append] at hl
    have h6 : i = L.length := by simp at hl; omega
    subst h6
    rw [List.getElem?_append_right (Nat.le_refl _), Nat.sub_self] at he
    cases he
    simp only [u1_eq, and_self]
theorem Th.len {g : Nat → Nat → Int} {t : Nat} {L : List Tg} (h : Th g t L) : g t 5 = (L.length : Int) := h.1
/-- the same rows, the same list -/
theorem Th.same {g g' : Nat → Nat → Int} {t lo hi : Nat} {L : List Tg} (h : Th g t L) (k : Off lo hi g g') (hd : t + 6 ≤ lo ∨ hi ≤ t) : Th g' t L := by
  have e : ∀ j, j < 6 → g' (t + j) = g (t + j) := fun j hj => k (t + j) (by omega)
  refine ⟨by rw [show g' t = g t from e 0 (by omega)]; exact h.1, fun i x hx => ?_⟩
  rw [e 1 (by omega), e 2 (by omega), e 3 (by omega), e 4 (by omega), e 5 (by omega)]
  exact h.2 i x hx
theorem Th_set {g : Nat → Nat → Int} {t i : Nat} {L : List Tg} {e : Tg} {v : Int} (h : Th g t L) (he : L[i]? = some e) : Th (u2 g (t + 2) i v) t (L.set i (e.1, (v, e.2.2))) := by
  refine ⟨by rw [u2_ne (by omega), List.length_set]; exact h.1, fun j x hx => ?_⟩
  rw [u2_ne (show t + 1 ≠ t + 2 by omega), u2_ne (show t + 3 ≠ t + 2 by omega), u2_ne (show t + 4 ≠ t + 2 by omega), u2_ne (show t + 5 ≠ t + 2 by omega)]
  have hi := (List.getElem?_eq_some_iff.mp he).1
  by_cases hj : j = i
  · subst hj
    rw [List.getElem?_set_self hi] at hx
    cases hx
    rw [u2_at]
    have := h.2 j e he
    exact ⟨this.1, rfl, this.2.2.1, this.2.2.2.1, this.2.2.2.2⟩
  · rw [List.getElem?_set_ne (fun q => hj q.symm)] at hx
    rw [u2_ni hj]
    exact h.2 j x hx
theorem map_at {α : Type} {f : α → α} {L : List α} {i : Nat} : (List.map f (L.take i) ++ L.drop i)[i]? = L[i]? := by
  by_cases hi : i ≤ L.length
  · rw [List.getElem?_append_right (by simp; omega)]
    simp [List.length_take, Nat.min_eq_left hi]
  · rw [List.getElem?_eq_none (by simp; omega), List.getElem?_eq_none (by omega)]
theorem map_step {α : Type} {f : α → α} {L : List α} {i : Nat} {e : α} (he : L[i]? = some e) : (List.map f (L.take i) ++ L.drop i).set i (f e) = List.map f (L.take (i + 1)) ++ L.drop (i + 1) := by
  obtain ⟨hi, hx⟩ := List.getElem?_eq_some_iff.mp he
  rw [List.set_append_right _ _ (by simp; omega), List.length_map, List.length_take, Nat.min_eq_left (by omega), Nat.sub_self, List.drop_eq_getElem_cons hi, List.set_cons_zero, List.take_succ, he]
  simp
theorem map_keep {α : Type} {f : α → α} {L : List α} {i : Nat} {e : α} (he : L[i]? = some e) (hf : f e = e) : List.map f (L.take i) ++ L.drop i = List.map f (L.take (i + 1)) ++ L.drop (i + 1) := by
  rw [← map_step he, hf]
  refine List.ext_getElem? fun j => ?_
  by_cases hj : j = i
  · subst hj
    have h2 := (map_at (f := f) (L := L) (i := j)).trans he
    rw [List.getElem?_set_self (List.getElem?_eq_some_iff.mp h2).1, h2]
  · rw [List.getElem?_set_ne (fun q => hj q.symm)]
/-- all of one place into another -/
def mvF (a b : Int) (e : Tg) : Tg := if e.2.1 = a then (e.1, (b, e.2.2)) else e
theorem c84 {P : Pg} {d : Nat} {u : Mm} {g : Nat → Nat → Int} {t n : Nat} {L : List Tg} {x p m k w : Int} (hA : ThA u t n) (hT : Th g t L) (hl : L.length ≤ n) (hn : n ≤ 1000) : Ec P d 84 [vR t, vI x, vI p, vI m, vI k, vI w] (sI u g) (fun r u' => ∃ g', u' = sI u g' ∧ Off t (t + 6) g g' ∧ (L.length < n → r = .inl (some (vI 1)) ∧ Th g' t (L ++ [(x, (p, (m, (k, w))))])) ∧ (n ≤ L.length → r = .inl (some (vI 0)) ∧ g' = g)) := by
  obtain ⟨s0, r0, r1, r2, r3, r4, s1, s2, s3, s4, s5⟩ := hA
  have hz := hT.1
  change Ef P _ 84 0 [some (vR t), some (vI x), some (vI p), some (vI m), some (vI k), some (vI w)] [] _ _
  refine ef_aload_n (pc := 0) d84_0 rfl ?_
  refine eg_getI (pc := 1) d84_1 lf_7_27 (by assumption) (by decide) ?_
  rw [hz]
  refine ef_aload_n (pc := 4) d84_4 rfl ?_
  refine eg_getR (pc := 5) d84_5 lf_7_9 (by assumption) (by decide) (by assumption) ?_
  refine eg_alen (pc := 8) d84_8 (by assumption) (by decide) ?_
  refine ef_icmp_lt (pc := 9) d84_9 (t := 14) rfl (fun h9 => ?_) (fun h9 => ?_)
  · refine ef_aload_n (pc := 14) d84_14 rfl ?_
    refine eg_getR (pc := 15) d84_15 lf_7_9 (by assumption) (by decide) (by assumption) ?_
    refine ef_aload_n (pc := 18) d84_18 rfl ?_
    refine eg_getI (pc := 19) d84_19 lf_7_27 (by assumption) (by decide) ?_
    rw [hz]
    refine ef_iload_n (pc := 22) d84_22 rfl ?_
    refine eg_iast (pc := 23) d84_23 (by assumption) rfl (by omega) rfl ?_
    refine ef_aload_n (pc := 24) d84_24 rfl ?_
    refine eg_getR (pc := 25) d84_25 lf_7_15 (by assumption) (by decide) (by assumption) ?_
    refine ef_aload_n (pc := 28) d84_28 rfl ?_
    refine eg_getI (pc := 29) d84_29 lf_7_27 (by assumption) (by decide) ?_
    try simp (disch := omega) only [u2_ne, u2_at, u2_ni, ur_ne, ur_eq]
    rw [hz]
    refine ef_iload_n (pc := 32) d84_32 rfl ?_
    refine eg_iast (pc := 33) d84_33 (by assumption) rfl (by omega) rfl ?_
    refine ef_aload_n (pc := 34) d84_34 rfl ?_
    refine eg_getR (pc := 35) d84_35 lf_7_18 (by assumption) (by decide) (by assumption) ?_
    refine ef_aload_n (pc := 38) d84_38 rfl ?_
    refine eg_getI (pc := 39) d84_39 lf_7_27 (by assumption) (by decide) ?_
    try simp (disch := omega) only [u2_ne, u2_at, u2_ni, ur_ne, ur_eq]
    rw [hz]
    refine ef_iload_n (pc := 42) d84_42 rfl ?_
    refine eg_iast (pc := 43) d84_43 (by assumption) rfl (by omega) rfl ?_
    refine ef_aload_n (pc := 44) d84_44 rfl ?_
    refine eg_getR (pc := 45) d84_45 lf_7_21 (by assumption) (by decide) (by assumption) ?_
    refine ef_aload_n (pc := 48) d84_48 rfl ?_
    refine eg_getI (pc := 49) d84_49 lf_7_27 (by assumption) (by decide) ?_
    try simp (disch := omega) only [u2_ne, u2_at, u2_ni, ur_ne, ur_eq]
    rw [hz]
    refine ef_iload (pc := 52) d84_52 rfl ?_
    refine eg_iast (pc := 54) d84_54 (by assumption) rfl (by omega) rfl ?_
    refine ef_aload_n (pc := 55) d84_55 rfl ?_
    refine eg_getR (pc := 56) d84_56 lf_7_24 (by assumption) (by decide) (by assumption) ?_
    refine ef_aload_n (pc := 59) d84_59 rfl ?_
    refine eg_getI (pc := 60) d84_60 lf_7_27 (by assumption) (by decide) ?_
    try simp (disch := omega) only [u2_ne, u2_at, u2_ni, ur_ne, ur_eq]
    rw [hz]
    refine ef_iload (pc := 63) d84_63 rfl ?_
    refine eg_iast (pc := 65) d84_65 (by assumption) rfl (by omega) rfl ?_
    refine ef_aload_n (pc := 66) d84_66 rfl ?_
    refine ef_dup (pc := 67) d84_67 rfl ?_
    refine eg_getI (pc := 68) d84_68 lf_7_27 (by assumption) (by decide) ?_
    try simp (disch := omega) only [u2_ne, u2_at, u2_ni, ur_ne, ur_eq]
    rw [hz]
    refine ef_iconst (pc := 71) d84_71 (by decide) ?_
    refine ef_iadd (pc := 72) d84_72 (z := ((L.length + 1 : Nat) : Int)) (by omega) ⟨by omega, by omega⟩ ?_
    refine eg_putI (pc := 73) d84_73 pf_84_27 (by assumption) (by decide) ?_
    refine ef_iconst (pc := 76) d84_76 (by decide) ?_
    refine ef_zret (pc := 77) d84_77 rfl (by omega) ?_
    refine ⟨_, rfl, ?_, fun _ => ⟨rfl, Th_app hT ?_ ?_ ?_ ?_ ?_ ?_⟩, fun hh => absurd hh (by omega)⟩
    · exact (((((Off.refl.up (by omega) (by omega)).up (by omega) (by omega)).up (by omega) (by omega)).up (by omega) (by omega)).up (by omega) (by omega)).up (by omega) (by omega)
    all_goals simp (disch := omega) only [u2_ne, u2_eq, u1_eq]
  · refine ef_iconst (pc := 12) d84_12 (by decide) ?_
    refine ef_zret (pc := 13) d84_13 rfl (by omega) ?_
    exact ⟨_, rfl, Off.refl, fun hh => absurd hh (by omega), fun _ => ⟨rfl, rfl⟩⟩
theorem c88 {P : Pg} {d : Nat} {u : Mm} {g : Nat → Nat → Int} {t n : Nat} {L : List Tg} {a b : Int} (hA : ThA u t n) (hT : Th g t L) (hl : L.length ≤ n) (hn : n ≤ 1000) : Ec P d 88 [vR t, vI a, vI b] (sI u g) (fun r u' => ∃ g', u' = sI u g' ∧ r = .inl none ∧ Off t (t + 6) g g' ∧ Th g' t (L.map (mvF a b))) := by
  obtain ⟨s0, r0, r1, r2, r3, r4, s1, s2, s3, s4, s5⟩ := hA
  have loop : ∀ i, i ≤ L.length → ∀ g1, Off t (t + 6) g g1 → Th g1 t (List.map (mvF a b) (L.take i) ++ L.drop i) → Ef P d 88 2 [some (vR t), some (vI a), some (vI b), some (vI (i : Int))] [] (sI u g1) (fun r u' => ∃ g', u' = sI u g' ∧ r = .inl none ∧ Off t (t + 6) g g' ∧ Th g' t (L.map (mvF a b))) := by
    refine nat_loop L.length ?_
    intro i hi ih g1 ho h1
    have hz : g1 t 5 = (L.length : Int) := by rw [h1.1]; simp; omega
    refine ef_iload_n (pc := 2) d88_2 rfl ?_
    refine ef_aload_n (pc := 3) d88_3 rfl ?_
    refine eg_getI (pc := 4) d88_4 lf_7_27 (by assumption) (by decide) ?_
    rw [hz]
    refine ef_icmp_ge (pc := 7) d88_7 (t := 33) rfl (fun h7 => ?_) (fun h7 => ?_)
    · have he : L.length = i := by omega
      refine ef_vret (pc := 33) d88_33 rfl ?_
      subst he
      refine ⟨_, rfl, rfl, ho, ?_⟩
      simpa using h1
    · obtain ⟨e, he, hd⟩ := get_of_lt (L := L) (i := i) (by omega)
      have hv := h1.2 i e (map_at.trans he)
      refine ef_aload_n (pc := 10) d88_10 rfl ?_
      refine eg_getR (pc := 11) d88_11 lf_7_15 (by assumption) (by decide) (by assumption) ?_
      refine ef_iload_n (pc := 14) d88_14 rfl ?_
      refine eg_iald (pc := 15) d88_15 (by assumption) rfl (by omega) ?_
      rw [hv.2.1]
      refine ef_iload_n (pc := 16) d88_16 rfl ?_
      refine ef_icmp_ne (pc := 17) d88_17 (t := 27) rfl (fun h17 => ?_) (fun h17 => ?_)
      · have hs := map_keep (f := mvF a b) he (by rw [mvF, if_neg h17])
        rw [hs] at h1
        refine ef_iinc (pc := 27) d88_27 (ls' := [_, _, _, _]) (z := ((i + 1 : Nat) : Int)) rfl (by decide) (by omega) ⟨by omega, by omega⟩ rfl ?_
        refine ef_goto (pc := 30) d88_30 (t := 2) rfl ?_
        first | exact ih (by omega) _ ho h1 | exact ih (by omega) _ (ho.up (by omega) (by omega)) hs
      · have hs := Th_set (v := b) h1 (map_at.trans he)
        rw [show (e.1, (b, e.2.2)) = mvF a b e by rw [mvF, if_pos h17], map_step he] at hs
        refine ef_aload_n (pc := 20) d88_20 rfl ?_
        refine eg_getR (pc := 21) d88_21 lf_7_15 (by assumption) (by decide) (by assumption) ?_
        refine ef_iload_n (pc := 24) d88_24 rfl ?_
        refine ef_iload_n (pc := 25) d88_25 rfl ?_
        refine eg_iast (pc := 26) d88_26 (by assumption) rfl (by omega) rfl ?_
        refine ef_iinc (pc := 27) d88_27 (ls' := [_, _, _, _]) (z := ((i + 1 : Nat) : Int)) rfl (by decide) (by omega) ⟨by omega, by omega⟩ rfl ?_
        refine ef_goto (pc := 30) d88_30 (t := 2) rfl ?_
        first | exact ih (by omega) _ ho h1 | exact ih (by omega) _ (ho.up (by omega) (by omega)) hs
  change Ef P _ 88 0 [some (vR t), some (vI a), some (vI b), none] [] _ _
  refine ef_iconst (pc := 0) d88_0 (by decide) ?_
  refine ef_istore_n (pc := 1) d88_1 (ls' := [_, _, _, _]) rfl ?_
  exact loop 0 (by omega) g Off.refl (by simpa using hT)
def shF (f : Nat → Int) (k i : Nat) : Nat → Int := fun j => if k ≤ j ∧ j < i then f (j + 1) else f j
theorem shF_0 {f : Nat → Int} {k : Nat} : shF f k k = f := funext fun j => if_neg (by omega)
theorem shF_s {f : Nat → Int} {k i : Nat} (h : k ≤ i) : u1 (shF f k i) i (shF f k i (i + 1)) = shF f k (i + 1) := funext fun j => by
  unfold u1 shF
  by_cases hj : j = i
  · subst hj; rw [if_pos rfl, if_neg (by omega), if_pos (by omega)]
  · rw [if_neg hj]
    by_cases hk : k ≤ j ∧ j < i
    · rw [if_pos hk, if_pos (by omega)]
    · rw [if_neg hk, if_neg (by omega)]
theorem Th_rem {g g' : Nat → Nat → Int} {t k : Nat} {L : List Tg} (hT : Th g t L) (hk : k < L.length) (h0 : g' t 5 = ((L.length - 1 : Nat) : Int)) (hr : ∀ r, 1 ≤ r → r ≤ 5 → g' (t + r) = shF (g (t + r)) k (L.length - 1)) : Th g' t (L.eraseIdx k) := by
  refine ⟨by rw [h0, List.length_eraseIdx, if_pos hk], fun j e he => ?_⟩
  have hj := (List.getElem?_eq_some_iff.mp he).1
  rw [List.length_eraseIdx, if_pos hk] at hj
  rw [hr 1 (by omega) (by omega), hr 2 (by omega) (by omega), hr 3 (by omega) (by omega), hr 4 (by omega) (by omega), hr 5 (by omega) (by omega)]
  unfold shF
  rw [List.getElem?_eraseIdx] at he
  by_cases hjk : j < k
  · rw [if_pos hjk] at he
    simp only [if_neg (show ¬ (k ≤ j ∧ j < L.length - 1) by omega)]
    exact hT.2 j e he
  · rw [if_neg hjk] at he
    simp only [if_pos (show k ≤ j ∧ j < L.length - 1 by omega)]
    exact hT.2 (j + 1) e he
theorem c87 {P : Pg} {d : Nat} {u : Mm} {g : Nat → Nat → Int} {t n : Nat} {L : List Tg} {kI : Int} (hA : ThA u t n) (hT : Th g t L) (hl : L.length ≤ n) (hn : n ≤ 1000) (hk : kI < L.length) : Ec P d 87 [vR t, vI kI] (sI u g) (fun r u' => ∃ g', u' = sI u g' ∧ r = .inl none ∧ Off t (t + 6) g g' ∧ (∀ k : Nat, kI = (k : Int) → k < L.length → Th g' t (L.eraseIdx k)) ∧ (kI < 0 → g' = g)) := by
  obtain ⟨s0, r0, r1, r2, r3, r4, s1, s2, s3, s4, s5⟩ := hA
  have hz := hT.1
  by_cases hneg : kI < 0
  · change Ef P _ 87 0 [some (vR t), some (vI kI), none] [] _ _
    refine ef_iload_n (pc := 0) d87_0 rfl ?_
    refine ef_if_ltT (pc := 1) d87_1 (t := 12) rfl (by omega) ?_
    refine ef_vret (pc := 12) d87_12 rfl ?_
    refine ⟨_, rfl, rfl, Off.refl, ?_, fun _ => rfl⟩
    intro k h1 h2
    omega
  obtain ⟨k, rfl⟩ : ∃ k : Nat, kI = (k : Int) := ⟨kI.toNat, by omega⟩
  have loop : ∀ i, i ≤ L.length - 1 → ∀ g1, k ≤ i → Off t (t + 6) g g1 → g1 t 5 = ((L.length - 1 : Nat) : Int) → (∀ r, 1 ≤ r → r ≤ 5 → g1 (t + r) = shF (g (t + r)) k i) → Ef P d 87 25 [some (vR t), some (vI (k : Int)), some (vI (i : Int))] [] (sI u g1) (fun r u' => ∃ g', u' = sI u g' ∧ r = .inl none ∧ Off t (t + 6) g g' ∧ (∀ k2 : Nat, (k : Int) = (k2 : Int) → k2 < L.length → Th g' t (L.eraseIdx k2)) ∧ ((k : Int) < 0 → g' = g)) := by
    refine nat_loop (L.length - 1) ?_
    intro i hi ih g1 hki ho hz1 hr
    refine ef_iload_n (pc := 25) d87_25 rfl ?_
    refine ef_aload_n (pc := 26) d87_26 rfl ?_
    refine eg_getI (pc := 27) d87_27 lf_7_27 (by assumption) (by decide) ?_
    rw [hz1]
    refine ef_icmp_ge (pc := 30) d87_30 (t := 109) rfl (fun h30 => ?_) (fun h30 => ?_)
    · refine ef_vret (pc := 109) d87_109 rfl ?_
      have hi2 : i = L.length - 1 := by omega
      subst hi2
      refine ⟨_, rfl, rfl, ho, ?_, fun hh => absurd hh (by omega)⟩
      intro k2 h1 h2
      have h3 : k = k2 := by omega
      subst h3
      exact Th_rem hT h2 hz1 hr
    · refine ef_aload_n (pc := 33) d87_33 rfl ?_
      refine eg_getR (pc := 34) d87_34 lf_7_9 (by assumption) (by decide) (by assumption) ?_
      refine ef_iload_n (pc := 37) d87_37 rfl ?_
      refine ef_aload_n (pc := 38) d87_38 rfl ?_
      refine eg_getR (pc := 39) d87_39 lf_7_9 (by assumption) (by decide) (by assumption) ?_
      refine ef_iload_n (pc := 42) d87_42 rfl ?_
      refine ef_iconst (pc := 43) d87_43 (by decide) ?_
      refine ef_iadd (pc := 44) d87_44 (z := ((i + 1 : Nat) : Int)) (by omega) ⟨by omega, by omega⟩ ?_
      refine eg_iald (pc := 45) d87_45 (by assumption) rfl (by omega) ?_
      refine eg_iast (pc := 46) d87_46 (by assumption) rfl (by omega) rfl ?_
      refine ef_aload_n (pc := 47) d87_47 rfl ?_
      refine eg_getR (pc := 48) d87_48 lf_7_15 (by assumption) (by decide) (by assumption) ?_
      refine ef_iload_n (pc := 51) d87_51 rfl ?_
      refine ef_aload_n (pc := 52) d87_52 rfl ?_
      refine eg_getR (pc := 53) d87_53 lf_7_15 (by assumption) (by decide) (by assumption) ?_
      refine ef_iload_n (pc := 56) d87_56 rfl ?_
      refine ef_iconst (pc := 57) d87_57 (by decide) ?_
      refine ef_iadd (pc := 58) d87_58 (z := ((i + 1 : Nat) : Int)) (by omega) ⟨by omega, by omega⟩ ?_
      refine eg_iald (pc := 59) d87_59 (by assumption) rfl (by omega) ?_
      try simp (disch := omega) only [u2_ne, u2_at, u2_ni, ur_ne, ur_eq]
      refine eg_iast (pc := 60) d87_60 (by assumption) rfl (by omega) rfl ?_
      refine ef_aload_n (pc := 61) d87_61 rfl ?_
      refine eg_getR (pc := 62) d87_62 lf_7_18 (by assumption) (by decide) (by assumption) ?_
      refine ef_iload_n (pc := 65) d87_65 rfl ?_
      refine ef_aload_n (pc := 66) d87_66 rfl ?_
      refine eg_getR (pc := 67) d87_67 lf_7_18 (by assumption) (by decide) (by assumption) ?_
      refine ef_iload_n (pc := 70) d87_70 rfl ?_
      refine ef_iconst (pc := 71) d87_71 (by decide) ?_
      refine ef_iadd (pc := 72) d87_72 (z := ((i + 1 : Nat) : Int)) (by omega) ⟨by omega, by omega⟩ ?_
      refine eg_iald (pc := 73) d87_73 (by assumption) rfl (by omega) ?_
      try simp (disch := omega) only [u2_ne, u2_at, u2_ni, ur_ne, ur_eq]
      refine eg_iast (pc := 74) d87_74 (by assumption) rfl (by omega) rfl ?_
      refine ef_aload_n (pc := 75) d87_75 rfl ?_
      refine eg_getR (pc := 76) d87_76 lf_7_21 (by assumption) (by decide) (by assumption) ?_
      refine ef_iload_n (pc := 79) d87_79 rfl ?_
      refine ef_aload_n (pc := 80) d87_80 rfl ?_
      refine eg_getR (pc := 81) d87_81 lf_7_21 (by assumption) (by decide) (by assumption) ?_
      refine ef_iload_n (pc := 84) d87_84 rfl ?_
      refine ef_iconst (pc := 85) d87_85 (by decide) ?_
      refine ef_iadd (pc := 86) d87_86 (z := ((i + 1 : Nat) : Int)) (by omega) ⟨by omega, by omega⟩ ?_
      refine eg_iald (pc := 87) d87_87 (by assumption) rfl (by omega) ?_
      try simp (disch := omega) only [u2_ne, u2_at, u2_ni, ur_ne, ur_eq]
      refine eg_iast (pc := 88) d87_88 (by assumption) rfl (by omega) rfl ?_
      refine ef_aload_n (pc := 89) d87_89 rfl ?_
      refine eg_getR (pc := 90) d87_90 lf_7_24 (by assumption) (by decide) (by assumption) ?_
      refine ef_iload_n (pc := 93) d87_93 rfl ?_
      refine ef_aload_n (pc := 94) d87_94 rfl ?_
      refine eg_getR (pc := 95) d87_95 lf_7_24 (by assumption) (by decide) (by assumption) ?_
      refine ef_iload_n (pc := 98) d87_98 rfl ?_
      refine ef_iconst (pc := 99) d87_99 (by decide) ?_
      refine ef_iadd (pc := 100) d87_100 (z := ((i + 1 : Nat) : Int)) (by omega) ⟨by omega, by omega⟩ ?_
      refine eg_iald (pc := 101) d87_101 (by assumption) rfl (by omega) ?_
      try simp (disch := omega) only [u2_ne, u2_at, u2_ni, ur_ne, ur_eq]
      refine eg_iast (pc := 102) d87_102 (by assumption) rfl (by omega) rfl ?_
      refine ef_iinc (pc := 103) d87_103 (ls' := [_, _, _]) (z := ((i + 1 : Nat) : Int)) rfl (by decide) (by omega) ⟨by omega, by omega⟩ rfl ?_
      refine ef_goto (pc := 106) d87_106 (t := 25) rfl ?_
      refine ih (by omega) _ (by omega) ?_ ?_ ?_
      · exact ((((ho.up (by omega) (by omega)).up (by omega) (by omega)).up (by omega) (by omega)).up (by omega) (by omega)).up (by omega) (by omega)
      · simp (disch := omega) only [u2_ne]; exact hz1
      · intro r h1 h5
        have hc : r = 1 ∨ r = 2 ∨ r = 3 ∨ r = 4 ∨ r = 5 := by omega
        rcases hc with rfl | rfl | rfl | rfl | rfl
        all_goals simp (disch := omega) only [u2_ne, u2_eq]; rw [hr _ (by omega) (by omega)]; exact shF_s hki
  change Ef P _ 87 0 [some (vR t), some (vI (k : Int)), none] [] _ _
  refine ef_iload_n (pc := 0) d87_0 rfl ?_
  refine ef_if_ltF (pc := 1) d87_1 (t := 12) rfl (by omega) ?_
  refine ef_iload_n (pc := 4) d87_4 rfl ?_
  refine ef_aload_n (pc := 5) d87_5 rfl ?_
  refine eg_getI (pc := 6) d87_6 lf_7_27 (by assumption) (by decide) ?_
  rw [hz]
  refine ef_icmp_ltT (pc := 9) d87_9 (t := 13) rfl (by omega) ?_
  refine ef_aload_n (pc := 13) d87_13 rfl ?_
  refine ef_dup (pc := 14) d87_14 rfl ?_
  refine eg_getI (pc := 15) d87_15 lf_7_27 (by assumption) (by decide) ?_
  rw [hz]
  refine ef_iconst (pc := 18) d87_18 (by decide) ?_
  refine ef_isub (pc := 19) d87_19 (z := ((L.length - 1 : Nat) : Int)) (by omega) ⟨by omega, by omega⟩ ?_
  refine eg_putI (pc := 20) d87_20 pf_87_27 (by assumption) (by decide) ?_
  refine ef_iload_n (pc := 23) d87_23 rfl ?_
  refine ef_istore_n (pc := 24) d87_24 (ls' := [_, _, _]) rfl ?_
  refine loop k (by omega) _ (Nat.le_refl _) (Off.refl.up (by omega) (by omega)) u2_at ?_
  intro r h1 h2
  rw [u2_ne (by omega), shF_0]
theorem cpy_0 {f g : Nat → Int} {n j : Nat} (h : j < n) : cpy f g 0 0 n j = f j := by
  unfold cpy
  rw [if_pos (by omega)]
  congr 1
  omega
theorem Th_cp {g g' : Nat → Nat → Int} {s t : Nat} {L : List Tg} (hT : Th g s L) (h0 : g' t 5 = (L.length : Int)) (h1 : ∀ r, 1 ≤ r → r ≤ 5 → ∃ f, g' (t + r) = cpy (g (s + r)) f 0 0 L.length) : Th g' t L := by
  refine ⟨h0, fun i e he => ?_⟩
  have hi := (List.getElem?_eq_some_iff.mp he).1
  have hr : ∀ r, 1 ≤ r → r ≤ 5 → g' (t + r) i = g (s + r) i := fun r a b => by
    obtain ⟨f, hf⟩ := h1 r a b
    rw [hf, cpy_0 hi]
  rw [hr 1 (by omega) (by omega), hr 2 (by omega) (by omega), hr 3 (by omega) (by omega), hr 4 (by omega) (by omega), hr 5 (by omega) (by omega)]
  exact hT.2 i e he
theorem c86 {P : Pg} {d : Nat} {u : Mm} {g : Nat → Nat → Int} {s t n : Nat} {L : List Tg} (hA : ThA u t n) (hB : ThA u s n) (hT : Th g s L) (hl : L.length ≤ n) (hn : n ≤ 1000) (hd : s + 6 ≤ t ∨ t + 6 ≤ s) : Ec P (d + 1) 86 [vR t, vR s] (sI u g) (fun r u' => ∃ g', u' = sI u g' ∧ r = .inl none ∧ Off t (t + 6) g g' ∧ Th g' t L) := by
  obtain ⟨s0, r0, r1, r2, r3, r4, s1, s2, s3, s4, s5⟩ := hA
  obtain ⟨s0', r0', r1', r2', r3', r4', s1', s2', s3', s4', s5'⟩ := hB
  have hz := hT.1
  change Ef P _ 86 0 [some (vR t), some (vR s)] [] _ _
  refine ef_aload_n (pc := 0) d86_0 rfl ?_
  refine ef_aload_n (pc := 1) d86_1 rfl ?_
  refine eg_getI (pc := 2) d86_2 lf_7_27 (by assumption) (by decide) ?_
  rw [hz]
  refine ef_aload_n (pc := 5) d86_5 rfl ?_
  refine eg_getR (pc := 6) d86_6 lf_7_9 (by assumption) (by decide) (by assumption) ?_
  refine eg_alen (pc := 9) d86_9 (by assumption) (by decide) ?_
  refine ef_callS (pc := 10) d86_10 lm_7_31 (as := [_, _]) rfl rfl rfl (Nat.le_of_ble_eq_true rfl) rfl (Nat.le_of_ble_eq_true rfl) ?_
  refine Ec.imp (c164) ?_
  rintro r10 u10 ⟨rfl, rfl⟩
  rw [if_pos (show (L.length : Int) ≤ (n : Int) by omega)]
  refine eg_putI (pc := 13) d86_13 pf_86_27 (by assumption) (by decide) ?_
  refine ef_aload_n (pc := 16) d86_16 rfl ?_
  refine eg_getR (pc := 17) d86_17 lf_7_9 (by assumption) (by decide) (by assumption) ?_
  refine ef_iconst (pc := 20) d86_20 (by decide) ?_
  refine ef_aload_n (pc := 21) d86_21 rfl ?_
  refine eg_getR (pc := 22) d86_22 lf_7_9 (by assumption) (by decide) (by assumption) ?_
  refine ef_iconst (pc := 25) d86_25 (by decide) ?_
  refine ef_aload_n (pc := 26) d86_26 rfl ?_
  refine eg_getI (pc := 27) d86_27 lf_7_27 (by assumption) (by decide) ?_
  try simp (disch := omega) only [u2_ne, u2_at, u2_ni, ur_ne, ur_eq]
  try simp (disch := omega) only [ur_ne, ur_eq, u2_ne, u2_at]
  refine ef_biS (pc := 30) d86_30 lm_7_37 (as := [_, _, _, _, _]) rfl rfl (by decide) (Nat.le_of_ble_eq_true rfl) (bi_cp (by assumption) (by assumption) (by decide) (by omega) (by omega) (by omega) (by omega) (by omega) (by omega)) ?_
  refine ef_aload_n (pc := 33) d86_33 rfl ?_
  refine eg_getR (pc := 34) d86_34 lf_7_15 (by assumption) (by decide) (by assumption) ?_
  refine ef_iconst (pc := 37) d86_37 (by decide) ?_
  refine ef_aload_n (pc := 38) d86_38 rfl ?_
  refine eg_getR (pc := 39) d86_39 lf_7_15 (by assumption) (by decide) (by assumption) ?_
  refine ef_iconst (pc := 42) d86_42 (by decide) ?_
  refine ef_aload_n (pc := 43) d86_43 rfl ?_
  refine eg_getI (pc := 44) d86_44 lf_7_27 (by assumption) (by decide) ?_
  try simp (disch := omega) only [u2_ne, u2_at, u2_ni, ur_ne, ur_eq]
  try simp (disch := omega) only [ur_ne, ur_eq, u2_ne, u2_at]
  refine ef_biS (pc := 47) d86_47 lm_7_37 (as := [_, _, _, _, _]) rfl rfl (by decide) (Nat.le_of_ble_eq_true rfl) (bi_cp (by assumption) (by assumption) (by decide) (by omega) (by omega) (by omega) (by omega) (by omega) (by omega)) ?_
  refine ef_aload_n (pc := 50) d86_50 rfl ?_
  refine eg_getR (pc := 51) d86_51 lf_7_18 (by assumption) (by decide) (by assumption) ?_
  refine ef_iconst (pc := 54) d86_54 (by decide) ?_
  refine ef_aload_n (pc := 55) d86_55 rfl ?_
  refine eg_getR (pc := 56) d86_56 lf_7_18 (by assumption) (by decide) (by assumption) ?_
  refine ef_iconst (pc := 59) d86_59 (by decide) ?_
  refine ef_aload_n (pc := 60) d86_60 rfl ?_
  refine eg_getI (pc := 61) d86_61 lf_7_27 (by assumption) (by decide) ?_
  try simp (disch := omega) only [u2_ne, u2_at, u2_ni, ur_ne, ur_eq]
  try simp (disch := omega) only [ur_ne, ur_eq, u2_ne, u2_at]
  refine ef_biS (pc := 64) d86_64 lm_7_37 (as := [_, _, _, _, _]) rfl rfl (by decide) (Nat.le_of_ble_eq_true rfl) (bi_cp (by assumption) (by assumption) (by decide) (by omega) (by omega) (by omega) (by omega) (by omega) (by omega)) ?_
  refine ef_aload_n (pc := 67) d86_67 rfl ?_
  refine eg_getR (pc := 68) d86_68 lf_7_21 (by assumption) (by decide) (by assumption) ?_
  refine ef_iconst (pc := 71) d86_71 (by decide) ?_
  refine ef_aload_n (pc := 72) d86_72 rfl ?_
  refine eg_getR (pc := 73) d86_73 lf_7_21 (by assumption) (by decide) (by assumption) ?_
  refine ef_iconst (pc := 76) d86_76 (by decide) ?_
  refine ef_aload_n (pc := 77) d86_77 rfl ?_
  refine eg_getI (pc := 78) d86_78 lf_7_27 (by assumption) (by decide) ?_
  try simp (disch := omega) only [u2_ne, u2_at, u2_ni, ur_ne, ur_eq]
  try simp (disch := omega) only [ur_ne, ur_eq, u2_ne, u2_at]
  refine ef_biS (pc := 81) d86_81 lm_7_37 (as := [_, _, _, _, _]) rfl rfl (by decide) (Nat.le_of_ble_eq_true rfl) (bi_cp (by assumption) (by assumption) (by decide) (by omega) (by omega) (by omega) (by omega) (by omega) (by omega)) ?_
  refine ef_aload_n (pc := 84) d86_84 rfl ?_
  refine eg_getR (pc := 85) d86_85 lf_7_24 (by assumption) (by decide) (by assumption) ?_
  refine ef_iconst (pc := 88) d86_88 (by decide) ?_
  refine ef_aload_n (pc := 89) d86_89 rfl ?_
  refine eg_getR (pc := 90) d86_90 lf_7_24 (by assumption) (by decide) (by assumption) ?_
  refine ef_iconst (pc := 93) d86_93 (by decide) ?_
  refine ef_aload_n (pc := 94) d86_94 rfl ?_
  refine eg_getI (pc := 95) d86_95 lf_7_27 (by assumption) (by decide) ?_
  try simp (disch := omega) only [u2_ne, u2_at, u2_ni, ur_ne, ur_eq]
  try simp (disch := omega) only [ur_ne, ur_eq, u2_ne, u2_at]
  refine ef_biS (pc := 98) d86_98 lm_7_37 (as := [_, _, _, _, _]) rfl rfl (by decide) (Nat.le_of_ble_eq_true rfl) (bi_cp (by assumption) (by assumption) (by decide) (by omega) (by omega) (by omega) (by omega) (by omega) (by omega)) ?_
  refine ef_vret (pc := 101) d86_101 rfl ?_
  refine ⟨_, rfl, rfl, ?_, Th_cp hT ?_ ?_⟩
  · exact (((((Off.refl.up (by omega) (by omega)).ur (by omega) (by omega)).ur (by omega) (by omega)).ur (by omega) (by omega)).ur (by omega) (by omega)).ur (by omega) (by omega)
  · simp (disch := omega) only [ur_ne, u2_at]
  · intro r h1 h5
    have hc : r = 1 ∨ r = 2 ∨ r = 3 ∨ r = 4 ∨ r = 5 := by omega
    rcases hc with rfl | rfl | rfl | rfl | rfl
    all_goals simp (disch := omega) only [ur_ne, ur_eq, u2_ne]
    all_goals exact ⟨_, rfl⟩
