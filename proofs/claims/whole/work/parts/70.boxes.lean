/-! The class: shapes, what it holds, the small methods. Written by wip/whole/gen/c70.py. -/
/-- cells of the same shape, with the same references -/
def Sm (lo hi : Nat) (u v : Mm) : Prop := ∀ a, lo ≤ a → a < hi → mS v a = mS u a ∧ mF v a = mF u a
theorem Sm.sub {lo hi lo' hi' : Nat} {u v : Mm} (h : Sm lo hi u v) (h1 : lo ≤ lo') (h2 : hi' ≤ hi) : Sm lo' hi' u v := fun a h3 h4 => h a (by omega) (by omega)
theorem ThA.mv {u v : Mm} {t n : Nat} (h : ThA u t n) (k : Sm t (t + 6) u v) : ThA v t n := by
  unfold ThA at h ⊢
  rw [(k t (by omega) (by omega)).1, (k t (by omega) (by omega)).2, (k (t + 1) (by omega) (by omega)).1, (k (t + 2) (by omega) (by omega)).1, (k (t + 3) (by omega) (by omega)).1, (k (t + 4) (by omega) (by omega)).1, (k (t + 5) (by omega) (by omega)).1]
  exact h
theorem LnA.mv {u v : Mm} {l : Nat} (h : LnA u l) (k : Sm l (l + 2) u v) : LnA v l := by
  unfold LnA at h ⊢
  rw [(k l (by omega) (by omega)).1, (k l (by omega) (by omega)).2, (k (l + 1) (by omega) (by omega)).1]
  exact h
theorem StA.mv {u v : Mm} {s : Nat} (h : StA u s) (k : Sm s (s + 21) u v) : StA v s := by
  obtain ⟨h1, h2, h3, h4, h5, h6, h7, h8, h9⟩ := h
  have q := k s (by omega) (by omega)
  exact ⟨by rw [q.1]; exact h1, by rw [q.2]; exact h2, by rw [q.2]; exact h3, by rw [q.2]; exact h4, by rw [q.2]; exact h5, h6.mv (k.sub (by omega) (by omega)), h7.mv (k.sub (by omega) (by omega)), h8.mv (k.sub (by omega) (by omega)), h9.mv (k.sub (by omega) (by omega))⟩
theorem RxA.mv {u v : Mm} {r : Nat} (h : RxA u r) (k : Sm r (r + 5) u v) : RxA v r := by
  unfold RxA at h ⊢
  rw [(k r (by omega) (by omega)).1, (k r (by omega) (by omega)).2, (k (r + 1) (by omega) (by omega)).1, (k (r + 2) (by omega) (by omega)).1, (k (r + 3) (by omega) (by omega)).1, (k (r + 4) (by omega) (by omega)).1]
  exact h
theorem TmA.mv {u v : Mm} {t : Nat} (h : TmA u t) (k : Sm t (t + 6) u v) : TmA v t := by
  unfold TmA at h ⊢
  rw [(k t (by omega) (by omega)).1, (k t (by omega) (by omega)).2, (k (t + 1) (by omega) (by omega)).1, (k (t + 2) (by omega) (by omega)).1, (k (t + 3) (by omega) (by omega)).1, (k (t + 4) (by omega) (by omega)).1, (k (t + 5) (by omega) (by omega)).1]
  exact h
theorem TlA.mv {u v : Mm} {t : Nat} (h : TlA u t) (k : Sm t (t + 5) u v) : TlA v t := by
  unfold TlA at h ⊢
  rw [(k t (by omega) (by omega)).1, (k t (by omega) (by omega)).2, (k (t + 1) (by omega) (by omega)).1, (k (t + 2) (by omega) (by omega)).1, (k (t + 3) (by omega) (by omega)).1, (k (t + 4) (by omega) (by omega)).1]
  exact h
theorem ExA.mv {u v : Mm} {x : Nat} (h : ExA u x) (k : Sm x (x + 638) u v) : ExA v x := by
  obtain ⟨h1, h2, h3, h4, h5, h6, h7, h8⟩ := h
  have q := k x (by omega) (by omega)
  exact ⟨by rw [q.1]; exact h1, by rw [q.2]; exact h2, by rw [q.2]; exact h3, by rw [q.2]; exact h4, by rw [(k (x + 1) (by omega) (by omega)).1]; exact h5, by rw [(k (x + 2) (by omega) (by omega)).1]; exact h6, h7.mv (k.sub (by omega) (by omega)), fun i hi => ⟨by rw [(k (x + 1) (by omega) (by omega)).2]; exact (h8 i hi).1, (h8 i hi).2.mv (k.sub (by omega) (by omega))⟩⟩
def BxA (u : Mm) (h s t r q : Nat) : Prop := mS u h = some (100 + 0, 11) ∧ mF u h 0 = some (h + 1) ∧ mF u h 2 = some (h + 2) ∧ mF u h 3 = some (h + 8) ∧ mF u h 4 = some s ∧ mF u h 5 = some t ∧ mF u h 6 = some r ∧ mF u h 7 = some q ∧ mF u h 9 = some (h + 65) ∧ mF u h 10 = some (h + 66) ∧ mS u (h + 1) = some (1, 120) ∧ mS u (h + 65) = some (4 + 2, 3) ∧ (∀ i, i < 3 → mF u (h + 65) i = some (h + 704 + 2 * i) ∧ LnA u (h + 704 + 2 * i)) ∧ TmA u (h + 2) ∧ TlA u (h + 8) ∧ StA u s ∧ StA u t ∧ RxA u r ∧ RxA u q ∧ ExA u (h + 66) ∧ ((s = h + 13 ∧ t = h + 34) ∨ (s = h + 34 ∧ t = h + 13)) ∧ ((r = h + 55 ∧ q = h + 60) ∨ (r = h + 60 ∧ q = h + 55))
theorem BxA.mv {u v : Mm} {h s t r q : Nat} (H : BxA u h s t r q) (k : Sm h (h + 710) u v) : BxA v h s t r q := by
  obtain ⟨a0, a1, a2, a3, a4, a5, a6, a7, a8, a9, a10, a11, a12, a13, a14, a15, a16, a17, a18, a19, a20, a21⟩ := H
  have q0 := k h (by omega) (by omega)
  exact ⟨by rw [q0.1]; exact a0, by rw [q0.2]; exact a1, by rw [q0.2]; exact a2, by rw [q0.2]; exact a3, by rw [q0.2]; exact a4, by rw [q0.2]; exact a5, by rw [q0.2]; exact a6, by rw [q0.2]; exact a7, by rw [q0.2]; exact a8, by rw [q0.2]; exact a9, by rw [(k (h + 1) (by omega) (by omega)).1]; exact a10, by rw [(k (h + 65) (by omega) (by omega)).1]; exact a11, fun i hi => ⟨by rw [(k (h + 65) (by omega) (by omega)).2]; exact (a12 i hi).1, (a12 i hi).2.mv (k.sub (by omega) (by omega))⟩, a13.mv (k.sub (by omega) (by omega)), a14.mv (k.sub (by omega) (by omega)), a15.mv (k.sub (by omega) (by omega)), a16.mv (k.sub (by omega) (by omega)), a17.mv (k.sub (by omega) (by omega)), a18.mv (k.sub (by omega) (by omega)), a19.mv (k.sub (by omega) (by omega)), a20, a21⟩
/-- the class's own things: written; the term; the state; its redexes, since when; steps; kept; explored -/
def CvW (g : Nat → Nat → Int) (h : Nat) (W : List Int) : Prop := g h 1 = (W.length : Int) ∧ Row (g (h + 1)) W ∧ W.length ≤ 120 ∧ ∀ c, c ∈ W → 32 ≤ c ∧ c ≤ 126
def CvT (g : Nat → Nat → Int) (h : Nat) (kd nm rp en : Nat → Int) (sz : Nat) : Prop := g (h + 3) = kd ∧ g (h + 4) = nm ∧ g (h + 5) = rp ∧ g (h + 6) = en ∧ (∀ n, 0 ≤ nm n ∧ nm n < 65536) ∧ ∃ ht, TmOk kd nm en sz ht
def CvS (g : Nat → Nat → Int) (s : Nat) (kd nm rp en : Nat → Int) (sz : Nat) (A : SS) : Prop := SR g s A ∧ Vd kd nm sz A ∧ Ln g (s + 19) (teS kd nm rp en A) ∧ (teS kd nm rp en A).length ≤ 240
def CvK (g : Nat → Nat → Int) (h : Nat) (K : Nat → List Int) : Prop := ∀ i, i < 3 → Ln g (h + 704 + 2 * i) (K i) ∧ (K i).length ≤ 240
/-- size, complete, stuck, nearest, farthest -/
abbrev XR : Type := Nat × (Int × (Int × (Int × Int)))
def CvX (g : Nat → Nat → Int) (x : Nat) (X : XR) : Prop := g x 3 = (X.1 : Int) ∧ g x 4 = X.2.1 ∧ g x 5 = X.2.2.1 ∧ g x 6 = X.2.2.2.1 ∧ X.1 ≤ 30 ∧ X.2.2.2.2 = (if X.1 = 0 then 0 else g (x + 2) (X.1 - 1)) ∧ (X.2.1 = 0 ∨ X.2.1 = 1)
theorem c1 {P : Pg} {d : Nat} {u : Mm} {g : Nat → Nat → Int} {h s t r q : Nat} {W : List Int} (hB : BxA u h s t r q) (hW : CvW g h W) : Ec P d 1 [vR h] (sI u g) (fun x u' => u' = sI u (u2 g h 1 0) ∧ x = .inl (some (vI (W.length : Int)))) := by
  obtain ⟨a0, a1, a2, a3, a4, a5, a6, a7, a8, a9, a10, a11, a12, a13, a14, a15, a16, a17, a18, a19, a20, a21⟩ := id hB
  have w1 := hW.1
  change Ef P _ 1 0 [some (vR h), none] [] _ _
  refine ef_aload_n (pc := 0) d1_0 rfl ?_
  refine eg_getI (pc := 1) d1_1 lf_0_71 (by assumption) (by decide) ?_
  rw [w1]
  refine ef_istore_n (pc := 4) d1_4 (ls' := [_, _]) rfl ?_
  refine ef_aload_n (pc := 5) d1_5 rfl ?_
  refine ef_iconst (pc := 6) d1_6 (by decide) ?_
  refine eg_putI (pc := 7) d1_7 pf_1_71 (by assumption) (by decide) ?_
  refine ef_iload_n (pc := 10) d1_10 rfl ?_
  refine ef_iret (pc := 11) d1_11 rfl ?_
  exact ⟨rfl, rfl⟩
theorem c2 {P : Pg} {d : Nat} {u : Mm} {g : Nat → Nat → Int} {h s t r q : Nat} {R : List Rd} (hB : BxA u h s t r q) (hR : Rf g r R) : Ec P d 2 [vR h] (sI u g) (fun x u' => u' = sI u g ∧ x = .inl (some (vI (R.length : Int)))) := by
  obtain ⟨a0, a1, a2, a3, a4, a5, a6, a7, a8, a9, a10, a11, a12, a13, a14, a15, a16, a17, a18, a19, a20, a21⟩ := id hB
  obtain ⟨b0, b1, b2, b3, b4, b5, b6, b7, b8⟩ := id a17
  have w1 := hR.1
  change Ef P _ 2 0 [some (vR h)] [] _ _
  refine ef_aload_n (pc := 0) d2_0 rfl ?_
  refine eg_getR (pc := 1) d2_1 lf_0_40 (by assumption) (by decide) (by assumption) ?_
  refine eg_getI (pc := 4) d2_4 lf_0_110 (by assumption) (by decide) ?_
  rw [w1]
  refine ef_iret (pc := 7) d2_7 rfl ?_
  exact ⟨rfl, rfl⟩
theorem c17 {P : Pg} {d : Nat} {u : Mm} {k : Int} : Ec P d 17 [vI k] u (fun x u' => u' = u ∧ x = .inl (some (vI (if 0 ≤ k ∧ k < 3 then 1 else 0)))) := by
  change Ef P _ 17 0 [some (vI k)] [] _ _
  refine ef_iload_n (pc := 0) d17_0 rfl ?_
  refine ef_if_lt (pc := 1) d17_1 (t := 13) rfl (fun h1 => ?_) (fun h1 => ?_)
  · rw [if_neg (by omega)]
    refine ef_iconst (pc := 13) d17_13 (by decide) ?_
    refine ef_zret (pc := 14) d17_14 rfl (by omega) ?_
    exact ⟨rfl, rfl⟩
  · refine ef_iload_n (pc := 4) d17_4 rfl ?_
    refine ef_iconst (pc := 5) d17_5 (by decide) ?_
    refine ef_icmp_ge (pc := 6) d17_6 (t := 13) rfl (fun h6 => ?_) (fun h6 => ?_)
    · rw [if_neg (by omega)]
      refine ef_iconst (pc := 13) d17_13 (by decide) ?_
      refine ef_zret (pc := 14) d17_14 rfl (by omega) ?_
      exact ⟨rfl, rfl⟩
    · rw [if_pos (by omega)]
      refine ef_iconst (pc := 9) d17_9 (by decide) ?_
      refine ef_goto (pc := 10) d17_10 (t := 14) rfl ?_
      refine ef_zret (pc := 14) d17_14 rfl (by omega) ?_
      exact ⟨rfl, rfl⟩
theorem c20 {P : Pg} {d : Nat} {u : Mm} {k : Int} : Ec P d 20 [vI k] u (fun x u' => u' = u ∧ x = .inl (some (vI (if 0 ≤ k ∧ k < 6 then 1 else 0)))) := by
  change Ef P _ 20 0 [some (vI k)] [] _ _
  refine ef_iload_n (pc := 0) d20_0 rfl ?_
  refine ef_if_lt (pc := 1) d20_1 (t := 14) rfl (fun h1 => ?_) (fun h1 => ?_)
  · rw [if_neg (by omega)]
    refine ef_iconst (pc := 14) d20_14 (by decide) ?_
    refine ef_zret (pc := 15) d20_15 rfl (by omega) ?_
    exact ⟨rfl, rfl⟩
  · refine ef_iload_n (pc := 4) d20_4 rfl ?_
    refine ef_bipush (pc := 5) d20_5 (by decide) ?_
    refine ef_icmp_ge (pc := 7) d20_7 (t := 14) rfl (fun h7 => ?_) (fun h7 => ?_)
    · rw [if_neg (by omega)]
      refine ef_iconst (pc := 14) d20_14 (by decide) ?_
      refine ef_zret (pc := 15) d20_15 rfl (by omega) ?_
      exact ⟨rfl, rfl⟩
    · rw [if_pos (by omega)]
      refine ef_iconst (pc := 10) d20_10 (by decide) ?_
      refine ef_goto (pc := 11) d20_11 (t := 15) rfl ?_
      refine ef_zret (pc := 15) d20_15 rfl (by omega) ?_
      exact ⟨rfl, rfl⟩
theorem c15 {P : Pg} {d : Nat} {u : Mm} {g : Nat → Nat → Int} {h s t r q : Nat} {T : List Int} {i : Int} (hB : BxA u h s t r q) (hT : Ln g (s + 19) T) (hl : T.length ≤ 240) (hi : inR i) : Ec P d 15 [vR h, vI i] (sI u g) (fun x u' => (i < 0 ∧ u' = sI (mHole u 6) g ∧ x = .inr (3, mT u)) ∨ (0 ≤ i ∧ u' = sI u g ∧ x = .inl (some (vI (match T[i.toNat]? with | some c => c | none => -1))))) := by
  obtain ⟨a0, a1, a2, a3, a4, a5, a6, a7, a8, a9, a10, a11, a12, a13, a14, a15, a16, a17, a18, a19, a20, a21⟩ := id hB
  obtain ⟨q0, q1, q2, q3, q4, hP, hG, hM, hL⟩ := id a15
  obtain ⟨l0, l1, l2⟩ := id hL
  have w1 := hT.1
  change Ef P _ 15 0 [some (vR h), some (vI i)] [] _ _
  refine ef_iload_n (pc := 0) d15_0 rfl ?_
  refine ef_if_ge (pc := 1) d15_1 (t := 12) rfl (fun h1 => ?_) (fun h1 => ?_)
  · obtain ⟨n, rfl⟩ : ∃ n : Nat, i = (n : Int) := ⟨i.toNat, by omega⟩
    rw [Int.toNat_natCast]
    refine ef_iload_n (pc := 12) d15_12 rfl ?_
    refine ef_aload_n (pc := 13) d15_13 rfl ?_
    refine eg_getR (pc := 14) d15_14 lf_0_30 (by assumption) (by decide) (by assumption) ?_
    refine eg_getR (pc := 17) d15_17 lf_0_154 (by assumption) (by decide) (by assumption) ?_
    refine eg_getI (pc := 20) d15_20 lf_0_158 (by assumption) (by decide) ?_
    rw [w1]
    refine ef_icmp_ge (pc := 23) d15_23 (t := 41) rfl (fun h23 => ?_) (fun h23 => ?_)
    · rw [List.getElem?_eq_none (by omega)]
      refine ef_iconst (pc := 41) d15_41 (by decide) ?_
      refine ef_iret (pc := 42) d15_42 rfl ?_
      exact Or.inr ⟨by omega, rfl, rfl⟩
    · have hlt : n < T.length := by omega
      obtain ⟨c, hc, -⟩ := get_of_lt hlt
      have hv := hT.2 n c hc
      rw [hc]
      refine ef_aload_n (pc := 26) d15_26 rfl ?_
      refine eg_getR (pc := 27) d15_27 lf_0_30 (by assumption) (by decide) (by assumption) ?_
      refine eg_getR (pc := 30) d15_30 lf_0_154 (by assumption) (by decide) (by assumption) ?_
      refine eg_getR (pc := 33) d15_33 lf_0_161 (by assumption) (by decide) (by assumption) ?_
      refine ef_iload_n (pc := 36) d15_36 rfl ?_
      refine eg_cald (pc := 37) d15_37 (i := n) (by assumption) (rfl) (by omega) ?_
      rw [hv]
      refine ef_goto (pc := 38) d15_38 (t := 42) rfl ?_
      refine ef_iret (pc := 42) d15_42 rfl ?_
      exact Or.inr ⟨by omega, rfl, rfl⟩
  · refine Ef.thr (pc := 4) (x := 3) (m := 6) d15_4 (show tLc 0 115 = none by decide +kernel) (show tLx 0 115 = some (3, 6) by decide +kernel) rfl (by decide +kernel) (by decide) ?_
    exact Or.inl ⟨by omega, rfl, rfl⟩
theorem c19 {P : Pg} {d : Nat} {u : Mm} {g : Nat → Nat → Int} {h s t r q : Nat} {A : SS} {a b : Int} (hB : BxA u h s t r q) (hS : SR g s A) : Ec P (d + 2) 19 [vR h, vI a, vI b] (sI u g) (fun x u' => (¬ ((0 ≤ a ∧ a < 6) ∧ (0 ≤ b ∧ b < 6)) ∧ u' = sI (mHole u 6) g ∧ x = .inr (0, mT u)) ∨ (((0 ≤ a ∧ a < 6) ∧ (0 ≤ b ∧ b < 6)) ∧ u' = sI u g ∧ x = .inl (some (vI (if shp A.1 a b = true then 1 else 0))))) := by
  obtain ⟨a0, a1, a2, a3, a4, a5, a6, a7, a8, a9, a10, a11, a12, a13, a14, a15, a16, a17, a18, a19, a20, a21⟩ := id hB
  obtain ⟨q0, q1, q2, q3, q4, hP, hG, hM, hL⟩ := id a15
  change Ef P _ 19 0 [some (vR h), some (vI a), some (vI b)] [] _ _
  refine ef_iload_n (pc := 0) d19_0 rfl ?_
  refine ef_callS (pc := 1) d19_1 lm_0_177 (as := [_]) rfl rfl rfl (Nat.le_of_ble_eq_true rfl) rfl (Nat.le_of_ble_eq_true rfl) ?_
  refine Ec.imp (c20) ?_
  rintro r1 u1 ⟨rfl, rfl⟩
  refine ef_if_eq (pc := 4) d19_4 (t := 14) rfl (fun h4 => ?_) (fun h4 => ?_)
  · have ha : ¬ (0 ≤ a ∧ a < 6) := by intro hh; rw [if_pos hh] at h4; exact absurd h4 (by decide)
    have hno : ¬ ((0 ≤ a ∧ a < 6) ∧ (0 ≤ b ∧ b < 6)) := fun hh => ha hh.1
    refine Ef.thr (pc := 14) (x := 0) (m := 6) d19_14 (show tLc 0 68 = none by decide +kernel) (show tLx 0 68 = some (0, 6) by decide +kernel) rfl (by decide +kernel) (by decide) ?_
    exact Or.inl ⟨hno, rfl, rfl⟩
  · have ha : 0 ≤ a ∧ a < 6 := by
      by_cases hh : 0 ≤ a ∧ a < 6
      · exact hh
      · rw [if_neg hh] at h4; exact absurd rfl h4
    refine ef_iload_n (pc := 7) d19_7 rfl ?_
    refine ef_callS (pc := 8) d19_8 lm_0_177 (as := [_]) rfl rfl rfl (Nat.le_of_ble_eq_true rfl) rfl (Nat.le_of_ble_eq_true rfl) ?_
    refine Ec.imp (c20) ?_
    rintro r8 u8 ⟨rfl, rfl⟩
    refine ef_if_ne (pc := 11) d19_11 (t := 22) rfl (fun h11 => ?_) (fun h11 => ?_)
    · have hb : 0 ≤ b ∧ b < 6 := by
        by_cases hh : 0 ≤ b ∧ b < 6
        · exact hh
        · rw [if_neg hh] at h11; exact absurd rfl h11
      refine ef_aload_n (pc := 22) d19_22 rfl ?_
      refine eg_getR (pc := 23) d19_23 lf_0_30 (by assumption) (by decide) (by assumption) ?_
      refine ef_iload_n (pc := 26) d19_26 rfl ?_
      refine ef_iload_n (pc := 27) d19_27 rfl ?_
      refine ef_callV (pc := 28) d19_28 lm_0_180 (as := [_, _]) rfl rfl (by assumption) rfl rfl (by decide) (Nat.le_of_ble_eq_true rfl) rfl (Nat.le_of_ble_eq_true rfl) ?_
      refine Ec.imp (c56 (gs := []) (ms := []) a15 hS.1 hS.2.2.2.2.2.1) ?_
      rintro r28 u28 ⟨rfl, rfl⟩
      refine ef_zret (pc := 31) d19_31 rfl (by split <;> omega) ?_
      exact Or.inr ⟨⟨ha, hb⟩, rfl, rfl⟩
    · have hno : ¬ ((0 ≤ a ∧ a < 6) ∧ (0 ≤ b ∧ b < 6)) := fun hh => by rw [if_pos hh.2] at h11; exact absurd h11 (by decide)
      refine Ef.thr (pc := 14) (x := 0) (m := 6) d19_14 (show tLc 0 68 = none by decide +kernel) (show tLx 0 68 = some (0, 6) by decide +kernel) rfl (by decide +kernel) (by decide) ?_
      exact Or.inl ⟨hno, rfl, rfl⟩
theorem c16 {P : Pg} {d : Nat} {u : Mm} {g : Nat → Nat → Int} {h s t r q : Nat} {T : List Int} {k : Int} (hB : BxA u h s t r q) (hT : Ln g (s + 19) T) (hl : T.length ≤ 240) : Ec P (d + 2) 16 [vR h, vI k] (sI u g) (fun x u' => (¬ (0 ≤ k ∧ k < 3) ∧ u' = sI (mHole u 6) g ∧ x = .inr (3, mT u)) ∨ (∃ n : Nat, k = (n : Int) ∧ n < 3 ∧ ∃ g', u' = sI u g' ∧ x = .inl (some (vI (T.length : Int))) ∧ Off (h + 704 + 2 * n) (h + 704 + 2 * n + 2) g g' ∧ Ln g' (h + 704 + 2 * n) T)) := by
  obtain ⟨a0, a1, a2, a3, a4, a5, a6, a7, a8, a9, a10, a11, a12, a13, a14, a15, a16, a17, a18, a19, a20, a21⟩ := id hB
  obtain ⟨q0, q1, q2, q3, q4, hP, hG, hM, hL⟩ := id a15
  obtain ⟨l0, l1, l2⟩ := id hL
  have w1 := hT.1
  change Ef P _ 16 0 [some (vR h), some (vI k)] [] _ _
  refine ef_iload_n (pc := 0) d16_0 rfl ?_
  refine ef_callS (pc := 1) d16_1 lm_0_164 (as := [_]) rfl rfl rfl (Nat.le_of_ble_eq_true rfl) rfl (Nat.le_of_ble_eq_true rfl) ?_
  refine Ec.imp (c17) ?_
  rintro r1 u1 ⟨rfl, rfl⟩
  refine ef_if_ne (pc := 4) d16_4 (t := 15) rfl (fun h4 => ?_) (fun h4 => ?_)
  · have hk : 0 ≤ k ∧ k < 3 := by
      by_cases hh : 0 ≤ k ∧ k < 3
      · exact hh
      · rw [if_neg hh] at h4; exact absurd rfl h4
    obtain ⟨n, rfl⟩ : ∃ n : Nat, k = (n : Int) := ⟨k.toNat, by omega⟩
    obtain ⟨z1, z2⟩ := a12 n (by omega)
    obtain ⟨m0, m1, m2⟩ := id z2
    refine ef_aload_n (pc := 15) d16_15 rfl ?_
    refine eg_getR (pc := 16) d16_16 lf_0_49 (by assumption) (by decide) (by assumption) ?_
    refine ef_iload_n (pc := 19) d16_19 rfl ?_
    refine eg_aald (pc := 20) d16_20 (i := n) (by assumption) (by decide) (rfl) (by omega) (by assumption) ?_
    refine ef_aload_n (pc := 21) d16_21 rfl ?_
    refine eg_getR (pc := 22) d16_22 lf_0_30 (by assumption) (by decide) (by assumption) ?_
    refine eg_getR (pc := 25) d16_25 lf_0_154 (by assumption) (by decide) (by assumption) ?_
    refine eg_getR (pc := 28) d16_28 lf_0_161 (by assumption) (by decide) (by assumption) ?_
    refine ef_aload_n (pc := 31) d16_31 rfl ?_
    refine eg_getR (pc := 32) d16_32 lf_0_30 (by assumption) (by decide) (by assumption) ?_
    refine eg_getR (pc := 35) d16_35 lf_0_154 (by assumption) (by decide) (by assumption) ?_
    refine eg_getI (pc := 38) d16_38 lf_0_158 (by assumption) (by decide) ?_
    try simp (disch := omega) only [u2_ne, u2_at, u2_ni, ur_ne, ur_eq]
    rw [w1]
    refine ef_callV (pc := 41) d16_41 lm_0_167 (as := [_, _]) rfl rfl (by assumption) rfl rfl (by decide) (Nat.le_of_ble_eq_true rfl) rfl (Nat.le_of_ble_eq_true rfl) ?_
    refine Ec.imp (c30 z2 l2 (by omega) (by omega) hT.2 (by omega) hl) ?_
    rintro r41 u41 ⟨g1, rfl, rfl, o1, t1⟩
    have w2 : g1 (s + 19) 1 = (T.length : Int) := by rw [o1 _ (by omega)]; exact w1
    refine ef_aload_n (pc := 44) d16_44 rfl ?_
    refine eg_getR (pc := 45) d16_45 lf_0_30 (by assumption) (by decide) (by assumption) ?_
    refine eg_getR (pc := 48) d16_48 lf_0_154 (by assumption) (by decide) (by assumption) ?_
    refine eg_getI (pc := 51) d16_51 lf_0_158 (by assumption) (by decide) ?_
    try simp (disch := omega) only [u2_ne, u2_at, u2_ni, ur_ne, ur_eq]
    rw [w2]
    refine ef_iret (pc := 54) d16_54 rfl ?_
    exact Or.inr ⟨n, rfl, by omega, g1, rfl, rfl, o1, t1⟩
  · have hno : ¬ (0 ≤ k ∧ k < 3) := by intro hh; rw [if_pos hh] at h4; exact absurd h4 (by decide)
    refine Ef.thr (pc := 7) (x := 3) (m := 6) d16_7 (show tLc 0 115 = none by decide +kernel) (show tLx 0 115 = some (3, 6) by decide +kernel) rfl (by decide +kernel) (by decide) ?_
    exact Or.inl ⟨hno, rfl, rfl⟩
theorem c18 {P : Pg} {d : Nat} {u : Mm} {g : Nat → Nat → Int} {h s t r q : Nat} {T : List Int} {K : Nat → List Int} {k : Int} (hB : BxA u h s t r q) (hT : Ln g (s + 19) T) (hl : T.length ≤ 240) (hK : CvK g h K) : Ec P (d + 2) 18 [vR h, vI k] (sI u g) (fun x u' => (¬ (0 ≤ k ∧ k < 3) ∧ u' = sI (mHole u 6) g ∧ x = .inr (3, mT u)) ∨ (∃ n : Nat, k = (n : Int) ∧ n < 3 ∧ (((K n).length = 0 ∧ u' = sI (mHole u 6) g ∧ x = .inr (4, mT u)) ∨ ((K n).length ≠ 0 ∧ u' = sI u g ∧ x = .inl (some (vI (if T = K n then 1 else 0))))))) := by
  obtain ⟨a0, a1, a2, a3, a4, a5, a6, a7, a8, a9, a10, a11, a12, a13, a14, a15, a16, a17, a18, a19, a20, a21⟩ := id hB
  obtain ⟨q0, q1, q2, q3, q4, hP, hG, hM, hL⟩ := id a15
  obtain ⟨l0, l1, l2⟩ := id hL
  change Ef P _ 18 0 [some (vR h), some (vI k)] [] _ _
  refine ef_iload_n (pc := 0) d18_0 rfl ?_
  refine ef_callS (pc := 1) d18_1 lm_0_164 (as := [_]) rfl rfl rfl (Nat.le_of_ble_eq_true rfl) rfl (Nat.le_of_ble_eq_true rfl) ?_
  refine Ec.imp (c17) ?_
  rintro r1 u1 ⟨rfl, rfl⟩
  refine ef_if_ne (pc := 4) d18_4 (t := 15) rfl (fun h4 => ?_) (fun h4 => ?_)
  · have hk : 0 ≤ k ∧ k < 3 := by
      by_cases hh : 0 ≤ k ∧ k < 3
      · exact hh
      · rw [if_neg hh] at h4; exact absurd rfl h4
    obtain ⟨n, rfl⟩ : ∃ n : Nat, k = (n : Int) := ⟨k.toNat, by omega⟩
    obtain ⟨z1, z2⟩ := a12 n (by omega)
    obtain ⟨m0, m1, m2⟩ := id z2
    obtain ⟨k1, k2⟩ := hK n (by omega)
    have w2 := k1.1
    refine ef_aload_n (pc := 15) d18_15 rfl ?_
    refine eg_getR (pc := 16) d18_16 lf_0_49 (by assumption) (by decide) (by assumption) ?_
    refine ef_iload_n (pc := 19) d18_19 rfl ?_
    refine eg_aald (pc := 20) d18_20 (i := n) (by assumption) (by decide) (rfl) (by omega) (by assumption) ?_
    refine eg_getI (pc := 21) d18_21 lf_0_158 (by assumption) (by decide) ?_
    try simp (disch := omega) only [u2_ne, u2_at, u2_ni, ur_ne, ur_eq]
    rw [w2]
    refine ef_if_ne (pc := 24) d18_24 (t := 35) rfl (fun h24 => ?_) (fun h24 => ?_)
    · refine ef_aload_n (pc := 35) d18_35 rfl ?_
      refine eg_getR (pc := 36) d18_36 lf_0_30 (by assumption) (by decide) (by assumption) ?_
      refine eg_getR (pc := 39) d18_39 lf_0_154 (by assumption) (by decide) (by assumption) ?_
      refine ef_aload_n (pc := 42) d18_42 rfl ?_
      refine eg_getR (pc := 43) d18_43 lf_0_49 (by assumption) (by decide) (by assumption) ?_
      refine ef_iload_n (pc := 46) d18_46 rfl ?_
      refine eg_aald (pc := 47) d18_47 (i := n) (by assumption) (by decide) (rfl) (by omega) (by assumption) ?_
      refine ef_callV (pc := 48) d18_48 lm_0_173 (as := [_]) rfl rfl (by assumption) rfl rfl (by decide) (Nat.le_of_ble_eq_true rfl) rfl (Nat.le_of_ble_eq_true rfl) ?_
      refine Ec.imp (c31 hL z2 hT k1 hl k2) ?_
      rintro r48 u48 ⟨rfl, rfl⟩
      refine ef_zret (pc := 51) d18_51 rfl (by split <;> omega) ?_
      exact Or.inr ⟨n, rfl, by omega, Or.inr ⟨by omega, rfl, rfl⟩⟩
    · refine Ef.thr (pc := 27) (x := 4) (m := 6) d18_27 (show tLc 0 170 = none by decide +kernel) (show tLx 0 170 = some (4, 6) by decide +kernel) rfl (by decide +kernel) (by decide) ?_
      exact Or.inr ⟨n, rfl, by omega, Or.inl ⟨by omega, rfl, rfl⟩⟩
  · have hno : ¬ (0 ≤ k ∧ k < 3) := by intro hh; rw [if_pos hh] at h4; exact absurd h4 (by decide)
    refine Ef.thr (pc := 7) (x := 3) (m := 6) d18_7 (show tLc 0 115 = none by decide +kernel) (show tLx 0 115 = some (3, 6) by decide +kernel) rfl (by decide +kernel) (by decide) ?_
    exact Or.inl ⟨hno, rfl, rfl⟩
