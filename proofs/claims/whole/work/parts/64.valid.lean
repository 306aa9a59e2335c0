/-! Valid states: running and taking redexes keep them. Pure, by hand. -/
def TmOk (kd nm en : Nat → Int) (sz : Nat) (ht : Nat → Nat) : Prop := TV en sz ∧ Hts ht (afF en) sz ∧ ∀ n, n < sz → ht n ≤ 7 ∧ (kd n = 4 → 1 ≤ ht n) ∧ 0 ≤ kd n ∧ kd n ≤ 5 ∧ ((97 ≤ nm n ∧ nm n ≤ 102) ∨ (120 ≤ nm n ∧ nm n ≤ 122)) ∧ (kd n = 3 → 120 ≤ nm n ∧ nm n ≤ 122)
def GdV (kd nm : Nat → Int) (sz : Nat) (e : Tg) : Prop := ∃ n : Nat, e.2.2.2.1 = (n : Int) ∧ n < sz ∧ 0 ≤ kd n ∧ kd n ≤ 3 ∧ e.2.2.1 = mtF (nm n) e.2.2.2.2 ∧ MnOk e.2.2.2.2
def Vd (kd nm : Nat → Int) (sz : Nat) (A : SS) : Prop := A.2.2.2.2 = false ∧ 0 ≤ A.2.2.2.1 ∧ A.1.length ≤ 20 ∧ A.2.1.length ≤ 40 ∧ A.2.2.1.length ≤ 30 ∧ Inc A.1 A.2.2.2.1 ∧ Inc A.2.1 A.2.2.2.1 ∧ Inc A.2.2.1 A.2.2.2.1 ∧ (∀ a, a ∈ A.1 → ∀ b, b ∈ A.2.2.1 → a.1 ≠ b.1) ∧ InV A.1 A.1 ∧ InV A.1 A.2.1 ∧ InV A.1 A.2.2.1 ∧ Fo A.1 ∧ (∀ e, e ∈ A.1 → -1 ≤ e.2.2.1 ∧ e.2.2.1 ≤ 5) ∧ (∀ e, e ∈ A.2.2.1 → -1 ≤ e.2.2.1 ∧ e.2.2.1 ≤ 5) ∧ ∀ e, e ∈ A.2.1 → GdV kd nm sz e
theorem Vd.nil {kd nm : Nat → Int} {sz : Nat} : Vd kd nm sz ([], ([], ([], (0, false)))) :=
  ⟨rfl, by decide, Nat.zero_le _, Nat.zero_le _, Nat.zero_le _, Inc.nil, Inc.nil, Inc.nil, fun _ h => absurd h (List.not_mem_nil), fun _ h => absurd h (List.not_mem_nil), fun _ h => absurd h (List.not_mem_nil), fun _ h => absurd h (List.not_mem_nil), Fo.nil, fun _ h => absurd h (List.not_mem_nil), fun _ h => absurd h (List.not_mem_nil), fun _ h => absurd h (List.not_mem_nil)⟩
theorem InV.more {ps ps' L : List Tg} (h : InV ps L) (hs : ∀ p, p ∈ ps → ∃ q, q ∈ ps' ∧ q.1 = p.1) : InV ps' L := fun e he => by
  rcases h e he with h1 | ⟨p, hp, h1⟩
  · exact Or.inl h1
  · obtain ⟨q, hq, h2⟩ := hs p hp
    exact Or.inr ⟨q, hq, h2.trans h1⟩
theorem InV.snoc {ps L : List Tg} {e : Tg} (h : InV ps L) (he : e.2.1 = -1 ∨ ∃ p, p ∈ ps ∧ p.1 = e.2.1) : InV ps (L ++ [e]) := fun x hx => by
  rcases List.mem_append.mp hx with hx | hx
  · exact h x hx
  · rw [List.mem_singleton.mp hx]; exact he
theorem mem_snoc {L : List Tg} {e x : Tg} {Q : Tg → Prop} (h : ∀ x, x ∈ L → Q x) (he : Q e) (hx : x ∈ L ++ [e]) : Q x := by
  rcases List.mem_append.mp hx with hx | hx
  · exact h x hx
  · rw [List.mem_singleton.mp hx]; exact he
theorem add_vd {kd nm en : Nat → Int} {sz n : Nat} {ht : Nat → Nat} {pl mn : Int} {A : SS} (hT : TmOk kd nm en sz ht) (hV : Vd kd nm sz A) (hn : n < sz) (hp : pl = -1 ∨ ∃ p, p ∈ A.1 ∧ p.1 = pl) (hm : MnOk mn) (hf : (addS (kd n) (A.2.2.2.1, (pl, (mtF (nm n) mn, ((n : Int), mn)))) A).2.2.2.2 = false) :
    Vd kd nm sz (addS (kd n) (A.2.2.2.1, (pl, (mtF (nm n) mn, ((n : Int), mn)))) A) ∧ (∀ p, p ∈ A.1 → p ∈ (addS (kd n) (A.2.2.2.1, (pl, (mtF (nm n) mn, ((n : Int), mn)))) A).1) ∧ (kd n = 4 → ∃ p, p ∈ (addS (kd n) (A.2.2.2.1, (pl, (mtF (nm n) mn, ((n : Int), mn)))) A).1 ∧ p.1 = A.2.2.2.1) := by
  obtain ⟨v1, v2, v3, v4, v5, v6, v7, v8, v9, v10, v11, v12, v13, v14, v15, v16⟩ := hV
  obtain ⟨-, -, t3, t4, t5, -⟩ := hT.2.2 n hn
  have hnm := mt_rg hm t5
  have hpx : pl ≠ A.2.2.2.1 := by
    rcases hp with hp | ⟨p, hp, h1⟩
    · omega
    · have := v6.2 p hp; omega
  unfold addS at hf ⊢
  by_cases h4 : kd n = 4
  · rw [if_pos h4] at hf ⊢
    by_cases hl : A.1.length < 20
    · rw [if_pos hl] at hf ⊢
      have hs : ∀ p, p ∈ A.1 → ∃ q, q ∈ A.1 ++ [(A.2.2.2.1, (pl, (mtF (nm n) mn, ((n : Int), mn))))] ∧ q.1 = p.1 := fun p hp => ⟨p, List.mem_append_left _ hp, rfl⟩
      refine ⟨⟨rfl, by show 0 ≤ A.2.2.2.1 + 1; omega, by rw [List.length_append]; show A.1.length + 1 ≤ 20; omega, v4, v5, v6.snoc rfl v2, v7.mono (by show A.2.2.2.1 ≤ A.2.2.2.1 + 1; omega), v8.mono (by show A.2.2.2.1 ≤ A.2.2.2.1 + 1; omega), ?_, (v10.snoc hp).more hs, v11.more hs, v12.more hs, v13.snoc v6 v10 v2 rfl hpx, fun e he => mem_snoc (Q := fun e => -1 ≤ e.2.2.1 ∧ e.2.2.1 ≤ 5) v14 hnm he, v15, v16⟩, fun p hp => List.mem_append_left _ hp, fun _ => ⟨_, List.mem_append_right _ List.mem_cons_self, rfl⟩⟩
      intro a ha b hb
      rcases List.mem_append.mp ha with ha | ha
      · exact v9 a ha b hb
      · rw [List.mem_singleton.mp ha]
        have := v8.2 b hb
        show A.2.2.2.1 ≠ b.1
        omega
    · rw [if_neg hl] at hf; cases hf
  · rw [if_neg h4] at hf ⊢
    by_cases h5 : kd n = 5
    · rw [if_pos h5] at hf ⊢
      by_cases hl : A.2.2.1.length < 30
      · rw [if_pos hl] at hf ⊢
        refine ⟨⟨rfl, by show 0 ≤ A.2.2.2.1 + 1; omega, v3, v4, by rw [List.length_append]; show A.2.2.1.length + 1 ≤ 30; omega, v6.mono (by show A.2.2.2.1 ≤ A.2.2.2.1 + 1; omega), v7.mono (by show A.2.2.2.1 ≤ A.2.2.2.1 + 1; omega), v8.snoc rfl v2, ?_, v10, v11, v12.snoc hp, v13, v14, fun e he => mem_snoc (Q := fun e => -1 ≤ e.2.2.1 ∧ e.2.2.1 ≤ 5) v15 hnm he, v16⟩, fun p hp => hp, fun hh => absurd hh h4⟩
        intro a ha b hb
        rcases List.mem_append.mp hb with hb | hb
        · exact v9 a ha b hb
        · rw [List.mem_singleton.mp hb]
          have := v6.2 a ha
          show a.1 ≠ A.2.2.2.1
          omega
      · rw [if_neg hl] at hf; cases hf
    · rw [if_neg h5] at hf ⊢
      by_cases hl : A.2.1.length < 40
      · rw [if_pos hl] at hf ⊢
        refine ⟨⟨rfl, by show 0 ≤ A.2.2.2.1 + 1; omega, v3, by rw [List.length_append]; show A.2.1.length + 1 ≤ 40; omega, v5, v6.mono (by show A.2.2.2.1 ≤ A.2.2.2.1 + 1; omega), v7.snoc rfl v2, v8.mono (by show A.2.2.2.1 ≤ A.2.2.2.1 + 1; omega), v9, v10, v11.snoc hp, v12, v13, v14, v15, fun e he => mem_snoc (Q := GdV kd nm sz) v16 ⟨n, rfl, hn, t3, by omega, rfl, hm⟩ he⟩, fun p hp => hp, fun hh => absurd hh h4⟩
      · rw [if_neg hl] at hf; cases hf
theorem run_flag {kd nm : Nat → Int} {af : Nat → Nat} {f n to : Nat} {pl mn : Int} {dp : Nat} {A : SS} (h : A.2.2.2.2 = true) : runF kd nm af f n to pl mn dp A = A := by
  cases f with
  | zero => rfl
  | succ f => rw [runF, if_pos (Or.inr h)]
theorem run_vd {kd nm en : Nat → Int} {sz : Nat} {ht : Nat → Nat} (hT : TmOk kd nm en sz ht) : ∀ (f n to : Nat) (pl mn : Int) (dp : Nat) (A : SS), to ≤ sz → Vd kd nm sz A → (pl = -1 ∨ ∃ p, p ∈ A.1 ∧ p.1 = pl) → MnOk mn → (runF kd nm (afF en) f n to pl mn dp A).2.2.2.2 = false → Vd kd nm sz (runF kd nm (afF en) f n to pl mn dp A) ∧ ∀ p, p ∈ A.1 → p ∈ (runF kd nm (afF en) f n to pl mn dp A).1 := by
  intro f
  induction f with
  | zero => intro n to pl mn dp A _ hV _ _ _; exact ⟨hV, fun p hp => hp⟩
  | succ f ih =>
    intro n to pl mn dp A hto hV hp hm hf
    rw [runF] at hf ⊢
    by_cases h0 : to ≤ n ∨ A.2.2.2.2 = true
    · rw [if_pos h0]; exact ⟨hV, fun p hp => hp⟩
    · rw [if_neg h0] at hf ⊢
      have hn : n < to := by
        rcases Nat.lt_or_ge n to with h | h
        · exact h
        · exact absurd (Or.inl h) h0
      have hX := add_vd (n := n) (pl := pl) (mn := mn) hT hV (by omega) hp hm
      generalize addS (kd n) (A.2.2.2.1, (pl, (mtF (nm n) mn, ((n : Int), mn)))) A = X at hX hf ⊢
      -- the part that is now in
      have key : ∀ B, (runF kd nm (afF en) f (afF en n) to pl mn dp B).2.2.2.2 = false → B.2.2.2.2 = false := by
        intro B hB
        cases hq : B.2.2.2.2
        · rfl
        · rw [run_flag hq, hq] at hB; cases hB
      by_cases hc : kd n = 4 ∧ X.2.2.2.2 = false
      · rw [if_pos hc] at hf ⊢
        obtain ⟨x1, x2, x3⟩ := hX hc.2
        by_cases h8 : 8 ≤ dp
        · rw [if_pos h8] at hf
          have := key _ hf
          cases this
        · rw [if_neg h8] at hf ⊢
          have hB := key _ hf
          have haf := (hT.1.2 n (Nat.zero_le _) (by omega)).2.1
          obtain ⟨y1, y2⟩ := ih (n + 1) (afF en n) A.2.2.2.1 mn (dp + 1) X haf x1 (Or.inr (x3 hc.1)) hm hB
          obtain ⟨z1, z2⟩ := ih (afF en n) to pl mn dp _ hto y1 (by
            rcases hp with hp | ⟨p, hp, h1⟩
            · exact Or.inl hp
            · exact Or.inr ⟨p, y2 p (x2 p hp), h1⟩) hm hf
          exact ⟨z1, fun p hp => z2 p (y2 p (x2 p hp))⟩
      · rw [if_neg hc] at hf ⊢
        have hB := key _ hf
        obtain ⟨x1, x2, x3⟩ := hX hB
        obtain ⟨z1, z2⟩ := ih (afF en n) to pl mn dp X hto x1 (by
          rcases hp with hp | ⟨p, hp, h1⟩
          · exact Or.inl hp
          · exact Or.inr ⟨p, x2 p hp, h1⟩) hm hf
        exact ⟨z1, fun p hp => z2 p (x2 p hp)⟩
theorem beg_vd {kd nm en : Nat → Int} {sz : Nat} {ht : Nat → Nat} (hT : TmOk kd nm en sz ht) (hf : (begF kd nm en sz).2.2.2.2 = false) : Vd kd nm sz (begF kd nm en sz) := (run_vd hT 50 0 sz (-1) 0 1 _ (Nat.le_refl _) Vd.nil (Or.inl rfl) MnOk.zero hf).1
/-- what a redex is -/
def RxV (kd : Nat → Int) (A : SS) (w : Rd) (e : Tg) : Prop := e ∈ A.2.1 ∧ w.2.1 = e.1 ∧
  ((kd e.2.2.2.1.toNat = 0 ∧ w.1 = 0 ∧ ∃ q o, q ∈ A.1 ∧ o ∈ A.1 ∧ q.1 = e.2.1 ∧ o.1 ≠ q.1 ∧ o.2.1 = q.2.1 ∧ o.2.2.1 = e.2.2.1 ∧ w.2.2 = o.1) ∨
   (kd e.2.2.2.1.toNat = 1 ∧ w.1 = 1 ∧ ∃ q o, q ∈ A.1 ∧ o ∈ A.1 ∧ q.1 = e.2.1 ∧ o.1 = q.2.1 ∧ o.2.2.1 = e.2.2.1 ∧ w.2.2 = o.1) ∨
   (kd e.2.2.2.1.toNat = 2 ∧ w.1 = 2 ∧ ∃ o, o ∈ A.1 ∧ o.2.1 = e.2.1 ∧ o.2.2.1 = e.2.2.1 ∧ w.2.2 = o.1) ∨
   (kd e.2.2.2.1.toNat ≠ 0 ∧ kd e.2.2.2.1.toNat ≠ 1 ∧ kd e.2.2.2.1.toNat ≠ 2 ∧ w.1 = 3 ∧ ∃ o, o ∈ A.2.2.1 ∧ o.2.1 = e.2.1 ∧ w.2.2 = o.1))
theorem rx_mem {kd : Nat → Int} {A : SS} {w : Rd} {nx : Int} (hi : Inc A.1 nx) : w ∈ rxs kd A.1 A.2.1 A.2.2.1 ↔ ∃ e, RxV kd A w e := by
  unfold rxs
  rw [List.mem_flatMap]
  have one : ∀ e, w ∈ rxG kd A.1 A.2.2.1 e ↔ (w.2.1 = e.1 ∧
  ((kd e.2.2.2.1.toNat = 0 ∧ w.1 = 0 ∧ ∃ q o, q ∈ A.1 ∧ o ∈ A.1 ∧ q.1 = e.2.1 ∧ o.1 ≠ q.1 ∧ o.2.1 = q.2.1 ∧ o.2.2.1 = e.2.2.1 ∧ w.2.2 = o.1) ∨
   (kd e.2.2.2.1.toNat = 1 ∧ w.1 = 1 ∧ ∃ q o, q ∈ A.1 ∧ o ∈ A.1 ∧ q.1 = e.2.1 ∧ o.1 = q.2.1 ∧ o.2.2.1 = e.2.2.1 ∧ w.2.2 = o.1) ∨
   (kd e.2.2.2.1.toNat = 2 ∧ w.1 = 2 ∧ ∃ o, o ∈ A.1 ∧ o.2.1 = e.2.1 ∧ o.2.2.1 = e.2.2.1 ∧ w.2.2 = o.1) ∨
   (kd e.2.2.2.1.toNat ≠ 0 ∧ kd e.2.2.2.1.toNat ≠ 1 ∧ kd e.2.2.2.1.toNat ≠ 2 ∧ w.1 = 3 ∧ ∃ o, o ∈ A.2.2.1 ∧ o.2.1 = e.2.1 ∧ w.2.2 = o.1))) := by
    intro e
    obtain ⟨w1, w2, w3⟩ := w
    unfold rxG
    by_cases k0 : kd e.2.2.2.1.toNat = 0
    · rw [if_pos k0]
      unfold bes
      constructor
      · intro h
        split at h
        · cases h
        · rename_i f hf
          obtain ⟨p, hp, h1⟩ := List.mem_map.mp h
          obtain ⟨hp, h2⟩ := List.mem_filter.mp hp
          simp only [besE, Bool.and_eq_true, decide_eq_true_eq] at h2
          cases h1
          exact ⟨rfl, Or.inl ⟨k0, rfl, f, p, (getN_mem hf).1, hp, (getN_mem hf).2, h2.1, h2.2.1, h2.2.2, rfl⟩⟩
      · rintro ⟨h1, h⟩
        rcases h with ⟨-, h2, q, o, hq, ho, h3, h4, h5, h6, h7⟩ | ⟨h, -⟩ | ⟨h, -⟩ | ⟨h, -⟩
        · have hg := hi.get hq
          rw [h3] at hg
          rw [hg]
          refine List.mem_map.mpr ⟨o, List.mem_filter.mpr ⟨ho, ?_⟩, ?_⟩
          · simp only [besE, Bool.and_eq_true, decide_eq_true_eq]; exact ⟨h4, h5, h6⟩
          · simp only at h1 h2 h7; rw [h1, h2, h7]
        · omega
        · omega
        · exact absurd k0 h
    · rw [if_neg k0]
      by_cases k1 : kd e.2.2.2.1.toNat = 1
      · rw [if_pos k1]
        unfold arn
        constructor
        · intro h
          split at h
          · cases h
          · rename_i f hf
            split at h
            · cases h
            · rename_i q hq
              split at h
              · rename_i hn
                cases List.mem_singleton.mp h
                exact ⟨rfl, Or.inr (Or.inl ⟨k1, rfl, f, q, (getN_mem hf).1, (getN_mem hq).1, (getN_mem hf).2, (getN_mem hq).2, hn, rfl⟩)⟩
              · cases h
        · rintro ⟨h1, h⟩
          rcases h with ⟨h, -⟩ | ⟨-, h2, q, o, hq, ho, h3, h4, h5, h6⟩ | ⟨h, -⟩ | ⟨-, h, -⟩
          · omega
          · have hg := hi.get hq
            rw [h3] at hg
            have hg2 := hi.get ho
            rw [h4] at hg2
            rw [hg]
            simp only
            rw [hg2]
            simp only
            rw [if_pos h5]
            simp only at h1 h2 h6
            rw [h1, h2, h6]
            exact List.mem_cons_self
          · omega
          · exact absurd k1 h
      · rw [if_neg k1]
        by_cases k2 : kd e.2.2.2.1.toNat = 2
        · rw [if_pos k2]
          unfold ins
          constructor
          · intro h
            obtain ⟨p, hp, h1⟩ := List.mem_map.mp h
            obtain ⟨hp, h2⟩ := List.mem_filter.mp hp
            simp only [insE, Bool.and_eq_true, decide_eq_true_eq] at h2
            cases h1
            exact ⟨rfl, Or.inr (Or.inr (Or.inl ⟨k2, rfl, p, hp, h2.1, h2.2, rfl⟩))⟩
          · rintro ⟨h1, h⟩
            rcases h with ⟨h, -⟩ | ⟨h, -⟩ | ⟨-, h2, o, ho, h3, h4, h5⟩ | ⟨-, -, h, -⟩
            · omega
            · omega
            · refine List.mem_map.mpr ⟨o, List.mem_filter.mpr ⟨ho, ?_⟩, ?_⟩
              · simp only [insE, Bool.and_eq_true, decide_eq_true_eq]; exact ⟨h3, h4⟩
              · simp only at h1 h2 h5; rw [h1, h2, h5]
            · exact absurd k2 h
        · rw [if_neg k2]
          unfold msg
          constructor
          · intro h
            obtain ⟨p, hp, h1⟩ := List.mem_map.mp h
            obtain ⟨hp, h2⟩ := List.mem_filter.mp hp
            simp only [msgE, decide_eq_true_eq] at h2
            cases h1
            exact ⟨rfl, Or.inr (Or.inr (Or.inr ⟨k0, k1, k2, rfl, p, hp, h2, rfl⟩))⟩
          · rintro ⟨h1, h⟩
            rcases h with ⟨h, -⟩ | ⟨h, -⟩ | ⟨h, -⟩ | ⟨-, -, -, h2, o, ho, h3, h5⟩
            · omega
            · omega
            · omega
            · refine List.mem_map.mpr ⟨o, List.mem_filter.mpr ⟨ho, ?_⟩, ?_⟩
              · simp only [msgE, decide_eq_true_eq]; exact h3
              · simp only at h1 h2 h5; rw [h1, h2, h5]
  constructor
  · rintro ⟨e, he, h⟩
    exact ⟨e, he, (one e).mp h⟩
  · rintro ⟨e, he, h⟩
    exact ⟨e, he, (one e).mpr h⟩
