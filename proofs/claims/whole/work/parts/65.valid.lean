/-! Valid states: taking a redex keeps them. Pure, by hand. -/
theorem rea1_vd {kd nm rp : Nat → Int} {sz k : Nat} {e : Tg} {A : SS} (hV : Vd kd nm sz A) : Vd kd nm sz (rea1 rp k e A) := by
  unfold rea1
  split
  · exact hV
  · obtain ⟨v1, v2, v3, v4, v5, v6, v7, v8, v9, v10, v11, v12, v13, v14, v15, v16⟩ := hV
    have hs : (A.2.1.eraseIdx k).Sublist A.2.1 := List.eraseIdx_sublist _ _
    exact ⟨v1, v2, v3, Nat.le_trans hs.length_le v4, v5, v6, v7.sub hs, v8, v9, v10, fun x hx => v11 x (hs.subset hx), v12, v13, v14, v15, fun x hx => v16 x (hs.subset hx)⟩
theorem rea1_pm {rp : Nat → Int} {k : Nat} {e : Tg} {A : SS} : (rea1 rp k e A).1 = A.1 ∧ (rea1 rp k e A).2.2 = A.2.2 := by
  unfold rea1; split <;> exact ⟨rfl, rfl⟩
theorem setIn_pl {ps : List Tg} {w to : Int} {x : Tg} (h : x ∈ setIn ps w to) : ∃ y, y ∈ ps ∧ y.1 = x.1 ∧ x.2.2 = y.2.2 := by
  rcases setIn_mem h with h | ⟨y, hy, h1, h2⟩
  · exact ⟨x, h, rfl, rfl⟩
  · subst h2; exact ⟨y, hy, rfl, rfl⟩
/-- places moved, the numbers the same -/
theorem mov_vd {kd nm : Nat → Int} {sz : Nat} {A : SS} {q to : Int} (hV : Vd kd nm sz A) (hto : to = -1 ∨ ∃ p, p ∈ A.1 ∧ p.1 = to) (hF : Fo (setIn A.1 q to)) : Vd kd nm sz (setIn A.1 q to, A.2) := by
  obtain ⟨v1, v2, v3, v4, v5, v6, v7, v8, v9, v10, v11, v12, v13, v14, v15, v16⟩ := hV
  have hs : ∀ p, p ∈ A.1 → ∃ r, r ∈ setIn A.1 q to ∧ r.1 = p.1 := fun p hp => nums_mem (setIn_nums A.1) hp
  refine ⟨v1, v2, by rw [setIn_len]; exact v3, v4, v5, v6.nums (setIn_nums A.1), v7, v8, ?_, ?_, v11.more hs, v12.more hs, hF, ?_, v15, v16⟩
  · intro a ha b hb
    obtain ⟨y, hy, h1, -⟩ := setIn_pl ha
    rw [← h1]
    exact v9 y hy b hb
  · intro x hx
    rcases setIn_mem hx with hx | ⟨y, hy, h1, h2⟩
    · exact v10.more hs x hx
    · subst h2
      rcases hto with h | ⟨p, hp, h⟩
      · exact Or.inl h
      · obtain ⟨r, hr, h3⟩ := hs p hp
        exact Or.inr ⟨r, hr, h3.trans h⟩
  · intro x hx
    obtain ⟨y, hy, -, h2⟩ := setIn_pl hx
    rw [h2]
    exact v14 y hy
theorem rea2_vd {kd nm : Nat → Int} {sz : Nat} {A B : SS} {w : Rd} {e : Tg} (hB : Vd kd nm sz B) (hB1 : B.1 = A.1) (hB2 : B.2.2 = A.2.2) (hw : RxV kd A w e) (hpl : e.2.1 = -1 ∨ ∃ p, p ∈ A.1 ∧ p.1 = e.2.1) : Vd kd nm sz (rea2 kd e w.2.2 B) ∧ (e.2.1 = -1 ∨ ∃ p, p ∈ (rea2 kd e w.2.2 B).1 ∧ p.1 = e.2.1) := by
  obtain ⟨v1, v2, v3, v4, v5, v6, v7, v8, v9, v10, v11, v12, v13, v14, v15, v16⟩ := id hB
  obtain ⟨he, h1, hk⟩ := hw
  have hms : B.2.2.1 = A.2.2.1 := by rw [hB2]
  rw [← hB1] at hk hpl
  unfold rea2
  rcases hk with ⟨k0, -, q, o, hq, ho, h2, h3, h4, -, h5⟩ | ⟨k1, -, q, o, hq, ho, h2, h3, -, h5⟩ | ⟨k2, -, o, ho, h2, -, h5⟩ | ⟨k0, k1, k2, -, o, ho, h2, h5⟩
  · rw [if_pos k0, h5, ← h2]
    exact ⟨mov_vd hB (Or.inr ⟨o, ho, rfl⟩) (v13.enter v6 hq ho h3 h4), Or.inr (nums_mem (setIn_nums B.1) hq)⟩
  · rw [if_neg (by omega), if_pos k1, h5, ← h2]
    have hpn : plN B.1 o.1 = o.2.1 := by unfold plN; rw [v6.get ho]
    rw [hpn]
    obtain ⟨rk, hr⟩ := v13
    have r1 := hr q hq
    have r2 := hr o ho
    rw [← h3] at r1
    exact ⟨mov_vd hB (v10 o ho) (Fo.leave ⟨rk, hr, by omega⟩), Or.inr (nums_mem (setIn_nums B.1) hq)⟩
  · rw [if_neg (by omega), if_neg (by omega), if_pos k2, h5]
    obtain ⟨rk, hr⟩ := v13
    have r1 := hr o ho
    have hne : e.2.1 ≠ o.1 := by intro hh; rw [h2, hh] at r1; omega
    have hsb := delN_sub (w := o.1) B.1
    have hkeep : ∀ p, p ∈ B.1 → p.1 ≠ o.1 → ∃ r, r ∈ (delN B.1 o.1).map (mvF o.1 e.2.1) ∧ r.1 = p.1 := fun p hp hh => ⟨mvF o.1 e.2.1 p, List.mem_map.mpr ⟨p, delN_keep hp hh, rfl⟩, mvF_1.1⟩
    have hpl2 : e.2.1 = -1 ∨ ∃ p, p ∈ (delN B.1 o.1).map (mvF o.1 e.2.1) ∧ p.1 = e.2.1 := by
      rcases hpl with h | ⟨p, hp, h⟩
      · exact Or.inl h
      · obtain ⟨r, hr, h3⟩ := hkeep p hp (by rw [h]; exact hne)
        exact Or.inr ⟨r, hr, h3.trans h⟩
    have hin : ∀ L : List Tg, InV B.1 L → InV ((delN B.1 o.1).map (mvF o.1 e.2.1)) (L.map (mvF o.1 e.2.1)) := by
      intro L hL x hx
      obtain ⟨y, hy, rfl⟩ := List.mem_map.mp hx
      rw [mvF_in]
      by_cases hyo : y.2.1 = o.1
      · rw [if_pos hyo]; exact hpl2
      · rw [if_neg hyo]
        rcases hL y hy with h | ⟨p, hp, h⟩
        · exact Or.inl h
        · obtain ⟨r, hr, h3⟩ := hkeep p hp (by rw [h]; exact hyo)
          exact Or.inr ⟨r, hr, h3.trans h⟩
    refine ⟨⟨v1, v2, ?_, ?_, ?_, (v6.sub hsb).nums (mvF_nums _), v7.nums (mvF_nums _), v8.nums (mvF_nums _), ?_, ?_, hin _ v11, hin _ v12, ?_, ?_, ?_, ?_⟩, hpl2⟩
    · rw [List.length_map]; exact Nat.le_trans hsb.length_le v3
    · rw [List.length_map]; exact v4
    · rw [List.length_map]; exact v5
    · intro a ha b hb
      obtain ⟨a', ha', rfl⟩ := List.mem_map.mp ha
      obtain ⟨b', hb', rfl⟩ := List.mem_map.mp hb
      rw [mvF_1.1, mvF_1.1]
      exact v9 a' (hsb.subset ha') b' hb'
    · exact hin _ (fun x hx => v10 x (hsb.subset hx))
    · refine ⟨rk, fun x hx => ?_⟩
      obtain ⟨y, hy, rfl⟩ := List.mem_map.mp hx
      have r3 := hr y (hsb.subset hy)
      rw [mvF_1.1, mvF_in]
      by_cases hyo : y.2.1 = o.1
      · rw [if_pos hyo]; rw [hyo] at r3; rw [h2] at r1; omega
      · rw [if_neg hyo]; exact r3
    · intro x hx
      obtain ⟨y, hy, rfl⟩ := List.mem_map.mp hx
      rw [mvF_1.2]
      exact v14 y (hsb.subset hy)
    · intro x hx
      obtain ⟨y, hy, rfl⟩ := List.mem_map.mp hx
      rw [mvF_1.2]
      exact v15 y hy
    · intro x hx
      obtain ⟨y, hy, rfl⟩ := List.mem_map.mp hx
      unfold GdV
      rw [mvF_1.2]
      exact v16 y hy
  · rw [if_neg k0, if_neg k1, if_neg k2]
    have hsb := delN_sub (w := w.2.2) B.2.2.1
    exact ⟨⟨v1, v2, v3, v4, Nat.le_trans hsb.length_le v5, v6, v7, v8.sub hsb, fun a ha b hb => v9 a ha b (hsb.subset hb), v10, v11, fun x hx => v12 x (hsb.subset hx), v13, v14, fun x hx => v15 x (hsb.subset hx), v16⟩, hpl⟩
theorem fol_get {kd nm rp en : Nat → Int} {A : SS} {w : Rd} {e : Tg} {nx : Int} (hi : Inc A.2.1 nx) (hw : RxV kd A w e) : getN A.2.1 w.2.1 = some e ∧ folF kd nm rp en w A = reaF kd nm rp en (ixF A.2.1 w.2.1 0).toNat e w.2.2 A := by
  have h : getN A.2.1 w.2.1 = some e := by rw [hw.2.1]; exact hi.get hw.1
  exact ⟨h, by unfold folF; rw [h]⟩
theorem reaM_ok {kd nm en : Nat → Int} {sz : Nat} {ht : Nat → Nat} {A B : SS} {w : Rd} {e : Tg} (hT : TmOk kd nm en sz ht) (hV : Vd kd nm sz A) (hB2 : B.2.2 = A.2.2) (hw : RxV kd A w e) : MnOk (reaM kd nm e w.2.2 B) := by
  obtain ⟨n, hn1, hn2, hk0, hk3, hnm, hmn⟩ := hV.2.2.2.2.2.2.2.2.2.2.2.2.2.2.2 e hw.1
  unfold reaM
  split
  · exact hmn
  · rename_i hne
    obtain ⟨-, -, hk⟩ := hw
    rw [hn1, Int.toNat_natCast] at hne hk ⊢
    rcases hk with ⟨h, -⟩ | ⟨h, -⟩ | ⟨h, -⟩ | ⟨k0, k1, k2, -, o, ho, h2, h5⟩
    · exact absurd (Or.inl h) hne
    · exact absurd (Or.inr (Or.inl h)) hne
    · exact absurd (Or.inr (Or.inr h)) hne
    · have hv8 := hV.2.2.2.2.2.2.2.1
      have hna : naN B.2.2.1 w.2.2 = o.2.2.1 := by
        rw [show B.2.2.1 = A.2.2.1 by rw [hB2], h5]
        unfold naN
        rw [hv8.get ho]
      rw [hna]
      exact bd_ok hmn ((hT.2.2 n hn2).2.2.2.2.2 (by omega)) (hV.2.2.2.2.2.2.2.2.2.2.2.2.2.2.1 o ho)
theorem fol_vd {kd nm rp en : Nat → Int} {sz : Nat} {ht : Nat → Nat} {A : SS} {w : Rd} {e : Tg} (hT : TmOk kd nm en sz ht) (hV : Vd kd nm sz A) (hw : RxV kd A w e) (hf : (folF kd nm rp en w A).2.2.2.2 = false) : Vd kd nm sz (folF kd nm rp en w A) := by
  have v7 := hV.2.2.2.2.2.2.1
  have v11 := hV.2.2.2.2.2.2.2.2.2.2.1
  obtain ⟨n, hn1, hn2, -⟩ := hV.2.2.2.2.2.2.2.2.2.2.2.2.2.2.2 e hw.1
  rw [(fol_get v7 hw).2] at hf ⊢
  unfold reaF at hf ⊢
  have h1 := rea1_vd (rp := rp) (k := (ixF A.2.1 w.2.1 0).toNat) (e := e) hV
  have h2 := rea1_pm (rp := rp) (k := (ixF A.2.1 w.2.1 0).toNat) (e := e) (A := A)
  obtain ⟨h3, h4⟩ := rea2_vd h1 h2.1 h2.2 hw (v11 e hw.1)
  have hmo := reaM_ok (nm := nm) hT hV h2.2 hw
  rw [hn1, Int.toNat_natCast] at hf ⊢
  exact (run_vd hT _ _ _ _ _ _ _ (hT.1.2 n (Nat.zero_le _) hn2).2.1 h3 h4 hmo hf).1
