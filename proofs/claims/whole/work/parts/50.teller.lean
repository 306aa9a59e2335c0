/-! The teller: addPiece, names, heads. Written by wip/whole/gen/c50.py. -/
theorem get_ins {α : Type} {I : List α} {h k : Nat} {x y : α} (hh : h ≤ I.length) (hk : (I.take h ++ x :: I.drop h)[k]? = some y) : (k < h ∧ I[k]? = some y) ∨ (k = h ∧ y = x) ∨ (h < k ∧ I[k - 1]? = some y) := by
  have hl : (I.take h).length = h := by rw [List.length_take]; omega
  rcases Nat.lt_trichotomy k h with hq | hq | hq
  · rw [List.getElem?_append_left (by omega), List.getElem?_take_of_lt hq] at hk
    exact Or.inl ⟨hq, hk⟩
  · subst hq
    rw [List.getElem?_append_right (by omega), hl, Nat.sub_self] at hk
    cases hk
    exact Or.inr (Or.inl ⟨rfl, rfl⟩)
  · rw [List.getElem?_append_right (by omega), hl, show k - h = (k - 1 - h) + 1 by omega, List.getElem?_cons_succ, List.getElem?_drop, show h + (k - 1 - h) = k - 1 by omega] at hk
    exact Or.inr (Or.inr ⟨hq, hk⟩)
/-- a piece took its turn at h -/
def Ins (W : List Int) (first : Nat) (x : Nat × Nat) (I : List (Nat × Nat)) (h : Nat) : Prop := first ≤ h ∧ h ≤ I.length ∧ (∀ (k : Nat) (y : Nat × Nat), h ≤ k → I[k]? = some y → lexL (sub W x) (sub W y) = true) ∧ (h = first ∨ ∃ y, 0 < h ∧ I[h - 1]? = some y ∧ lexL (sub W x) (sub W y) = false)
theorem c61 {P : Pg} {d : Nat} {u : Mm} {g : Nat → Nat → Int} {l : Nat} {S : TS} {first start : Nat} (hA : TlA u l) (hS : TL g l S) (hf : first ≤ S.2.2.length) (hs : start ≤ S.1.length) : Ec P (d + 2) 61 [vR l, vI (first : Int), vI (start : Int)] (sI u g) (fun z u' => ∃ g', u' = sI u g' ∧ z = .inl none ∧ Off l (l + 5) g g' ∧ ((S.2.2.length < 240 ∧ ∃ h, Ins S.1 first (start, S.1.length) S.2.2 h ∧ TL g' l (S.1, (S.2.1, S.2.2.take h ++ (start, S.1.length) :: S.2.2.drop h))) ∨ (240 ≤ S.2.2.length ∧ TL g' l (S.1, (true, S.2.2))))) := by
  obtain ⟨y0, y1, y2, y3, y4, y5, y6, y7, y8⟩ := id hA
  obtain ⟨t1, t2, t3, t4, t5, t6, t7, t8⟩ := id hS
  have loop : S.2.2.length < 240 → ∀ h, h ≤ S.2.2.length → first ≤ h → ∀ g1, Off l (l + 5) g g1 → g1 l 2 = (S.1.length : Int) → g1 (l + 1) = g (l + 1) → g1 l 6 = b01 S.2.1 → g1 l 5 = ((S.2.2.length + 1 : Nat) : Int) → (∀ (k : Nat) (p : Nat × Nat), S.2.2[k]? = some p → (k < h → g1 (l + 3) k = (p.1 : Int) ∧ g1 (l + 4) k = (p.2 : Int)) ∧ (h ≤ k → g1 (l + 3) (k + 1) = (p.1 : Int) ∧ g1 (l + 4) (k + 1) = (p.2 : Int))) → (∀ (k : Nat) (y : Nat × Nat), h ≤ k → S.2.2[k]? = some y → lexL (sub S.1 (start, S.1.length)) (sub S.1 y) = true) →
      Ef P (d + 2) 61 28 [some (vR l), some (vI (first : Int)), some (vI (start : Int)), some (vI (h : Int))] [] (sI u g1) (fun z u' => ∃ g', u' = sI u g' ∧ z = .inl none ∧ Off l (l + 5) g g' ∧ ((S.2.2.length < 240 ∧ ∃ h, Ins S.1 first (start, S.1.length) S.2.2 h ∧ TL g' l (S.1, (S.2.1, S.2.2.take h ++ (start, S.1.length) :: S.2.2.drop h))) ∨ (240 ≤ S.2.2.length ∧ TL g' l (S.1, (true, S.2.2))))) := by
    intro hroom h
    induction h with
    | zero =>
      intro hh hfh g1 ho m1 m2 m3 m4 m5 m6
      refine ef_iload_n (pc := 28) d61_28 rfl ?_
      refine ef_iload_n (pc := 29) d61_29 rfl ?_
      refine ef_icmp_leT (pc := 30) d61_30 (t := 95) rfl (by omega) ?_
      refine ef_aload_n (pc := 95) d61_95 rfl ?_
      refine eg_getR (pc := 96) d61_96 lf_5_18 (by assumption) (by decide) (by assumption) ?_
      refine ef_iload_n (pc := 99) d61_99 rfl ?_
      refine ef_iload_n (pc := 100) d61_100 rfl ?_
      refine eg_iast (pc := 101) d61_101 (by assumption) rfl (by omega) rfl ?_
      refine ef_aload_n (pc := 102) d61_102 rfl ?_
      refine eg_getR (pc := 103) d61_103 lf_5_22 (by assumption) (by decide) (by assumption) ?_
      refine ef_iload_n (pc := 106) d61_106 rfl ?_
      refine ef_aload_n (pc := 107) d61_107 rfl ?_
      refine eg_getI (pc := 108) d61_108 lf_5_25 (by assumption) (by decide) ?_
      try simp (disch := omega) only [u2_ne, u2_at, u2_ni, ur_ne, ur_eq]
      rw [m1]
      refine eg_iast (pc := 111) d61_111 (by assumption) rfl (by omega) rfl ?_
      refine ef_vret (pc := 112) d61_112 rfl ?_
      have o5 := (ho.up (a := l + 3) (i := 0) (x := (start : Int)) (by omega) (by omega)).up (a := l + 4) (i := 0) (x := (S.1.length : Int)) (by omega) (by omega)
      refine ⟨_, rfl, rfl, o5, Or.inl ⟨hroom, 0, ⟨hfh, hh, m6, Or.inl (by omega)⟩, ?_, ?_, ?_, ?_, ?_, t6, ?_, ?_⟩⟩
      · rw [u2_ne (by omega), u2_ne (by omega)]; exact m1
      · rw [u2_ne (by omega), u2_ne (by omega), m2]; exact t2
      · rw [u2_ne (by omega), u2_ne (by omega)]; exact m3
      · rw [u2_ne (by omega), u2_ne (by omega), m4]; simp only [List.length_append, List.length_take, List.length_cons, List.length_drop]; omega
      · intro k p hk
        rcases get_ins hh hk with ⟨c1, c2⟩ | ⟨c1, c2⟩ | ⟨c1, c2⟩
        · have := (m5 k p c2).1 c1
          rw [u2_ne (show l + 3 ≠ l + 4 by omega), u2_ni (show k ≠ 0 by omega), u2_ni (show k ≠ 0 by omega), u2_ne (show l + 4 ≠ l + 3 by omega)]; exact this
        · subst c1; subst c2
          rw [u2_ne (show l + 3 ≠ l + 4 by omega), u2_at, u2_at]; exact ⟨rfl, rfl⟩
        · have := (m5 (k - 1) p c2).2 (by omega)
          rw [show k - 1 + 1 = k by omega] at this
          rw [u2_ne (show l + 3 ≠ l + 4 by omega), u2_ni (show k ≠ 0 by omega), u2_ni (show k ≠ 0 by omega), u2_ne (show l + 4 ≠ l + 3 by omega)]; exact this
      · simp only [List.length_append, List.length_take, List.length_cons, List.length_drop]; omega
      · intro p hp
        rcases List.mem_append.mp hp with hp | hp
        · exact t8 p (List.mem_of_mem_take hp)
        · rcases List.mem_cons.mp hp with hp | hp
          · subst hp; exact ⟨hs, Nat.le_refl _⟩
          · exact t8 p (List.mem_of_mem_drop hp)
    | succ h ih =>
      intro hh hfh g1 ho m1 m2 m3 m4 m5 m6
      refine ef_iload_n (pc := 28) d61_28 rfl ?_
      refine ef_iload_n (pc := 29) d61_29 rfl ?_
      refine ef_icmp_le (pc := 30) d61_30 (t := 95) rfl (fun h30 => ?_) (fun h30 => ?_)
      · refine ef_aload_n (pc := 95) d61_95 rfl ?_
        refine eg_getR (pc := 96) d61_96 lf_5_18 (by assumption) (by decide) (by assumption) ?_
        refine ef_iload_n (pc := 99) d61_99 rfl ?_
        refine ef_iload_n (pc := 100) d61_100 rfl ?_
        refine eg_iast (pc := 101) d61_101 (by assumption) rfl (by omega) rfl ?_
        refine ef_aload_n (pc := 102) d61_102 rfl ?_
        refine eg_getR (pc := 103) d61_103 lf_5_22 (by assumption) (by decide) (by assumption) ?_
        refine ef_iload_n (pc := 106) d61_106 rfl ?_
        refine ef_aload_n (pc := 107) d61_107 rfl ?_
        refine eg_getI (pc := 108) d61_108 lf_5_25 (by assumption) (by decide) ?_
        try simp (disch := omega) only [u2_ne, u2_at, u2_ni, ur_ne, ur_eq]
        rw [m1]
        refine eg_iast (pc := 111) d61_111 (by assumption) rfl (by omega) rfl ?_
        refine ef_vret (pc := 112) d61_112 rfl ?_
        have hwhy : h + 1 = first ∨ ∃ y, 0 < h + 1 ∧ S.2.2[h + 1 - 1]? = some y ∧ lexL (sub S.1 (start, S.1.length)) (sub S.1 y) = false := by
          first
          | exact Or.inr ⟨y, by omega, hy, hlx⟩
          | exact Or.inl (by omega)
        have o5 := (ho.up (a := l + 3) (i := (h + 1)) (x := (start : Int)) (by omega) (by omega)).up (a := l + 4) (i := (h + 1)) (x := (S.1.length : Int)) (by omega) (by omega)
        refine ⟨_, rfl, rfl, o5, Or.inl ⟨hroom, (h + 1), ⟨hfh, hh, m6, hwhy⟩, ?_, ?_, ?_, ?_, ?_, t6, ?_, ?_⟩⟩
        · rw [u2_ne (by omega), u2_ne (by omega)]; exact m1
        · rw [u2_ne (by omega), u2_ne (by omega), m2]; exact t2
        · rw [u2_ne (by omega), u2_ne (by omega)]; exact m3
        · rw [u2_ne (by omega), u2_ne (by omega), m4]; simp only [List.length_append, List.length_take, List.length_cons, List.length_drop]; omega
        · intro k p hk
          rcases get_ins hh hk with ⟨c1, c2⟩ | ⟨c1, c2⟩ | ⟨c1, c2⟩
          · have := (m5 k p c2).1 c1
            rw [u2_ne (show l + 3 ≠ l + 4 by omega), u2_ni (show k ≠ (h + 1) by omega), u2_ni (show k ≠ (h + 1) by omega), u2_ne (show l + 4 ≠ l + 3 by omega)]; exact this
          · subst c1; subst c2
            rw [u2_ne (show l + 3 ≠ l + 4 by omega), u2_at, u2_at]; exact ⟨rfl, rfl⟩
          · have := (m5 (k - 1) p c2).2 (by omega)
            rw [show k - 1 + 1 = k by omega] at this
            rw [u2_ne (show l + 3 ≠ l + 4 by omega), u2_ni (show k ≠ (h + 1) by omega), u2_ni (show k ≠ (h + 1) by omega), u2_ne (show l + 4 ≠ l + 3 by omega)]; exact this
        · simp only [List.length_append, List.length_take, List.length_cons, List.length_drop]; omega
        · intro p hp
          rcases List.mem_append.mp hp with hp | hp
          · exact t8 p (List.mem_of_mem_take hp)
          · rcases List.mem_cons.mp hp with hp | hp
            · subst hp; exact ⟨hs, Nat.le_refl _⟩
            · exact t8 p (List.mem_of_mem_drop hp)
      · obtain ⟨y, hy, -⟩ := get_of_lt (L := S.2.2) (i := h) (by omega)
        have hv := (m5 h y hy).1 (by omega)
        have hy8 := t8 y (List.mem_of_getElem? hy)
        refine ef_aload_n (pc := 33) d61_33 rfl ?_
        refine ef_iload_n (pc := 34) d61_34 rfl ?_
        refine ef_aload_n (pc := 35) d61_35 rfl ?_
        refine eg_getI (pc := 36) d61_36 lf_5_25 (by assumption) (by decide) ?_
        rw [m1]
        refine ef_aload_n (pc := 39) d61_39 rfl ?_
        refine eg_getR (pc := 40) d61_40 lf_5_18 (by assumption) (by decide) (by assumption) ?_
        refine ef_iload_n (pc := 43) d61_43 rfl ?_
        refine ef_iconst (pc := 44) d61_44 (by decide) ?_
        refine ef_isub (pc := 45) d61_45 (z := ((h : Nat) : Int)) (by omega) ⟨by omega, by omega⟩ ?_
        refine eg_iald (pc := 46) d61_46 (by assumption) rfl (by omega) ?_
        rw [hv.1]
        refine ef_aload_n (pc := 47) d61_47 rfl ?_
        refine eg_getR (pc := 48) d61_48 lf_5_22 (by assumption) (by decide) (by assumption) ?_
        refine ef_iload_n (pc := 51) d61_51 rfl ?_
        refine ef_iconst (pc := 52) d61_52 (by decide) ?_
        refine ef_isub (pc := 53) d61_53 (z := ((h : Nat) : Int)) (by omega) ⟨by omega, by omega⟩ ?_
        refine eg_iald (pc := 54) d61_54 (by assumption) rfl (by omega) ?_
        rw [hv.2]
        refine ef_callV (pc := 55) d61_55 lm_5_137 (as := [_, _, _, _]) rfl rfl (by assumption) rfl rfl (by decide) (Nat.le_of_ble_eq_true rfl) rfl (Nat.le_of_ble_eq_true rfl) ?_
        refine Ec.imp (c62 (p := (start, S.1.length)) (q := y) hA (by rw [m2]; exact t2) t6 ⟨hs, Nat.le_refl _⟩ hy8) ?_
        rintro r55 u55 ⟨rfl, rfl⟩
        refine ef_if_eq (pc := 58) d61_58 (t := 95) rfl (fun h58 => ?_) (fun h58 => ?_)
        · have hlx : lexL (sub S.1 (start, S.1.length)) (sub S.1 y) = false := by
            cases hq : lexL (sub S.1 (start, S.1.length)) (sub S.1 y)
            · rfl
            · rw [hq] at h58; exact absurd h58 (by decide)
          refine ef_aload_n (pc := 95) d61_95 rfl ?_
          refine eg_getR (pc := 96) d61_96 lf_5_18 (by assumption) (by decide) (by assumption) ?_
          refine ef_iload_n (pc := 99) d61_99 rfl ?_
          refine ef_iload_n (pc := 100) d61_100 rfl ?_
          refine eg_iast (pc := 101) d61_101 (by assumption) rfl (by omega) rfl ?_
          refine ef_aload_n (pc := 102) d61_102 rfl ?_
          refine eg_getR (pc := 103) d61_103 lf_5_22 (by assumption) (by decide) (by assumption) ?_
          refine ef_iload_n (pc := 106) d61_106 rfl ?_
          refine ef_aload_n (pc := 107) d61_107 rfl ?_
          refine eg_getI (pc := 108) d61_108 lf_5_25 (by assumption) (by decide) ?_
          try simp (disch := omega) only [u2_ne, u2_at, u2_ni, ur_ne, ur_eq]
          rw [m1]
          refine eg_iast (pc := 111) d61_111 (by assumption) rfl (by omega) rfl ?_
          refine ef_vret (pc := 112) d61_112 rfl ?_
          have hwhy : h + 1 = first ∨ ∃ y, 0 < h + 1 ∧ S.2.2[h + 1 - 1]? = some y ∧ lexL (sub S.1 (start, S.1.length)) (sub S.1 y) = false := by
            first
            | exact Or.inr ⟨y, by omega, hy, hlx⟩
            | exact Or.inl (by omega)
          have o5 := (ho.up (a := l + 3) (i := (h + 1)) (x := (start : Int)) (by omega) (by omega)).up (a := l + 4) (i := (h + 1)) (x := (S.1.length : Int)) (by omega) (by omega)
          refine ⟨_, rfl, rfl, o5, Or.inl ⟨hroom, (h + 1), ⟨hfh, hh, m6, hwhy⟩, ?_, ?_, ?_, ?_, ?_, t6, ?_, ?_⟩⟩
          · rw [u2_ne (by omega), u2_ne (by omega)]; exact m1
          · rw [u2_ne (by omega), u2_ne (by omega), m2]; exact t2
          · rw [u2_ne (by omega), u2_ne (by omega)]; exact m3
          · rw [u2_ne (by omega), u2_ne (by omega), m4]; simp only [List.length_append, List.length_take, List.length_cons, List.length_drop]; omega
          · intro k p hk
            rcases get_ins hh hk with ⟨c1, c2⟩ | ⟨c1, c2⟩ | ⟨c1, c2⟩
            · have := (m5 k p c2).1 c1
              rw [u2_ne (show l + 3 ≠ l + 4 by omega), u2_ni (show k ≠ (h + 1) by omega), u2_ni (show k ≠ (h + 1) by omega), u2_ne (show l + 4 ≠ l + 3 by omega)]; exact this
            · subst c1; subst c2
              rw [u2_ne (show l + 3 ≠ l + 4 by omega), u2_at, u2_at]; exact ⟨rfl, rfl⟩
            · have := (m5 (k - 1) p c2).2 (by omega)
              rw [show k - 1 + 1 = k by omega] at this
              rw [u2_ne (show l + 3 ≠ l + 4 by omega), u2_ni (show k ≠ (h + 1) by omega), u2_ni (show k ≠ (h + 1) by omega), u2_ne (show l + 4 ≠ l + 3 by omega)]; exact this
          · simp only [List.length_append, List.length_take, List.length_cons, List.length_drop]; omega
          · intro p hp
            rcases List.mem_append.mp hp with hp | hp
            · exact t8 p (List.mem_of_mem_take hp)
            · rcases List.mem_cons.mp hp with hp | hp
              · subst hp; exact ⟨hs, Nat.le_refl _⟩
              · exact t8 p (List.mem_of_mem_drop hp)
        · have hlx : lexL (sub S.1 (start, S.1.length)) (sub S.1 y) = true := by
            cases hq : lexL (sub S.1 (start, S.1.length)) (sub S.1 y)
            · rw [hq] at h58; exact absurd rfl h58
            · rfl
          refine ef_aload_n (pc := 61) d61_61 rfl ?_
          refine eg_getR (pc := 62) d61_62 lf_5_18 (by assumption) (by decide) (by assumption) ?_
          refine ef_iload_n (pc := 65) d61_65 rfl ?_
          refine ef_aload_n (pc := 66) d61_66 rfl ?_
          refine eg_getR (pc := 67) d61_67 lf_5_18 (by assumption) (by decide) (by assumption) ?_
          refine ef_iload_n (pc := 70) d61_70 rfl ?_
          refine ef_iconst (pc := 71) d61_71 (by decide) ?_
          refine ef_isub (pc := 72) d61_72 (z := ((h : Nat) : Int)) (by omega) ⟨by omega, by omega⟩ ?_
          refine eg_iald (pc := 73) d61_73 (by assumption) rfl (by omega) ?_
          try simp (disch := omega) only [u2_ne, u2_at, u2_ni, ur_ne, ur_eq]
          rw [hv.1]
          refine eg_iast (pc := 74) d61_74 (by assumption) rfl (by omega) rfl ?_
          refine ef_aload_n (pc := 75) d61_75 rfl ?_
          refine eg_getR (pc := 76) d61_76 lf_5_22 (by assumption) (by decide) (by assumption) ?_
          refine ef_iload_n (pc := 79) d61_79 rfl ?_
          refine ef_aload_n (pc := 80) d61_80 rfl ?_
          refine eg_getR (pc := 81) d61_81 lf_5_22 (by assumption) (by decide) (by assumption) ?_
          refine ef_iload_n (pc := 84) d61_84 rfl ?_
          refine ef_iconst (pc := 85) d61_85 (by decide) ?_
          refine ef_isub (pc := 86) d61_86 (z := ((h : Nat) : Int)) (by omega) ⟨by omega, by omega⟩ ?_
          refine eg_iald (pc := 87) d61_87 (by assumption) rfl (by omega) ?_
          try simp (disch := omega) only [u2_ne, u2_at, u2_ni, ur_ne, ur_eq]
          rw [hv.2]
          refine eg_iast (pc := 88) d61_88 (by assumption) rfl (by omega) rfl ?_
          refine ef_iinc (pc := 89) d61_89 (ls' := [_, _, _, _]) (z := ((h : Nat) : Int)) rfl (by decide) (by omega) ⟨by omega, by omega⟩ rfl ?_
          refine ef_goto (pc := 92) d61_92 (t := 28) rfl ?_
          refine ih (by omega) (by omega) _ ((ho.up (by omega) (by omega)).up (by omega) (by omega)) ?_ ?_ ?_ ?_ ?_ ?_
          · rw [u2_ne (by omega), u2_ne (by omega)]; exact m1
          · rw [u2_ne (by omega), u2_ne (by omega)]; exact m2
          · rw [u2_ne (by omega), u2_ne (by omega)]; exact m3
          · rw [u2_ne (by omega), u2_ne (by omega)]; exact m4
          · intro k p hk
            have hm := m5 k p hk
            rw [u2_ne (show l + 3 ≠ l + 4 by omega), u2_eq, u2_eq, u2_ne (show l + 4 ≠ l + 3 by omega)]
            refine ⟨fun hlt => ?_, fun hle => ?_⟩
            · rw [u1_ne (by omega), u1_ne (by omega)]; exact hm.1 (by omega)
            · by_cases hkh : k = h
              · subst hkh; rw [hy] at hk; cases hk; rw [u1_eq, u1_eq]; exact ⟨rfl, rfl⟩
              · rw [u1_ne (by omega), u1_ne (by omega)]; exact hm.2 (by omega)
          · intro k y2 hk hy2
            by_cases hkh : k = h
            · subst hkh; rw [hy] at hy2; cases hy2; exact hlx
            · exact m6 k y2 (by omega) hy2
  change Ef P _ 61 0 [some (vR l), some (vI (first : Int)), some (vI (start : Int)), none] [] _ _
  refine ef_aload_n (pc := 0) d61_0 rfl ?_
  refine eg_getI (pc := 1) d61_1 lf_5_29 (by assumption) (by decide) ?_
  rw [t4]
  refine ef_sipush (pc := 4) d61_4 (by decide) ?_
  refine ef_icmp_lt (pc := 7) d61_7 (t := 16) rfl (fun h7 => ?_) (fun h7 => ?_)
  · refine ef_aload_n (pc := 16) d61_16 rfl ?_
    refine ef_dup (pc := 17) d61_17 rfl ?_
    refine eg_getI (pc := 18) d61_18 lf_5_29 (by assumption) (by decide) ?_
    rw [t4]
    refine ef_dup_x1 (pc := 21) d61_21 rfl rfl ?_
    refine ef_iconst (pc := 22) d61_22 (by decide) ?_
    refine ef_iadd (pc := 23) d61_23 (z := ((S.2.2.length + 1 : Nat) : Int)) (by omega) ⟨by omega, by omega⟩ ?_
    refine eg_putI (pc := 24) d61_24 pf_61_29 (by assumption) (by decide) ?_
    refine ef_istore_n (pc := 27) d61_27 (ls' := [_, _, _, _]) rfl ?_
    refine loop (by omega) S.2.2.length (Nat.le_refl _) hf _ (Off.refl.up (by omega) (by omega)) ?_ ?_ ?_ u2_at ?_ ?_
    · rw [u2_ni (by omega)]; exact t1
    · rw [u2_ne (by omega)]
    · rw [u2_ni (by omega)]; exact t3
    · intro k p hk
      rw [u2_ne (by omega), u2_ne (by omega)]
      exact ⟨fun _ => t5 k p hk, fun hle => absurd (List.getElem?_eq_some_iff.mp hk).1 (by omega)⟩
    · exact fun k y hk hy => absurd (List.getElem?_eq_some_iff.mp hy).1 (by omega)
  · refine ef_aload_n (pc := 10) d61_10 rfl ?_
    refine ef_iconst (pc := 11) d61_11 (by decide) ?_
    refine eg_putZ (pc := 12) d61_12 pf_61_32 (by assumption) (by decide) (by omega) ?_
    refine ef_vret (pc := 15) d61_15 rfl ?_
    refine ⟨_, rfl, rfl, Off.refl.up (by omega) (by omega), Or.inr ⟨by omega, ?_, ?_, ?_, ?_, ?_, t6, t7, t8⟩⟩
    · rw [u2_ni (by omega)]; exact t1
    · rw [u2_ne (by omega)]; exact t2
    · rw [u2_at]; rfl
    · rw [u2_ni (by omega)]; exact t4
    · intro i p hp; rw [u2_ne (by omega), u2_ne (by omega)]; exact t5 i p hp
/-- the letter that is told for a letter -/
def nmT (c m : Int) : Int := if mtF c m < 0 then c else (97 + mtF c m) % 65536
theorem mt_in {c m : Int} (h0 : 0 ≤ c) (h1 : c < 65536) : -97 ≤ mtF c m ∧ mtF c m < 65536 := by
  unfold mtF
  split
  · omega
  · have := and7 (bI (fun x y => x >>> (y &&& 31)) m (3 * (c - 120)))
    omega
theorem nmT_in {c m : Int} (h0 : 0 ≤ c) (h1 : c < 65536) : 0 ≤ nmT c m ∧ nmT c m < 65536 := by
  unfold nmT
  split <;> omega
theorem c65 {P : Pg} {d : Nat} {u : Mm} {g : Nat → Nat → Int} {l : Nat} {S : TS} {c m : Int} (hA : TlA u l) (hS : TL g l S) (h0 : 0 ≤ c) (h1 : c < 65536) : Ec P (d + 1) 65 [vR l, vI c, vI m] (sI u g) (fun x u' => ∃ g', u' = sI u g' ∧ x = .inl none ∧ Off l (l + 5) g g' ∧ TL g' l (putT (nmT c m) S)) := by
  obtain ⟨y0, y1, y2, y3, y4, y5, y6, y7, y8⟩ := id hA
  have hn := nmT_in (m := m) h0 h1
  have hm := mt_in (m := m) h0 h1
  change Ef P _ 65 0 [some (vR l), some (vI c), some (vI m), none] [] _ _
  refine ef_iload_n (pc := 0) d65_0 rfl ?_
  refine ef_iload_n (pc := 1) d65_1 rfl ?_
  refine ef_callS (pc := 2) d65_2 lm_5_133 (as := [_, _]) rfl rfl rfl (Nat.le_of_ble_eq_true rfl) rfl (Nat.le_of_ble_eq_true rfl) ?_
  refine Ec.imp (c7 h0 h1) ?_
  rintro r2 u2 ⟨rfl, rfl⟩
  refine ef_istore_n (pc := 5) d65_5 (ls' := [_, _, _, _]) rfl ?_
  refine ef_aload_n (pc := 6) d65_6 rfl ?_
  refine ef_iload_n (pc := 7) d65_7 rfl ?_
  refine ef_if_ge (pc := 8) d65_8 (t := 15) rfl (fun h8 => ?_) (fun h8 => ?_)
  · have hnm : nmT c m = (97 + mtF c m) % 65536 := by rw [nmT, if_neg (by omega)]
    refine ef_bipush (pc := 15) d65_15 (by decide) ?_
    refine ef_iload_n (pc := 17) d65_17 rfl ?_
    refine ef_iadd (pc := 18) d65_18 rfl ⟨by omega, by omega⟩ ?_
    refine ef_i2c (pc := 19) d65_19 rfl ?_
    refine ef_callV (pc := 20) d65_20 lm_5_67 (as := [_]) rfl rfl (by assumption) rfl rfl (by decide) (Nat.le_of_ble_eq_true rfl) rfl (Nat.le_of_ble_eq_true rfl) ?_
    refine Ec.imp (c60 hA hS (by omega) (by omega)) ?_
    rintro r20 u20 ⟨g', rfl, rfl, o1, t1⟩
    refine ef_vret (pc := 23) d65_23 rfl ?_
    exact ⟨_, rfl, rfl, o1, by rw [hnm]; exact t1⟩
  · have hnm : nmT c m = c := by rw [nmT, if_pos h8]
    refine ef_iload_n (pc := 11) d65_11 rfl ?_
    refine ef_goto (pc := 12) d65_12 (t := 20) rfl ?_
    refine ef_callV (pc := 20) d65_20 lm_5_67 (as := [_]) rfl rfl (by assumption) rfl rfl (by decide) (Nat.le_of_ble_eq_true rfl) rfl (Nat.le_of_ble_eq_true rfl) ?_
    refine Ec.imp (c60 hA hS (by omega) (by omega)) ?_
    rintro r20 u20 ⟨g', rfl, rfl, o1, t1⟩
    refine ef_vret (pc := 23) d65_23 rfl ?_
    exact ⟨_, rfl, rfl, o1, by rw [hnm]; exact t1⟩
