/-! The teller: put, isBefore, addPiece. Written by wip/whole/gen/c49.py. -/
def TlA (u : Mm) (l : Nat) : Prop := mS u l = some (100 + 5, 7) ∧ mF u l 0 = some (l + 1) ∧ mF u l 1 = some (l + 2) ∧ mF u l 3 = some (l + 3) ∧ mF u l 4 = some (l + 4) ∧ mS u (l + 1) = some (1, 240) ∧ mS u (l + 2) = some (1, 240) ∧ mS u (l + 3) = some (0, 240) ∧ mS u (l + 4) = some (0, 240)
/-- what is written; too long; the pieces -/
abbrev TS : Type := List Int × (Bool × List (Nat × Nat))
def TL (g : Nat → Nat → Int) (l : Nat) (S : TS) : Prop := g l 2 = (S.1.length : Int) ∧ Row (g (l + 1)) S.1 ∧ g l 6 = b01 S.2.1 ∧ g l 5 = (S.2.2.length : Int) ∧ (∀ (i : Nat) (p : Nat × Nat), S.2.2[i]? = some p → g (l + 3) i = (p.1 : Int) ∧ g (l + 4) i = (p.2 : Int)) ∧ S.1.length ≤ 240 ∧ S.2.2.length ≤ 240 ∧ (∀ p, p ∈ S.2.2 → p.1 ≤ p.2 ∧ p.2 ≤ S.1.length)
def putT (c : Int) (S : TS) : TS := if S.1.length < 240 then (S.1 ++ [c], S.2) else (S.1, (true, S.2.2))
theorem Row_app {f : Nat → Int} {T : List Int} {c : Int} (h : Row f T) : Row (u1 f T.length c) (T ++ [c]) := fun i x hx => by
  by_cases hi : i < T.length
  · rw [List.getElem?_append_left hi] at hx
    rw [u1_ne (by omega)]
    exact h i x hx
  · have hl := (List.getElem?_eq_some_iff.mp hx).1
    rw [List.length_append] at hl
    have h6 : i = T.length := by simp at hl; omega
    subst h6
    rw [List.getElem?_append_right (Nat.le_refl _), Nat.sub_self] at hx
    cases hx
    exact u1_eq
theorem c60 {P : Pg} {d : Nat} {u : Mm} {g : Nat → Nat → Int} {l : Nat} {S : TS} {c : Int} (hA : TlA u l) (hS : TL g l S) (h0 : 0 ≤ c) (h1 : c < 65536) : Ec P d 60 [vR l, vI c] (sI u g) (fun x u' => ∃ g', u' = sI u g' ∧ x = .inl none ∧ Off l (l + 5) g g' ∧ TL g' l (putT c S)) := by
  obtain ⟨y0, y1, y2, y3, y4, y5, y6, y7, y8⟩ := id hA
  obtain ⟨t1, t2, t3, t4, t5, t6, t7, t8⟩ := hS
  change Ef P _ 60 0 [some (vR l), some (vI c)] [] _ _
  refine ef_aload_n (pc := 0) d60_0 rfl ?_
  refine eg_getI (pc := 1) d60_1 lf_5_25 (by assumption) (by decide) ?_
  rw [t1]
  refine ef_sipush (pc := 4) d60_4 (by decide) ?_
  refine ef_icmp_ge (pc := 7) d60_7 (t := 30) rfl (fun h7 => ?_) (fun h7 => ?_)
  · refine ef_aload_n (pc := 30) d60_30 rfl ?_
    refine ef_iconst (pc := 31) d60_31 (by decide) ?_
    refine eg_putZ (pc := 32) d60_32 pf_60_32 (by assumption) (by decide) (by omega) ?_
    refine ef_vret (pc := 35) d60_35 rfl ?_
    first
    | (rw [putT, if_pos (show S.1.length < 240 by omega)]
       refine ⟨_, rfl, rfl, (Off.refl.up (by omega) (by omega)).up (by omega) (by omega), ?_, ?_, ?_, ?_, ?_, ?_, t7, ?_⟩
       · rw [u2_ne (by omega), u2_at, List.length_append]; rfl
       · rw [u2_eq, u2_ne (by omega)]; exact Row_app t2
       · rw [u2_ne (by omega), u2_ni (by omega)]; exact t3
       · rw [u2_ne (by omega), u2_ni (by omega)]; exact t4
       · intro i p hp; rw [u2_ne (by omega), u2_ne (by omega), u2_ne (by omega), u2_ne (by omega)]; exact t5 i p hp
       · rw [List.length_append]; show S.1.length + 1 ≤ 240; omega
       · intro p hp; have := t8 p hp; rw [List.length_append]; exact ⟨this.1, by omega⟩)
    | (rw [putT, if_neg (show ¬ S.1.length < 240 by omega)]
       refine ⟨_, rfl, rfl, Off.refl.up (by omega) (by omega), ?_, ?_, ?_, ?_, ?_, t6, t7, t8⟩
       · rw [u2_ni (by omega)]; exact t1
       · rw [u2_ne (by omega)]; exact t2
       · rw [u2_at]; rfl
       · rw [u2_ni (by omega)]; exact t4
       · intro i p hp; rw [u2_ne (by omega), u2_ne (by omega)]; exact t5 i p hp)
  · refine ef_aload_n (pc := 10) d60_10 rfl ?_
    refine eg_getR (pc := 11) d60_11 lf_5_9 (by assumption) (by decide) (by assumption) ?_
    refine ef_aload_n (pc := 14) d60_14 rfl ?_
    refine ef_dup (pc := 15) d60_15 rfl ?_
    refine eg_getI (pc := 16) d60_16 lf_5_25 (by assumption) (by decide) ?_
    rw [t1]
    refine ef_dup_x1 (pc := 19) d60_19 rfl rfl ?_
    refine ef_iconst (pc := 20) d60_20 (by decide) ?_
    refine ef_iadd (pc := 21) d60_21 (z := ((S.1.length + 1 : Nat) : Int)) (by omega) ⟨by omega, by omega⟩ ?_
    refine eg_putI (pc := 22) d60_22 pf_60_25 (by assumption) (by decide) ?_
    refine ef_iload_n (pc := 25) d60_25 rfl ?_
    refine eg_cast (pc := 26) d60_26 (w := c) (by assumption) rfl (by omega) (by omega) ?_
    refine ef_goto (pc := 27) d60_27 (t := 35) rfl ?_
    refine ef_vret (pc := 35) d60_35 rfl ?_
    first
    | (rw [putT, if_pos (show S.1.length < 240 by omega)]
       refine ⟨_, rfl, rfl, (Off.refl.up (by omega) (by omega)).up (by omega) (by omega), ?_, ?_, ?_, ?_, ?_, ?_, t7, ?_⟩
       · rw [u2_ne (by omega), u2_at, List.length_append]; rfl
       · rw [u2_eq, u2_ne (by omega)]; exact Row_app t2
       · rw [u2_ne (by omega), u2_ni (by omega)]; exact t3
       · rw [u2_ne (by omega), u2_ni (by omega)]; exact t4
       · intro i p hp; rw [u2_ne (by omega), u2_ne (by omega), u2_ne (by omega), u2_ne (by omega)]; exact t5 i p hp
       · rw [List.length_append]; show S.1.length + 1 ≤ 240; omega
       · intro p hp; have := t8 p hp; rw [List.length_append]; exact ⟨this.1, by omega⟩)
    | (rw [putT, if_neg (show ¬ S.1.length < 240 by omega)]
       refine ⟨_, rfl, rfl, Off.refl.up (by omega) (by omega), ?_, ?_, ?_, ?_, ?_, t6, t7, t8⟩
       · rw [u2_ni (by omega)]; exact t1
       · rw [u2_ne (by omega)]; exact t2
       · rw [u2_at]; rfl
       · rw [u2_ni (by omega)]; exact t4
       · intro i p hp; rw [u2_ne (by omega), u2_ne (by omega)]; exact t5 i p hp)
def sub (W : List Int) (p : Nat × Nat) : List Int := (W.drop p.1).take (p.2 - p.1)
def lexL : List Int → List Int → Bool
  | _, [] => false
  | [], _ :: _ => true
  | a :: x, b :: y => if a = b then lexL x y else decide (a < b)
theorem sub_len {W : List Int} {p : Nat × Nat} (h : p.2 ≤ W.length) : (sub W p).length = p.2 - p.1 := by unfold sub; simp; omega
theorem sub_get {W : List Int} {p : Nat × Nat} {i : Nat} (h : i < p.2 - p.1) : (sub W p)[i]? = W[p.1 + i]? := by
  unfold sub
  rw [List.getElem?_take_of_lt h, List.getElem?_drop]
theorem c62 {P : Pg} {d : Nat} {u : Mm} {g : Nat → Nat → Int} {l : Nat} {W : List Int} {p q : Nat × Nat} (hA : TlA u l) (hR : Row (g (l + 1)) W) (hW : W.length ≤ 240) (hp : p.1 ≤ p.2 ∧ p.2 ≤ W.length) (hq : q.1 ≤ q.2 ∧ q.2 ≤ W.length) : Ec P (d + 1) 62 [vR l, vI (p.1 : Int), vI (p.2 : Int), vI (q.1 : Int), vI (q.2 : Int)] (sI u g) (fun x u' => u' = sI u g ∧ x = .inl (some (vI (b01 (lexL (sub W p) (sub W q)))))) := by
  obtain ⟨y0, y1, y2, y3, y4, y5, y6, y7, y8⟩ := id hA
  have e1 := sub_len (W := W) (p := p) hp.2
  have e2 := sub_len (W := W) (p := q) hq.2
  have loop : ∀ (n : Nat), (n : Int) = (if (p.2 : Int) - p.1 ≤ (q.2 : Int) - q.1 then (p.2 : Int) - p.1 else (q.2 : Int) - q.1) → ∀ i, i ≤ n → lexL ((sub W p).drop i) ((sub W q).drop i) = lexL (sub W p) (sub W q) → Ef P (d + 1) 62 15 [some (vR l), some (vI (p.1 : Int)), some (vI (p.2 : Int)), some (vI (q.1 : Int)), some (vI (q.2 : Int)), some (vI (n : Int)), some (vI (i : Int))] [] (sI u g) (fun x u' => u' = sI u g ∧ x = .inl (some (vI (b01 (lexL (sub W p) (sub W q)))))) := by
    intro n hn
    have hn1 : n ≤ p.2 - p.1 := by split at hn <;> omega
    have hn2 : n ≤ q.2 - q.1 := by split at hn <;> omega
    have hn3 : n = p.2 - p.1 ∨ n = q.2 - q.1 := by split at hn <;> omega
    refine nat_loop n ?_
    intro i hi ih hx
    refine ef_iload (pc := 15) d62_15 rfl ?_
    refine ef_iload (pc := 17) d62_17 rfl ?_
    refine ef_icmp_ge (pc := 19) d62_19 (t := 76) rfl (fun h19 => ?_) (fun h19 => ?_)
    · have hin : i = n := by omega
      subst hin
      refine ef_iload_n (pc := 76) d62_76 rfl ?_
      refine ef_iload_n (pc := 77) d62_77 rfl ?_
      refine ef_isub (pc := 78) d62_78 rfl ⟨by omega, by omega⟩ ?_
      refine ef_iload (pc := 79) d62_79 rfl ?_
      refine ef_iload_n (pc := 81) d62_81 rfl ?_
      refine ef_isub (pc := 82) d62_82 rfl ⟨by omega, by omega⟩ ?_
      refine ef_icmp_ge (pc := 83) d62_83 (t := 90) rfl (fun h83 => ?_) (fun h83 => ?_)
      · have hy : (sub W q).drop i = [] := List.drop_eq_nil_of_le (by omega)
        have hz : lexL ((sub W p).drop i) [] = false := by cases (sub W p).drop i <;> rfl
        rw [hy, hz] at hx
        refine ef_iconst (pc := 90) d62_90 (by decide) ?_
        refine ef_zret (pc := 91) d62_91 rfl (by omega) ?_
        exact ⟨rfl, by rw [← hx]; rfl⟩
      · have hy : (sub W p).drop i = [] := List.drop_eq_nil_of_le (by omega)
        obtain ⟨b, -, hdb⟩ := get_of_lt (L := sub W q) (i := i) (by omega)
        rw [hy, hdb, lexL] at hx
        refine ef_iconst (pc := 86) d62_86 (by decide) ?_
        refine ef_goto (pc := 87) d62_87 (t := 91) rfl ?_
        refine ef_zret (pc := 91) d62_91 rfl (by omega) ?_
        exact ⟨rfl, by rw [← hx]; rfl⟩
    · obtain ⟨a, ha, hda⟩ := get_of_lt (L := sub W p) (i := i) (by omega)
      obtain ⟨b, hb, hdb⟩ := get_of_lt (L := sub W q) (i := i) (by omega)
      have va := hR _ a ((sub_get (by omega)).symm.trans ha)
      have vb := hR _ b ((sub_get (by omega)).symm.trans hb)
      rw [hda, hdb, lexL] at hx
      refine ef_aload_n (pc := 22) d62_22 rfl ?_
      refine eg_getR (pc := 23) d62_23 lf_5_9 (by assumption) (by decide) (by assumption) ?_
      refine ef_iload_n (pc := 26) d62_26 rfl ?_
      refine ef_iload (pc := 27) d62_27 rfl ?_
      refine ef_iadd (pc := 29) d62_29 (z := ((p.1 + i : Nat) : Int)) (by omega) ⟨by omega, by omega⟩ ?_
      refine eg_cald (pc := 30) d62_30 (by assumption) rfl (by omega) ?_
      rw [va]
      refine ef_aload_n (pc := 31) d62_31 rfl ?_
      refine eg_getR (pc := 32) d62_32 lf_5_9 (by assumption) (by decide) (by assumption) ?_
      refine ef_iload_n (pc := 35) d62_35 rfl ?_
      refine ef_iload (pc := 36) d62_36 rfl ?_
      refine ef_iadd (pc := 38) d62_38 (z := ((q.1 + i : Nat) : Int)) (by omega) ⟨by omega, by omega⟩ ?_
      refine eg_cald (pc := 39) d62_39 (by assumption) rfl (by omega) ?_
      rw [vb]
      refine ef_icmp_eq (pc := 40) d62_40 (t := 70) rfl (fun h40 => ?_) (fun h40 => ?_)
      · rw [if_pos h40] at hx
        refine ef_iinc (pc := 70) d62_70 (ls' := [_, _, _, _, _, _, _]) (z := ((i + 1 : Nat) : Int)) rfl (by decide) (by omega) ⟨by omega, by omega⟩ rfl ?_
        refine ef_goto (pc := 73) d62_73 (t := 15) rfl ?_
        exact ih (by omega) hx
      · rw [if_neg h40] at hx
        refine ef_aload_n (pc := 43) d62_43 rfl ?_
        refine eg_getR (pc := 44) d62_44 lf_5_9 (by assumption) (by decide) (by assumption) ?_
        refine ef_iload_n (pc := 47) d62_47 rfl ?_
        refine ef_iload (pc := 48) d62_48 rfl ?_
        refine ef_iadd (pc := 50) d62_50 (z := ((p.1 + i : Nat) : Int)) (by omega) ⟨by omega, by omega⟩ ?_
        refine eg_cald (pc := 51) d62_51 (by assumption) rfl (by omega) ?_
        rw [va]
        refine ef_aload_n (pc := 52) d62_52 rfl ?_
        refine eg_getR (pc := 53) d62_53 lf_5_9 (by assumption) (by decide) (by assumption) ?_
        refine ef_iload_n (pc := 56) d62_56 rfl ?_
        refine ef_iload (pc := 57) d62_57 rfl ?_
        refine ef_iadd (pc := 59) d62_59 (z := ((q.1 + i : Nat) : Int)) (by omega) ⟨by omega, by omega⟩ ?_
        refine eg_cald (pc := 60) d62_60 (by assumption) rfl (by omega) ?_
        rw [vb]
        refine ef_icmp_ge (pc := 61) d62_61 (t := 68) rfl (fun h61 => ?_) (fun h61 => ?_)
        · rw [decide_eq_false (show ¬ a < b by omega)] at hx
          refine ef_iconst (pc := 68) d62_68 (by decide) ?_
          refine ef_zret (pc := 69) d62_69 rfl (by omega) ?_
          exact ⟨rfl, by rw [← hx]; rfl⟩
        · rw [decide_eq_true (show a < b by omega)] at hx
          refine ef_iconst (pc := 64) d62_64 (by decide) ?_
          refine ef_goto (pc := 65) d62_65 (t := 69) rfl ?_
          refine ef_zret (pc := 69) d62_69 rfl (by omega) ?_
          exact ⟨rfl, by rw [← hx]; rfl⟩
  change Ef P _ 62 0 [some (vR l), some (vI (p.1 : Int)), some (vI (p.2 : Int)), some (vI (q.1 : Int)), some (vI (q.2 : Int)), none, none] [] _ _
  refine ef_iload_n (pc := 0) d62_0 rfl ?_
  refine ef_iload_n (pc := 1) d62_1 rfl ?_
  refine ef_isub (pc := 2) d62_2 rfl ⟨by omega, by omega⟩ ?_
  refine ef_iload (pc := 3) d62_3 rfl ?_
  refine ef_iload_n (pc := 5) d62_5 rfl ?_
  refine ef_isub (pc := 6) d62_6 rfl ⟨by omega, by omega⟩ ?_
  refine ef_callS (pc := 7) d62_7 lm_5_141 (as := [_, _]) rfl rfl rfl (Nat.le_of_ble_eq_true rfl) rfl (Nat.le_of_ble_eq_true rfl) ?_
  refine Ec.imp (c164) ?_
  rintro r7 u7 ⟨rfl, rfl⟩
  obtain ⟨n, hn⟩ : ∃ n : Nat, (n : Int) = (if (p.2 : Int) - p.1 ≤ (q.2 : Int) - q.1 then (p.2 : Int) - p.1 else (q.2 : Int) - q.1) := ⟨(if (p.2 : Int) - p.1 ≤ (q.2 : Int) - q.1 then (p.2 : Int) - p.1 else (q.2 : Int) - q.1).toNat, by split <;> omega⟩
  rw [← hn]
  refine ef_istore (pc := 10) d62_10 (ls' := [_, _, _, _, _, _, _]) rfl ?_
  refine ef_iconst (pc := 12) d62_12 (by decide) ?_
  refine ef_istore (pc := 13) d62_13 (ls' := [_, _, _, _, _, _, _]) rfl ?_
  exact loop n hn 0 (Nat.zero_le _) rfl
