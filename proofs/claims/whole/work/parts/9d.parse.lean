/-! The model: the small methods of parsing. Written by wip/whole/gen/c9d.py. -/
def hrL (T : List Int) (a : Nat) : Int := match T[a]? with
  | some c => c
  | none => -1
theorem hr_pk {T : List Int} {a : Nat} {c : Int} (hc : 0 < c) : hrL T a = c ↔ pkL T a = c := by
  unfold hrL pkL
  cases T[a]? with
  | none => simp only; omega
  | some x => simp only
theorem hr_lt {T : List Int} {a : Nat} (h : 0 ≤ hrL T a) : a < T.length := by
  unfold hrL at h
  rcases Nat.lt_or_ge a T.length with h1 | h1
  · exact h1
  · rw [List.getElem?_eq_none h1] at h; simp only at h; omega
theorem hr_eq {T : List Int} {a : Nat} (h : a < T.length) : hrL T a = pkL T a := by
  unfold hrL pkL
  rw [List.getElem?_eq_getElem h]
theorem hr_rg {T : List Int} {a : Nat} (hT : ∀ c, c ∈ T → 0 < c ∧ c < 65536) : -1 ≤ hrL T a ∧ hrL T a < 65536 := by
  unfold hrL
  cases h : T[a]? with
  | none => exact ⟨by decide, by decide⟩
  | some x => have := hT x (List.mem_of_getElem? h); simp only; omega
def gkF (c : Int) : Int := if c = 62 then 2 else if c = 60 then 3 else if c = 94 then 4 else if c = 63 then 5 else -1
theorem gk_ix {c : Int} : (gkF c < 0 ↔ ixC c < 0) ∧ (0 ≤ ixC c → gkF c = kdM (ixC c) ∧ ixC c ≤ 3) ∧ (gkF c = 5 ↔ ixC c = 3) := by
  unfold gkF ixC kdM
  (repeat split) <;> omega
theorem bt_all : ∀ b : Nat, b < 8 → ∀ k : Nat, k < 3 → (bI (fun x y => x &&& y) (bI (fun x y => x >>> (y &&& 31)) (b : Int) (120 + (k : Int) - 120)) 1 = 1 ↔ bI (fun x y => x &&& y) (b : Int) (bitF (120 + (k : Int))) ≠ 0) := by decide +kernel
theorem bt_iff {b c : Int} (hb : 0 ≤ b ∧ b < 8) (hc : 120 ≤ c ∧ c ≤ 122) : bI (fun x y => x &&& y) (bI (fun x y => x >>> (y &&& 31)) b (c - 120)) 1 = 1 ↔ bI (fun x y => x &&& y) b (bitF c) ≠ 0 := by
  obtain ⟨b', rfl⟩ : ∃ b' : Nat, b = (b' : Int) := ⟨b.toNat, by omega⟩
  obtain ⟨k, rfl⟩ : ∃ k : Nat, c = 120 + (k : Int) := ⟨(c - 120).toNat, by omega⟩
  exact bt_all b' (by omega) k (by omega)
theorem c104 {P : Pg} {d : Nat} {u : Mm} {c : Int} : Ec P d 104 [vI c] u (fun x u' => u' = u ∧ x = .inl (some (vI (gkF c)))) := by
  change Ef P _ 104 0 [some (vI c)] [] _ _
  refine ef_iload_n (pc := 0) d104_0 rfl ?_
  refine ef_bipush (pc := 1) d104_1 (by decide) ?_
  refine ef_icmp_ne (pc := 3) d104_3 (t := 10) rfl (fun h3 => ?_) (fun h3 => ?_)
  · refine ef_iload_n (pc := 10) d104_10 rfl ?_
    refine ef_bipush (pc := 11) d104_11 (by decide) ?_
    refine ef_icmp_ne (pc := 13) d104_13 (t := 20) rfl (fun h13 => ?_) (fun h13 => ?_)
    · refine ef_iload_n (pc := 20) d104_20 rfl ?_
      refine ef_bipush (pc := 21) d104_21 (by decide) ?_
      refine ef_icmp_ne (pc := 23) d104_23 (t := 30) rfl (fun h23 => ?_) (fun h23 => ?_)
      · refine ef_iload_n (pc := 30) d104_30 rfl ?_
        refine ef_bipush (pc := 31) d104_31 (by decide) ?_
        refine ef_icmp_ne (pc := 33) d104_33 (t := 40) rfl (fun h33 => ?_) (fun h33 => ?_)
        · rw [gkF, if_neg h3, if_neg h13, if_neg h23, if_neg h33]
          refine ef_iconst (pc := 40) d104_40 (by decide) ?_
          refine ef_iret (pc := 41) d104_41 rfl ?_
          exact ⟨rfl, rfl⟩
        · rw [gkF, if_neg h3, if_neg h13, if_neg h23, if_pos h33]
          refine ef_iconst (pc := 36) d104_36 (by decide) ?_
          refine ef_goto (pc := 37) d104_37 (t := 41) rfl ?_
          refine ef_iret (pc := 41) d104_41 rfl ?_
          exact ⟨rfl, rfl⟩
      · rw [gkF, if_neg h3, if_neg h13, if_pos h23]
        refine ef_iconst (pc := 26) d104_26 (by decide) ?_
        refine ef_goto (pc := 27) d104_27 (t := 41) rfl ?_
        refine ef_iret (pc := 41) d104_41 rfl ?_
        exact ⟨rfl, rfl⟩
    · rw [gkF, if_neg h3, if_pos h13]
      refine ef_iconst (pc := 16) d104_16 (by decide) ?_
      refine ef_goto (pc := 17) d104_17 (t := 41) rfl ?_
      refine ef_iret (pc := 41) d104_41 rfl ?_
      exact ⟨rfl, rfl⟩
  · rw [gkF, if_pos h3]
    refine ef_iconst (pc := 6) d104_6 (by decide) ?_
    refine ef_goto (pc := 7) d104_7 (t := 41) rfl ?_
    refine ef_iret (pc := 41) d104_41 rfl ?_
    exact ⟨rfl, rfl⟩
theorem c101 {P : Pg} {d : Nat} {u : Mm} {g : Nat → Nat → Int} {m : Nat} {T : List Int} {a : Nat} (hM : MdA u m) (h5 : g m 5 = (T.length : Int)) (hT : Row (g (m + 2)) T) (hTl : T.length ≤ 120) (h6 : g m 6 = (a : Int)) : Ec P d 101 [vR m] (sI u g) (fun x u' => u' = sI u g ∧ x = .inl (some (vI (hrL T a)))) := by
  have s0 := hM.1
  have f7 : mF u m 7 = some (m + 2) := (hM.2 1 (by decide)).1
  have s7 : mS u (m + 2) = some (0, 120) := (hM.2 1 (by decide)).2
  change Ef P _ 101 0 [some (vR m)] [] _ _
  refine ef_aload_n (pc := 0) d101_0 rfl ?_
  refine eg_getI (pc := 1) d101_1 lf_8_161 (by assumption) (by decide) ?_
  rw [h6]
  refine ef_aload_n (pc := 4) d101_4 rfl ?_
  refine eg_getI (pc := 5) d101_5 lf_8_164 (by assumption) (by decide) ?_
  rw [h5]
  refine ef_icmp_ge (pc := 8) d101_8 (t := 23) rfl (fun h8 => ?_) (fun h8 => ?_)
  · have hv : hrL T a = -1 := by unfold hrL; rw [List.getElem?_eq_none (by omega)]
    rw [hv]
    refine ef_iconst (pc := 23) d101_23 (by decide) ?_
    refine ef_iret (pc := 24) d101_24 rfl ?_
    exact ⟨rfl, rfl⟩
  · have hlt : a < T.length := by omega
    obtain ⟨x, hx, -⟩ := get_of_lt hlt
    have hv : hrL T a = x := by unfold hrL; rw [hx]
    have hg := hT a x hx
    rw [hv]
    refine ef_aload_n (pc := 11) d101_11 rfl ?_
    refine eg_getR (pc := 12) d101_12 lf_8_13 (by assumption) (by decide) (by assumption) ?_
    refine ef_aload_n (pc := 15) d101_15 rfl ?_
    refine eg_getI (pc := 16) d101_16 lf_8_161 (by assumption) (by decide) ?_
    rw [h6]
    refine eg_iald (pc := 19) d101_19 (i := a) (by assumption) (rfl) (by omega) ?_
    rw [hg]
    refine ef_goto (pc := 20) d101_20 (t := 24) rfl ?_
    refine ef_iret (pc := 24) d101_24 rfl ?_
    exact ⟨rfl, rfl⟩
theorem c106 {P : Pg} {d : Nat} {u : Mm} {g : Nat → Nat → Int} {m : Nat} {T : List Int} {a : Nat} {c : Int} (hM : MdA u m) (h5 : g m 5 = (T.length : Int)) (hT : Row (g (m + 2)) T) (hTl : T.length ≤ 120) (h6 : g m 6 = (a : Int)) (h1 : g m 1 = 0) (ha : a ≤ 120) : Ec P (d + 1) 106 [vR m, vI c] (sI u g) (fun x u' => x = .inl none ∧ ((hrL T a = c ∧ u' = sI u (u2 g m 6 ((a + 1 : Nat) : Int))) ∨ (hrL T a ≠ c ∧ u' = sI u (u2 g m 1 1)))) := by
  have s0 := hM.1
  have hal : hrL T a = c → True := fun _ => trivial
  change Ef P _ 106 0 [some (vR m), some (vI c)] [] _ _
  refine ef_aload_n (pc := 0) d106_0 rfl ?_
  refine ef_callV (pc := 1) d106_1 lm_8_177 (as := []) rfl rfl (by assumption) rfl rfl (by decide) (Nat.le_of_ble_eq_true rfl) rfl (Nat.le_of_ble_eq_true rfl) ?_
  refine Ec.imp (c101 hM h5 hT hTl h6) ?_
  rintro r1 u1 ⟨rfl, rfl⟩
  refine ef_iload_n (pc := 4) d106_4 rfl ?_
  refine ef_icmp_eq (pc := 5) d106_5 (t := 16) rfl (fun h5x => ?_) (fun h5x => ?_)
  · refine ef_aload_n (pc := 16) d106_16 rfl ?_
    refine ef_dup (pc := 17) d106_17 rfl ?_
    refine eg_getI (pc := 18) d106_18 lf_8_161 (by assumption) (by decide) ?_
    try simp (disch := omega) only [u2_ne, u2_at, u2_ni, ur_ne, ur_eq]
    rw [h6]
    refine ef_iconst (pc := 21) d106_21 (by decide) ?_
    refine ef_iadd (pc := 22) d106_22 (z := ((a + 1 : Nat) : Int)) (by omega) ⟨by omega, by omega⟩ ?_
    refine eg_putI (pc := 23) d106_23 pf_106_161 (by assumption) (by decide) ?_
    refine ef_vret (pc := 26) d106_26 rfl ?_
    first
    | exact ⟨rfl, Or.inl ⟨h5x, rfl⟩⟩
    | exact ⟨rfl, Or.inr ⟨h5x, rfl⟩⟩
  · refine ef_aload_n (pc := 8) d106_8 rfl ?_
    refine ef_iconst (pc := 9) d106_9 (by decide) ?_
    refine ef_callV (pc := 10) d106_10 lm_8_170 (as := [_]) rfl rfl (by assumption) rfl rfl (by decide) (Nat.le_of_ble_eq_true rfl) rfl (Nat.le_of_ble_eq_true rfl) ?_
    refine Ec.imp (c100 hM) ?_
    rintro r10 u10 ⟨rfl, rfl⟩
    rw [if_pos h1]
    refine ef_goto (pc := 13) d106_13 (t := 26) rfl ?_
    refine ef_vret (pc := 26) d106_26 rfl ?_
    first
    | exact ⟨rfl, Or.inl ⟨h5x, rfl⟩⟩
    | exact ⟨rfl, Or.inr ⟨h5x, rfl⟩⟩
theorem c98 {P : Pg} {d : Nat} {u : Mm} {g : Nat → Nat → Int} {m : Nat} {k : Nat} {a b l : Int} (hM : MdA u m) (h14 : g m 14 = (k : Int)) (hk : k < 20) : Ec P d 98 [vR m, vI a, vI b, vI l] (sI u g) (fun x u' => u' = sI u (u2 (u2 (u2 (u2 g (m + 9) k a) (m + 10) k b) (m + 11) k l) m 14 ((k + 1 : Nat) : Int)) ∧ x = .inl none) := by
  have s0 := hM.1
  have f15 : mF u m 15 = some (m + 9) := (hM.2 8 (by decide)).1
  have s15 : mS u (m + 9) = some (0, 20) := (hM.2 8 (by decide)).2
  have f16 : mF u m 16 = some (m + 10) := (hM.2 9 (by decide)).1
  have s16 : mS u (m + 10) = some (0, 20) := (hM.2 9 (by decide)).2
  have f17 : mF u m 17 = some (m + 11) := (hM.2 10 (by decide)).1
  have s17 : mS u (m + 11) = some (0, 20) := (hM.2 10 (by decide)).2
  change Ef P _ 98 0 [some (vR m), some (vI a), some (vI b), some (vI l)] [] _ _
  refine ef_aload_n (pc := 0) d98_0 rfl ?_
  refine eg_getR (pc := 1) d98_1 lf_8_35 (by assumption) (by decide) (by assumption) ?_
  refine ef_aload_n (pc := 4) d98_4 rfl ?_
  refine eg_getI (pc := 5) d98_5 lf_8_174 (by assumption) (by decide) ?_
  rw [h14]
  refine ef_iload_n (pc := 8) d98_8 rfl ?_
  refine eg_iast (pc := 9) d98_9 (i := k) (by assumption) (rfl) (by omega) rfl ?_
  refine ef_aload_n (pc := 10) d98_10 rfl ?_
  refine eg_getR (pc := 11) d98_11 lf_8_38 (by assumption) (by decide) (by assumption) ?_
  refine ef_aload_n (pc := 14) d98_14 rfl ?_
  refine eg_getI (pc := 15) d98_15 lf_8_174 (by assumption) (by decide) ?_
  rw [u2_ne (by omega), h14]
  refine ef_iload_n (pc := 18) d98_18 rfl ?_
  refine eg_iast (pc := 19) d98_19 (i := k) (by assumption) (rfl) (by omega) rfl ?_
  refine ef_aload_n (pc := 20) d98_20 rfl ?_
  refine eg_getR (pc := 21) d98_21 lf_8_41 (by assumption) (by decide) (by assumption) ?_
  refine ef_aload_n (pc := 24) d98_24 rfl ?_
  refine eg_getI (pc := 25) d98_25 lf_8_174 (by assumption) (by decide) ?_
  rw [u2_ne (by omega), u2_ne (by omega), h14]
  refine ef_iload_n (pc := 28) d98_28 rfl ?_
  refine eg_iast (pc := 29) d98_29 (i := k) (by assumption) (rfl) (by omega) rfl ?_
  refine ef_aload_n (pc := 30) d98_30 rfl ?_
  refine ef_dup (pc := 31) d98_31 rfl ?_
  refine eg_getI (pc := 32) d98_32 lf_8_174 (by assumption) (by decide) ?_
  rw [u2_ne (by omega), u2_ne (by omega), u2_ne (by omega), h14]
  refine ef_iconst (pc := 35) d98_35 (by decide) ?_
  refine ef_iadd (pc := 36) d98_36 (z := ((k + 1 : Nat) : Int)) (by omega) ⟨by omega, by omega⟩ ?_
  refine eg_putI (pc := 37) d98_37 pf_98_174 (by assumption) (by decide) ?_
  refine ef_vret (pc := 40) d98_40 rfl ?_
  exact ⟨rfl, rfl⟩
theorem c103 {P : Pg} {d : Nat} {u : Mm} {g : Nat → Nat → Int} {m : Nat} {T : List Int} {a t : Nat} {b : Int} (hM : MdA u m) (h5 : g m 5 = (T.length : Int)) (hT : Row (g (m + 2)) T) (hTl : T.length ≤ 120) (h6 : g m 6 = (a : Int)) (hTc : ∀ c, c ∈ T → 0 < c ∧ c < 65536) (h1 : g m 1 = 0) (h14 : g m 14 = ((t + 1 : Nat) : Int)) (ht : t < 20) (hb : g (m + 11) t = b) (hb8 : 0 ≤ b ∧ b < 8) : Ec P (d + 1) 103 [vR m] (sI u g) (fun x u' => (isN b (pkL T a) = true ∧ a < T.length ∧ x = .inl (some (vI (nmM (pkL T a)))) ∧ u' = sI u (u2 g m 6 ((a + 1 : Nat) : Int))) ∨ (isN b (pkL T a) = false ∧ x = .inl (some (vI 0)) ∧ u' = sI u (u2 g m 1 1))) := by
  have s0 := hM.1
  have f17 : mF u m 17 = some (m + 11) := (hM.2 10 (by decide)).1
  have s17 : mS u (m + 11) = some (0, 20) := (hM.2 10 (by decide)).2
  have hrg := hr_rg (a := a) hTc
  have keyL : (120 ≤ hrL T a ∧ hrL T a ≤ 122) → pkL T a = hrL T a ∧ a < T.length := fun h => ⟨(hr_eq (hr_lt (by omega))).symm, hr_lt (by omega)⟩
  have keyN : (97 ≤ hrL T a ∧ hrL T a ≤ 102) → pkL T a = hrL T a ∧ a < T.length := fun h => ⟨(hr_eq (hr_lt (by omega))).symm, hr_lt (by omega)⟩
  have back : ∀ lo hi : Int, 0 < lo → (lo ≤ pkL T a ∧ pkL T a ≤ hi) → hrL T a = pkL T a := fun lo hi h0 h => by
    refine hr_eq ?_
    rcases Nat.lt_or_ge a T.length with h1 | h1
    · exact h1
    · have : pkL T a = 0 := by unfold pkL; rw [List.getElem?_eq_none h1]
      omega
  -- behind the letter's test
  have rest : ∀ z : Bool, (z = true ↔ (isL (pkL T a) = true ∧ bI (fun x y => x &&& y) b (bitF (pkL T a)) ≠ 0)) → ∀ v2, Ef P (d + 1) 103 43 [some (vR m), some (vI (hrL T a)), v2] [vI (b01 z)] (sI u g) (fun x u' => (isN b (pkL T a) = true ∧ a < T.length ∧ x = .inl (some (vI (nmM (pkL T a)))) ∧ u' = sI u (u2 g m 6 ((a + 1 : Nat) : Int))) ∨ (isN b (pkL T a) = false ∧ x = .inl (some (vI 0)) ∧ u' = sI u (u2 g m 1 1))) := by
    intro z hz v2
    have isNe : isN b (pkL T a) = true ↔ (z = true ∨ (97 ≤ pkL T a ∧ pkL T a ≤ 102)) := by
      unfold isN
      rw [Bool.or_eq_true, Bool.and_eq_true, hz]
      constructor
      · rintro (⟨p1, p2⟩ | p1)
        · exact Or.inl ⟨p1, of_decide_eq_true p2⟩
        · exact Or.inr (of_decide_eq_true p1)
      · rintro (⟨p1, p2⟩ | p1)
        · exact Or.inl ⟨p1, decide_eq_true p2⟩
        · exact Or.inr (decide_eq_true p1)
    refine ef_istore_n (pc := 43) d103_43 (ls' := [_, _, _]) rfl ?_
    refine ef_iload_n (pc := 44) d103_44 rfl ?_
    refine ef_bipush (pc := 45) d103_45 (by decide) ?_
    refine ef_bipush (pc := 47) d103_47 (by decide) ?_
    refine ef_callS (pc := 49) d103_49 lm_8_148 (as := [_, _, _]) rfl rfl rfl (Nat.le_of_ble_eq_true rfl) rfl (Nat.le_of_ble_eq_true rfl) ?_
    refine Ec.imp (c93) ?_
    rintro r49 u49 ⟨rfl, rfl⟩
    refine ef_if_ne (pc := 52) d103_52 (t := 66) rfl (fun h52 => ?_) (fun h52 => ?_)
    · have hf2 := of_decide_eq_true (b01_f h52)
      have hgood : z = true ∨ (97 ≤ hrL T a ∧ hrL T a ≤ 102) := Or.inr hf2
      have hlt9 : a < T.length := by
        rcases hgood with h | h
        · have h9 := of_decide_eq_true (hz.mp h).1
          have := back 120 122 (by decide) h9
          exact hr_lt (by omega)
        · exact (keyN h).2
      have hpe : hrL T a = pkL T a := hr_eq hlt9
      have hisn : isN b (pkL T a) = true := isNe.mpr (by rw [← hpe]; exact hgood)
      refine ef_aload_n (pc := 66) d103_66 rfl ?_
      refine ef_dup (pc := 67) d103_67 rfl ?_
      refine eg_getI (pc := 68) d103_68 lf_8_161 (by assumption) (by decide) ?_
      rw [h6]
      refine ef_iconst (pc := 71) d103_71 (by decide) ?_
      refine ef_iadd (pc := 72) d103_72 (z := ((a + 1 : Nat) : Int)) (by omega) ⟨by omega, by omega⟩ ?_
      refine eg_putI (pc := 73) d103_73 pf_103_161 (by assumption) (by decide) ?_
      refine ef_iload_n (pc := 76) d103_76 rfl ?_
      refine ef_if_eq (pc := 77) d103_77 (t := 90) rfl (fun h77 => ?_) (fun h77 => ?_)
      · have hzf := b01_t h77
        have hn7 : 97 ≤ pkL T a ∧ pkL T a ≤ 102 := by
          rcases isNe.mp hisn with h | h
          · rw [hzf] at h; cases h
          · exact h
        have hv : nmM (pkL T a) = hrL T a - 97 := by unfold nmM; rw [if_pos (by omega), hpe]
        refine ef_iload_n (pc := 90) d103_90 rfl ?_
        refine ef_bipush (pc := 91) d103_91 (by decide) ?_
        refine ef_isub (pc := 93) d103_93 rfl ⟨by omega, by omega⟩ ?_
        refine ef_iret (pc := 94) d103_94 rfl ?_
        exact Or.inl ⟨hisn, hlt9, by rw [hv], rfl⟩
      · have hzt := b01_f h77
        have h9 := of_decide_eq_true (hz.mp hzt).1
        have hv : nmM (pkL T a) = 6 + hrL T a - 120 := by unfold nmM; rw [if_neg (by omega), hpe]; omega
        refine ef_bipush (pc := 80) d103_80 (by decide) ?_
        refine ef_iload_n (pc := 82) d103_82 rfl ?_
        refine ef_iadd (pc := 83) d103_83 rfl ⟨by omega, by omega⟩ ?_
        refine ef_bipush (pc := 84) d103_84 (by decide) ?_
        refine ef_isub (pc := 86) d103_86 rfl ⟨by omega, by omega⟩ ?_
        refine ef_goto (pc := 87) d103_87 (t := 94) rfl ?_
        refine ef_iret (pc := 94) d103_94 rfl ?_
        exact Or.inl ⟨hisn, hlt9, by rw [hv], rfl⟩
    · have hf2 := of_decide_eq_false (b01_t h52)
      refine ef_iload_n (pc := 55) d103_55 rfl ?_
      refine ef_if_ne (pc := 56) d103_56 (t := 66) rfl (fun h56 => ?_) (fun h56 => ?_)
      · have hgood : z = true ∨ (97 ≤ hrL T a ∧ hrL T a ≤ 102) := Or.inl (b01_f h56)
        have hlt9 : a < T.length := by
          rcases hgood with h | h
          · have h9 := of_decide_eq_true (hz.mp h).1
            have := back 120 122 (by decide) h9
            exact hr_lt (by omega)
          · exact (keyN h).2
        have hpe : hrL T a = pkL T a := hr_eq hlt9
        have hisn : isN b (pkL T a) = true := isNe.mpr (by rw [← hpe]; exact hgood)
        refine ef_aload_n (pc := 66) d103_66 rfl ?_
        refine ef_dup (pc := 67) d103_67 rfl ?_
        refine eg_getI (pc := 68) d103_68 lf_8_161 (by assumption) (by decide) ?_
        rw [h6]
        refine ef_iconst (pc := 71) d103_71 (by decide) ?_
        refine ef_iadd (pc := 72) d103_72 (z := ((a + 1 : Nat) : Int)) (by omega) ⟨by omega, by omega⟩ ?_
        refine eg_putI (pc := 73) d103_73 pf_103_161 (by assumption) (by decide) ?_
        refine ef_iload_n (pc := 76) d103_76 rfl ?_
        refine ef_if_eq (pc := 77) d103_77 (t := 90) rfl (fun h77 => ?_) (fun h77 => ?_)
        · have hzf := b01_t h77
          have hn7 : 97 ≤ pkL T a ∧ pkL T a ≤ 102 := by
            rcases isNe.mp hisn with h | h
            · rw [hzf] at h; cases h
            · exact h
          have hv : nmM (pkL T a) = hrL T a - 97 := by unfold nmM; rw [if_pos (by omega), hpe]
          refine ef_iload_n (pc := 90) d103_90 rfl ?_
          refine ef_bipush (pc := 91) d103_91 (by decide) ?_
          refine ef_isub (pc := 93) d103_93 rfl ⟨by omega, by omega⟩ ?_
          refine ef_iret (pc := 94) d103_94 rfl ?_
          exact Or.inl ⟨hisn, hlt9, by rw [hv], rfl⟩
        · have hzt := b01_f h77
          have h9 := of_decide_eq_true (hz.mp hzt).1
          have hv : nmM (pkL T a) = 6 + hrL T a - 120 := by unfold nmM; rw [if_neg (by omega), hpe]; omega
          refine ef_bipush (pc := 80) d103_80 (by decide) ?_
          refine ef_iload_n (pc := 82) d103_82 rfl ?_
          refine ef_iadd (pc := 83) d103_83 rfl ⟨by omega, by omega⟩ ?_
          refine ef_bipush (pc := 84) d103_84 (by decide) ?_
          refine ef_isub (pc := 86) d103_86 rfl ⟨by omega, by omega⟩ ?_
          refine ef_goto (pc := 87) d103_87 (t := 94) rfl ?_
          refine ef_iret (pc := 94) d103_94 rfl ?_
          exact Or.inl ⟨hisn, hlt9, by rw [hv], rfl⟩
      · have hzf := b01_t h56
        have hisf : isN b (pkL T a) = false := by
          cases hq : isN b (pkL T a)
          · rfl
          · rcases isNe.mp hq with h | h
            · rw [hzf] at h; cases h
            · have := back 97 102 (by decide) h; omega
        refine ef_aload_n (pc := 59) d103_59 rfl ?_
        refine ef_iconst (pc := 60) d103_60 (by decide) ?_
        refine ef_callV (pc := 61) d103_61 lm_8_170 (as := [_]) rfl rfl (by assumption) rfl rfl (by decide) (Nat.le_of_ble_eq_true rfl) rfl (Nat.le_of_ble_eq_true rfl) ?_
        refine Ec.imp (c100 hM) ?_
        rintro r61 u61 ⟨rfl, rfl⟩
        rw [if_pos h1]
        refine ef_iconst (pc := 64) d103_64 (by decide) ?_
        refine ef_iret (pc := 65) d103_65 rfl ?_
        exact Or.inr ⟨hisf, rfl, rfl⟩
  change Ef P _ 103 0 [some (vR m), none, none] [] _ _
  refine ef_aload_n (pc := 0) d103_0 rfl ?_
  refine ef_callV (pc := 1) d103_1 lm_8_177 (as := []) rfl rfl (by assumption) rfl rfl (by decide) (Nat.le_of_ble_eq_true rfl) rfl (Nat.le_of_ble_eq_true rfl) ?_
  refine Ec.imp (c101 hM h5 hT hTl h6) ?_
  rintro r1 u1 ⟨rfl, rfl⟩
  refine ef_istore_n (pc := 4) d103_4 (ls' := [_, _, _]) rfl ?_
  refine ef_iload_n (pc := 5) d103_5 rfl ?_
  refine ef_bipush (pc := 6) d103_6 (by decide) ?_
  refine ef_bipush (pc := 8) d103_8 (by decide) ?_
  refine ef_callS (pc := 10) d103_10 lm_8_148 (as := [_, _, _]) rfl rfl rfl (Nat.le_of_ble_eq_true rfl) rfl (Nat.le_of_ble_eq_true rfl) ?_
  refine Ec.imp (c93) ?_
  rintro r10 u10 ⟨rfl, rfl⟩
  refine ef_if_eq (pc := 13) d103_13 (t := 42) rfl (fun h13 => ?_) (fun h13 => ?_)
  · have hf2 := of_decide_eq_false (b01_t h13)
    have hnl : ¬ isL (pkL T a) = true := fun h => hf2 (by have h9 := of_decide_eq_true h; have := back 120 122 (by decide) h9; omega)
    refine ef_iconst (pc := 42) d103_42 (by decide) ?_
    first
    | exact rest true ⟨fun _ => ⟨decide_eq_true (by omega), by rw [k1]; exact hbt.mp h35⟩, fun _ => rfl⟩ _
    | exact rest false ⟨fun h => absurd h (by decide), fun h => absurd h.1 hnl⟩ _
    | exact rest false ⟨fun h => absurd h (by decide), fun h => absurd h.2 hnb⟩ _
  · have hf2 := of_decide_eq_true (b01_f h13)
    obtain ⟨k1, k2⟩ := keyL hf2
    have hbt := bt_iff (c := hrL T a) hb8 hf2
    refine ef_aload_n (pc := 16) d103_16 rfl ?_
    refine eg_getR (pc := 17) d103_17 lf_8_41 (by assumption) (by decide) (by assumption) ?_
    refine ef_aload_n (pc := 20) d103_20 rfl ?_
    refine eg_getI (pc := 21) d103_21 lf_8_174 (by assumption) (by decide) ?_
    try simp (disch := omega) only [u2_ne, u2_at, u2_ni, ur_ne, ur_eq]
    rw [h14]
    refine ef_iconst (pc := 24) d103_24 (by decide) ?_
    refine ef_isub (pc := 25) d103_25 (z := (t : Int)) (by omega) ⟨by omega, by omega⟩ ?_
    refine eg_iald (pc := 26) d103_26 (i := t) (by assumption) (rfl) (by omega) ?_
    try simp (disch := omega) only [u2_ne, u2_at, u2_ni, ur_ne, ur_eq]
    rw [hb]
    refine ef_iload_n (pc := 27) d103_27 rfl ?_
    refine ef_bipush (pc := 28) d103_28 (by decide) ?_
    refine ef_isub (pc := 30) d103_30 rfl ⟨by omega, by omega⟩ ?_
    refine ef_ishr (pc := 31) d103_31 rfl ?_
    refine ef_iconst (pc := 32) d103_32 (by decide) ?_
    refine ef_iand (pc := 33) d103_33 rfl ?_
    refine ef_iconst (pc := 34) d103_34 (by decide) ?_
    refine ef_icmp_ne (pc := 35) d103_35 (t := 42) rfl (fun h35 => ?_) (fun h35 => ?_)
    · have hnb : ¬ (bI (fun x y => x &&& y) b (bitF (pkL T a)) ≠ 0) := fun h => h35 (hbt.mpr (by rw [← k1]; exact h))
      refine ef_iconst (pc := 42) d103_42 (by decide) ?_
      first
      | exact rest true ⟨fun _ => ⟨decide_eq_true (by omega), by rw [k1]; exact hbt.mp h35⟩, fun _ => rfl⟩ _
      | exact rest false ⟨fun h => absurd h (by decide), fun h => absurd h.1 hnl⟩ _
      | exact rest false ⟨fun h => absurd h (by decide), fun h => absurd h.2 hnb⟩ _
    · refine ef_iconst (pc := 38) d103_38 (by decide) ?_
      refine ef_goto (pc := 39) d103_39 (t := 43) rfl ?_
      first
      | exact rest true ⟨fun _ => ⟨decide_eq_true (by omega), by rw [k1]; exact hbt.mp h35⟩, fun _ => rfl⟩ _
      | exact rest false ⟨fun h => absurd h (by decide), fun h => absurd h.1 hnl⟩ _
      | exact rest false ⟨fun h => absurd h (by decide), fun h => absurd h.2 hnb⟩ _
