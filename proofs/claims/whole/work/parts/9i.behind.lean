/-! The model: parts and processes parsed. Written by wip/whole/gen/c9i.py. -/
def Bdd (u : Mm) (g0 : Nat → Nat → Int) (m : Nat) (Q : Option Vl ⊕ (Nat × Nat) → Mm → Prop) (e : Nat) : Prop := ∀ g', Wk m g0 g' → g' m 1 = ((e + 1 : Nat) : Int) → Q (.inl none) (sI u g')
def HPd (P : Pg) (d : Nat) (u : Mm) (m : Nat) (Q : Option Vl ⊕ (Nat × Nat) → Mm → Prop) (g : Nat → Nat → Int) : Prop := Ef P (d + 4) 97 90 [some (vR m), some (vI 1)] [] (sI u g) Q
def QBd (P : Pg) (d : Nat) (m : Nat) (Q : Option Vl ⊕ (Nat × Nat) → Mm → Prop) (x : Option Vl ⊕ (Nat × Nat)) (u' : Mm) : Prop := ∃ z : Int, x = .inl (some (vI z)) ∧ Ef P (d + 4) 97 119 [some (vR m), some (vI 1)] [vI z] u' Q
def BHd (P : Pg) (d : Nat) (u : Mm) (m : Nat) (Q : Option Vl ⊕ (Nat × Nat) → Mm → Prop) (g : Nat → Nat → Int) : Prop := ∀ v3, Ef P (d + 3) 107 4 [some (vR m), some (vI 0), some (vI 1), v3] [] (sI u g) (QBd P d m Q)
theorem e97_0 {P : Pg} {d : Nat} {u : Mm} {g : Nat → Nat → Int} {m : Nat} {Q : Option Vl ⊕ (Nat × Nat) → Mm → Prop} (h : Q (.inl none) (sI u g)) : Ef P (d + 4) 97 90 [some (vR m), some (vI 0)] [] (sI u g) Q := by
  refine ef_iload_n (pc := 90) d97_90 rfl ?_
  refine ef_if_eqT (pc := 91) d97_91 (t := 146) rfl (rfl) ?_
  refine ef_vret (pc := 146) d97_146 rfl ?_
  exact h
theorem e97_m {P : Pg} {d : Nat} {u : Mm} {g : Nat → Nat → Int} {m : Nat} {Q : Option Vl ⊕ (Nat × Nat) → Mm → Prop} (h : Q (.inl none) (sI u g)) : Ef P (d + 4) 97 142 [some (vR m), some (vI 1)] [vI 0] (sI u g) Q := by
  refine ef_istore_n (pc := 142) d97_142 (ls' := [_, _]) rfl ?_
  refine ef_goto (pc := 143) d97_143 (t := 90) rfl ?_
  exact e97_0 h
theorem e97_n {P : Pg} {d : Nat} {u : Mm} {g : Nat → Nat → Int} {m : Nat} {Q : Option Vl ⊕ (Nat × Nat) → Mm → Prop} (h : Q (.inl none) (sI u g)) : Ef P (d + 4) 97 119 [some (vR m), some (vI 1)] [vI 0] (sI u g) Q := by
  refine ef_if_eqT (pc := 119) d97_119 (t := 126) rfl (rfl) ?_
  refine ef_iconst (pc := 126) d97_126 (by decide) ?_
  refine ef_goto (pc := 127) d97_127 (t := 142) rfl ?_
  exact e97_m h
theorem e97_y {P : Pg} {d : Nat} {u : Mm} {g : Nat → Nat → Int} {m : Nat} {Q : Option Vl ⊕ (Nat × Nat) → Mm → Prop} (h : HPd P d u m Q g) : Ef P (d + 4) 97 119 [some (vR m), some (vI 1)] [vI 1] (sI u g) Q := by
  refine ef_if_eqF (pc := 119) d97_119 (t := 126) rfl (by decide) ?_
  refine ef_iconst (pc := 122) d97_122 (by decide) ?_
  refine ef_goto (pc := 123) d97_123 (t := 142) rfl ?_
  refine ef_istore_n (pc := 142) d97_142 (ls' := [_, _]) rfl ?_
  refine ef_goto (pc := 143) d97_143 (t := 90) rfl ?_
  exact h
theorem b107_bad {P : Pg} {d : Nat} {u : Mm} {g : Nat → Nat → Int} {m : Nat} {Q : Option Vl ⊕ (Nat × Nat) → Mm → Prop} {z : Int} {v3 : Option Vl} (hM : MdA u m) (h1 : ¬ g m 1 = 0) (h : Q (.inl none) (sI u g)) : Ef P (d + 3) 107 4 [some (vR m), some (vI 0), some (vI z), v3] [] (sI u g) (QBd P d m Q) := by
  have s0 := hM.1
  have f15 : mF u m 15 = some (m + 9) := (hM.2 8 (by decide)).1
  have s15 : mS u (m + 9) = some (0, 20) := (hM.2 8 (by decide)).2
  refine ef_iload_n (pc := 4) d107_4 rfl ?_
  refine ef_if_eq (pc := 5) d107_5 (t := 130) rfl (fun h5 => ?_) (fun h5 => ?_)
  · refine ef_iload_n (pc := 130) d107_130 rfl ?_
    refine ef_zret (pc := 131) d107_131 rfl (by omega) ?_
    exact ⟨0, rfl, e97_n h⟩
  · refine ef_aload_n (pc := 8) d107_8 rfl ?_
    refine eg_getI (pc := 9) d107_9 lf_8_145 (by assumption) (by decide) ?_
    refine ef_if_neT (pc := 12) d107_12 (t := 130) rfl (h1) ?_
    refine ef_iload_n (pc := 130) d107_130 rfl ?_
    refine ef_zret (pc := 131) d107_131 rfl (by omega) ?_
    exact ⟨0, rfl, e97_n h⟩
theorem b107_bar {P : Pg} {d : Nat} {u : Mm} {g : Nat → Nat → Int} {m : Nat} {Q : Option Vl ⊕ (Nat × Nat) → Mm → Prop} {T : List Int} {g0 : Nat → Nat → Int} {S : PS} {ow : Nat} {C : List Nat} {k : Nat} {b : Int} (hM : MdA u m) (h5 : g0 m 5 = (T.length : Int)) (hT : Row (g0 (m + 2)) T) (hTl : T.length ≤ 120) (hTc : ∀ c, c ∈ T → 0 < c ∧ c < 65536) (hR : Rl g0 g m T.length S ow C k b) (hs : g (m + 9) k ≠ 3) (hb : pkL T S.1 = 124) (h : HPd P d u m Q (u2 g m 6 ((S.1 + 1 : Nat) : Int))) : BHd P d u m Q g := by
  intro v3
  have s0 := hM.1
  have f15 : mF u m 15 = some (m + 9) := (hM.2 8 (by decide)).1
  have s15 : mS u (m + 9) = some (0, 20) := (hM.2 8 (by decide)).2
  obtain ⟨w, r1, r6, r4, r14, r9, ro, rb, rb8, rw', rn, rs, ro2, rc⟩ := id hR
  have T5 : ∀ {g2 : Nat → Nat → Int}, Wk m g0 g2 → g2 m 5 = (T.length : Int) := fun h => by rw [h.2 5 (by decide) (by decide) (by decide) (by decide)]; exact h5
  have T2 : ∀ {g2 : Nat → Nat → Int}, Wk m g0 g2 → Row (g2 (m + 2)) T := fun h => by rw [h.1 (m + 2) (by omega) (by omega)]; exact hT
  have h124 := (hr_pk (T := T) (a := S.1) (c := 124) (by decide)).mpr hb
  have hlt := hr_lt (T := T) (a := S.1) (by omega)
  refine ef_iload_n (pc := 4) d107_4 rfl ?_
  refine ef_if_eqF (pc := 5) d107_5 (t := 130) rfl (by decide) ?_
  refine ef_aload_n (pc := 8) d107_8 rfl ?_
  refine eg_getI (pc := 9) d107_9 lf_8_145 (by assumption) (by decide) ?_
  rw [r1]
  refine ef_if_neF (pc := 12) d107_12 (t := 130) rfl (rfl) ?_
  refine ef_aload_n (pc := 15) d107_15 rfl ?_
  refine eg_getI (pc := 16) d107_16 lf_8_174 (by assumption) (by decide) ?_
  rw [r14]
  refine ef_if_leF (pc := 19) d107_19 (t := 130) rfl (by omega) ?_
  refine ef_iload_n (pc := 22) d107_22 rfl ?_
  refine ef_if_neF (pc := 23) d107_23 (t := 130) rfl (rfl) ?_
  refine ef_aload_n (pc := 26) d107_26 rfl ?_
  refine eg_getR (pc := 27) d107_27 lf_8_35 (by assumption) (by decide) (by assumption) ?_
  refine ef_aload_n (pc := 30) d107_30 rfl ?_
  refine eg_getI (pc := 31) d107_31 lf_8_174 (by assumption) (by decide) ?_
  rw [r14]
  refine ef_iconst (pc := 34) d107_34 (by decide) ?_
  refine ef_isub (pc := 35) d107_35 (z := (k : Int)) (by omega) ⟨by omega, by omega⟩ ?_
  refine eg_iald (pc := 36) d107_36 (i := k) (by assumption) (rfl) (by omega) ?_
  refine ef_istore_n (pc := 37) d107_37 (ls' := [_, _, _, _]) rfl ?_
  refine ef_iload_n (pc := 38) d107_38 rfl ?_
  refine ef_iconst (pc := 39) d107_39 (by decide) ?_
  refine ef_icmp_neT (pc := 40) d107_40 (t := 56) rfl (hs) ?_
  refine ef_aload_n (pc := 56) d107_56 rfl ?_
  refine ef_callV (pc := 57) d107_57 lm_8_177 (as := []) rfl rfl (by assumption) rfl rfl (by decide) (Nat.le_of_ble_eq_true rfl) rfl (Nat.le_of_ble_eq_true rfl) ?_
  refine Ec.imp (c101 hM (T5 w) (T2 w) hTl r6) ?_
  rintro r57 u57 ⟨rfl, rfl⟩
  refine ef_bipush (pc := 60) d107_60 (by decide) ?_
  refine ef_icmp_neF (pc := 62) d107_62 (t := 80) rfl (h124) ?_
  refine ef_aload_n (pc := 65) d107_65 rfl ?_
  refine ef_dup (pc := 66) d107_66 rfl ?_
  refine eg_getI (pc := 67) d107_67 lf_8_161 (by assumption) (by decide) ?_
  try simp (disch := omega) only [u2_ne, u2_at, u2_ni, ur_ne, ur_eq]
  rw [r6]
  refine ef_iconst (pc := 70) d107_70 (by decide) ?_
  refine ef_iadd (pc := 71) d107_71 (z := ((S.1 + 1 : Nat) : Int)) (by omega) ⟨by omega, by omega⟩ ?_
  refine eg_putI (pc := 72) d107_72 pf_107_161 (by assumption) (by decide) ?_
  refine ef_iconst (pc := 75) d107_75 (by decide) ?_
  refine ef_istore_n (pc := 76) d107_76 (ls' := [_, _, _, _]) rfl ?_
  refine ef_goto (pc := 77) d107_77 (t := 127) rfl ?_
  refine ef_goto (pc := 127) d107_127 (t := 4) rfl ?_
  refine ef_iload_n (pc := 4) d107_4 rfl ?_
  refine ef_if_eqF (pc := 5) d107_5 (t := 130) rfl (by decide) ?_
  refine ef_aload_n (pc := 8) d107_8 rfl ?_
  refine eg_getI (pc := 9) d107_9 lf_8_145 (by assumption) (by decide) ?_
  rw [u2_ni (by decide), r1]
  refine ef_if_neF (pc := 12) d107_12 (t := 130) rfl (rfl) ?_
  refine ef_aload_n (pc := 15) d107_15 rfl ?_
  refine eg_getI (pc := 16) d107_16 lf_8_174 (by assumption) (by decide) ?_
  rw [u2_ni (by decide), r14]
  refine ef_if_leF (pc := 19) d107_19 (t := 130) rfl (by omega) ?_
  refine ef_iload_n (pc := 22) d107_22 rfl ?_
  refine ef_if_neT (pc := 23) d107_23 (t := 130) rfl (by decide) ?_
  refine ef_iload_n (pc := 130) d107_130 rfl ?_
  refine ef_zret (pc := 131) d107_131 rfl (by omega) ?_
  exact ⟨1, rfl, e97_y h⟩
theorem b107_gd {P : Pg} {d : Nat} {u : Mm} {g : Nat → Nat → Int} {m : Nat} {Q : Option Vl ⊕ (Nat × Nat) → Mm → Prop} {k : Nat} (hM : MdA u m) (h1 : g m 1 = 0) (hk : k < 9) (hs : g (m + 9) (k + 1) = 3) (h14 : g m 14 = ((k + 1 + 1 : Nat) : Int)) (h : BHd P d u m Q (u2 g m 14 ((k + 1 : Nat) : Int))) : BHd P d u m Q g := by
  intro v3
  have s0 := hM.1
  have f15 : mF u m 15 = some (m + 9) := (hM.2 8 (by decide)).1
  have s15 : mS u (m + 9) = some (0, 20) := (hM.2 8 (by decide)).2
  refine ef_iload_n (pc := 4) d107_4 rfl ?_
  refine ef_if_eqF (pc := 5) d107_5 (t := 130) rfl (by decide) ?_
  refine ef_aload_n (pc := 8) d107_8 rfl ?_
  refine eg_getI (pc := 9) d107_9 lf_8_145 (by assumption) (by decide) ?_
  rw [h1]
  refine ef_if_neF (pc := 12) d107_12 (t := 130) rfl (rfl) ?_
  refine ef_aload_n (pc := 15) d107_15 rfl ?_
  refine eg_getI (pc := 16) d107_16 lf_8_174 (by assumption) (by decide) ?_
  rw [h14]
  refine ef_if_leF (pc := 19) d107_19 (t := 130) rfl (by omega) ?_
  refine ef_iload_n (pc := 22) d107_22 rfl ?_
  refine ef_if_neF (pc := 23) d107_23 (t := 130) rfl (rfl) ?_
  refine ef_aload_n (pc := 26) d107_26 rfl ?_
  refine eg_getR (pc := 27) d107_27 lf_8_35 (by assumption) (by decide) (by assumption) ?_
  refine ef_aload_n (pc := 30) d107_30 rfl ?_
  refine eg_getI (pc := 31) d107_31 lf_8_174 (by assumption) (by decide) ?_
  rw [h14]
  refine ef_iconst (pc := 34) d107_34 (by decide) ?_
  refine ef_isub (pc := 35) d107_35 (z := ((k + 1 : Nat) : Int)) (by omega) ⟨by omega, by omega⟩ ?_
  refine eg_iald (pc := 36) d107_36 (i := k + 1) (by assumption) (rfl) (by omega) ?_
  rw [hs]
  refine ef_istore_n (pc := 37) d107_37 (ls' := [_, _, _, _]) rfl ?_
  refine ef_iload_n (pc := 38) d107_38 rfl ?_
  refine ef_iconst (pc := 39) d107_39 (by decide) ?_
  refine ef_icmp_neF (pc := 40) d107_40 (t := 56) rfl (rfl) ?_
  refine ef_aload_n (pc := 43) d107_43 rfl ?_
  refine ef_dup (pc := 44) d107_44 rfl ?_
  refine eg_getI (pc := 45) d107_45 lf_8_174 (by assumption) (by decide) ?_
  rw [h14]
  refine ef_iconst (pc := 48) d107_48 (by decide) ?_
  refine ef_isub (pc := 49) d107_49 (z := ((k + 1 : Nat) : Int)) (by omega) ⟨by omega, by omega⟩ ?_
  refine eg_putI (pc := 50) d107_50 pf_107_174 (by assumption) (by decide) ?_
  refine ef_goto (pc := 53) d107_53 (t := 127) rfl ?_
  refine ef_goto (pc := 127) d107_127 (t := 4) rfl ?_
  exact h _
theorem b107_br {P : Pg} {d : Nat} {u : Mm} {g : Nat → Nat → Int} {m : Nat} {Q : Option Vl ⊕ (Nat × Nat) → Mm → Prop} {T : List Int} {g0 : Nat → Nat → Int} {S : PS} {ow : Nat} {C : List Nat} {k : Nat} {b : Int} {s c : Int} (hM : MdA u m) (h5 : g0 m 5 = (T.length : Int)) (hT : Row (g0 (m + 2)) T) (hTl : T.length ≤ 120) (hTc : ∀ c, c ∈ T → 0 < c ∧ c < 65536) (hR : Rl g0 g m T.length S ow C (k + 1) b) (hs : g (m + 9) (k + 1) = s) (hsc : (s = 1 ∧ c = 93) ∨ (s = 2 ∧ c = 41)) (hb : ¬ pkL T S.1 = 124) (hno : ¬ pkL T S.1 = c → Bdd u g0 m Q 0) (h : pkL T S.1 = c → BHd P d u m Q (u2 (u2 g m 6 ((S.1 + 1 : Nat) : Int)) m 14 ((k + 1 : Nat) : Int))) : BHd P d u m Q g := by
  intro v3
  have s0 := hM.1
  have f15 : mF u m 15 = some (m + 9) := (hM.2 8 (by decide)).1
  have s15 : mS u (m + 9) = some (0, 20) := (hM.2 8 (by decide)).2
  obtain ⟨w, r1, r6, r4, r14, r9, ro, rb, rb8, rw', rn, rs, ro2, rc⟩ := id hR
  have T5 : ∀ {g2 : Nat → Nat → Int}, Wk m g0 g2 → g2 m 5 = (T.length : Int) := fun h => by rw [h.2 5 (by decide) (by decide) (by decide) (by decide)]; exact h5
  have T2 : ∀ {g2 : Nat → Nat → Int}, Wk m g0 g2 → Row (g2 (m + 2)) T := fun h => by rw [h.1 (m + 2) (by omega) (by omega)]; exact hT
  have h124 : ¬ hrL T S.1 = 124 := fun h => hb ((hr_pk (by decide)).mp h)
  have h3 : ¬ s = 3 := by omega
  have h0 : ¬ s = 0 := by omega
  refine ef_iload_n (pc := 4) d107_4 rfl ?_
  refine ef_if_eqF (pc := 5) d107_5 (t := 130) rfl (by decide) ?_
  refine ef_aload_n (pc := 8) d107_8 rfl ?_
  refine eg_getI (pc := 9) d107_9 lf_8_145 (by assumption) (by decide) ?_
  rw [r1]
  refine ef_if_neF (pc := 12) d107_12 (t := 130) rfl (rfl) ?_
  refine ef_aload_n (pc := 15) d107_15 rfl ?_
  refine eg_getI (pc := 16) d107_16 lf_8_174 (by assumption) (by decide) ?_
  rw [r14]
  refine ef_if_leF (pc := 19) d107_19 (t := 130) rfl (by omega) ?_
  refine ef_iload_n (pc := 22) d107_22 rfl ?_
  refine ef_if_neF (pc := 23) d107_23 (t := 130) rfl (rfl) ?_
  refine ef_aload_n (pc := 26) d107_26 rfl ?_
  refine eg_getR (pc := 27) d107_27 lf_8_35 (by assumption) (by decide) (by assumption) ?_
  refine ef_aload_n (pc := 30) d107_30 rfl ?_
  refine eg_getI (pc := 31) d107_31 lf_8_174 (by assumption) (by decide) ?_
  rw [r14]
  refine ef_iconst (pc := 34) d107_34 (by decide) ?_
  refine ef_isub (pc := 35) d107_35 (z := ((k + 1 : Nat) : Int)) (by omega) ⟨by omega, by omega⟩ ?_
  refine eg_iald (pc := 36) d107_36 (i := k + 1) (by assumption) (rfl) (by omega) ?_
  rw [hs]
  refine ef_istore_n (pc := 37) d107_37 (ls' := [_, _, _, _]) rfl ?_
  refine ef_iload_n (pc := 38) d107_38 rfl ?_
  refine ef_iconst (pc := 39) d107_39 (by decide) ?_
  refine ef_icmp_neT (pc := 40) d107_40 (t := 56) rfl (h3) ?_
  refine ef_aload_n (pc := 56) d107_56 rfl ?_
  refine ef_callV (pc := 57) d107_57 lm_8_177 (as := []) rfl rfl (by assumption) rfl rfl (by decide) (Nat.le_of_ble_eq_true rfl) rfl (Nat.le_of_ble_eq_true rfl) ?_
  refine Ec.imp (c101 hM (T5 w) (T2 w) hTl r6) ?_
  rintro r57 u57 ⟨rfl, rfl⟩
  refine ef_bipush (pc := 60) d107_60 (by decide) ?_
  refine ef_icmp_neT (pc := 62) d107_62 (t := 80) rfl (h124) ?_
  refine ef_iload_n (pc := 80) d107_80 rfl ?_
  refine ef_if_neT (pc := 81) d107_81 (t := 101) rfl (h0) ?_
  refine ef_aload_n (pc := 101) d107_101 rfl ?_
  refine ef_iload_n (pc := 102) d107_102 rfl ?_
  refine ef_iconst (pc := 103) d107_103 (by decide) ?_
  refine ef_icmp_ne (pc := 104) d107_104 (t := 112) rfl (fun h104 => ?_) (fun h104 => ?_)
  · have hc : c = 41 := by omega
    subst hc
    refine ef_bipush (pc := 112) d107_112 (by decide) ?_
    refine ef_callV (pc := 114) d107_114 lm_8_191 (as := [_]) rfl rfl (by assumption) rfl rfl (by decide) (Nat.le_of_ble_eq_true rfl) rfl (Nat.le_of_ble_eq_true rfl) ?_
    refine Ec.imp (c106 hM (T5 w) (T2 w) hTl r6 r1 (by omega)) ?_
    rintro r114 u114 ⟨rfl, ⟨hq, rfl⟩ | ⟨hq, rfl⟩⟩
    · have hpc := (hr_pk (T := T) (a := S.1) (by omega)).mp hq
      refine ef_aload_n (pc := 117) d107_117 rfl ?_
      refine ef_dup (pc := 118) d107_118 rfl ?_
      refine eg_getI (pc := 119) d107_119 lf_8_174 (by assumption) (by decide) ?_
      rw [u2_ni (by decide), r14]
      refine ef_iconst (pc := 122) d107_122 (by decide) ?_
      refine ef_isub (pc := 123) d107_123 (z := ((k + 1 : Nat) : Int)) (by omega) ⟨by omega, by omega⟩ ?_
      refine eg_putI (pc := 124) d107_124 pf_107_174 (by assumption) (by decide) ?_
      refine ef_goto (pc := 127) d107_127 (t := 4) rfl ?_
      exact h hpc _
    · have hpc := fun hh => hq ((hr_pk (T := T) (a := S.1) (by omega)).mpr hh)
      refine ef_aload_n (pc := 117) d107_117 rfl ?_
      refine ef_dup (pc := 118) d107_118 rfl ?_
      refine eg_getI (pc := 119) d107_119 lf_8_174 (by assumption) (by decide) ?_
      rw [u2_ni (by decide), r14]
      refine ef_iconst (pc := 122) d107_122 (by decide) ?_
      refine ef_isub (pc := 123) d107_123 (z := ((k + 1 : Nat) : Int)) (by omega) ⟨by omega, by omega⟩ ?_
      refine eg_putI (pc := 124) d107_124 pf_107_174 (by assumption) (by decide) ?_
      refine ef_goto (pc := 127) d107_127 (t := 4) rfl ?_
      refine b107_bad hM (by rw [u2_ni (by decide), u2_at]; decide) (hno hpc _ ((w.m (by decide)).m (by decide)) (by rw [u2_ni (by decide), u2_at]; rfl))
  · have hc : c = 93 := by omega
    subst hc
    refine ef_bipush (pc := 107) d107_107 (by decide) ?_
    refine ef_goto (pc := 109) d107_109 (t := 114) rfl ?_
    refine ef_callV (pc := 114) d107_114 lm_8_191 (as := [_]) rfl rfl (by assumption) rfl rfl (by decide) (Nat.le_of_ble_eq_true rfl) rfl (Nat.le_of_ble_eq_true rfl) ?_
    refine Ec.imp (c106 hM (T5 w) (T2 w) hTl r6 r1 (by omega)) ?_
    rintro r114 u114 ⟨rfl, ⟨hq, rfl⟩ | ⟨hq, rfl⟩⟩
    · have hpc := (hr_pk (T := T) (a := S.1) (by omega)).mp hq
      refine ef_aload_n (pc := 117) d107_117 rfl ?_
      refine ef_dup (pc := 118) d107_118 rfl ?_
      refine eg_getI (pc := 119) d107_119 lf_8_174 (by assumption) (by decide) ?_
      rw [u2_ni (by decide), r14]
      refine ef_iconst (pc := 122) d107_122 (by decide) ?_
      refine ef_isub (pc := 123) d107_123 (z := ((k + 1 : Nat) : Int)) (by omega) ⟨by omega, by omega⟩ ?_
      refine eg_putI (pc := 124) d107_124 pf_107_174 (by assumption) (by decide) ?_
      refine ef_goto (pc := 127) d107_127 (t := 4) rfl ?_
      exact h hpc _
    · have hpc := fun hh => hq ((hr_pk (T := T) (a := S.1) (by omega)).mpr hh)
      refine ef_aload_n (pc := 117) d107_117 rfl ?_
      refine ef_dup (pc := 118) d107_118 rfl ?_
      refine eg_getI (pc := 119) d107_119 lf_8_174 (by assumption) (by decide) ?_
      rw [u2_ni (by decide), r14]
      refine ef_iconst (pc := 122) d107_122 (by decide) ?_
      refine ef_isub (pc := 123) d107_123 (z := ((k + 1 : Nat) : Int)) (by omega) ⟨by omega, by omega⟩ ?_
      refine eg_putI (pc := 124) d107_124 pf_107_174 (by assumption) (by decide) ?_
      refine ef_goto (pc := 127) d107_127 (t := 4) rfl ?_
      refine b107_bad hM (by rw [u2_ni (by decide), u2_at]; decide) (hno hpc _ ((w.m (by decide)).m (by decide)) (by rw [u2_ni (by decide), u2_at]; rfl))
