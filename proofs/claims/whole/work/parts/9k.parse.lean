/-! The model: a text parsed. Written by wip/whole/gen/c9k.py. -/
theorem b107_rt {P : Pg} {d : Nat} {u : Mm} {g : Nat → Nat → Int} {m : Nat} {Q : Option Vl ⊕ (Nat × Nat) → Mm → Prop} {T : List Int} {g0 : Nat → Nat → Int} {S : PS} {ow : Nat} {C : List Nat} {b : Int} (hM : MdA u m) (h5 : g0 m 5 = (T.length : Int)) (hT : Row (g0 (m + 2)) T) (hTl : T.length ≤ 120) (hTc : ∀ c, c ∈ T → 0 < c ∧ c < 65536) (hR : Rl g0 g m T.length S ow C 0 b) (hs : g (m + 9) 0 = 0) (hb : ¬ pkL T S.1 = 124) (hno : S.1 < T.length → Bdd u g0 m Q 0) (h : ¬ S.1 < T.length → Q (.inl none) (sI u g)) : BHd P d u m Q g := by
  intro v3
  have s0 := hM.1
  have f15 : mF u m 15 = some (m + 9) := (hM.2 8 (by decide)).1
  have s15 : mS u (m + 9) = some (0, 20) := (hM.2 8 (by decide)).2
  obtain ⟨w, r1, r6, r4, r14, r9, ro, rb, rb8, rw', rn, rs, ro2, rc⟩ := id hR
  have T5 : ∀ {g2 : Nat → Nat → Int}, Wk m g0 g2 → g2 m 5 = (T.length : Int) := fun h => by rw [h.2 5 (by decide) (by decide) (by decide) (by decide)]; exact h5
  have T2 : ∀ {g2 : Nat → Nat → Int}, Wk m g0 g2 → Row (g2 (m + 2)) T := fun h => by rw [h.1 (m + 2) (by omega) (by omega)]; exact hT
  have h124 : ¬ hrL T S.1 = 124 := fun h => hb ((hr_pk (by decide)).mp h)
  refine ef_iload_n (pc := 4) d107_4 rfl ?_
  refine ef_if_eqF (pc := 5) d107_5 (t := 130) rfl (by decide) ?_
  refine ef_aload_n (pc := 8) d107_8 rfl ?_
  refine eg_getI (pc := 9) d107_9 lf_8_145 (by assumption) (by decide) ?_
  rw [r1]
  refine ef_if_neF (pc := 12) d107_12 (t := 130) rfl (rfl) ?_
  refine ef_aload_n (pc := 15) d107_15 rfl ?_
  refine eg_getI (pc := 16) d107_16 lf_8_174 (by assumption) (by decide) ?_
  rw [r14]
  refine ef_if_leF (pc := 19) d107_19 (t := 130) rfl (by omega) ?_
  refine ef_iload_n (pc := 22) d107_22 rfl ?_
  refine ef_if_neF (pc := 23) d107_23 (t := 130) rfl (rfl) ?_
  refine ef_aload_n (pc := 26) d107_26 rfl ?_
  refine eg_getR (pc := 27) d107_27 lf_8_35 (by assumption) (by decide) (by assumption) ?_
  refine ef_aload_n (pc := 30) d107_30 rfl ?_
  refine eg_getI (pc := 31) d107_31 lf_8_174 (by assumption) (by decide) ?_
  rw [r14]
  refine ef_iconst (pc := 34) d107_34 (by decide) ?_
  refine ef_isub (pc := 35) d107_35 (z := ((0 : Nat) : Int)) (by omega) ⟨by omega, by omega⟩ ?_
  refine eg_iald (pc := 36) d107_36 (i := 0) (by assumption) (rfl) (by omega) ?_
  rw [hs]
  refine ef_istore_n (pc := 37) d107_37 (ls' := [_, _, _, _]) rfl ?_
  refine ef_iload_n (pc := 38) d107_38 rfl ?_
  refine ef_iconst (pc := 39) d107_39 (by decide) ?_
  refine ef_icmp_neT (pc := 40) d107_40 (t := 56) rfl (by decide) ?_
  refine ef_aload_n (pc := 56) d107_56 rfl ?_
  refine ef_callV (pc := 57) d107_57 lm_8_177 (as := []) rfl rfl (by assumption) rfl rfl (by decide) (Nat.le_of_ble_eq_true rfl) rfl (Nat.le_of_ble_eq_true rfl) ?_
  refine Ec.imp (c101 hM (T5 w) (T2 w) hTl r6) ?_
  rintro r57 u57 ⟨rfl, rfl⟩
  refine ef_bipush (pc := 60) d107_60 (by decide) ?_
  refine ef_icmp_neT (pc := 62) d107_62 (t := 80) rfl (h124) ?_
  refine ef_iload_n (pc := 80) d107_80 rfl ?_
  refine ef_if_neF (pc := 81) d107_81 (t := 101) rfl (rfl) ?_
  refine ef_iconst (pc := 84) d107_84 (by decide) ?_
  refine ef_istore_n (pc := 85) d107_85 (ls' := [_, _, _, _]) rfl ?_
  refine ef_aload_n (pc := 86) d107_86 rfl ?_
  refine ef_callV (pc := 87) d107_87 lm_8_177 (as := []) rfl rfl (by assumption) rfl rfl (by decide) (Nat.le_of_ble_eq_true rfl) rfl (Nat.le_of_ble_eq_true rfl) ?_
  refine Ec.imp (c101 hM (T5 w) (T2 w) hTl r6) ?_
  rintro r87 u87 ⟨rfl, rfl⟩
  refine ef_if_lt (pc := 90) d107_90 (t := 127) rfl (fun h90 => ?_) (fun h90 => ?_)
  · have hnl : ¬ S.1 < T.length := fun hl => by
      rw [hr_eq hl] at h90
      have h9 := hTc _ (List.getElem_mem hl)
      unfold pkL at h90
      rw [List.getElem?_eq_getElem hl] at h90
      simp only at h90
      omega
    refine ef_goto (pc := 127) d107_127 (t := 4) rfl ?_
    refine ef_iload_n (pc := 4) d107_4 rfl ?_
    refine ef_if_eqT (pc := 5) d107_5 (t := 130) rfl (rfl) ?_
    refine ef_iload_n (pc := 130) d107_130 rfl ?_
    refine ef_zret (pc := 131) d107_131 rfl (by omega) ?_
    exact ⟨0, rfl, e97_n (h hnl)⟩
  · have hyl : S.1 < T.length := hr_lt (by omega)
    refine ef_aload_n (pc := 93) d107_93 rfl ?_
    refine ef_iconst (pc := 94) d107_94 (by decide) ?_
    refine ef_callV (pc := 95) d107_95 lm_8_170 (as := [_]) rfl rfl (by assumption) rfl rfl (by decide) (Nat.le_of_ble_eq_true rfl) rfl (Nat.le_of_ble_eq_true rfl) ?_
    refine Ec.imp (c100 hM) ?_
    rintro r95 u95 ⟨rfl, rfl⟩
    rw [if_pos r1]
    refine ef_goto (pc := 98) d107_98 (t := 127) rfl ?_
    refine ef_goto (pc := 127) d107_127 (t := 4) rfl ?_
    refine ef_iload_n (pc := 4) d107_4 rfl ?_
    refine ef_if_eqT (pc := 5) d107_5 (t := 130) rfl (rfl) ?_
    refine ef_iload_n (pc := 130) d107_130 rfl ?_
    refine ef_zret (pc := 131) d107_131 rfl (by omega) ?_
    exact ⟨0, rfl, e97_n (hno hyl _ (w.m (by decide)) u2_at)⟩
def PaW (m : Nat) (g g' : Nat → Nat → Int) : Prop := (∀ a, a ≠ m → (a < m + 2 ∨ m + 11 < a) → g' a = g a) ∧ ∀ f, f ≠ 1 → f ≠ 4 → f ≠ 5 → f ≠ 6 → f ≠ 14 → g' m f = g m f
theorem PaW.wk {m : Nat} {g g1 g2 : Nat → Nat → Int} (h : PaW m g g1) (k : Wk m g1 g2) : PaW m g g2 := ⟨fun a h1 h2 => (k.1 a h1 (by omega)).trans (h.1 a h1 h2), fun f a b c e i => (k.2 f a b e i).trans (h.2 f a b c e i)⟩
theorem c97 {P : Pg} {d : Nat} {u : Mm} {g : Nat → Nat → Int} {m : Nat} {W : List Int} {S0 : PS} (hM : MdA u m) (h2 : g m 2 = (W.length : Int)) (hW : Row (g (m + 1)) W) (hl : W.length ≤ 120) (hc : ∀ c, c ∈ W → 32 ≤ c ∧ c ≤ 126) (h1 : g m 1 = 0) (hS : S0.1 = 0 ∧ S0.2.1 = 0) : Ec P (d + 4) 97 [vR m] (sI u g) (fun x u' => x = .inl none ∧ ∃ g', u' = sI u g' ∧ PaW m g g' ∧ ((∃ S', paF (nsp W) S0 = .inr S' ∧ g' m 1 = 0 ∧ g' m 4 = (S'.2.1 : Int) ∧ TrR g' m S'.2.2.1 S'.2.2.2.1 S'.2.2.2.2.1 S'.2.2.2.2.2 S'.2.1 ∧ g' (m + 6) 50 = (if 0 < S'.2.1 then ((0 : Nat) : Int) else -1)) ∨ (∃ e : Nat, paF (nsp W) S0 = .inl e ∧ g' m 1 = ((e + 1 : Nat) : Int)))) := by
  have s0 := hM.1
  have f3 : mF u m 3 = some (m + 1) := (hM.2 0 (by decide)).1
  have s3 : mS u (m + 1) = some (0, 120) := (hM.2 0 (by decide)).2
  have f7 : mF u m 7 = some (m + 2) := (hM.2 1 (by decide)).1
  have s7 : mS u (m + 2) = some (0, 120) := (hM.2 1 (by decide)).2
  have f11 : mF u m 11 = some (m + 6) := (hM.2 5 (by decide)).1
  have s11 : mS u (m + 6) = some (0, 51) := (hM.2 5 (by decide)).2
  have hn120 : (nsp W).length ≤ 120 := Nat.le_trans nsp_len hl
  have hTc : ∀ c, c ∈ nsp W → 0 < c ∧ c < 65536 := fun c hc9 => by have := hc c (List.mem_filter.mp hc9).1; omega
  have loop : ∀ i, i ≤ W.length → ∀ g1, (∀ a, a ≠ m → a ≠ m + 2 → g1 a = g a) → (∀ f, f ≠ 5 → g1 m f = g m f) → g1 m 5 = ((nsp (W.take i)).length : Int) → Row (g1 (m + 2)) (nsp (W.take i)) → Ef P (d + 4) 97 7 [some (vR m), some (vI (i : Int))] [] (sI u g1) (fun x u' => x = .inl none ∧ ∃ g', u' = sI u g' ∧ PaW m g g' ∧ ((∃ S', paF (nsp W) S0 = .inr S' ∧ g' m 1 = 0 ∧ g' m 4 = (S'.2.1 : Int) ∧ TrR g' m S'.2.2.1 S'.2.2.2.1 S'.2.2.2.2.1 S'.2.2.2.2.2 S'.2.1 ∧ g' (m + 6) 50 = (if 0 < S'.2.1 then ((0 : Nat) : Int) else -1)) ∨ (∃ e : Nat, paF (nsp W) S0 = .inl e ∧ g' m 1 = ((e + 1 : Nat) : Int)))) := by
    refine nat_loop W.length ?_
    intro i hi ih g1 o1 m1 f5 r5
    have hni : (nsp (W.take i)).length ≤ i := Nat.le_trans nsp_len (by rw [List.length_take]; omega)
    have hwr : Row (g1 (m + 1)) W := by rw [o1 _ (by omega) (by omega)]; exact hW
    have e2 : g1 m 2 = (W.length : Int) := by rw [m1 2 (by decide)]; exact h2
    refine ef_iload_n (pc := 7) d97_7 rfl ?_
    refine ef_aload_n (pc := 8) d97_8 rfl ?_
    refine eg_getI (pc := 9) d97_9 lf_8_158 (by assumption) (by decide) ?_
    rw [e2]
    refine ef_icmp_ge (pc := 12) d97_12 (t := 57) rfl (fun h12 => ?_) (fun h12 => ?_)
    · have hii : i = W.length := by omega
      subst hii
      rw [List.take_length] at f5 r5
      refine ef_aload_n (pc := 57) d97_57 rfl ?_
      refine ef_iconst (pc := 58) d97_58 (by decide) ?_
      refine eg_putI (pc := 59) d97_59 pf_97_161 (by assumption) (by decide) ?_
      refine ef_aload_n (pc := 62) d97_62 rfl ?_
      refine ef_iconst (pc := 63) d97_63 (by decide) ?_
      refine eg_putI (pc := 64) d97_64 pf_97_167 (by assumption) (by decide) ?_
      refine ef_aload_n (pc := 67) d97_67 rfl ?_
      refine ef_iconst (pc := 68) d97_68 (by decide) ?_
      refine eg_putI (pc := 69) d97_69 pf_97_174 (by assumption) (by decide) ?_
      refine ef_aload_n (pc := 72) d97_72 rfl ?_
      refine eg_getR (pc := 73) d97_73 lf_8_26 (by assumption) (by decide) (by assumption) ?_
      refine ef_bipush (pc := 76) d97_76 (by decide) ?_
      refine ef_iconst (pc := 78) d97_78 (by decide) ?_
      refine eg_iast (pc := 79) d97_79 (i := 50) (by assumption) (rfl) (by decide) rfl ?_
      refine ef_aload_n (pc := 80) d97_80 rfl ?_
      refine ef_iconst (pc := 81) d97_81 (by decide) ?_
      refine ef_bipush (pc := 82) d97_82 (by decide) ?_
      refine ef_iconst (pc := 84) d97_84 (by decide) ?_
      refine ef_callV (pc := 85) d97_85 lm_8_194 (as := [_, _, _]) rfl rfl (by assumption) rfl rfl (by decide) (Nat.le_of_ble_eq_true rfl) rfl (Nat.le_of_ble_eq_true rfl) ?_
      refine Ec.imp (c98 (k := 0) hM (by rw [u2_ne (by omega), u2_at]; rfl) (by decide)) ?_
      rintro r85 u85 ⟨rfl, rfl⟩
      refine ef_iconst (pc := 88) d97_88 (by decide) ?_
      refine ef_istore_n (pc := 89) d97_89 (ls' := [_, _]) rfl ?_
      generalize hgz : u2 (u2 (u2 (u2 (u2 (u2 (u2 (u2 g1 m 6 0) m 4 0) m 14 0) (m + 6) 50 (-1)) (m + 9) 0 0) (m + 10) 0 50) (m + 11) 0 0) m 14 ((0 + 1 : Nat) : Int) = gz
      have zz : ∀ a, a ≠ m → a ≠ m + 6 → a ≠ m + 9 → a ≠ m + 10 → a ≠ m + 11 → gz a = g1 a := fun a b0 b1 b2 b3 b4 => by rw [← hgz, u2_ne b0, u2_ne b4, u2_ne b3, u2_ne b2, u2_ne b1, u2_ne b0, u2_ne b0, u2_ne b0]
      have zf : ∀ f, f ≠ 4 → f ≠ 6 → f ≠ 14 → gz m f = g1 m f := fun f b1 b2 b3 => by rw [← hgz, u2_ni b3, u2_ne (by omega), u2_ne (by omega), u2_ne (by omega), u2_ne (by omega), u2_ni b3, u2_ni b1, u2_ni b2]
      have zp : PaW m g gz := ⟨fun a b1 b2 => by rw [zz a b1 (by omega) (by omega) (by omega) (by omega)]; exact o1 a b1 (by omega), fun f a1 a4 a5 a6 a14 => by rw [zf f a4 a6 a14]; exact m1 f a5⟩
      have z5 : gz m 5 = ((nsp W).length : Int) := by rw [zf 5 (by decide) (by decide) (by decide)]; exact f5
      have zT : Row (gz (m + 2)) (nsp W) := by rw [zz _ (by omega) (by omega) (by omega) (by omega) (by omega)]; exact r5
      have zR : Rl gz gz m (nsp W).length S0 50 [] 0 0 := by
        refine ⟨Wk.refl, ?_, ?_, ?_, ?_, by omega, ?_, ?_, ⟨by decide, by decide⟩, ⟨?_, fun D l hD => absurd hD (by simp), trivial, List.Pairwise.nil⟩, by rw [hS.1]; exact Nat.zero_le _, by rw [hS.2]; omega, Or.inr rfl, fun c hc => absurd hc (List.not_mem_nil)⟩
        · rw [zf 1 (by decide) (by decide) (by decide), m1 1 (by decide)]; exact h1
        · rw [hS.1, ← hgz]; simp (disch := omega) only [u2_ne, u2_ni, u2_at]; rfl
        · rw [hS.2, ← hgz]; simp (disch := omega) only [u2_ne, u2_ni, u2_at]; rfl
        · rw [← hgz, u2_at]
        · rw [← hgz]; simp (disch := omega) only [u2_ne, u2_ni, u2_at]; rfl
        · rw [← hgz]; simp (disch := omega) only [u2_ne, u2_ni, u2_at]
        · rw [← hgz]; simp (disch := omega) only [u2_ne, u2_ni, u2_at]; rfl
      have z9 : gz (m + 9) 0 = 0 := by rw [← hgz]; simp (disch := omega) only [u2_ne, u2_ni, u2_at]
      refine proc_sim (T := nsp W) (g0 := gz) hM z5 zT hn120 hTc (part_sim hM z5 zT hn120 hTc 8) (k := 0) rfl zR (by rw [z9]; decide) (fun e he => ?_) (fun S4 C4 g4 h4 hR4 hS4 hF4 hn4 => ?_)
      · intro g4 w4 b4
        exact ⟨rfl, g4, rfl, zp.wk w4, Or.inr ⟨e, by unfold paF; rw [he]; rfl, b4⟩⟩
      · refine b107_rt hM z5 zT hn120 hTc hR4 (by rw [(hF4.2.2.2 0 (Nat.le_refl _)).1]; exact z9) hn4 (fun hl g5 w5 b5 => ?_) (fun hl => ?_)
        · exact ⟨rfl, g5, rfl, zp.wk w5, Or.inr ⟨0, by unfold paF; rw [h4, bdP_r]; exact if_pos hl, b5⟩⟩
        · rw [hS.2] at hS4
          obtain ⟨w4, t1, t6, t4, t14, t9, to', tb, tb8, tw, tn, ts, to2, tc⟩ := hR4
          rw [List.nil_append] at tw
          refine ⟨rfl, g4, rfl, zp.wk w4, Or.inl ⟨S4, by unfold paF; rw [h4, bdP_r]; exact if_neg hl, t1, t4, hS4.tr tw, ?_⟩⟩
          rw [tw.1]
          cases C4 with
          | nil => have : 0 = S4.2.1 := hS4.1; rw [if_neg (by omega)]; rfl
          | cons c C =>
            have h9 := (tl_le (C := c :: C) afF_lt hS4.1).2.2 (by simp)
            obtain ⟨rfl, _⟩ := hS4.1
            rw [if_pos h9]; rfl
    · have hlt : i < W.length := by omega
      obtain ⟨c, hci, -⟩ := get_of_lt hlt
      have hcr := hc c (List.mem_of_getElem? hci)
      have hv := hwr i c hci
      refine ef_aload_n (pc := 15) d97_15 rfl ?_
      refine eg_getR (pc := 16) d97_16 lf_8_7 (by assumption) (by decide) (by assumption) ?_
      refine ef_iload_n (pc := 19) d97_19 rfl ?_
      refine eg_iald (pc := 20) d97_20 (i := i) (by assumption) (rfl) (by omega) ?_
      rw [hv]
      refine ef_bipush (pc := 21) d97_21 (by decide) ?_
      refine ef_icmp_eq (pc := 23) d97_23 (t := 51) rfl (fun h23 => ?_) (fun h23 => ?_)
      · have hnx := nsp_take_n hci h23
        refine ef_iinc (pc := 51) d97_51 (ls' := [_, _]) (z := ((i + 1 : Nat) : Int)) rfl (by decide) (by omega) ⟨by omega, by omega⟩ rfl ?_
        refine ef_goto (pc := 54) d97_54 (t := 7) rfl ?_
        first
        | exact ih hlt g1 o1 m1 (by rw [hnx]; exact f5) (by rw [hnx]; exact r5)
        | exact ih hlt _ (fun a b1 b2 => by rw [u2_ne b1, u2_ne b2]; exact o1 a b1 b2) (fun f b1 => by rw [u2_ni b1, u2_ne (by omega)]; exact m1 f b1) (by rw [hnx, u2_at, List.length_append]; rfl) (by rw [hnx, u2_ne (by omega), u2_eq]; exact Row_app r5)
      · have hnx := nsp_take_y hci h23
        refine ef_aload_n (pc := 26) d97_26 rfl ?_
        refine eg_getR (pc := 27) d97_27 lf_8_13 (by assumption) (by decide) (by assumption) ?_
        refine ef_aload_n (pc := 30) d97_30 rfl ?_
        refine eg_getI (pc := 31) d97_31 lf_8_164 (by assumption) (by decide) ?_
        rw [f5]
        refine ef_aload_n (pc := 34) d97_34 rfl ?_
        refine eg_getR (pc := 35) d97_35 lf_8_7 (by assumption) (by decide) (by assumption) ?_
        refine ef_iload_n (pc := 38) d97_38 rfl ?_
        refine eg_iald (pc := 39) d97_39 (i := i) (by assumption) (rfl) (by omega) ?_
        rw [hv]
        refine eg_iast (pc := 40) d97_40 (i := (nsp (W.take i)).length) (by assumption) (rfl) (by omega) rfl ?_
        refine ef_aload_n (pc := 41) d97_41 rfl ?_
        refine ef_dup (pc := 42) d97_42 rfl ?_
        refine eg_getI (pc := 43) d97_43 lf_8_164 (by assumption) (by decide) ?_
        rw [u2_ne (by omega), f5]
        refine ef_iconst (pc := 46) d97_46 (by decide) ?_
        refine ef_iadd (pc := 47) d97_47 (z := (((nsp (W.take i)).length + 1 : Nat) : Int)) (by omega) ⟨by omega, by omega⟩ ?_
        refine eg_putI (pc := 48) d97_48 pf_97_164 (by assumption) (by decide) ?_
        refine ef_iinc (pc := 51) d97_51 (ls' := [_, _]) (z := ((i + 1 : Nat) : Int)) rfl (by decide) (by omega) ⟨by omega, by omega⟩ rfl ?_
        refine ef_goto (pc := 54) d97_54 (t := 7) rfl ?_
        first
        | exact ih hlt g1 o1 m1 (by rw [hnx]; exact f5) (by rw [hnx]; exact r5)
        | exact ih hlt _ (fun a b1 b2 => by rw [u2_ne b1, u2_ne b2]; exact o1 a b1 b2) (fun f b1 => by rw [u2_ni b1, u2_ne (by omega)]; exact m1 f b1) (by rw [hnx, u2_at, List.length_append]; rfl) (by rw [hnx, u2_ne (by omega), u2_eq]; exact Row_app r5)
  change Ef P _ 97 0 [some (vR m), none] [] _ _
  refine ef_aload_n (pc := 0) d97_0 rfl ?_
  refine ef_iconst (pc := 1) d97_1 (by decide) ?_
  refine eg_putI (pc := 2) d97_2 pf_97_164 (by assumption) (by decide) ?_
  refine ef_iconst (pc := 5) d97_5 (by decide) ?_
  refine ef_istore_n (pc := 6) d97_6 (ls' := [_, _]) rfl ?_
  exact loop 0 (Nat.zero_le _) _ (fun a b1 b2 => by rw [u2_ne b1]) (fun f b1 => by rw [u2_ni b1]) (by rw [u2_at]; rfl) (by intro i c hi; rw [show nsp (W.take 0) = [] from rfl] at hi; cases hi)
