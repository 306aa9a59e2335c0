/-! The model: reading. Written by wip/whole/gen/c9l.py. -/
def AlQ (g g' : Nat → Nat → Int) (m : Nat) : Prop := (∀ a, a ≠ m → a ≠ m + 12 → a ≠ m + 15 → a ≠ m + 19 → a ≠ m + 22 → a ≠ m + 27 → g' a = g a) ∧ (∀ f, f ≠ 28 → f ≠ 29 → f ≠ 30 → f ≠ 49 → g' m f = g m f) ∧ g' m 28 = 0 ∧ g' m 29 = 0 ∧ g' m 30 = 0 ∧ g' m 49 = 1 ∧ (∀ i, i < 21 → g' (m + 12) i = -1) ∧ (∀ i, i < 40 → g' (m + 15) i = -1) ∧ (∀ i, i < 30 → g' (m + 19) i = -1) ∧ (∀ i, i < 2040 → g' (m + 22) i = -1) ∧ g' (m + 27) 0 = 48
theorem c90 {P : Pg} {d : Nat} {u : Mm} {g : Nat → Nat → Int} {m : Nat} (hM : MdA u m) : Ec P d 90 [vR m] (sI u g) (fun x u' => ∃ g', u' = sI u g' ∧ x = .inl none ∧ AlQ g g' m) := by
  have s0 := hM.1
  have f18 : mF u m 18 = some (m + 12) := (hM.2 11 (by decide)).1
  have s18 : mS u (m + 12) = some (0, 21) := (hM.2 11 (by decide)).2
  have f21 : mF u m 21 = some (m + 15) := (hM.2 14 (by decide)).1
  have s21 : mS u (m + 15) = some (0, 40) := (hM.2 14 (by decide)).2
  have f25 : mF u m 25 = some (m + 19) := (hM.2 18 (by decide)).1
  have s25 : mS u (m + 19) = some (0, 30) := (hM.2 18 (by decide)).2
  have f31 : mF u m 31 = some (m + 22) := (hM.2 21 (by decide)).1
  have s31 : mS u (m + 22) = some (0, 2040) := (hM.2 21 (by decide)).2
  have f40 : mF u m 40 = some (m + 27) := (hM.2 26 (by decide)).1
  have s40 : mS u (m + 27) = some (0, 900) := (hM.2 26 (by decide)).2
  have l4 : ∀ i : Nat, i ≤ 2040 → ∀ g1, (∀ a, a ≠ m → a ≠ m + 12 → a ≠ m + 15 → a ≠ m + 19 → a ≠ m + 22 → g1 a = g a) → (∀ f, f ≠ 28 → f ≠ 29 → f ≠ 30 → g1 m f = g m f) → g1 m 28 = 0 → g1 m 29 = 0 → g1 m 30 = 0 → (∀ i, i < 21 → g1 (m + 12) i = -1) → (∀ i, i < 40 → g1 (m + 15) i = -1) → (∀ i, i < 30 → g1 (m + 19) i = -1) → (∀ j, j < i → g1 (m + 22) j = -1) → Ef P d 90 80 [some (vR m), some (vI (i : Int))] [] (sI u g1) (fun x u' => ∃ g', u' = sI u g' ∧ x = .inl none ∧ AlQ g g' m) := by
    refine nat_loop 2040 ?_
    intro i hi ih g1 a1 a2 a3 a4 a5 a6 a7 a8 a9
    refine ef_iload_n (pc := 80) d90_80 rfl ?_
    refine ef_sipush (pc := 81) d90_81 (by decide) ?_
    refine ef_icmp_ge (pc := 84) d90_84 (t := 100) rfl (fun h84 => ?_) (fun h84 => ?_)
    · have hii : i = 2040 := by omega
      refine ef_aload_n (pc := 100) d90_100 rfl ?_
      refine ef_iconst (pc := 101) d90_101 (by decide) ?_
      refine eg_putI (pc := 102) d90_102 pf_90_219 (by assumption) (by decide) ?_
      refine ef_aload_n (pc := 105) d90_105 rfl ?_
      refine eg_getR (pc := 106) d90_106 lf_8_89 (by assumption) (by decide) (by assumption) ?_
      refine ef_iconst (pc := 109) d90_109 (by decide) ?_
      refine ef_bipush (pc := 110) d90_110 (by decide) ?_
      refine eg_iast (pc := 112) d90_112 (i := 0) (by assumption) (rfl) (by decide) rfl ?_
      refine ef_vret (pc := 113) d90_113 rfl ?_
      refine ⟨_, rfl, rfl, fun a b0 b1 b2 b3 b4 b5 => by rw [u2_ne b5, u2_ne b0]; exact a1 a b0 b1 b2 b3 b4, fun f b0 b1 b2 b3 => by rw [u2_ne (by omega), u2_ni b3]; exact a2 f b0 b1 b2, ?_, ?_, ?_, ?_, ?_, ?_, ?_, ?_, ?_⟩
      · rw [u2_ne (by omega), u2_ni (by decide)]; exact a3
      · rw [u2_ne (by omega), u2_ni (by decide)]; exact a4
      · rw [u2_ne (by omega), u2_ni (by decide)]; exact a5
      · rw [u2_ne (by omega), u2_at]
      · intro j hj; rw [u2_ne (by omega), u2_ne (by omega)]; exact a6 j hj
      · intro j hj; rw [u2_ne (by omega), u2_ne (by omega)]; exact a7 j hj
      · intro j hj; rw [u2_ne (by omega), u2_ne (by omega)]; exact a8 j hj
      · intro j hj; rw [u2_ne (by omega), u2_ne (by omega)]; exact a9 j (by omega)
      · rw [u2_at]
    · have hlt : i < 2040 := by omega
      refine ef_aload_n (pc := 87) d90_87 rfl ?_
      refine eg_getR (pc := 88) d90_88 lf_8_74 (by assumption) (by decide) (by assumption) ?_
      refine ef_iload_n (pc := 91) d90_91 rfl ?_
      refine ef_iconst (pc := 92) d90_92 (by decide) ?_
      refine eg_iast (pc := 93) d90_93 (i := i) (by assumption) (rfl) (by omega) rfl ?_
      refine ef_iinc (pc := 94) d90_94 (ls' := [_, _]) (z := ((i + 1 : Nat) : Int)) rfl (by decide) (by omega) ⟨by omega, by omega⟩ rfl ?_
      refine ef_goto (pc := 97) d90_97 (t := 80) rfl ?_
      exact ih hlt _ (fun a b0 b1 b2 b3 b4 => by rw [u2_ne b4]; exact a1 a b0 b1 b2 b3 b4) (fun f b0 b1 b2 => by rw [u2_ne (by omega)]; exact a2 f b0 b1 b2) (by rw [u2_ne (by omega)]; exact a3) (by rw [u2_ne (by omega)]; exact a4) (by rw [u2_ne (by omega)]; exact a5) (fun j hj => by rw [u2_ne (by omega)]; exact a6 j hj) (fun j hj => by rw [u2_ne (by omega)]; exact a7 j hj) (fun j hj => by rw [u2_ne (by omega)]; exact a8 j hj) (fun j hj => by
        by_cases hji : j = i
        · subst hji; rw [u2_at]
        · rw [u2_ni hji]; exact a9 j (by omega))
  have l3 : ∀ i : Nat, i ≤ 30 → ∀ g1, (∀ a, a ≠ m + 12 → a ≠ m + 15 → a ≠ m + 19 → g1 a = g a) → (∀ i, i < 21 → g1 (m + 12) i = -1) → (∀ i, i < 40 → g1 (m + 15) i = -1) → (∀ j, j < i → g1 (m + 19) j = -1) → Ef P d 90 44 [some (vR m), some (vI (i : Int))] [] (sI u g1) (fun x u' => ∃ g', u' = sI u g' ∧ x = .inl none ∧ AlQ g g' m) := by
    refine nat_loop 30 ?_
    intro i hi ih g1 a1 p0 p1 a9
    refine ef_iload_n (pc := 44) d90_44 rfl ?_
    refine ef_bipush (pc := 45) d90_45 (by decide) ?_
    refine ef_icmp_ge (pc := 47) d90_47 (t := 63) rfl (fun h47 => ?_) (fun h47 => ?_)
    · have hii : i = 30 := by omega
      subst hii
      refine ef_aload_n (pc := 63) d90_63 rfl ?_
      refine ef_iconst (pc := 64) d90_64 (by decide) ?_
      refine eg_putI (pc := 65) d90_65 pf_90_209 (by assumption) (by decide) ?_
      refine ef_aload_n (pc := 68) d90_68 rfl ?_
      refine ef_iconst (pc := 69) d90_69 (by decide) ?_
      refine eg_putI (pc := 70) d90_70 pf_90_212 (by assumption) (by decide) ?_
      refine ef_aload_n (pc := 73) d90_73 rfl ?_
      refine ef_iconst (pc := 74) d90_74 (by decide) ?_
      refine eg_putZ (pc := 75) d90_75 pf_90_215 (by assumption) (by decide) (by omega) ?_
      refine ef_iconst (pc := 78) d90_78 (by decide) ?_
      refine ef_istore_n (pc := 79) d90_79 (ls' := [_, _]) rfl ?_
      refine l4 0 (Nat.zero_le _) _ (fun a b0 b1 b2 b3 b4 => by rw [u2_ne b0, u2_ne b0, u2_ne b0]; exact a1 a b1 b2 b3) (fun f b0 b1 b2 => by rw [u2_ni b2, u2_ni b1, u2_ni b0, a1 m (by omega) (by omega) (by omega)]) (by rw [u2_ni (by decide), u2_ni (by decide), u2_at]) (by rw [u2_ni (by decide), u2_at]) u2_at (fun j hj => by rw [u2_ne (by omega), u2_ne (by omega), u2_ne (by omega)]; exact p0 j hj) (fun j hj => by rw [u2_ne (by omega), u2_ne (by omega), u2_ne (by omega)]; exact p1 j hj) (fun j hj => by rw [u2_ne (by omega), u2_ne (by omega), u2_ne (by omega)]; exact a9 j hj) (fun j hj => absurd hj (by omega))
    · have hlt : i < 30 := by omega
      refine ef_aload_n (pc := 50) d90_50 rfl ?_
      refine eg_getR (pc := 51) d90_51 lf_8_65 (by assumption) (by decide) (by assumption) ?_
      refine ef_iload_n (pc := 54) d90_54 rfl ?_
      refine ef_iconst (pc := 55) d90_55 (by decide) ?_
      refine eg_iast (pc := 56) d90_56 (i := i) (by assumption) (rfl) (by omega) rfl ?_
      refine ef_iinc (pc := 57) d90_57 (ls' := [_, _]) (z := ((i + 1 : Nat) : Int)) rfl (by decide) (by omega) ⟨by omega, by omega⟩ rfl ?_
      refine ef_goto (pc := 60) d90_60 (t := 44) rfl ?_
      exact ih hlt _ (fun a b0 b1 b2 => by rw [u2_ne b2]; exact a1 a b0 b1 b2) (fun j hj => by rw [u2_ne (by omega)]; exact p0 j hj) (fun j hj => by rw [u2_ne (by omega)]; exact p1 j hj) (fun j hj => by
        by_cases hji : j = i
        · subst hji; rw [u2_at]
        · rw [u2_ni hji]; exact a9 j (by omega))
  have l2 : ∀ i : Nat, i ≤ 40 → ∀ g1, (∀ a, a ≠ m + 12 → a ≠ m + 15 → g1 a = g a) → (∀ i, i < 21 → g1 (m + 12) i = -1) → (∀ j, j < i → g1 (m + 15) j = -1) → Ef P d 90 23 [some (vR m), some (vI (i : Int))] [] (sI u g1) (fun x u' => ∃ g', u' = sI u g' ∧ x = .inl none ∧ AlQ g g' m) := by
    refine nat_loop 40 ?_
    intro i hi ih g1 a1 p0 a9
    refine ef_iload_n (pc := 23) d90_23 rfl ?_
    refine ef_bipush (pc := 24) d90_24 (by decide) ?_
    refine ef_icmp_ge (pc := 26) d90_26 (t := 42) rfl (fun h26 => ?_) (fun h26 => ?_)
    · have hii : i = 40 := by omega
      subst hii
      refine ef_iconst (pc := 42) d90_42 (by decide) ?_
      refine ef_istore_n (pc := 43) d90_43 (ls' := [_, _]) rfl ?_
      exact l3 0 (Nat.zero_le _) _ (fun a b0 b1 b2 => a1 a b0 b1) p0 a9 (fun j hj => absurd hj (by omega))
    · have hlt : i < 40 := by omega
      refine ef_aload_n (pc := 29) d90_29 rfl ?_
      refine eg_getR (pc := 30) d90_30 lf_8_53 (by assumption) (by decide) (by assumption) ?_
      refine ef_iload_n (pc := 33) d90_33 rfl ?_
      refine ef_iconst (pc := 34) d90_34 (by decide) ?_
      refine eg_iast (pc := 35) d90_35 (i := i) (by assumption) (rfl) (by omega) rfl ?_
      refine ef_iinc (pc := 36) d90_36 (ls' := [_, _]) (z := ((i + 1 : Nat) : Int)) rfl (by decide) (by omega) ⟨by omega, by omega⟩ rfl ?_
      refine ef_goto (pc := 39) d90_39 (t := 23) rfl ?_
      exact ih hlt _ (fun a b0 b1 => by rw [u2_ne b1]; exact a1 a b0 b1) (fun j hj => by rw [u2_ne (by omega)]; exact p0 j hj) (fun j hj => by
        by_cases hji : j = i
        · subst hji; rw [u2_at]
        · rw [u2_ni hji]; exact a9 j (by omega))
  have l1 : ∀ i : Nat, i ≤ 21 → ∀ g1, (∀ a, a ≠ m + 12 → g1 a = g a) → (∀ j, j < i → g1 (m + 12) j = -1) → Ef P d 90 2 [some (vR m), some (vI (i : Int))] [] (sI u g1) (fun x u' => ∃ g', u' = sI u g' ∧ x = .inl none ∧ AlQ g g' m) := by
    refine nat_loop 21 ?_
    intro i hi ih g1 a1  a9
    refine ef_iload_n (pc := 2) d90_2 rfl ?_
    refine ef_bipush (pc := 3) d90_3 (by decide) ?_
    refine ef_icmp_ge (pc := 5) d90_5 (t := 21) rfl (fun h5 => ?_) (fun h5 => ?_)
    · have hii : i = 21 := by omega
      subst hii
      refine ef_iconst (pc := 21) d90_21 (by decide) ?_
      refine ef_istore_n (pc := 22) d90_22 (ls' := [_, _]) rfl ?_
      exact l2 0 (Nat.zero_le _) _ (fun a b0 b1 => a1 a b0) a9 (fun j hj => absurd hj (by omega))
    · have hlt : i < 21 := by omega
      refine ef_aload_n (pc := 8) d90_8 rfl ?_
      refine eg_getR (pc := 9) d90_9 lf_8_44 (by assumption) (by decide) (by assumption) ?_
      refine ef_iload_n (pc := 12) d90_12 rfl ?_
      refine ef_iconst (pc := 13) d90_13 (by decide) ?_
      refine eg_iast (pc := 14) d90_14 (i := i) (by assumption) (rfl) (by omega) rfl ?_
      refine ef_iinc (pc := 15) d90_15 (ls' := [_, _]) (z := ((i + 1 : Nat) : Int)) rfl (by decide) (by omega) ⟨by omega, by omega⟩ rfl ?_
      refine ef_goto (pc := 18) d90_18 (t := 2) rfl ?_
      exact ih hlt _ (fun a b0 => by rw [u2_ne b0]; exact a1 a b0)  (fun j hj => by
        by_cases hji : j = i
        · subst hji; rw [u2_at]
        · rw [u2_ni hji]; exact a9 j (by omega))
  change Ef P _ 90 0 [some (vR m), none] [] _ _
  refine ef_iconst (pc := 0) d90_0 (by decide) ?_
  refine ef_istore_n (pc := 1) d90_1 (ls' := [_, _]) rfl ?_
  exact l1 0 (Nat.zero_le _) _ (fun a b0 => rfl) (fun j hj => absurd hj (by omega))
theorem rel_nil {g : Nat → Nat → Int} {m : Nat} (h1 : ∀ i, i < 21 → g (m + 12) i = -1) (h2 : ∀ i, i < 40 → g (m + 15) i = -1) (h3 : ∀ i, i < 30 → g (m + 19) i = -1) (h4 : g m 28 = 0) : Rel g m ([], ([], ([], (0, false)))) := by
  refine ⟨⟨fun q a b c => ?_, fun e he => absurd he (List.not_mem_nil), fun q q' a b a' b' c => ?_⟩, ⟨fun k a c => ?_, fun e he => absurd he (List.not_mem_nil), fun k k' a a' c => ?_⟩, ⟨fun k a c => ?_, fun e he => absurd he (List.not_mem_nil), fun k k' a a' c => ?_⟩, h4⟩
  · have := h1 q b; omega
  · have := h1 q b; omega
  · have := h2 k a; omega
  · have := h2 k a; omega
  · have := h3 k a; omega
  · have := h3 k a; omega
theorem mc_new {g3 g4 : Nat → Nat → Int} {m sz : Nat} {kd nm rp en : Nat → Int} {A : SS} (t3 : TrR g3 m kd nm rp en sz) (rel3 : Rel g3 m A) (hV : Vd kd nm sz A) (e29 : g3 m 29 = 0) (e30 : g3 m 30 = 0) (e49 : g3 m 49 = ((teS kd nm rp en A).length : Int)) (eW : Row (g3 (m + 27)) (teS kd nm rp en A)) (hl : (teS kd nm rp en A).length ≤ 240) (e22 : ∀ i, i < 2040 → g3 (m + 22) i = -1) (q1 : ∀ a, a ≠ m + 22 → a ≠ m + 23 → a ≠ m + 24 → g4 a = g3 a) (q2 : ∀ kk oo, kk < 40 → 1 ≤ oo → oo < 51 → Nw g3 m (rxS kd A) kk oo (g4 (m + 22) (51 * kk + oo))) (q3 : ∀ kk, kk < 40 → g4 (m + 23) kk = g3 (m + 15) kk) (q4 : ∀ oo, 1 ≤ oo → oo < 51 → g4 (m + 24) oo = oNum g3 m oo) : Mc g4 m kd nm rp en sz (A, ((rxS kd A).map (dtL [] [] 0), 0)) := by
  have o4 : ∀ x, oNum g4 m x = oNum g3 m x := fun x => by unfold oNum; rw [q1 _ (by omega) (by omega) (by omega), q1 _ (by omega) (by omega) (by omega)]
  refine ⟨t3.of (fun j h1 h2 => q1 _ (by omega) (by omega) (by omega)), rel3.same (fun j h1 h2 => q1 _ (by omega) (by omega) (by omega)) (by rw [q1 _ (by omega) (by omega) (by omega)]), hV, by rw [q1 _ (by omega) (by omega) (by omega)]; exact e29, by rw [q1 _ (by omega) (by omega) (by omega)]; exact e30, by rw [q1 _ (by omega) (by omega) (by omega)]; exact e49, by rw [q1 _ (by omega) (by omega) (by omega)]; exact eW, hl, ?_, fun _ x hx => by rw [q3 x hx, q1 _ (by omega) (by omega) (by omega)], fun _ x h1 h2 => by rw [q4 x h1 h2, o4], by show List.length (List.map _ _) = _; rw [List.length_map], fun x hx => ?_, by show (0 : Int) ≤ 0; omega⟩
  · intro a1 a2 h1 h2 h3
    rw [q1 (m + 15) (by omega) (by omega) (by omega), o4]
    have cw : CamW g3 m [] [] := fun kk oo b1 b2 b3 => ⟨(fun j w hw => by cases hw), fun _ => e22 _ (by omega)⟩
    have stb : Stb g3 m [] := ⟨fun kk _ w hw => absurd hw (List.not_mem_nil), fun oo _ _ w hw => absurd hw (List.not_mem_nil)⟩
    have := nw_cam (D0 := []) (rxS_srt hV) (R0 := []) (fun i j x y hi => absurd hi (by simp)) rfl cw stb (fun x hx => absurd hx (List.not_mem_nil)) h1 h2 h3 (q2 a1 a2 h1 h2 h3)
    rw [e29] at this
    exact this
  · obtain ⟨e2, -, rfl⟩ := List.mem_map.mp hx
    exact dtL_rg (fun y hy => absurd hy (List.not_mem_nil)) (by omega)
def RdW (m : Nat) (g g' : Nat → Nat → Int) : Prop := (∀ a, a ≠ m → (a < m + 2 ∨ (m + 34 < a ∧ a < m + 41) ∨ m + 42 < a) → g' a = g a) ∧ ∀ f, f ≠ 0 → f ≠ 1 → f ≠ 4 → f ≠ 5 → f ≠ 6 → f ≠ 14 → f ≠ 28 → f ≠ 29 → f ≠ 30 → f ≠ 34 → f ≠ 37 → f ≠ 38 → f ≠ 39 → f ≠ 48 → f ≠ 49 → f ≠ 57 → g' m f = g m f
theorem RdW.trans {m : Nat} {g g1 g2 : Nat → Nat → Int} (h : RdW m g g1) (k : RdW m g1 g2) : RdW m g g2 := ⟨fun a b c => (k.1 a b c).trans (h.1 a b c), fun f a b c d e i j l n p q r s t v w => (k.2 f a b c d e i j l n p q r s t v w).trans (h.2 f a b c d e i j l n p q r s t v w)⟩
theorem AlQ.rd {m : Nat} {g g' : Nat → Nat → Int} (h : AlQ g g' m) : RdW m g g' := ⟨fun a b c => h.1 a b (by omega) (by omega) (by omega) (by omega) (by omega), fun f a b c d e i j l n p q r s t v w => h.2.1 f j l n v⟩
theorem PaW.rd {m : Nat} {g g' : Nat → Nat → Int} (h : PaW m g g') : RdW m g g' := ⟨fun a b c => h.1 a b (by omega), fun f a b c d e i j l n p q r s t v w => h.2 f b c d e i⟩
theorem RFr.rd {m : Nat} {g g' : Nat → Nat → Int} (h : RFr g g' m) : RdW m g g' := ⟨fun a b c => h.1 a b (by omega) (by omega) (by omega), fun f a b c d e i j l n p q r s t v w => h.2 f j n p⟩
theorem DF2.rd {m : Nat} {g g' : Nat → Nat → Int} (h : DF2 g g' m) : RdW m g g' := ⟨fun a b c => h.1 a b (by omega) (by omega) (by omega), fun f a b c d e i j l n p q r s t v w => h.2 f n q r s t v⟩
theorem RdW.m {m f : Nat} {x : Int} {g g1 : Nat → Nat → Int} (h : RdW m g g1) (hf : f = 0 ∨ f = 1 ∨ f = 57) : RdW m g (u2 g1 m f x) := ⟨fun a b c => by rw [u2_ne b]; exact h.1 a b c, fun k a b c d e i j l n p q r s t v w => by rw [u2_ni (by omega)]; exact h.2 k a b c d e i j l n p q r s t v w⟩
theorem RdW.refl {m : Nat} {g : Nat → Nat → Int} : RdW m g g := ⟨fun _ _ _ => rfl, fun _ _ _ _ _ _ _ _ _ _ _ _ _ _ _ _ _ => rfl⟩
theorem c96 {P : Pg} {d : Nat} {u : Mm} {g : Nat → Nat → Int} {m : Nat} {W : List Int} {S0 : PS} {kF nF rF eF : Nat → Int} {hF : Nat → Nat} (hM : MdA u m) (hTF : TmOk kF nF eF 0 hF) (h2 : g m 2 = (W.length : Int)) (hW : Row (g (m + 1)) W) (hl : W.length ≤ 120) (hc : ∀ c, c ∈ W → 32 ≤ c ∧ c ≤ 126) (hS : S0.1 = 0 ∧ S0.2.1 = 0) : Ec P (d + 7) 96 [vR m] (sI u g) (fun x u' => ∃ g', u' = sI u g' ∧ RdW m g g' ∧ g' m 57 = 0 ∧ ((∃ e : Nat, (paF (nsp W) S0 = .inl e ∨ (e = 2 ∧ ∃ S', paF (nsp W) S0 = .inr S' ∧ bgF S'.2.2.1 S'.2.2.2.1 S'.2.2.2.2.1 S'.2.2.2.2.2 S'.2.1 = none)) ∧ x = .inl (some (vI 0)) ∧ g' m 0 = ((e + 1 : Nat) : Int) ∧ Mc g' m kF nF rF eF 0 (([], ([], ([], (0, false)))), ([], 0))) ∨ (∃ S' c', paF (nsp W) S0 = .inr S' ∧ bgF S'.2.2.1 S'.2.2.2.1 S'.2.2.2.2.1 S'.2.2.2.2.2 S'.2.1 = some c' ∧ x = .inl (some (vI (S'.2.1 : Int))) ∧ g' m 0 = 0 ∧ Mc g' m S'.2.2.1 S'.2.2.2.1 S'.2.2.2.2.1 S'.2.2.2.2.2 S'.2.1 c'))) := by
  have s0 := hM.1
  have tail : ∀ (gX : Nat → Nat → Int) (e : Nat), RdW m g gX → gX m 57 = 0 → gX m 1 = ((e + 1 : Nat) : Int) → (paF (nsp W) S0 = .inl e ∨ (e = 2 ∧ ∃ S', paF (nsp W) S0 = .inr S' ∧ bgF S'.2.2.1 S'.2.2.2.1 S'.2.2.2.2.1 S'.2.2.2.2.2 S'.2.1 = none)) → Ef P (d + 7) 96 61 [some (vR m)] [] (sI u gX) (fun x u' => ∃ g', u' = sI u g' ∧ RdW m g g' ∧ g' m 57 = 0 ∧ ((∃ e : Nat, (paF (nsp W) S0 = .inl e ∨ (e = 2 ∧ ∃ S', paF (nsp W) S0 = .inr S' ∧ bgF S'.2.2.1 S'.2.2.2.1 S'.2.2.2.2.1 S'.2.2.2.2.2 S'.2.1 = none)) ∧ x = .inl (some (vI 0)) ∧ g' m 0 = ((e + 1 : Nat) : Int) ∧ Mc g' m kF nF rF eF 0 (([], ([], ([], (0, false)))), ([], 0))) ∨ (∃ S' c', paF (nsp W) S0 = .inr S' ∧ bgF S'.2.2.1 S'.2.2.2.1 S'.2.2.2.2.1 S'.2.2.2.2.2 S'.2.1 = some c' ∧ x = .inl (some (vI (S'.2.1 : Int))) ∧ g' m 0 = 0 ∧ Mc g' m S'.2.2.1 S'.2.2.2.1 S'.2.2.2.2.1 S'.2.2.2.2.2 S'.2.1 c'))) := by
    intro gX e rX x57 x1 hcn
    refine ef_aload_n (pc := 61) d96_61 rfl ?_
    refine eg_getI (pc := 62) d96_62 lf_8_145 (by assumption) (by decide) ?_
    rw [x1]
    refine ef_if_leF (pc := 65) d96_65 (t := 85) rfl (by omega) ?_
    refine ef_aload_n (pc := 68) d96_68 rfl ?_
    refine ef_callV (pc := 69) d96_69 lm_8_138 (as := []) rfl rfl (by assumption) rfl rfl (by decide) (Nat.le_of_ble_eq_true rfl) rfl (Nat.le_of_ble_eq_true rfl) ?_
    refine Ec.imp (c90 hM) ?_
    rintro r69 u69 ⟨g7, rfl, rfl, a7⟩
    have t7 : TrR g7 m kF nF rF eF 0 := ⟨fun n hn => absurd hn (by omega), fun h => absurd h (by omega), fun h => absurd h (by omega)⟩
    have rel7 : Rel g7 m ([], ([], ([], (0, false)))) := rel_nil a7.2.2.2.2.2.2.1 a7.2.2.2.2.2.2.2.1 a7.2.2.2.2.2.2.2.2.1 a7.2.2.1
    refine ef_aload_n (pc := 72) d96_72 rfl ?_
    refine ef_callV (pc := 73) d96_73 lm_8_322 (as := []) rfl rfl (by assumption) rfl rfl (by decide) (Nat.le_of_ble_eq_true rfl) rfl (Nat.le_of_ble_eq_true rfl) ?_
    refine Ec.imp (Ec.deep (by omega) (c127 (d := 0) hM hTF t7 rel7 Vd.nil rfl)) ?_
    rintro r73 u73 ⟨g8, rfl, rfl, q1, q2, q3, q4⟩
    have z1 : g8 m 1 = ((e + 1 : Nat) : Int) := by rw [q1 _ (by omega) (by omega) (by omega), a7.2.1 1 (by decide) (by decide) (by decide) (by decide)]; exact x1
    refine ef_aload_n (pc := 76) d96_76 rfl ?_
    refine ef_aload_n (pc := 77) d96_77 rfl ?_
    refine eg_getI (pc := 78) d96_78 lf_8_145 (by assumption) (by decide) ?_
    rw [z1]
    refine ef_callV (pc := 81) d96_81 lm_8_152 (as := [_]) rfl rfl (by assumption) rfl rfl (by decide) (Nat.le_of_ble_eq_true rfl) rfl (Nat.le_of_ble_eq_true rfl) ?_
    refine Ec.imp (c94 hM) ?_
    rintro r81 u81 ⟨rfl, rfl⟩
    refine ef_iret (pc := 84) d96_84 rfl ?_
    have hmc := mc_new (g4 := g8) t7 rel7 Vd.nil a7.2.2.2.1 a7.2.2.2.2.1 (by rw [te_nil]; exact a7.2.2.2.2.2.1) (by rw [te_nil]; intro i c hi; cases i with
      | zero => cases hi; exact a7.2.2.2.2.2.2.2.2.2.2
      | succ i => cases hi) (by rw [te_nil]; decide) a7.2.2.2.2.2.2.2.2.2.1 q1 q2 q3 q4
    refine ⟨_, rfl, RdW.m ((rX.trans a7.rd).trans ⟨fun a b c => q1 a (by omega) (by omega) (by omega), fun f a b c d e i j l n p q r s t v w => by rw [q1 _ (by omega) (by omega) (by omega)]⟩) (Or.inl rfl), ?_, Or.inl ⟨e, hcn, rfl, u2_at, ?_⟩⟩
    · rw [u2_ni (by decide), q1 _ (by omega) (by omega) (by omega), a7.2.1 57 (by decide) (by decide) (by decide) (by decide)]; exact x57
    · exact hmc.fl (Or.inl rfl)
  change Ef P _ 96 0 [some (vR m)] [] _ _
  refine ef_aload_n (pc := 0) d96_0 rfl ?_
  refine ef_iconst (pc := 1) d96_1 (by decide) ?_
  refine eg_putI (pc := 2) d96_2 pf_96_141 (by assumption) (by decide) ?_
  refine ef_aload_n (pc := 5) d96_5 rfl ?_
  refine ef_iconst (pc := 6) d96_6 (by decide) ?_
  refine eg_putI (pc := 7) d96_7 pf_96_145 (by assumption) (by decide) ?_
  refine ef_aload_n (pc := 10) d96_10 rfl ?_
  refine ef_iconst (pc := 11) d96_11 (by decide) ?_
  refine eg_putZ (pc := 12) d96_12 pf_96_316 (by assumption) (by decide) (Or.inl rfl) ?_
  refine ef_aload_n (pc := 15) d96_15 rfl ?_
  refine ef_callV (pc := 16) d96_16 lm_8_138 (as := []) rfl rfl (by assumption) rfl rfl (by decide) (Nat.le_of_ble_eq_true rfl) rfl (Nat.le_of_ble_eq_true rfl) ?_
  refine Ec.imp (c90 hM) ?_
  rintro r16 u16 ⟨g1, rfl, rfl, a1⟩
  have r1 : RdW m g g1 := (((RdW.refl.m (Or.inl rfl)).m (Or.inr (Or.inl rfl))).m (Or.inr (Or.inr rfl))).trans a1.rd
  have b1 : ∀ f, f ≠ 28 → f ≠ 29 → f ≠ 30 → f ≠ 49 → f ≠ 0 → f ≠ 1 → f ≠ 57 → g1 m f = g m f := fun f c1 c2 c3 c4 c5 c6 c7 => by rw [a1.2.1 f c1 c2 c3 c4, u2_ni c7, u2_ni c6, u2_ni c5]
  have b57 : g1 m 57 = 0 := by rw [a1.2.1 57 (by decide) (by decide) (by decide) (by decide), u2_at]
  have b0 : g1 m 0 = 0 := by rw [a1.2.1 0 (by decide) (by decide) (by decide) (by decide), u2_ni (by decide), u2_ni (by decide), u2_at]
  have bb : g1 m 1 = 0 := by rw [a1.2.1 1 (by decide) (by decide) (by decide) (by decide), u2_ni (by decide), u2_at]
  have bt : g1 (m + 1) = g (m + 1) := by rw [a1.1 _ (by omega) (by omega) (by omega) (by omega) (by omega) (by omega), u2_ne (by omega), u2_ne (by omega), u2_ne (by omega)]
  refine ef_aload_n (pc := 19) d96_19 rfl ?_
  refine ef_callV (pc := 20) d96_20 lm_8_319 (as := []) rfl rfl (by assumption) rfl rfl (by decide) (Nat.le_of_ble_eq_true rfl) rfl (Nat.le_of_ble_eq_true rfl) ?_
  refine Ec.imp (Ec.deep (by omega) (c97 (d := d) (S0 := S0) (W := W) hM (by rw [b1 2 (by decide) (by decide) (by decide) (by decide) (by decide) (by decide) (by decide)]; exact h2) (by rw [bt]; exact hW) hl hc bb hS)) ?_
  rintro r20 u20 ⟨rfl, g2, rfl, p2, ⟨S4, hp, hb, h4, hTr, hfi⟩ | ⟨e, hp, hb⟩⟩
  · have r2 := r1.trans p2.rd
    have c57 : g2 m 57 = 0 := by rw [p2.2 57 (by decide) (by decide) (by decide) (by decide) (by decide)]; exact b57
    obtain ⟨⟨ht, hTm⟩, -⟩ := pa_ok hS.2 hp
    have hi2 : Rel g2 m ([], ([], ([], (0, false)))) := rel_nil (fun i hi => by rw [p2.1 _ (by omega) (by omega)]; exact a1.2.2.2.2.2.2.1 i hi) (fun i hi => by rw [p2.1 _ (by omega) (by omega)]; exact a1.2.2.2.2.2.2.2.1 i hi) (fun i hi => by rw [p2.1 _ (by omega) (by omega)]; exact a1.2.2.2.2.2.2.2.2.1 i hi) (by rw [p2.2 28 (by decide) (by decide) (by decide) (by decide) (by decide)]; exact a1.2.2.1)
    have c30 : g2 m 30 = 0 := by rw [p2.2 30 (by decide) (by decide) (by decide) (by decide) (by decide)]; exact a1.2.2.2.2.1
    have h50 := hTm.1.1
    refine ef_aload_n (pc := 23) d96_23 rfl ?_
    refine eg_getI (pc := 24) d96_24 lf_8_145 (by assumption) (by decide) ?_
    rw [hb]
    refine ef_if_neF (pc := 27) d96_27 (t := 61) rfl (rfl) ?_
    refine ef_aload_n (pc := 30) d96_30 rfl ?_
    refine ef_bipush (pc := 31) d96_31 (by decide) ?_
    refine ef_iconst (pc := 33) d96_33 (by decide) ?_
    refine ef_iconst (pc := 34) d96_34 (by decide) ?_
    refine ef_callV (pc := 35) d96_35 lm_8_310 (as := [_, _, _]) rfl rfl (by assumption) rfl rfl (by decide) (Nat.le_of_ble_eq_true rfl) rfl (Nat.le_of_ble_eq_true rfl) ?_
    refine Ec.imp (Ec.deep (by omega) (c108 (d := 0) (nn := 50) (q := 0) (l := 0) (mn := 0) (pl := -1) (FR := begF S4.2.2.1 S4.2.2.2.1 S4.2.2.2.2.2 S4.2.1) hM hTm hTr ⟨0, 0, 0, by decide, by decide, by decide, rfl, rfl⟩ (by decide) hfi (Nat.zero_le _) (Nat.le_refl _) hTr.2.2 hTm.1.2 ⟨0, rfl, by decide, rfl, fun h => absurd rfl h⟩ hi2 Vd.nil c30 (by show (0 : Int) ≤ _; decide) rfl)) ?_
    rintro r35 u35 ⟨g3, rfl, rfl, r3, ⟨f1, f2⟩ | ⟨f1, f2, f3, f4, -, -⟩⟩
    · have zr := r2.trans r3.rd
      have z57 : g3 m 57 = 0 := by rw [r3.2 57 (by decide) (by decide) (by decide)]; exact c57
      have zb : g3 m 1 = 0 := by rw [r3.2 1 (by decide) (by decide) (by decide)]; exact hb
      have hnb : ¬ ((begF S4.2.2.1 S4.2.2.2.1 S4.2.2.2.2.2 S4.2.1).2.2.2.2 = false ∧ (teS S4.2.2.1 S4.2.2.2.1 S4.2.2.2.2.1 S4.2.2.2.2.2 (begF S4.2.2.1 S4.2.2.2.1 S4.2.2.2.2.2 S4.2.1)).length ≤ 240) := fun hh => by rw [f1] at hh; cases hh.1
      refine ef_aload_n (pc := 38) d96_38 rfl ?_
      refine eg_getZ (pc := 39) d96_39 lf_8_215 (by assumption) (by decide) ?_
      rw [f2]
      refine ef_if_neT (pc := 42) d96_42 (t := 49) rfl (by decide) ?_
      refine ef_aload_n (pc := 49) d96_49 rfl ?_
      refine eg_getZ (pc := 50) d96_50 lf_8_215 (by assumption) (by decide) ?_
      rw [f2]
      refine ef_if_eqF (pc := 53) d96_53 (t := 61) rfl (by decide) ?_
      refine ef_aload_n (pc := 56) d96_56 rfl ?_
      refine ef_iconst (pc := 57) d96_57 (by decide) ?_
      refine ef_callV (pc := 58) d96_58 lm_8_170 (as := [_]) rfl rfl (by assumption) rfl rfl (by decide) (Nat.le_of_ble_eq_true rfl) rfl (Nat.le_of_ble_eq_true rfl) ?_
      refine Ec.imp (c100 hM) ?_
      rintro r58 u58 ⟨rfl, rfl⟩
      rw [if_pos zb]
      exact tail _ 2 (zr.m (Or.inr (Or.inl rfl))) (by rw [u2_ni (by decide)]; exact z57) u2_at (Or.inr ⟨rfl, S4, hp, by unfold bgF; exact if_neg hnb⟩)
    · have t3 : TrR g3 m S4.2.2.1 S4.2.2.2.1 S4.2.2.2.2.1 S4.2.2.2.2.2 S4.2.1 := hTr.of (fun j h1 h2 => r3.1 _ (by omega) (by omega) (by omega) (by omega))
      refine ef_aload_n (pc := 38) d96_38 rfl ?_
      refine eg_getZ (pc := 39) d96_39 lf_8_215 (by assumption) (by decide) ?_
      rw [f2]
      refine ef_if_neF (pc := 42) d96_42 (t := 49) rfl (rfl) ?_
      refine ef_aload_n (pc := 45) d96_45 rfl ?_
      refine ef_callV (pc := 46) d96_46 lm_8_313 (as := []) rfl rfl (by assumption) rfl rfl (by decide) (Nat.le_of_ble_eq_true rfl) rfl (Nat.le_of_ble_eq_true rfl) ?_
      refine Ec.imp (c113 (d := d) hM hTm t3 f3 f4 f2) ?_
      rintro r46 u46 ⟨g4, rfl, rfl, d4, ⟨y1, y2, y3, y4⟩ | ⟨y1, y2⟩⟩
      · have zr := (r2.trans r3.rd).trans d4.rd
        have zb : g4 m 1 = 0 := by rw [d4.2 1 (by decide) (by decide) (by decide) (by decide) (by decide) (by decide), r3.2 1 (by decide) (by decide) (by decide)]; exact hb
        have t4 : TrR g4 m S4.2.2.1 S4.2.2.2.1 S4.2.2.2.2.1 S4.2.2.2.2.2 S4.2.1 := t3.of (fun j h1 h2 => d4.1 _ (by omega) (by omega) (by omega) (by omega))
        have rel4 := f3.same (g' := g4) (fun j h1 h2 => d4.1 _ (by omega) (by omega) (by omega) (by omega)) (d4.2 28 (by decide) (by decide) (by decide) (by decide) (by decide) (by decide))
        refine ef_aload_n (pc := 49) d96_49 rfl ?_
        refine eg_getZ (pc := 50) d96_50 lf_8_215 (by assumption) (by decide) ?_
        rw [y2]
        refine ef_if_eqT (pc := 53) d96_53 (t := 61) rfl (rfl) ?_
        refine ef_aload_n (pc := 61) d96_61 rfl ?_
        refine eg_getI (pc := 62) d96_62 lf_8_145 (by assumption) (by decide) ?_
        rw [zb]
        refine ef_if_leT (pc := 65) d96_65 (t := 85) rfl (by decide) ?_
        refine ef_aload_n (pc := 85) d96_85 rfl ?_
        refine ef_callV (pc := 86) d96_86 lm_8_322 (as := []) rfl rfl (by assumption) rfl rfl (by decide) (Nat.le_of_ble_eq_true rfl) rfl (Nat.le_of_ble_eq_true rfl) ?_
        refine Ec.imp (Ec.deep (by omega) (c127 (d := 0) hM hTm t4 rel4 f4 rfl)) ?_
        rintro r86 u86 ⟨g5, rfl, rfl, q1, q2, q3, q4⟩
        have z4 : g5 m 4 = (S4.2.1 : Int) := by rw [q1 _ (by omega) (by omega) (by omega), d4.2 4 (by decide) (by decide) (by decide) (by decide) (by decide) (by decide), r3.2 4 (by decide) (by decide) (by decide)]; exact h4
        refine ef_aload_n (pc := 89) d96_89 rfl ?_
        refine eg_getI (pc := 90) d96_90 lf_8_167 (by assumption) (by decide) ?_
        rw [z4]
        refine ef_iret (pc := 93) d96_93 rfl ?_
        have hmc := mc_new (g4 := g5) t4 rel4 f4 (by rw [d4.2 29 (by decide) (by decide) (by decide) (by decide) (by decide) (by decide), r3.2 29 (by decide) (by decide) (by decide), p2.2 29 (by decide) (by decide) (by decide) (by decide) (by decide)]; exact a1.2.2.2.1) y2 y3 y4 y1 (fun i hi => by rw [d4.1 _ (by omega) (by omega) (by omega) (by omega), r3.1 _ (by omega) (by omega) (by omega) (by omega), p2.1 _ (by omega) (by omega)]; exact a1.2.2.2.2.2.2.2.2.2.1 i hi) q1 q2 q3 q4
        refine ⟨g5, rfl, zr.trans ⟨fun a b c => q1 a (by omega) (by omega) (by omega), fun f a b c d e i j l n p q r s t v w => by rw [q1 _ (by omega) (by omega) (by omega)]⟩, ?_, Or.inr ⟨S4, _, hp, by unfold bgF; exact if_pos ⟨f1, y1⟩, rfl, ?_, hmc⟩⟩
        · rw [q1 _ (by omega) (by omega) (by omega), d4.2 57 (by decide) (by decide) (by decide) (by decide) (by decide) (by decide), r3.2 57 (by decide) (by decide) (by decide)]; exact c57
        · rw [q1 _ (by omega) (by omega) (by omega), d4.2 0 (by decide) (by decide) (by decide) (by decide) (by decide) (by decide), r3.2 0 (by decide) (by decide) (by decide), p2.2 0 (by decide) (by decide) (by decide) (by decide) (by decide)]; exact b0
      · have zr := (r2.trans r3.rd).trans d4.rd
        have z57 : g4 m 57 = 0 := by rw [d4.2 57 (by decide) (by decide) (by decide) (by decide) (by decide) (by decide), r3.2 57 (by decide) (by decide) (by decide)]; exact c57
        have zb : g4 m 1 = 0 := by rw [d4.2 1 (by decide) (by decide) (by decide) (by decide) (by decide) (by decide), r3.2 1 (by decide) (by decide) (by decide)]; exact hb
        have hnb : ¬ ((begF S4.2.2.1 S4.2.2.2.1 S4.2.2.2.2.2 S4.2.1).2.2.2.2 = false ∧ (teS S4.2.2.1 S4.2.2.2.1 S4.2.2.2.2.1 S4.2.2.2.2.2 (begF S4.2.2.1 S4.2.2.2.1 S4.2.2.2.2.2 S4.2.1)).length ≤ 240) := fun hh => by omega
        refine ef_aload_n (pc := 49) d96_49 rfl ?_
        refine eg_getZ (pc := 50) d96_50 lf_8_215 (by assumption) (by decide) ?_
        rw [y2]
        refine ef_if_eqF (pc := 53) d96_53 (t := 61) rfl (by decide) ?_
        refine ef_aload_n (pc := 56) d96_56 rfl ?_
        refine ef_iconst (pc := 57) d96_57 (by decide) ?_
        refine ef_callV (pc := 58) d96_58 lm_8_170 (as := [_]) rfl rfl (by assumption) rfl rfl (by decide) (Nat.le_of_ble_eq_true rfl) rfl (Nat.le_of_ble_eq_true rfl) ?_
        refine Ec.imp (c100 hM) ?_
        rintro r58 u58 ⟨rfl, rfl⟩
        rw [if_pos zb]
        exact tail _ 2 (zr.m (Or.inr (Or.inl rfl))) (by rw [u2_ni (by decide)]; exact z57) u2_at (Or.inr ⟨rfl, S4, hp, by unfold bgF; exact if_neg hnb⟩)
  · have r2 := r1.trans p2.rd
    have c57 : g2 m 57 = 0 := by rw [p2.2 57 (by decide) (by decide) (by decide) (by decide) (by decide)]; exact b57
    refine ef_aload_n (pc := 23) d96_23 rfl ?_
    refine eg_getI (pc := 24) d96_24 lf_8_145 (by assumption) (by decide) ?_
    rw [hb]
    refine ef_if_neT (pc := 27) d96_27 (t := 61) rfl (by omega) ?_
    exact tail g2 e r2 c57 hb (Or.inl hp)
