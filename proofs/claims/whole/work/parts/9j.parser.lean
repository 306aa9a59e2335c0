/-! The model's parser does as the class's. Written by wip/whole/gen/c9j.py. -/
theorem wrap_ok {g0 g g1 g4 g5 : Nat → Nat → Int} {m n : Nat} {S S3 S4 : PS} {ow : Nat} {C C4 : List Nat} {k a : Nat} {s b b' kk c r : Int} (hR : Rl g0 g m n S ow C k b) (hp : PuN g0 g g1 m n S S3 ow C k s b' kk c r) (hR4 : Rl g0 g4 m n S4 S.2.1 ([] ++ C4) (k + 1) b') (h4 : Sgm g4 m S4 S3.2.1 C4) (hf : Frm m g1 g4 S3.2.1 S.2.1 [] (k + 1)) (hsm : SmB S3 S4 S3.2.1) (e1 : ∀ x, x ≠ m → g5 x = g4 x) (e2 : ∀ f, f ≠ 6 → f ≠ 14 → g5 m f = g4 m f) (e6 : g5 m 6 = (a : Int)) (e14 : g5 m 14 = ((k + 1 : Nat) : Int)) (ha : a ≤ n) : Rl g0 g5 m n (enP S.2.1 (a, S4.2)) ow (C ++ [S.2.1]) k b ∧ Sgm g5 m (enP S.2.1 (a, S4.2)) S.2.1 [S.2.1] ∧ Frm m g g5 S.2.1 ow C k := by
  obtain ⟨w, r1, r6, r4, r14, r9, ro, rb, rb8, rw', rn, rs, ro2, rc⟩ := hR
  obtain ⟨w4, t1, t6, t4, t14, t9, to', tb, tb8, tw, tn, ts, to2, tc⟩ := hR4
  obtain ⟨hs, ⟨a3, hS3⟩, r3, p9, q3, q5, q4, qr, ow2, fr1⟩ := hp
  have hz : S3.2.1 = S.2.1 + 1 := by rw [hS3]; rfl
  rw [hz] at h4 hf hsm
  have hle := (tl_le afF_lt h4.1).1
  obtain ⟨z1, z2, z3, z4⟩ := hsm S.2.1 (by omega)
  have y1 : S3.2.2.1 S.2.1 = kk := by rw [hS3]; exact u1_eq
  have y2 : S3.2.2.2.1 S.2.1 = c := by rw [hS3]; exact u1_eq
  have y3 : S3.2.2.2.2.1 S.2.1 = r := by rw [hS3]; exact u1_eq
  rw [y1] at z1; rw [y2] at z2; rw [y3] at z3
  obtain ⟨x3, x4, x5⟩ := hf.1 S.2.1 (by omega)
  rw [List.nil_append] at tw
  have hno : ow ≠ S.2.1 := by omega
  obtain ⟨x6, x7⟩ := hf.2.1 ow (by omega) hno
  have owo : OW g5 m ow (C ++ [S.2.1]) := by
    refine OW.to (g := g4) ⟨by rw [x6]; exact ow2.1, fun D l hD => by rw [x7]; exact ow2.2.1 D l hD, lnk_of ow2.2.2.1 (fun x hx => hf.2.2.1 x ?_ (List.not_mem_nil)), ow2.2.2.2⟩ (fun a h1 _ => e1 a h1)
    rcases List.mem_append.mp hx with h | h
    · have := rc x h; omega
    · rw [List.mem_singleton] at h; omega
  have st := hf.2.2.2 k (by omega)
  have st1 := fr1.2.2.2 k (Nat.le_refl _)
  refine ⟨⟨w4.trans ⟨fun a h3 _ => e1 a h3, fun f h1 h4 h6 h14 => e2 f h6 h14⟩, ?_, e6, ?_, e14, r9, ?_, ?_, rb8, owo, ha, ts, ?_, ?_⟩, ?_, ?_⟩
  · rw [e2 1 (by decide) (by decide)]; exact t1
  · rw [e2 4 (by decide) (by decide)]; exact t4
  · rw [e1 _ (by omega), st.2.1, st1.2.1]; exact ro
  · rw [e1 _ (by omega), st.2.2, st1.2.2]; exact rb
  · show ow < S4.2.1 ∨ ow = 50; omega
  · intro x hx
    show x < S4.2.1
    rcases List.mem_append.mp hx with h | h
    · have := rc x h; omega
    · rw [List.mem_singleton] at h; omega
  · have h5 : Sgm g5 m (a, S4.2) (S.2.1 + 1) C4 := h4.to e1 rfl
    refine Sgm.wrap h5 (tw.to (fun a h1 _ => e1 a h1)) ?_ ?_ ?_ ?_
    · rw [e1 _ (by omega), x3, q3]; exact congrArg kdM z1.symm
    · rw [e1 _ (by omega), x5, q5]; exact congrArg nmM z2.symm
    · rw [e1 _ (by omega), x4, q4]; exact z3.symm
    · show S4.2.2.2.2.1 S.2.1 = 0 ∨ S4.2.2.2.2.1 S.2.1 = 1; rw [z3]; exact qr
  · exact (Frm.trans2 (n := 0) fr1 hf (by omega) (fun c hc => absurd hc (List.not_mem_nil)) hs).to e1
def PartSt (P : Pg) (d : Nat) (u : Mm) (m : Nat) (Q : Option Vl ⊕ (Nat × Nat) → Mm → Prop) (T : List Int) (g0 : Nat → Nat → Int) (f : Nat) : Prop := ∀ (b : Int) (S : PS) (ow : Nat) (C : List Nat) (k : Nat) (g : Nat → Nat → Int), k + f = 8 → Rl g0 g m T.length S ow C k b → (∀ e, ptP (pkL T) f b S = .inl e → Bdd u g0 m Q e) → (∀ S' C' g', ptP (pkL T) f b S = .inr S' → Rl g0 g' m T.length S' ow (C ++ C') k b → Sgm g' m S' S.2.1 C' → Frm m g g' S.2.1 ow C k → BHd P d u m Q g') → HPd P d u m Q g
theorem lp_sim {P : Pg} {d : Nat} {u : Mm} {m : Nat} {Q : Option Vl ⊕ (Nat × Nat) → Mm → Prop} {T : List Int} {g0 : Nat → Nat → Int} (hM : MdA u m) (h5 : g0 m 5 = (T.length : Int)) (hT : Row (g0 (m + 2)) T) (hTl : T.length ≤ 120) (hTc : ∀ c, c ∈ T → 0 < c ∧ c < 65536) {f : Nat} (hp : PartSt P d u m Q T g0 f) {b : Int} {S : PS} {ow : Nat} {C : List Nat} {k : Nat} {g : Nat → Nat → Int} (hk : k + f = 8) (hR : Rl g0 g m T.length S ow C k b) (hs : g (m + 9) k ≠ 3) : ∀ (j : Nat) (S1 : PS) (C1 : List Nat) (g1 : Nat → Nat → Int), T.length < S1.1 + j → Rl g0 g1 m T.length S1 ow (C ++ C1) k b → Sgm g1 m S1 S.2.1 C1 → Frm m g g1 S.2.1 ow C k → (∀ e, lpP (pkL T) (ptP (pkL T) f b) j S1 = .inl e → Bdd u g0 m Q e) → (∀ S' C' g', lpP (pkL T) (ptP (pkL T) f b) j S1 = .inr S' → Rl g0 g' m T.length S' ow (C ++ C') k b → Sgm g' m S' S.2.1 C' → Frm m g g' S.2.1 ow C k → ¬ pkL T S'.1 = 124 → BHd P d u m Q g') → BHd P d u m Q g1 := by
  intro j
  induction j with
  | zero =>
    intro S1 C1 g1 hn hR1 _ _ _ _
    have := hR1.2.2.2.2.2.2.2.2.2.2.1
    omega
  | succ j ih =>
    intro S1 C1 g1 hn hR1 hS1 hF1 hbad hok
    by_cases h124 : pkL T S1.1 = 124
    · have hlt := (hr_lt2 (T := T) (a := S1.1) (by omega)).1
      refine b107_bar hM h5 hT hTl hTc hR1 (by rw [(hF1.2.2.2 k (Nat.le_refl _)).1]; exact hs) h124 ?_
      have hRA : Rl g0 (u2 g1 m 6 ((S1.1 + 1 : Nat) : Int)) m T.length (nxP S1) ow (C ++ C1) k b := hR1.m (fun a h => u2_ne h) (fun f h => u2_ni h) u2_at rfl (by show S1.1 + 1 ≤ _; omega)
      have hlp : lpP (pkL T) (ptP (pkL T) f b) (j + 1) S1 = bdP (ptP (pkL T) f b (nxP S1)) (lpP (pkL T) (ptP (pkL T) f b) j) := by rw [lpP, if_pos h124]
      rw [hlp] at hbad hok
      refine hp b (nxP S1) ow (C ++ C1) k _ hk hRA (fun e he => hbad e (by rw [he]; rfl)) (fun S2 C2 g2 h2 hR2 hS2 hF2 => ?_)
      rw [h2, bdP_r] at hbad hok
      have hpv := pt_pv f b (nxP S1) S2 hRA.2.2.2.2.2.2.2.2.2.2.2.1 h2
      have hmo := pt_mo f b (nxP S1) S2 h2
      have hmo1 : S1.1 + 1 ≤ S2.1 := hmo
      have hle : S.2.1 ≤ S1.2.1 := (tl_le afF_lt hS1.1).1
      rw [List.append_assoc] at hR2
      refine ih S2 (C1 ++ C2) g2 (by omega) hR2 ?_ ?_ hbad hok
      · have hSA : Sgm (u2 g1 m 6 ((S1.1 + 1 : Nat) : Int)) m (nxP S1) S.2.1 C1 := hS1.to (fun a h => u2_ne h) rfl
        exact Sgm.app (S := S) (S1 := nxP S1) hSA hS2 hF2 hpv.2.2.1 hpv.1 hR.2.2.2.2.2.2.2.2.2.2.2.2.2 hR.2.2.2.2.2.2.2.2.2.2.2.2.1 hRA.2.2.2.2.2.2.2.2.2.2.2.1
      · refine (hF1.to (g2 := u2 g1 m 6 ((S1.1 + 1 : Nat) : Int)) (fun a h => u2_ne h)).trans hF2 hle (Nat.le_refl _) (fun c hc hl => ?_)
        rcases List.mem_append.mp hc with h | h
        · exact h
        · have := ((tl_le afF_lt hS1.1).2.1 c h).1; omega
    · exact hok S1 C1 g1 (by rw [lpP, if_neg h124]) hR1 hS1 hF1 h124
theorem proc_sim {P : Pg} {d : Nat} {u : Mm} {m : Nat} {Q : Option Vl ⊕ (Nat × Nat) → Mm → Prop} {T : List Int} {g0 : Nat → Nat → Int} (hM : MdA u m) (h5 : g0 m 5 = (T.length : Int)) (hT : Row (g0 (m + 2)) T) (hTl : T.length ≤ 120) (hTc : ∀ c, c ∈ T → 0 < c ∧ c < 65536) {f : Nat} (hp : PartSt P d u m Q T g0 f) {b : Int} {S : PS} {ow : Nat} {C : List Nat} {k : Nat} {g : Nat → Nat → Int} (hk : k + f = 8) (hR : Rl g0 g m T.length S ow C k b) (hs : g (m + 9) k ≠ 3) (hbad : ∀ e, prP (pkL T) (ptP (pkL T) f b) S = .inl e → Bdd u g0 m Q e) (hok : ∀ S' C' g', prP (pkL T) (ptP (pkL T) f b) S = .inr S' → Rl g0 g' m T.length S' ow (C ++ C') k b → Sgm g' m S' S.2.1 C' → Frm m g g' S.2.1 ow C k → ¬ pkL T S'.1 = 124 → BHd P d u m Q g') : HPd P d u m Q g := by
  unfold prP at hbad hok
  refine hp b S ow C k g hk hR (fun e he => hbad e (by rw [he]; rfl)) (fun S1 C1 g1 h1 hR1 hS1 hF1 => ?_)
  rw [h1, bdP_r] at hbad hok
  exact lp_sim hM h5 hT hTl hTc hp hk hR hs 121 S1 C1 g1 (by omega) hR1 hS1 hF1 hbad hok
theorem pr_sm {K : Nat → Int} {f : Nat} {b : Int} {S S' : PS} (h : S.2.1 ≤ 50) (h1 : prP K (ptP K f b) S = .inr S') : SmB S S' S.2.1 := (pr_pv (f := f) (fun S S' h h1 => pt_pv f b S S' h h1) h h1).2.2.1
theorem part_step {P : Pg} {d : Nat} {u : Mm} {m : Nat} {Q : Option Vl ⊕ (Nat × Nat) → Mm → Prop} {T : List Int} {g0 : Nat → Nat → Int} (hM : MdA u m) (h5 : g0 m 5 = (T.length : Int)) (hT : Row (g0 (m + 2)) T) (hTl : T.length ≤ 120) (hTc : ∀ c, c ∈ T → 0 < c ∧ c < 65536) {f : Nat} (hpp : ∀ f', f = f' + 1 → PartSt P d u m Q T g0 f') : PartSt P d u m Q T g0 f := by
  intro b S ow C k g hk hR hbad hok
  obtain ⟨w, r1, r6, r4, r14, r9, ro, rb, rb8, rw', rn, rs, ro2, rc⟩ := id hR
  have s0 := hM.1
  show Ef P (d + 4) 97 90 [some (vR m), some (vI 1)] [] (sI u g) Q
  refine ef_iload_n (pc := 90) d97_90 rfl ?_
  refine ef_if_eqF (pc := 91) d97_91 (t := 146) rfl (by decide) ?_
  refine ef_aload_n (pc := 94) d97_94 rfl ?_
  refine eg_getI (pc := 95) d97_95 lf_8_145 (by assumption) (by decide) ?_
  rw [r1]
  refine ef_if_neF (pc := 98) d97_98 (t := 146) rfl (rfl) ?_
  refine ef_aload_n (pc := 101) d97_101 rfl ?_
  refine ef_callV (pc := 102) d97_102 lm_8_202 (as := []) rfl rfl (by assumption) rfl rfl (by decide) (Nat.le_of_ble_eq_true rfl) rfl (Nat.le_of_ble_eq_true rfl) ?_
  refine Ec.imp (c99 (d := d) hM h5 hT hTl hTc hR hk) ?_
  rintro r102 u102 ⟨g2, rfl, hx⟩
  rcases hx with ⟨rfl | rfl, e, he, hw2, hb1⟩ | ⟨rfl, S2, C2, h2, hR2, hS2, hF2⟩ | ⟨rfl, f', rfl, hx⟩
  · refine ef_if_eqT (pc := 105) d97_105 (t := 130) rfl (rfl) ?_
    refine ef_aload_n (pc := 130) d97_130 rfl ?_
    refine eg_getI (pc := 131) d97_131 lf_8_145 (by assumption) (by decide) ?_
    rw [hb1]
    refine ef_if_neT (pc := 134) d97_134 (t := 141) rfl (by omega) ?_
    refine ef_iconst (pc := 141) d97_141 (by decide) ?_
    exact e97_m (hbad e he g2 hw2 hb1)
  · refine ef_if_eqF (pc := 105) d97_105 (t := 130) rfl (by decide) ?_
    refine ef_aload_n (pc := 108) d97_108 rfl ?_
    refine eg_getI (pc := 109) d97_109 lf_8_145 (by assumption) (by decide) ?_
    rw [hb1]
    refine ef_if_neT (pc := 112) d97_112 (t := 126) rfl (by omega) ?_
    refine ef_iconst (pc := 126) d97_126 (by decide) ?_
    refine ef_goto (pc := 127) d97_127 (t := 142) rfl ?_
    exact e97_m (hbad e he g2 hw2 hb1)
  · have hBH : Ec P (d + 3) 107 [vR m] (sI u g2) (QBd P d m Q) := by
      change Ef P _ 107 0 [some (vR m), none, none, none] [] _ _
      refine ef_iconst (pc := 0) d107_0 (by decide) ?_
      refine ef_istore_n (pc := 1) d107_1 (ls' := [_, _, _, _]) rfl ?_
      refine ef_iconst (pc := 2) d107_2 (by decide) ?_
      refine ef_istore_n (pc := 3) d107_3 (ls' := [_, _, _, _]) rfl ?_
      exact hok S2 C2 g2 h2 hR2 hS2 hF2 _
    have q1 := hR2.2.1
    refine ef_if_eqF (pc := 105) d97_105 (t := 130) rfl (by decide) ?_
    refine ef_aload_n (pc := 108) d97_108 rfl ?_
    refine eg_getI (pc := 109) d97_109 lf_8_145 (by assumption) (by decide) ?_
    rw [q1]
    refine ef_if_neF (pc := 112) d97_112 (t := 126) rfl (rfl) ?_
    refine ef_aload_n (pc := 115) d97_115 rfl ?_
    refine ef_callV (pc := 116) d97_116 lm_8_206 (as := []) rfl rfl (by assumption) rfl rfl (by decide) (Nat.le_of_ble_eq_true rfl) rfl (Nat.le_of_ble_eq_true rfl) ?_
    refine Ec.imp (hBH) ?_
    rintro r116 u116 ⟨z, rfl, hz⟩
    exact hz
  · rcases hx with ⟨hpt, hRp, hs2, hF2⟩ | ⟨S3, c, hpt, hpu⟩ | ⟨S3, b', kk, c, r, hpt, hpu⟩
    · have q1 : g2 m 1 = 0 := hRp.2.1
      refine ef_if_eqT (pc := 105) d97_105 (t := 130) rfl (rfl) ?_
      refine ef_aload_n (pc := 130) d97_130 rfl ?_
      refine eg_getI (pc := 131) d97_131 lf_8_145 (by assumption) (by decide) ?_
      rw [q1]
      refine ef_if_neF (pc := 134) d97_134 (t := 141) rfl (rfl) ?_
      refine ef_iconst (pc := 137) d97_137 (by decide) ?_
      refine ef_goto (pc := 138) d97_138 (t := 142) rfl ?_
      refine ef_istore_n (pc := 142) d97_142 (ls' := [_, _]) rfl ?_
      refine ef_goto (pc := 143) d97_143 (t := 90) rfl ?_
      refine proc_sim hM h5 hT hTl hTc (hpp f' rfl) (k := k + 1) (by omega) hRp (by rw [hs2]; decide) (fun e he => hbad e (by rw [hpt, he]; rfl)) (fun S4 C4 g4 h4 hR4 hS4 hF4 hn => ?_)
      have hle : S.2.1 ≤ S4.2.1 := (tl_le afF_lt hS4.1).1
      have hst := hF4.2.2.2 (k + 1) (Nat.le_refl _)
      have hst0 := hF4.2.2.2 k (by omega)
      have hst1 := hF2.2.2.2 k (Nat.le_refl _)
      obtain ⟨w4, t1, t6, t4, t14, t9, to', tb, tb8, tw, tn, ts, to2, tc⟩ := id hR4
      refine b107_br (s := 2) (c := 41) hM h5 hT hTl hTc hR4 (by rw [hst.1]; exact hs2) (Or.inr ⟨rfl, rfl⟩) hn (fun hc => hbad 0 (by rw [hpt, h4, bdP_r]; exact sk_n hc)) (fun hc => ?_)
      have hlt := (hr_lt2 (T := T) (a := S4.1) (by omega)).1
      refine hok (nxP S4) C4 _ (by rw [hpt, h4, bdP_r]; exact sk_y hc) ?_ (hS4.to (fun a h => by rw [u2_ne h, u2_ne h]) rfl) ((hF2.trans hF4 (Nat.le_refl _) (by omega) (fun c hc _ => hc)).to (fun a h => by rw [u2_ne h, u2_ne h]))
      refine ⟨(w4.m (by decide)).m (by decide), ?_, ?_, ?_, u2_at, r9, ?_, ?_, rb8, tw.to (fun a h _ => by rw [u2_ne h, u2_ne h]), by show S4.1 + 1 ≤ _; omega, ts, to2, tc⟩
      · rw [u2_ni (by decide), u2_ni (by decide)]; exact t1
      · rw [u2_ni (by decide), u2_at]; rfl
      · rw [u2_ni (by decide), u2_ni (by decide)]; exact t4
      · rw [u2_ne (by omega), u2_ne (by omega), hst0.2.1, hst1.2.1]; exact ro
      · rw [u2_ne (by omega), u2_ne (by omega), hst0.2.2, hst1.2.2]; exact rb
    · have q1 : g2 m 1 = 0 := hpu.2.2.1.2.1
      refine ef_if_eqT (pc := 105) d97_105 (t := 130) rfl (rfl) ?_
      refine ef_aload_n (pc := 130) d97_130 rfl ?_
      refine eg_getI (pc := 131) d97_131 lf_8_145 (by assumption) (by decide) ?_
      rw [q1]
      refine ef_if_neF (pc := 134) d97_134 (t := 141) rfl (rfl) ?_
      refine ef_iconst (pc := 137) d97_137 (by decide) ?_
      refine ef_goto (pc := 138) d97_138 (t := 142) rfl ?_
      refine ef_istore_n (pc := 142) d97_142 (ls' := [_, _]) rfl ?_
      refine ef_goto (pc := 143) d97_143 (t := 90) rfl ?_
      refine proc_sim hM h5 hT hTl hTc (hpp f' rfl) (k := k + 1) (by omega) hpu.2.2.1 (by rw [hpu.2.2.2.1]; decide) (fun e he => hbad e (by rw [hpt, he]; rfl)) (fun S4 C4 g4 h4 hR4 hS4 hF4 hn => ?_)
      have hst := hF4.2.2.2 (k + 1) (Nat.le_refl _)
      have hsm := pr_sm hpu.2.2.1.2.2.2.2.2.2.2.2.2.2.2.1 h4
      refine b107_br (s := 1) (c := 93) hM h5 hT hTl hTc hR4 (by rw [hst.1]; exact hpu.2.2.2.1) (Or.inl ⟨rfl, rfl⟩) hn (fun hc => hbad 0 (by rw [hpt, h4, bdP_r, sk_n hc]; rfl)) (fun hc => ?_)
      have hlt := (hr_lt2 (T := T) (a := S4.1) (by omega)).1
      obtain ⟨x1, x2, x3⟩ := wrap_ok (g5 := u2 (u2 g4 m 6 ((S4.1 + 1 : Nat) : Int)) m 14 ((k + 1 : Nat) : Int)) (a := S4.1 + 1) hR hpu hR4 hS4 hF4 hsm (fun x h => by rw [u2_ne h, u2_ne h]) (fun f h1 h2 => by rw [u2_ni h2, u2_ni h1]) (by rw [u2_ni (by decide), u2_at]) u2_at (by omega)
      exact hok _ _ _ (by rw [hpt, h4, bdP_r, sk_y hc]; rfl) x1 x2 x3
    · have q1 : g2 m 1 = 0 := hpu.2.2.1.2.1
      refine ef_if_eqT (pc := 105) d97_105 (t := 130) rfl (rfl) ?_
      refine ef_aload_n (pc := 130) d97_130 rfl ?_
      refine eg_getI (pc := 131) d97_131 lf_8_145 (by assumption) (by decide) ?_
      rw [q1]
      refine ef_if_neF (pc := 134) d97_134 (t := 141) rfl (rfl) ?_
      refine ef_iconst (pc := 137) d97_137 (by decide) ?_
      refine ef_goto (pc := 138) d97_138 (t := 142) rfl ?_
      refine ef_istore_n (pc := 142) d97_142 (ls' := [_, _]) rfl ?_
      refine ef_goto (pc := 143) d97_143 (t := 90) rfl ?_
      refine hpp f' rfl b' S3 S.2.1 [] (k + 1) g2 (by omega) hpu.2.2.1 (fun e he => hbad e (by rw [hpt, he]; rfl)) (fun S4 C4 g4 h4 hR4 hS4 hF4 => ?_)
      have hst := hF4.2.2.2 (k + 1) (Nat.le_refl _)
      have hsm := (pt_pv f' b' S3 S4 hpu.2.2.1.2.2.2.2.2.2.2.2.2.2.2.1 h4).2.2.1
      refine b107_gd (k := k) hM hR4.2.1 (by omega) (by rw [hst.1]; exact hpu.2.2.2.1) hR4.2.2.2.2.1 ?_
      obtain ⟨x1, x2, x3⟩ := wrap_ok (g5 := u2 g4 m 14 ((k + 1 : Nat) : Int)) (a := S4.1) hR hpu hR4 hS4 hF4 hsm (fun x h => by rw [u2_ne h]) (fun f h1 h2 => by rw [u2_ni h2]) (by rw [u2_ni (by decide)]; exact hR4.2.2.1) u2_at hR4.2.2.2.2.2.2.2.2.2.2.1
      exact hok _ _ _ (by rw [hpt, h4, bdP_r]) x1 x2 x3
theorem part_sim {P : Pg} {d : Nat} {u : Mm} {m : Nat} {Q : Option Vl ⊕ (Nat × Nat) → Mm → Prop} {T : List Int} {g0 : Nat → Nat → Int} (hM : MdA u m) (h5 : g0 m 5 = (T.length : Int)) (hT : Row (g0 (m + 2)) T) (hTl : T.length ≤ 120) (hTc : ∀ c, c ∈ T → 0 < c ∧ c < 65536) : ∀ f, PartSt P d u m Q T g0 f := by
  intro f
  induction f with
  | zero => exact part_step hM h5 hT hTl hTc (fun f' h => absurd h (by omega))
  | succ f ih => exact part_step hM h5 hT hTl hTc (fun f' h => by have : f = f' := by omega
                                                                  rw [← this]; exact ih)
