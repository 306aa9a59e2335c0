/-! The model: a guard's head. Written by wip/whole/gen/c9g.py. -/
def Snd (S : PS) (kk c r : Int) (a : Nat) : PS := (a, (S.2.1 + 1, (u1 S.2.2.1 S.2.1 kk, (u1 S.2.2.2.1 S.2.1 c, (u1 S.2.2.2.2.1 S.2.1 r, u1 S.2.2.2.2.2 S.2.1 ((S.2.1 + 1 : Nat) : Int))))))
def Rl (g0 g : Nat → Nat → Int) (m n : Nat) (S : PS) (ow : Nat) (C : List Nat) (k : Nat) (b : Int) : Prop := Wk m g0 g ∧ g m 1 = 0 ∧ g m 6 = (S.1 : Int) ∧ g m 4 = (S.2.1 : Int) ∧ g m 14 = ((k + 1 : Nat) : Int) ∧ k < 9 ∧ g (m + 10) k = (ow : Int) ∧ g (m + 11) k = b ∧ (0 ≤ b ∧ b < 8) ∧ OW g m ow C ∧ S.1 ≤ n ∧ S.2.1 ≤ 50 ∧ (ow < S.2.1 ∨ ow = 50) ∧ ∀ c, c ∈ C → c < S.2.1
def PuN (g0 g g' : Nat → Nat → Int) (m n : Nat) (S S3 : PS) (ow : Nat) (C : List Nat) (k : Nat) (s b' kk c r : Int) : Prop := S.2.1 < 50 ∧ (∃ a, S3 = Snd S kk c r a) ∧ Rl g0 g' m n S3 S.2.1 [] (k + 1) b' ∧ g' (m + 9) (k + 1) = s ∧ g' (m + 3) S.2.1 = kdM kk ∧ g' (m + 5) S.2.1 = nmM c ∧ g' (m + 4) S.2.1 = r ∧ (r = 0 ∨ r = 1) ∧ OW g' m ow (C ++ [S.2.1]) ∧ Frm m g g' S.2.1 ow C k
theorem gr_full {K : Nat → Int} {b r : Int} {F : Int → PS → Nat ⊕ PS} {S : PS} (h : ¬ ixC (K S.1) < 0) (h1 : ¬ S.2.1 < 50) : grP K b r F S = .inl 1 := by
  unfold grP adP; rw [if_neg h, if_neg h1]; rfl
theorem gr_3n {K : Nat → Int} {b r : Int} {F : Int → PS → Nat ⊕ PS} {S : PS} (h : ¬ ixC (K S.1) < 0) (h1 : S.2.1 < 50) (h3 : ixC (K S.1) = 3) (h4 : ¬ isL (K (S.1 + 1)) = true) : grP K b r F S = .inl 0 := by
  unfold grP adP; rw [if_neg h, if_pos h1, bdP_r]
  simp only [if_pos h3]
  unfold ltP nxP; rw [if_neg h4]; rfl
theorem gr_nn {K : Nat → Int} {b r : Int} {F : Int → PS → Nat ⊕ PS} {S : PS} (h : ¬ ixC (K S.1) < 0) (h1 : S.2.1 < 50) (h3 : ¬ ixC (K S.1) = 3) (h4 : ¬ isN b (K (S.1 + 1)) = true) : grP K b r F S = .inl 0 := by
  unfold grP adP; rw [if_neg h, if_pos h1, bdP_r]
  simp only [if_neg h3]
  unfold nmP nxP; rw [if_neg h4]; rfl
theorem gr_3y {K : Nat → Int} {b r : Int} {F : Int → PS → Nat ⊕ PS} {S : PS} (h : ¬ ixC (K S.1) < 0) (h1 : S.2.1 < 50) (h3 : ixC (K S.1) = 3) (h4 : isL (K (S.1 + 1)) = true) : grP K b r F S = bdP (skP K 46 (Snd S (ixC (K S.1)) (K (S.1 + 1)) r (S.1 + 2))) fun S3 => bdP (F (bI (fun x y => x ||| y) b (bitF (S3.2.2.2.1 S.2.1))) S3) fun S4 => .inr (enP S.2.1 S4) := by
  unfold grP adP; rw [if_neg h, if_pos h1, bdP_r]
  simp only [if_pos h3]
  unfold ltP nxP; rw [if_pos h4]; rfl
theorem gr_ny {K : Nat → Int} {b r : Int} {F : Int → PS → Nat ⊕ PS} {S : PS} (h : ¬ ixC (K S.1) < 0) (h1 : S.2.1 < 50) (h3 : ¬ ixC (K S.1) = 3) (h4 : isN b (K (S.1 + 1)) = true) : grP K b r F S = bdP (skP K 46 (Snd S (ixC (K S.1)) (K (S.1 + 1)) r (S.1 + 2))) fun S3 => bdP (F b S3) fun S4 => .inr (enP S.2.1 S4) := by
  unfold grP adP; rw [if_neg h, if_pos h1, bdP_r]
  simp only [if_neg h3]
  unfold nmP nxP; rw [if_pos h4]; rfl
theorem sk_n {K : Nat → Int} {c : Int} {S : PS} (h : ¬ K S.1 = c) : skP K c S = .inl 0 := if_neg h
theorem sk_y {K : Nat → Int} {c : Int} {S : PS} (h : K S.1 = c) : skP K c S = .inr (nxP S) := if_pos h
theorem orb_all : ∀ b : Nat, b < 8 → ∀ k : Nat, k < 3 → 0 ≤ bI (fun x y => x ||| y) (b : Int) (bitF (120 + (k : Int))) ∧ bI (fun x y => x ||| y) (b : Int) (bitF (120 + (k : Int))) < 8 := by decide +kernel
theorem or_rg {b c : Int} (hb : 0 ≤ b ∧ b < 8) (hc : 120 ≤ c ∧ c ≤ 122) : 0 ≤ bI (fun x y => x ||| y) b (bitF c) ∧ bI (fun x y => x ||| y) b (bitF c) < 8 := by
  obtain ⟨b', rfl⟩ : ∃ b' : Nat, b = (b' : Int) := ⟨b.toNat, by omega⟩
  obtain ⟨k, rfl⟩ : ∃ k : Nat, c = 120 + (k : Int) := ⟨(c - 120).toNat, by omega⟩
  exact orb_all b' (by omega) k (by omega)
/-- a new frame over a new node -/
theorem pun_of {g0 g gA g1 gB : Nat → Nat → Int} {m n : Nat} {S : PS} {ow : Nat} {C : List Nat} {k a : Nat} {s b b' kk c r : Int} (hR : Rl g0 g m n S ow C k b) (hk : k + 1 < 9) (hA : ∀ x, x ≠ m → gA x = g x) (hA2 : ∀ f, f ≠ 6 → gA m f = g m f) (hs : S.2.1 < 50) (hN : NdQ gA g1 m S.2.1 ow C (kdM kk) r) (hB : ∀ x, x ≠ m → x ≠ m + 5 → gB x = g1 x) (hB5 : gB (m + 5) S.2.1 = nmM c) (hB6 : ∀ i, i ≠ S.2.1 → gB (m + 5) i = g1 (m + 5) i) (hB7 : gB m 6 = (a : Int)) (hB8 : ∀ f, f ≠ 6 → gB m f = g1 m f) (hr : r = 0 ∨ r = 1) (hb' : 0 ≤ b' ∧ b' < 8) (ha : a ≤ n) : PuN g0 g (u2 (u2 (u2 (u2 gB (m + 9) (k + 1) s) (m + 10) (k + 1) (S.2.1 : Int)) (m + 11) (k + 1) b') m 14 ((k + 1 + 1 : Nat) : Int)) m n S (Snd S kk c r a) ow C k s b' kk c r := by
  obtain ⟨w, r1, r6, r4, r14, r9, ro, rb, rb8, rw', rn, rs, ro2, rc⟩ := hR
  obtain ⟨n1, n2, n3, n4, n5, n6, n7, n8, n9, n10, n11, n12⟩ := hN
  have q5 : ∀ i, g1 (m + 5) i = g (m + 5) i := fun i => by rw [n3 _ (by omega) (by omega) (by omega) (by omega) (by omega) (by omega), hA _ (by omega)]
  have q9 : ∀ j, 9 ≤ j → j ≤ 11 → gB (m + j) = g (m + j) := fun j h1 h2 => by rw [hB _ (by omega) (by omega), n3 _ (by omega) (by omega) (by omega) (by omega) (by omega) (by omega), hA _ (by omega)]
  generalize hg' : u2 (u2 (u2 (u2 gB (m + 9) (k + 1) s) (m + 10) (k + 1) (S.2.1 : Int)) (m + 11) (k + 1) b') m 14 ((k + 1 + 1 : Nat) : Int) = g'
  have p : ∀ x, x ≠ m → x < m + 9 ∨ m + 11 < x → g' x = gB x := fun x h1 h2 => by rw [← hg', u2_ne h1, u2_ne (by omega), u2_ne (by omega), u2_ne (by omega)]
  have pm : ∀ f, f ≠ 14 → g' m f = gB m f := fun f h1 => by rw [← hg', u2_ni h1, u2_ne (by omega), u2_ne (by omega), u2_ne (by omega)]
  have p14 : g' m 14 = ((k + 1 + 1 : Nat) : Int) := by rw [← hg', u2_at]
  have p9 : g' (m + 9) (k + 1) = s := by rw [← hg', u2_ne (by omega), u2_ne (by omega), u2_ne (by omega), u2_at]
  have p10 : g' (m + 10) (k + 1) = (S.2.1 : Int) := by rw [← hg', u2_ne (by omega), u2_ne (by omega), u2_at]
  have p11 : g' (m + 11) (k + 1) = b' := by rw [← hg', u2_ne (by omega), u2_at]
  have q : ∀ i, i ≤ k → g' (m + 9) i = g (m + 9) i ∧ g' (m + 10) i = g (m + 10) i ∧ g' (m + 11) i = g (m + 11) i := fun i hi => by
    refine ⟨?_, ?_, ?_⟩
    · rw [← hg', u2_ne (by omega), u2_ne (by omega), u2_ne (by omega), u2_ni (by omega), q9 9 (by omega) (by omega)]
    · rw [← hg', u2_ne (by omega), u2_ne (by omega), u2_ni (by omega), u2_ne (by omega), q9 10 (by omega) (by omega)]
    · rw [← hg', u2_ne (by omega), u2_ni (by omega), u2_ne (by omega), u2_ne (by omega), q9 11 (by omega) (by omega)]
  have e : ∀ j, 3 ≤ j → j ≤ 8 → j ≠ 5 → g' (m + j) = g1 (m + j) := fun j h1 h2 h3 => by rw [p _ (by omega) (by omega), hB _ (by omega) (by omega)]
  have e5 : g' (m + 5) = gB (m + 5) := p _ (by omega) (by omega)
  have wk : Wk m g0 g' := by
    refine w.trans ⟨fun x h1 h2 => ?_, fun f h1 h4 h6 h14 => ?_⟩
    · rw [p x h1 (by omega), hB x h1 (by omega), n3 x h1 (by omega) (by omega) (by omega) (by omega) (by omega), hA x h1]
    · rw [pm f h14, hB8 f h6, n2 f h4, hA2 f h6]
  have ow2 : OW g' m ow (C ++ [S.2.1]) := by unfold OW at n12 ⊢; rw [e 6 (by omega) (by omega) (by omega), e 7 (by omega) (by omega) (by omega), e 8 (by omega) (by omega) (by omega)]; exact n12
  refine ⟨hs, ⟨a, rfl⟩, ⟨wk, ?_, ?_, ?_, p14, by omega, p10, p11, hb', ?_, ha, by show S.2.1 + 1 ≤ 50; omega, Or.inl (by show S.2.1 < S.2.1 + 1; omega), fun c hc => absurd hc (List.not_mem_nil)⟩, p9, ?_, ?_, ?_, hr, ow2, ?_⟩
  · rw [pm 1 (by decide), hB8 1 (by decide), n2 1 (by decide), hA2 1 (by decide)]; exact r1
  · rw [pm 6 (by decide)]; exact hB7
  · rw [pm 4 (by decide), hB8 4 (by decide)]; exact n1
  · refine ⟨?_, fun D l hD => absurd hD (by simp), trivial, List.Pairwise.nil⟩
    rw [e 6 (by omega) (by omega) (by omega)]; exact n8
  · rw [e 3 (by omega) (by omega) (by omega)]; exact n4
  · rw [e5]; exact hB5
  · rw [e 4 (by omega) (by omega) (by omega)]; exact n6
  · refine ⟨fun i hi => ⟨?_, ?_, ?_⟩, fun i hi hio => ⟨?_, ?_⟩, fun i hi hic => ?_, q⟩
    · rw [e 3 (by omega) (by omega) (by omega), n5 i (by omega), hA _ (by omega)]
    · rw [e 4 (by omega) (by omega) (by omega), n7 i (by omega), hA _ (by omega)]
    · rw [e5, hB6 i (by omega), q5]
    · rw [e 6 (by omega) (by omega) (by omega), n9 i (by omega) hio, hA _ (by omega)]
    · rw [e 7 (by omega) (by omega) (by omega), n10 i hio, hA _ (by omega)]
    · rw [e 8 (by omega) (by omega) (by omega), n11 i (by omega) hic, hA _ (by omega)]
theorem hr_lt2 {T : List Int} {a : Nat} (h : 0 < pkL T a) : a < T.length ∧ hrL T a = pkL T a := by
  have h1 : a < T.length := by
    rcases Nat.lt_or_ge a T.length with h1 | h1
    · exact h1
    · unfold pkL at h; rw [List.getElem?_eq_none h1] at h; simp only at h; omega
  exact ⟨h1, hr_eq h1⟩
theorem ixC_pos {c : Int} (h : ¬ ixC c < 0) : 0 < c := by
  unfold ixC at h
  (repeat split at h) <;> omega
theorem c105 {P : Pg} {d : Nat} {u : Mm} {g : Nat → Nat → Int} {m : Nat} {T : List Int} {g0 : Nat → Nat → Int} {S : PS} {ow : Nat} {C : List Nat} {k : Nat} {b : Int} {r : Int} (hM : MdA u m) (h5 : g0 m 5 = (T.length : Int)) (hT : Row (g0 (m + 2)) T) (hTl : T.length ≤ 120) (hTc : ∀ c, c ∈ T → 0 < c ∧ c < 65536) (hR : Rl g0 g m T.length S ow C k b) (hk : k + 1 < 9) (hx : ¬ ixC (pkL T S.1) < 0) (hr : r = 0 ∨ r = 1) : Ec P (d + 2) 105 [vR m, vI r] (sI u g) (fun x u' => x = .inl none ∧ ∃ g', u' = sI u g' ∧ ((∃ e : Nat, (∀ F, grP (pkL T) b r F S = .inl e) ∧ Wk m g0 g' ∧ g' m 1 = ((e + 1 : Nat) : Int)) ∨ (∃ S3 b' kk c, (∀ F : Int → PS → Nat ⊕ PS, grP (pkL T) b r F S = bdP (F b' S3) (fun S4 => .inr (enP S.2.1 S4))) ∧ PuN g0 g g' m T.length S S3 ow C k 3 b' kk c r))) := by
  have s0 := hM.1
  have f10 : mF u m 10 = some (m + 5) := (hM.2 4 (by decide)).1
  have s10 : mS u (m + 5) = some (0, 51) := (hM.2 4 (by decide)).2
  have f17 : mF u m 17 = some (m + 11) := (hM.2 10 (by decide)).1
  have s17 : mS u (m + 11) = some (0, 20) := (hM.2 10 (by decide)).2
  obtain ⟨w, r1, r6, r4, r14, r9, ro, rb, rb8, rw', rn, rs, ro2, rc⟩ := id hR
  have T5 : ∀ {g2 : Nat → Nat → Int}, Wk m g0 g2 → g2 m 5 = (T.length : Int) := fun h => by rw [h.2 5 (by decide) (by decide) (by decide) (by decide)]; exact h5
  have T2 : ∀ {g2 : Nat → Nat → Int}, Wk m g0 g2 → Row (g2 (m + 2)) T := fun h => by rw [h.1 (m + 2) (by omega) (by omega)]; exact hT
  obtain ⟨hlt, hhe⟩ := hr_lt2 (ixC_pos hx)
  have hgk := (gk_ix (c := pkL T S.1)).2.1 (by omega)
  have hg5 := (gk_ix (c := pkL T S.1)).2.2
  generalize hkk : ixC (pkL T S.1) = kk at hgk hg5
  generalize hgA : u2 g m 6 ((S.1 + 1 : Nat) : Int) = gA
  have wA : Wk m g0 gA := by rw [← hgA]; exact w.m (by decide)
  have A1 : ∀ x, x ≠ m → gA x = g x := fun x h => by rw [← hgA, u2_ne h]
  have A2 : ∀ f, f ≠ 6 → gA m f = g m f := fun f h => by rw [← hgA, u2_ni h]
  have A6 : gA m 6 = ((S.1 + 1 : Nat) : Int) := by rw [← hgA, u2_at]
  have owA : OW gA m ow C := rw'.to (fun a h1 _ => A1 a h1)
  -- behind the name
  have rest : ∀ (g1 gB : Nat → Nat → Int) (a : Nat) (c b' : Int), S.2.1 < 50 → NdQ gA g1 m S.2.1 ow C (kdM kk) r → (∀ x, x ≠ m → x ≠ m + 5 → gB x = g1 x) → gB (m + 5) S.2.1 = nmM c → (∀ i, i ≠ S.2.1 → gB (m + 5) i = g1 (m + 5) i) → gB m 6 = (a : Int) → (∀ f, f ≠ 6 → gB m f = g1 m f) → a ≤ T.length → (0 ≤ b' ∧ b' < 8) → (¬ pkL T a = 46 → ∀ F, grP (pkL T) b r F S = .inl 0) → (pkL T a = 46 → ∀ F : Int → PS → Nat ⊕ PS, grP (pkL T) b r F S = bdP (F b' (Snd S kk c r (a + 1))) (fun S4 => .inr (enP S.2.1 S4))) → Ef P (d + 2) 105 124 [some (vR m), some (vI r), some (vI (gkF (pkL T S.1))), some (vI (S.2.1 : Int)), some (vI b')] [] (sI u gB) (fun x u' => x = .inl none ∧ ∃ g', u' = sI u g' ∧ ((∃ e : Nat, (∀ F, grP (pkL T) b r F S = .inl e) ∧ Wk m g0 g' ∧ g' m 1 = ((e + 1 : Nat) : Int)) ∨ (∃ S3 b' kk c, (∀ F : Int → PS → Nat ⊕ PS, grP (pkL T) b r F S = bdP (F b' S3) (fun S4 => .inr (enP S.2.1 S4))) ∧ PuN g0 g g' m T.length S S3 ow C k 3 b' kk c r))) := by
    intro g1 gB a c b' hs hN hB hB5 hB6 hB7 hB8 ha hb' he hok
    obtain ⟨n1, n2, n3, n4, n5, n6, n7, n8, n9, n10, n11, n12⟩ := id hN
    have wB : Wk m g0 gB := by
      refine w.trans ⟨fun x h1 h2 => ?_, fun f h1 h4 h6 h14 => ?_⟩
      · rw [hB x h1 (by omega), n3 x h1 (by omega) (by omega) (by omega) (by omega) (by omega), A1 x h1]
      · rw [hB8 f h6, n2 f h4, A2 f h6]
    have B1 : gB m 1 = 0 := by rw [hB8 1 (by decide), n2 1 (by decide), A2 1 (by decide)]; exact r1
    have B14 : gB m 14 = ((k + 1 : Nat) : Int) := by rw [hB8 14 (by decide), n2 14 (by decide), A2 14 (by decide)]; exact r14
    refine ef_aload_n (pc := 124) d105_124 rfl ?_
    refine eg_getI (pc := 125) d105_125 lf_8_145 (by assumption) (by decide) ?_
    rw [B1]
    refine ef_if_neF (pc := 128) d105_128 (t := 137) rfl (rfl) ?_
    refine ef_aload_n (pc := 131) d105_131 rfl ?_
    refine ef_bipush (pc := 132) d105_132 (by decide) ?_
    refine ef_callV (pc := 134) d105_134 lm_8_191 (as := [_]) rfl rfl (by assumption) rfl rfl (by decide) (Nat.le_of_ble_eq_true rfl) rfl (Nat.le_of_ble_eq_true rfl) ?_
    refine Ec.imp (c106 hM (T5 wB) (T2 wB) hTl hB7 B1 (by omega)) ?_
    rintro r134 u134 ⟨rfl, ⟨hq, rfl⟩ | ⟨hq, rfl⟩⟩
    · have hp46 := (hr_pk (by decide)).mp hq
      have h46 := (hr_lt2 (T := T) (a := a) (by omega)).1
      refine ef_aload_n (pc := 137) d105_137 rfl ?_
      refine eg_getI (pc := 138) d105_138 lf_8_145 (by assumption) (by decide) ?_
      rw [u2_ni (by decide), B1]
      refine ef_if_neF (pc := 141) d105_141 (t := 152) rfl (rfl) ?_
      refine ef_aload_n (pc := 144) d105_144 rfl ?_
      refine ef_iconst (pc := 145) d105_145 (by decide) ?_
      refine ef_iload_n (pc := 146) d105_146 rfl ?_
      refine ef_iload (pc := 147) d105_147 rfl ?_
      refine ef_callV (pc := 149) d105_149 lm_8_194 (as := [_, _, _]) rfl rfl (by assumption) rfl rfl (by decide) (Nat.le_of_ble_eq_true rfl) rfl (Nat.le_of_ble_eq_true rfl) ?_
      refine Ec.imp (c98 (k := k + 1) hM (by rw [u2_ni (by decide)]; exact B14) (by omega)) ?_
      rintro r149 u149 ⟨rfl, rfl⟩
      refine ef_vret (pc := 152) d105_152 rfl ?_
      refine ⟨rfl, _, rfl, Or.inr ⟨_, b', kk, c, hok hp46, ?_⟩⟩
      refine pun_of (a := a + 1) hR hk A1 A2 hs hN (fun x h1 h2 => by rw [u2_ne h1]; exact hB x h1 h2) (by rw [u2_ne (by omega)]; exact hB5) (fun i hi => by rw [u2_ne (by omega)]; exact hB6 i hi) u2_at (fun f hf => by rw [u2_ni hf]; exact hB8 f hf) hr hb' (by omega)
    · refine ef_aload_n (pc := 137) d105_137 rfl ?_
      refine eg_getI (pc := 138) d105_138 lf_8_145 (by assumption) (by decide) ?_
      rw [u2_at]
      refine ef_if_neT (pc := 141) d105_141 (t := 152) rfl (by decide) ?_
      refine ef_vret (pc := 152) d105_152 rfl ?_
      exact ⟨rfl, _, rfl, Or.inl ⟨0, he (fun h => hq ((hr_pk (by decide)).mpr h)), wB.m (by decide), u2_at⟩⟩
  change Ef P _ 105 0 [some (vR m), some (vI r), none, none, none] [] _ _
  refine ef_aload_n (pc := 0) d105_0 rfl ?_
  refine ef_callV (pc := 1) d105_1 lm_8_177 (as := []) rfl rfl (by assumption) rfl rfl (by decide) (Nat.le_of_ble_eq_true rfl) rfl (Nat.le_of_ble_eq_true rfl) ?_
  refine Ec.imp (c101 hM (T5 w) (T2 w) hTl r6) ?_
  rintro r1 u1 ⟨rfl, rfl⟩
  refine ef_callS (pc := 4) d105_4 lm_8_181 (as := [_]) rfl rfl rfl (Nat.le_of_ble_eq_true rfl) rfl (Nat.le_of_ble_eq_true rfl) ?_
  refine Ec.imp (c104) ?_
  rintro r4 u4 ⟨rfl, rfl⟩
  rw [hhe]
  refine ef_istore_n (pc := 7) d105_7 (ls' := [_, _, _, _, _]) rfl ?_
  refine ef_aload_n (pc := 8) d105_8 rfl ?_
  refine ef_dup (pc := 9) d105_9 rfl ?_
  refine eg_getI (pc := 10) d105_10 lf_8_161 (by assumption) (by decide) ?_
  try simp (disch := omega) only [u2_ne, u2_at, u2_ni, ur_ne, ur_eq]
  rw [r6]
  refine ef_iconst (pc := 13) d105_13 (by decide) ?_
  refine ef_iadd (pc := 14) d105_14 (z := ((S.1 + 1 : Nat) : Int)) (by omega) ⟨by omega, by omega⟩ ?_
  refine eg_putI (pc := 15) d105_15 pf_105_161 (by assumption) (by decide) ?_
  rw [hgA]
  refine ef_aload_n (pc := 18) d105_18 rfl ?_
  refine ef_iload_n (pc := 19) d105_19 rfl ?_
  refine ef_iload_n (pc := 20) d105_20 rfl ?_
  refine ef_callV (pc := 21) d105_21 lm_8_184 (as := [_, _]) rfl rfl (by assumption) rfl rfl (by decide) (Nat.le_of_ble_eq_true rfl) rfl (Nat.le_of_ble_eq_true rfl) ?_
  refine Ec.imp (c102 (C := C) hM (by rw [A2 4 (by decide)]; exact r4) rs (by rw [A2 14 (by decide)]; exact r14) (by omega) (by rw [A1 _ (by omega)]; exact ro) owA ro2 rc (by rw [A2 1 (by decide)]; exact r1) hr) ?_
  rintro r21 u21 (⟨hs, rfl, rfl⟩ | ⟨hs, rfl, g1, rfl, hN⟩)
  · refine ef_istore_n (pc := 24) d105_24 (ls' := [_, _, _, _, _]) rfl ?_
    refine ef_aload_n (pc := 25) d105_25 rfl ?_
    refine eg_getI (pc := 26) d105_26 lf_8_145 (by assumption) (by decide) ?_
    rw [u2_at]
    refine ef_if_leF (pc := 29) d105_29 (t := 33) rfl (by decide) ?_
    refine ef_vret (pc := 32) d105_32 rfl ?_
    exact ⟨rfl, _, rfl, Or.inl ⟨1, fun F => gr_full hx (by omega), wA.m (by decide), u2_at⟩⟩
  · rw [hgk.1] at hN
    obtain ⟨n1, n2, n3, n4, n5, n6, n7, n8, n9, n10, n11, n12⟩ := id hN
    have w1 : Wk m g0 g1 := wA.trans ⟨fun x h1 h2 => n3 x h1 (by omega) (by omega) (by omega) (by omega) (by omega), fun f h1 h4 h6 h14 => n2 f h4⟩
    have N1 : g1 m 1 = 0 := by rw [n2 1 (by decide), A2 1 (by decide)]; exact r1
    have N14 : g1 m 14 = ((k + 1 : Nat) : Int) := by rw [n2 14 (by decide), A2 14 (by decide)]; exact r14
    have N6 : g1 m 6 = ((S.1 + 1 : Nat) : Int) := by rw [n2 6 (by decide)]; exact A6
    have Nb : g1 (m + 11) k = b := by rw [n3 _ (by omega) (by omega) (by omega) (by omega) (by omega) (by omega), A1 _ (by omega)]; exact rb
    refine ef_istore_n (pc := 24) d105_24 (ls' := [_, _, _, _, _]) rfl ?_
    refine ef_aload_n (pc := 25) d105_25 rfl ?_
    refine eg_getI (pc := 26) d105_26 lf_8_145 (by assumption) (by decide) ?_
    rw [N1]
    refine ef_if_leT (pc := 29) d105_29 (t := 33) rfl (by decide) ?_
    refine ef_aload_n (pc := 33) d105_33 rfl ?_
    refine eg_getR (pc := 34) d105_34 lf_8_41 (by assumption) (by decide) (by assumption) ?_
    refine ef_aload_n (pc := 37) d105_37 rfl ?_
    refine eg_getI (pc := 38) d105_38 lf_8_174 (by assumption) (by decide) ?_
    rw [N14]
    refine ef_iconst (pc := 41) d105_41 (by decide) ?_
    refine ef_isub (pc := 42) d105_42 (z := (k : Int)) (by omega) ⟨by omega, by omega⟩ ?_
    refine eg_iald (pc := 43) d105_43 (i := k) (by assumption) (rfl) (by omega) ?_
    rw [Nb]
    refine ef_istore (pc := 44) d105_44 (ls' := [_, _, _, _, _]) rfl ?_
    refine ef_iload_n (pc := 46) d105_46 rfl ?_
    refine ef_iconst (pc := 47) d105_47 (by decide) ?_
    refine ef_icmp_ne (pc := 48) d105_48 (t := 114) rfl (fun h48 => ?_) (fun h48 => ?_)
    · have hk3 : ¬ ixC (pkL T S.1) = 3 := by rw [hkk]; exact fun h => h48 (hg5.mpr h)
      refine ef_aload_n (pc := 114) d105_114 rfl ?_
      refine eg_getR (pc := 115) d105_115 lf_8_23 (by assumption) (by decide) (by assumption) ?_
      refine ef_iload_n (pc := 118) d105_118 rfl ?_
      refine ef_aload_n (pc := 119) d105_119 rfl ?_
      refine ef_callV (pc := 120) d105_120 lm_8_188 (as := []) rfl rfl (by assumption) rfl rfl (by decide) (Nat.le_of_ble_eq_true rfl) rfl (Nat.le_of_ble_eq_true rfl) ?_
      refine Ec.imp (c103 hM (T5 w1) (T2 w1) hTl N6 hTc N1 N14 (by omega) Nb rb8) ?_
      rintro r120 u120 (⟨hn1, hn2, rfl, rfl⟩ | ⟨hn1, rfl, rfl⟩)
      · refine eg_iast (pc := 123) d105_123 (i := S.2.1) (by assumption) (rfl) (by omega) rfl ?_
        refine rest g1 _ (S.1 + 2) (pkL T (S.1 + 1)) b hs hN (fun x h1 h2 => by rw [u2_ne h2, u2_ne h1]) (by rw [u2_at]) (fun i hi => by rw [u2_ni hi, u2_ne (by omega)]) (by rw [u2_ne (by omega), u2_at]) (fun f hf => by rw [u2_ne (by omega), u2_ni hf]) (by omega) rb8 (fun hp F => ?_) (fun hp F => ?_)
        · rw [gr_ny hx hs hk3 hn1]; rw [sk_n (S := Snd S (ixC (pkL T S.1)) (pkL T (S.1 + 1)) r (S.1 + 2)) hp]; rfl
        · rw [gr_ny hx hs hk3 hn1]; rw [sk_y (S := Snd S (ixC (pkL T S.1)) (pkL T (S.1 + 1)) r (S.1 + 2)) hp, hkk]; rfl
      · refine eg_iast (pc := 123) d105_123 (i := S.2.1) (by assumption) (rfl) (by omega) rfl ?_
        refine ef_aload_n (pc := 124) d105_124 rfl ?_
        refine eg_getI (pc := 125) d105_125 lf_8_145 (by assumption) (by decide) ?_
        rw [u2_ne (by omega), u2_at]
        refine ef_if_neT (pc := 128) d105_128 (t := 137) rfl (by decide) ?_
        refine ef_aload_n (pc := 137) d105_137 rfl ?_
        refine eg_getI (pc := 138) d105_138 lf_8_145 (by assumption) (by decide) ?_
        rw [u2_ne (by omega), u2_at]
        refine ef_if_neT (pc := 141) d105_141 (t := 152) rfl (by decide) ?_
        refine ef_vret (pc := 152) d105_152 rfl ?_
        exact ⟨rfl, _, rfl, Or.inl ⟨0, fun F => gr_nn hx hs hk3 (by rw [hn1]; decide), (w1.m (by decide)).a (by decide) (by decide), by rw [u2_ne (by omega), u2_at]; rfl⟩⟩
    · have hk3 : ixC (pkL T S.1) = 3 := by rw [hkk]; exact hg5.mp h48
      refine ef_aload_n (pc := 51) d105_51 rfl ?_
      refine ef_callV (pc := 52) d105_52 lm_8_177 (as := []) rfl rfl (by assumption) rfl rfl (by decide) (Nat.le_of_ble_eq_true rfl) rfl (Nat.le_of_ble_eq_true rfl) ?_
      refine Ec.imp (c101 hM (T5 w1) (T2 w1) hTl N6) ?_
      rintro r52 u52 ⟨rfl, rfl⟩
      refine ef_bipush (pc := 55) d105_55 (by decide) ?_
      refine ef_bipush (pc := 57) d105_57 (by decide) ?_
      refine ef_callS (pc := 59) d105_59 lm_8_148 (as := [_, _, _]) rfl rfl rfl (Nat.le_of_ble_eq_true rfl) rfl (Nat.le_of_ble_eq_true rfl) ?_
      refine Ec.imp (c93) ?_
      rintro r59 u59 ⟨rfl, rfl⟩
      refine ef_if_ne (pc := 62) d105_62 (t := 71) rfl (fun h62 => ?_) (fun h62 => ?_)
      · have hyl := of_decide_eq_true (b01_f h62)
        obtain ⟨k1, k2⟩ : S.1 + 1 < T.length ∧ hrL T (S.1 + 1) = pkL T (S.1 + 1) := ⟨hr_lt (by omega), hr_eq (hr_lt (by omega))⟩
        have hl : isL (pkL T (S.1 + 1)) = true := decide_eq_true (by rw [← k2]; exact hyl)
        refine ef_aload_n (pc := 71) d105_71 rfl ?_
        refine eg_getR (pc := 72) d105_72 lf_8_23 (by assumption) (by decide) (by assumption) ?_
        refine ef_iload_n (pc := 75) d105_75 rfl ?_
        refine ef_bipush (pc := 76) d105_76 (by decide) ?_
        refine ef_aload_n (pc := 78) d105_78 rfl ?_
        refine ef_callV (pc := 79) d105_79 lm_8_177 (as := []) rfl rfl (by assumption) rfl rfl (by decide) (Nat.le_of_ble_eq_true rfl) rfl (Nat.le_of_ble_eq_true rfl) ?_
        refine Ec.imp (c101 hM (T5 w1) (T2 w1) hTl N6) ?_
        rintro r79 u79 ⟨rfl, rfl⟩
        refine ef_iadd (pc := 82) d105_82 rfl ⟨by omega, by omega⟩ ?_
        refine ef_bipush (pc := 83) d105_83 (by decide) ?_
        refine ef_isub (pc := 85) d105_85 rfl ⟨by omega, by omega⟩ ?_
        refine eg_iast (pc := 86) d105_86 (i := S.2.1) (by assumption) (rfl) (by omega) rfl ?_
        refine ef_iload (pc := 87) d105_87 rfl ?_
        refine ef_iconst (pc := 89) d105_89 (by decide) ?_
        refine ef_aload_n (pc := 90) d105_90 rfl ?_
        refine ef_callV (pc := 91) d105_91 lm_8_177 (as := []) rfl rfl (by assumption) rfl rfl (by decide) (Nat.le_of_ble_eq_true rfl) rfl (Nat.le_of_ble_eq_true rfl) ?_
        refine Ec.imp (c101 hM (by rw [u2_ne (by omega)]; exact T5 w1) (by rw [u2_ne (by omega)]; exact T2 w1) hTl (by rw [u2_ne (by omega)]; exact N6)) ?_
        rintro r91 u91 ⟨rfl, rfl⟩
        refine ef_bipush (pc := 94) d105_94 (by decide) ?_
        refine ef_isub (pc := 96) d105_96 rfl ⟨by omega, by omega⟩ ?_
        refine ef_ishl (pc := 97) d105_97 rfl ?_
        refine ef_ior (pc := 98) d105_98 rfl ?_
        refine ef_istore (pc := 99) d105_99 (ls' := [_, _, _, _, _]) rfl ?_
        refine ef_aload_n (pc := 101) d105_101 rfl ?_
        refine ef_dup (pc := 102) d105_102 rfl ?_
        refine eg_getI (pc := 103) d105_103 lf_8_161 (by assumption) (by decide) ?_
        rw [u2_ne (by omega), N6]
        refine ef_iconst (pc := 106) d105_106 (by decide) ?_
        refine ef_iadd (pc := 107) d105_107 (z := ((S.1 + 2 : Nat) : Int)) (by omega) ⟨by omega, by omega⟩ ?_
        refine eg_putI (pc := 108) d105_108 pf_105_161 (by assumption) (by decide) ?_
        refine ef_goto (pc := 111) d105_111 (t := 124) rfl ?_
        refine rest g1 _ (S.1 + 2) (pkL T (S.1 + 1)) _ hs hN (fun x h1 h2 => by rw [u2_ne h1, u2_ne h2]) (by rw [u2_ne (by omega), u2_at]; unfold nmM; rw [if_neg (by omega), k2]; omega) (fun i hi => by rw [u2_ne (by omega), u2_ni hi]) u2_at (fun f hf => by rw [u2_ni hf, u2_ne (by omega)]) (by omega) ?_ (fun hp F => ?_) (fun hp F => ?_)
        · rw [k2]; exact or_rg rb8 (by omega)
        · rw [gr_3y hx hs hk3 hl]; rw [sk_n (S := Snd S (ixC (pkL T S.1)) (pkL T (S.1 + 1)) r (S.1 + 2)) hp]; rfl
        · rw [gr_3y hx hs hk3 hl]; rw [sk_y (S := Snd S (ixC (pkL T S.1)) (pkL T (S.1 + 1)) r (S.1 + 2)) hp, hkk, k2, bdP_r]; show bdP (F (bI (fun x y => x ||| y) b (bitF (u1 S.2.2.2.1 S.2.1 (pkL T (S.1 + 1)) S.2.1))) _) _ = _; rw [u1_eq]; rfl
      · have hnl := of_decide_eq_false (b01_t h62)
        refine ef_aload_n (pc := 65) d105_65 rfl ?_
        refine ef_iconst (pc := 66) d105_66 (by decide) ?_
        refine ef_callV (pc := 67) d105_67 lm_8_170 (as := [_]) rfl rfl (by assumption) rfl rfl (by decide) (Nat.le_of_ble_eq_true rfl) rfl (Nat.le_of_ble_eq_true rfl) ?_
        refine Ec.imp (c100 hM) ?_
        rintro r67 u67 ⟨rfl, rfl⟩
        rw [if_pos N1]
        refine ef_vret (pc := 70) d105_70 rfl ?_
        exact ⟨rfl, _, rfl, Or.inl ⟨0, fun F => gr_3n hx hs hk3 (fun hl => hnl (by have h9 := of_decide_eq_true hl; rw [(hr_lt2 (T := T) (a := S.1 + 1) (by omega)).2]; exact h9)), w1.m (by decide), u2_at⟩⟩
