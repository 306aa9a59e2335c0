/-! The model: a part begun. Written by wip/whole/gen/c9h.py. -/
theorem pt_48 {K : Nat → Int} {b : Int} {f : Nat} {S : PS} (h : K S.1 = 48) : ptP K (f + 1) b S = .inr (nxP S) := by rw [ptP, if_pos h]
theorem pt_40 {K : Nat → Int} {b : Int} {f : Nat} {S : PS} (h : K S.1 = 40) : ptP K (f + 1) b S = bdP (prP K (ptP K f b) (nxP S)) (skP K 41) := by rw [ptP, if_neg (by omega), if_pos h]
theorem pt_39 {K : Nat → Int} {b : Int} {f : Nat} {S : PS} (h : K S.1 = 39) : ptP K (f + 1) b S = meP K b S := by rw [ptP, if_neg (by omega), if_neg (by omega), if_pos h]
theorem pt_pl {K : Nat → Int} {b : Int} {f : Nat} {S : PS} (h : 97 ≤ K S.1 ∧ K S.1 ≤ 122) : ptP K (f + 1) b S = plP K b (ptP K f b) S := by rw [ptP, if_neg (by omega), if_neg (by omega), if_neg (by omega), if_pos h]
theorem ixC_is {c : Int} (h : ¬ ixC c < 0) : c = 62 ∨ c = 60 ∨ c = 94 ∨ c = 63 := by
  unfold ixC at h
  (repeat split at h) <;> omega
theorem pt_g {K : Nat → Int} {b : Int} {f : Nat} {S : PS} (h : ¬ ixC (K S.1) < 0) : ptP K (f + 1) b S = grP K b 0 (ptP K f) S := by
  have := ixC_is h
  rw [ptP, if_neg (by omega), if_neg (by omega), if_neg (by omega), if_neg (by omega)]
  unfold guP; rw [if_neg (by omega)]
theorem pt_33 {K : Nat → Int} {b : Int} {f : Nat} {S : PS} (h : K S.1 = 33) : ptP K (f + 1) b S = grP K b 1 (ptP K f) (nxP S) := by
  rw [ptP, if_neg (by omega), if_neg (by omega), if_neg (by omega), if_neg (by omega)]
  unfold guP; rw [if_pos h]
theorem pt_no {K : Nat → Int} {b : Int} {f : Nat} {S : PS} (h1 : ¬ K S.1 = 48) (h2 : ¬ K S.1 = 40) (h3 : ¬ K S.1 = 39) (h4 : ¬ (97 ≤ K S.1 ∧ K S.1 ≤ 122)) (h5 : ¬ K S.1 = 33) (h6 : ixC (K S.1) < 0) : ptP K (f + 1) b S = .inl 0 := by
  rw [ptP, if_neg h1, if_neg h2, if_neg h3, if_neg h4]
  unfold guP; rw [if_neg h5]; unfold grP; rw [if_pos h6]
theorem pl_full {K : Nat → Int} {b : Int} {F : PS → Nat ⊕ PS} {S : PS} (h1 : ¬ S.2.1 < 50) : plP K b F S = .inl 1 := by
  unfold plP adP; rw [if_neg h1]; rfl
theorem pl_nm {K : Nat → Int} {b : Int} {F : PS → Nat ⊕ PS} {S : PS} (h1 : S.2.1 < 50) (h : ¬ isN b (K S.1) = true) : plP K b F S = .inl 0 := by
  unfold plP adP; rw [if_pos h1, bdP_r]; unfold nmP; rw [if_neg h]; rfl
theorem pl_ok {K : Nat → Int} {b : Int} {F : PS → Nat ⊕ PS} {S : PS} (h1 : S.2.1 < 50) (h : isN b (K S.1) = true) : plP K b F S = bdP (skP K 91 (Snd S 4 (K S.1) 0 (S.1 + 1))) fun S3 => bdP (prP K F S3) fun S4 => bdP (skP K 93 S4) fun S5 => .inr (enP S.2.1 S5) := by
  unfold plP adP; rw [if_pos h1, bdP_r]; unfold nmP; rw [if_pos h, bdP_r]; rfl
theorem me_full {K : Nat → Int} {b : Int} {S : PS} (h1 : ¬ S.2.1 < 50) : meP K b S = .inl 1 := by
  unfold meP adP; rw [if_neg h1]; rfl
theorem me_nm {K : Nat → Int} {b : Int} {S : PS} (h1 : S.2.1 < 50) (h : ¬ isN b (K (S.1 + 1)) = true) : meP K b S = .inl 0 := by
  unfold meP adP; rw [if_pos h1, bdP_r]; unfold nmP; exact if_neg h
theorem me_ok {K : Nat → Int} {b : Int} {S : PS} (h1 : S.2.1 < 50) (h : isN b (K (S.1 + 1)) = true) : meP K b S = .inr (Snd S 5 (K (S.1 + 1)) 0 (S.1 + 2)) := by
  unfold meP adP; rw [if_pos h1, bdP_r]; unfold nmP; exact if_pos h
theorem enP_Snd {S : PS} {kk c r : Int} {a : Nat} : enP S.2.1 (Snd S kk c r a) = Snd S kk c r a := by
  have : u1 (u1 S.2.2.2.2.2 S.2.1 ((S.2.1 + 1 : Nat) : Int)) S.2.1 ((S.2.1 + 1 : Nat) : Int) = u1 S.2.2.2.2.2 S.2.1 ((S.2.1 + 1 : Nat) : Int) := by
    funext i; unfold u1; split <;> rfl
  show (a, (S.2.1 + 1, (u1 S.2.2.1 S.2.1 kk, (u1 S.2.2.2.1 S.2.1 c, (u1 S.2.2.2.2.1 S.2.1 r, u1 (u1 S.2.2.2.2.2 S.2.1 ((S.2.1 + 1 : Nat) : Int)) S.2.1 ((S.2.1 + 1 : Nat) : Int)))))) = _
  rw [this]; rfl
theorem Frm.fro {m s o k : Nat} {C : List Nat} {g g1 g2 : Nat → Nat → Int} (h : Frm m g1 g2 s o C k) (h2 : ∀ a, a ≠ m → g1 a = g a) : Frm m g g2 s o C k := by
  unfold Frm at h ⊢
  rw [h2 (m + 3) (by omega), h2 (m + 4) (by omega), h2 (m + 5) (by omega), h2 (m + 6) (by omega), h2 (m + 7) (by omega), h2 (m + 8) (by omega), h2 (m + 9) (by omega), h2 (m + 10) (by omega), h2 (m + 11) (by omega)] at h
  exact h
theorem nd_done {g0 g gA g1 gB : Nat → Nat → Int} {m n : Nat} {S : PS} {ow : Nat} {C : List Nat} {k a : Nat} {b kk c r : Int} (hR : Rl g0 g m n S ow C k b) (hA : ∀ x, x ≠ m → gA x = g x) (hA2 : ∀ f, f ≠ 6 → gA m f = g m f) (hs : S.2.1 < 50) (hN : NdQ gA g1 m S.2.1 ow C (kdM kk) r) (hB : ∀ x, x ≠ m → x ≠ m + 5 → gB x = g1 x) (hB5 : gB (m + 5) S.2.1 = nmM c) (hB6 : ∀ i, i ≠ S.2.1 → gB (m + 5) i = g1 (m + 5) i) (hB7 : gB m 6 = (a : Int)) (hB8 : ∀ f, f ≠ 6 → gB m f = g1 m f) (hr : r = 0 ∨ r = 1) (ha : a ≤ n) : Rl g0 gB m n (Snd S kk c r a) ow (C ++ [S.2.1]) k b ∧ Sgm gB m (Snd S kk c r a) S.2.1 [S.2.1] ∧ Frm m g gB S.2.1 ow C k := by
  obtain ⟨w, r1, r6, r4, r14, r9, ro, rb, rb8, rw', rn, rs, ro2, rc⟩ := hR
  obtain ⟨n1, n2, n3, n4, n5, n6, n7, n8, n9, n10, n11, n12⟩ := hN
  have q5 : ∀ i, g1 (m + 5) i = g (m + 5) i := fun i => by rw [n3 _ (by omega) (by omega) (by omega) (by omega) (by omega) (by omega), hA _ (by omega)]
  have q9 : ∀ j, 9 ≤ j → j ≤ 11 → gB (m + j) = g (m + j) := fun j h1 h2 => by rw [hB _ (by omega) (by omega), n3 _ (by omega) (by omega) (by omega) (by omega) (by omega) (by omega), hA _ (by omega)]
  have e : ∀ j, 3 ≤ j → j ≤ 8 → j ≠ 5 → gB (m + j) = g1 (m + j) := fun j h1 h2 h3 => by rw [hB _ (by omega) (by omega)]
  have wk : Wk m g0 gB := by
    refine w.trans ⟨fun x h1 h2 => ?_, fun f h1 h4 h6 h14 => ?_⟩
    · rw [hB x h1 (by omega), n3 x h1 (by omega) (by omega) (by omega) (by omega) (by omega), hA x h1]
    · rw [hB8 f h6, n2 f h4, hA2 f h6]
  have ow2 : OW gB m ow (C ++ [S.2.1]) := by unfold OW at n12 ⊢; rw [e 6 (by omega) (by omega) (by omega), e 7 (by omega) (by omega) (by omega), e 8 (by omega) (by omega) (by omega)]; exact n12
  have ownew : OW gB m S.2.1 [] := by
    refine ⟨?_, fun D l hD => absurd hD (by simp), trivial, List.Pairwise.nil⟩
    rw [e 6 (by omega) (by omega) (by omega)]; exact n8
  refine ⟨⟨wk, ?_, hB7, ?_, ?_, r9, ?_, ?_, rb8, ow2, ha, by show S.2.1 + 1 ≤ 50; omega, ?_, ?_⟩, ?_, ?_⟩
  · rw [hB8 1 (by decide), n2 1 (by decide), hA2 1 (by decide)]; exact r1
  · rw [hB8 4 (by decide)]; exact n1
  · rw [hB8 14 (by decide), n2 14 (by decide), hA2 14 (by decide)]; exact r14
  · rw [q9 10 (by omega) (by omega)]; exact ro
  · rw [q9 11 (by omega) (by omega)]; exact rb
  · show ow < S.2.1 + 1 ∨ ow = 50; omega
  · intro x hx
    show x < S.2.1 + 1
    rcases List.mem_append.mp hx with h | h
    · have := rc x h; omega
    · rw [List.mem_singleton] at h; omega
  · have h0 : Sgm gB m (Snd S kk c r a) (S.2.1 + 1) [] := Sgm.nil (S := Snd S kk c r a)
    have h1 := Sgm.wrap (n := S.2.1) h0 ownew (by rw [e 3 (by omega) (by omega) (by omega), n4]; exact congrArg kdM (u1_eq (f := S.2.2.1) (x := kk)).symm) (by rw [hB5]; exact congrArg nmM (u1_eq (f := S.2.2.2.1) (x := c)).symm) (by rw [e 4 (by omega) (by omega) (by omega), n6]; exact (u1_eq (f := S.2.2.2.2.1) (x := r)).symm) (by have : (Snd S kk c r a).2.2.2.2.1 S.2.1 = r := u1_eq; rw [this]; exact hr)
    rw [enP_Snd] at h1
    exact h1
  · refine ⟨fun i hi => ⟨?_, ?_, ?_⟩, fun i hi hio => ⟨?_, ?_⟩, fun i hi hic => ?_, fun i hi => ?_⟩
    · rw [e 3 (by omega) (by omega) (by omega), n5 i (by omega), hA _ (by omega)]
    · rw [e 4 (by omega) (by omega) (by omega), n7 i (by omega), hA _ (by omega)]
    · rw [hB6 i (by omega), q5]
    · rw [e 6 (by omega) (by omega) (by omega), n9 i (by omega) hio, hA _ (by omega)]
    · rw [e 7 (by omega) (by omega) (by omega), n10 i hio, hA _ (by omega)]
    · rw [e 8 (by omega) (by omega) (by omega), n11 i (by omega) hic, hA _ (by omega)]
    · rw [q9 9 (by omega) (by omega), q9 10 (by omega) (by omega), q9 11 (by omega) (by omega)]; exact ⟨rfl, rfl, rfl⟩
/-- only the place read at and the frames' count change -/
theorem Rl.m {g0 g g' : Nat → Nat → Int} {m n : Nat} {S S' : PS} {ow : Nat} {C : List Nat} {k : Nat} {b : Int} (h : Rl g0 g m n S ow C k b) (h1 : ∀ a, a ≠ m → g' a = g a) (h2 : ∀ f, f ≠ 6 → g' m f = g m f) (h6 : g' m 6 = (S'.1 : Int)) (hS : S'.2 = S.2) (hn : S'.1 ≤ n) : Rl g0 g' m n S' ow C k b := by
  obtain ⟨w, r1, r6, r4, r14, r9, ro, rb, rb8, rw', rn, rs, ro2, rc⟩ := h
  refine ⟨w.trans ⟨fun a h3 _ => h1 a h3, fun f _ _ h6 _ => h2 f h6⟩, ?_, h6, ?_, ?_, r9, ?_, ?_, rb8, rw'.to (fun a h3 _ => h1 a h3), hn, ?_, ?_, ?_⟩
  · rw [h2 1 (by decide)]; exact r1
  · rw [h2 4 (by decide), hS]; exact r4
  · rw [h2 14 (by decide)]; exact r14
  · rw [h1 _ (by omega)]; exact ro
  · rw [h1 _ (by omega)]; exact rb
  · rw [hS]; exact rs
  · rw [hS]; exact ro2
  · rw [hS]; exact rc
def PtQ (T : List Int) (u : Mm) (g0 g : Nat → Nat → Int) (m f : Nat) (S : PS) (ow : Nat) (C : List Nat) (k : Nat) (b : Int) (x : Option Vl ⊕ (Nat × Nat)) (u' : Mm) : Prop := ∃ g', u' = sI u g' ∧ (((x = .inl (some (vI 0)) ∨ x = .inl (some (vI 1))) ∧ ∃ e : Nat, ptP (pkL T) f b S = .inl e ∧ Wk m g0 g' ∧ g' m 1 = ((e + 1 : Nat) : Int)) ∨ (x = .inl (some (vI 1)) ∧ ∃ S' C', ptP (pkL T) f b S = .inr S' ∧ Rl g0 g' m T.length S' ow (C ++ C') k b ∧ Sgm g' m S' S.2.1 C' ∧ Frm m g g' S.2.1 ow C k) ∨ (x = .inl (some (vI 0)) ∧ ∃ f', f = f' + 1 ∧ ((ptP (pkL T) f b S = bdP (prP (pkL T) (ptP (pkL T) f' b) (nxP S)) (skP (pkL T) 41) ∧ Rl g0 g' m T.length (nxP S) ow C (k + 1) b ∧ g' (m + 9) (k + 1) = 2 ∧ Frm m g g' S.2.1 ow C k) ∨ (∃ S3 c, ptP (pkL T) f b S = bdP (prP (pkL T) (ptP (pkL T) f' b) S3) (fun S4 => bdP (skP (pkL T) 93 S4) fun S5 => .inr (enP S.2.1 S5)) ∧ PuN g0 g g' m T.length S S3 ow C k 1 b 4 c 0) ∨ ∃ S3 b' kk c r, ptP (pkL T) f b S = bdP (ptP (pkL T) f' b' S3) (fun S4 => .inr (enP S.2.1 S4)) ∧ PuN g0 g g' m T.length S S3 ow C k 3 b' kk c r)))
theorem c99 {P : Pg} {d : Nat} {u : Mm} {g : Nat → Nat → Int} {m : Nat} {T : List Int} {g0 : Nat → Nat → Int} {S : PS} {ow : Nat} {C : List Nat} {k : Nat} {b : Int} {f : Nat} (hM : MdA u m) (h5 : g0 m 5 = (T.length : Int)) (hT : Row (g0 (m + 2)) T) (hTl : T.length ≤ 120) (hTc : ∀ c, c ∈ T → 0 < c ∧ c < 65536) (hR : Rl g0 g m T.length S ow C k b) (hf : k + f = 8) : Ec P (d + 3) 99 [vR m] (sI u g) (PtQ T u g0 g m f S ow C k b) := by
  have s0 := hM.1
  have f10 : mF u m 10 = some (m + 5) := (hM.2 4 (by decide)).1
  have s10 : mS u (m + 5) = some (0, 51) := (hM.2 4 (by decide)).2
  have f16 : mF u m 16 = some (m + 10) := (hM.2 9 (by decide)).1
  have s16 : mS u (m + 10) = some (0, 20) := (hM.2 9 (by decide)).2
  have f17 : mF u m 17 = some (m + 11) := (hM.2 10 (by decide)).1
  have s17 : mS u (m + 11) = some (0, 20) := (hM.2 10 (by decide)).2
  obtain ⟨w, r1, r6, r4, r14, r9, ro, rb, rb8, rw', rn, rs, ro2, rc⟩ := id hR
  have T5 : ∀ {g2 : Nat → Nat → Int}, Wk m g0 g2 → g2 m 5 = (T.length : Int) := fun h => by rw [h.2 5 (by decide) (by decide) (by decide) (by decide)]; exact h5
  have T2 : ∀ {g2 : Nat → Nat → Int}, Wk m g0 g2 → Row (g2 (m + 2)) T := fun h => by rw [h.1 (m + 2) (by omega) (by omega)]; exact hT
  generalize hgA : u2 g m 6 ((S.1 + 1 : Nat) : Int) = gA
  have wA : Wk m g0 gA := by rw [← hgA]; exact w.m (by decide)
  have A1 : ∀ x, x ≠ m → gA x = g x := fun x h => by rw [← hgA, u2_ne h]
  have A2 : ∀ f, f ≠ 6 → gA m f = g m f := fun f h => by rw [← hgA, u2_ni h]
  have A6 : gA m 6 = ((S.1 + 1 : Nat) : Int) := by rw [← hgA, u2_at]
  have hrg := hr_rg (a := S.1) hTc
  have pos : ∀ c : Int, 0 < c → hrL T S.1 = c → pkL T S.1 = c ∧ S.1 < T.length := fun c h0 h => by
    have h1 := (hr_pk h0).mp h
    exact ⟨h1, hr_lt (by omega)⟩
  have neg : ∀ c : Int, 0 < c → ¬ hrL T S.1 = c → ¬ pkL T S.1 = c := fun c h0 h h1 => h ((hr_pk h0).mpr h1)
  change Ef P _ 99 0 [some (vR m), none, none] [] _ _
  refine ef_aload_n (pc := 0) d99_0 rfl ?_
  refine eg_getI (pc := 1) d99_1 lf_8_174 (by assumption) (by decide) ?_
  rw [r14]
  refine ef_bipush (pc := 4) d99_4 (by decide) ?_
  refine ef_icmp_le (pc := 6) d99_6 (t := 16) rfl (fun h6 => ?_) (fun h6 => ?_)
  · obtain ⟨f', rfl⟩ : ∃ f', f = f' + 1 := ⟨f - 1, by omega⟩
    refine ef_aload_n (pc := 16) d99_16 rfl ?_
    refine ef_callV (pc := 17) d99_17 lm_8_177 (as := []) rfl rfl (by assumption) rfl rfl (by decide) (Nat.le_of_ble_eq_true rfl) rfl (Nat.le_of_ble_eq_true rfl) ?_
    refine Ec.imp (c101 hM (T5 w) (T2 w) hTl r6) ?_
    rintro r17 u17 ⟨rfl, rfl⟩
    refine ef_istore_n (pc := 20) d99_20 (ls' := [_, _, _]) rfl ?_
    refine ef_iload_n (pc := 21) d99_21 rfl ?_
    refine ef_bipush (pc := 22) d99_22 (by decide) ?_
    refine ef_icmp_ne (pc := 24) d99_24 (t := 39) rfl (fun h24 => ?_) (fun h24 => ?_)
    · refine ef_iload_n (pc := 39) d99_39 rfl ?_
      refine ef_bipush (pc := 40) d99_40 (by decide) ?_
      refine ef_icmp_ne (pc := 42) d99_42 (t := 85) rfl (fun h42 => ?_) (fun h42 => ?_)
      · refine ef_iload_n (pc := 85) d99_85 rfl ?_
        refine ef_bipush (pc := 86) d99_86 (by decide) ?_
        refine ef_icmp_ne (pc := 88) d99_88 (t := 127) rfl (fun h88 => ?_) (fun h88 => ?_)
        · refine ef_iload_n (pc := 127) d99_127 rfl ?_
          refine ef_callS (pc := 128) d99_128 lm_8_181 (as := [_]) rfl rfl rfl (Nat.le_of_ble_eq_true rfl) rfl (Nat.le_of_ble_eq_true rfl) ?_
          refine Ec.imp (c104) ?_
          rintro r128 u128 ⟨rfl, rfl⟩
          refine ef_if_lt (pc := 131) d99_131 (t := 142) rfl (fun h131 => ?_) (fun h131 => ?_)
          · have hix : ixC (pkL T S.1) < 0 := by
              rcases Int.lt_or_le (ixC (pkL T S.1)) 0 with h | h
              · exact h
              · exfalso
                have h7 := ixC_pos (c := pkL T S.1) (by omega)
                have h8 := (hr_lt2 h7).2
                rw [h8] at h131
                have := gk_ix.1.mp h131
                omega
            refine ef_iload_n (pc := 142) d99_142 rfl ?_
            refine ef_bipush (pc := 143) d99_143 (by decide) ?_
            refine ef_icmp_ne (pc := 145) d99_145 (t := 184) rfl (fun h145 => ?_) (fun h145 => ?_)
            · refine ef_iload_n (pc := 184) d99_184 rfl ?_
              refine ef_bipush (pc := 185) d99_185 (by decide) ?_
              refine ef_bipush (pc := 187) d99_187 (by decide) ?_
              refine ef_callS (pc := 189) d99_189 lm_8_148 (as := [_, _, _]) rfl rfl rfl (Nat.le_of_ble_eq_true rfl) rfl (Nat.le_of_ble_eq_true rfl) ?_
              refine Ec.imp (c93) ?_
              rintro r189 u189 ⟨rfl, rfl⟩
              refine ef_if_eq (pc := 192) d99_192 (t := 259) rfl (fun h192 => ?_) (fun h192 => ?_)
              · have hnr := of_decide_eq_false (b01_t h192)
                refine ef_aload_n (pc := 259) d99_259 rfl ?_
                refine ef_iconst (pc := 260) d99_260 (by decide) ?_
                refine ef_callV (pc := 261) d99_261 lm_8_170 (as := [_]) rfl rfl (by assumption) rfl rfl (by decide) (Nat.le_of_ble_eq_true rfl) rfl (Nat.le_of_ble_eq_true rfl) ?_
                refine Ec.imp (c100 hM) ?_
                rintro r261 u261 ⟨rfl, rfl⟩
                rw [if_pos r1]
                refine ef_iconst (pc := 264) d99_264 (by decide) ?_
                refine ef_zret (pc := 265) d99_265 rfl (by omega) ?_
                have hnr2 : ¬ (97 ≤ pkL T S.1 ∧ pkL T S.1 ≤ 122) := fun h => hnr (by rw [(hr_lt2 (T := T) (a := S.1) (by omega)).2]; exact h)
                exact ⟨_, rfl, Or.inl ⟨Or.inl rfl, 0, pt_no (neg 48 (by decide) h24) (neg 40 (by decide) h42) (neg 39 (by decide) h88) hnr2 (neg 33 (by decide) h145) hix, w.m (by decide), u2_at⟩⟩
              · have hyr := of_decide_eq_true (b01_f h192)
                obtain ⟨k3, k2⟩ := pos _ (by omega) rfl
                have k1 : 97 ≤ pkL T S.1 ∧ pkL T S.1 ≤ 122 := by rw [k3]; exact hyr
                refine ef_aload_n (pc := 195) d99_195 rfl ?_
                refine ef_iconst (pc := 196) d99_196 (by decide) ?_
                refine ef_iconst (pc := 197) d99_197 (by decide) ?_
                refine ef_callV (pc := 198) d99_198 lm_8_184 (as := [_, _]) rfl rfl (by assumption) rfl rfl (by decide) (Nat.le_of_ble_eq_true rfl) rfl (Nat.le_of_ble_eq_true rfl) ?_
                refine Ec.imp (c102 (C := C) (kk := kdM 4) hM r4 rs r14 (by omega) ro rw' ro2 rc r1 (Or.inl rfl)) ?_
                rintro r198 u198 (⟨hs, rfl, rfl⟩ | ⟨hs, rfl, g1, rfl, hN⟩)
                · refine ef_istore_n (pc := 201) d99_201 (ls' := [_, _, _]) rfl ?_
                  refine ef_aload_n (pc := 202) d99_202 rfl ?_
                  refine eg_getI (pc := 203) d99_203 lf_8_145 (by assumption) (by decide) ?_
                  rw [u2_at]
                  refine ef_if_neT (pc := 206) d99_206 (t := 219) rfl (by decide) ?_
                  refine ef_aload_n (pc := 219) d99_219 rfl ?_
                  refine eg_getI (pc := 220) d99_220 lf_8_145 (by assumption) (by decide) ?_
                  rw [u2_at]
                  refine ef_if_neT (pc := 223) d99_223 (t := 232) rfl (by decide) ?_
                  refine ef_aload_n (pc := 232) d99_232 rfl ?_
                  refine eg_getI (pc := 233) d99_233 lf_8_145 (by assumption) (by decide) ?_
                  rw [u2_at]
                  refine ef_if_neT (pc := 236) d99_236 (t := 256) rfl (by decide) ?_
                  refine ef_goto (pc := 256) d99_256 (t := 264) rfl ?_
                  refine ef_iconst (pc := 264) d99_264 (by decide) ?_
                  refine ef_zret (pc := 265) d99_265 rfl (by omega) ?_
                  exact ⟨_, rfl, Or.inl ⟨Or.inl rfl, 1, (pt_pl k1).trans (pl_full (by omega)), w.m (by decide), u2_at⟩⟩
                · obtain ⟨n1, n2, n3, n4, n5, n6, n7, n8, n9, n10, n11, n12⟩ := id hN
                  have w1 : Wk m g0 g1 := w.trans ⟨fun x h1 h2 => n3 x h1 (by omega) (by omega) (by omega) (by omega) (by omega), fun f h1 h4 h6 h14 => n2 f h4⟩
                  have N1 : g1 m 1 = 0 := by rw [n2 1 (by decide)]; exact r1
                  have N14 : g1 m 14 = ((k + 1 : Nat) : Int) := by rw [n2 14 (by decide)]; exact r14
                  have N6 : g1 m 6 = (S.1 : Int) := by rw [n2 6 (by decide)]; exact r6
                  have Nb : g1 (m + 11) k = b := by rw [n3 _ (by omega) (by omega) (by omega) (by omega) (by omega) (by omega)]; exact rb
                  refine ef_istore_n (pc := 201) d99_201 (ls' := [_, _, _]) rfl ?_
                  refine ef_aload_n (pc := 202) d99_202 rfl ?_
                  refine eg_getI (pc := 203) d99_203 lf_8_145 (by assumption) (by decide) ?_
                  rw [N1]
                  refine ef_if_neF (pc := 206) d99_206 (t := 219) rfl (rfl) ?_
                  refine ef_aload_n (pc := 209) d99_209 rfl ?_
                  refine eg_getR (pc := 210) d99_210 lf_8_23 (by assumption) (by decide) (by assumption) ?_
                  refine ef_iload_n (pc := 213) d99_213 rfl ?_
                  refine ef_aload_n (pc := 214) d99_214 rfl ?_
                  refine ef_callV (pc := 215) d99_215 lm_8_188 (as := []) rfl rfl (by assumption) rfl rfl (by decide) (Nat.le_of_ble_eq_true rfl) rfl (Nat.le_of_ble_eq_true rfl) ?_
                  refine Ec.imp (c103 hM (T5 w1) (T2 w1) hTl N6 hTc N1 N14 (by omega) Nb rb8) ?_
                  rintro r215 u215 (⟨hn1, hn2, rfl, rfl⟩ | ⟨hn1, rfl, rfl⟩)
                  · refine eg_iast (pc := 218) d99_218 (i := S.2.1) (by assumption) (rfl) (by omega) rfl ?_
                    refine ef_aload_n (pc := 219) d99_219 rfl ?_
                    refine eg_getI (pc := 220) d99_220 lf_8_145 (by assumption) (by decide) ?_
                    rw [u2_ne (by omega), u2_ni (by decide), N1]
                    refine ef_if_neF (pc := 223) d99_223 (t := 232) rfl (rfl) ?_
                    refine ef_aload_n (pc := 226) d99_226 rfl ?_
                    refine ef_bipush (pc := 227) d99_227 (by decide) ?_
                    refine ef_callV (pc := 229) d99_229 lm_8_191 (as := [_]) rfl rfl (by assumption) rfl rfl (by decide) (Nat.le_of_ble_eq_true rfl) rfl (Nat.le_of_ble_eq_true rfl) ?_
                    refine Ec.imp (c106 (a := S.1 + 1) hM (T5 ((w1.m (by decide)).a (by decide) (by decide))) (T2 ((w1.m (by decide)).a (by decide) (by decide))) hTl (by rw [u2_ne (by omega), u2_at]) (by rw [u2_ne (by omega), u2_ni (by decide)]; exact N1) (by omega)) ?_
                    rintro r229 u229 ⟨rfl, ⟨hq, rfl⟩ | ⟨hq, rfl⟩⟩
                    · have hp91 := (hr_pk (by decide)).mp hq
                      have h91 := (hr_lt2 (T := T) (a := S.1 + 1) (by omega)).1
                      refine ef_aload_n (pc := 232) d99_232 rfl ?_
                      refine eg_getI (pc := 233) d99_233 lf_8_145 (by assumption) (by decide) ?_
                      rw [u2_ni (by decide), u2_ne (by omega), u2_ni (by decide), N1]
                      refine ef_if_neF (pc := 236) d99_236 (t := 256) rfl (rfl) ?_
                      refine ef_aload_n (pc := 239) d99_239 rfl ?_
                      refine ef_iconst (pc := 240) d99_240 (by decide) ?_
                      refine ef_iload_n (pc := 241) d99_241 rfl ?_
                      refine ef_aload_n (pc := 242) d99_242 rfl ?_
                      refine eg_getR (pc := 243) d99_243 lf_8_41 (by assumption) (by decide) (by assumption) ?_
                      refine ef_aload_n (pc := 246) d99_246 rfl ?_
                      refine eg_getI (pc := 247) d99_247 lf_8_174 (by assumption) (by decide) ?_
                      rw [u2_ni (by decide), u2_ne (by omega), u2_ni (by decide), N14]
                      refine ef_iconst (pc := 250) d99_250 (by decide) ?_
                      refine ef_isub (pc := 251) d99_251 (z := (k : Int)) (by omega) ⟨by omega, by omega⟩ ?_
                      refine eg_iald (pc := 252) d99_252 (i := k) (by assumption) (rfl) (by omega) ?_
                      rw [u2_ne (by omega), u2_ne (by omega), u2_ne (by omega), Nb]
                      refine ef_callV (pc := 253) d99_253 lm_8_194 (as := [_, _, _]) rfl rfl (by assumption) rfl rfl (by decide) (Nat.le_of_ble_eq_true rfl) rfl (Nat.le_of_ble_eq_true rfl) ?_
                      refine Ec.imp (c98 (k := k + 1) hM (by rw [u2_ni (by decide), u2_ne (by omega), u2_ni (by decide)]; exact N14) (by omega)) ?_
                      rintro r253 u253 ⟨rfl, rfl⟩
                      refine ef_goto (pc := 256) d99_256 (t := 264) rfl ?_
                      refine ef_iconst (pc := 264) d99_264 (by decide) ?_
                      refine ef_zret (pc := 265) d99_265 rfl (by omega) ?_
                      refine ⟨_, rfl, Or.inr (Or.inr ⟨rfl, _, rfl, Or.inr (Or.inl ⟨Snd S 4 (pkL T S.1) 0 (S.1 + 2), pkL T S.1, ?_, ?_⟩)⟩)⟩
                      · rw [pt_pl k1, pl_ok hs hn1, sk_y (S := Snd S 4 (pkL T S.1) 0 (S.1 + 1)) hp91]; rfl
                      · exact pun_of (a := S.1 + 2) hR (by omega) (fun _ _ => rfl) (fun _ _ => rfl) hs hN (fun x h1 h2 => by rw [u2_ne h1, u2_ne h2, u2_ne h1]) (by rw [u2_ne (by omega), u2_at]) (fun i hi => by rw [u2_ne (by omega), u2_ni hi, u2_ne (by omega)]) u2_at (fun f hf => by rw [u2_ni hf, u2_ne (by omega), u2_ni hf]) (Or.inl rfl) rb8 (by omega)
                    · refine ef_aload_n (pc := 232) d99_232 rfl ?_
                      refine eg_getI (pc := 233) d99_233 lf_8_145 (by assumption) (by decide) ?_
                      rw [u2_at]
                      refine ef_if_neT (pc := 236) d99_236 (t := 256) rfl (by decide) ?_
                      refine ef_goto (pc := 256) d99_256 (t := 264) rfl ?_
                      refine ef_iconst (pc := 264) d99_264 (by decide) ?_
                      refine ef_zret (pc := 265) d99_265 rfl (by omega) ?_
                      exact ⟨_, rfl, Or.inl ⟨Or.inl rfl, 0, by rw [pt_pl k1, pl_ok hs hn1, sk_n (S := Snd S 4 (pkL T S.1) 0 (S.1 + 1)) (fun h => hq ((hr_pk (by decide)).mpr h))]; rfl, ((w1.m (by decide)).a (by decide) (by decide)).m (by decide), u2_at⟩⟩
                  · refine eg_iast (pc := 218) d99_218 (i := S.2.1) (by assumption) (rfl) (by omega) rfl ?_
                    refine ef_aload_n (pc := 219) d99_219 rfl ?_
                    refine eg_getI (pc := 220) d99_220 lf_8_145 (by assumption) (by decide) ?_
                    rw [u2_ne (by omega), u2_at]
                    refine ef_if_neT (pc := 223) d99_223 (t := 232) rfl (by decide) ?_
                    refine ef_aload_n (pc := 232) d99_232 rfl ?_
                    refine eg_getI (pc := 233) d99_233 lf_8_145 (by assumption) (by decide) ?_
                    rw [u2_ne (by omega), u2_at]
                    refine ef_if_neT (pc := 236) d99_236 (t := 256) rfl (by decide) ?_
                    refine ef_goto (pc := 256) d99_256 (t := 264) rfl ?_
                    refine ef_iconst (pc := 264) d99_264 (by decide) ?_
                    refine ef_zret (pc := 265) d99_265 rfl (by omega) ?_
                    exact ⟨_, rfl, Or.inl ⟨Or.inl rfl, 0, (pt_pl k1).trans (pl_nm hs (by rw [hn1]; decide)), (w1.m (by decide)).a (by decide) (by decide), by rw [u2_ne (by omega), u2_at]; rfl⟩⟩
            · obtain ⟨k1, k2⟩ := pos 33 (by decide) h145
              have hRA : Rl g0 gA m T.length (nxP S) ow C k b := hR.m A1 A2 A6 rfl (by show S.1 + 1 ≤ _; omega)
              refine ef_aload_n (pc := 148) d99_148 rfl ?_
              refine ef_dup (pc := 149) d99_149 rfl ?_
              refine eg_getI (pc := 150) d99_150 lf_8_161 (by assumption) (by decide) ?_
              try simp (disch := omega) only [u2_ne, u2_at, u2_ni, ur_ne, ur_eq]
              rw [r6]
              refine ef_iconst (pc := 153) d99_153 (by decide) ?_
              refine ef_iadd (pc := 154) d99_154 (z := ((S.1 + 1 : Nat) : Int)) (by omega) ⟨by omega, by omega⟩ ?_
              refine eg_putI (pc := 155) d99_155 pf_99_161 (by assumption) (by decide) ?_
              rw [hgA]
              refine ef_aload_n (pc := 158) d99_158 rfl ?_
              refine ef_callV (pc := 159) d99_159 lm_8_177 (as := []) rfl rfl (by assumption) rfl rfl (by decide) (Nat.le_of_ble_eq_true rfl) rfl (Nat.le_of_ble_eq_true rfl) ?_
              refine Ec.imp (c101 hM (T5 wA) (T2 wA) hTl A6) ?_
              rintro r159 u159 ⟨rfl, rfl⟩
              refine ef_callS (pc := 162) d99_162 lm_8_181 (as := [_]) rfl rfl rfl (Nat.le_of_ble_eq_true rfl) rfl (Nat.le_of_ble_eq_true rfl) ?_
              refine Ec.imp (c104) ?_
              rintro r162 u162 ⟨rfl, rfl⟩
              refine ef_if_ge (pc := 165) d99_165 (t := 176) rfl (fun h165 => ?_) (fun h165 => ?_)
              · have hix2 : ¬ ixC (pkL T (nxP S).1) < 0 := by
                  show ¬ ixC (pkL T (S.1 + 1)) < 0
                  have h9 : hrL T (S.1 + 1) = 62 ∨ hrL T (S.1 + 1) = 60 ∨ hrL T (S.1 + 1) = 94 ∨ hrL T (S.1 + 1) = 63 := by
                    unfold gkF at h165
                    (repeat split at h165) <;> omega
                  have h8 : hrL T (S.1 + 1) = pkL T (S.1 + 1) := hr_eq (hr_lt (by omega))
                  rw [← h8]
                  exact fun h => by have := gk_ix.1.mpr h; omega
                refine ef_aload_n (pc := 176) d99_176 rfl ?_
                refine ef_iconst (pc := 177) d99_177 (by decide) ?_
                refine ef_callV (pc := 178) d99_178 lm_8_198 (as := [_]) rfl rfl (by assumption) rfl rfl (by decide) (Nat.le_of_ble_eq_true rfl) rfl (Nat.le_of_ble_eq_true rfl) ?_
                refine Ec.imp (c105 (d := d) hM h5 hT hTl hTc hRA (by omega) hix2 (Or.inr rfl)) ?_
                rintro r178 u178 ⟨rfl, g2, rfl, ⟨e, he, wk, hb⟩ | ⟨S3, b', kk, c, he, hp⟩⟩
                · refine ef_goto (pc := 181) d99_181 (t := 264) rfl ?_
                  refine ef_iconst (pc := 264) d99_264 (by decide) ?_
                  refine ef_zret (pc := 265) d99_265 rfl (by omega) ?_
                  exact ⟨_, rfl, Or.inl ⟨Or.inl rfl, e, by rw [pt_33 k1]; exact he _, wk, hb⟩⟩
                · refine ef_goto (pc := 181) d99_181 (t := 264) rfl ?_
                  refine ef_iconst (pc := 264) d99_264 (by decide) ?_
                  refine ef_zret (pc := 265) d99_265 rfl (by omega) ?_
                  exact ⟨_, rfl, Or.inr (Or.inr ⟨rfl, _, rfl, Or.inr (Or.inr ⟨S3, b', kk, c, _, by rw [pt_33 k1]; exact he _, ⟨hp.1, hp.2.1, hp.2.2.1, hp.2.2.2.1, hp.2.2.2.2.1, hp.2.2.2.2.2.1, hp.2.2.2.2.2.2.1, hp.2.2.2.2.2.2.2.1, hp.2.2.2.2.2.2.2.2.1, hp.2.2.2.2.2.2.2.2.2.fro A1⟩⟩)⟩)⟩
              · have hix2 : ixC (pkL T (S.1 + 1)) < 0 := by
                  rcases Int.lt_or_le (ixC (pkL T (S.1 + 1))) 0 with h | h
                  · exact h
                  · exfalso
                    have h7 := ixC_pos (c := pkL T (S.1 + 1)) (by omega)
                    have h8 := (hr_lt2 h7).2
                    rw [h8] at h165
                    have := gk_ix.1.mp (show gkF (pkL T (S.1 + 1)) < 0 by omega)
                    omega
                refine ef_aload_n (pc := 168) d99_168 rfl ?_
                refine ef_iconst (pc := 169) d99_169 (by decide) ?_
                refine ef_callV (pc := 170) d99_170 lm_8_170 (as := [_]) rfl rfl (by assumption) rfl rfl (by decide) (Nat.le_of_ble_eq_true rfl) rfl (Nat.le_of_ble_eq_true rfl) ?_
                refine Ec.imp (c100 hM) ?_
                rintro r170 u170 ⟨rfl, rfl⟩
                rw [if_pos (show gA m 1 = 0 by rw [A2 1 (by decide)]; exact r1)]
                refine ef_goto (pc := 173) d99_173 (t := 264) rfl ?_
                refine ef_iconst (pc := 264) d99_264 (by decide) ?_
                refine ef_zret (pc := 265) d99_265 rfl (by omega) ?_
                exact ⟨_, rfl, Or.inl ⟨Or.inl rfl, 0, by rw [pt_33 k1]; unfold grP; exact if_pos hix2, wA.m (by decide), u2_at⟩⟩
          · have hix : ¬ ixC (pkL T S.1) < 0 := by
              have h9 : hrL T S.1 = 62 ∨ hrL T S.1 = 60 ∨ hrL T S.1 = 94 ∨ hrL T S.1 = 63 := by
                unfold gkF at h131
                (repeat split at h131) <;> omega
              have h8 : hrL T S.1 = pkL T S.1 := by rcases h9 with h | h | h | h <;> rw [(pos _ (by decide) h).1, h]
              rw [← h8]
              exact fun h => by have := gk_ix.1.mpr h; omega
            refine ef_aload_n (pc := 134) d99_134 rfl ?_
            refine ef_iconst (pc := 135) d99_135 (by decide) ?_
            refine ef_callV (pc := 136) d99_136 lm_8_198 (as := [_]) rfl rfl (by assumption) rfl rfl (by decide) (Nat.le_of_ble_eq_true rfl) rfl (Nat.le_of_ble_eq_true rfl) ?_
            refine Ec.imp (c105 (d := d) hM h5 hT hTl hTc hR (by omega) hix (Or.inl rfl)) ?_
            rintro r136 u136 ⟨rfl, g2, rfl, ⟨e, he, wk, hb⟩ | ⟨S3, b', kk, c, he, hp⟩⟩
            · refine ef_goto (pc := 139) d99_139 (t := 264) rfl ?_
              refine ef_iconst (pc := 264) d99_264 (by decide) ?_
              refine ef_zret (pc := 265) d99_265 rfl (by omega) ?_
              exact ⟨_, rfl, Or.inl ⟨Or.inl rfl, e, by rw [pt_g hix]; exact he _, wk, hb⟩⟩
            · refine ef_goto (pc := 139) d99_139 (t := 264) rfl ?_
              refine ef_iconst (pc := 264) d99_264 (by decide) ?_
              refine ef_zret (pc := 265) d99_265 rfl (by omega) ?_
              exact ⟨_, rfl, Or.inr (Or.inr ⟨rfl, _, rfl, Or.inr (Or.inr ⟨S3, b', kk, c, _, by rw [pt_g hix]; exact he _, hp⟩)⟩)⟩
        · obtain ⟨k1, k2⟩ := pos 39 (by decide) h88
          refine ef_aload_n (pc := 91) d99_91 rfl ?_
          refine ef_iconst (pc := 92) d99_92 (by decide) ?_
          refine ef_iconst (pc := 93) d99_93 (by decide) ?_
          refine ef_callV (pc := 94) d99_94 lm_8_184 (as := [_, _]) rfl rfl (by assumption) rfl rfl (by decide) (Nat.le_of_ble_eq_true rfl) rfl (Nat.le_of_ble_eq_true rfl) ?_
          refine Ec.imp (c102 (C := C) (kk := kdM 5) hM r4 rs r14 (by omega) ro rw' ro2 rc r1 (Or.inl rfl)) ?_
          rintro r94 u94 (⟨hs, rfl, rfl⟩ | ⟨hs, rfl, g1, rfl, hN⟩)
          · refine ef_istore_n (pc := 97) d99_97 (ls' := [_, _, _]) rfl ?_
            refine ef_aload_n (pc := 98) d99_98 rfl ?_
            refine ef_dup (pc := 99) d99_99 rfl ?_
            refine eg_getI (pc := 100) d99_100 lf_8_161 (by assumption) (by decide) ?_
            rw [u2_ni (by decide), r6]
            refine ef_iconst (pc := 103) d99_103 (by decide) ?_
            refine ef_iadd (pc := 104) d99_104 (z := ((S.1 + 1 : Nat) : Int)) (by omega) ⟨by omega, by omega⟩ ?_
            refine eg_putI (pc := 105) d99_105 pf_99_161 (by assumption) (by decide) ?_
            refine ef_aload_n (pc := 108) d99_108 rfl ?_
            refine eg_getI (pc := 109) d99_109 lf_8_145 (by assumption) (by decide) ?_
            rw [u2_ni (by decide), u2_at]
            refine ef_if_neT (pc := 112) d99_112 (t := 125) rfl (by decide) ?_
            refine ef_iconst (pc := 125) d99_125 (by decide) ?_
            refine ef_zret (pc := 126) d99_126 rfl (by omega) ?_
            exact ⟨_, rfl, Or.inl ⟨Or.inr rfl, 1, (pt_39 k1).trans (me_full (by omega)), (w.m (by decide)).m (by decide), by rw [u2_ni (by decide), u2_at]; rfl⟩⟩
          · obtain ⟨n1, n2, n3, n4, n5, n6, n7, n8, n9, n10, n11, n12⟩ := id hN
            have w1 : Wk m g0 g1 := w.trans ⟨fun x h1 h2 => n3 x h1 (by omega) (by omega) (by omega) (by omega) (by omega), fun f h1 h4 h6 h14 => n2 f h4⟩
            have N1 : g1 m 1 = 0 := by rw [n2 1 (by decide)]; exact r1
            have N14 : g1 m 14 = ((k + 1 : Nat) : Int) := by rw [n2 14 (by decide)]; exact r14
            have N6 : g1 m 6 = (S.1 : Int) := by rw [n2 6 (by decide)]; exact r6
            have Nb : g1 (m + 11) k = b := by rw [n3 _ (by omega) (by omega) (by omega) (by omega) (by omega) (by omega)]; exact rb
            refine ef_istore_n (pc := 97) d99_97 (ls' := [_, _, _]) rfl ?_
            refine ef_aload_n (pc := 98) d99_98 rfl ?_
            refine ef_dup (pc := 99) d99_99 rfl ?_
            refine eg_getI (pc := 100) d99_100 lf_8_161 (by assumption) (by decide) ?_
            rw [N6]
            refine ef_iconst (pc := 103) d99_103 (by decide) ?_
            refine ef_iadd (pc := 104) d99_104 (z := ((S.1 + 1 : Nat) : Int)) (by omega) ⟨by omega, by omega⟩ ?_
            refine eg_putI (pc := 105) d99_105 pf_99_161 (by assumption) (by decide) ?_
            refine ef_aload_n (pc := 108) d99_108 rfl ?_
            refine eg_getI (pc := 109) d99_109 lf_8_145 (by assumption) (by decide) ?_
            rw [u2_ni (by decide), N1]
            refine ef_if_neF (pc := 112) d99_112 (t := 125) rfl (rfl) ?_
            refine ef_aload_n (pc := 115) d99_115 rfl ?_
            refine eg_getR (pc := 116) d99_116 lf_8_23 (by assumption) (by decide) (by assumption) ?_
            refine ef_iload_n (pc := 119) d99_119 rfl ?_
            refine ef_aload_n (pc := 120) d99_120 rfl ?_
            refine ef_callV (pc := 121) d99_121 lm_8_188 (as := []) rfl rfl (by assumption) rfl rfl (by decide) (Nat.le_of_ble_eq_true rfl) rfl (Nat.le_of_ble_eq_true rfl) ?_
            refine Ec.imp (c103 hM (T5 (w1.m (by decide))) (T2 (w1.m (by decide))) hTl u2_at hTc (by rw [u2_ni (by decide)]; exact N1) (by rw [u2_ni (by decide)]; exact N14) (by omega) (by rw [u2_ne (by omega)]; exact Nb) rb8) ?_
            rintro r121 u121 (⟨hn1, hn2, rfl, rfl⟩ | ⟨hn1, rfl, rfl⟩)
            · refine eg_iast (pc := 124) d99_124 (i := S.2.1) (by assumption) (rfl) (by omega) rfl ?_
              refine ef_iconst (pc := 125) d99_125 (by decide) ?_
              refine ef_zret (pc := 126) d99_126 rfl (by omega) ?_
              obtain ⟨z1, z2, z3⟩ := nd_done (gB := u2 (u2 (u2 g1 m 6 ((S.1 + 1 : Nat) : Int)) m 6 ((S.1 + 1 + 1 : Nat) : Int)) (m + 5) S.2.1 (nmM (pkL T (S.1 + 1)))) (kk := 5) (c := pkL T (S.1 + 1)) (a := S.1 + 2) hR (fun _ _ => rfl) (fun _ _ => rfl) hs hN (fun x h1 h2 => by rw [u2_ne h2, u2_ne h1, u2_ne h1]) u2_at (fun i hi => by rw [u2_ni hi, u2_ne (by omega), u2_ne (by omega)]) (by rw [u2_ne (by omega), u2_at]) (fun f hf => by rw [u2_ne (by omega), u2_ni hf, u2_ni hf]) (Or.inl rfl) (by omega)
              exact ⟨_, rfl, Or.inr (Or.inl ⟨rfl, _, [S.2.1], (pt_39 k1).trans (me_ok hs hn1), z1, z2, z3⟩)⟩
            · refine eg_iast (pc := 124) d99_124 (i := S.2.1) (by assumption) (rfl) (by omega) rfl ?_
              refine ef_iconst (pc := 125) d99_125 (by decide) ?_
              refine ef_zret (pc := 126) d99_126 rfl (by omega) ?_
              exact ⟨_, rfl, Or.inl ⟨Or.inr rfl, 0, (pt_39 k1).trans (me_nm hs (by rw [hn1]; decide)), ((w1.m (by decide)).m (by decide)).a (by decide) (by decide), by rw [u2_ne (by omega), u2_at]; rfl⟩⟩
      · obtain ⟨k1, k2⟩ := pos 40 (by decide) h42
        refine ef_aload_n (pc := 45) d99_45 rfl ?_
        refine ef_dup (pc := 46) d99_46 rfl ?_
        refine eg_getI (pc := 47) d99_47 lf_8_161 (by assumption) (by decide) ?_
        try simp (disch := omega) only [u2_ne, u2_at, u2_ni, ur_ne, ur_eq]
        rw [r6]
        refine ef_iconst (pc := 50) d99_50 (by decide) ?_
        refine ef_iadd (pc := 51) d99_51 (z := ((S.1 + 1 : Nat) : Int)) (by omega) ⟨by omega, by omega⟩ ?_
        refine eg_putI (pc := 52) d99_52 pf_99_161 (by assumption) (by decide) ?_
        rw [hgA]
        refine ef_aload_n (pc := 55) d99_55 rfl ?_
        refine ef_iconst (pc := 56) d99_56 (by decide) ?_
        refine ef_aload_n (pc := 57) d99_57 rfl ?_
        refine eg_getR (pc := 58) d99_58 lf_8_38 (by assumption) (by decide) (by assumption) ?_
        refine ef_aload_n (pc := 61) d99_61 rfl ?_
        refine eg_getI (pc := 62) d99_62 lf_8_174 (by assumption) (by decide) ?_
        rw [A2 14 (by decide), r14]
        refine ef_iconst (pc := 65) d99_65 (by decide) ?_
        refine ef_isub (pc := 66) d99_66 (z := (k : Int)) (by omega) ⟨by omega, by omega⟩ ?_
        refine eg_iald (pc := 67) d99_67 (i := k) (by assumption) (rfl) (by omega) ?_
        rw [A1 _ (by omega), ro]
        refine ef_aload_n (pc := 68) d99_68 rfl ?_
        refine eg_getR (pc := 69) d99_69 lf_8_41 (by assumption) (by decide) (by assumption) ?_
        refine ef_aload_n (pc := 72) d99_72 rfl ?_
        refine eg_getI (pc := 73) d99_73 lf_8_174 (by assumption) (by decide) ?_
        rw [A2 14 (by decide), r14]
        refine ef_iconst (pc := 76) d99_76 (by decide) ?_
        refine ef_isub (pc := 77) d99_77 (z := (k : Int)) (by omega) ⟨by omega, by omega⟩ ?_
        refine eg_iald (pc := 78) d99_78 (i := k) (by assumption) (rfl) (by omega) ?_
        rw [A1 _ (by omega), rb]
        refine ef_callV (pc := 79) d99_79 lm_8_194 (as := [_, _, _]) rfl rfl (by assumption) rfl rfl (by decide) (Nat.le_of_ble_eq_true rfl) rfl (Nat.le_of_ble_eq_true rfl) ?_
        refine Ec.imp (c98 (k := k + 1) hM (by rw [A2 14 (by decide)]; exact r14) (by omega)) ?_
        rintro r79 u79 ⟨rfl, rfl⟩
        refine ef_goto (pc := 82) d99_82 (t := 264) rfl ?_
        refine ef_iconst (pc := 264) d99_264 (by decide) ?_
        refine ef_zret (pc := 265) d99_265 rfl (by omega) ?_
        refine ⟨_, rfl, Or.inr (Or.inr ⟨rfl, _, rfl, Or.inl ⟨pt_40 k1, ?_, ?_, ?_⟩⟩)⟩
        · refine ⟨((((wA.a (by decide) (by decide)).a (by decide) (by decide)).a (by decide) (by decide)).m (by decide)), ?_, ?_, ?_, u2_at, by omega, ?_, ?_, rb8, rw'.to (fun a h1 h2 => by rw [u2_ne h1, u2_ne (by omega), u2_ne (by omega), u2_ne (by omega), A1 a h1]), by show S.1 + 1 ≤ _; omega, rs, ro2, rc⟩
          · rw [u2_ni (by decide), u2_ne (by omega), u2_ne (by omega), u2_ne (by omega), A2 1 (by decide)]; exact r1
          · rw [u2_ni (by decide), u2_ne (by omega), u2_ne (by omega), u2_ne (by omega)]; exact A6
          · rw [u2_ni (by decide), u2_ne (by omega), u2_ne (by omega), u2_ne (by omega), A2 4 (by decide)]; exact r4
          · rw [u2_ne (by omega), u2_ne (by omega), u2_at]
          · rw [u2_ne (by omega), u2_at]
        · rw [u2_ne (by omega), u2_ne (by omega), u2_ne (by omega), u2_at]
        · refine ⟨fun i hi => ?_, fun i hi hj => ?_, fun i hi hj => ?_, fun i hi => ⟨?_, ?_, ?_⟩⟩
          · rw [u2_ne (by omega), u2_ne (by omega), u2_ne (by omega), u2_ne (by omega), A1 _ (by omega), u2_ne (by omega), u2_ne (by omega), u2_ne (by omega), u2_ne (by omega), A1 _ (by omega), u2_ne (by omega), u2_ne (by omega), u2_ne (by omega), u2_ne (by omega), A1 _ (by omega)]; exact ⟨rfl, rfl, rfl⟩
          · rw [u2_ne (by omega), u2_ne (by omega), u2_ne (by omega), u2_ne (by omega), A1 _ (by omega), u2_ne (by omega), u2_ne (by omega), u2_ne (by omega), u2_ne (by omega), A1 _ (by omega)]; exact ⟨rfl, rfl⟩
          · rw [u2_ne (by omega), u2_ne (by omega), u2_ne (by omega), u2_ne (by omega), A1 _ (by omega)]
          · rw [u2_ne (by omega), u2_ne (by omega), u2_ne (by omega), u2_ni (by omega), A1 _ (by omega)]
          · rw [u2_ne (by omega), u2_ne (by omega), u2_ni (by omega), u2_ne (by omega), A1 _ (by omega)]
          · rw [u2_ne (by omega), u2_ni (by omega), u2_ne (by omega), u2_ne (by omega), A1 _ (by omega)]
    · obtain ⟨k1, k2⟩ := pos 48 (by decide) h24
      refine ef_aload_n (pc := 27) d99_27 rfl ?_
      refine ef_dup (pc := 28) d99_28 rfl ?_
      refine eg_getI (pc := 29) d99_29 lf_8_161 (by assumption) (by decide) ?_
      try simp (disch := omega) only [u2_ne, u2_at, u2_ni, ur_ne, ur_eq]
      rw [r6]
      refine ef_iconst (pc := 32) d99_32 (by decide) ?_
      refine ef_iadd (pc := 33) d99_33 (z := ((S.1 + 1 : Nat) : Int)) (by omega) ⟨by omega, by omega⟩ ?_
      refine eg_putI (pc := 34) d99_34 pf_99_161 (by assumption) (by decide) ?_
      rw [hgA]
      refine ef_iconst (pc := 37) d99_37 (by decide) ?_
      refine ef_zret (pc := 38) d99_38 rfl (by omega) ?_
      exact ⟨_, rfl, Or.inr (Or.inl ⟨rfl, nxP S, [], pt_48 k1, by rw [List.append_nil]; exact hR.m A1 A2 A6 rfl (by show S.1 + 1 ≤ _; omega), Sgm.nil (S := nxP S), Frm.refl.to A1⟩)⟩
  · have hf0 : f = 0 := by omega
    subst hf0
    refine ef_aload_n (pc := 9) d99_9 rfl ?_
    refine ef_iconst (pc := 10) d99_10 (by decide) ?_
    refine ef_callV (pc := 11) d99_11 lm_8_170 (as := [_]) rfl rfl (by assumption) rfl rfl (by decide) (Nat.le_of_ble_eq_true rfl) rfl (Nat.le_of_ble_eq_true rfl) ?_
    refine Ec.imp (c100 hM) ?_
    rintro r11 u11 ⟨rfl, rfl⟩
    rw [if_pos r1]
    refine ef_iconst (pc := 14) d99_14 (by decide) ?_
    refine ef_zret (pc := 15) d99_15 rfl (by omega) ?_
    exact ⟨_, rfl, Or.inl ⟨Or.inl rfl, 1, rfl, w.m (by decide), u2_at⟩⟩
