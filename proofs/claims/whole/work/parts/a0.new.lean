/-! The constructors. Written by wip/whole/gen/ca0.py. -/
/-- memory grown by arrays that hang at the cell a -/
def Ar (u v : Mm) (a : Nat) (tb : Nat → Nat × (Nat × Nat)) (k U : Nat) (Z : Nat → Nat → Int) : Prop := mT v = mT u + k ∧ mU v = mU u + U ∧ (∀ b, b < mT u → mI v b = mI u b ∧ mS v b = mS u b ∧ (b ≠ a → mF v b = mF u b)) ∧ ∀ j, j < k → (∀ i, mI v (mT u + j) i = Z (mT u + j) i) ∧ mF v a (tb j).1 = some (mT u + j) ∧ mS v (mT u + j) = some (tb j).2
theorem Ar.zero {u : Mm} {a : Nat} {tb : Nat → Nat × (Nat × Nat)} {Z : Nat → Nat → Int} : Ar u u a tb 0 0 Z := ⟨rfl, rfl, fun _ _ => ⟨rfl, rfl, fun _ => rfl⟩, fun j hj => absurd hj (Nat.not_lt_zero _)⟩
theorem mI_new {u : Mm} {k n b : Nat} : mI (mNew u k n) b = if b = mT u then (fun _ => 0) else mI u b := rfl
theorem mF_new {u : Mm} {k n b : Nat} : mF (mNew u k n) b = if b = mT u then (fun _ => none) else mF u b := rfl
theorem mS_new {u : Mm} {k n b : Nat} : mS (mNew u k n) b = if b = mT u then some (k, n) else mS u b := rfl
theorem mT_new {u : Mm} {k n : Nat} : mT (mNew u k n) = mT u + 1 := rfl
theorem mU_new {u : Mm} {k n : Nat} : mU (mNew u k n) = mU u + n := rfl
theorem mF_sF {u : Mm} {f : Nat → Nat → Option Nat} : mF (sF u f) = f := rfl
theorem mI_sF {u : Mm} {f : Nat → Nat → Option Nat} : mI (sF u f) = mI u := rfl
theorem mS_sF {u : Mm} {f : Nat → Nat → Option Nat} : mS (sF u f) = mS u := rfl
theorem mT_sF {u : Mm} {f : Nat → Nat → Option Nat} : mT (sF u f) = mT u := rfl
theorem mU_sF {u : Mm} {f : Nat → Nat → Option Nat} : mU (sF u f) = mU u := rfl
theorem Ar.putg {u v w : Mm} {a k U f kd n : Nat} {tb : Nat → Nat × (Nat × Nat)} {Z : Nat → Nat → Int} (h : Ar u v a tb k U Z) (ha : a < mT u) (htb : tb k = (f, (kd, n))) (hd : ∀ j, j < k → (tb j).1 ≠ f) (w1 : mT w = mT v + 1) (w2 : mU w = mU v + n) (w3 : ∀ b, b ≠ mT v → mI w b = mI v b ∧ mS w b = mS v b ∧ mF w b = mF v b) (w4 : mS w (mT v) = some (kd, n)) (w5 : ∀ i, mI w (mT v) i = Z (mT v) i) : Ar u (sF w (u2 (mF w) a f (some (mT v)))) a tb (k + 1) (U + n) Z := by
  obtain ⟨h1, h2, h3, h4⟩ := h
  refine ⟨by rw [mT_sF]; omega, by rw [mU_sF]; omega, fun b hb => ?_, fun j hj => ?_⟩
  · obtain ⟨p1, p2, p3⟩ := h3 b hb
    obtain ⟨q1, q2, q3⟩ := w3 b (by omega)
    rw [mI_sF, mS_sF, mF_sF]
    refine ⟨q1.trans p1, q2.trans p2, fun hba => ?_⟩
    rw [u2_ne hba]
    exact q3.trans (p3 hba)
  · by_cases hjk : j = k
    · subst hjk
      rw [htb, mI_sF, mS_sF, mF_sF, u2_at, ← h1]
      exact ⟨w5, rfl, w4⟩
    · obtain ⟨p1, p2, p3⟩ := h4 j (by omega)
      obtain ⟨q1, q2, -⟩ := w3 (mT u + j) (by omega)
      obtain ⟨-, -, q3⟩ := w3 a (by omega)
      rw [mI_sF, mS_sF, mF_sF, u2_ni (hd j (by omega)), q1, q2, q3]
      exact ⟨p1, p2, p3⟩
theorem Ar.put {u v : Mm} {a k U f kd n : Nat} {tb : Nat → Nat × (Nat × Nat)} {Z : Nat → Nat → Int} (h : Ar u v a tb k U Z) (ha : a < mT u) (htb : tb k = (f, (kd, n))) (hd : ∀ j, j < k → (tb j).1 ≠ f) (hZ : ∀ i, Z (mT u + k) i = 0) : Ar u (sF (mNew v kd n) (u2 (mF (mNew v kd n)) a f (some (mT v)))) a tb (k + 1) (U + n) Z :=
  h.putg ha htb hd rfl rfl (fun b hb => by rw [mI_new, mS_new, mF_new, if_neg hb, if_neg hb, if_neg hb]; exact ⟨rfl, rfl, rfl⟩) (by rw [mS_new, if_pos rfl]) (fun i => by rw [mI_new, if_pos rfl, h.1, hZ])
theorem ef_mk {P : Pg} {d j pc : Nat} {ls : Ls} {st : List Vl} {Q : Rs → Mm → Prop} {u v : Mm} {a k U f kd n k0 c m pc2 : Nat} {x : Int} {t : ArrayType} {tb : Nat → Nat × (Nat × Nat)} {Z : Nat → Nat → Int} (hd1 : decode (pBc P j) pc = .ok (.newarray t, 2)) (hd2 : decode (pBc P j) pc2 = .ok (.putfield k0, 3)) (hpc : pc2 = pc + 2) (ht : aKd t = some kd) (hx : x = (n : Int)) (hn : n < 65536) (hl : tPf j k0 = some (c, (f, 2))) (hs : mS u a = some (100 + c, m)) (hf : f < m) (hA : Ar u v a tb k U Z) (ha : a < mT u) (htb : tb k = (f, (kd, n))) (hdj : ∀ j, j < k → (tb j).1 ≠ f) (hZ : ∀ i, Z (mT u + k) i = 0) (kk : ∀ w, Ar u w a tb (k + 1) (U + n) Z → Ef P d j (pc + 2 + 3) ls st w Q) : Ef P d j pc ls (vI x :: vR a :: st) v Q := by
  subst hpc
  refine ef_newa hd1 ht hx hn ?_
  refine ef_putR (r := some (mT v)) hd2 hl (by rw [mS_new, if_neg (by have := hA.1; omega)]; rw [(hA.2.2.1 a ha).2.1]; exact hs) hf ?_
  exact kk _ (hA.put ha htb hdj hZ)
/-- memory grown by a block -/
def Bk (u v : Mm) (N U : Nat) (Z : Nat → Nat → Int) : Prop := mT v = mT u + N ∧ mU v = mU u + U ∧ (∀ b, b < mT u → mI v b = mI u b ∧ mS v b = mS u b ∧ mF v b = mF u b) ∧ ∀ b, mT u ≤ b → b < mT u + N → ∀ i, mI v b i = Z b i
theorem Ar.bk {u v : Mm} {kd n k U : Nat} {tb : Nat → Nat × (Nat × Nat)} (h : Ar (mNew u kd n) v (mT u) tb k U (fun _ _ => 0)) (Z : Nat → Nat → Int) (hZ : ∀ b, mT u ≤ b → b < mT u + (k + 1) → ∀ i, Z b i = 0) : Bk u v (k + 1) (U + n) Z := by
  obtain ⟨h1, h2, h3, h4⟩ := h
  refine ⟨by rw [h1, mT_new]; omega, by rw [h2, mU_new]; omega, fun b hb => ?_, fun b hb1 hb2 i => ?_⟩
  · obtain ⟨p1, p2, p3⟩ := h3 b (by rw [mT_new]; omega)
    rw [p1, p2, p3 (by omega), mI_new, mS_new, mF_new, if_neg (by omega), if_neg (by omega), if_neg (by omega)]
    exact ⟨rfl, rfl, rfl⟩
  · rw [hZ b hb1 hb2]
    by_cases hbe : b = mT u
    · rw [(h3 b (by rw [mT_new]; omega)).1, mI_new, if_pos hbe]
    · have := (h4 (b - mT u - 1) (by omega)).1 i
      rw [mT_new, show mT u + 1 + (b - mT u - 1) = b by omega] at this
      exact this
theorem Bk.new {v : Mm} {kd n : Nat} {Z : Nat → Nat → Int} (hZ : ∀ i, Z (mT v) i = 0) : Bk v (mNew v kd n) 1 n Z := ⟨rfl, rfl, fun b hb => by rw [mI_new, mS_new, mF_new, if_neg (by omega), if_neg (by omega), if_neg (by omega)]; exact ⟨rfl, rfl, rfl⟩, fun b h1 h2 i => by
  have hb : b = mT v := by omega
  subst hb
  rw [mI_new, if_pos rfl, hZ]⟩
/-- memory grown while the cell a gets references -/
def Gr (u v : Mm) (a N U : Nat) (Z : Nat → Nat → Int) : Prop := mT v = mT u + N ∧ mU v = mU u + U ∧ (∀ b, b < mT u → mS v b = mS u b ∧ (b ≠ a → mI v b = mI u b ∧ mF v b = mF u b)) ∧ ∀ b, mT u ≤ b → b < mT u + N → ∀ i, mI v b i = Z b i
theorem Gr.zero {u : Mm} {a : Nat} {Z : Nat → Nat → Int} : Gr u u a 0 0 Z := ⟨rfl, rfl, fun _ _ => ⟨rfl, fun _ => ⟨rfl, rfl⟩⟩, fun b h1 h2 => absurd h1 (by omega)⟩
theorem Gr.bk {u v w : Mm} {a N U N' U' : Nat} {Z : Nat → Nat → Int} (h : Gr u v a N U Z) (k : Bk v w N' U' Z) : Gr u w a (N + N') (U + U') Z := by
  obtain ⟨h1, h2, h3, h4⟩ := h
  obtain ⟨k1, k2, k3, k4⟩ := k
  refine ⟨by omega, by omega, fun b hb => ?_, fun b hb1 hb2 i => ?_⟩
  · obtain ⟨p1, p2⟩ := h3 b hb
    obtain ⟨q1, q2, q3⟩ := k3 b (by omega)
    exact ⟨q2.trans p1, fun hba => ⟨q1.trans (p2 hba).1, q3.trans (p2 hba).2⟩⟩
  · by_cases hb : b < mT u + N
    · rw [(k3 b (by omega)).1]; exact h4 b hb1 hb i
    · exact k4 b (by omega) (by omega) i
theorem Gr.put {u v : Mm} {a b N U f : Nat} {r : Option Nat} {Z : Nat → Nat → Int} (h : Gr u v a N U Z) (hb : b = a ∨ mT u ≤ b) : Gr u (sF v (u2 (mF v) b f r)) a N U Z := by
  obtain ⟨h1, h2, h3, h4⟩ := h
  exact ⟨h1, h2, fun q hq => ⟨(h3 q hq).1, fun hqa => ⟨((h3 q hq).2 hqa).1, by rw [mF_sF, u2_ne (by omega)]; exact ((h3 q hq).2 hqa).2⟩⟩, h4⟩
theorem Gr.out {u v : Mm} {kd n N U : Nat} {Z : Nat → Nat → Int} (h : Gr (mNew u kd n) v (mT u) N U Z) (h0 : ∀ i, mI v (mT u) i = Z (mT u) i) : Bk u v (N + 1) (U + n) Z := by
  obtain ⟨h1, h2, h3, h4⟩ := h
  rw [mT_new] at h1 h3 h4
  refine ⟨by omega, by rw [h2, mU_new]; omega, fun b hb => ?_, fun b hb1 hb2 i => ?_⟩
  · obtain ⟨p1, p2⟩ := h3 b (by omega)
    rw [p1, (p2 (by omega)).1, (p2 (by omega)).2, mI_new, mS_new, mF_new, if_neg (by omega), if_neg (by omega), if_neg (by omega)]
    exact ⟨rfl, rfl, rfl⟩
  · by_cases hbb : b = mT u
    · subst hbb; exact h0 i
    · exact h4 b (by omega) (by omega) i
/-- two memories alike in shapes and references in a block -/
def Ag (v w : Mm) (lo hi : Nat) : Prop := ∀ b, lo ≤ b → b < hi → mS w b = mS v b ∧ mF w b = mF v b
theorem Ag.sub {v w : Mm} {lo hi lo' hi' : Nat} (h : Ag v w lo hi) (h1 : lo ≤ lo') (h2 : hi' ≤ hi) : Ag v w lo' hi' := fun b a c => h b (by omega) (by omega)
theorem Ag.trans {v w x : Mm} {lo hi : Nat} (h : Ag v w lo hi) (k : Ag w x lo hi) : Ag v x lo hi := fun b a c => ⟨(k b a c).1.trans (h b a c).1, (k b a c).2.trans (h b a c).2⟩
theorem Bk.ag {u v : Mm} {N U lo hi : Nat} {Z : Nat → Nat → Int} (h : Bk u v N U Z) (hh : hi ≤ mT u) : Ag u v lo hi := fun b _ hb => (h.2.2.1 b (by omega)).2
theorem Ag.put {v : Mm} {lo hi a f : Nat} {r : Option Nat} (h : a < lo ∨ hi ≤ a) : Ag v (sF v (u2 (mF v) a f r)) lo hi := fun b h1 h2 => ⟨rfl, by rw [mF_sF, u2_ne (by omega)]⟩
theorem Ag.new {v : Mm} {lo hi kd n : Nat} (h : hi ≤ mT v) : Ag v (mNew v kd n) lo hi := fun b h1 h2 => by rw [mS_new, mF_new, if_neg (by omega), if_neg (by omega)]; exact ⟨rfl, rfl⟩
theorem ThA.ag {v w : Mm} {t n : Nat} (h : ThA v t n) (k : Ag v w t (t + 6)) : ThA w t n := by
  unfold ThA at *
  rw [(k t (by omega) (by omega)).1, (k t (by omega) (by omega)).2, (k (t + 1) (by omega) (by omega)).1, (k (t + 2) (by omega) (by omega)).1, (k (t + 3) (by omega) (by omega)).1, (k (t + 4) (by omega) (by omega)).1, (k (t + 5) (by omega) (by omega)).1]
  exact h
theorem LnA.ag {v w : Mm} {t : Nat} (h : LnA v t) (k : Ag v w t (t + 2)) : LnA w t := by
  unfold LnA at *
  rw [(k t (by omega) (by omega)).1, (k t (by omega) (by omega)).2, (k (t + 1) (by omega) (by omega)).1]
  exact h
theorem StA.ag {v w : Mm} {s : Nat} (h : StA v s) (k : Ag v w s (s + 21)) : StA w s := by
  obtain ⟨h0, h1, h2, h3, h4, h5, h6, h7, h8⟩ := h
  refine ⟨?_, ?_, ?_, ?_, ?_, h5.ag (k.sub (by omega) (by omega)), h6.ag (k.sub (by omega) (by omega)), h7.ag (k.sub (by omega) (by omega)), h8.ag (k.sub (by omega) (by omega))⟩
  · rw [(k s (by omega) (by omega)).1]; exact h0
  · rw [(k s (by omega) (by omega)).2]; exact h1
  · rw [(k s (by omega) (by omega)).2]; exact h2
  · rw [(k s (by omega) (by omega)).2]; exact h3
  · rw [(k s (by omega) (by omega)).2]; exact h4
theorem RxA.ag {v w : Mm} {t : Nat} (h : RxA v t) (k : Ag v w t (t + 5)) : RxA w t := by
  unfold RxA at *
  rw [(k t (by omega) (by omega)).1, (k t (by omega) (by omega)).2, (k (t + 1) (by omega) (by omega)).1, (k (t + 2) (by omega) (by omega)).1, (k (t + 3) (by omega) (by omega)).1, (k (t + 4) (by omega) (by omega)).1]
  exact h
theorem TlA.ag {v w : Mm} {t : Nat} (h : TlA v t) (k : Ag v w t (t + 5)) : TlA w t := by
  unfold TlA at *
  rw [(k t (by omega) (by omega)).1, (k t (by omega) (by omega)).2, (k (t + 1) (by omega) (by omega)).1, (k (t + 2) (by omega) (by omega)).1, (k (t + 3) (by omega) (by omega)).1, (k (t + 4) (by omega) (by omega)).1]
  exact h
theorem TmA.ag {v w : Mm} {t : Nat} (h : TmA v t) (k : Ag v w t (t + 6)) : TmA w t := by
  unfold TmA at *
  rw [(k t (by omega) (by omega)).1, (k t (by omega) (by omega)).2, (k (t + 1) (by omega) (by omega)).1, (k (t + 2) (by omega) (by omega)).1, (k (t + 3) (by omega) (by omega)).1, (k (t + 4) (by omega) (by omega)).1, (k (t + 5) (by omega) (by omega)).1]
  exact h
theorem ExA.ag {v w : Mm} {x : Nat} (h : ExA v x) (k : Ag v w x (x + 638)) : ExA w x := by
  obtain ⟨h0, h1, h2, h3, h4, h5, h6, h7⟩ := h
  refine ⟨?_, ?_, ?_, ?_, ?_, ?_, h6.ag (k.sub (by omega) (by omega)), fun i hi => ⟨?_, (h7 i hi).2.ag (k.sub (by omega) (by omega))⟩⟩
  · rw [(k x (by omega) (by omega)).1]; exact h0
  · rw [(k x (by omega) (by omega)).2]; exact h1
  · rw [(k x (by omega) (by omega)).2]; exact h2
  · rw [(k x (by omega) (by omega)).2]; exact h3
  · rw [(k (x + 1) (by omega) (by omega)).1]; exact h4
  · rw [(k (x + 2) (by omega) (by omega)).1]; exact h5
  · rw [(k (x + 1) (by omega) (by omega)).2]; exact (h7 i hi).1
def tbLn : Nat → Nat × (Nat × Nat)
  | 0 => (0, (1, 240))
  | _ => (0, (0, 0))
theorem c29 {P : Pg} {d : Nat} {u : Mm} {a : Nat} (hs : mS u a = some (100 + 2, 2)) (ha : a < mT u) : Ec P d 29 [vR a] u (fun r v => r = .inl none ∧ Ar u v a tbLn 1 240 (fun _ _ => 0)) := by
  have A0 : Ar u u a tbLn 0 0 (fun _ _ => 0) := Ar.zero
  change Ef P _ 29 0 [some (vR a)] [] _ _
  refine ef_aload_n (pc := 0) d29_0 rfl ?_
  refine ef_biI (pc := 1) d29_1 lm_2_3 (as := [_]) rfl rfl (by decide) (Nat.le_of_ble_eq_true rfl) (rfl) ?_
  refine ef_aload_n (pc := 4) d29_4 rfl ?_
  refine ef_sipush (pc := 5) d29_5 (by decide) ?_
  refine ef_mk (pc := 8) (pc2 := 10) (n := 240) d29_8 d29_10 rfl rfl rfl (by decide) pf_29_9 hs (by decide) A0 ha rfl (by decide) (fun _ => rfl) ?_
  intro v1 A1
  refine ef_vret (pc := 13) d29_13 rfl ?_
  exact ⟨rfl, A1⟩
theorem Ar.LnA {u v : Mm} {U : Nat} (h : Ar (mNew u (100 + 2) 2) v (mT u) tbLn 1 U (fun _ _ => 0)) : LnA v (mT u) := by
  obtain ⟨h1, h2, h3, h4⟩ := h
  rw [mT_new] at h4
  have e := (h3 (mT u) (by rw [mT_new]; omega)).2.1
  rw [mS_new, if_pos rfl] at e
  exact ⟨e, (h4 0 (by decide)).2.1, (h4 0 (by decide)).2.2⟩
def tbRx : Nat → Nat × (Nat × Nat)
  | 0 => (0, (0, 1200))
  | 1 => (1, (0, 1200))
  | 2 => (2, (0, 1200))
  | 3 => (3, (0, 1200))
  | _ => (0, (0, 0))
theorem c32 {P : Pg} {d : Nat} {u : Mm} {a : Nat} (hs : mS u a = some (100 + 3, 5)) (ha : a < mT u) : Ec P d 32 [vR a] u (fun r v => r = .inl none ∧ Ar u v a tbRx 4 4800 (fun _ _ => 0)) := by
  have A0 : Ar u u a tbRx 0 0 (fun _ _ => 0) := Ar.zero
  change Ef P _ 32 0 [some (vR a)] [] _ _
  refine ef_aload_n (pc := 0) d32_0 rfl ?_
  refine ef_biI (pc := 1) d32_1 lm_3_3 (as := [_]) rfl rfl (by decide) (Nat.le_of_ble_eq_true rfl) (rfl) ?_
  refine ef_aload_n (pc := 4) d32_4 rfl ?_
  refine ef_sipush (pc := 5) d32_5 (by decide) ?_
  refine ef_mk (pc := 8) (pc2 := 10) (n := 1200) d32_8 d32_10 rfl rfl rfl (by decide) pf_32_9 hs (by decide) A0 ha rfl (by decide) (fun _ => rfl) ?_
  intro v1 A1
  refine ef_aload_n (pc := 13) d32_13 rfl ?_
  refine ef_sipush (pc := 14) d32_14 (by decide) ?_
  refine ef_mk (pc := 17) (pc2 := 19) (n := 1200) d32_17 d32_19 rfl rfl rfl (by decide) pf_32_15 hs (by decide) A1 ha rfl (by decide) (fun _ => rfl) ?_
  intro v2 A2
  refine ef_aload_n (pc := 22) d32_22 rfl ?_
  refine ef_sipush (pc := 23) d32_23 (by decide) ?_
  refine ef_mk (pc := 26) (pc2 := 28) (n := 1200) d32_26 d32_28 rfl rfl rfl (by decide) pf_32_18 hs (by decide) A2 ha rfl (by decide) (fun _ => rfl) ?_
  intro v3 A3
  refine ef_aload_n (pc := 31) d32_31 rfl ?_
  refine ef_sipush (pc := 32) d32_32 (by decide) ?_
  refine ef_mk (pc := 35) (pc2 := 37) (n := 1200) d32_35 d32_37 rfl rfl rfl (by decide) pf_32_21 hs (by decide) A3 ha rfl (by decide) (fun _ => rfl) ?_
  intro v4 A4
  refine ef_vret (pc := 40) d32_40 rfl ?_
  exact ⟨rfl, A4⟩
theorem Ar.RxA {u v : Mm} {U : Nat} (h : Ar (mNew u (100 + 3) 5) v (mT u) tbRx 4 U (fun _ _ => 0)) : RxA v (mT u) := by
  obtain ⟨h1, h2, h3, h4⟩ := h
  rw [mT_new] at h4
  have e := (h3 (mT u) (by rw [mT_new]; omega)).2.1
  rw [mS_new, if_pos rfl] at e
  exact ⟨e, (h4 0 (by decide)).2.1, (h4 1 (by decide)).2.1, (h4 2 (by decide)).2.1, (h4 3 (by decide)).2.1, (h4 0 (by decide)).2.2, (h4 1 (by decide)).2.2, (h4 2 (by decide)).2.2, (h4 3 (by decide)).2.2⟩
def tbTl : Nat → Nat × (Nat × Nat)
  | 0 => (0, (1, 240))
  | 1 => (1, (1, 240))
  | 2 => (3, (0, 240))
  | 3 => (4, (0, 240))
  | _ => (0, (0, 0))
theorem c57 {P : Pg} {d : Nat} {u : Mm} {a : Nat} (hs : mS u a = some (100 + 5, 7)) (ha : a < mT u) : Ec P d 57 [vR a] u (fun r v => r = .inl none ∧ Ar u v a tbTl 4 960 (fun _ _ => 0)) := by
  have A0 : Ar u u a tbTl 0 0 (fun _ _ => 0) := Ar.zero
  change Ef P _ 57 0 [some (vR a)] [] _ _
  refine ef_aload_n (pc := 0) d57_0 rfl ?_
  refine ef_biI (pc := 1) d57_1 lm_5_3 (as := [_]) rfl rfl (by decide) (Nat.le_of_ble_eq_true rfl) (rfl) ?_
  refine ef_aload_n (pc := 4) d57_4 rfl ?_
  refine ef_sipush (pc := 5) d57_5 (by decide) ?_
  refine ef_mk (pc := 8) (pc2 := 10) (n := 240) d57_8 d57_10 rfl rfl rfl (by decide) pf_57_9 hs (by decide) A0 ha rfl (by decide) (fun _ => rfl) ?_
  intro v1 A1
  refine ef_aload_n (pc := 13) d57_13 rfl ?_
  refine ef_sipush (pc := 14) d57_14 (by decide) ?_
  refine ef_mk (pc := 17) (pc2 := 19) (n := 240) d57_17 d57_19 rfl rfl rfl (by decide) pf_57_15 hs (by decide) A1 ha rfl (by decide) (fun _ => rfl) ?_
  intro v2 A2
  refine ef_aload_n (pc := 22) d57_22 rfl ?_
  refine ef_sipush (pc := 23) d57_23 (by decide) ?_
  refine ef_mk (pc := 26) (pc2 := 28) (n := 240) d57_26 d57_28 rfl rfl rfl (by decide) pf_57_18 hs (by decide) A2 ha rfl (by decide) (fun _ => rfl) ?_
  intro v3 A3
  refine ef_aload_n (pc := 31) d57_31 rfl ?_
  refine ef_sipush (pc := 32) d57_32 (by decide) ?_
  refine ef_mk (pc := 35) (pc2 := 37) (n := 240) d57_35 d57_37 rfl rfl rfl (by decide) pf_57_22 hs (by decide) A3 ha rfl (by decide) (fun _ => rfl) ?_
  intro v4 A4
  refine ef_vret (pc := 40) d57_40 rfl ?_
  exact ⟨rfl, A4⟩
theorem Ar.TlA {u v : Mm} {U : Nat} (h : Ar (mNew u (100 + 5) 7) v (mT u) tbTl 4 U (fun _ _ => 0)) : TlA v (mT u) := by
  obtain ⟨h1, h2, h3, h4⟩ := h
  rw [mT_new] at h4
  have e := (h3 (mT u) (by rw [mT_new]; omega)).2.1
  rw [mS_new, if_pos rfl] at e
  exact ⟨e, (h4 0 (by decide)).2.1, (h4 1 (by decide)).2.1, (h4 2 (by decide)).2.1, (h4 3 (by decide)).2.1, (h4 0 (by decide)).2.2, (h4 1 (by decide)).2.2, (h4 2 (by decide)).2.2, (h4 3 (by decide)).2.2⟩
def tbTm : Nat → Nat × (Nat × Nat)
  | 0 => (0, (0, 50))
  | 1 => (1, (1, 50))
  | 2 => (2, (2, 50))
  | 3 => (3, (0, 50))
  | 4 => (5, (1, 120))
  | _ => (0, (0, 0))
theorem c68 {P : Pg} {d : Nat} {u : Mm} {a : Nat} (hs : mS u a = some (100 + 6, 8)) (ha : a < mT u) : Ec P d 68 [vR a] u (fun r v => r = .inl none ∧ Ar u v a tbTm 5 320 (fun _ _ => 0)) := by
  have A0 : Ar u u a tbTm 0 0 (fun _ _ => 0) := Ar.zero
  change Ef P _ 68 0 [some (vR a)] [] _ _
  refine ef_aload_n (pc := 0) d68_0 rfl ?_
  refine ef_biI (pc := 1) d68_1 lm_6_3 (as := [_]) rfl rfl (by decide) (Nat.le_of_ble_eq_true rfl) (rfl) ?_
  refine ef_aload_n (pc := 4) d68_4 rfl ?_
  refine ef_bipush (pc := 5) d68_5 (by decide) ?_
  refine ef_mk (pc := 7) (pc2 := 9) (n := 50) d68_7 d68_9 rfl rfl rfl (by decide) pf_68_9 hs (by decide) A0 ha rfl (by decide) (fun _ => rfl) ?_
  intro v1 A1
  refine ef_aload_n (pc := 12) d68_12 rfl ?_
  refine ef_bipush (pc := 13) d68_13 (by decide) ?_
  refine ef_mk (pc := 15) (pc2 := 17) (n := 50) d68_15 d68_17 rfl rfl rfl (by decide) pf_68_15 hs (by decide) A1 ha rfl (by decide) (fun _ => rfl) ?_
  intro v2 A2
  refine ef_aload_n (pc := 20) d68_20 rfl ?_
  refine ef_bipush (pc := 21) d68_21 (by decide) ?_
  refine ef_mk (pc := 23) (pc2 := 25) (n := 50) d68_23 d68_25 rfl rfl rfl (by decide) pf_68_19 hs (by decide) A2 ha rfl (by decide) (fun _ => rfl) ?_
  intro v3 A3
  refine ef_aload_n (pc := 28) d68_28 rfl ?_
  refine ef_bipush (pc := 29) d68_29 (by decide) ?_
  refine ef_mk (pc := 31) (pc2 := 33) (n := 50) d68_31 d68_33 rfl rfl rfl (by decide) pf_68_23 hs (by decide) A3 ha rfl (by decide) (fun _ => rfl) ?_
  intro v4 A4
  refine ef_aload_n (pc := 36) d68_36 rfl ?_
  refine ef_bipush (pc := 37) d68_37 (by decide) ?_
  refine ef_mk (pc := 39) (pc2 := 41) (n := 120) d68_39 d68_41 rfl rfl rfl (by decide) pf_68_26 hs (by decide) A4 ha rfl (by decide) (fun _ => rfl) ?_
  intro v5 A5
  refine ef_vret (pc := 44) d68_44 rfl ?_
  exact ⟨rfl, A5⟩
theorem Ar.TmA {u v : Mm} {U : Nat} (h : Ar (mNew u (100 + 6) 8) v (mT u) tbTm 5 U (fun _ _ => 0)) : TmA v (mT u) := by
  obtain ⟨h1, h2, h3, h4⟩ := h
  rw [mT_new] at h4
  have e := (h3 (mT u) (by rw [mT_new]; omega)).2.1
  rw [mS_new, if_pos rfl] at e
  exact ⟨e, (h4 0 (by decide)).2.1, (h4 1 (by decide)).2.1, (h4 2 (by decide)).2.1, (h4 3 (by decide)).2.1, (h4 4 (by decide)).2.1, (h4 0 (by decide)).2.2, (h4 1 (by decide)).2.2, (h4 2 (by decide)).2.2, (h4 3 (by decide)).2.2, (h4 4 (by decide)).2.2⟩
def tbTh (n j : Nat) : Nat × (Nat × Nat) := (j, (0, n))
theorem c83 {P : Pg} {d : Nat} {u : Mm} {a n : Nat} (hs : mS u a = some (100 + 7, 6)) (ha : a < mT u) (hn : n < 65536) : Ec P d 83 [vR a, vI (n : Int)] u (fun r v => r = .inl none ∧ Ar u v a (tbTh n) 5 (0 + n + n + n + n + n) (fun _ _ => 0)) := by
  have A0 : Ar u u a (tbTh n) 0 0 (fun _ _ => 0) := Ar.zero
  change Ef P _ 83 0 [some (vR a), some (vI (n : Int))] [] _ _
  refine ef_aload_n (pc := 0) d83_0 rfl ?_
  refine ef_biI (pc := 1) d83_1 lm_7_3 (as := [_]) rfl rfl (by decide) (Nat.le_of_ble_eq_true rfl) (rfl) ?_
  refine ef_aload_n (pc := 4) d83_4 rfl ?_
  refine ef_iload_n (pc := 5) d83_5 rfl ?_
  refine ef_mk (pc := 6) (pc2 := 8) (n := n) d83_6 d83_8 rfl rfl rfl hn pf_83_9 hs (by decide) A0 ha rfl (fun j hj => Nat.ne_of_lt hj) (fun _ => rfl) ?_
  intro v1 A1
  refine ef_aload_n (pc := 11) d83_11 rfl ?_
  refine ef_iload_n (pc := 12) d83_12 rfl ?_
  refine ef_mk (pc := 13) (pc2 := 15) (n := n) d83_13 d83_15 rfl rfl rfl hn pf_83_15 hs (by decide) A1 ha rfl (fun j hj => Nat.ne_of_lt hj) (fun _ => rfl) ?_
  intro v2 A2
  refine ef_aload_n (pc := 18) d83_18 rfl ?_
  refine ef_iload_n (pc := 19) d83_19 rfl ?_
  refine ef_mk (pc := 20) (pc2 := 22) (n := n) d83_20 d83_22 rfl rfl rfl hn pf_83_18 hs (by decide) A2 ha rfl (fun j hj => Nat.ne_of_lt hj) (fun _ => rfl) ?_
  intro v3 A3
  refine ef_aload_n (pc := 25) d83_25 rfl ?_
  refine ef_iload_n (pc := 26) d83_26 rfl ?_
  refine ef_mk (pc := 27) (pc2 := 29) (n := n) d83_27 d83_29 rfl rfl rfl hn pf_83_21 hs (by decide) A3 ha rfl (fun j hj => Nat.ne_of_lt hj) (fun _ => rfl) ?_
  intro v4 A4
  refine ef_aload_n (pc := 32) d83_32 rfl ?_
  refine ef_iload_n (pc := 33) d83_33 rfl ?_
  refine ef_mk (pc := 34) (pc2 := 36) (n := n) d83_34 d83_36 rfl rfl rfl hn pf_83_24 hs (by decide) A4 ha rfl (fun j hj => Nat.ne_of_lt hj) (fun _ => rfl) ?_
  intro v5 A5
  refine ef_vret (pc := 39) d83_39 rfl ?_
  exact ⟨rfl, A5⟩
theorem Ar.ThA {u v : Mm} {U n : Nat} (h : Ar (mNew u (100 + 7) 6) v (mT u) (tbTh n) 5 U (fun _ _ => 0)) : ThA v (mT u) n := by
  obtain ⟨h1, h2, h3, h4⟩ := h
  rw [mT_new] at h4
  have e := (h3 (mT u) (by rw [mT_new]; omega)).2.1
  rw [mS_new, if_pos rfl] at e
  exact ⟨e, (h4 0 (by decide)).2.1, (h4 1 (by decide)).2.1, (h4 2 (by decide)).2.1, (h4 3 (by decide)).2.1, (h4 4 (by decide)).2.1, (h4 0 (by decide)).2.2, (h4 1 (by decide)).2.2, (h4 2 (by decide)).2.2, (h4 3 (by decide)).2.2, (h4 4 (by decide)).2.2⟩
