/-! The class: going on, a step. Written by wip/whole/gen/c72.py. -/
def Up (h : Nat) (u v : Mm) : Prop := (∀ a, mS v a = mS u a) ∧ (∀ a, a ≠ h → mF v a = mF u a) ∧ mL v = mL u ∧ mT v = mT u ∧ mU v = mU u
theorem Up.refl {h : Nat} {u : Mm} : Up h u u := ⟨fun _ => rfl, fun _ _ => rfl, rfl, rfl, rfl⟩
theorem Up.trans {h : Nat} {u v w : Mm} (a : Up h u v) (b : Up h v w) : Up h u w := ⟨fun x => (b.1 x).trans (a.1 x), fun x hx => (b.2.1 x hx).trans (a.2.1 x hx), b.2.2.1.trans a.2.2.1, b.2.2.2.1.trans a.2.2.2.1, b.2.2.2.2.trans a.2.2.2.2⟩
theorem Up.sm {h lo hi : Nat} {u v : Mm} (a : Up h u v) (h1 : h < lo ∨ hi ≤ h) : Sm lo hi u v := fun x h2 h3 => ⟨a.1 x, a.2.1 x (by omega)⟩
theorem CvW.of {g g' : Nat → Nat → Int} {h : Nat} {W : List Int} (H : CvW g h W) (k0 : g' h 1 = g h 1) (k1 : g' (h + 1) = g (h + 1)) : CvW g' h W := ⟨by rw [k0]; exact H.1, by rw [k1]; exact H.2.1, H.2.2⟩
theorem CvT.of {g g' : Nat → Nat → Int} {h sz : Nat} {kd nm rp en : Nat → Int} (H : CvT g h kd nm rp en sz) (k : ∀ a, h + 3 ≤ a → a < h + 7 → g' a = g a) : CvT g' h kd nm rp en sz := ⟨(k _ (by omega) (by omega)).trans H.1, (k _ (by omega) (by omega)).trans H.2.1, (k _ (by omega) (by omega)).trans H.2.2.1, (k _ (by omega) (by omega)).trans H.2.2.2.1, H.2.2.2.2⟩
theorem CvS.of {g g' : Nat → Nat → Int} {s sz : Nat} {kd nm rp en : Nat → Int} {A : SS} (H : CvS g s kd nm rp en sz A) (k : ∀ a, s ≤ a → a < s + 21 → g' a = g a) : CvS g' s kd nm rp en sz A := ⟨H.1.off (fun a h1 h2 => k a h1 (by omega)), H.2.1, H.2.2.1.off (fun a h1 h2 => k a (by omega) (by omega)), H.2.2.2⟩
theorem CvK.of {g g' : Nat → Nat → Int} {h : Nat} {K : Nat → List Int} (H : CvK g h K) (k : ∀ a, h + 704 ≤ a → a < h + 710 → g' a = g a) : CvK g' h K := fun i hi => ⟨(H i hi).1.off (fun a h1 h2 => k a (by omega) (by omega)), (H i hi).2⟩
theorem CvX.of {g g' : Nat → Nat → Int} {x : Nat} {X : XR} (H : CvX g x X) (k0 : g' x = g x) (k2 : g' (x + 2) = g (x + 2)) : CvX g' x X := by
  unfold CvX at H ⊢
  rw [k0, k2]
  exact H
def dtL : List Rd → List Int → Int → Rd → Int
  | b :: B, x :: D, st, e => if b.2 = e.2 then x else dtL B D st e
  | _, _, st, _ => st
theorem dt_L {S : Nat → Int} {st v : Int} {e : Rd} : ∀ (B : List Rd) (D : List Int) (o : Nat), D.length = B.length → (∀ i x, D[i]? = some x → S (o + i) = x) → (∀ (k : Nat) (b : Rd), B[k]? = some b → b.2 = e.2 → v = S (o + k)) → ((∀ (k : Nat) (b : Rd), B[k]? = some b → b.2 ≠ e.2) → v = st) → v = dtL B D st e := by
  intro B
  induction B with
  | nil =>
    intro D o hl hS h1 h2
    have : D = [] := List.length_eq_zero_iff.mp hl
    subst this
    exact h2 (fun k b hb => by cases hb)
  | cons b B ih =>
    intro D o hl hS h1 h2
    cases D with
    | nil => cases hl
    | cons x D =>
      rw [dtL]
      by_cases hb : b.2 = e.2
      · rw [if_pos hb, h1 0 b rfl hb]
        exact hS 0 x rfl
      · rw [if_neg hb]
        refine ih D (o + 1) (by simpa using hl) (fun i y hy => ?_) (fun k c hc hce => ?_) (fun hall => h2 (fun k c hc => ?_))
        · rw [show o + 1 + i = o + (i + 1) by omega]; exact hS (i + 1) y hy
        · rw [show o + 1 + k = o + (k + 1) by omega]; exact h1 (k + 1) c hc hce
        · cases k with
          | zero => cases hc; exact hb
          | succ k => exact hall k c hc
def olF (D : List Int) : Nat := D.findIdx (fun x => D.all (fun y => decide (x ≤ y)))
theorem old_F {S : Nat → Int} {D : List Int} {k : Nat} (hS : Row S D) (h : Old S D.length k) : olF D = k := by
  obtain ⟨h1, h2, h3⟩ := h
  have hk : S k = D[k] := hS k _ (List.getElem?_eq_getElem h1)
  unfold olF
  refine (List.findIdx_eq h1).mpr ⟨?_, fun j hj => ?_⟩
  · refine List.all_eq_true.mpr fun y hy => decide_eq_true ?_
    obtain ⟨i, hi⟩ := List.getElem?_of_mem hy
    have hi2 := (List.getElem?_eq_some_iff.mp hi).1
    have := h2 i hi2
    rw [hS i y hi, hk] at this
    exact this
  · have h4 := h3 j hj
    rw [hk, hS j _ (List.getElem?_eq_getElem (by omega))] at h4
    cases hq : D.all (fun y => decide (D[j] ≤ y))
    · rfl
    · have := of_decide_eq_true (List.all_eq_true.mp hq D[k] (List.getElem_mem h1))
      omega
/-- state, since when, steps -/
abbrev RS : Type := SS × (List Int × Int)
def stpF (kd nm rp en : Nat → Int) (k : Nat) (c : RS) : Option RS := match (rxS kd c.1)[k]? with
  | none => none
  | some w => if (folF kd nm rp en w c.1).2.2.2.2 = false ∧ (teS kd nm rp en (folF kd nm rp en w c.1)).length ≤ 240 then some (folF kd nm rp en w c.1, ((rxS kd (folF kd nm rp en w c.1)).map (dtL (rxS kd c.1) c.2.1 (c.2.2 + 1)), c.2.2 + 1)) else none
def CvR (g : Nat → Nat → Int) (h r : Nat) (kd : Nat → Int) (c : RS) : Prop := Rf g r (rxS kd c.1) ∧ Row (g (r + 4)) c.2.1 ∧ c.2.1.length = (rxS kd c.1).length ∧ g h 8 = c.2.2 ∧ 0 ≤ c.2.2 ∧ ∀ x, x ∈ c.2.1 → 0 ≤ x ∧ x ≤ c.2.2
theorem CvR.of {g g' : Nat → Nat → Int} {h r : Nat} {kd : Nat → Int} {c : RS} (H : CvR g h r kd c) (k0 : g' h 8 = g h 8) (k : ∀ a, r ≤ a → a < r + 5 → g' a = g a) : CvR g' h r kd c := ⟨H.1.off (fun a h1 h2 => k a h1 (by omega)), by rw [k (r + 4) (by omega) (by omega)]; exact H.2.1, H.2.2.1, k0.trans H.2.2.2.1, H.2.2.2.2⟩
theorem dtL_rg {B : List Rd} {e : Rd} {st : Int} : ∀ {D : List Int}, (∀ x, x ∈ D → 0 ≤ x ∧ x ≤ st) → 0 ≤ st → 0 ≤ dtL B D st e ∧ dtL B D st e ≤ st := by
  induction B with
  | nil => intro D _ h; cases D <;> exact ⟨h, Int.le_refl _⟩
  | cons b B ih =>
    intro D hD h
    cases D with
    | nil => exact ⟨h, Int.le_refl _⟩
    | cons x D =>
      rw [dtL]
      split
      · exact hD x List.mem_cons_self
      · exact ih (fun y hy => hD y (List.mem_cons_of_mem _ hy)) h
theorem c9 {P : Pg} {d : Nat} {u : Mm} {g : Nat → Nat → Int} {h s t r q : Nat} {sz : Nat} {kd nm rp en : Nat → Int} {A : SS} {R : List Rd} {D : List Int} {st : Int} (hB : BxA u h s t r q) (hT : CvT g h kd nm rp en sz) (hS : CvS g t kd nm rp en sz A) (hR : Rf g r R) (hs : Srt R) (hl : R.length ≤ 1200) (hD : Row (g (r + 4)) D) (hDl : D.length = R.length) (hst : g h 8 = st) : Ec P (d + 3) 9 [vR h] (sI u g) (fun x u' => ∃ v g', u' = sI v g' ∧ x = .inl none ∧ BxA v h t s q r ∧ Up h u v ∧ Off q (q + 5) g g' ∧ Rf g' q (rxS kd A) ∧ Row (g' (q + 4)) ((rxS kd A).map (dtL R D st))) := by
  obtain ⟨a0, a1, a2, a3, a4, a5, a6, a7, a8, a9, a10, a11, a12, a13, a14, a15, a16, a17, a18, a19, a20, a21⟩ := id hB
  obtain ⟨ht, hok⟩ := hT.2.2.2.2.2
  have f1 : mF (sF u (u2 (mF u) h 4 (some t))) h 5 = some t := (u2_ni (by decide)).trans a5
  have f2 : mF (sF u (u2 (u2 (mF u) h 4 (some t)) h 5 (some s))) h 6 = some r := (u2_ni (by decide)).trans ((u2_ni (by decide)).trans a6)
  have f3 : mF (sF u (u2 (u2 (mF u) h 4 (some t)) h 5 (some s))) h 7 = some q := (u2_ni (by decide)).trans ((u2_ni (by decide)).trans a7)
  have hup : Up h u (sF u (u2 (u2 (u2 (u2 (mF u) h 4 (some t)) h 5 (some s)) h 6 (some q)) h 7 (some r))) := ⟨fun _ => rfl, fun a ha => by show u2 (u2 (u2 (u2 (mF u) h 4 (some t)) h 5 (some s)) h 6 (some q)) h 7 (some r) a = mF u a; rw [u2_ne ha, u2_ne ha, u2_ne ha, u2_ne ha], rfl, rfl, rfl⟩
  have hBv : BxA (sF u (u2 (u2 (u2 (u2 (mF u) h 4 (some t)) h 5 (some s)) h 6 (some q)) h 7 (some r))) h t s q r := by
    have n : ∀ k, k ≠ 4 → k ≠ 5 → k ≠ 6 → k ≠ 7 → mF (sF u (u2 (u2 (u2 (u2 (mF u) h 4 (some t)) h 5 (some s)) h 6 (some q)) h 7 (some r))) h k = mF u h k := fun k h4 h5 h6 h7 => by show u2 (u2 (u2 (u2 (mF u) h 4 (some t)) h 5 (some s)) h 6 (some q)) h 7 (some r) h k = mF u h k; rw [u2_ni h7, u2_ni h6, u2_ni h5, u2_ni h4]
    refine ⟨a0, (n 0 (by decide) (by decide) (by decide) (by decide)).trans a1, (n 2 (by decide) (by decide) (by decide) (by decide)).trans a2, (n 3 (by decide) (by decide) (by decide) (by decide)).trans a3, ?_, ?_, ?_, u2_at, (n 9 (by decide) (by decide) (by decide) (by decide)).trans a8, (n 10 (by decide) (by decide) (by decide) (by decide)).trans a9, a10, a11, fun i hi => ⟨(congrFun (hup.2.1 (h + 65) (by omega)) i).trans (a12 i hi).1, (a12 i hi).2.mv (hup.sm (by omega))⟩, a13.mv (hup.sm (by omega)), a14.mv (hup.sm (by omega)), a16.mv (hup.sm (by omega)), a15.mv (hup.sm (by omega)), a18.mv (hup.sm (by omega)), a17.mv (hup.sm (by omega)), a19.mv (hup.sm (by omega)), by omega, by omega⟩
    · exact (u2_ni (by decide)).trans ((u2_ni (by decide)).trans ((u2_ni (by decide)).trans u2_at))
    · exact (u2_ni (by decide)).trans ((u2_ni (by decide)).trans u2_at)
    · exact (u2_ni (by decide)).trans u2_at
  obtain ⟨b0, b1, b2, b3, b4, b5, b6, b7, b8, b9, b10, b11, b12, b13, b14, b15, b16, b17, b18, b19, b20, b21⟩ := id hBv
  obtain ⟨r0, r1, r2, r3, r4, r5, r6, r7, r8⟩ := id b17
  change Ef P _ 9 0 [some (vR h), none, none] [] _ _
  refine ef_aload_n (pc := 0) d9_0 rfl ?_
  refine eg_getR (pc := 1) d9_1 lf_0_30 (by assumption) (by decide) (by assumption) ?_
  refine ef_astore_n (pc := 4) d9_4 (ls' := [_, _, _]) rfl ?_
  refine ef_aload_n (pc := 5) d9_5 rfl ?_
  refine ef_aload_n (pc := 6) d9_6 rfl ?_
  refine eg_getR (pc := 7) d9_7 lf_0_34 (by assumption) (by decide) (by assumption) ?_
  refine ef_putR (pc := 10) d9_10 pf_9_30 (by assumption) (by decide) ?_
  change Ef P _ 9 13 _ _ (sI (sF u (u2 (mF u) h 4 (some t))) g) _
  refine ef_aload_n (pc := 13) d9_13 rfl ?_
  refine ef_aload_n (pc := 14) d9_14 rfl ?_
  refine ef_putR (pc := 15) d9_15 pf_9_34 (by assumption) (by decide) ?_
  change Ef P _ 9 18 _ _ (sI (sF u (u2 (u2 (mF u) h 4 (some t)) h 5 (some s))) g) _
  refine ef_aload_n (pc := 18) d9_18 rfl ?_
  refine eg_getR (pc := 19) d9_19 lf_0_40 (by assumption) (by decide) (by assumption) ?_
  refine ef_astore_n (pc := 22) d9_22 (ls' := [_, _, _]) rfl ?_
  refine ef_aload_n (pc := 23) d9_23 rfl ?_
  refine ef_aload_n (pc := 24) d9_24 rfl ?_
  refine eg_getR (pc := 25) d9_25 lf_0_44 (by assumption) (by decide) (by assumption) ?_
  refine ef_putR (pc := 28) d9_28 pf_9_40 (by assumption) (by decide) ?_
  change Ef P _ 9 31 _ _ (sI (sF u (u2 (u2 (u2 (mF u) h 4 (some t)) h 5 (some s)) h 6 (some q))) g) _
  refine ef_aload_n (pc := 31) d9_31 rfl ?_
  refine ef_aload_n (pc := 32) d9_32 rfl ?_
  refine ef_putR (pc := 33) d9_33 pf_9_44 (by assumption) (by decide) ?_
  change Ef P _ 9 36 _ _ (sI (sF u (u2 (u2 (u2 (u2 (mF u) h 4 (some t)) h 5 (some s)) h 6 (some q)) h 7 (some r))) g) _
  refine ef_aload_n (pc := 36) d9_36 rfl ?_
  refine eg_getR (pc := 37) d9_37 lf_0_40 (by assumption) (by decide) (by assumption) ?_
  refine ef_aload_n (pc := 40) d9_40 rfl ?_
  refine eg_getR (pc := 41) d9_41 lf_0_30 (by assumption) (by decide) (by assumption) ?_
  refine ef_aload_n (pc := 44) d9_44 rfl ?_
  refine eg_getR (pc := 45) d9_45 lf_0_16 (by assumption) (by decide) (by assumption) ?_
  refine ef_callV (pc := 48) d9_48 lm_0_210 (as := [_, _]) rfl rfl (by assumption) rfl rfl (by decide) (Nat.le_of_ble_eq_true rfl) rfl (Nat.le_of_ble_eq_true rfl) ?_
  refine Ec.imp (c34v (u := (sF u (u2 (u2 (u2 (u2 (mF u) h 4 (some t)) h 5 (some s)) h 6 (some q)) h 7 (some r)))) (d := d) b17 b15 b13 (by omega) (by omega) hS.1 hS.2.1 hok.1.1 hT.1) ?_
  rintro r48 u48 ⟨g1, rfl, rfl, o1, k1⟩
  have st1 : g1 h 8 = st := by rw [o1 h (by omega)]; exact hst
  have hR1 : Rf g1 r R := hR.off (fun a h1 h2 => o1 a (by omega))
  refine ef_aload_n (pc := 51) d9_51 rfl ?_
  refine eg_getR (pc := 52) d9_52 lf_0_40 (by assumption) (by decide) (by assumption) ?_
  refine ef_aload_n (pc := 55) d9_55 rfl ?_
  refine eg_getR (pc := 56) d9_56 lf_0_44 (by assumption) (by decide) (by assumption) ?_
  refine ef_aload_n (pc := 59) d9_59 rfl ?_
  refine eg_getI (pc := 60) d9_60 lf_0_83 (by assumption) (by decide) ?_
  rw [st1]
  refine ef_callV (pc := 63) d9_63 lm_0_214 (as := [_, _]) rfl rfl (by assumption) rfl rfl (by decide) (Nat.le_of_ble_eq_true rfl) rfl (Nat.le_of_ble_eq_true rfl) ?_
  refine Ec.imp (c40 (u := (sF u (u2 (u2 (u2 (u2 (mF u) h 4 (some t)) h 5 (some s)) h 6 (some q)) h 7 (some r)))) (d := d) b17 b18 (by omega) k1 hR1 (rxS_len hS.2.1) hl (rxS_srt hS.2.1) hs) ?_
  rintro r63 u63 ⟨g2, rfl, rfl, o2, k2⟩
  refine ef_vret (pc := 66) d9_66 rfl ?_
  refine ⟨_, g2, rfl, rfl, hBv, hup, fun a ha => (o2 a (by omega)).trans (o1 a (by omega)), k1.off (fun a h1 h2 => o2 a (by omega)), ?_⟩
  intro j v hv
  rw [List.getElem?_map] at hv
  cases he : (rxS kd A)[j]? with
  | none => rw [he] at hv; cases hv
  | some e =>
    rw [he] at hv
    cases hv
    obtain ⟨d1, d2⟩ := k2 j e he
    rw [o1 (r + 4) (by omega)] at d1
    exact dt_L R D 0 hDl (fun i x hx => by rw [Nat.zero_add]; exact hD i x hx) (fun k b hb hbe => by rw [Nat.zero_add]; exact d1 k b hb hbe) d2
def CVs (u : Mm) (g : Nat → Nat → Int) (h s t r q : Nat) (W : List Int) (kd nm rp en : Nat → Int) (sz : Nat) (c : RS) (K : Nat → List Int) (X : XR) : Prop := BxA u h s t r q ∧ CvW g h W ∧ CvT g h kd nm rp en sz ∧ CvS g s kd nm rp en sz c.1 ∧ CvR g h r kd c ∧ CvK g h K ∧ CvX g (h + 66) X
theorem c12 {P : Pg} {u : Mm} {g : Nat → Nat → Int} {h s t r q : Nat} {W : List Int} {kd nm rp en : Nat → Int} {sz : Nat} {c : RS} {K : Nat → List Int} {X : XR} {k : Nat} (hC : CVs u g h s t r q W kd nm rp en sz c K X) (hk : k < (rxS kd c.1).length) (hsv : mS u (pSv P) = none) (hnx : c.1.2.2.2.1 ≤ 2147480000) (hst : c.2.2 ≤ 2147480000) : Ec P 50 12 [vR h, vI (k : Int)] (sI u g) (fun x u' => ∃ v g' s' t' r' q', u' = sI v g' ∧ Up h u v ∧ Off h (h + 710) g g' ∧ ((∃ c', stpF kd nm rp en k c = some c' ∧ x = .inl (some (vI 1)) ∧ CVs v g' h s' t' r' q' W kd nm rp en sz c' K X ∧ c'.1.2.2.2.1 ≤ c.1.2.2.2.1 + 50 ∧ c'.2.2 = c.2.2 + 1) ∨ (stpF kd nm rp en k c = none ∧ x = .inl (some (vI 0)) ∧ CVs v g' h s' t' r' q' W kd nm rp en sz c K X))) := by
  obtain ⟨hB, hW, hT, hS, hR, hK, hX⟩ := hC
  obtain ⟨a0, a1, a2, a3, a4, a5, a6, a7, a8, a9, a10, a11, a12, a13, a14, a15, a16, a17, a18, a19, a20, a21⟩ := id hB
  obtain ⟨m0, m1, m2, m3, m4, m5, m6, m7, m8⟩ := id a14
  obtain ⟨p0, p1, p2, p3, p4, p5, p6, p7, p8⟩ := id a16
  obtain ⟨kd1, nm1, rp1, en1, hch, ht, hok⟩ := hT
  obtain ⟨sS, vS, lS, tS⟩ := hS
  obtain ⟨rR, rD, rl, rs, rz, rb⟩ := hR
  obtain ⟨w, hw, -⟩ := get_of_lt hk
  obtain ⟨e, he⟩ := rx_w vS hw
  have nf := fol_nx (rp := rp) hok vS he
  have fail : ∀ g', (∀ a, ¬ (h + 8 ≤ a ∧ a < h + 13) → ¬ (t ≤ a ∧ a < t + 21) → g' a = g a) → stpF kd nm rp en k c = none → ∃ v g2 s' t' r' q', sI u g' = sI v g2 ∧ Up h u v ∧ Off h (h + 710) g g2 ∧ ((∃ c', stpF kd nm rp en k c = some c' ∧ (.inl (some (vI 0)) : Option Vl ⊕ (Nat × Nat)) = .inl (some (vI 1)) ∧ CVs v g2 h s' t' r' q' W kd nm rp en sz c' K X ∧ c'.1.2.2.2.1 ≤ c.1.2.2.2.1 + 50 ∧ c'.2.2 = c.2.2 + 1) ∨ (stpF kd nm rp en k c = none ∧ (.inl (some (vI 0)) : Option Vl ⊕ (Nat × Nat)) = .inl (some (vI 0)) ∧ CVs v g2 h s' t' r' q' W kd nm rp en sz c K X)) := by
    intro g' hg hn
    refine ⟨u, g', s, t, r, q, rfl, Up.refl, fun a ha => hg a (by omega) (by omega), Or.inr ⟨hn, rfl, hB, hW.of (by rw [hg h (by omega) (by omega)]) (hg _ (by omega) (by omega)), ?_, ?_, ?_, hK.of (fun a h1 h2 => hg a (by omega) (by omega)), hX.of (hg _ (by omega) (by omega)) (hg _ (by omega) (by omega))⟩⟩
    · exact CvT.of ⟨kd1, nm1, rp1, en1, hch, ht, hok⟩ (fun a h1 h2 => hg a (by omega) (by omega))
    · exact CvS.of ⟨sS, vS, lS, tS⟩ (fun a h1 h2 => hg a (by omega) (by omega))
    · exact CvR.of ⟨rR, rD, rl, rs, rz, rb⟩ (by rw [hg h (by omega) (by omega)]) (fun a h1 h2 => hg a (by omega) (by omega))
  change Ef P _ 12 0 [some (vR h), some (vI (k : Int))] [] _ _
  refine ef_aload_n (pc := 0) d12_0 rfl ?_
  refine eg_getR (pc := 1) d12_1 lf_0_34 (by assumption) (by decide) (by assumption) ?_
  refine ef_aload_n (pc := 4) d12_4 rfl ?_
  refine eg_getR (pc := 5) d12_5 lf_0_30 (by assumption) (by decide) (by assumption) ?_
  refine ef_aload_n (pc := 8) d12_8 rfl ?_
  refine eg_getR (pc := 9) d12_9 lf_0_40 (by assumption) (by decide) (by assumption) ?_
  refine ef_iload_n (pc := 12) d12_12 rfl ?_
  refine ef_aload_n (pc := 13) d12_13 rfl ?_
  refine eg_getR (pc := 14) d12_14 lf_0_16 (by assumption) (by decide) (by assumption) ?_
  refine ef_callV (pc := 17) d12_17 lm_0_206 (as := [_, _, _, _]) rfl rfl (by assumption) rfl rfl (by decide) (Nat.le_of_ble_eq_true rfl) rfl (Nat.le_of_ble_eq_true rfl) ?_
  refine Ec.imp (Ec.deep (by omega) (c49v (d := 0) (rp := rp) a16 a15 a17 a13 (by omega) (by omega) (by omega) hch hok vS sS lS tS rR hw (by omega) kd1 nm1 rp1 en1)) ?_
  rintro r17 u17 ⟨g1, rfl, rfl, o1, s1⟩
  refine ef_if_eq (pc := 20) d12_20 (t := 41) rfl (fun h20 => ?_) (fun h20 => ?_)
  · have hfl : (folF kd nm rp en w c.1).2.2.2.2 = true := by
      cases hq : (folF kd nm rp en w c.1).2.2.2.2
      · rw [hq] at h20; exact absurd h20 (by decide)
      · rfl
    have hn : stpF kd nm rp en k c = none := by
      unfold stpF
      rw [hw]
      exact if_neg (fun hh => by rw [hfl] at hh; cases hh.1)
    refine ef_iconst (pc := 41) d12_41 (by decide) ?_
    refine ef_zret (pc := 42) d12_42 rfl (by omega) ?_
    exact fail g1 (fun a h1 h2 => o1 a (by omega)) hn
  · have hfl : (folF kd nm rp en w c.1).2.2.2.2 = false := by
      cases hq : (folF kd nm rp en w c.1).2.2.2.2
      · rfl
      · rw [hq] at h20; exact absurd rfl h20
    have vf := fol_vd (rp := rp) hok vS he hfl
    refine ef_aload_n (pc := 23) d12_23 rfl ?_
    refine eg_getR (pc := 24) d12_24 lf_0_23 (by assumption) (by decide) (by assumption) ?_
    refine ef_aload_n (pc := 27) d12_27 rfl ?_
    refine eg_getR (pc := 28) d12_28 lf_0_34 (by assumption) (by decide) (by assumption) ?_
    refine ef_aload_n (pc := 31) d12_31 rfl ?_
    refine eg_getR (pc := 32) d12_32 lf_0_16 (by assumption) (by decide) (by assumption) ?_
    refine ef_callV (pc := 35) d12_35 lm_0_97 (as := [_, _]) rfl rfl (by assumption) rfl rfl (by decide) (Nat.le_of_ble_eq_true rfl) rfl (Nat.le_of_ble_eq_true rfl) ?_
    refine Ec.imp (Ec.deep (by omega) (c58v (ht := ht) a14 a13 a16 (by omega) (by omega) hsv hch hok vf s1 ((o1 _ (by omega)).trans kd1) ((o1 _ (by omega)).trans nm1) ((o1 _ (by omega)).trans rp1) ((o1 _ (by omega)).trans en1))) ?_
    rintro r35 u35 ⟨g2, rfl, hq2⟩
    rcases hq2 with ⟨l3, rfl, t2, o2⟩ | ⟨l3, rfl, o2⟩
    · have hs3 : (teS kd nm rp en (folF kd nm rp en w c.1)).length ≤ 240 := l3
      have o3 : ∀ a, ¬ (h + 8 ≤ a ∧ a < h + 13) → ¬ (t ≤ a ∧ a < t + 21) → g2 a = g a := fun a h1 h2 => (o2 a (by omega) (by omega)).trans (o1 a (by omega))
      have hstp : stpF kd nm rp en k c = some (folF kd nm rp en w c.1, ((rxS kd (folF kd nm rp en w c.1)).map (dtL (rxS kd c.1) c.2.1 (c.2.2 + 1)), c.2.2 + 1)) := by
        unfold stpF
        rw [hw]
        exact if_pos ⟨hfl, l3⟩
      have st2 : g2 h 8 = c.2.2 := by rw [o3 h (by omega) (by omega)]; exact rs
      have of4 : ∀ a, a ≠ h → u2 g2 h 8 (c.2.2 + 1) a = g2 a := fun a ha => u2_ne ha
      have hT4 : CvT (u2 g2 h 8 (c.2.2 + 1)) h kd nm rp en sz := CvT.of (g := g) ⟨kd1, nm1, rp1, en1, hch, ht, hok⟩ (fun a h1 h2 => (of4 a (by omega)).trans (o3 a (by omega) (by omega)))
      have hS4 : CvS (u2 g2 h 8 (c.2.2 + 1)) t kd nm rp en sz (folF kd nm rp en w c.1) := ⟨(s1.off (fun a h1 h2 => o2 a (by omega) (by omega))).off (fun a h1 h2 => of4 a (by omega)), vf, t2.off (fun a h1 h2 => of4 a (by omega)), l3⟩
      have hR4 : Rf (u2 g2 h 8 (c.2.2 + 1)) r (rxS kd c.1) := rR.off (fun a h1 h2 => (of4 a (by omega)).trans (o3 a (by omega) (by omega)))
      have hD4 : Row (u2 g2 h 8 (c.2.2 + 1) (r + 4)) c.2.1 := by rw [of4 (r + 4) (by omega), o3 (r + 4) (by omega) (by omega)]; exact rD
      refine ef_if_neT (pc := 38) d12_38 (t := 43) rfl (by decide) ?_
      refine ef_aload_n (pc := 43) d12_43 rfl ?_
      refine ef_dup (pc := 44) d12_44 rfl ?_
      refine eg_getI (pc := 45) d12_45 lf_0_83 (by assumption) (by decide) ?_
      rw [st2]
      refine ef_iconst (pc := 48) d12_48 (by decide) ?_
      refine ef_iadd (pc := 49) d12_49 rfl ⟨by omega, by omega⟩ ?_
      refine eg_putI (pc := 50) d12_50 pf_12_83 (by assumption) (by decide) ?_
      refine ef_aload_n (pc := 53) d12_53 rfl ?_
      refine ef_callV (pc := 54) d12_54 lm_0_104 (as := []) rfl rfl (by assumption) rfl rfl (by decide) (Nat.le_of_ble_eq_true rfl) rfl (Nat.le_of_ble_eq_true rfl) ?_
      refine Ec.imp (Ec.deep (by omega) (c9 (d := 0) hB hT4 hS4 hR4 (rxS_srt vS) (rxS_len vS) hD4 rl u2_at)) ?_
      rintro r54 u54 ⟨v, g5, rfl, rfl, hBv, hup, o5, k5, d5⟩
      refine ef_iconst (pc := 57) d12_57 (by decide) ?_
      refine ef_zret (pc := 58) d12_58 rfl (by omega) ?_
      refine ⟨v, g5, t, s, q, r, rfl, hup, fun a ha => ((o5 a (by omega)).trans (of4 a (by omega))).trans (o3 a (by omega) (by omega)), Or.inl ⟨_, hstp, rfl, ⟨hBv, ?_, ?_, ?_, ?_, ?_, ?_⟩, nf.2, rfl⟩⟩
      · exact hW.of (by rw [o5 h (by omega), u2_ni (by decide), o3 h (by omega) (by omega)]) (by rw [o5 _ (by omega), of4 _ (by omega), o3 _ (by omega) (by omega)])
      · exact hT4.of (fun a h1 h2 => o5 a (by omega))
      · exact hS4.of (fun a h1 h2 => o5 a (by omega))
      · refine ⟨k5, d5, by rw [List.length_map], by rw [o5 h (by omega), u2_at], by show 0 ≤ c.2.2 + 1; omega, ?_⟩
        intro x hx
        obtain ⟨e2, -, rfl⟩ := List.mem_map.mp hx
        exact dtL_rg (fun y hy => by have := rb y hy; omega) (by omega)
      · exact hK.of (fun a h1 h2 => ((o5 a (by omega)).trans (of4 a (by omega))).trans (o3 a (by omega) (by omega)))
      · exact hX.of (((o5 _ (by omega)).trans (of4 _ (by omega))).trans (o3 _ (by omega) (by omega))) (((o5 _ (by omega)).trans (of4 _ (by omega))).trans (o3 _ (by omega) (by omega)))
    · have hn : stpF kd nm rp en k c = none := by
        unfold stpF
        rw [hw]
        exact if_neg (fun hh => by omega)
      refine ef_if_neF (pc := 38) d12_38 (t := 43) rfl (by decide) ?_
      refine ef_iconst (pc := 41) d12_41 (by decide) ?_
      refine ef_zret (pc := 42) d12_42 rfl (by omega) ?_
      exact fail g2 (fun a h1 h2 => (o2 a (by omega)).trans (o1 a (by omega))) hn
