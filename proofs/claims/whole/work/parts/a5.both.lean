/-! Class and model side by side: what holds between two calls, and how it moves. By hand. -/
theorem srt_all {p : List Int → Prop} {l : List (List Int)} (h : ∀ x, x ∈ l → p x) : ∀ x, x ∈ srtT l → p x := by
  have ins : ∀ (x : List Int) (l : List (List Int)), p x → (∀ y, y ∈ l → p y) → ∀ y, y ∈ insT x l → p y := by
    intro x l hx
    induction l with
    | nil => intro _ y hy; rw [insT, List.mem_singleton] at hy; rw [hy]; exact hx
    | cons z l ih =>
      intro h
      rw [insT]
      split
      · intro y hy
        rcases List.mem_cons.mp hy with rfl | hy
        · exact hx
        · exact h y hy
      · intro y hy
        rcases List.mem_cons.mp hy with rfl | hy
        · exact h _ (List.mem_cons_self)
        · exact ih (fun w hw => h w (List.mem_cons_of_mem _ hw)) y hy
  have key : ∀ (l a : List (List Int)), (∀ y, y ∈ l → p y) → (∀ y, y ∈ a → p y) → ∀ y, y ∈ l.foldl (fun a x => insT x a) a → p y := by
    intro l
    induction l with
    | nil => intro a _ h; exact h
    | cons x l ih => intro a h1 h2; exact ih _ (fun w hw => h1 w (List.mem_cons_of_mem _ hw)) (ins x a (h1 x List.mem_cons_self) h2)
  exact key l [] h (fun _ h => absurd h (List.not_mem_nil))
theorem teS_ne {kd nm rp en : Nat → Int} {A : SS} : teS kd nm rp en A ≠ [] := by
  unfold teS teT
  rw [plT]
  have h : ∀ x, x ∈ srtT (pcP (plT kd nm rp (afF en) A.1 A.2.1 A.2.2.1 20) (-1) A.1 ++ (pcG kd nm rp (afF en) (-1) A.2.1 ++ pcM (-1) A.2.2.1)) → 1 ≤ x.length := by
    refine srt_all (fun x hx => ?_)
    rcases List.mem_append.mp hx with hx | hx
    · obtain ⟨e, -, rfl⟩ := List.mem_map.mp hx
      rw [List.length_append, List.length_append]
      show 1 ≤ 2 + _ + _
      omega
    · rcases List.mem_append.mp hx with hx | hx
      · obtain ⟨e, -, rfl⟩ := List.mem_map.mp hx
        unfold txN
        rw [List.length_append]
        have := @hdT_len kd nm rp e.2.2.2.1.toNat (inm kd nm e.2.2.2.1.toNat e.2.2.2.2)
        omega
      · obtain ⟨e, -, rfl⟩ := List.mem_map.mp hx
        exact Nat.le_add_left 1 1
  generalize srtT (pcP (plT kd nm rp (afF en) A.1 A.2.1 A.2.2.1 20) (-1) A.1 ++ (pcG kd nm rp (afF en) (-1) A.2.1 ++ pcM (-1) A.2.2.1)) = l at h
  intro he
  cases l with
  | nil => cases he
  | cons x l =>
    have h1 := h x List.mem_cons_self
    have h2 := @jnL_ge false (x :: l)
    rw [he] at h2
    have h3 : sumL (x :: l) = x.length + sumL l := rfl
    rw [h3, List.length_nil] at h2
    omega
/-- a parse's faults are two -/
def E1 (r : Nat ⊕ PS) : Prop := ∀ y, r = .inl y → y ≤ 1
theorem E1.r {S : PS} : E1 (.inr S) := fun y h => by cases h
theorem E1.l {y : Nat} (h : y ≤ 1) : E1 (.inl y) := fun z hz => by cases hz; exact h
theorem E1.bd {r : Nat ⊕ PS} {F : PS → Nat ⊕ PS} (h : E1 r) (k : ∀ S, E1 (F S)) : E1 (bdP r F) := by
  cases r with
  | inl x => exact fun y hy => h y hy
  | inr S => exact k S
theorem E1.sk {K : Nat → Int} {c : Int} {S : PS} : E1 (skP K c S) := by unfold skP; split; exact E1.r; exact E1.l (by decide)
theorem E1.ad {k r : Int} {S : PS} : E1 (adP k r S) := by unfold adP; split; exact E1.r; exact E1.l (by decide)
theorem E1.nm {K : Nat → Int} {b : Int} {i : Nat} {S : PS} : E1 (nmP K b i S) := by unfold nmP; split; exact E1.r; exact E1.l (by decide)
theorem E1.lt {K : Nat → Int} {i : Nat} {S : PS} : E1 (ltP K i S) := by unfold ltP; split; exact E1.r; exact E1.l (by decide)
theorem E1.lp {K : Nat → Int} {F : PS → Nat ⊕ PS} (h : ∀ S, E1 (F S)) : ∀ (k : Nat) (S : PS), E1 (lpP K F k S) := by
  intro k
  induction k with
  | zero => intro S; exact E1.r
  | succ k ih =>
    intro S
    rw [lpP]
    split
    · exact E1.bd (h _) ih
    · exact E1.r
theorem E1.pr {K : Nat → Int} {F : PS → Nat ⊕ PS} {S : PS} (h : ∀ S, E1 (F S)) : E1 (prP K F S) := E1.bd (h S) (E1.lp h 121)
theorem E1.gr {K : Nat → Int} {b r : Int} {F : Int → PS → Nat ⊕ PS} {S : PS} (h : ∀ b S, E1 (F b S)) : E1 (grP K b r F S) := by
  unfold grP
  split
  · exact E1.l (by decide)
  · refine E1.bd E1.ad (fun S1 => E1.bd ?_ (fun S2 => E1.bd E1.sk (fun S3 => E1.bd (h _ _) (fun S4 => E1.r))))
    split
    · exact E1.lt
    · exact E1.nm
theorem E1.pt {K : Nat → Int} : ∀ (f : Nat) (b : Int) (S : PS), E1 (ptP K f b S) := by
  intro f
  induction f with
  | zero => intro b S; exact E1.l (by decide)
  | succ f ih =>
    intro b S
    rw [ptP]
    split
    · exact E1.r
    · split
      · exact E1.bd (E1.pr (ih b)) (fun _ => E1.sk)
      · split
        · exact E1.bd E1.ad (fun _ => E1.nm)
        · split
          · exact E1.bd E1.ad (fun S1 => E1.bd E1.nm (fun S2 => E1.bd E1.sk (fun S3 => E1.bd (E1.pr (ih b)) (fun S4 => E1.bd E1.sk (fun S5 => E1.r)))))
          · unfold guP
            split
            · exact E1.gr ih
            · exact E1.gr ih
theorem pa_e {T : List Int} {S : PS} {y : Nat} (h : paF T S = .inl y) : y ≤ 1 := by
  have : E1 (paF T S) := E1.bd (E1.pr (E1.pt 8 0)) (fun S => by split; exact E1.l (by decide); exact E1.r)
  exact this y h
/-- the model's share; the room's -/
def MP (h : Nat) (u : Mm) (g : Nat → Nat → Int) (W : List Int) (kd nm rp en : Nat → Int) (sz : Nat) (c : RS) (K : Nat → List Int) (X : XR) : Prop := MdA u (h + 710) ∧ g (h + 710) 2 = (W.length : Int) ∧ Row (g (h + 710 + 1)) W ∧ Mc g (h + 710) kd nm rp en sz c ∧ KtM u g (h + 710) K ∧ MXr g (h + 710) X
def FP (h n : Nat) (u : Mm) : Prop := mS u (h + 753) = some (3, 1) ∧ (∀ b, b < h → mS u b = none) ∧ h + 754 ≤ mT u ∧ mT u ≤ h + 754 + n ∧ mU u ≤ 56100 + 6 * n
def LI (h n : Nat) (u : Mm) (g : Nat → Nat → Int) : Prop := ∃ s t r q W kd nm rp en sz c K X, CVs u g h s t r q W kd nm rp en sz c K X ∧ MP h u g W kd nm rp en sz c K X ∧ FP h n u ∧ c.1.2.2.2.1 ≤ 50 + 1500 * (n : Int) ∧ c.2.2 ≤ 30 * (n : Int)
theorem mS_hole {u : Mm} {k b : Nat} : mS (mHole u k) b = if b = mT u then none else mS u b := rfl
theorem mF_hole {u : Mm} {k b : Nat} : mF (mHole u k) b = mF u b := rfl
theorem FP.up {h n : Nat} {u v : Mm} (H : FP h n u) (k : Up h u v) : FP h (n + 1) v := by
  obtain ⟨a1, a2, a3, a4, a5⟩ := H
  obtain ⟨k1, k2, k3, k4, k5⟩ := k
  exact ⟨by rw [k1]; exact a1, fun b hb => by rw [k1]; exact a2 b hb, by omega, by omega, by omega⟩
theorem FP.hole {h n : Nat} {u v : Mm} (H : FP h n u) (k : Up h u v) : FP h (n + 1) (mHole v 6) := by
  obtain ⟨a1, a2, a3, a4, a5⟩ := H
  obtain ⟨k1, k2, k3, k4, k5⟩ := k
  refine ⟨by rw [mS_hole, if_neg (by omega), k1]; exact a1, fun b hb => by rw [mS_hole, if_neg (by omega), k1]; exact a2 b hb, ?_, ?_, ?_⟩
  · show h + 754 ≤ mT v + 1; omega
  · show mT v + 1 ≤ h + 754 + (n + 1); omega
  · show mU v + 6 ≤ 56100 + 6 * (n + 1); omega
theorem FP.sL {h n : Nat} {u : Mm} {L : Nat → Nat → Int64} (H : FP h n u) : FP h n (sL u L) := H
theorem MdA.of {u v : Mm} {m : Nat} (H : MdA u m) (k : ∀ b, m ≤ b → b < m + 43 → mS v b = mS u b ∧ mF v b = mF u b) : MdA v m := by
  refine ⟨by rw [(k m (by omega) (by omega)).1]; exact H.1, fun j hj => ?_⟩
  rw [(k m (by omega) (by omega)).2, (k (m + 1 + j) (by omega) (by omega)).1]
  exact H.2 j hj
theorem KtM.of {u v : Mm} {g g' : Nat → Nat → Int} {m : Nat} {K : Nat → List Int} (H : KtM u g m K) (k1 : g' (m + 35) = g (m + 35)) (k2 : mL v (m + 36) = mL u (m + 36)) : KtM v g' m K := by
  unfold KtM
  rw [k1, k2]
  exact H
theorem MXr.of {g g' : Nat → Nat → Int} {m : Nat} {X : XR} (H : MXr g m X) (k : ∀ f, 51 < f → f < 59 → g' m f = g m f) : MXr g' m X := by
  unfold MXr
  rw [k 57 (by decide) (by decide), k 52 (by decide) (by decide), k 58 (by decide) (by decide), k 54 (by decide) (by decide), k 55 (by decide) (by decide), k 56 (by decide) (by decide)]
  exact H
theorem Mc.same {g g' : Nat → Nat → Int} {m sz : Nat} {kd nm rp en : Nat → Int} {c : RS} (H : Mc g m kd nm rp en sz c) (a1 : ∀ j, (3 ≤ j ∧ j ≤ 8) ∨ (12 ≤ j ∧ j ≤ 24) ∨ j = 27 → g' (m + j) = g (m + j)) (a2 : ∀ f, f = 28 ∨ f = 29 ∨ f = 30 ∨ f = 49 → g' m f = g m f) : Mc g' m kd nm rp en sz c := by
  obtain ⟨cT, cR, cV, c29, c30, c49, cW, cL, cC, cg, co, cD, cr, c0⟩ := H
  have on : ∀ y, oNum g' m y = oNum g m y := fun y => by unfold oNum; rw [a1 12 (by omega), a1 19 (by omega)]
  exact ⟨cT.of (fun j h1 h2 => a1 j (by omega)), cR.same (fun j h1 h2 => a1 j (by omega)) (a2 28 (by omega)), cV, (a2 29 (by omega)).trans c29, (a2 30 (by omega)).trans c30, (a2 49 (by omega)).trans c49, by rw [a1 27 (by omega)]; exact cW, cL, cC.of (fun kk _ => by rw [a1 15 (by omega)]) (fun oo _ => on oo) (a1 22 (by omega)), fun hne kk hk => by rw [a1 23 (by omega), a1 15 (by omega)]; exact cg hne kk hk, fun hne oo h1 h2 => by rw [a1 24 (by omega), on]; exact co hne oo h1 h2, cD, cr, c0⟩
section B
variable {h n : Nat} {u v : Mm} {g g' : Nat → Nat → Int} {W : List Int} {kd nm rp en : Nat → Int} {sz : Nat} {c : RS} {K : Nat → List Int} {X : XR} {s t r q : Nat}
/-- behind a call of the class -/
theorem MP.cl (H : MP h u g W kd nm rp en sz c K X) (k : Up h u v) (o : Off h (h + 710) g g') : MP h v g' W kd nm rp en sz c K X := by
  obtain ⟨a1, a2, a3, a4, a5, a6⟩ := H
  have o2 : ∀ a, h + 710 ≤ a → g' a = g a := fun a ha => o a (Or.inr ha)
  exact ⟨a1.of (fun b h1 h2 => ⟨k.1 b, k.2.1 b (by omega)⟩), by rw [o2 _ (by omega)]; exact a2, by rw [o2 _ (by omega)]; exact a3, a4.same (fun j _ => o2 _ (by omega)) (fun f _ => by rw [o2 _ (by omega)]), a5.of (o2 _ (by omega)) (by rw [k.2.2.1]), a6.of (fun f _ _ => by rw [o2 _ (by omega)])⟩
theorem MP.hole (H : MP h u g W kd nm rp en sz c K X) (k : h + 754 ≤ mT u) : MP h (mHole u 6) g W kd nm rp en sz c K X :=
  ⟨H.1.of (fun b h1 h2 => ⟨by rw [mS_hole, if_neg (by omega)], rfl⟩), H.2.1, H.2.2.1, H.2.2.2.1, H.2.2.2.2.1, H.2.2.2.2.2⟩
theorem MP.sL {L : Nat → Nat → Int64} (H : MP h u g W kd nm rp en sz c K X) (k : ∀ b, b ≠ h + 753 → L b = mL u b) : MP h (sL u L) g W kd nm rp en sz c K X :=
  ⟨H.1, H.2.1, H.2.2.1, H.2.2.2.1, H.2.2.2.2.1.of rfl (k _ (by omega)), H.2.2.2.2.2⟩
theorem CVs.hole (H : CVs u g h s t r q W kd nm rp en sz c K X) (k : h + 754 ≤ mT u) : CVs (mHole u 6) g h s t r q W kd nm rp en sz c K X :=
  ⟨H.1.mv (fun b h1 h2 => ⟨by rw [mS_hole, if_neg (by omega)], rfl⟩), H.2⟩
theorem CVs.sL {L : Nat → Nat → Int64} (H : CVs u g h s t r q W kd nm rp en sz c K X) : CVs (sL u L) g h s t r q W kd nm rp en sz c K X := H
/-- behind a call of the model -/
theorem CVs.md (H : CVs u g h s t r q W kd nm rp en sz c K X) (k : ∀ a, a < h + 710 → g' a = g a) : CVs u g' h s t r q W kd nm rp en sz c K X := by
  obtain ⟨a1, a2, a3, a4, a5, a6, a7⟩ := H
  have hs : (s = h + 13 ∨ s = h + 34) ∧ (r = h + 55 ∨ r = h + 60) := by
    obtain ⟨-, -, -, -, -, -, -, -, -, -, -, -, -, -, -, -, -, -, -, -, e1, e2⟩ := a1
    omega
  exact ⟨a1, a2.of (by rw [k h (by omega)]) (k _ (by omega)), a3.of (fun a h1 h2 => k a (by omega)), a4.of (fun a h1 h2 => k a (by omega)), a5.of (by rw [k h (by omega)]) (fun a h1 h2 => k a (by omega)), a6.of (fun a h1 h2 => k a (by omega)), a7.of (k _ (by omega)) (k _ (by omega))⟩
theorem MP.fl (H : MP h u g W kd nm rp en sz c K X) {x : Int} : MP h u (u2 g (h + 710) 0 x) W kd nm rp en sz c K X :=
  ⟨H.1, by rw [u2_ni (by decide)]; exact H.2.1, by rw [u2_ne (by omega)]; exact H.2.2.1, H.2.2.2.1.fl (Or.inl rfl), H.2.2.2.2.1.of (u2_ne (by omega)) rfl, H.2.2.2.2.2.of (fun f h1 h2 => u2_ni (by omega))⟩
theorem MP.st {c' : RS} (H : MP h u g W kd nm rp en sz c K X) (z : StZ g g' (h + 710)) (k : Mc g' (h + 710) kd nm rp en sz c') : MP h u g' W kd nm rp en sz c' K X :=
  ⟨H.1, by rw [z.2.1 2 (by decide) (by decide) (by decide) (by decide) (by decide) (by decide) (by decide) (by decide) (by decide) (by decide) (by decide) (by decide)]; exact H.2.1, by rw [z.1 _ (by omega) (by omega) (by omega) (by omega) (by omega)]; exact H.2.2.1, k, H.2.2.2.2.1.of (z.1 _ (by omega) (by omega) (by omega) (by omega) (by omega)) rfl, H.2.2.2.2.2.of (fun f h1 h2 => z.2.1 f (by omega) (by omega) (by omega) (by omega) (by omega) (by omega) (by omega) (by omega) (by omega) (by omega) (by omega) (by omega))⟩
theorem CVs.ht (H : CVs u g h s t r q W kd nm rp en sz c K X) : ∃ ht, TmOk kd nm en sz ht := H.2.2.1.2.2.2.2.2
end B
/-- what the law sees of a call of the model behind one of the class -/
def NX (P : Pg) (h n y : Nat) (as : List Vl) (lv : Int → Int64) (kz z : Int) (u : Mm) : Prop := Ec P 70 y (vR (h + 710) :: as) u (fun x u' => ∃ x0 v g, x = .inl (some (vI x0)) ∧ u' = sI v g ∧ g (h + 710) 0 = kz ∧ (kz = 0 → x0 = z ∧ mL v (h + 753) 0 = lv z) ∧ LI h (n + 1) v g)
def HQ (P : Pg) (h n y : Nat) (as : List Vl) (lv : Int → Int64) (x : Option Vl ⊕ (Nat × Nat)) (u' : Mm) : Prop := ∃ kz z v g, x = .inl (some (vI kz)) ∧ u' = sI v g ∧ mS v (h + 710) = some (100 + 8, 67) ∧ (∀ b, b < h → mS v b = none) ∧ NX P h n y as lv kz z (sI v g)
theorem LI.md {h n : Nat} {u : Mm} {g : Nat → Nat → Int} (H : LI h n u g) : MdA u (h + 710) ∧ mS u (h + 753) = some (3, 1) ∧ mS u h = some (100 + 0, 11) ∧ (∀ b, b < h → mS u b = none) ∧ mT u ≤ h + 754 + n ∧ mU u ≤ 56100 + 6 * n := by
  obtain ⟨s, t, r, q, W, kd, nm, rp, en, sz, c, K, X, hC, hM, hF, b1, b2⟩ := H
  exact ⟨hM.1, hF.1, hC.1.1, hF.2.1, hF.2.2.2.1, hF.2.2.2.2⟩
