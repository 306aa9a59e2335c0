/-! What a parse makes is a well-formed term. Pure, by hand. -/
def NdOk (f : Nat) (S : PS) (h : Nat → Nat) (k : Nat) : Prop := h k < f ∧ (S.2.2.1 k = 4 → 1 ≤ h k) ∧ 0 ≤ S.2.2.1 k ∧ S.2.2.1 k ≤ 5 ∧ ((97 ≤ S.2.2.2.1 k ∧ S.2.2.2.1 k ≤ 102) ∨ (120 ≤ S.2.2.2.1 k ∧ S.2.2.2.1 k ≤ 122)) ∧ (S.2.2.1 k = 3 → 120 ≤ S.2.2.2.1 k ∧ S.2.2.2.1 k ≤ 122) ∧ (S.2.2.2.2.1 k = 0 ∨ S.2.2.2.2.1 k = 1) ∧
  (k : Int) + 1 ≤ S.2.2.2.2.2 k ∧ S.2.2.2.2.2 k ≤ (S.2.1 : Int) ∧ ∀ m : Nat, k < m → (m : Int) < S.2.2.2.2.2 k → S.2.2.2.2.2 m ≤ S.2.2.2.2.2 k ∧ h m < h k
def SmB (S S' : PS) (n : Nat) : Prop := ∀ k, k < n → S'.2.2.1 k = S.2.2.1 k ∧ S'.2.2.2.1 k = S.2.2.2.1 k ∧ S'.2.2.2.2.1 k = S.2.2.2.2.1 k ∧ S'.2.2.2.2.2 k = S.2.2.2.2.2 k
def PV (f : Nat) (S S' : PS) : Prop := S.2.1 ≤ S'.2.1 ∧ S'.2.1 ≤ 50 ∧ SmB S S' S.2.1 ∧ ∃ h : Nat → Nat, ∀ k, S.2.1 ≤ k → k < S'.2.1 → NdOk f S' h k
theorem PV.refl {f : Nat} {S S' : PS} (h : S.2.1 ≤ 50) (hs : S'.2 = S.2) : PV f S S' := by
  obtain ⟨a, b⟩ := S
  obtain ⟨a', b'⟩ := S'
  simp only at hs
  subst hs
  exact ⟨Nat.le_refl _, h, fun _ _ => ⟨rfl, rfl, rfl, rfl⟩, fun _ => 0, fun k h1 h2 => absurd h2 (by simp only at h1 h2 ⊢; omega)⟩
theorem PV.trans {f : Nat} {S S1 S2 : PS} (h1 : PV f S S1) (h2 : PV f S1 S2) : PV f S S2 := by
  obtain ⟨a1, a2, a3, ha, a4⟩ := h1
  obtain ⟨b1, b2, b3, hb, b4⟩ := h2
  obtain ⟨hh, hh1, hh2⟩ : ∃ hh : Nat → Nat, (∀ k, k < S1.2.1 → hh k = ha k) ∧ (∀ k, ¬ k < S1.2.1 → hh k = hb k) := ⟨fun k => if k < S1.2.1 then ha k else hb k, fun k h => if_pos h, fun k h => if_neg h⟩
  refine ⟨by omega, b2, fun k hk => ?_, hh, fun k hk1 hk2 => ?_⟩
  · have x := a3 k hk
    have y := b3 k (by omega)
    exact ⟨y.1.trans x.1, y.2.1.trans x.2.1, y.2.2.1.trans x.2.2.1, y.2.2.2.trans x.2.2.2⟩
  · unfold NdOk
    by_cases hk : k < S1.2.1
    · have x := b3 k hk
      obtain ⟨n1, n2, n3, n4, n5, n6, n7, n8, n9, n10⟩ := a4 k hk1 hk
      rw [x.1, x.2.1, x.2.2.1, x.2.2.2, hh1 k hk]
      refine ⟨n1, n2, n3, n4, n5, n6, n7, n8, by omega, fun m h1 h2 => ?_⟩
      have hm : m < S1.2.1 := by omega
      rw [(b3 m hm).2.2.2, hh1 m hm]
      exact n10 m h1 h2
    · obtain ⟨n1, n2, n3, n4, n5, n6, n7, n8, n9, n10⟩ := b4 k (by omega) hk2
      rw [hh2 k hk]
      refine ⟨n1, n2, n3, n4, n5, n6, n7, n8, n9, fun m h1 h2 => ?_⟩
      rw [hh2 m (by omega)]
      exact n10 m h1 h2
theorem PV.up {f : Nat} {S S1 : PS} (h1 : PV f S S1) : PV (f + 1) S S1 := by
  obtain ⟨a1, a2, a3, ha, a4⟩ := h1
  exact ⟨a1, a2, a3, ha, fun k h1 h2 => by
    obtain ⟨n1, n2⟩ := a4 k h1 h2
    exact ⟨by omega, n2⟩⟩
theorem PV.same {f : Nat} {S T S1 T1 : PS} (h : PV f S S1) (h1 : T.2 = S.2) (h2 : T1.2 = S1.2) : PV f T T1 := by
  obtain ⟨a, b⟩ := S
  obtain ⟨a', b'⟩ := T
  obtain ⟨c, d⟩ := S1
  obtain ⟨c', d'⟩ := T1
  simp only at h1 h2
  subst h1
  subst h2
  exact h
/-- a node with what is inside -/
theorem PV.wrap {f : Nat} {S S3 S4 : PS} {k r c : Int} {c' : Prop} (hS : S.2.1 < 50) (h3 : S3.2 = (S.2.1 + 1, (u1 S.2.2.1 S.2.1 k, (u1 S.2.2.2.1 S.2.1 c, (u1 S.2.2.2.2.1 S.2.1 r, u1 S.2.2.2.2.2 S.2.1 ((S.2.1 + 1 : Nat) : Int)))))) (h : PV f S3 S4) (hk : 0 ≤ k ∧ k ≤ 5) (hk4 : k = 4 → 1 ≤ f) (hc : (97 ≤ c ∧ c ≤ 102) ∨ (120 ≤ c ∧ c ≤ 122)) (hc3 : k = 3 → 120 ≤ c ∧ c ≤ 122) (hr : r = 0 ∨ r = 1) : PV (f + 1) S (enP S.2.1 S4) := by
  obtain ⟨a1, a2, a3, ha, a4⟩ := h
  rw [h3] at a1 a3 a4
  simp only at a1 a3 a4
  have e0 := a3 S.2.1 (by omega)
  rw [h3] at e0
  simp only [u1_eq] at e0
  have low : ∀ x, x < S.2.1 → x ≠ S.2.1 := fun x hx => by omega
  obtain ⟨hh, hh1, hh2⟩ : ∃ hh : Nat → Nat, hh S.2.1 = f ∧ (∀ k, k ≠ S.2.1 → hh k = ha k) := ⟨fun k => if k = S.2.1 then f else ha k, if_pos rfl, fun k h => if_neg h⟩
  refine ⟨by show S.2.1 ≤ S4.2.1; omega, a2, ?_, hh, ?_⟩
  · intro x hx
    have e1 := a3 x (by omega)
    rw [h3] at e1
    simp only [u1_ne (low x hx)] at e1
    refine ⟨e1.1, e1.2.1, e1.2.2.1, ?_⟩
    show u1 S4.2.2.2.2.2 S.2.1 (S4.2.1 : Int) x = _
    rw [u1_ne (low x hx)]
    exact e1.2.2.2
  · intro x hx1 hx2
    have hx2 : x < S4.2.1 := hx2
    unfold NdOk
    show _ ∧ (S4.2.2.1 x = 4 → _) ∧ 0 ≤ S4.2.2.1 x ∧ S4.2.2.1 x ≤ 5 ∧ ((97 ≤ S4.2.2.2.1 x ∧ S4.2.2.2.1 x ≤ 102) ∨ (120 ≤ S4.2.2.2.1 x ∧ S4.2.2.2.1 x ≤ 122)) ∧ (S4.2.2.1 x = 3 → 120 ≤ S4.2.2.2.1 x ∧ S4.2.2.2.1 x ≤ 122) ∧ (S4.2.2.2.2.1 x = 0 ∨ S4.2.2.2.2.1 x = 1) ∧ (x : Int) + 1 ≤ u1 S4.2.2.2.2.2 S.2.1 (S4.2.1 : Int) x ∧ u1 S4.2.2.2.2.2 S.2.1 (S4.2.1 : Int) x ≤ (S4.2.1 : Int) ∧ ∀ m : Nat, x < m → (m : Int) < u1 S4.2.2.2.2.2 S.2.1 (S4.2.1 : Int) x → u1 S4.2.2.2.2.2 S.2.1 (S4.2.1 : Int) m ≤ u1 S4.2.2.2.2.2 S.2.1 (S4.2.1 : Int) x ∧ _
    by_cases hx : x = S.2.1
    · subst hx
      rw [u1_eq, hh1, e0.1, e0.2.1, e0.2.2.1]
      refine ⟨Nat.lt_succ_self _, hk4, hk.1, hk.2, hc, hc3, hr, by omega, Int.le_refl _, fun m h1 h2 => ?_⟩
      obtain ⟨n1, n2, n3, n4, n5, n6, n7, n8, n9, n10⟩ := a4 m (by omega) (by omega)
      rw [u1_ne (by omega), hh2 m (by omega)]
      exact ⟨n9, n1⟩
    · obtain ⟨n1, n2, n3, n4, n5, n6, n7, n8, n9, n10⟩ := a4 x (by omega) hx2
      rw [u1_ne hx, hh2 x hx]
      refine ⟨by omega, n2, n3, n4, n5, n6, n7, n8, n9, fun m h1 h2 => ?_⟩
      rw [u1_ne (by omega), hh2 m (by omega)]
      exact n10 m h1 h2
theorem bd_inr {r : Nat ⊕ PS} {F : PS → Nat ⊕ PS} {S' : PS} (h : bdP r F = .inr S') : ∃ S1, r = .inr S1 ∧ F S1 = .inr S' := by
  cases r with
  | inl x => cases h
  | inr S1 => exact ⟨S1, rfl, h⟩
theorem ad_eq {k r : Int} {S S1 : PS} (h : adP k r S = .inr S1) : S.2.1 < 50 ∧ S1 = (S.1, (S.2.1 + 1, (u1 S.2.2.1 S.2.1 k, (S.2.2.2.1, (u1 S.2.2.2.2.1 S.2.1 r, u1 S.2.2.2.2.2 S.2.1 ((S.2.1 + 1 : Nat) : Int)))))) := by
  unfold adP at h
  exact if_inr h
theorem isN_ok {b c : Int} (h : isN b c = true) : (97 ≤ c ∧ c ≤ 102) ∨ (120 ≤ c ∧ c ≤ 122) := by
  unfold isN at h
  rcases Bool.or_eq_true _ _ ▸ h with h | h
  · exact Or.inr (of_decide_eq_true (Bool.and_eq_true _ _ ▸ h).1)
  · exact Or.inl (of_decide_eq_true h)
theorem lp_pv {K : Nat → Int} {f : Nat} {F : PS → Nat ⊕ PS} (hF : ∀ S S', S.2.1 ≤ 50 → F S = .inr S' → PV f S S') : ∀ (k : Nat) (S S' : PS), S.2.1 ≤ 50 → lpP K F k S = .inr S' → PV f S S' := by
  intro k
  induction k with
  | zero => intro S S' h h1; cases h1; exact PV.refl h rfl
  | succ k ih =>
    intro S S' h h1
    rw [lpP] at h1
    split at h1
    · obtain ⟨S1, h2, h3⟩ := bd_inr h1
      have p := hF (nxP S) S1 h h2
      exact (p.same (T := S) rfl rfl).trans (ih S1 S' p.2.1 h3)
    · cases h1; exact PV.refl h rfl
theorem pr_pv {K : Nat → Int} {f : Nat} {F : PS → Nat ⊕ PS} (hF : ∀ S S', S.2.1 ≤ 50 → F S = .inr S' → PV f S S') {S S' : PS} (h : S.2.1 ≤ 50) (h1 : prP K F S = .inr S') : PV f S S' := by
  obtain ⟨S1, h2, h3⟩ := bd_inr h1
  have p := hF S S1 h h2
  exact p.trans (lp_pv hF _ S1 S' p.2.1 h3)
theorem gr_pv {K : Nat → Int} {f : Nat} {b r : Int} {F : Int → PS → Nat ⊕ PS} (hF : ∀ b S S', S.2.1 ≤ 50 → F b S = .inr S' → PV f S S') (hr : r = 0 ∨ r = 1) {S S' : PS} (h : S.2.1 ≤ 50) (h1 : grP K b r F S = .inr S') : PV (f + 1) S S' := by
  unfold grP at h1
  split at h1
  · cases h1
  · rename_i hk0
    have hixr : ixC (K S.1) ≤ 3 := by
      unfold ixC
      (repeat split) <;> omega
    obtain ⟨S1, e1, h1⟩ := bd_inr h1
    obtain ⟨hl, rfl⟩ := ad_eq e1
    obtain ⟨S2, e2, h1⟩ := bd_inr h1
    obtain ⟨S3, e3, h1⟩ := bd_inr h1
    obtain ⟨S4, e4, h1⟩ := bd_inr h1
    cases h1
    obtain ⟨-, rfl⟩ := if_inr e3
    have key : ∀ c, S2 = stP S.2.1 c (nxP (nxP (S.1, (S.2.1 + 1, (u1 S.2.2.1 S.2.1 (ixC (K S.1)), (S.2.2.2.1, (u1 S.2.2.2.2.1 S.2.1 r, u1 S.2.2.2.2.2 S.2.1 ((S.2.1 + 1 : Nat) : Int)))))))) → ((97 ≤ c ∧ c ≤ 102) ∨ (120 ≤ c ∧ c ≤ 122)) → (ixC (K S.1) = 3 → 120 ≤ c ∧ c ≤ 122) → PV (f + 1) S (enP S.2.1 S4) := by
      intro c hc h5 h6
      subst hc
      exact PV.wrap (c := c) (c' := True) hl rfl (hF _ _ _ (by show S.2.1 + 1 ≤ 50; omega) e4) ⟨by omega, by omega⟩ (fun hh => by omega) h5 h6 hr
    split at e2
    · obtain ⟨k1, k2⟩ := if_inr e2
      have := of_decide_eq_true k1
      exact key _ k2 (Or.inr this) (fun _ => this)
    · rename_i hk3
      obtain ⟨k1, k2⟩ := if_inr e2
      exact key _ k2 (isN_ok k1) (fun hh => absurd hh hk3)
theorem pt_pv {K : Nat → Int} : ∀ (f : Nat) (b : Int) (S S' : PS), S.2.1 ≤ 50 → ptP K f b S = .inr S' → PV f S S' := by
  intro f
  induction f with
  | zero => intro b S S' _ h; cases h
  | succ f ih =>
    intro b S S' h50 h
    rw [ptP] at h
    split at h
    · cases h; exact PV.refl h50 rfl
    · split at h
      · obtain ⟨S1, e1, h⟩ := bd_inr h
        obtain ⟨-, rfl⟩ := if_inr h
        exact ((pr_pv (ih b) (S := nxP S) h50 e1).same (T := S) rfl rfl).up
      · split at h
        · obtain ⟨S1, e1, h⟩ := bd_inr h
          obtain ⟨hl, rfl⟩ := ad_eq e1
          obtain ⟨k1, rfl⟩ := if_inr h
          have := PV.wrap (f := f) (S := S) (S4 := stP S.2.1 (K (nxP (S.1, (S.2.1 + 1, (u1 S.2.2.1 S.2.1 5, (S.2.2.2.1, (u1 S.2.2.2.2.1 S.2.1 0, u1 S.2.2.2.2.2 S.2.1 ((S.2.1 + 1 : Nat) : Int))))))).1) (nxP (nxP (S.1, (S.2.1 + 1, (u1 S.2.2.1 S.2.1 5, (S.2.2.2.1, (u1 S.2.2.2.2.1 S.2.1 0, u1 S.2.2.2.2.2 S.2.1 ((S.2.1 + 1 : Nat) : Int))))))))) (c' := True) hl rfl (PV.refl (by show S.2.1 + 1 ≤ 50; omega) rfl) (by decide) (fun hh => by omega) (isN_ok k1) (fun hh => by omega) (Or.inl rfl)
          refine this.same rfl ?_
          unfold enP stP nxP
          simp only [Prod.mk.injEq, true_and]
          funext x
          by_cases hx : x = S.2.1
          · subst hx; rw [u1_eq, u1_eq]
          · rw [u1_ne hx, u1_ne hx, u1_ne hx]
        · split at h
          · obtain ⟨S1, e1, h⟩ := bd_inr h
            obtain ⟨hl, rfl⟩ := ad_eq e1
            obtain ⟨S2, e2, h⟩ := bd_inr h
            obtain ⟨k1, rfl⟩ := if_inr e2
            obtain ⟨S3, e3, h⟩ := bd_inr h
            obtain ⟨-, rfl⟩ := if_inr e3
            obtain ⟨S4, e4, h⟩ := bd_inr h
            obtain ⟨S5, e5, h⟩ := bd_inr h
            obtain ⟨-, rfl⟩ := if_inr e5
            cases h
            have hf1 : 1 ≤ f := by
              cases f with
              | zero =>
                obtain ⟨S6, e6, -⟩ := bd_inr e4
                cases e6
              | succ f => omega
            exact (PV.wrap (c' := True) hl rfl (pr_pv (ih b) (by show S.2.1 + 1 ≤ 50; omega) e4) (by decide) (fun _ => hf1) (isN_ok k1) (fun hh => by omega) (Or.inl rfl)).same rfl rfl
          · unfold guP at h
            split at h
            · exact (gr_pv ih (Or.inr rfl) (S := nxP S) h50 h).same (T := S) rfl rfl
            · exact gr_pv ih (Or.inl rfl) h50 h
theorem pa_ok {T : List Int} {S S' : PS} (h0 : S.2.1 = 0) (h : paF T S = .inr S') : (∃ ht, TmOk S'.2.2.1 S'.2.2.2.1 S'.2.2.2.2.2 S'.2.1 ht) ∧ ∀ k, k < S'.2.1 → S'.2.2.2.2.1 k = 0 ∨ S'.2.2.2.2.1 k = 1 := by
  obtain ⟨S1, e1, h⟩ := bd_inr h
  split at h
  · cases h
  · cases h
    obtain ⟨-, a2, -, ha, a4⟩ := pr_pv (pt_pv 8 0) (by omega) e1
    have haf : ∀ k, k < S'.2.1 → ((afF S'.2.2.2.2.2 k : Nat) : Int) = S'.2.2.2.2.2 k := by
      intro k hk
      obtain ⟨n1, n2, n3, n4, n5, n6, n7, n8, n9, n10⟩ := a4 k (by omega) hk
      unfold afF
      split <;> omega
    refine ⟨⟨ha, ⟨a2, ?_⟩, ?_, ?_⟩, ?_⟩
    · intro k _ hk
      obtain ⟨n1, n2, n3, n4, n5, n6, n7, n8, n9, n10⟩ := a4 k (by omega) hk
      have h1 := haf k hk
      refine ⟨by omega, by omega, fun m hm1 hm2 => ?_⟩
      have h2 := haf m (by omega)
      have := (n10 m hm1 (by omega)).1
      omega
    · intro k m hk hm1 hm2
      obtain ⟨n1, n2, n3, n4, n5, n6, n7, n8, n9, n10⟩ := a4 k (by omega) hk
      have h1 := haf k hk
      exact (n10 m hm1 (by omega)).2
    · intro k hk
      obtain ⟨n1, n2, n3, n4, n5, n6, n7, n8, n9, n10⟩ := a4 k (by omega) hk
      exact ⟨by omega, n2, n3, n4, n5, n6⟩
    · intro k hk
      obtain ⟨n1, n2, n3, n4, n5, n6, n7, n8, n9, n10⟩ := a4 k (by omega) hk
      exact n7
