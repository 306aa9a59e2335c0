/-! The contracts of following and telling, for valid states. By hand. -/
def teS (kd nm rp en : Nat → Int) (A : SS) : List Int := teT kd nm rp en A.1 A.2.1 A.2.2.1
def rxS (kd : Nat → Int) (A : SS) : List Rd := rxs kd A.1 A.2.1 A.2.2.1
theorem SR.off {g g' : Nat → Nat → Int} {s : Nat} {A : SS} (h : SR g s A) (k : ∀ a, s ≤ a → a < s + 19 → g' a = g a) : SR g' s A := by
  have q : ∀ t L, s ≤ t → t + 6 ≤ s + 19 → Th g t L → Th g' t L := fun t L h1 h2 h3 => by
    refine ⟨by rw [k t (by omega) (by omega)]; exact h3.1, fun i e he => ?_⟩
    rw [k (t + 1) (by omega) (by omega), k (t + 2) (by omega) (by omega), k (t + 3) (by omega) (by omega), k (t + 4) (by omega) (by omega), k (t + 5) (by omega) (by omega)]
    exact h3.2 i e he
  exact ⟨q _ _ (by omega) (by omega) h.1, q _ _ (by omega) (by omega) h.2.1, q _ _ (by omega) (by omega) h.2.2.1, by rw [k s (by omega) (by omega)]; exact h.2.2.2.1, by rw [k s (by omega) (by omega)]; exact h.2.2.2.2.1, h.2.2.2.2.2⟩
theorem Ln.off {g g' : Nat → Nat → Int} {l : Nat} {T : List Int} (h : Ln g l T) (k : ∀ a, l ≤ a → a < l + 2 → g' a = g a) : Ln g' l T := ⟨by rw [k l (by omega) (by omega)]; exact h.1, by rw [k (l + 1) (by omega) (by omega)]; exact h.2⟩
theorem Rf.off {g g' : Nat → Nat → Int} {r : Nat} {R : List Rd} (h : Rf g r R) (k : ∀ a, r ≤ a → a < r + 4 → g' a = g a) : Rf g' r R := by
  refine ⟨by rw [k r (by omega) (by omega)]; exact h.1, fun i e he => ?_⟩
  rw [k (r + 1) (by omega) (by omega), k (r + 2) (by omega) (by omega), k (r + 3) (by omega) (by omega)]
  exact h.2 i e he
theorem c58v {P : Pg} {u : Mm} {l tm s sz : Nat} {kd nm rp en : Nat → Int} {ht : Nat → Nat} {A : SS} {g : Nat → Nat → Int} (hA : TlA u l) (hTm : TmA u tm) (hSt : StA u s) (hdj : tm + 6 ≤ l ∨ l + 5 ≤ tm) (hds : s + 21 ≤ l ∨ l + 5 ≤ s) (hsv : mS u (pSv P) = none) (hch : ∀ n, 0 ≤ nm n ∧ nm n < 65536) (hT : TmOk kd nm en sz ht) (hV : Vd kd nm sz A) (hS : SR g s A) (hkd : g (tm + 1) = kd) (hnm : g (tm + 2) = nm) (hrp : g (tm + 3) = rp) (hen : g (tm + 4) = en) :
    Ec P 48 58 [vR l, vR s, vR tm] (sI u g) (fun x u' => ∃ g', u' = sI u g' ∧ (((teS kd nm rp en A).length ≤ 240 ∧ x = .inl (some (vI 1)) ∧ Ln g' (s + 19) (teS kd nm rp en A) ∧ ∀ a, (a < l ∨ l + 5 ≤ a) → (a < s + 19 ∨ s + 21 ≤ a) → g' a = g a) ∨ (240 < (teS kd nm rp en A).length ∧ x = .inl (some (vI 0)) ∧ Off l (l + 5) g g'))) := by
  obtain ⟨v1, v2, v3, v4, v5, v6, v7, v8, v9, v10, v11, v12, v13, v14, v15, v16⟩ := hV
  obtain ⟨rk, hr, hlow⟩ := v13.low
  refine c58 hA hTm hSt hdj hds hsv hch (fun n hn => ⟨(hT.2.2 n hn).2.2.1, (hT.2.2 n hn).2.2.2.1⟩) hT.1 hT.2.1 (fun n hn => by have := (hT.2.2 n hn).1; omega) (fun e he => ?_) ⟨v3, v4, v5⟩ (fun e he => by have := v14 e he; omega) (fun e he => by have := v15 e he; omega) hr (by have := hlow (-1); omega) hS.1 hS.2.1 hS.2.2.1 hkd hnm hrp hen
  obtain ⟨n, h1, h2, -⟩ := v16 e he
  exact ⟨n, h1, h2⟩
theorem fol_nx {kd nm rp en : Nat → Int} {sz : Nat} {ht : Nat → Nat} {A : SS} {w : Rd} {e : Tg} (hT : TmOk kd nm en sz ht) (hV : Vd kd nm sz A) (hw : RxV kd A w e) : A.2.2.2.1 ≤ (folF kd nm rp en w A).2.2.2.1 ∧ (folF kd nm rp en w A).2.2.2.1 ≤ A.2.2.2.1 + 50 := by
  have v7 := hV.2.2.2.2.2.2.1
  obtain ⟨n, hn1, hn2, -⟩ := hV.2.2.2.2.2.2.2.2.2.2.2.2.2.2.2 e hw.1
  rw [(fol_get v7 hw).2]
  unfold reaF
  rw [hn1, Int.toNat_natCast]
  have hc := hT.1.2 n (Nat.zero_le _) hn2
  have h50 := hT.1.1
  have hcl : Cl (afF en) (n + 1) (afF en n) := Cl.inn hT.1.2 (Nat.zero_le _) hn2
  have := runF_nx (kd := kd) (nm := nm) 50 (n + 1) (afF en n) e.2.1 (reaM kd nm e w.2.2 (rea1 rp (ixF A.2.1 w.2.1 0).toNat e A)) 1 (rea2 kd e w.2.2 (rea1 rp (ixF A.2.1 w.2.1 0).toNat e A)) hcl (by omega)
  rw [rea2_nx, rea1_nx] at this
  omega
theorem rx_w {kd nm : Nat → Int} {sz : Nat} {A : SS} {k : Nat} {w : Rd} (hV : Vd kd nm sz A) (hw : (rxS kd A)[k]? = some w) : ∃ e, RxV kd A w e := (rx_mem hV.2.2.2.2.2.1).mp (List.mem_of_getElem? hw)
theorem rxS_len {kd nm : Nat → Int} {sz : Nat} {A : SS} (hV : Vd kd nm sz A) : (rxS kd A).length ≤ 1200 := by
  obtain ⟨v1, v2, v3, v4, v5, -⟩ := hV
  have key : ∀ l : List Tg, (l.flatMap (rxG kd A.1 A.2.2.1)).length ≤ 30 * l.length := by
    intro l
    induction l with
    | nil => exact Nat.le_refl _
    | cons e l ih =>
      rw [List.flatMap_cons, List.length_append, List.length_cons]
      have := rxG_len (kd := kd) (e := e) v3 v5
      omega
  have := key A.2.1
  unfold rxS rxs
  omega
theorem c49v {P : Pg} {d : Nat} {u : Mm} {s s2 r tm sz k : Nat} {ht : Nat → Nat} {kd nm rp en : Nat → Int} {A : SS} {w : Rd} {T : List Int} {g : Nat → Nat → Int} (hA : StA u s) (hB : StA u s2) (hR : RxA u r) (hTm : TmA u tm) (hdj : tm + 6 ≤ s ∨ s + 21 ≤ tm) (hd : s + 21 ≤ s2 ∨ s2 + 21 ≤ s) (hd3 : r + 5 ≤ s ∨ s + 21 ≤ r) (hch : ∀ n, 0 ≤ nm n ∧ nm n < 65536) (hT : TmOk kd nm en sz ht) (hV : Vd kd nm sz A) (hS : SR g s2 A) (hTx : Ln g (s2 + 19) T) (hl4 : T.length ≤ 240) (hF : Rf g r (rxS kd A)) (hw : (rxS kd A)[k]? = some w) (hb2 : A.2.2.2.1 ≤ 2147482000) (hkd : g (tm + 1) = kd) (hnm : g (tm + 2) = nm) (hrp : g (tm + 3) = rp) (hen : g (tm + 4) = en) :
    Ec P (d + 12) 49 [vR s, vR s2, vR r, vI (k : Int), vR tm] (sI u g) (fun y u' => ∃ g', u' = sI u g' ∧ y = .inl (some (vI (b01 (!(folF kd nm rp en w A).2.2.2.2)))) ∧ Off s (s + 21) g g' ∧ SR g' s (folF kd nm rp en w A)) := by
  obtain ⟨e, he⟩ := rx_w hV hw
  have hl := rxS_len hV
  obtain ⟨v1, v2, v3, v4, v5, v6, v7, v8, v9, v10, v11, v12, v13, v14, v15, v16⟩ := id hV
  obtain ⟨n, h1, h2, -⟩ := v16 e he.1
  refine c49 hA hB hR hTm hdj hd hd3 hch hT.1 hS v1 hTx hl4 hF hl hw (fol_get (nm := nm) (rp := rp) (en := en) v7 he).1 (by omega) (by omega) v2 hb2 ?_ hkd hnm hrp hen
  unfold naN
  split
  · exact ⟨by decide, by decide⟩
  · rename_i o ho
    have := v15 o (getN_mem ho).1
    omega
/-- the redexes come in order -/
theorem flat_srt {f : Tg → List Rd} : ∀ (gs : List Tg), (gs.map (fun e => e.1)).Pairwise (fun a b => a < b) → (∀ e, e ∈ gs → (f e).Pairwise (fun a b => lt2 a.2 b.2) ∧ ∀ w, w ∈ f e → w.2.1 = e.1) → (gs.flatMap f).Pairwise (fun a b => lt2 a.2 b.2) := by
  intro gs
  induction gs with
  | nil => intro _ _; exact List.Pairwise.nil
  | cons e l ih =>
    intro hp hf
    rw [List.map_cons, List.pairwise_cons] at hp
    rw [List.flatMap_cons, List.pairwise_append]
    refine ⟨(hf e List.mem_cons_self).1, ih hp.2 (fun x hx => hf x (List.mem_cons_of_mem _ hx)), fun a ha b hb => ?_⟩
    obtain ⟨x, hx, hb⟩ := List.mem_flatMap.mp hb
    have h1 := (hf e List.mem_cons_self).2 a ha
    have h2 := (hf x (List.mem_cons_of_mem _ hx)).2 b hb
    have h3 := hp.1 x.1 (List.mem_map.mpr ⟨x, hx, rfl⟩)
    exact Or.inl (by omega)
theorem map_srt {k : Int} {e : Tg} {p : Tg → Bool} {L : List Tg} (h : (L.map (fun e => e.1)).Pairwise (fun a b => a < b)) : ((L.filter p).map (fun q => (k, (e.1, q.1)))).Pairwise (fun a b : Rd => lt2 a.2 b.2) := by
  rw [List.pairwise_map]
  rw [List.pairwise_map] at h
  exact (h.sublist (List.filter_sublist)).imp (fun hab => Or.inr ⟨rfl, hab⟩)
theorem rxS_srt {kd nm : Nat → Int} {sz : Nat} {A : SS} (hV : Vd kd nm sz A) : Srt (rxS kd A) := by
  obtain ⟨v1, v2, v3, v4, v5, v6, v7, v8, -⟩ := hV
  have h : (rxS kd A).Pairwise (fun a b => lt2 a.2 b.2) := by
    refine flat_srt A.2.1 v7.1 (fun e he => ?_)
    unfold rxG
    split
    · unfold bes
      split
      · exact ⟨List.Pairwise.nil, fun _ h => absurd h (List.not_mem_nil)⟩
      · exact ⟨map_srt v6.1, fun w hw => by obtain ⟨q, -, rfl⟩ := List.mem_map.mp hw; rfl⟩
    · split
      · unfold arn
        split
        · exact ⟨List.Pairwise.nil, fun _ h => absurd h (List.not_mem_nil)⟩
        · split
          · exact ⟨List.Pairwise.nil, fun _ h => absurd h (List.not_mem_nil)⟩
          · split
            · exact ⟨List.pairwise_singleton _ _, fun w hw => by rw [List.mem_singleton.mp hw]⟩
            · exact ⟨List.Pairwise.nil, fun _ h => absurd h (List.not_mem_nil)⟩
      · split
        · exact ⟨map_srt v6.1, fun w hw => by obtain ⟨q, -, rfl⟩ := List.mem_map.mp hw; rfl⟩
        · exact ⟨map_srt v8.1, fun w hw => by obtain ⟨q, -, rfl⟩ := List.mem_map.mp hw; rfl⟩
  intro i j a b hi hj hij
  obtain ⟨h1, rfl⟩ := List.getElem?_eq_some_iff.mp hi
  obtain ⟨h2, rfl⟩ := List.getElem?_eq_some_iff.mp hj
  exact List.pairwise_iff_getElem.mp h i j h1 h2 hij
theorem Vd.nd {kd nm : Nat → Int} {sz : Nat} {A : SS} (hV : Vd kd nm sz A) (h50 : sz ≤ 50) : Nd A.2.1 := fun e he => by
  obtain ⟨n, h1, h2, -⟩ := hV.2.2.2.2.2.2.2.2.2.2.2.2.2.2.2 e he
  omega
theorem c34v {P : Pg} {d : Nat} {u : Mm} {g : Nat → Nat → Int} {r s tm sz : Nat} {kd nm : Nat → Int} {A : SS} (hR : RxA u r) (hA : StA u s) (hTm : TmA u tm) (hd : r + 5 ≤ s ∨ s + 21 ≤ r) (hd2 : r + 5 ≤ tm ∨ tm + 6 ≤ r) (hS : SR g s A) (hV : Vd kd nm sz A) (h50 : sz ≤ 50) (hkd : g (tm + 1) = kd) : Ec P (d + 2) 34 [vR r, vR s, vR tm] (sI u g) (fun x u' => ∃ g', u' = sI u g' ∧ x = .inl none ∧ Off r (r + 4) g g' ∧ Rf g' r (rxS kd A)) := by
  subst hkd
  have := c34 (P := P) (d := d) hR hA hTm hd hd2 hS.1 hS.2.1 hS.2.2.1 hV.2.2.1 hV.2.2.2.1 hV.2.2.2.2.1 hV.2.2.2.2.2.1.uq (hV.nd h50)
  exact this
