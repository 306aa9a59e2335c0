/-! The model's order of pieces is no matter: sorted, they are the class's. Pure, by hand. -/
theorem insT_perm {x : List Int} : ∀ l : List (List Int), (insT x l).Perm (x :: l) := by
  intro l
  induction l with
  | nil => exact List.Perm.refl _
  | cons y l ih =>
    rw [insT]
    split
    · exact List.Perm.refl _
    · exact (ih.cons y).trans (List.Perm.swap x y l)
theorem srtT_perm (l : List (List Int)) : (srtT l).Perm l := by
  have key : ∀ (l a : List (List Int)), (l.foldl (fun a x => insT x a) a).Perm (l ++ a) := by
    intro l
    induction l with
    | nil => intro a; exact List.Perm.refl _
    | cons x l ih =>
      intro a
      rw [List.foldl_cons]
      refine (ih (insT x a)).trans ?_
      refine ((insT_perm a).append_left l).trans ?_
      exact List.perm_middle
  have := key l []
  rwa [List.append_nil] at this
theorem OrT_eq : ∀ (l1 l2 : List (List Int)), OrT l1 → OrT l2 → l1.Perm l2 → l1 = l2 := by
  intro l1
  induction l1 with
  | nil => intro l2 _ _ h; exact (List.nil_perm.mp h).symm
  | cons x l1 ih =>
    intro l2 h1 h2 hp
    cases l2 with
    | nil => exact absurd (List.perm_nil.mp hp) (by simp)
    | cons y l2 =>
      have hx : x ∈ y :: l2 := hp.subset List.mem_cons_self
      have hy : y ∈ x :: l1 := hp.symm.subset List.mem_cons_self
      have hxy : x = y := by
        rcases List.mem_cons.mp hx with h | h
        · exact h
        · rcases List.mem_cons.mp hy with h' | h'
          · exact h'.symm
          · exact lexL_tri x y (h2.1 x h) (h1.1 y h')
      subst hxy
      rw [ih l2 h1.2 h2.2 ((List.perm_cons x).mp hp)]
theorem srtT_eq {l l' : List (List Int)} (h : l.Perm l') : srtT l = srtT l' := OrT_eq _ _ (srtT_or l) (srtT_or l') (((srtT_perm l).trans h).trans (srtT_perm l').symm)
def mcv (b : Int) : Int := b % 16 + 8 * (b / 16 % 16) + 64 * (b / 256)
theorem MnR.cv {a b : Int} (h : MnR a b) : a = mcv b := by
  obtain ⟨x, y, z, hx, hy, hz, rfl, rfl⟩ := h
  unfold mcv
  omega
/-- what slot j gives to the text of place p -/
def mIt (g : Nat → Nat → Int) (m : Nat) (kd nm rp : Nat → Int) (af : Nat → Nat) (F : Int → List Int) (p j : Nat) : List (List Int) :=
  if j < 21 then (if 1 ≤ j ∧ 0 ≤ g (m + 12) j ∧ g (m + 14) j = (p : Int) then [[(97 + g (m + 13) j) % 65536, 91] ++ F (g (m + 12) j) ++ [93]] else [])
  else if j < 61 then (if 0 ≤ g (m + 15) (j - 21) ∧ g (m + 17) (j - 21) = (p : Int) then [txN kd nm rp af 50 (g (m + 16) (j - 21)).toNat (mcv (g (m + 18) (j - 21)))] else [])
  else (if 0 ≤ g (m + 19) (j - 61) ∧ g (m + 21) (j - 61) = (p : Int) then [[39, (97 + g (m + 20) (j - 61)) % 65536]] else [])
def mRs (g : Nat → Nat → Int) (m : Nat) (kd nm rp : Nat → Int) (af : Nat → Nat) (F : Int → List Int) (p j : Nat) : List (List Int) := (List.range' j (91 - j)).flatMap (mIt g m kd nm rp af F p)
theorem mRs_s {g : Nat → Nat → Int} {m : Nat} {kd nm rp : Nat → Int} {af : Nat → Nat} {F : Int → List Int} {p j : Nat} (h : j < 91) : mRs g m kd nm rp af F p j = mIt g m kd nm rp af F p j ++ mRs g m kd nm rp af F p (j + 1) := by
  unfold mRs
  rw [show 91 - j = (91 - (j + 1)) + 1 by omega, List.range'_succ, List.flatMap_cons]
theorem mRs_e {g : Nat → Nat → Int} {m : Nat} {kd nm rp : Nat → Int} {af : Nat → Nat} {F : Int → List Int} {p : Nat} : mRs g m kd nm rp af F p 91 = [] := rfl
theorem flat_if {c : Nat → Prop} [DecidablePred c] {t : Nat → List Int} : ∀ S : List Nat, S.flatMap (fun s => if c s then [t s] else []) = (S.filter (fun s => decide (c s))).map t := by
  intro S
  induction S with
  | nil => rfl
  | cons s S ih =>
    rw [List.flatMap_cons, ih]
    by_cases h : c s
    · rw [if_pos h, List.filter_cons_of_pos (by exact decide_eq_true h), List.map_cons]; rfl
    · rw [if_neg h, List.filter_cons_of_neg (by simpa using h)]; rfl
theorem bij_perm {L : List Tg} {S : List Nat} {nx : Int} {nu : Nat → Int} {cE : Tg → Bool} {cS : Nat → Bool} {tE : Tg → List Int} {tS : Nat → List Int} (hi : Inc L nx) (hn : S.Nodup) (h1 : ∀ s, s ∈ S → cS s = true → ∃ e, e ∈ L ∧ cE e = true ∧ e.1 = nu s ∧ tE e = tS s) (h2 : ∀ e, e ∈ L → cE e = true → ∃ s, s ∈ S ∧ cS s = true ∧ nu s = e.1) (inj : ∀ s s', s ∈ S → s' ∈ S → cS s = true → cS s' = true → nu s = nu s' → s = s') : ((L.filter cE).map tE).Perm ((S.filter cS).map tS) := by
  have e1 : (L.filter cE).map tE = ((L.filter cE).map (fun e => e.1)).map (fun x => match getN L x with | some e => tE e | none => []) := by
    rw [List.map_map]
    refine List.map_congr_left fun e he => ?_
    have := hi.get (List.mem_filter.mp he).1
    simp only [Function.comp, this]
  have e2 : (S.filter cS).map tS = ((S.filter cS).map nu).map (fun x => match getN L x with | some e => tE e | none => []) := by
    rw [List.map_map]
    refine List.map_congr_left fun s hs => ?_
    obtain ⟨hs1, hs2⟩ := List.mem_filter.mp hs
    obtain ⟨e, he, -, h3, h4⟩ := h1 s hs1 hs2
    have := hi.get he
    rw [h3] at this
    simp only [Function.comp, this, h4]
  rw [e1, e2]
  refine List.Perm.map _ ?_
  refine (List.perm_ext_iff_of_nodup ?_ ?_).mpr fun x => ?_
  · exact hi.nd.sublist ((List.filter_sublist).map _)
  · rw [List.Nodup, List.pairwise_map]
    refine List.Pairwise.imp_of_mem ?_ (hn.sublist List.filter_sublist)
    intro a b ha hb hab hh
    obtain ⟨a1, a2⟩ := List.mem_filter.mp ha
    obtain ⟨b1, b2⟩ := List.mem_filter.mp hb
    exact hab (inj a b a1 b1 a2 b2 hh)
  · constructor
    · intro hx
      obtain ⟨e, he, rfl⟩ := List.mem_map.mp hx
      obtain ⟨he1, he2⟩ := List.mem_filter.mp he
      obtain ⟨s, s1, s2, s3⟩ := h2 e he1 he2
      exact List.mem_map.mpr ⟨s, List.mem_filter.mpr ⟨s1, s2⟩, s3⟩
    · intro hx
      obtain ⟨s, hs, rfl⟩ := List.mem_map.mp hx
      obtain ⟨s1, s2⟩ := List.mem_filter.mp hs
      obtain ⟨e, he, h3, h4, -⟩ := h1 s s1 s2
      exact List.mem_map.mpr ⟨e, List.mem_filter.mpr ⟨he, h3⟩, h4⟩
theorem pl_perm {g : Nat → Nat → Int} {m sz q : Nat} {kd nm rp : Nat → Int} {af : Nat → Nat} {F : Int → List Int} {A : SS} {w : Int} (hA : Rel g m A) (hV : Vd kd nm sz A) (hq : InS g m (q : Int) w) : (pcP F w A.1 ++ (pcG kd nm rp af w A.2.1 ++ pcM w A.2.2.1)).Perm (mRs g m kd nm rp af F q 0) := by
  obtain ⟨v1, v2, v3, v4, v5, v6, v7, v8, v9, v10, v11, v12, v13, v14, v15, v16⟩ := id hV
  obtain ⟨rp1, rg1, rm1, -⟩ := hA
  have hsplit : mRs g m kd nm rp af F q 0 = (List.range' 0 21).flatMap (fun j => if 1 ≤ j ∧ 0 ≤ g (m + 12) j ∧ g (m + 14) j = (q : Int) then [[(97 + g (m + 13) j) % 65536, 91] ++ F (g (m + 12) j) ++ [93]] else []) ++ ((List.range' 21 40).flatMap (fun j => if 0 ≤ g (m + 15) (j - 21) ∧ g (m + 17) (j - 21) = (q : Int) then [txN kd nm rp af 50 (g (m + 16) (j - 21)).toNat (mcv (g (m + 18) (j - 21)))] else []) ++ (List.range' 61 30).flatMap (fun j => if 0 ≤ g (m + 19) (j - 61) ∧ g (m + 21) (j - 61) = (q : Int) then [[39, (97 + g (m + 20) (j - 61)) % 65536]] else [])) := by
    unfold mRs
    rw [show 91 - 0 = 21 + (40 + 30) from rfl, ← List.range'_append_1, List.flatMap_append, Nat.zero_add, ← List.range'_append_1, List.flatMap_append]
    congr 1
  rw [hsplit, flat_if, flat_if, flat_if]
  have same : ∀ {x v : Int}, InS g m x v → (x = (q : Int) ↔ v = w) := fun h => InS.iff rp1 h hq
  refine List.Perm.append ?_ (List.Perm.append ?_ ?_)
  · refine bij_perm (nu := fun s => g (m + 12) s) v6 (List.nodup_range') ?_ ?_ ?_
    · intro s hs hc
      obtain ⟨c1, c2, c3⟩ := of_decide_eq_true hc
      have hs := List.mem_range'_1.mp hs
      obtain ⟨e, he, e1, e2, e3⟩ := rp1.1 s c1 (by omega) c2
      exact ⟨e, he, decide_eq_true ((same e3).mp c3), e1, by simp only [e1, e2]⟩
    · intro e he hc
      obtain ⟨s, s1, s2, s3, s4, s5⟩ := rp1.at he v6
      refine ⟨s, List.mem_range'_1.mpr ⟨by omega, by omega⟩, decide_eq_true ⟨s1, by rw [s3]; exact (v6.2 e he).1, (same s5).mpr (of_decide_eq_true hc)⟩, s3⟩
    · intro s s' hs hs' hc hc' hh
      obtain ⟨c1, c2, -⟩ := of_decide_eq_true hc
      obtain ⟨d1, -, -⟩ := of_decide_eq_true hc'
      have hs := List.mem_range'_1.mp hs
      have hs' := List.mem_range'_1.mp hs'
      exact rp1.2.2 s s' c1 (by omega) d1 (by omega) c2 hh
  · refine bij_perm (nu := fun s => g (m + 15) (s - 21)) v7 (List.nodup_range') ?_ ?_ ?_
    · intro s hs hc
      obtain ⟨c2, c3⟩ := of_decide_eq_true hc
      have hs := List.mem_range'_1.mp hs
      obtain ⟨e, he, e1, e2, e3, e4⟩ := rg1.1 (s - 21) (by omega) c2
      exact ⟨e, he, decide_eq_true ((same e3).mp c3), e1, by simp only [e2, e4.cv]⟩
    · intro e he hc
      obtain ⟨s, s1, s2⟩ := rg1.2.1 e he
      have h0 : 0 ≤ g (m + 15) s := by rw [s2]; exact (v7.2 e he).1
      obtain ⟨e', he', e1, e2, e3, e4⟩ := rg1.1 s s1 h0
      have : e' = e := v7.one he' he (e1.trans s2)
      subst this
      refine ⟨s + 21, List.mem_range'_1.mpr ⟨by omega, by omega⟩, decide_eq_true ?_, ?_⟩
      · rw [Nat.add_sub_cancel]; exact ⟨h0, (same e3).mpr (of_decide_eq_true hc)⟩
      · simp only [Nat.add_sub_cancel]; exact s2
    · intro s s' hs hs' hc hc' hh
      obtain ⟨c2, -⟩ := of_decide_eq_true hc
      have hs := List.mem_range'_1.mp hs
      have hs' := List.mem_range'_1.mp hs'
      have := rg1.2.2 (s - 21) (s' - 21) (by omega) (by omega) c2 hh
      omega
  · refine bij_perm (nu := fun s => g (m + 19) (s - 61)) v8 (List.nodup_range') ?_ ?_ ?_
    · intro s hs hc
      obtain ⟨c2, c3⟩ := of_decide_eq_true hc
      have hs := List.mem_range'_1.mp hs
      obtain ⟨e, he, e1, e2, e3⟩ := rm1.1 (s - 61) (by omega) c2
      exact ⟨e, he, decide_eq_true ((same e3).mp c3), e1, by simp only [e2]⟩
    · intro e he hc
      obtain ⟨s, s1, s2⟩ := rm1.2.1 e he
      have h0 : 0 ≤ g (m + 19) s := by rw [s2]; exact (v8.2 e he).1
      obtain ⟨e', he', e1, e2, e3⟩ := rm1.1 s s1 h0
      have : e' = e := v8.one he' he (e1.trans s2)
      subst this
      refine ⟨s + 61, List.mem_range'_1.mpr ⟨by omega, by omega⟩, decide_eq_true ?_, ?_⟩
      · rw [Nat.add_sub_cancel]; exact ⟨h0, (same e3).mpr (of_decide_eq_true hc)⟩
      · simp only [Nat.add_sub_cancel]; exact s2
    · intro s s' hs hs' hc hc' hh
      obtain ⟨c2, -⟩ := of_decide_eq_true hc
      have hs := List.mem_range'_1.mp hs
      have hs' := List.mem_range'_1.mp hs'
      have := rm1.2.2 (s - 61) (s' - 61) (by omega) (by omega) c2 hh
      omega
theorem plT_m {g : Nat → Nat → Int} {m sz q f : Nat} {kd nm rp : Nat → Int} {af : Nat → Nat} {A : SS} {w : Int} (hA : Rel g m A) (hV : Vd kd nm sz A) (hq : InS g m (q : Int) w) : plT kd nm rp af A.1 A.2.1 A.2.2.1 (f + 1) w = jnL false (srtT (mRs g m kd nm rp af (plT kd nm rp af A.1 A.2.1 A.2.2.1 f) q 0)) := by
  rw [plT, srtT_eq (pl_perm hA hV hq)]
