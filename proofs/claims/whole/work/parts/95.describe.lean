/-! The model: a state described. Written by wip/whole/gen/c95.py. -/
theorem c113 {P : Pg} {d : Nat} {u : Mm} {g : Nat → Nat → Int} {m : Nat} {sz : Nat} {kd nm rp en : Nat → Int} {ht : Nat → Nat} {A : SS} (hM : MdA u m) (hT : TmOk kd nm en sz ht) (hTr : TrR g m kd nm rp en sz) (hA : Rel g m A) (hV : Vd kd nm sz A) (h30 : g m 30 = 0) : Ec P (d + 6) 113 [vR m] (sI u g) (fun x u' => ∃ g', u' = sI u g' ∧ x = .inl none ∧ DF2 g g' m ∧ (((teS kd nm rp en A).length ≤ 240 ∧ g' m 30 = 0 ∧ g' m 49 = ((teS kd nm rp en A).length : Int) ∧ Row (g' (m + 27)) (teS kd nm rp en A)) ∨ (240 < (teS kd nm rp en A).length ∧ g' m 30 = 1))) := by
  have s0 := hM.1
  have f43 : mF u m 43 = some (m + 30) := (hM.2 29 (by decide)).1
  have s43 : mS u (m + 30) = some (0, 40) := (hM.2 29 (by decide)).2
  obtain ⟨rk, hrk, hlow⟩ := hV.2.2.2.2.2.2.2.2.2.2.2.2.1.low
  have hl20 := hV.2.2.1
  have hlw := hlow (-1)
  have h0 : InS g m ((0 : Nat) : Int) (-1) := ⟨0, rfl, by omega, rfl, fun h => absurd rfl h⟩
  have hte : teS kd nm rp en A = brk 0 (srtT ([] ++ mRs g m kd nm rp (afF en) (plT kd nm rp (afF en) A.1 A.2.1 A.2.2.1 20) 0 1)) := by
    unfold teS teT
    rw [plT_m hA hV h0, mRs_s (by omega)]
    rfl
  have fx : ∀ g', DF2 g g' m → g' m 30 = 1 → 240 < (teS kd nm rp en A).length → Ef P (d + 6) 113 23 [some (vR m)] [] (sI u g') (fun x u' => ∃ g', u' = sI u g' ∧ x = .inl none ∧ DF2 g g' m ∧ (((teS kd nm rp en A).length ≤ 240 ∧ g' m 30 = 0 ∧ g' m 49 = ((teS kd nm rp en A).length : Int) ∧ Row (g' (m + 27)) (teS kd nm rp en A)) ∨ (240 < (teS kd nm rp en A).length ∧ g' m 30 = 1))) := by
    intro g' hd h1 hl
    have h111 : Ef P (d + 6) 113 111 [some (vR m)] [] (sI u g') (fun x u' => ∃ g', u' = sI u g' ∧ x = .inl none ∧ DF2 g g' m ∧ (((teS kd nm rp en A).length ≤ 240 ∧ g' m 30 = 0 ∧ g' m 49 = ((teS kd nm rp en A).length : Int) ∧ Row (g' (m + 27)) (teS kd nm rp en A)) ∨ (240 < (teS kd nm rp en A).length ∧ g' m 30 = 1))) := by
      refine ef_aload_n (pc := 111) d113_111 rfl ?_
      refine ef_aload_n (pc := 112) d113_112 rfl ?_
      refine eg_getZ (pc := 113) d113_113 lf_8_215 (by assumption) (by decide) ?_
      rw [h1]
      refine ef_if_neT (pc := 116) d113_116 (t := 129) rfl (by decide) ?_
      refine ef_iconst (pc := 129) d113_129 (by decide) ?_
      refine ef_goto (pc := 130) d113_130 (t := 134) rfl ?_
      refine eg_putZ (pc := 134) d113_134 pf_113_215 (by assumption) (by decide) (by omega) ?_
      refine ef_vret (pc := 137) d113_137 rfl ?_
      exact ⟨_, rfl, rfl, hd.trans ⟨fun a h1 h2 h3 h4 => u2_ne h1, fun f h1 h2 h3 h4 h5 h6 => u2_ni h1⟩, Or.inr ⟨hl, u2_at⟩⟩
    refine ef_aload_n (pc := 23) d113_23 rfl ?_
    refine eg_getI (pc := 24) d113_24 lf_8_245 (by assumption) (by decide) ?_
    refine ef_if_le (pc := 27) d113_27 (t := 111) rfl (fun h27 => ?_) (fun h27 => ?_)
    · exact h111
    · refine ef_aload_n (pc := 30) d113_30 rfl ?_
      refine eg_getZ (pc := 31) d113_31 lf_8_215 (by assumption) (by decide) ?_
      rw [h1]
      refine ef_if_neT (pc := 34) d113_34 (t := 111) rfl (by decide) ?_
      exact h111
  have pls : ∀ f, PLs P d u m (teS kd nm rp en A).length kd nm rp en A rk g (fun x u' => ∃ g', u' = sI u g' ∧ x = .inl none ∧ DF2 g g' m ∧ (((teS kd nm rp en A).length ≤ 240 ∧ g' m 30 = 0 ∧ g' m 49 = ((teS kd nm rp en A).length : Int) ∧ Row (g' (m + 27)) (teS kd nm rp en A)) ∨ (240 < (teS kd nm rp en A).length ∧ g' m 30 = 1))) f := by
    intro f
    induction f with
    | zero => exact pl_step hM hT hTr hA hV hrk fx 0 (fun f' h => by cases h)
    | succ f ih => exact pl_step hM hT hTr hA hV hrk fx (f + 1) (fun f' h => by cases h; exact ih)
  have c39 : u2 (u2 (u2 g m 37 0) m 38 0) m 39 0 m 39 = ((0 : Nat) : Int) := u2_at
  change Ef P _ 113 0 [some (vR m)] [] _ _
  refine ef_aload_n (pc := 0) d113_0 rfl ?_
  refine ef_iconst (pc := 1) d113_1 (by decide) ?_
  refine eg_putI (pc := 2) d113_2 pf_113_239 (by assumption) (by decide) ?_
  refine ef_aload_n (pc := 5) d113_5 rfl ?_
  refine ef_iconst (pc := 6) d113_6 (by decide) ?_
  refine eg_putI (pc := 7) d113_7 pf_113_248 (by assumption) (by decide) ?_
  refine ef_aload_n (pc := 10) d113_10 rfl ?_
  refine ef_iconst (pc := 11) d113_11 (by decide) ?_
  refine eg_putI (pc := 12) d113_12 pf_113_245 (by assumption) (by decide) ?_
  refine ef_aload_n (pc := 15) d113_15 rfl ?_
  refine ef_iconst (pc := 16) d113_16 (by decide) ?_
  refine ef_iconst (pc := 17) d113_17 (by decide) ?_
  refine ef_iconst (pc := 18) d113_18 (by decide) ?_
  refine ef_iconst (pc := 19) d113_19 (by decide) ?_
  refine ef_callV (pc := 20) d113_20 lm_8_270 (as := [_, _, _, _]) rfl rfl (by assumption) rfl rfl (by decide) (Nat.le_of_ble_eq_true rfl) rfl (Nat.le_of_ble_eq_true rfl) ?_
  refine Ec.imp (c114 (c := 0) hM c39 (by omega)) ?_
  rintro r20 u20 ⟨rfl, rfl⟩
  refine pls 20 1 (by omega) 0 (-1) 0 0 [] [] [] [] [] _ 0 (by omega) h0 (by omega) (by omega) ?_ ?_ (by rw [u2_at]) ?_ ?_ ?_ ?_ (Or.inl ⟨rfl, rfl, rfl⟩) ?_ (by decide) (fun i p hp => by cases hp) rfl rfl rfl (fun h => absurd h (by decide)) (fun _ => rfl) (fun x hx => absurd hx (List.not_mem_nil)) ?_ ?_ ?_
  · exact ⟨fun a h1 h2 h3 h4 => by simp (disch := omega) only [u2_ne], fun f h1 h2 h3 h4 h5 => by simp (disch := omega) only [u2_ne, u2_ni]⟩
  · exact ⟨by decide, by simp (disch := omega) only [u2_ne, u2_ni]; exact h30, by simp (disch := omega) only [u2_ne, u2_ni, u2_at]; rfl, fun i c hc => by cases hc⟩
  · simp (disch := omega) only [u2_ne, u2_at]
  · simp (disch := omega) only [u2_ne, u2_at]; rfl
  · simp (disch := omega) only [u2_ne, u2_at]; rfl
  · simp (disch := omega) only [u2_ne, u2_ni, u2_at]; rfl
  · simp (disch := omega) only [u2_ne, u2_ni, u2_at]; rfl
  · rw [← hte]; show 0 + 0 + _ ≤ _; omega
  · rw [show jnL false (srtT ([] ++ mRs g m kd nm rp (afF en) (plT kd nm rp (afF en) A.1 A.2.1 A.2.2.1 20) 0 1)) = teS kd nm rp en A from hte.symm]; omega
  · intro g2 q1 q2 q3 q4 q5 q6 q7
    rw [← hte] at q3 q4
    have e49 := q3 rfl
    obtain ⟨z1, z2, z3, z4⟩ := q4
    rw [show ([] ++ [] ++ teS kd nm rp en A : List Int) = teS kd nm rp en A from rfl] at e49 z4
    refine ef_aload_n (pc := 23) d113_23 rfl ?_
    refine eg_getI (pc := 24) d113_24 lf_8_245 (by assumption) (by decide) ?_
    rw [show g2 m 39 = 0 from q5]
    refine ef_if_leT (pc := 27) d113_27 (t := 111) rfl (by decide) ?_
    refine ef_aload_n (pc := 111) d113_111 rfl ?_
    refine ef_aload_n (pc := 112) d113_112 rfl ?_
    refine eg_getZ (pc := 113) d113_113 lf_8_215 (by assumption) (by decide) ?_
    rw [z2]
    refine ef_if_neF (pc := 116) d113_116 (t := 129) rfl (by decide) ?_
    refine ef_aload_n (pc := 119) d113_119 rfl ?_
    refine eg_getI (pc := 120) d113_120 lf_8_219 (by assumption) (by decide) ?_
    rw [e49]
    refine ef_sipush (pc := 123) d113_123 (by decide) ?_
    refine ef_icmp_le (pc := 126) d113_126 (t := 133) rfl (fun h126 => ?_) (fun h126 => ?_)
    · refine ef_iconst (pc := 133) d113_133 (by decide) ?_
      refine eg_putZ (pc := 134) d113_134 pf_113_215 (by assumption) (by decide) (by omega) ?_
      refine ef_vret (pc := 137) d113_137 rfl ?_
      first
      | exact ⟨_, rfl, rfl, q1.trans ⟨fun a h1 h2 h3 h4 => u2_ne h1, fun f h1 h2 h3 h4 h5 h6 => u2_ni h1⟩, Or.inl ⟨by omega, u2_at, by rw [u2_ni (by decide)]; exact e49, by rw [u2_ne (by omega)]; exact z4⟩⟩
      | exact ⟨_, rfl, rfl, q1.trans ⟨fun a h1 h2 h3 h4 => u2_ne h1, fun f h1 h2 h3 h4 h5 h6 => u2_ni h1⟩, Or.inr ⟨by omega, u2_at⟩⟩
    · refine ef_iconst (pc := 129) d113_129 (by decide) ?_
      refine ef_goto (pc := 130) d113_130 (t := 134) rfl ?_
      refine eg_putZ (pc := 134) d113_134 pf_113_215 (by assumption) (by decide) (by omega) ?_
      refine ef_vret (pc := 137) d113_137 rfl ?_
      first
      | exact ⟨_, rfl, rfl, q1.trans ⟨fun a h1 h2 h3 h4 => u2_ne h1, fun f h1 h2 h3 h4 h5 h6 => u2_ni h1⟩, Or.inl ⟨by omega, u2_at, by rw [u2_ni (by decide)]; exact e49, by rw [u2_ne (by omega)]; exact z4⟩⟩
      | exact ⟨_, rfl, rfl, q1.trans ⟨fun a h1 h2 h3 h4 => u2_ne h1, fun f h1 h2 h3 h4 h5 h6 => u2_ni h1⟩, Or.inr ⟨by omega, u2_at⟩⟩
