/-! The model: counting, letters, shapes, writing. Written by wip/whole/gen/c9b.py. -/
def cnt (f : Nat → Int) (lo n : Nat) : Nat := ((List.range' lo n).filter (fun k => decide (0 ≤ f k))).length
theorem cnt_s {f : Nat → Int} {lo n : Nat} : cnt f lo (n + 1) = cnt f lo n + (if 0 ≤ f (lo + n) then 1 else 0) := by
  unfold cnt
  rw [List.range'_concat, List.filter_append, List.length_append]
  congr 1
  by_cases h : 0 ≤ f (lo + 1 * n)
  · rw [if_pos (by rw [Nat.one_mul] at h; exact h), List.filter_cons_of_pos (by exact decide_eq_true h)]; rfl
  · rw [if_neg (by rw [Nat.one_mul] at h; exact h), List.filter_cons_of_neg (by simpa using h)]; rfl
theorem cnt_le {f : Nat → Int} {lo n : Nat} : cnt f lo n ≤ n := by
  unfold cnt
  have := List.length_filter_le (fun k => decide (0 ≤ f k)) (List.range' lo n)
  rwa [List.length_range'] at this
theorem cnt_eq {f : Nat → Int} {lo n : Nat} {L : List Tg} {nx : Int} (hi : Inc L nx) (h1 : ∀ k, lo ≤ k → k < lo + n → 0 ≤ f k → ∃ e, e ∈ L ∧ e.1 = f k) (h2 : ∀ e, e ∈ L → ∃ k, lo ≤ k ∧ k < lo + n ∧ f k = e.1) (inj : ∀ k k', lo ≤ k → k < lo + n → lo ≤ k' → k' < lo + n → 0 ≤ f k → f k = f k' → k = k') : cnt f lo n = L.length := by
  have := bij_perm (L := L) (S := List.range' lo n) (nu := f) (cE := fun _ => true) (cS := fun k => decide (0 ≤ f k)) (tE := fun _ => []) (tS := fun _ => []) hi (List.nodup_range') (fun s hs hc => by
    have hs := List.mem_range'_1.mp hs
    obtain ⟨e, he, h3⟩ := h1 s hs.1 hs.2 (of_decide_eq_true hc)
    exact ⟨e, he, rfl, h3, rfl⟩) (fun e he _ => by
    obtain ⟨k, k1, k2, k3⟩ := h2 e he
    exact ⟨k, List.mem_range'_1.mpr ⟨k1, k2⟩, decide_eq_true (by rw [k3]; exact (hi.2 e he).1), k3⟩) (fun s s' hs hs' hc hc' hh => by
    have hs := List.mem_range'_1.mp hs
    have hs' := List.mem_range'_1.mp hs'
    exact inj s s' hs.1 hs.2 hs'.1 hs'.2 (of_decide_eq_true hc) hh)
  have hl := this.length_eq
  rw [List.length_map, List.length_map, List.filter_eq_self.mpr (fun _ _ => rfl)] at hl
  exact hl.symm
theorem Rel.cnt {g : Nat → Nat → Int} {m sz : Nat} {kd nm : Nat → Int} {A : SS} (h : Rel g m A) (hV : Vd kd nm sz A) : cnt (g (m + 12)) 1 20 = A.1.length ∧ cnt (g (m + 15)) 0 40 = A.2.1.length ∧ cnt (g (m + 19)) 0 30 = A.2.2.1.length := by
  obtain ⟨v1, v2, v3, v4, v5, v6, v7, v8, -⟩ := hV
  obtain ⟨p, g1, m1, -⟩ := h
  refine ⟨cnt_eq v6 (fun k h1 h2 h3 => ?_) (fun e he => ?_) (fun k k' h1 h2 h3 h4 h5 h6 => p.2.2 k k' h1 (by omega) h3 (by omega) h5 h6), cnt_eq v7 (fun k h1 h2 h3 => ?_) (fun e he => ?_) (fun k k' h1 h2 h3 h4 h5 h6 => g1.2.2 k k' (by omega) (by omega) h5 h6), cnt_eq v8 (fun k h1 h2 h3 => ?_) (fun e he => ?_) (fun k k' h1 h2 h3 h4 h5 h6 => m1.2.2 k k' (by omega) (by omega) h5 h6)⟩
  · obtain ⟨e, he, e1, -⟩ := p.1 k h1 (by omega) h3; exact ⟨e, he, e1⟩
  · obtain ⟨q, q1, q2, q3⟩ := p.2.1 e he; exact ⟨q, q1, by omega, q3⟩
  · obtain ⟨e, he, e1, -⟩ := g1.1 k (by omega) h3; exact ⟨e, he, e1⟩
  · obtain ⟨q, q2, q3⟩ := g1.2.1 e he; exact ⟨q, Nat.zero_le _, by omega, q3⟩
  · obtain ⟨e, he, e1, -⟩ := m1.1 k (by omega) h3; exact ⟨e, he, e1⟩
  · obtain ⟨q, q2, q3⟩ := m1.2.1 e he; exact ⟨q, Nat.zero_le _, by omega, q3⟩
theorem c141 {P : Pg} {d : Nat} {u : Mm} {g : Nat → Nat → Int} {m : Nat} {sz : Nat} {kd nm rp en : Nat → Int} {c : RS} {i : Int} (hM : MdA u m) (hC : Mc g m kd nm rp en sz c) : Ec P (d + 1) 141 [vR m, vI i] (sI u g) (fun x u' => (¬ (0 ≤ i ∧ i ≤ 4) ∧ u' = sI u (u2 (u2 g m 0 0) m 0 1) ∧ x = .inl (some (vI 0))) ∨ ((0 ≤ i ∧ i ≤ 4) ∧ u' = sI u (u2 g m 0 0) ∧ x = .inl (some (vI (if i = 0 then (c.1.1.length : Int) else if i = 1 then (c.1.2.1.length : Int) else if i = 2 then (c.1.2.2.1.length : Int) else if i = 3 then c.1.2.2.2.1 else c.2.2))))) := by
  have s0 := hM.1
  have f18 : mF u m 18 = some (m + 12) := (hM.2 11 (by decide)).1
  have s18 : mS u (m + 12) = some (0, 21) := (hM.2 11 (by decide)).2
  have f21 : mF u m 21 = some (m + 15) := (hM.2 14 (by decide)).1
  have s21 : mS u (m + 15) = some (0, 40) := (hM.2 14 (by decide)).2
  have f25 : mF u m 25 = some (m + 19) := (hM.2 18 (by decide)).1
  have s25 : mS u (m + 19) = some (0, 30) := (hM.2 18 (by decide)).2
  obtain ⟨k1, k2, k3⟩ := hC.2.1.cnt hC.2.2.1
  have e28 : u2 g m 0 0 m 28 = c.1.2.2.2.1 := by rw [u2_ni (by decide)]; exact hC.2.1.2.2.2
  have e29 : u2 g m 0 0 m 29 = c.2.2 := by rw [u2_ni (by decide)]; exact hC.2.2.2.1
  have fin : 0 ≤ i → i ≤ 4 → ∀ (z : Int) (v3 : Option Vl), (i = 0 → z = (c.1.1.length : Int)) → (i = 1 → z = (c.1.2.1.length : Int)) → (i = 2 → z = (c.1.2.2.1.length : Int)) → Ef P (d + 1) 141 129 [some (vR m), some (vI i), some (vI z), v3] [] (sI u (u2 g m 0 0)) (fun x u' => (¬ (0 ≤ i ∧ i ≤ 4) ∧ u' = sI u (u2 (u2 g m 0 0) m 0 1) ∧ x = .inl (some (vI 0))) ∨ ((0 ≤ i ∧ i ≤ 4) ∧ u' = sI u (u2 g m 0 0) ∧ x = .inl (some (vI (if i = 0 then (c.1.1.length : Int) else if i = 1 then (c.1.2.1.length : Int) else if i = 2 then (c.1.2.2.1.length : Int) else if i = 3 then c.1.2.2.2.1 else c.2.2))))) := by
    intro i0 i4 z v3 h0 h1 h2
    refine ef_iload_n (pc := 129) d141_129 rfl ?_
    refine ef_iconst (pc := 130) d141_130 (by decide) ?_
    refine ef_icmp_ge (pc := 131) d141_131 (t := 138) rfl (fun h131 => ?_) (fun h131 => ?_)
    · refine ef_iload_n (pc := 138) d141_138 rfl ?_
      refine ef_iconst (pc := 139) d141_139 (by decide) ?_
      refine ef_icmp_ne (pc := 140) d141_140 (t := 150) rfl (fun h140 => ?_) (fun h140 => ?_)
      · refine ef_aload_n (pc := 150) d141_150 rfl ?_
        refine eg_getI (pc := 151) d141_151 lf_8_212 (by assumption) (by decide) ?_
        rw [e29]
        refine ef_iret (pc := 154) d141_154 rfl ?_
        refine Or.inr ⟨⟨i0, i4⟩, rfl, ?_⟩
        have hi5 : i = 0 ∨ i = 1 ∨ i = 2 ∨ i = 3 ∨ i = 4 := by omega
        rcases hi5 with rfl | rfl | rfl | rfl | rfl <;> first | omega | rfl | (rw [h0 rfl]; rfl) | (rw [h1 rfl]; rfl) | (rw [h2 rfl]; rfl)
      · refine ef_aload_n (pc := 143) d141_143 rfl ?_
        refine eg_getI (pc := 144) d141_144 lf_8_209 (by assumption) (by decide) ?_
        rw [e28]
        refine ef_goto (pc := 147) d141_147 (t := 154) rfl ?_
        refine ef_iret (pc := 154) d141_154 rfl ?_
        refine Or.inr ⟨⟨i0, i4⟩, rfl, ?_⟩
        have hi5 : i = 0 ∨ i = 1 ∨ i = 2 ∨ i = 3 ∨ i = 4 := by omega
        rcases hi5 with rfl | rfl | rfl | rfl | rfl <;> first | omega | rfl | (rw [h0 rfl]; rfl) | (rw [h1 rfl]; rfl) | (rw [h2 rfl]; rfl)
    · refine ef_iload_n (pc := 134) d141_134 rfl ?_
      refine ef_goto (pc := 135) d141_135 (t := 154) rfl ?_
      refine ef_iret (pc := 154) d141_154 rfl ?_
      refine Or.inr ⟨⟨i0, i4⟩, rfl, ?_⟩
      have hi5 : i = 0 ∨ i = 1 ∨ i = 2 ∨ i = 3 ∨ i = 4 := by omega
      rcases hi5 with rfl | rfl | rfl | rfl | rfl <;> first | omega | rfl | (rw [h0 rfl]; rfl) | (rw [h1 rfl]; rfl) | (rw [h2 rfl]; rfl)
  have l2 : 0 ≤ i → i ≤ 4 → ∀ j, j ≤ 30 → ∀ (z : Int), (i ≠ 2 → j = 0) → (i = 0 → z = (c.1.1.length : Int)) → (i = 1 → z = (c.1.2.1.length : Int)) → (i ≠ 0 → i ≠ 1 → z = (cnt (g (m + 19)) 0 j : Int)) → Ef P (d + 1) 141 95 [some (vR m), some (vI i), some (vI z), some (vI ((0 + j : Nat) : Int))] [] (sI u (u2 g m 0 0)) (fun x u' => (¬ (0 ≤ i ∧ i ≤ 4) ∧ u' = sI u (u2 (u2 g m 0 0) m 0 1) ∧ x = .inl (some (vI 0))) ∨ ((0 ≤ i ∧ i ≤ 4) ∧ u' = sI u (u2 g m 0 0) ∧ x = .inl (some (vI (if i = 0 then (c.1.1.length : Int) else if i = 1 then (c.1.2.1.length : Int) else if i = 2 then (c.1.2.2.1.length : Int) else if i = 3 then c.1.2.2.2.1 else c.2.2))))) := by
    intro i0 i4
    refine nat_loop 30 ?_
    intro j hj ih z hjz h0 h1 hz
    have hrow : u2 g m 0 0 (m + 19) (0 + j) = g (m + 19) (0 + j) := by rw [u2_ne (by omega)]
    have hcs := cnt_s (f := g (m + 19)) (lo := 0) (n := j)
    have hcl := cnt_le (f := g (m + 19)) (lo := 0) (n := j)
    refine ef_iload_n (pc := 95) d141_95 rfl ?_
    refine ef_bipush (pc := 96) d141_96 (by decide) ?_
    refine ef_icmp_ge (pc := 98) d141_98 (t := 129) rfl (fun h98 => ?_) (fun h98 => ?_)
    · have hjj : j = 30 := by omega
      refine fin i0 i4 z _ h0 h1 (fun hi2 => ?_)
      rw [hz (by omega) (by omega), ← k3]
      first
      | (rw [hjj])
      | omega
    · refine ef_iload_n (pc := 101) d141_101 rfl ?_
      refine ef_iconst (pc := 102) d141_102 (by decide) ?_
      refine ef_icmp_ne (pc := 103) d141_103 (t := 129) rfl (fun h103 => ?_) (fun h103 => ?_)
      · refine fin i0 i4 z _ h0 h1 (fun hi2 => ?_)
        rw [hz (by omega) (by omega), ← k3]
        first
        | (rw [hjj])
        | omega
      · refine ef_iload_n (pc := 106) d141_106 rfl ?_
        refine ef_aload_n (pc := 107) d141_107 rfl ?_
        refine eg_getR (pc := 108) d141_108 lf_8_65 (by assumption) (by decide) (by assumption) ?_
        refine ef_iload_n (pc := 111) d141_111 rfl ?_
        refine eg_iald (pc := 112) d141_112 (i := 0 + j) (by assumption) (rfl) (by omega) ?_
        rw [hrow]
        refine ef_if_lt (pc := 113) d141_113 (t := 120) rfl (fun h113 => ?_) (fun h113 => ?_)
        · rw [if_neg (by omega)] at hcs
          have hzj := hz (by omega) (by omega)
          refine ef_iconst (pc := 120) d141_120 (by decide) ?_
          refine ef_iadd (pc := 121) d141_121 (z := ((cnt (g (m + 19)) 0 (j + 1) : Nat) : Int)) (by omega) ⟨by omega, by omega⟩ ?_
          refine ef_istore_n (pc := 122) d141_122 (ls' := [_, _, _, _]) rfl ?_
          refine ef_iinc (pc := 123) d141_123 (ls' := [_, _, _, _]) (z := ((0 + (j + 1) : Nat) : Int)) rfl (by decide) (by omega) ⟨by omega, by omega⟩ rfl ?_
          refine ef_goto (pc := 126) d141_126 (t := 95) rfl ?_
          refine ih (by omega) _ (fun h => by omega) (fun h => by omega) (fun h => by omega) (fun _ _ => ?_)
          rfl
        · rw [if_pos (by omega)] at hcs
          have hzj := hz (by omega) (by omega)
          refine ef_iconst (pc := 116) d141_116 (by decide) ?_
          refine ef_goto (pc := 117) d141_117 (t := 121) rfl ?_
          refine ef_iadd (pc := 121) d141_121 (z := ((cnt (g (m + 19)) 0 (j + 1) : Nat) : Int)) (by omega) ⟨by omega, by omega⟩ ?_
          refine ef_istore_n (pc := 122) d141_122 (ls' := [_, _, _, _]) rfl ?_
          refine ef_iinc (pc := 123) d141_123 (ls' := [_, _, _, _]) (z := ((0 + (j + 1) : Nat) : Int)) rfl (by decide) (by omega) ⟨by omega, by omega⟩ rfl ?_
          refine ef_goto (pc := 126) d141_126 (t := 95) rfl ?_
          refine ih (by omega) _ (fun h => by omega) (fun h => by omega) (fun h => by omega) (fun _ _ => ?_)
          rfl
  have l1 : 0 ≤ i → i ≤ 4 → ∀ j, j ≤ 40 → ∀ (z : Int), (i ≠ 1 → j = 0) → (i = 0 → z = (c.1.1.length : Int)) → (i ≠ 0 → z = (cnt (g (m + 15)) 0 j : Int)) → Ef P (d + 1) 141 59 [some (vR m), some (vI i), some (vI z), some (vI ((0 + j : Nat) : Int))] [] (sI u (u2 g m 0 0)) (fun x u' => (¬ (0 ≤ i ∧ i ≤ 4) ∧ u' = sI u (u2 (u2 g m 0 0) m 0 1) ∧ x = .inl (some (vI 0))) ∨ ((0 ≤ i ∧ i ≤ 4) ∧ u' = sI u (u2 g m 0 0) ∧ x = .inl (some (vI (if i = 0 then (c.1.1.length : Int) else if i = 1 then (c.1.2.1.length : Int) else if i = 2 then (c.1.2.2.1.length : Int) else if i = 3 then c.1.2.2.2.1 else c.2.2))))) := by
    intro i0 i4
    refine nat_loop 40 ?_
    intro j hj ih z hjz h0 hz
    have hrow : u2 g m 0 0 (m + 15) (0 + j) = g (m + 15) (0 + j) := by rw [u2_ne (by omega)]
    have hcs := cnt_s (f := g (m + 15)) (lo := 0) (n := j)
    have hcl := cnt_le (f := g (m + 15)) (lo := 0) (n := j)
    refine ef_iload_n (pc := 59) d141_59 rfl ?_
    refine ef_bipush (pc := 60) d141_60 (by decide) ?_
    refine ef_icmp_ge (pc := 62) d141_62 (t := 93) rfl (fun h62 => ?_) (fun h62 => ?_)
    · have hjj : j = 40 := by omega
      refine ef_iconst (pc := 93) d141_93 (by decide) ?_
      refine ef_istore_n (pc := 94) d141_94 (ls' := [_, _, _, _]) rfl ?_
      refine l2 i0 i4 0 (by omega) z (fun _ => rfl) h0 (fun hi1 => ?_) (fun a1 a2 => ?_)
      · rw [hz (by omega), ← k2]
        first
        | (rw [hjj])
        | omega
      · rw [hz a1, hjz (by omega)]; rfl
    · refine ef_iload_n (pc := 65) d141_65 rfl ?_
      refine ef_iconst (pc := 66) d141_66 (by decide) ?_
      refine ef_icmp_ne (pc := 67) d141_67 (t := 93) rfl (fun h67 => ?_) (fun h67 => ?_)
      · refine ef_iconst (pc := 93) d141_93 (by decide) ?_
        refine ef_istore_n (pc := 94) d141_94 (ls' := [_, _, _, _]) rfl ?_
        refine l2 i0 i4 0 (by omega) z (fun _ => rfl) h0 (fun hi1 => ?_) (fun a1 a2 => ?_)
        · rw [hz (by omega), ← k2]
          first
          | (rw [hjj])
          | omega
        · rw [hz a1, hjz (by omega)]; rfl
      · refine ef_iload_n (pc := 70) d141_70 rfl ?_
        refine ef_aload_n (pc := 71) d141_71 rfl ?_
        refine eg_getR (pc := 72) d141_72 lf_8_53 (by assumption) (by decide) (by assumption) ?_
        refine ef_iload_n (pc := 75) d141_75 rfl ?_
        refine eg_iald (pc := 76) d141_76 (i := 0 + j) (by assumption) (rfl) (by omega) ?_
        rw [hrow]
        refine ef_if_lt (pc := 77) d141_77 (t := 84) rfl (fun h77 => ?_) (fun h77 => ?_)
        · rw [if_neg (by omega)] at hcs
          have hzj := hz (by omega)
          refine ef_iconst (pc := 84) d141_84 (by decide) ?_
          refine ef_iadd (pc := 85) d141_85 (z := ((cnt (g (m + 15)) 0 (j + 1) : Nat) : Int)) (by omega) ⟨by omega, by omega⟩ ?_
          refine ef_istore_n (pc := 86) d141_86 (ls' := [_, _, _, _]) rfl ?_
          refine ef_iinc (pc := 87) d141_87 (ls' := [_, _, _, _]) (z := ((0 + (j + 1) : Nat) : Int)) rfl (by decide) (by omega) ⟨by omega, by omega⟩ rfl ?_
          refine ef_goto (pc := 90) d141_90 (t := 59) rfl ?_
          refine ih (by omega) _ (fun h => by omega) (fun h => by omega) (fun _ => ?_)
          rfl
        · rw [if_pos (by omega)] at hcs
          have hzj := hz (by omega)
          refine ef_iconst (pc := 80) d141_80 (by decide) ?_
          refine ef_goto (pc := 81) d141_81 (t := 85) rfl ?_
          refine ef_iadd (pc := 85) d141_85 (z := ((cnt (g (m + 15)) 0 (j + 1) : Nat) : Int)) (by omega) ⟨by omega, by omega⟩ ?_
          refine ef_istore_n (pc := 86) d141_86 (ls' := [_, _, _, _]) rfl ?_
          refine ef_iinc (pc := 87) d141_87 (ls' := [_, _, _, _]) (z := ((0 + (j + 1) : Nat) : Int)) rfl (by decide) (by omega) ⟨by omega, by omega⟩ rfl ?_
          refine ef_goto (pc := 90) d141_90 (t := 59) rfl ?_
          refine ih (by omega) _ (fun h => by omega) (fun h => by omega) (fun _ => ?_)
          rfl
  have l0 : 0 ≤ i → i ≤ 4 → ∀ j, j ≤ 20 → ∀ (z : Int), (i ≠ 0 → j = 0) → z = (cnt (g (m + 12)) 1 j : Int) → Ef P (d + 1) 141 24 [some (vR m), some (vI i), some (vI z), some (vI ((1 + j : Nat) : Int))] [] (sI u (u2 g m 0 0)) (fun x u' => (¬ (0 ≤ i ∧ i ≤ 4) ∧ u' = sI u (u2 (u2 g m 0 0) m 0 1) ∧ x = .inl (some (vI 0))) ∨ ((0 ≤ i ∧ i ≤ 4) ∧ u' = sI u (u2 g m 0 0) ∧ x = .inl (some (vI (if i = 0 then (c.1.1.length : Int) else if i = 1 then (c.1.2.1.length : Int) else if i = 2 then (c.1.2.2.1.length : Int) else if i = 3 then c.1.2.2.2.1 else c.2.2))))) := by
    intro i0 i4
    refine nat_loop 20 ?_
    intro j hj ih z hjz hz
    have hrow : u2 g m 0 0 (m + 12) (1 + j) = g (m + 12) (1 + j) := by rw [u2_ne (by omega)]
    have hcs := cnt_s (f := g (m + 12)) (lo := 1) (n := j)
    have hcl := cnt_le (f := g (m + 12)) (lo := 1) (n := j)
    refine ef_iload_n (pc := 24) d141_24 rfl ?_
    refine ef_bipush (pc := 25) d141_25 (by decide) ?_
    refine ef_icmp_ge (pc := 27) d141_27 (t := 57) rfl (fun h27 => ?_) (fun h27 => ?_)
    · have hjj : j = 20 := by omega
      refine ef_iconst (pc := 57) d141_57 (by decide) ?_
      refine ef_istore_n (pc := 58) d141_58 (ls' := [_, _, _, _]) rfl ?_
      refine l1 i0 i4 0 (by omega) z (fun _ => rfl) (fun hi0 => ?_) (fun a1 => ?_)
      · rw [hz, ← k1]
        first
        | (rw [hjj])
        | omega
      · rw [hz, hjz a1]; rfl
    · refine ef_iload_n (pc := 30) d141_30 rfl ?_
      refine ef_if_ne (pc := 31) d141_31 (t := 57) rfl (fun h31 => ?_) (fun h31 => ?_)
      · refine ef_iconst (pc := 57) d141_57 (by decide) ?_
        refine ef_istore_n (pc := 58) d141_58 (ls' := [_, _, _, _]) rfl ?_
        refine l1 i0 i4 0 (by omega) z (fun _ => rfl) (fun hi0 => ?_) (fun a1 => ?_)
        · rw [hz, ← k1]
          first
          | (rw [hjj])
          | omega
        · rw [hz, hjz a1]; rfl
      · refine ef_iload_n (pc := 34) d141_34 rfl ?_
        refine ef_aload_n (pc := 35) d141_35 rfl ?_
        refine eg_getR (pc := 36) d141_36 lf_8_44 (by assumption) (by decide) (by assumption) ?_
        refine ef_iload_n (pc := 39) d141_39 rfl ?_
        refine eg_iald (pc := 40) d141_40 (i := 1 + j) (by assumption) (rfl) (by omega) ?_
        rw [hrow]
        refine ef_if_lt (pc := 41) d141_41 (t := 48) rfl (fun h41 => ?_) (fun h41 => ?_)
        · rw [if_neg (by omega)] at hcs
          have hzj := hz
          refine ef_iconst (pc := 48) d141_48 (by decide) ?_
          refine ef_iadd (pc := 49) d141_49 (z := ((cnt (g (m + 12)) 1 (j + 1) : Nat) : Int)) (by omega) ⟨by omega, by omega⟩ ?_
          refine ef_istore_n (pc := 50) d141_50 (ls' := [_, _, _, _]) rfl ?_
          refine ef_iinc (pc := 51) d141_51 (ls' := [_, _, _, _]) (z := ((1 + (j + 1) : Nat) : Int)) rfl (by decide) (by omega) ⟨by omega, by omega⟩ rfl ?_
          refine ef_goto (pc := 54) d141_54 (t := 24) rfl ?_
          refine ih (by omega) _ (fun h => by omega) ?_
          rfl
        · rw [if_pos (by omega)] at hcs
          have hzj := hz
          refine ef_iconst (pc := 44) d141_44 (by decide) ?_
          refine ef_goto (pc := 45) d141_45 (t := 49) rfl ?_
          refine ef_iadd (pc := 49) d141_49 (z := ((cnt (g (m + 12)) 1 (j + 1) : Nat) : Int)) (by omega) ⟨by omega, by omega⟩ ?_
          refine ef_istore_n (pc := 50) d141_50 (ls' := [_, _, _, _]) rfl ?_
          refine ef_iinc (pc := 51) d141_51 (ls' := [_, _, _, _]) (z := ((1 + (j + 1) : Nat) : Int)) rfl (by decide) (by omega) ⟨by omega, by omega⟩ rfl ?_
          refine ef_goto (pc := 54) d141_54 (t := 24) rfl ?_
          refine ih (by omega) _ (fun h => by omega) ?_
          rfl
  change Ef P _ 141 0 [some (vR m), some (vI i), none, none] [] _ _
  refine ef_aload_n (pc := 0) d141_0 rfl ?_
  refine ef_iconst (pc := 1) d141_1 (by decide) ?_
  refine eg_putI (pc := 2) d141_2 pf_141_141 (by assumption) (by decide) ?_
  refine ef_iload_n (pc := 5) d141_5 rfl ?_
  refine ef_iconst (pc := 6) d141_6 (by decide) ?_
  refine ef_iconst (pc := 7) d141_7 (by decide) ?_
  refine ef_callS (pc := 8) d141_8 lm_8_148 (as := [_, _, _]) rfl rfl rfl (Nat.le_of_ble_eq_true rfl) rfl (Nat.le_of_ble_eq_true rfl) ?_
  refine Ec.imp (c93) ?_
  rintro r8 u8 ⟨rfl, rfl⟩
  refine ef_if_ne (pc := 11) d141_11 (t := 20) rfl (fun h11 => ?_) (fun h11 => ?_)
  · have hf2 := of_decide_eq_true (b01_f h11)
    refine ef_iconst (pc := 20) d141_20 (by decide) ?_
    refine ef_istore_n (pc := 21) d141_21 (ls' := [_, _, _, _]) rfl ?_
    refine ef_iconst (pc := 22) d141_22 (by decide) ?_
    refine ef_istore_n (pc := 23) d141_23 (ls' := [_, _, _, _]) rfl ?_
    exact l0 hf2.1 hf2.2 0 (by omega) 0 (fun _ => rfl) rfl
  · have hf2 := of_decide_eq_false (b01_t h11)
    refine ef_aload_n (pc := 14) d141_14 rfl ?_
    refine ef_iconst (pc := 15) d141_15 (by decide) ?_
    refine ef_callV (pc := 16) d141_16 lm_8_152 (as := [_]) rfl rfl (by assumption) rfl rfl (by decide) (Nat.le_of_ble_eq_true rfl) rfl (Nat.le_of_ble_eq_true rfl) ?_
    refine Ec.imp (c94 hM) ?_
    rintro r16 u16 ⟨rfl, rfl⟩
    refine ef_iret (pc := 19) d141_19 rfl ?_
    exact Or.inl ⟨hf2, rfl, rfl⟩
theorem c142 {P : Pg} {d : Nat} {u : Mm} {g : Nat → Nat → Int} {m : Nat} {sz : Nat} {kd nm rp en : Nat → Int} {c : RS} {i : Int} (hM : MdA u m) (hC : Mc g m kd nm rp en sz c) : Ec P (d + 1) 142 [vR m, vI i] (sI u g) (fun x u' => (i < 0 ∧ u' = sI u (u2 (u2 g m 0 0) m 0 1) ∧ x = .inl (some (vI 0))) ∨ (0 ≤ i ∧ u' = sI u (u2 g m 0 0) ∧ x = .inl (some (vI (match (teS kd nm rp en c.1)[i.toNat]? with | some c => c | none => -1))))) := by
  have s0 := hM.1
  have f40 : mF u m 40 = some (m + 27) := (hM.2 26 (by decide)).1
  have s40 : mS u (m + 27) = some (0, 900) := (hM.2 26 (by decide)).2
  have e49 : u2 g m 0 0 m 49 = ((teS kd nm rp en c.1).length : Int) := by rw [u2_ni (by decide)]; exact hC.2.2.2.2.2.1
  have hL := hC.2.2.2.2.2.2.2.1
  have hW := hC.2.2.2.2.2.2.1
  change Ef P _ 142 0 [some (vR m), some (vI i)] [] _ _
  refine ef_aload_n (pc := 0) d142_0 rfl ?_
  refine ef_iconst (pc := 1) d142_1 (by decide) ?_
  refine eg_putI (pc := 2) d142_2 pf_142_141 (by assumption) (by decide) ?_
  refine ef_iload_n (pc := 5) d142_5 rfl ?_
  refine ef_if_ge (pc := 6) d142_6 (t := 15) rfl (fun h6 => ?_) (fun h6 => ?_)
  · obtain ⟨n, rfl⟩ : ∃ n : Nat, i = (n : Int) := ⟨i.toNat, by omega⟩
    rw [Int.toNat_natCast]
    refine ef_iload_n (pc := 15) d142_15 rfl ?_
    refine ef_aload_n (pc := 16) d142_16 rfl ?_
    refine eg_getI (pc := 17) d142_17 lf_8_219 (by assumption) (by decide) ?_
    rw [e49]
    refine ef_icmp_ge (pc := 20) d142_20 (t := 32) rfl (fun h20 => ?_) (fun h20 => ?_)
    · rw [List.getElem?_eq_none (by omega)]
      refine ef_iconst (pc := 32) d142_32 (by decide) ?_
      refine ef_iret (pc := 33) d142_33 rfl ?_
      exact Or.inr ⟨by omega, rfl, rfl⟩
    · have hlt : n < (teS kd nm rp en c.1).length := by omega
      obtain ⟨x, hx, -⟩ := get_of_lt hlt
      have hv : u2 g m 0 0 (m + 27) n = x := by rw [u2_ne (by omega)]; exact hW n x hx
      rw [hx]
      refine ef_aload_n (pc := 23) d142_23 rfl ?_
      refine eg_getR (pc := 24) d142_24 lf_8_89 (by assumption) (by decide) (by assumption) ?_
      refine ef_iload_n (pc := 27) d142_27 rfl ?_
      refine eg_iald (pc := 28) d142_28 (i := n) (by assumption) (rfl) (by omega) ?_
      rw [hv]
      refine ef_goto (pc := 29) d142_29 (t := 33) rfl ?_
      refine ef_iret (pc := 33) d142_33 rfl ?_
      exact Or.inr ⟨by omega, rfl, rfl⟩
  · refine ef_aload_n (pc := 9) d142_9 rfl ?_
    refine ef_iconst (pc := 10) d142_10 (by decide) ?_
    refine ef_callV (pc := 11) d142_11 lm_8_152 (as := [_]) rfl rfl (by assumption) rfl rfl (by decide) (Nat.le_of_ble_eq_true rfl) rfl (Nat.le_of_ble_eq_true rfl) ?_
    refine Ec.imp (c94 hM) ?_
    rintro r11 u11 ⟨rfl, rfl⟩
    refine ef_iret (pc := 14) d142_14 rfl ?_
    exact Or.inl ⟨by omega, rfl, rfl⟩
theorem shp_m {g : Nat → Nat → Int} {m sz : Nat} {kd nm : Nat → Int} {A : SS} {a b : Int} (h : Rel g m A) (hV : Vd kd nm sz A) : shp A.1 a b = true ↔ ∃ p q : Nat, 1 ≤ p ∧ p < 21 ∧ 0 ≤ g (m + 12) p ∧ g (m + 14) p = (q : Int) ∧ 0 < q ∧ g (m + 13) p = b ∧ g (m + 13) q = a := by
  obtain ⟨v1, v2, v3, v4, v5, v6, -⟩ := id hV
  obtain ⟨r, -⟩ := h
  unfold shp
  rw [List.any_eq_true]
  constructor
  · rintro ⟨e, he, hs⟩
    unfold shpE at hs
    obtain ⟨h1, h2⟩ := Bool.and_eq_true _ _ ▸ hs
    have h1 := of_decide_eq_true h1
    cases hg : getN A.1 e.2.1 with
    | none => rw [hg] at h2; cases h2
    | some f =>
      rw [hg] at h2
      have h2 := of_decide_eq_true h2
      obtain ⟨hf, hfe⟩ := getN_mem hg
      obtain ⟨p, p1, p2, p3, p4, p5⟩ := r.at he v6
      obtain ⟨t, t1, t2, t3, t4, -⟩ := r.at hf v6
      obtain ⟨q, q1, q2, q3, q4⟩ := p5
      have hq0 : q ≠ 0 := fun hh => by
        rw [hh] at q3
        have h9 : e.2.1 = -1 := q3
        have := (v6.2 f hf).1
        omega
      have hqt : q = t := by
        unfold pNo at q3
        rw [if_neg hq0] at q3
        exact r.2.2 q t (by omega) q2 t1 t2 (q4 hq0) (by rw [← q3, t3, hfe])
      subst hqt
      exact ⟨p, q, p1, p2, by rw [p3]; exact (v6.2 e he).1, q1, by omega, by rw [← p4]; exact h1, by rw [← t4]; exact h2⟩
  · rintro ⟨p, q, p1, p2, p3, q1, q0, n1, n2⟩
    obtain ⟨e, he, e1, e2, e3⟩ := r.1 p p1 p2 p3
    obtain ⟨q', q1', q2', q3', q4'⟩ := e3
    have hqq : q' = q := by omega
    subst hqq
    obtain ⟨f, hf, f1, f2, -⟩ := r.1 q' (by omega) q2' (q4' (by omega))
    refine ⟨e, he, ?_⟩
    unfold shpE
    have hg : getN A.1 e.2.1 = some f := by
      have := v6.get hf
      rw [f1] at this
      rw [q3']; unfold pNo; rw [if_neg (by omega)]; exact this
    rw [hg, e2, n1, decide_eq_true rfl]
    simp [f2, n2]
theorem c147 {P : Pg} {d : Nat} {u : Mm} {g : Nat → Nat → Int} {m : Nat} {sz : Nat} {kd nm : Nat → Int} {c : RS} {a b : Int} (hM : MdA u m) (hR : Rel g m c.1) (hV : Vd kd nm sz c.1) : Ec P d 147 [vR m, vI a, vI b] (sI u g) (fun x u' => u' = sI u g ∧ x = .inl (some (vI (b01 (shp c.1.1 a b))))) := by
  have s0 := hM.1
  have f18 : mF u m 18 = some (m + 12) := (hM.2 11 (by decide)).1
  have s18 : mS u (m + 12) = some (0, 21) := (hM.2 11 (by decide)).2
  have f19 : mF u m 19 = some (m + 13) := (hM.2 12 (by decide)).1
  have s19 : mS u (m + 13) = some (0, 21) := (hM.2 12 (by decide)).2
  have f20 : mF u m 20 = some (m + 14) := (hM.2 13 (by decide)).1
  have s20 : mS u (m + 14) = some (0, 21) := (hM.2 13 (by decide)).2
  have hsh := shp_m (a := a) (b := b) hR hV
  have loop : ∀ i, i ≤ 21 → 1 ≤ i → ∀ z : Bool, (z = true ↔ ∃ p q : Nat, 1 ≤ p ∧ p < i ∧ 0 ≤ g (m + 12) p ∧ g (m + 14) p = (q : Int) ∧ 0 < q ∧ g (m + 13) p = b ∧ g (m + 13) q = a) → Ef P d 147 5 [some (vR m), some (vI a), some (vI b), some (vI (b01 z)), some (vI (i : Int))] [] (sI u g) (fun x u' => u' = sI u g ∧ x = .inl (some (vI (b01 (shp c.1.1 a b))))) := by
    refine nat_loop 21 ?_
    intro i hi ih h1 z hz
    have next : ∀ z' : Bool, i < 21 → (z' = true ↔ (z = true ∨ ∃ q : Nat, 0 ≤ g (m + 12) i ∧ g (m + 14) i = (q : Int) ∧ 0 < q ∧ g (m + 13) i = b ∧ g (m + 13) q = a)) → ∀ v3, Ef P d 147 68 [some (vR m), some (vI a), some (vI b), v3, some (vI (i : Int))] [vI (b01 z')] (sI u g) (fun x u' => u' = sI u g ∧ x = .inl (some (vI (b01 (shp c.1.1 a b))))) := by
      intro z' hi21 hz' v3
      refine ef_istore_n (pc := 68) d147_68 (ls' := [_, _, _, _, _]) rfl ?_
      refine ef_iinc (pc := 69) d147_69 (ls' := [_, _, _, _, _]) (z := ((i + 1 : Nat) : Int)) rfl (by decide) (by omega) ⟨by omega, by omega⟩ rfl ?_
      refine ef_goto (pc := 72) d147_72 (t := 5) rfl ?_
      refine ih hi21 (by omega) z' (hz'.trans ?_)
      rw [hz]
      constructor
      · rintro (⟨p, q, p1, p2, p3⟩ | ⟨q, q1⟩)
        · exact ⟨p, q, p1, by omega, p3⟩
        · exact ⟨i, q, h1, by omega, q1⟩
      · rintro ⟨p, q, p1, p2, p3⟩
        by_cases hpi : p = i
        · subst hpi; exact Or.inr ⟨q, p3⟩
        · exact Or.inl ⟨p, q, p1, by omega, p3⟩
    refine ef_iload (pc := 5) d147_5 rfl ?_
    refine ef_bipush (pc := 7) d147_7 (by decide) ?_
    refine ef_icmp_ge (pc := 9) d147_9 (t := 75) rfl (fun h9 => ?_) (fun h9 => ?_)
    · have hii : i = 21 := by omega
      subst hii
      have hzs : z = shp c.1.1 a b := by
        have hiff := hz.trans hsh.symm
        cases z <;> cases hq : shp c.1.1 a b
        · rfl
        · exact absurd (hiff.mpr hq) (by decide)
        · have := hiff.mp rfl; rw [hq] at this; cases this
        · rfl
      rw [← hzs]
      refine ef_iload_n (pc := 75) d147_75 rfl ?_
      refine ef_zret (pc := 76) d147_76 rfl (by unfold b01; split <;> omega) ?_
      exact ⟨rfl, rfl⟩
    · refine ef_iload_n (pc := 12) d147_12 rfl ?_
      refine ef_if_ne (pc := 13) d147_13 (t := 63) rfl (fun h13 => ?_) (fun h13 => ?_)
      · have hzt := b01_f h13
        refine ef_iconst (pc := 63) d147_63 (by decide) ?_
        refine ef_goto (pc := 64) d147_64 (t := 68) rfl ?_
        first
        | exact next true (by omega) ⟨fun _ => Or.inr hye, fun _ => rfl⟩ _
        | exact next true (by omega) ⟨fun _ => Or.inl hzt, fun _ => rfl⟩ _
        | exact next false (by omega) ⟨fun h => absurd h (by decide), fun h => by rcases h with h | h; (rw [hzf] at h; cases h); exact absurd h hno⟩ _
      · have hzf := b01_t h13
        refine ef_aload_n (pc := 16) d147_16 rfl ?_
        refine eg_getR (pc := 17) d147_17 lf_8_44 (by assumption) (by decide) (by assumption) ?_
        refine ef_iload (pc := 20) d147_20 rfl ?_
        refine eg_iald (pc := 22) d147_22 (i := i) (by assumption) (rfl) (by omega) ?_
        refine ef_if_lt (pc := 23) d147_23 (t := 67) rfl (fun h23 => ?_) (fun h23 => ?_)
        · have hno : ¬ ∃ q : Nat, 0 ≤ g (m + 12) i ∧ g (m + 14) i = (q : Int) ∧ 0 < q ∧ g (m + 13) i = b ∧ g (m + 13) q = a := fun ⟨q, q1, q2, q3, q4, q5⟩ => by omega
          refine ef_iconst (pc := 67) d147_67 (by decide) ?_
          first
          | exact next true (by omega) ⟨fun _ => Or.inr hye, fun _ => rfl⟩ _
          | exact next true (by omega) ⟨fun _ => Or.inl hzt, fun _ => rfl⟩ _
          | exact next false (by omega) ⟨fun h => absurd h (by decide), fun h => by rcases h with h | h; (rw [hzf] at h; cases h); exact absurd h hno⟩ _
        · obtain ⟨e, he, e1, e2, q, q1, q2, q3, q4⟩ := hR.1.1 i h1 (by omega) (by omega)
          refine ef_aload_n (pc := 26) d147_26 rfl ?_
          refine eg_getR (pc := 27) d147_27 lf_8_50 (by assumption) (by decide) (by assumption) ?_
          refine ef_iload (pc := 30) d147_30 rfl ?_
          refine eg_iald (pc := 32) d147_32 (i := i) (by assumption) (rfl) (by omega) ?_
          rw [q1]
          refine ef_if_le (pc := 33) d147_33 (t := 67) rfl (fun h33 => ?_) (fun h33 => ?_)
          · have hno : ¬ ∃ q : Nat, 0 ≤ g (m + 12) i ∧ g (m + 14) i = (q : Int) ∧ 0 < q ∧ g (m + 13) i = b ∧ g (m + 13) q = a := fun ⟨q9, a1, a2, a3, a4, a5⟩ => by omega
            refine ef_iconst (pc := 67) d147_67 (by decide) ?_
            first
            | exact next true (by omega) ⟨fun _ => Or.inr hye, fun _ => rfl⟩ _
            | exact next true (by omega) ⟨fun _ => Or.inl hzt, fun _ => rfl⟩ _
            | exact next false (by omega) ⟨fun h => absurd h (by decide), fun h => by rcases h with h | h; (rw [hzf] at h; cases h); exact absurd h hno⟩ _
          · refine ef_aload_n (pc := 36) d147_36 rfl ?_
            refine eg_getR (pc := 37) d147_37 lf_8_47 (by assumption) (by decide) (by assumption) ?_
            refine ef_iload (pc := 40) d147_40 rfl ?_
            refine eg_iald (pc := 42) d147_42 (i := i) (by assumption) (rfl) (by omega) ?_
            refine ef_iload_n (pc := 43) d147_43 rfl ?_
            refine ef_icmp_ne (pc := 44) d147_44 (t := 67) rfl (fun h44 => ?_) (fun h44 => ?_)
            · have hno : ¬ ∃ q : Nat, 0 ≤ g (m + 12) i ∧ g (m + 14) i = (q : Int) ∧ 0 < q ∧ g (m + 13) i = b ∧ g (m + 13) q = a := fun ⟨q9, a1, a2, a3, a4, a5⟩ => h44 a4
              refine ef_iconst (pc := 67) d147_67 (by decide) ?_
              first
              | exact next true (by omega) ⟨fun _ => Or.inr hye, fun _ => rfl⟩ _
              | exact next true (by omega) ⟨fun _ => Or.inl hzt, fun _ => rfl⟩ _
              | exact next false (by omega) ⟨fun h => absurd h (by decide), fun h => by rcases h with h | h; (rw [hzf] at h; cases h); exact absurd h hno⟩ _
            · refine ef_aload_n (pc := 47) d147_47 rfl ?_
              refine eg_getR (pc := 48) d147_48 lf_8_47 (by assumption) (by decide) (by assumption) ?_
              refine ef_aload_n (pc := 51) d147_51 rfl ?_
              refine eg_getR (pc := 52) d147_52 lf_8_50 (by assumption) (by decide) (by assumption) ?_
              refine ef_iload (pc := 55) d147_55 rfl ?_
              refine eg_iald (pc := 57) d147_57 (i := i) (by assumption) (rfl) (by omega) ?_
              rw [q1]
              refine eg_iald (pc := 58) d147_58 (i := q) (by assumption) (rfl) (by omega) ?_
              refine ef_iload_n (pc := 59) d147_59 rfl ?_
              refine ef_icmp_ne (pc := 60) d147_60 (t := 67) rfl (fun h60 => ?_) (fun h60 => ?_)
              · have hno : ¬ ∃ q : Nat, 0 ≤ g (m + 12) i ∧ g (m + 14) i = (q : Int) ∧ 0 < q ∧ g (m + 13) i = b ∧ g (m + 13) q = a := fun ⟨q9, a1, a2, a3, a4, a5⟩ => h60 (by rw [show q = q9 by omega]; exact a5)
                refine ef_iconst (pc := 67) d147_67 (by decide) ?_
                first
                | exact next true (by omega) ⟨fun _ => Or.inr hye, fun _ => rfl⟩ _
                | exact next true (by omega) ⟨fun _ => Or.inl hzt, fun _ => rfl⟩ _
                | exact next false (by omega) ⟨fun h => absurd h (by decide), fun h => by rcases h with h | h; (rw [hzf] at h; cases h); exact absurd h hno⟩ _
              · have hye : ∃ q : Nat, 0 ≤ g (m + 12) i ∧ g (m + 14) i = (q : Int) ∧ 0 < q ∧ g (m + 13) i = b ∧ g (m + 13) q = a := ⟨q, by omega, q1, by omega, h44, h60⟩
                refine ef_iconst (pc := 63) d147_63 (by decide) ?_
                refine ef_goto (pc := 64) d147_64 (t := 68) rfl ?_
                first
                | exact next true (by omega) ⟨fun _ => Or.inr hye, fun _ => rfl⟩ _
                | exact next true (by omega) ⟨fun _ => Or.inl hzt, fun _ => rfl⟩ _
                | exact next false (by omega) ⟨fun h => absurd h (by decide), fun h => by rcases h with h | h; (rw [hzf] at h; cases h); exact absurd h hno⟩ _
  change Ef P _ 147 0 [some (vR m), some (vI a), some (vI b), none, none] [] _ _
  refine ef_iconst (pc := 0) d147_0 (by decide) ?_
  refine ef_istore_n (pc := 1) d147_1 (ls' := [_, _, _, _, _]) rfl ?_
  refine ef_iconst (pc := 2) d147_2 (by decide) ?_
  refine ef_istore (pc := 3) d147_3 (ls' := [_, _, _, _, _]) rfl ?_
  exact loop 1 (by omega) (by omega) false ⟨fun h => absurd h (by decide), fun ⟨p, q, p1, p2, _⟩ => by omega⟩
theorem c146 {P : Pg} {d : Nat} {u : Mm} {g : Nat → Nat → Int} {m : Nat} {sz : Nat} {kd nm rp en : Nat → Int} {c : RS} {a b : Int} (hM : MdA u m) (hC : Mc g m kd nm rp en sz c) : Ec P (d + 1) 146 [vR m, vI a, vI b] (sI u g) (fun x u' => (¬ ((0 ≤ a ∧ a < 6) ∧ (0 ≤ b ∧ b < 6)) ∧ u' = sI u (u2 (u2 g m 0 0) m 0 1) ∧ x = .inl (some (vI 0))) ∨ (((0 ≤ a ∧ a < 6) ∧ (0 ≤ b ∧ b < 6)) ∧ u' = sI u (u2 g m 0 0) ∧ x = .inl (some (vI (b01 (shp c.1.1 a b)))))) := by
  have s0 := hM.1
  have hC1 : Mc (u2 g m 0 0) m kd nm rp en sz c := hC.fl (Or.inl rfl)
  change Ef P _ 146 0 [some (vR m), some (vI a), some (vI b)] [] _ _
  refine ef_aload_n (pc := 0) d146_0 rfl ?_
  refine ef_iconst (pc := 1) d146_1 (by decide) ?_
  refine eg_putI (pc := 2) d146_2 pf_146_141 (by assumption) (by decide) ?_
  refine ef_iload_n (pc := 5) d146_5 rfl ?_
  refine ef_iconst (pc := 6) d146_6 (by decide) ?_
  refine ef_iconst (pc := 7) d146_7 (by decide) ?_
  refine ef_callS (pc := 8) d146_8 lm_8_148 (as := [_, _, _]) rfl rfl rfl (Nat.le_of_ble_eq_true rfl) rfl (Nat.le_of_ble_eq_true rfl) ?_
  refine Ec.imp (c93) ?_
  rintro r8 u8 ⟨rfl, rfl⟩
  refine ef_if_eq (pc := 11) d146_11 (t := 23) rfl (fun h11 => ?_) (fun h11 => ?_)
  · have hf2 := of_decide_eq_false (b01_t h11)
    have hno : ¬ ((0 ≤ a ∧ a < 6) ∧ (0 ≤ b ∧ b < 6)) := fun hh => by omega
    refine ef_aload_n (pc := 23) d146_23 rfl ?_
    refine ef_iconst (pc := 24) d146_24 (by decide) ?_
    refine ef_callV (pc := 25) d146_25 lm_8_152 (as := [_]) rfl rfl (by assumption) rfl rfl (by decide) (Nat.le_of_ble_eq_true rfl) rfl (Nat.le_of_ble_eq_true rfl) ?_
    refine Ec.imp (c94 hM) ?_
    rintro r25 u25 ⟨rfl, rfl⟩
    refine ef_if_leT (pc := 28) d146_28 (t := 35) rfl (by decide) ?_
    refine ef_iconst (pc := 35) d146_35 (by decide) ?_
    refine ef_zret (pc := 36) d146_36 rfl (by omega) ?_
    exact Or.inl ⟨hno, rfl, rfl⟩
  · have hf2 := of_decide_eq_true (b01_f h11)
    refine ef_iload_n (pc := 14) d146_14 rfl ?_
    refine ef_iconst (pc := 15) d146_15 (by decide) ?_
    refine ef_iconst (pc := 16) d146_16 (by decide) ?_
    refine ef_callS (pc := 17) d146_17 lm_8_148 (as := [_, _, _]) rfl rfl rfl (Nat.le_of_ble_eq_true rfl) rfl (Nat.le_of_ble_eq_true rfl) ?_
    refine Ec.imp (c93) ?_
    rintro r17 u17 ⟨rfl, rfl⟩
    refine ef_if_ne (pc := 20) d146_20 (t := 37) rfl (fun h20 => ?_) (fun h20 => ?_)
    · have hf3 := of_decide_eq_true (b01_f h20)
      refine ef_aload_n (pc := 37) d146_37 rfl ?_
      refine ef_iload_n (pc := 38) d146_38 rfl ?_
      refine ef_iload_n (pc := 39) d146_39 rfl ?_
      refine ef_callV (pc := 40) d146_40 lm_8_344 (as := [_, _]) rfl rfl (by assumption) rfl rfl (by decide) (Nat.le_of_ble_eq_true rfl) rfl (Nat.le_of_ble_eq_true rfl) ?_
      refine Ec.imp (c147 hM hC1.2.1 hC1.2.2.1) ?_
      rintro r40 u40 ⟨rfl, rfl⟩
      refine ef_zret (pc := 43) d146_43 rfl (by unfold b01; split <;> omega) ?_
      exact Or.inr ⟨⟨by omega, by omega⟩, rfl, rfl⟩
    · have hf3 := of_decide_eq_false (b01_t h20)
      have hno : ¬ ((0 ≤ a ∧ a < 6) ∧ (0 ≤ b ∧ b < 6)) := fun hh => by omega
      refine ef_aload_n (pc := 23) d146_23 rfl ?_
      refine ef_iconst (pc := 24) d146_24 (by decide) ?_
      refine ef_callV (pc := 25) d146_25 lm_8_152 (as := [_]) rfl rfl (by assumption) rfl rfl (by decide) (Nat.le_of_ble_eq_true rfl) rfl (Nat.le_of_ble_eq_true rfl) ?_
      refine Ec.imp (c94 hM) ?_
      rintro r25 u25 ⟨rfl, rfl⟩
      refine ef_if_leT (pc := 28) d146_28 (t := 35) rfl (by decide) ?_
      refine ef_iconst (pc := 35) d146_35 (by decide) ?_
      refine ef_zret (pc := 36) d146_36 rfl (by omega) ?_
      exact Or.inl ⟨hno, rfl, rfl⟩
