/-! The model: the search of an explored state. Written by wip/whole/gen/c9n.py. -/
theorem INVe {g g1 : Nat → Nat → Int} {m n : Nat} {b k : Int} (h : (g1 = g ∧ b = -1 ∧ (n : Int) ≤ k)) : (∀ a, a ≠ m → g1 a = g a) ∧ ∀ f, f ≠ 65 → f ≠ 66 → g1 m f = g m f := by
  rw [h.1]; exact ⟨fun _ _ => rfl, fun _ _ _ => rfl⟩
theorem c131e {P : Pg} {d : Nat} {u : Mm} {g : Nat → Nat → Int} {m : Nat} {sz kN : Nat} {kd nm rp en : Nat → Int} {ht : Nat → Nat} {A : SS} {R : List Rd} {st k : Int} (hM : MdA u m) (hT : TmOk kd nm en sz ht) (hTr : TrR g m kd nm rp en sz) (hA : Rel g m A) (hV : Vd kd nm sz A) (hR : rxS kd A = R) (hst : g m 29 = st) (hcr : ∀ kk oo, kk < 40 → 1 ≤ oo → oo < 51 → -1 ≤ g (m + 22) (51 * kk + oo) ∧ g (m + 22) (51 * kk + oo) ≤ st) (hst2 : -1 ≤ st ∧ st ≤ 2147480000) (hk : k = (kN : Int)) (hk2 : inR k) : Ec P (d + 3) 131 [vR m, vI k] (sI u g) (fun x u' => (∃ w kk oo, R[kN]? = some w ∧ Sl g m w kk oo ∧ x = .inl (some (vI 1)) ∧ u' = sI u (u2 (u2 g m 65 (kk : Int)) m 66 (oo : Int))) ∨ (R.length ≤ kN ∧ x = .inl (some (vI 0)) ∧ u' = sI u g)) := by
  have s0 := hM.1
  have f21 : mF u m 21 = some (m + 15) := (hM.2 14 (by decide)).1
  have s21 : mS u (m + 15) = some (0, 40) := (hM.2 14 (by decide)).2
  have f31 : mF u m 31 = some (m + 22) := (hM.2 21 (by decide)).1
  have s31 : mS u (m + 22) = some (0, 2040) := (hM.2 21 (by decide)).2
  have hs : Srt R := by rw [← hR]; exact rxS_srt hV
  have hl : R.length ≤ 1200 := by rw [← hR]; exact rxS_len hV
  have hsl : ∀ w, w ∈ R → ∃ kk oo, Sl g m w kk oo ∧ 0 ≤ w.2.1 ∧ 0 ≤ w.2.2 := fun w hw => rx_slots (kd := kd) hA hV (by rw [hR]; exact hw)
  have fin : ∀ (n : Nat) (b : Int) (g1 : Nat → Nat → Int) (v4 v5 v6 v7 : Option Vl), n = R.length → (g1 = g ∧ b = -1 ∧ (n : Int) ≤ k) → Ef P (d + 3) 131 143 [some (vR m), some (vI k), some (vI (n : Int)), some (vI b), v4, v5, v6, v7] [] (sI u g1) (fun x u' => (∃ w kk oo, R[kN]? = some w ∧ Sl g m w kk oo ∧ x = .inl (some (vI 1)) ∧ u' = sI u (u2 (u2 g m 65 (kk : Int)) m 66 (oo : Int))) ∨ (R.length ≤ kN ∧ x = .inl (some (vI 0)) ∧ u' = sI u g)) := by
    intro n b g1 v4 v5 v6 v7 hn hI
    subst hn
    refine ef_iload_n (pc := 143) d131_143 rfl ?_
    refine ef_if_ltF (pc := 144) d131_144 (t := 151) rfl (by omega) ?_
    refine ef_iconst (pc := 147) d131_147 (by decide) ?_
    refine ef_goto (pc := 148) d131_148 (t := 152) rfl ?_
    refine ef_iret (pc := 152) d131_152 rfl ?_
    exact Or.inr ⟨by have := hI.2.2; omega, rfl, by rw [hI.1]⟩
  -- the inner loop: others of one guard
  have inner : ∀ (kk : Nat), kk < 40 → 0 ≤ g (m + 15) kk →
      (∀ (n : Nat) (b : Int) (g1 : Nat → Nat → Int) (v5 v6 v7 : Option Vl), Cut R n (g (m + 15) kk + 1, -1) → (g1 = g ∧ b = -1 ∧ (n : Int) ≤ k) → Ef P (d + 3) 131 127 [some (vR m), some (vI k), some (vI (n : Int)), some (vI b), some (vI (kk : Int)), v5, v6, v7] [] (sI u g1) (fun x u' => (∃ w kk oo, R[kN]? = some w ∧ Sl g m w kk oo ∧ x = .inl (some (vI 1)) ∧ u' = sI u (u2 (u2 g m 65 (kk : Int)) m 66 (oo : Int))) ∨ (R.length ≤ kN ∧ x = .inl (some (vI 0)) ∧ u' = sI u g))) →
      ∀ (F n : Nat) (b : Int) (g1 : Nat → Nat → Int) (oo : Nat) (v6 v7 : Option Vl), 1 ≤ oo → oo < 51 → 0 ≤ oNum g m oo → A.2.2.2.1 ≤ oNum g m oo + (F : Int) → Cut R n (g (m + 15) kk, oNum g m oo) → (g1 = g ∧ b = -1 ∧ (n : Int) ≤ k) → Ef P (d + 3) 131 23 [some (vR m), some (vI k), some (vI (n : Int)), some (vI b), some (vI (kk : Int)), some (vI (oo : Int)), v6, v7] [] (sI u g1) (fun x u' => (∃ w kk oo, R[kN]? = some w ∧ Sl g m w kk oo ∧ x = .inl (some (vI 1)) ∧ u' = sI u (u2 (u2 g m 65 (kk : Int)) m 66 (oo : Int))) ∨ (R.length ≤ kN ∧ x = .inl (some (vI 0)) ∧ u' = sI u g)) := by
    intro kk hkk hg0 cont
    have onx : ∀ oo, 1 ≤ oo → oo < 51 → oNum g m oo < A.2.2.2.1 := by
      intro oo h1 h2
      have hv6 := hV.2.2.2.2.2.1
      have hv8 := hV.2.2.2.2.2.2.2.1
      have hv2 := hV.2.1
      unfold oNum
      split
      · by_cases h0 : 0 ≤ g (m + 12) oo
        · obtain ⟨e, he, e1, -⟩ := hA.1.1 oo h1 (by omega) h0
          have := (hv6.2 e he).2; omega
        · omega
      · by_cases h0 : 0 ≤ g (m + 19) (oo - 21)
        · obtain ⟨e, he, e1, -⟩ := hA.2.2.1.1 (oo - 21) (by omega) h0
          have := (hv8.2 e he).2; omega
        · omega
    intro F
    induction F with
    | zero =>
      intro n b g1 oo v6 v7 h1 h2 h0 hF
      have := onx oo h1 h2
      omega
    | succ F ih =>
      intro n b g1 oo v6 v7 h1 h2 h0 hF hc hI
      obtain ⟨hg1, hg2⟩ := INVe (m := m) hI
      obtain ⟨nn, q, hnq⟩ := gd_at hT hTr hA hV hkk
      have hnq1 : 0 ≤ g1 (m + 15) kk → g1 (m + 16) kk = (nn : Int) ∧ nn < 51 ∧ g1 (m + 17) kk = (q : Int) ∧ q < 21 ∧ -100 < g1 (m + 5) nn ∧ g1 (m + 5) nn < 100 := by rw [hg1 _ (by omega), hg1 _ (by omega), hg1 _ (by omega), hg1 _ (by omega)]; exact hnq
      have hrx := isR_rx hT hTr hA hV hkk h1 h2 (n := nn) (q := q) (fun h => ⟨(hnq h).1, (hnq h).2.2.1⟩)
      rw [hR] at hrx
      -- on to the next other
      have next : ∀ (n : Nat) (b : Int) (g1 : Nat → Nat → Int) (v6 v7 : Option Vl), Cut R n (g (m + 15) kk, oNum g m oo + 1) → (g1 = g ∧ b = -1 ∧ (n : Int) ≤ k) → Ef P (d + 3) 131 112 [some (vR m), some (vI k), some (vI (n : Int)), some (vI b), some (vI (kk : Int)), some (vI (oo : Int)), v6, v7] [] (sI u g1) (fun x u' => (∃ w kk oo, R[kN]? = some w ∧ Sl g m w kk oo ∧ x = .inl (some (vI 1)) ∧ u' = sI u (u2 (u2 g m 65 (kk : Int)) m 66 (oo : Int))) ∨ (R.length ≤ kN ∧ x = .inl (some (vI 0)) ∧ u' = sI u g)) := by
        intro n b g1 v6 v7 hc hI
        obtain ⟨hg1, hg2⟩ := INVe (m := m) hI
        refine ef_aload_n (pc := 112) d131_112 rfl ?_
        refine ef_aload_n (pc := 113) d131_113 rfl ?_
        refine ef_iload (pc := 114) d131_114 rfl ?_
        refine ef_callV (pc := 116) d131_116 lm_8_292 (as := [_]) rfl rfl (by assumption) rfl rfl (by decide) (Nat.le_of_ble_eq_true rfl) rfl (Nat.le_of_ble_eq_true rfl) ?_
        refine Ec.imp (c128 hM (by omega)) ?_
        rintro r116 u116 ⟨rfl, rfl⟩
        rw [oNum_of hg1]
        refine ef_callV (pc := 119) d131_119 lm_8_298 (as := [_]) rfl rfl (by assumption) rfl rfl (by decide) (Nat.le_of_ble_eq_true rfl) rfl (Nat.le_of_ble_eq_true rfl) ?_
        refine Ec.imp (c133 (d := d + 1) hM) ?_
        rintro r119 u119 ⟨rfl, hb⟩
        simp only [oNum_of hg1] at hb
        rcases hb with ⟨rfl, hb⟩ | ⟨o2, rfl, q1, q2, q3, q4⟩
        · refine ef_istore (pc := 122) d131_122 (ls' := [_, _, _, _, _, _, _, _]) rfl ?_
          refine ef_goto (pc := 124) d131_124 (t := 23) rfl ?_
          refine ef_iload (pc := 23) d131_23 rfl ?_
          refine ef_if_ltT (pc := 25) d131_25 (t := 127) rfl (by decide) ?_
          refine cont n b g1 _ _ _ (hc.to fun w hw => ?_) hI
          obtain ⟨k3, o3, ⟨x1, x2, x3, x4, x5⟩, x6, x7⟩ := hsl w hw
          have := hb o3 x2 x3
          unfold lt2
          simp only
          rw [x5] at this
          omega
        · refine ef_istore (pc := 122) d131_122 (ls' := [_, _, _, _, _, _, _, _]) rfl ?_
          refine ef_goto (pc := 124) d131_124 (t := 23) rfl ?_
          refine ih n b g1 o2 _ _ q1 q2 (by omega) (by omega) (hc.to fun w hw => ?_) hI
          obtain ⟨k3, o3, ⟨x1, x2, x3, x4, x5⟩, x6, x7⟩ := hsl w hw
          unfold lt2
          simp only
          by_cases hgt : oNum g m oo < w.2.2
          · have := q4 o3 x2 x3 (by rw [x5]; exact hgt)
            rw [x5] at this
            omega
          · omega
      refine ef_iload (pc := 23) d131_23 rfl ?_
      refine ef_if_ltF (pc := 25) d131_25 (t := 127) rfl (by omega) ?_
      refine ef_aload_n (pc := 28) d131_28 rfl ?_
      refine ef_iload (pc := 29) d131_29 rfl ?_
      refine ef_iload (pc := 31) d131_31 rfl ?_
      refine ef_callV (pc := 33) d131_33 lm_8_301 (as := [_, _]) rfl rfl (by assumption) rfl rfl (by decide) (Nat.le_of_ble_eq_true rfl) rfl (Nat.le_of_ble_eq_true rfl) ?_
      refine Ec.imp (c129 (d := d + 1) hM hkk h2 hnq1) ?_
      rintro r33 u33 ⟨rfl, hb⟩
      rcases hb with ⟨hyes, rfl⟩ | ⟨hno, rfl⟩
      · have hin := hrx.mp ((isR_of hg1).mp hyes)
        obtain ⟨w, hw, hw2⟩ := hin
        have hwn := hc.at hs hw hw2
        have hcu := hc.up hs hwn hw2
        have hdr := hcr kk oo hkk h1 h2
        have hnl := (List.getElem?_eq_some_iff.mp hwn).1
        have hst1 : g1 m 29 = st := by rw [hg2 29 (by decide) (by decide)]; exact hst
        have hcam : g1 (m + 22) (51 * kk + oo) = g (m + 22) (51 * kk + oo) := by rw [hg1 _ (by omega)]
        generalize hx : g (m + 22) (51 * kk + oo) = x at hdr hcam
        have hsln : Sl g m w kk oo := ⟨hkk, h1, h2, by rw [hw2], by rw [hw2]⟩
        refine ef_if_eqF (pc := 36) d131_36 (t := 112) rfl (by decide) ?_
        refine ef_aload_n (pc := 39) d131_39 rfl ?_
        refine eg_getI (pc := 40) d131_40 lf_8_212 (by assumption) (by decide) ?_
        rw [hst1]
        refine ef_aload_n (pc := 43) d131_43 rfl ?_
        refine eg_getR (pc := 44) d131_44 lf_8_74 (by assumption) (by decide) (by assumption) ?_
        refine ef_bipush (pc := 47) d131_47 (by decide) ?_
        refine ef_iload (pc := 49) d131_49 rfl ?_
        refine ef_imul (pc := 51) d131_51 (z := ((51 * kk : Nat) : Int)) (by omega) ⟨by omega, by omega⟩ ?_
        refine ef_iload (pc := 52) d131_52 rfl ?_
        refine ef_iadd (pc := 54) d131_54 (z := ((51 * kk + oo : Nat) : Int)) (by omega) ⟨by omega, by omega⟩ ?_
        refine eg_iald (pc := 55) d131_55 (i := 51 * kk + oo) (by assumption) (rfl) (by omega) ?_
        rw [hcam]
        refine ef_isub (pc := 56) d131_56 rfl ⟨by omega, by omega⟩ ?_
        refine ef_istore (pc := 57) d131_57 (ls' := [_, _, _, _, _, _, _, _]) rfl ?_
        refine ef_iload_n (pc := 59) d131_59 rfl ?_
        refine ef_iload_n (pc := 60) d131_60 rfl ?_
        refine ef_icmp_eq (pc := 61) d131_61 (t := 75) rfl (fun h61 => ?_) (fun h61 => ?_)
        · refine ef_iconst (pc := 75) d131_75 (by decide) ?_
          refine ef_goto (pc := 76) d131_76 (t := 80) rfl ?_
          refine ef_istore (pc := 80) d131_80 (ls' := [_, _, _, _, _, _, _, _]) rfl ?_
          refine ef_iload (pc := 82) d131_82 rfl ?_
          refine ef_if_eqF (pc := 84) d131_84 (t := 109) rfl (by decide) ?_
          refine ef_iload (pc := 87) d131_87 rfl ?_
          refine ef_istore_n (pc := 89) d131_89 (ls' := [_, _, _, _, _, _, _, _]) rfl ?_
          refine ef_aload_n (pc := 90) d131_90 rfl ?_
          refine ef_iload (pc := 91) d131_91 rfl ?_
          refine eg_putI (pc := 93) d131_93 pf_131_304 (by assumption) (by decide) ?_
          refine ef_aload_n (pc := 96) d131_96 rfl ?_
          refine ef_iload (pc := 97) d131_97 rfl ?_
          refine eg_putI (pc := 99) d131_99 pf_131_307 (by assumption) (by decide) ?_
          refine ef_iload_n (pc := 102) d131_102 rfl ?_
          refine ef_iload_n (pc := 103) d131_103 rfl ?_
          refine ef_icmp_neF (pc := 104) d131_104 (t := 109) rfl (by omega) ?_
          refine ef_iconst (pc := 107) d131_107 (by decide) ?_
          refine ef_iret (pc := 108) d131_108 rfl ?_
          exact Or.inl ⟨w, kk, oo, by rw [show kN = n by omega]; exact hwn, hsln, rfl, by rw [hI.1]⟩
        · refine ef_iload_n (pc := 64) d131_64 rfl ?_
          refine ef_iconst (pc := 65) d131_65 (by decide) ?_
          refine ef_icmp_ge (pc := 66) d131_66 (t := 79) rfl (fun h66 => ?_) (fun h66 => ?_)
          · refine ef_iconst (pc := 79) d131_79 (by decide) ?_
            refine ef_istore (pc := 80) d131_80 (ls' := [_, _, _, _, _, _, _, _]) rfl ?_
            refine ef_iload (pc := 82) d131_82 rfl ?_
            refine ef_if_eqT (pc := 84) d131_84 (t := 109) rfl (by decide) ?_
            refine ef_iinc (pc := 109) d131_109 (ls' := [_, _, _, _, _, _, _, _]) (z := ((n + 1 : Nat) : Int)) rfl (by decide) (by omega) ⟨by omega, by omega⟩ rfl ?_
            refine next (n + 1) _ _ _ _ hcu ?_
            exact ⟨hI.1, hI.2.1, by have := hI.2.2; omega⟩
          · omega
      · have hnn : ∀ w, w ∈ R → w.2 ≠ (g (m + 15) kk, oNum g m oo) := fun w hw hw2 => hno ((isR_of hg1).mpr (hrx.mpr ⟨w, hw, hw2⟩))
        refine ef_if_eqT (pc := 36) d131_36 (t := 112) rfl (by decide) ?_
        exact next n b g1 _ _ (hc.no hnn) hI
  have gnx : ∀ kk, kk < 40 → g (m + 15) kk < A.2.2.2.1 := by
    intro kk h2
    have hv7 := hV.2.2.2.2.2.2.1
    have hv2 := hV.2.1
    by_cases h0 : 0 ≤ g (m + 15) kk
    · obtain ⟨e, he, e1, -⟩ := hA.2.1.1 kk h2 h0
      have := (hv7.2 e he).2; omega
    · omega
  have outer : ∀ (F n : Nat) (b : Int) (g1 : Nat → Nat → Int) (kk : Nat) (v5 v6 v7 : Option Vl), kk < 40 → 0 ≤ g (m + 15) kk → A.2.2.2.1 ≤ g (m + 15) kk + (F : Int) → Cut R n (g (m + 15) kk, -1) → (g1 = g ∧ b = -1 ∧ (n : Int) ≤ k) → Ef P (d + 3) 131 11 [some (vR m), some (vI k), some (vI (n : Int)), some (vI b), some (vI (kk : Int)), v5, v6, v7] [] (sI u g1) (fun x u' => (∃ w kk oo, R[kN]? = some w ∧ Sl g m w kk oo ∧ x = .inl (some (vI 1)) ∧ u' = sI u (u2 (u2 g m 65 (kk : Int)) m 66 (oo : Int))) ∨ (R.length ≤ kN ∧ x = .inl (some (vI 0)) ∧ u' = sI u g)) := by
    intro F
    induction F with
    | zero =>
      intro n b g1 kk v5 v6 v7 h1 h0 hF
      have := gnx kk h1
      omega
    | succ F ih =>
      intro n b g1 kk v5 v6 v7 h1 h0 hF hc hI
      obtain ⟨hg1, hg2⟩ := INVe (m := m) hI
      have cont : ∀ (n : Nat) (b : Int) (g1 : Nat → Nat → Int) (v5 v6 v7 : Option Vl), Cut R n (g (m + 15) kk + 1, -1) → (g1 = g ∧ b = -1 ∧ (n : Int) ≤ k) → Ef P (d + 3) 131 127 [some (vR m), some (vI k), some (vI (n : Int)), some (vI b), some (vI (kk : Int)), v5, v6, v7] [] (sI u g1) (fun x u' => (∃ w kk oo, R[kN]? = some w ∧ Sl g m w kk oo ∧ x = .inl (some (vI 1)) ∧ u' = sI u (u2 (u2 g m 65 (kk : Int)) m 66 (oo : Int))) ∨ (R.length ≤ kN ∧ x = .inl (some (vI 0)) ∧ u' = sI u g)) := by
        intro n b g1 v5 v6 v7 hc hI
        obtain ⟨hg1, hg2⟩ := INVe (m := m) hI
        have hgk : g1 (m + 15) kk = g (m + 15) kk := by rw [hg1 _ (by omega)]
        refine ef_aload_n (pc := 127) d131_127 rfl ?_
        refine ef_aload_n (pc := 128) d131_128 rfl ?_
        refine eg_getR (pc := 129) d131_129 lf_8_53 (by assumption) (by decide) (by assumption) ?_
        refine ef_iload (pc := 132) d131_132 rfl ?_
        refine eg_iald (pc := 134) d131_134 (i := kk) (by assumption) (rfl) (by omega) ?_
        rw [hgk]
        refine ef_callV (pc := 135) d131_135 lm_8_295 (as := [_]) rfl rfl (by assumption) rfl rfl (by decide) (Nat.le_of_ble_eq_true rfl) rfl (Nat.le_of_ble_eq_true rfl) ?_
        refine Ec.imp (c132 (d := d + 2) hM) ?_
        rintro r135 u135 ⟨rfl, hb⟩
        rw [show g1 (m + 15) = g (m + 15) from hg1 _ (by omega)] at hb
        rcases hb with ⟨rfl, hb⟩ | ⟨k2, rfl, q1, q2, q3, q4⟩
        · refine ef_istore (pc := 138) d131_138 (ls' := [_, _, _, _, _, _, _, _]) rfl ?_
          refine ef_goto (pc := 140) d131_140 (t := 11) rfl ?_
          refine ef_iload (pc := 11) d131_11 rfl ?_
          refine ef_if_ltT (pc := 13) d131_13 (t := 143) rfl (by decide) ?_
          refine fin n b g1 _ _ _ _ (hc.all fun w hw => ?_) hI
          obtain ⟨k3, o3, ⟨x1, x2, x3, x4, x5⟩, x6, x7⟩ := hsl w hw
          have := hb k3 (Nat.zero_le _) x1
          rw [x4] at this
          exact Or.inl (by show w.2.1 < g (m + 15) kk + 1; omega)
        · refine ef_istore (pc := 138) d131_138 (ls' := [_, _, _, _, _, _, _, _]) rfl ?_
          refine ef_goto (pc := 140) d131_140 (t := 11) rfl ?_
          refine ih n b g1 k2 _ _ _ q2 (by omega) (by omega) (hc.to fun w hw => ?_) hI
          obtain ⟨k3, o3, ⟨x1, x2, x3, x4, x5⟩, x6, x7⟩ := hsl w hw
          unfold lt2
          simp only
          by_cases hgt : g (m + 15) kk < w.2.1
          · have := q4 k3 (Nat.zero_le _) x1 (by rw [x4]; exact hgt)
            rw [x4] at this
            omega
          · omega
      refine ef_iload (pc := 11) d131_11 rfl ?_
      refine ef_if_ltF (pc := 13) d131_13 (t := 143) rfl (by omega) ?_
      refine ef_aload_n (pc := 16) d131_16 rfl ?_
      refine ef_iconst (pc := 17) d131_17 (by decide) ?_
      refine ef_callV (pc := 18) d131_18 lm_8_298 (as := [_]) rfl rfl (by assumption) rfl rfl (by decide) (Nat.le_of_ble_eq_true rfl) rfl (Nat.le_of_ble_eq_true rfl) ?_
      refine Ec.imp (c133 (d := d + 1) hM) ?_
      rintro r18 u18 ⟨rfl, hb⟩
      simp only [oNum_of hg1] at hb
      rcases hb with ⟨rfl, hb⟩ | ⟨o2, rfl, q1, q2, q3, q4⟩
      · refine ef_istore (pc := 21) d131_21 (ls' := [_, _, _, _, _, _, _, _]) rfl ?_
        refine ef_iload (pc := 23) d131_23 rfl ?_
        refine ef_if_ltT (pc := 25) d131_25 (t := 127) rfl (by decide) ?_
        refine cont n b g1 _ _ _ (hc.to fun w hw => ?_) hI
        obtain ⟨k3, o3, ⟨x1, x2, x3, x4, x5⟩, x6, x7⟩ := hsl w hw
        have := hb o3 x2 x3
        rw [x5] at this
        omega
      · refine ef_istore (pc := 21) d131_21 (ls' := [_, _, _, _, _, _, _, _]) rfl ?_
        refine inner kk h1 h0 cont A.2.2.2.1.toNat n b g1 o2 _ _ q1 q2 (by omega) (by omega) (hc.to fun w hw => ?_) hI
        obtain ⟨k3, o3, ⟨x1, x2, x3, x4, x5⟩, x6, x7⟩ := hsl w hw
        have := q4 o3 x2 x3 (by rw [x5]; omega)
        rw [x5] at this
        unfold lt2
        simp only
        omega
  have hI0 : ∀ g1, g1 = g → (g1 = g ∧ (-1 : Int) = -1 ∧ ((0 : Nat) : Int) ≤ k) := fun g1 h1 => ⟨h1, rfl, by omega⟩
  change Ef P _ 131 0 [some (vR m), some (vI k), none, none, none, none, none, none] [] _ _
  refine ef_iconst (pc := 0) d131_0 (by decide) ?_
  refine ef_istore_n (pc := 1) d131_1 (ls' := [_, _, _, _, _, _, _, _]) rfl ?_
  refine ef_iconst (pc := 2) d131_2 (by decide) ?_
  refine ef_istore_n (pc := 3) d131_3 (ls' := [_, _, _, _, _, _, _, _]) rfl ?_
  refine ef_aload_n (pc := 4) d131_4 rfl ?_
  refine ef_iconst (pc := 5) d131_5 (by decide) ?_
  refine ef_callV (pc := 6) d131_6 lm_8_295 (as := [_]) rfl rfl (by assumption) rfl rfl (by decide) (Nat.le_of_ble_eq_true rfl) rfl (Nat.le_of_ble_eq_true rfl) ?_
  refine Ec.imp (c132 (d := d + 2) hM) ?_
  rintro r6 u6 ⟨rfl, hb⟩
  rcases hb with ⟨rfl, hb⟩ | ⟨k2, rfl, q1, q2, q3, q4⟩
  · refine ef_istore (pc := 9) d131_9 (ls' := [_, _, _, _, _, _, _, _]) rfl ?_
    refine ef_iload (pc := 11) d131_11 rfl ?_
    refine ef_if_ltT (pc := 13) d131_13 (t := 143) rfl (by decide) ?_
    refine fin 0 (-1) g _ _ _ _ ?_ (hI0 g rfl)
    cases hRc : R with
    | nil => rfl
    | cons w l =>
      obtain ⟨k3, o3, ⟨x1, x2, x3, x4, x5⟩, x6, x7⟩ := hsl w (by rw [hRc]; exact List.mem_cons_self)
      have := hb k3 (Nat.zero_le _) x1
      rw [x4] at this
      omega
  · refine ef_istore (pc := 9) d131_9 (ls' := [_, _, _, _, _, _, _, _]) rfl ?_
    refine outer A.2.2.2.1.toNat 0 (-1) g k2 _ _ _ q2 (by omega) (by omega) ⟨Nat.zero_le _, fun j w hw => ?_⟩ (hI0 g rfl)
    obtain ⟨k3, o3, ⟨x1, x2, x3, x4, x5⟩, x6, x7⟩ := hsl w (List.mem_of_getElem? hw)
    have := q4 k3 (Nat.zero_le _) x1 (by rw [x4]; omega)
    rw [x4] at this
    unfold lt2
    simp only
    omega
