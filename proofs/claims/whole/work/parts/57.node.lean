/-! The teller: a node told. Written by wip/whole/gen/c57.py. -/
theorem TL.b {g : Nat → Nat → Int} {l : Nat} {S : TS} (h : TL g l S) : S.1.length ≤ 240 ∧ S.2.2.length ≤ 240 ∧ ∀ p, p ∈ S.2.2 → p.1 ≤ p.2 ∧ p.2 ≤ S.1.length := h.2.2.2.2.2
theorem b01_f {b : Bool} (h : ¬ b01 b = 0) : b = true := by cases b; exact absurd rfl h; rfl
theorem b01_t {b : Bool} (h : b01 b = 0) : b = false := by cases b; rfl; exact absurd h (by decide)
/-- heights: what is inside is lower -/
def Hts (ht : Nat → Nat) (af : Nat → Nat) (sz : Nat) : Prop := ∀ k m, k < sz → k < m → m < af k → ht m < ht k
theorem c63 {P : Pg} {u : Mm} {l tm sz : Nat} {kd nm rp en : Nat → Int} {ht : Nat → Nat} (hA : TlA u l) (hTm : TmA u tm) (hdj : tm + 6 ≤ l ∨ l + 5 ≤ tm) (hsv : mS u (pSv P) = none) (hch : ∀ n, 0 ≤ nm n ∧ nm n < 65536) (hk : ∀ n, n < sz → 0 ≤ kd n ∧ kd n ≤ 5) (hv : TV en sz) (hh : Hts ht (afF en) sz) :
    ∀ (f n : Nat) (m : Int) (lv : Nat) (S : TS) (g : Nat → Nat → Int), 50 ≤ n + 1 + f → n < sz → lv + ht n ≤ 40 → TL g l S → S.2.1 = false → S.2.2.length ≤ S.1.length → g (tm + 1) = kd → g (tm + 2) = nm → g (tm + 3) = rp → g (tm + 4) = en →
    Ec P (ht n + 7) 63 [vR l, vR tm, vI (n : Int), vI m, vI (lv : Int)] (sI u g) (fun x u' => ∃ g' S', u' = sI u g' ∧ x = .inl none ∧ Off l (l + 5) g g' ∧ TL g' l S' ∧ Out S S' (txN kd nm rp (afF en) f n m)) := by
  obtain ⟨y0, y1, y2, y3, y4, y5, y6, y7, y8⟩ := id hA
  obtain ⟨k0, k1, k2, k3, k4, k5, k6, k7, k8, k9, k10⟩ := id hTm
  obtain ⟨hs50, hcl⟩ := hv
  intro f
  induction f using Nat.strongRecOn with
  | _ f ih0 =>
    intro n m lv S g hf hn hlv hS hfl hcnt hkd hnm hrp hen
    have hkn := hk n hn
    have hal := hcl n (Nat.zero_le _) hn
    have hchn := hch n
    generalize hmi : inm kd nm n m = mi
    generalize hhd : hdT kd nm rp n mi = H
    have hHl : 2 ≤ H.length := by rw [← hhd]; exact hdT_len
    have htx : txN kd nm rp (afF en) f n m = H ++ (if kd n = 5 then [] else jnL (decide (kd n ≠ 4)) (srtT (txR kd nm rp (afF en) f (n + 1) (afF en n) mi)) ++ (if kd n = 4 then [93] else [])) := by rw [txN, hmi, hhd]
    have hSb := hS.b
    have fin : ∀ (k : Nat) (v11 : Option Vl) (S1 : TS) (g1 : Nat → Nat → Int), kd n ≠ 5 → Off l (l + 5) g g1 → TL g1 l S1 → (Pcs (S.1 ++ H) S.2.2 (txR kd nm rp (afF en) f (n + 1) (afF en n) mi) S1 ∨ (S1.2.1 = true ∧ (∃ J, S1.2.2 = S.2.2 ++ J) ∧ 240 < S.1.length + (txN kd nm rp (afF en) f n m).length ∧ ∃ X, S1.1 = (S.1 ++ H) ++ X)) →
        Ef P (ht n + 7) 63 141 [some (vR l), some (vR tm), some (vI (n : Int)), some (vI m), some (vI (lv : Int)), some (vI (kd n)), some (vI mi), some (vI (S.2.2.length : Int)), some (vI ((S.1 ++ H).length : Int)), some (vI ((afF en n : Nat) : Int)), some (vI (k : Int)), v11] [] (sI u g1) (fun x u' => ∃ g' S', u' = sI u g' ∧ x = .inl none ∧ Off l (l + 5) g g' ∧ TL g' l S' ∧ Out S S' (txN kd nm rp (afF en) f n m)) := by
      intro k v11 S1 g1 hk5 o1 s1 hc
      have s1b := s1.b
      have hlen : S.2.2.length ≤ S1.2.2.length ∧ (S.1 ++ H).length ≤ S1.1.length ∧ S1.2.2.take S.2.2.length = S.2.2 := by
        rcases hc with ⟨c1, -, J, c2, -⟩ | ⟨-, ⟨J, c2⟩, -, X, c1⟩
        · exact ⟨by rw [c2, List.length_append]; omega, by rw [c1, List.length_append (as := S.1 ++ H)]; omega, by rw [c2, List.take_left]⟩
        · exact ⟨by rw [c2, List.length_append]; omega, by rw [c1, List.length_append (as := S.1 ++ H)]; omega, by rw [c2, List.take_left]⟩
      have hout : Out S (if kd n = 4 then putT 93 (jnT S.2.2.length (S.1 ++ H).length (decide (kd n ≠ 4)) S1) else jnT S.2.2.length (S.1 ++ H).length (decide (kd n ≠ 4)) S1) (txN kd nm rp (afF en) f n m) := by
        rw [htx, if_neg hk5]
        rcases hc with hc | ⟨c1, ⟨J, c2⟩, c3, X, c4⟩
        · rcases jn_ok (t := decide (kd n ≠ 4)) hc s1b.1 with hj | ⟨j1, j2, j3, X, j4⟩
          · rw [hj]
            split
            · by_cases hw : ((S.1 ++ H) ++ jnL (decide (kd n ≠ 4)) (srtT (txR kd nm rp (afF en) f (n + 1) (afF en n) mi))).length < 240
              · refine Or.inl ?_
                unfold putT
                rw [if_pos hw]
                simp only [List.append_assoc]
              · unfold putT
                rw [if_neg hw]
                refine Or.inr ⟨rfl, rfl, ?_, _, (List.append_assoc _ _ _)⟩
                simp only [List.length_append, List.length_cons, List.length_nil] at hw ⊢
                omega
            · refine Or.inl ?_
              simp only [List.append_assoc, List.append_nil]
          · have hlong : 240 < S.1.length + (H ++ (jnL (decide (kd n ≠ 4)) (srtT (txR kd nm rp (afF en) f (n + 1) (afF en n) mi)) ++ (if kd n = 4 then [93] else []))).length := by
              simp only [List.length_append] at j3 ⊢
              omega
            split
            · obtain ⟨q1, q2, Y, q3⟩ := put_long (c := 93) j1
              exact Or.inr ⟨q1, q2.trans j2, by rename_i h4; rw [if_pos h4] at hlong; exact hlong, _, by rw [q3, j4, List.append_assoc, List.append_assoc]⟩
            · exact Or.inr ⟨j1, j2, by rename_i h4; rw [if_neg h4] at hlong; exact hlong, _, by rw [j4, List.append_assoc]⟩
        · obtain ⟨j1, j2, X', j4⟩ := jn_long (first := S.2.2.length) (fr := (S.1 ++ H).length) (t := decide (kd n ≠ 4)) c1
          rw [htx, if_neg hk5] at c3
          rw [hlen.2.2] at j2
          split
          · obtain ⟨q1, q2, Y, q3⟩ := put_long (c := 93) j1
            exact Or.inr ⟨q1, q2.trans j2, by rename_i h4; rw [if_pos h4] at c3; exact c3, _, by rw [q3, j4, c4, List.append_assoc, List.append_assoc, List.append_assoc]⟩
          · exact Or.inr ⟨j1, j2, by rename_i h4; rw [if_neg h4] at c3; exact c3, _, by rw [j4, c4, List.append_assoc, List.append_assoc]⟩
      have hp : ∀ p, p ∈ S1.2.2.take S.2.2.length → p.2 ≤ (S.1 ++ H).length := by
        intro p hp
        rw [hlen.2.2] at hp
        have := (hSb.2.2 p hp).2
        rw [List.length_append]; omega
      have hj : ∀ t, S1.2.1 = false → 2 ≤ S1.2.2.length - S.2.2.length → (joinL t ((S1.2.2.drop S.2.2.length).map (sub S1.1))).length = S1.1.length - (S.1 ++ H).length + (S1.2.2.length - S.2.2.length) - 1 + (if t = true then 2 else 0) := by
        intro t h1 h2
        rcases hc with hc | ⟨c1, -⟩
        · exact jn_len hc h2
        · rw [c1] at h1; cases h1
      refine ef_aload_n (pc := 141) d63_141 rfl ?_
      refine ef_iload (pc := 142) d63_142 rfl ?_
      refine ef_iload (pc := 144) d63_144 rfl ?_
      refine ef_iload (pc := 146) d63_146 rfl ?_
      refine ef_iconst (pc := 148) d63_148 (by decide) ?_
      refine ef_icmp_eq (pc := 149) d63_149 (t := 156) rfl (fun h149 => ?_) (fun h149 => ?_)
      · rw [show decide (kd n ≠ 4) = false from by simp [h149], if_pos h149] at hout
        refine ef_iconst (pc := 156) d63_156 (by decide) ?_
        refine ef_callV (pc := 157) d63_157 lm_5_94 (as := [_, _, _]) rfl rfl (by assumption) rfl rfl (by decide) (Nat.le_of_ble_eq_true rfl) rfl (Nat.le_of_ble_eq_true rfl) ?_
        refine Ec.imp (c66 (t := false) hA s1 hlen.1 hlen.2.1 hp (hj false)) ?_
        rintro r157 u157 ⟨g2, rfl, rfl, o2, s2⟩
        refine ef_iload (pc := 160) d63_160 rfl ?_
        refine ef_iconst (pc := 162) d63_162 (by decide) ?_
        refine ef_icmp_neF (pc := 163) d63_163 (t := 172) rfl (by exact h149) ?_
        refine ef_aload_n (pc := 166) d63_166 rfl ?_
        refine ef_bipush (pc := 167) d63_167 (by decide) ?_
        refine ef_callV (pc := 169) d63_169 lm_5_67 (as := [_]) rfl rfl (by assumption) rfl rfl (by decide) (Nat.le_of_ble_eq_true rfl) rfl (Nat.le_of_ble_eq_true rfl) ?_
        refine Ec.imp (c60 hA s2 (by decide) (by decide)) ?_
        rintro r169 u169 ⟨g3, rfl, rfl, o3, s3⟩
        refine ef_vret (pc := 172) d63_172 rfl ?_
        exact ⟨_, _, rfl, rfl, (o1.trans o2).trans o3, s3, hout⟩
      · rw [show decide (kd n ≠ 4) = true from by simp [h149], if_neg h149] at hout
        refine ef_iconst (pc := 152) d63_152 (by decide) ?_
        refine ef_goto (pc := 153) d63_153 (t := 157) rfl ?_
        refine ef_callV (pc := 157) d63_157 lm_5_94 (as := [_, _, _]) rfl rfl (by assumption) rfl rfl (by decide) (Nat.le_of_ble_eq_true rfl) rfl (Nat.le_of_ble_eq_true rfl) ?_
        refine Ec.imp (c66 (t := true) hA s1 hlen.1 hlen.2.1 hp (hj true)) ?_
        rintro r157 u157 ⟨g2, rfl, rfl, o2, s2⟩
        refine ef_iload (pc := 160) d63_160 rfl ?_
        refine ef_iconst (pc := 162) d63_162 (by decide) ?_
        refine ef_icmp_neT (pc := 163) d63_163 (t := 172) rfl (by omega) ?_
        refine ef_vret (pc := 172) d63_172 rfl ?_
        exact ⟨_, _, rfl, rfl, (o1.trans o2), s2, hout⟩
    have loop : kd n ≠ 5 → ∀ (fk k : Nat) (v11 : Option Vl) (dn : List (List Int)) (S1 : TS) (g1 : Nat → Nat → Int), fk ≤ f → 50 ≤ k + fk → n < k → k ≤ afF en n → Off l (l + 5) g g1 → TL g1 l S1 → Pcs (S.1 ++ H) S.2.2 dn S1 → (∀ x, x ∈ dn → 2 ≤ x.length) → dn ++ txR kd nm rp (afF en) fk k (afF en n) mi = txR kd nm rp (afF en) f (n + 1) (afF en n) mi →
        Ef P (ht n + 7) 63 89 [some (vR l), some (vR tm), some (vI (n : Int)), some (vI m), some (vI (lv : Int)), some (vI (kd n)), some (vI mi), some (vI (S.2.2.length : Int)), some (vI ((S.1 ++ H).length : Int)), some (vI ((afF en n : Nat) : Int)), some (vI (k : Int)), v11] [] (sI u g1) (fun x u' => ∃ g' S', u' = sI u g' ∧ x = .inl none ∧ Off l (l + 5) g g' ∧ TL g' l S' ∧ Out S S' (txN kd nm rp (afF en) f n m)) := by
      intro hk5 fk
      induction fk with
      | zero =>
        intro k v11 dn S1 g1 _ h1 h2 h3 o1 s1 hc _ he
        have hkk : k = afF en n := by omega
        rw [show txR kd nm rp (afF en) 0 k (afF en n) mi = [] from rfl, List.append_nil] at he
        refine ef_iload (pc := 89) d63_89 rfl ?_
        refine ef_iload (pc := 91) d63_91 rfl ?_
        refine ef_icmp_geT (pc := 93) d63_93 (t := 141) rfl (by omega) ?_
        exact fin _ _ _ _ hk5 o1 s1 (Or.inl (by rw [← he]; exact hc))
      | succ fk ih =>
        intro k v11 dn S1 g1 hff h1 h2 h3 o1 s1 hc hge he
        have s1b := s1.b
        obtain ⟨w1, w2, w3, w4, w5, w6, w7, w8⟩ := id s1
        have hc1 := hc.1
        have hc2 := hc.2.1
        have hcc := hc.cnt
        have hsl : S1.1.length = S.1.length + H.length + sumL dn := by rw [hc1, List.length_append, List.length_append, flat_len]
        have hdl : dn.length ≤ sumL dn := sumL_ge (fun x hx => by have := hge x hx; omega)
        refine ef_iload (pc := 89) d63_89 rfl ?_
        refine ef_iload (pc := 91) d63_91 rfl ?_
        refine ef_icmp_ge (pc := 93) d63_93 (t := 141) rfl (fun h93 => ?_) (fun h93 => ?_)
        · have hkk : k = afF en n := by omega
          have he0 : txR kd nm rp (afF en) (fk + 1) k (afF en n) mi = [] := by rw [txR, if_pos (by omega)]
          rw [he0, List.append_nil] at he
          exact fin _ _ _ _ hk5 o1 s1 (Or.inl (by rw [← he]; exact hc))
        · have hlt : k < afF en n := by omega
          rw [txR_s hlt] at he
          have hck := hcl k (Nat.zero_le _) (by omega)
          have hk3 := hal.2.2 k h2 hlt
          have hht := hh n k hn h2 hlt
          have hTp := txN_pos (kd := kd) (nm := nm) (rp := rp) (af := afF en) (f := fk) (n := k) (m := mi)
          have hTl : S.1.length + H.length + sumL dn + (txN kd nm rp (afF en) fk k mi).length ≤ S.1.length + (txN kd nm rp (afF en) f n m).length := by
            rw [htx, if_neg hk5, ← he]
            have h9 := jnL_ge (t := decide (kd n ≠ 4)) (l := srtT (dn ++ txN kd nm rp (afF en) fk k mi :: txR kd nm rp (afF en) fk (afF en k) (afF en n) mi))
            rw [srtT_sum] at h9
            have h10 : sumL (dn ++ txN kd nm rp (afF en) fk k mi :: txR kd nm rp (afF en) fk (afF en k) (afF en n) mi) = sumL dn + ((txN kd nm rp (afF en) fk k mi).length + sumL (txR kd nm rp (afF en) fk (afF en k) (afF en n) mi)) := by simp [sumL]
            rw [h10] at h9
            rw [List.length_append, List.length_append]
            omega
          refine ef_aload_n (pc := 96) d63_96 rfl ?_
          refine eg_getZ (pc := 97) d63_97 lf_5_32 (by assumption) (by decide) ?_
          rw [w3, hc2]
          refine ef_if_neF (pc := 100) d63_100 (t := 141) rfl (by decide) ?_
          refine ef_aload_n (pc := 103) d63_103 rfl ?_
          refine eg_getI (pc := 104) d63_104 lf_5_25 (by assumption) (by decide) ?_
          rw [w1]
          refine ef_istore (pc := 107) d63_107 (ls' := [_, _, _, _, _, _, _, _, _, _, _, _]) rfl ?_
          refine ef_aload_n (pc := 109) d63_109 rfl ?_
          refine ef_aload_n (pc := 110) d63_110 rfl ?_
          refine ef_iload (pc := 111) d63_111 rfl ?_
          refine ef_iload (pc := 113) d63_113 rfl ?_
          refine ef_iload (pc := 115) d63_115 rfl ?_
          refine ef_iconst (pc := 117) d63_117 (by decide) ?_
          refine ef_iadd (pc := 118) d63_118 (z := ((lv + 1 : Nat) : Int)) (by omega) ⟨by omega, by omega⟩ ?_
          refine ef_callV (pc := 119) d63_119 lm_5_87 (as := [_, _, _, _]) rfl rfl (by assumption) rfl rfl (by decide) (Nat.le_of_ble_eq_true rfl) rfl (Nat.le_of_ble_eq_true rfl) ?_
          refine Ec.imp (Ec.deep (by omega) (ih0 fk (by omega) k mi (lv + 1) S1 g1 (by omega) (by omega) (by omega) s1 hc2 (by omega) ((o1 _ (by omega)).trans hkd) ((o1 _ (by omega)).trans hnm) ((o1 _ (by omega)).trans hrp) ((o1 _ (by omega)).trans hen))) ?_
          rintro r119 u119 ⟨g2, S2, rfl, rfl, o2, s2, hO⟩
          have s2b := s2.b
          have hS2 : S2.2.2 = S1.2.2 ∧ S1.1.length ≤ S2.1.length := by
            rcases hO with hO | ⟨-, hO, -, X, hX⟩
            · rw [hO]; exact ⟨rfl, by rw [List.length_append]; omega⟩
            · rw [hX]; exact ⟨hO, by rw [List.length_append]; omega⟩
          refine ef_aload_n (pc := 122) d63_122 rfl ?_
          refine ef_iload (pc := 123) d63_123 rfl ?_
          refine ef_iload (pc := 125) d63_125 rfl ?_
          refine ef_callV (pc := 127) d63_127 lm_5_74 (as := [_, _]) rfl rfl (by assumption) rfl rfl (by decide) (Nat.le_of_ble_eq_true rfl) rfl (Nat.le_of_ble_eq_true rfl) ?_
          refine Ec.imp (c61 hA s2 (by rw [hS2.1]; omega) hS2.2) ?_
          rintro r127 u127 ⟨g3, rfl, rfl, o3, hI⟩
          refine ef_aload_n (pc := 130) d63_130 rfl ?_
          refine ef_iload (pc := 131) d63_131 rfl ?_
          refine ef_callV (pc := 133) d63_133 lm_5_113 (as := [_]) rfl rfl (by assumption) rfl rfl (by decide) (Nat.le_of_ble_eq_true rfl) rfl (Nat.le_of_ble_eq_true rfl) ?_
          refine Ec.imp (c82 hTm (by omega) ((o3 _ (by omega)).trans ((o2 _ (by omega)).trans ((o1 _ (by omega)).trans hen)))) ?_
          rintro r133 u133 ⟨rfl, rfl⟩
          refine ef_istore (pc := 136) d63_136 (ls' := [_, _, _, _, _, _, _, _, _, _, _, _]) rfl ?_
          refine ef_goto (pc := 138) d63_138 (t := 89) rfl ?_
          skip
          rcases hI with ⟨-, h, hI, s3⟩ | ⟨hI, -⟩
          · rcases hO with hO | ⟨hO1, hO2, hO3, X, hO4⟩
            · subst hO
              refine ih _ _ (dn ++ [txN kd nm rp (afF en) fk k mi]) _ _ (by omega) (by omega) (by omega) hk3 ((o1.trans o2).trans o3) s3 ?_ ?_ ?_
              · have := Pcs.add hc s1b.2.2 hI
                rw [hc2] at this
                exact this
              · intro x hx
                rcases List.mem_append.mp hx with hx | hx
                · exact hge x hx
                · rw [List.mem_singleton.mp hx]; exact hTp
              · rw [← he, List.append_assoc]; rfl
            · have hst : ∃ J, (S2.1, (S2.2.1, S2.2.2.take h ++ (S1.1.length, S2.1.length) :: S2.2.2.drop h)).2.2 = S.2.2 ++ J := by
                obtain ⟨-, -, J, hJ, -⟩ := hc
                have i1 := hI.1
                refine ⟨J.take (h - S.2.2.length) ++ (S1.1.length, S2.1.length) :: J.drop (h - S.2.2.length), ?_⟩
                show S2.2.2.take h ++ (S1.1.length, S2.1.length) :: S2.2.2.drop h = _
                rw [hO2, hJ, List.take_append, List.drop_append, List.take_of_length_le i1, List.drop_eq_nil_of_le i1, List.append_assoc, List.nil_append]
              have hfin := fin (afF en k) (some (vI ((S1.1.length : Nat) : Int))) (S2.1, (S2.2.1, S2.2.2.take h ++ (S1.1.length, S2.1.length) :: S2.2.2.drop h)) _ hk5 ((o1.trans o2).trans o3) s3 (Or.inr ⟨hO1, hst, by omega, dn.flatten ++ X, by show S2.1 = _; rw [hO4, hc1, List.append_assoc]⟩)
              have w3b := s3.2.2.1
              refine ef_iload (pc := 89) d63_89 rfl ?_
              refine ef_iload (pc := 91) d63_91 rfl ?_
              refine ef_icmp_ge (pc := 93) d63_93 (t := 141) rfl (fun h93 => ?_) (fun h93 => ?_)
              · exact hfin
              · refine ef_aload_n (pc := 96) d63_96 rfl ?_
                refine eg_getZ (pc := 97) d63_97 lf_5_32 (by assumption) (by decide) ?_
                rw [w3b]
                refine ef_if_neT (pc := 100) d63_100 (t := 141) rfl (by show ¬ b01 S2.2.1 = 0; rw [hO1]; decide) ?_
                exact hfin
          · rw [hS2.1] at hI; omega
    have rest : Ef P (ht n + 7) 63 29 [some (vR l), some (vR tm), some (vI (n : Int)), some (vI m), some (vI (lv : Int)), some (vI (kd n)), none, none, none, none, none, none] [vI mi] (sI u g) (fun x u' => ∃ g' S', u' = sI u g' ∧ x = .inl none ∧ Off l (l + 5) g g' ∧ TL g' l S' ∧ Out S S' (txN kd nm rp (afF en) f n m)) := by
      refine ef_istore (pc := 29) d63_29 (ls' := [_, _, _, _, _, _, _, _, _, _, _, _]) rfl ?_
      refine ef_aload_n (pc := 31) d63_31 rfl ?_
      refine ef_aload_n (pc := 32) d63_32 rfl ?_
      refine ef_iload_n (pc := 33) d63_33 rfl ?_
      refine ef_iload (pc := 34) d63_34 rfl ?_
      refine ef_callV (pc := 36) d63_36 lm_5_109 (as := [_, _, _]) rfl rfl (by assumption) rfl rfl (by decide) (Nat.le_of_ble_eq_true rfl) rfl (Nat.le_of_ble_eq_true rfl) ?_
      refine Ec.imp (c64 hA hTm hdj hsv hS (by omega) hch hkn hkd hnm hrp) ?_
      rintro r36 u36 ⟨g1, rfl, rfl, o1, s1⟩
      rw [hhd] at s1
      have hp1 := puts_ok H hfl hSb.1
      generalize hS1 : putsT H S = S1 at s1 hp1
      have s1b := s1.b
      obtain ⟨w1, w2, w3, w4, w5, w6, w7, w8⟩ := id s1
      refine ef_iload (pc := 39) d63_39 rfl ?_
      refine ef_bipush (pc := 41) d63_41 (by decide) ?_
      refine ef_icmp_leT (pc := 43) d63_43 (t := 51) rfl (by omega) ?_
      refine ef_iload (pc := 51) d63_51 rfl ?_
      refine ef_iconst (pc := 53) d63_53 (by decide) ?_
      refine ef_icmp_eq (pc := 54) d63_54 (t := 64) rfl (fun h54 => ?_) (fun h54 => ?_)
      · have h5 : txN kd nm rp (afF en) f n m = H := by rw [htx, if_pos h54, List.append_nil]
        refine ef_vret (pc := 64) d63_64 rfl ?_
        first
        | exact ⟨_, _, rfl, rfl, o1, s1, by rw [h5]; exact hp1⟩
        | (refine ⟨_, _, rfl, rfl, o1, s1, ?_⟩
           rcases hp1 with hp1 | ⟨q1, q2, q3, q4⟩
           · rw [hp1] at hbt; cases hbt
           · refine Or.inr ⟨q1, q2, ?_, q4⟩
             rw [htx, List.length_append]; omega)
      · refine ef_aload_n (pc := 57) d63_57 rfl ?_
        refine eg_getZ (pc := 58) d63_58 lf_5_32 (by assumption) (by decide) ?_
        try simp (disch := omega) only [u2_ne, u2_at, u2_ni, ur_ne, ur_eq]
        rw [w3]
        refine ef_if_eq (pc := 61) d63_61 (t := 65) rfl (fun h61 => ?_) (fun h61 => ?_)
        · have hbf := b01_t h61
          have hS1e : S1 = (S.1 ++ H, (false, S.2.2)) := by
            rcases hp1 with hp1 | ⟨hp1, -⟩
            · exact hp1
            · rw [hp1] at hbf; cases hbf
          subst hS1e
          refine ef_aload_n (pc := 65) d63_65 rfl ?_
          refine eg_getI (pc := 66) d63_66 lf_5_29 (by assumption) (by decide) ?_
          try simp (disch := omega) only [u2_ne, u2_at, u2_ni, ur_ne, ur_eq]
          rw [w4]
          refine ef_istore (pc := 69) d63_69 (ls' := [_, _, _, _, _, _, _, _, _, _, _, _]) rfl ?_
          refine ef_aload_n (pc := 71) d63_71 rfl ?_
          refine eg_getI (pc := 72) d63_72 lf_5_25 (by assumption) (by decide) ?_
          try simp (disch := omega) only [u2_ne, u2_at, u2_ni, ur_ne, ur_eq]
          rw [w1]
          refine ef_istore (pc := 75) d63_75 (ls' := [_, _, _, _, _, _, _, _, _, _, _, _]) rfl ?_
          refine ef_aload_n (pc := 77) d63_77 rfl ?_
          refine ef_iload_n (pc := 78) d63_78 rfl ?_
          refine ef_callV (pc := 79) d63_79 lm_5_113 (as := [_]) rfl rfl (by assumption) rfl rfl (by decide) (Nat.le_of_ble_eq_true rfl) rfl (Nat.le_of_ble_eq_true rfl) ?_
          refine Ec.imp (c82 hTm (by omega) ((o1 _ (by omega)).trans hen)) ?_
          rintro r79 u79 ⟨rfl, rfl⟩
          refine ef_istore (pc := 82) d63_82 (ls' := [_, _, _, _, _, _, _, _, _, _, _, _]) rfl ?_
          refine ef_iload_n (pc := 84) d63_84 rfl ?_
          refine ef_iconst (pc := 85) d63_85 (by decide) ?_
          refine ef_iadd (pc := 86) d63_86 (z := ((n + 1 : Nat) : Int)) (by omega) ⟨by omega, by omega⟩ ?_
          refine ef_istore (pc := 87) d63_87 (ls' := [_, _, _, _, _, _, _, _, _, _, _, _]) rfl ?_
          exact loop h54 f (n + 1) _ [] _ _ (by omega) (by omega) (by omega) (by omega) o1 s1 ⟨by simp, rfl, [], by simp, rfl⟩ (fun x hx => absurd hx (List.not_mem_nil)) (by simp)
        · have hbt := b01_f h61
          refine ef_vret (pc := 64) d63_64 rfl ?_
          first
          | exact ⟨_, _, rfl, rfl, o1, s1, by rw [h5]; exact hp1⟩
          | (refine ⟨_, _, rfl, rfl, o1, s1, ?_⟩
             rcases hp1 with hp1 | ⟨q1, q2, q3, q4⟩
             · rw [hp1] at hbt; cases hbt
             · refine Or.inr ⟨q1, q2, ?_, q4⟩
               rw [htx, List.length_append]; omega)
    change Ef P _ 63 0 [some (vR l), some (vR tm), some (vI (n : Int)), some (vI m), some (vI (lv : Int)), none, none, none, none, none, none, none] [] _ _
    refine ef_aload_n (pc := 0) d63_0 rfl ?_
    refine eg_getR (pc := 1) d63_1 lf_5_98 (by assumption) (by decide) (by assumption) ?_
    refine ef_iload_n (pc := 4) d63_4 rfl ?_
    refine eg_iald (pc := 5) d63_5 (i := n) (by assumption) (rfl) (by omega) ?_
    rw [hkd]
    refine ef_istore (pc := 6) d63_6 (ls' := [_, _, _, _, _, _, _, _, _, _, _, _]) rfl ?_
    refine ef_iload (pc := 8) d63_8 rfl ?_
    refine ef_iconst (pc := 10) d63_10 (by decide) ?_
    refine ef_icmp_ne (pc := 11) d63_11 (t := 28) rfl (fun h11 => ?_) (fun h11 => ?_)
    · have hmm : mi = m := hmi.symm.trans (if_neg h11)
      rw [hmm] at rest
      refine ef_iload_n (pc := 28) d63_28 rfl ?_
      exact rest
    · have h11b : kd n = 3 := h11
      refine ef_aload_n (pc := 14) d63_14 rfl ?_
      refine eg_getR (pc := 15) d63_15 lf_5_103 (by assumption) (by decide) (by assumption) ?_
      refine ef_iload_n (pc := 18) d63_18 rfl ?_
      refine eg_cald (pc := 19) d63_19 (i := n) (by assumption) (rfl) (by omega) ?_
      rw [hnm]
      refine ef_iconst (pc := 20) d63_20 (by decide) ?_
      refine ef_iload_n (pc := 21) d63_21 rfl ?_
      refine ef_callS (pc := 22) d63_22 lm_5_105 (as := [_, _, _]) rfl rfl rfl (Nat.le_of_ble_eq_true rfl) rfl (Nat.le_of_ble_eq_true rfl) ?_
      refine Ec.imp (c8 hchn.1 hchn.2 (by omega) (by omega)) ?_
      rintro r22 u22 ⟨rfl, rfl⟩
      have hmm : mi = bdF (nm n) (-1) m := hmi.symm.trans (if_pos h11b)
      rw [hmm] at rest
      refine ef_goto (pc := 25) d63_25 (t := 29) rfl ?_
      exact rest
