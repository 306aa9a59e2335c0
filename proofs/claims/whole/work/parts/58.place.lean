/-! The teller: a place told, a state told. Written by wip/whole/gen/c58.py. -/
def inE (w : Int) (e : Tg) : Bool := decide (e.2.1 = w)
/-- the text of what is in a place -/
def pcG (kd nm rp : Nat → Int) (af : Nat → Nat) (w : Int) (gs : List Tg) : List (List Int) := (gs.filter (inE w)).map (fun e => txN kd nm rp af 50 e.2.2.2.1.toNat e.2.2.2.2)
def pcM (w : Int) (ms : List Tg) : List (List Int) := (ms.filter (inE w)).map (fun e => [39, (97 + e.2.2.1) % 65536])
def pcP (F : Int → List Int) (w : Int) (ps : List Tg) : List (List Int) := (ps.filter (inE w)).map (fun e => [(97 + e.2.2.1) % 65536, 91] ++ F e.1 ++ [93])
def plT (kd nm rp : Nat → Int) (af : Nat → Nat) (ps gs ms : List Tg) : Nat → Int → List Int
  | 0, _ => []
  | f + 1, w => jnL false (srtT (pcP (plT kd nm rp af ps gs ms f) w ps ++ (pcG kd nm rp af w gs ++ pcM w ms)))
theorem pcP_y {F : Int → List Int} {w : Int} {e : Tg} {l : List Tg} (h : e.2.1 = w) : pcP F w (e :: l) = ([(97 + e.2.2.1) % 65536, 91] ++ F e.1 ++ [93]) :: pcP F w l := by
  unfold pcP; rw [List.filter_cons_of_pos (by exact decide_eq_true h)]; rfl
theorem pcP_n {F : Int → List Int} {w : Int} {e : Tg} {l : List Tg} (h : ¬ e.2.1 = w) : pcP F w (e :: l) = pcP F w l := by
  unfold pcP; rw [List.filter_cons_of_neg (by simp [inE, h])]
theorem pcG_y {kd nm rp : Nat → Int} {af : Nat → Nat} {w : Int} {e : Tg} {l : List Tg} (h : e.2.1 = w) : pcG kd nm rp af w (e :: l) = txN kd nm rp af 50 e.2.2.2.1.toNat e.2.2.2.2 :: pcG kd nm rp af w l := by
  unfold pcG; rw [List.filter_cons_of_pos (by exact decide_eq_true h)]; rfl
theorem pcG_n {kd nm rp : Nat → Int} {af : Nat → Nat} {w : Int} {e : Tg} {l : List Tg} (h : ¬ e.2.1 = w) : pcG kd nm rp af w (e :: l) = pcG kd nm rp af w l := by
  unfold pcG; rw [List.filter_cons_of_neg (by simp [inE, h])]
theorem pcM_y {w : Int} {e : Tg} {l : List Tg} (h : e.2.1 = w) : pcM w (e :: l) = [39, (97 + e.2.2.1) % 65536] :: pcM w l := by
  unfold pcM; rw [List.filter_cons_of_pos (by exact decide_eq_true h)]; rfl
theorem pcM_n {w : Int} {e : Tg} {l : List Tg} (h : ¬ e.2.1 = w) : pcM w (e :: l) = pcM w l := by
  unfold pcM; rw [List.filter_cons_of_neg (by simp [inE, h])]
/-- among the pieces of a place: all well, or too long -/
def Amg (S : TS) (T : Nat) (all dn rest : List (List Int)) (S1 : TS) : Prop := (S.2.1 = false ∧ Pcs S.1 S.2.2 dn S1 ∧ (∀ x, x ∈ dn → 2 ≤ x.length) ∧ dn ++ rest = all) ∨ (S1.2.1 = true ∧ (∃ J, S1.2.2 = S.2.2 ++ J) ∧ (S.2.1 = false → 240 < S.1.length + T) ∧ ∃ X, S1.1 = S.1 ++ X)
theorem Amg.len {S S1 : TS} {T : Nat} {all dn rest : List (List Int)} (h : Amg S T all dn rest S1) : S.2.2.length ≤ S1.2.2.length ∧ S.1.length ≤ S1.1.length ∧ S1.2.2.take S.2.2.length = S.2.2 := by
  rcases h with ⟨-, ⟨c1, -, J, c2, -⟩, -⟩ | ⟨-, ⟨J, c2⟩, -, X, c1⟩
  · exact ⟨by rw [c2, List.length_append]; omega, by rw [c1, List.length_append]; omega, by rw [c2, List.take_left]⟩
  · exact ⟨by rw [c2, List.length_append]; omega, by rw [c1, List.length_append]; omega, by rw [c2, List.take_left]⟩
/-- one more piece -/
theorem Amg.step {S S1 S2 S3 : TS} {T : Nat} {all dn rest : List (List Int)} {x : List Int} (h : Amg S T all dn (x :: rest) S1) (hf : S1.2.1 = false) (hx : 2 ≤ x.length) (hT : sumL all ≤ T) (hq : ∀ p, p ∈ S1.2.2 → p.1 ≤ p.2 ∧ p.2 ≤ S1.1.length) (hcn : S.2.2.length ≤ S.1.length) (h2 : S2.1.length ≤ 240)
    (hO : Out S1 S2 x) (hI : (S2.2.2.length < 240 ∧ ∃ h, Ins S2.1 S.2.2.length (S1.1.length, S2.1.length) S2.2.2 h ∧ S3 = (S2.1, (S2.2.1, S2.2.2.take h ++ (S1.1.length, S2.1.length) :: S2.2.2.drop h))) ∨ (240 ≤ S2.2.2.length ∧ S3 = (S2.1, (true, S2.2.2)))) : Amg S T all (dn ++ [x]) rest S3 := by
  rcases h with ⟨h0, hc, hge, he⟩ | ⟨h1, -⟩
  · have hcc := hc.cnt
    have hc1 := hc.1
    have hdl : dn.length ≤ sumL dn := sumL_ge (fun x hx => by have := hge x hx; omega)
    have hsl : S1.1.length = S.1.length + sumL dn := by rw [hc1, List.length_append, flat_len]
    have hal : sumL all = sumL dn + (x.length + sumL rest) := by rw [← he]; simp [sumL]
    have hJ : ∃ J, S1.2.2 = S.2.2 ++ J := ⟨_, hc.2.2.choose_spec.1⟩
    rcases hO with hO | ⟨o1, o2, o3, X, o4⟩
    · subst hO
      have hlen : (S1.1 ++ x).length = S1.1.length + x.length := List.length_append
      rcases hI with ⟨-, h, hI, rfl⟩ | ⟨hI, -⟩
      · refine Or.inl ⟨h0, ?_, ?_, by rw [← he, List.append_assoc]; rfl⟩
        · have := Pcs.add hc hq hI
          rw [hf] at this
          exact this
        · intro y hy
          rcases List.mem_append.mp hy with hy | hy
          · exact hge y hy
          · rw [List.mem_singleton.mp hy]; exact hx
      · have hI2 : 240 ≤ S1.2.2.length := hI
        have h22 : (S1.1 ++ x).length ≤ 240 := h2
        omega
    · have hX : ∃ X, S2.1 = S.1 ++ X := ⟨dn.flatten ++ X, by rw [o4, hc1, List.append_assoc]⟩
      rcases hI with ⟨-, h, hI, rfl⟩ | ⟨hI, rfl⟩
      · refine Or.inr ⟨o1, ?_, fun _ => by omega, hX⟩
        obtain ⟨J, hJ⟩ := hJ
        have i1 := hI.1
        refine ⟨J.take (h - S.2.2.length) ++ (S1.1.length, S2.1.length) :: J.drop (h - S.2.2.length), ?_⟩
        show S2.2.2.take h ++ (S1.1.length, S2.1.length) :: S2.2.2.drop h = _
        rw [o2, hJ, List.take_append, List.drop_append, List.take_of_length_le i1, List.drop_eq_nil_of_le i1, List.append_assoc, List.nil_append]
      · refine Or.inr ⟨rfl, ?_, fun _ => by omega, hX⟩
        obtain ⟨J, hJ⟩ := hJ
        exact ⟨J, o2.trans hJ⟩
  · rw [hf] at h1; cases h1
/-- a telling in one piece, or after a part that is too long -/
theorem Out.app {S S1 S2 : TS} {x y : List Int} (h1 : Out S S1 x) (h2 : S1.2.1 = false → Out S1 S2 y) (h3 : S1.2.1 = true → S2.2.1 = true ∧ S2.2.2 = S1.2.2 ∧ ∃ X, S2.1 = S1.1 ++ X) : Out S S2 (x ++ y) := by
  rcases h1 with h1 | ⟨a1, a2, a3, X, a4⟩
  · subst h1
    rcases h2 rfl with h | ⟨b1, b2, b3, Y, b4⟩
    · refine Or.inl ?_
      rw [h]
      simp only [List.append_assoc]
    · refine Or.inr ⟨b1, b2, ?_, x ++ Y, by rw [b4, List.append_assoc]⟩
      simp only [List.length_append] at b3 ⊢
      omega
  · obtain ⟨b1, b2, Y, b3⟩ := h3 a1
    refine Or.inr ⟨b1, b2.trans a2, ?_, X ++ Y, by rw [b3, a4, List.append_assoc]⟩
    simp only [List.length_append]
    omega
def Lng (S S' : TS) : Prop := S'.2.1 = true ∧ S'.2.2 = S.2.2 ∧ ∃ X, S'.1 = S.1 ++ X

theorem c59 {P : Pg} {u : Mm} {l tm s sz : Nat} {kd nm rp en : Nat → Int} {ht : Nat → Nat} {ps gs ms : List Tg} {rk : Int → Nat} (hA : TlA u l) (hTm : TmA u tm) (hSt : StA u s) (hdj : tm + 6 ≤ l ∨ l + 5 ≤ tm) (hds : s + 21 ≤ l ∨ l + 5 ≤ s) (hsv : mS u (pSv P) = none) (hch : ∀ n, 0 ≤ nm n ∧ nm n < 65536) (hk : ∀ n, n < sz → 0 ≤ kd n ∧ kd n ≤ 5) (hv : TV en sz) (hh : Hts ht (afF en) sz) (h19 : ∀ n, n < sz → ht n ≤ 19) (hgn : ∀ e, e ∈ gs → ∃ n : Nat, e.2.2.2.1 = (n : Int) ∧ n < sz) (hln : ps.length ≤ 20 ∧ gs.length ≤ 40 ∧ ms.length ≤ 30) (hnp : ∀ e, e ∈ ps → -97 ≤ e.2.2.1 ∧ e.2.2.1 ≤ 100) (hnq : ∀ e, e ∈ ms → -97 ≤ e.2.2.1 ∧ e.2.2.1 ≤ 100) (hrk : ∀ e, e ∈ ps → rk e.1 < rk e.2.1) :
    ∀ (f : Nat) (w : Int) (lv : Nat) (S : TS) (g : Nat → Nat → Int), rk w < f → lv + rk w ≤ 20 → TL g l S → (S.2.1 = false → S.2.2.length ≤ S.1.length) → Th g (s + 1) ps → Th g (s + 7) gs → Th g (s + 13) ms → g (tm + 1) = kd → g (tm + 2) = nm → g (tm + 3) = rp → g (tm + 4) = en →
    Ec P (rk w + 27) 59 [vR l, vR s, vR tm, vI w, vI (lv : Int)] (sI u g) (fun x u' => ∃ g' S', u' = sI u g' ∧ x = .inl none ∧ Off l (l + 5) g g' ∧ TL g' l S' ∧ (S.2.1 = false → Out S S' (plT kd nm rp (afF en) ps gs ms f w)) ∧ (S.2.1 = true → Lng S S')) := by
  obtain ⟨y0, y1, y2, y3, y4, y5, y6, y7, y8⟩ := id hA
  obtain ⟨k0, k1, k2, k3, k4, k5, k6, k7, k8, k9, k10⟩ := id hTm
  obtain ⟨q0, q1, q2, q3, q4, hP, hG, hM, hL⟩ := hSt
  obtain ⟨a0, a1, a2, a3, a4, a5, a6, a7, a8, a9, a10⟩ := id hP
  obtain ⟨b0, b1, b2, b3, b4, b5, b6, b7, b8, b9, b10⟩ := id hG
  obtain ⟨e0, e1, e2, e3, e4, e5, e6, e7, e8, e9, e10⟩ := id hM
  obtain ⟨hl1, hl2, hl3⟩ := hln
  intro f
  induction f with
  | zero => intro w lv S g h1; omega
  | succ f ih0 =>
    intro w lv S g hf hlv hS hcnt hps hgs hms hkd hnm hrp hen
    have hSb := hS.b
    generalize hall : pcP (plT kd nm rp (afF en) ps gs ms f) w ps ++ (pcG kd nm rp (afF en) w gs ++ pcM w ms) = all
    have htx : plT kd nm rp (afF en) ps gs ms (f + 1) w = jnL false (srtT all) := by rw [plT, hall]
    generalize hTg : (plT kd nm rp (afF en) ps gs ms (f + 1) w).length = T
    have hTs : sumL all ≤ T := by
      rw [← hTg, htx]
      have := jnL_ge (t := false) (l := srtT all)
      rw [srtT_sum] at this
      exact this
    have fin : ∀ (v7 v8 : Option Vl) (dn : List (List Int)) (S1 : TS) (g1 : Nat → Nat → Int), Off l (l + 5) g g1 → TL g1 l S1 → Amg S T all dn [] S1 →
        Ef P (rk w + 27) 59 295 [some (vR l), some (vR s), some (vR tm), some (vI w), some (vI (lv : Int)), some (vI (S.2.2.length : Int)), some (vI (S.1.length : Int)), v7, v8] [] (sI u g1) (fun x u' => ∃ g' S', u' = sI u g' ∧ x = .inl none ∧ Off l (l + 5) g g' ∧ TL g' l S' ∧ (S.2.1 = false → Out S S' (plT kd nm rp (afF en) ps gs ms (f + 1) w)) ∧ (S.2.1 = true → Lng S S')) := by
      intro v7 v8 dn S1 g1 o1 s1 hc
      have s1b := s1.b
      have hlen := hc.len
      have hp : ∀ p, p ∈ S1.2.2.take S.2.2.length → p.2 ≤ S.1.length := by
        intro p hp
        rw [hlen.2.2] at hp
        exact (hSb.2.2 p hp).2
      have hj : S1.2.1 = false → 2 ≤ S1.2.2.length - S.2.2.length → (joinL false ((S1.2.2.drop S.2.2.length).map (sub S1.1))).length = S1.1.length - S.1.length + (S1.2.2.length - S.2.2.length) - 1 + (if false = true then 2 else 0) := by
        intro h1 h2
        rcases hc with ⟨-, hc, -⟩ | ⟨c1, -⟩
        · exact jn_len hc h2
        · rw [c1] at h1; cases h1
      have hout : (S.2.1 = false → Out S (jnT S.2.2.length S.1.length false S1) (plT kd nm rp (afF en) ps gs ms (f + 1) w)) ∧ (S.2.1 = true → Lng S (jnT S.2.2.length S.1.length false S1)) := by
        rcases hc with ⟨h0, hc, -, he⟩ | ⟨c1, -, c3, X, c4⟩
        · rw [List.append_nil] at he
          subst he
          refine ⟨fun _ => ?_, fun hh => by rw [h0] at hh; cases hh⟩
          rw [htx]
          rcases jn_ok (t := false) hc s1b.1 with hj | ⟨j1, j2, j3, X, j4⟩
          · exact Or.inl hj
          · exact Or.inr ⟨j1, j2, j3, X, j4⟩
        · obtain ⟨j1, j2, X2, j4⟩ := jn_long (first := S.2.2.length) (fr := S.1.length) (t := false) c1
          rw [hlen.2.2] at j2
          have j5 : ∃ X, (jnT S.2.2.length S.1.length false S1).1 = S.1 ++ X := ⟨X ++ X2, by rw [j4, c4, List.append_assoc]⟩
          exact ⟨fun hh => Or.inr ⟨j1, j2, by rw [hTg]; exact c3 hh, j5⟩, fun hh => ⟨j1, j2, j5⟩⟩
      refine ef_aload_n (pc := 295) d59_295 rfl ?_
      refine ef_iload (pc := 296) d59_296 rfl ?_
      refine ef_iload (pc := 298) d59_298 rfl ?_
      refine ef_iconst (pc := 300) d59_300 (by decide) ?_
      refine ef_callV (pc := 301) d59_301 lm_5_94 (as := [_, _, _]) rfl rfl (by assumption) rfl rfl (by decide) (Nat.le_of_ble_eq_true rfl) rfl (Nat.le_of_ble_eq_true rfl) ?_
      refine Ec.imp (c66 (t := false) hA s1 hlen.1 hlen.2.1 hp hj) ?_
      rintro r301 u301 ⟨g2, rfl, rfl, o2, s2⟩
      refine ef_vret (pc := 304) d59_304 rfl ?_
      exact ⟨_, _, rfl, rfl, o1.trans o2, s2, hout⟩
    have lp3 : ∀ i : Nat, i ≤ ms.length → ∀ (v8 : Option Vl) (dn : List (List Int)) (S1 : TS) (g1 : Nat → Nat → Int), Off l (l + 5) g g1 → TL g1 l S1 → Amg S T all dn (pcM w (ms.drop i)) S1 →
        Ef P (rk w + 27) 59 218 [some (vR l), some (vR s), some (vR tm), some (vI w), some (vI (lv : Int)), some (vI (S.2.2.length : Int)), some (vI (S.1.length : Int)), some (vI (i : Int)), v8] [] (sI u g1) (fun x u' => ∃ g' S', u' = sI u g' ∧ x = .inl none ∧ Off l (l + 5) g g' ∧ TL g' l S' ∧ (S.2.1 = false → Out S S' (plT kd nm rp (afF en) ps gs ms (f + 1) w)) ∧ (S.2.1 = true → Lng S S')) := by
      refine nat_loop ms.length ?_
      intro i hi ih v8 dn S1 g1 o1 s1 hc
      have s1b := s1.b
      obtain ⟨w1, w2, w3, w4, w5, w6, w7, w8⟩ := id s1
      have t1 : Th g1 (s + 13) ms := hms.same o1 (by omega)
      have t10 := t1.1
      refine ef_iload (pc := 218) d59_218 rfl ?_
      refine ef_aload_n (pc := 220) d59_220 rfl ?_
      refine eg_getR (pc := 221) d59_221 lf_5_91 (by assumption) (by decide) (by assumption) ?_
      refine eg_getI (pc := 224) d59_224 lf_5_56 (by assumption) (by decide) ?_
      rw [t10]
      refine ef_icmp_ge (pc := 227) d59_227 (t := 295) rfl (fun h227 => ?_) (fun h227 => ?_)
      · have hin : i = ms.length := by omega
        subst hin
        rw [List.drop_length] at hc
        rw [show pcM w [] = [] from rfl] at hc
        first
        | exact fin _ _ _ _ _ o1 s1 hc
        | exact fin _ _ _ _ _ o1 s1 (hc2 _)
      · have hlt : i < ms.length := by omega
        obtain ⟨e, he, hdr⟩ := get_of_lt hlt
        have t2 := t1.2 i e he
        have hmem := List.mem_of_getElem? he
        rw [hdr] at hc
        refine ef_aload_n (pc := 230) d59_230 rfl ?_
        refine eg_getZ (pc := 231) d59_231 lf_5_32 (by assumption) (by decide) ?_
        rw [w3]
        refine ef_if_ne (pc := 234) d59_234 (t := 295) rfl (fun h234 => ?_) (fun h234 => ?_)
        · have hbt := b01_f h234
          have hc2 : ∀ r, Amg S T all dn r S1 := fun r => Or.inr (by rcases hc with ⟨-, ⟨-, hh, -⟩, -⟩ | hc; (rw [hh] at hbt; cases hbt); exact hc)
          first
          | exact fin _ _ _ _ _ o1 s1 hc
          | exact fin _ _ _ _ _ o1 s1 (hc2 _)
        · have hbf := b01_t h234
          have hcnt2 : S.2.2.length ≤ S.1.length ∧ S1.2.2.length ≤ S1.1.length := by
            rcases hc with ⟨h0, hc, hge, -⟩ | ⟨hh, -⟩
            · have q1 := hc.cnt
              have q2 : S1.1.length = S.1.length + sumL dn := by rw [hc.1, List.length_append, flat_len]
              have q3 : dn.length ≤ sumL dn := sumL_ge (fun x hx => by have := hge x hx; omega)
              have q4 := hcnt h0
              omega
            · rw [hh] at hbf; cases hbf
          refine ef_aload_n (pc := 237) d59_237 rfl ?_
          refine eg_getR (pc := 238) d59_238 lf_5_91 (by assumption) (by decide) (by assumption) ?_
          refine eg_getR (pc := 241) d59_241 lf_5_61 (by assumption) (by decide) (by assumption) ?_
          refine ef_iload (pc := 244) d59_244 rfl ?_
          refine eg_iald (pc := 246) d59_246 (i := i) (by assumption) (rfl) (by omega) ?_
          rw [t2.2.1]
          refine ef_iload_n (pc := 247) d59_247 rfl ?_
          refine ef_icmp_ne (pc := 248) d59_248 (t := 289) rfl (fun h248 => ?_) (fun h248 => ?_)
          · rw [pcM_n h248] at hc
            refine ef_iinc (pc := 289) d59_289 (ls' := [_, _, _, _, _, _, _, _, _]) (z := ((i + 1 : Nat) : Int)) rfl (by decide) (by omega) ⟨by omega, by omega⟩ rfl ?_
            refine ef_goto (pc := 292) d59_292 (t := 218) rfl ?_
            first
            | exact ih hlt _ _ _ _ (((o1.trans o2).trans o3).trans oz) s4 hc3
            | exact ih hlt _ _ _ _ o1 s1 hc
          · have hew : e.2.1 = w := h248
            rw [pcM_y hew] at hc
            refine ef_aload_n (pc := 251) d59_251 rfl ?_
            refine eg_getI (pc := 252) d59_252 lf_5_25 (by assumption) (by decide) ?_
            rw [w1]
            refine ef_istore (pc := 255) d59_255 (ls' := [_, _, _, _, _, _, _, _, _]) rfl ?_
            refine ef_aload_n (pc := 257) d59_257 rfl ?_
            refine ef_bipush (pc := 258) d59_258 (by decide) ?_
            refine ef_callV (pc := 260) d59_260 lm_5_67 (as := [_]) rfl rfl (by assumption) rfl rfl (by decide) (Nat.le_of_ble_eq_true rfl) rfl (Nat.le_of_ble_eq_true rfl) ?_
            refine Ec.imp (c60 hA s1 (by decide) (by decide)) ?_
            rintro r260 u260 ⟨g2, rfl, rfl, o2, s2⟩
            have p1 := put_ok (c := 39) hbf s1b.1
            generalize hS2 : putT 39 S1 = S2 at s2 p1
            have m2 : Th g2 (s + 13) ms := t1.same o2 (by omega)
            have m22 := m2.2 i e he
            have hq := hnq e hmem
            refine ef_aload_n (pc := 263) d59_263 rfl ?_
            refine ef_bipush (pc := 264) d59_264 (by decide) ?_
            refine ef_aload_n (pc := 266) d59_266 rfl ?_
            refine eg_getR (pc := 267) d59_267 lf_5_91 (by assumption) (by decide) (by assumption) ?_
            refine eg_getR (pc := 270) d59_270 lf_5_64 (by assumption) (by decide) (by assumption) ?_
            refine ef_iload (pc := 273) d59_273 rfl ?_
            refine eg_iald (pc := 275) d59_275 (i := i) (by assumption) (rfl) (by omega) ?_
            try simp (disch := omega) only [u2_ne, u2_at, u2_ni, ur_ne, ur_eq]
            rw [m22.2.2.1]
            refine ef_iadd (pc := 276) d59_276 rfl ⟨by omega, by omega⟩ ?_
            refine ef_i2c (pc := 277) d59_277 rfl ?_
            skip
            refine ef_callV (pc := 278) d59_278 lm_5_67 (as := [_]) rfl rfl (by assumption) rfl rfl (by decide) (Nat.le_of_ble_eq_true rfl) rfl (Nat.le_of_ble_eq_true rfl) ?_
            refine Ec.imp (c60 hA s2 (by omega) (by omega)) ?_
            rintro r278 u278 ⟨g3, rfl, rfl, o3, s3⟩
            have p2 : S2.2.1 = false → Out S2 (putT ((97 + e.2.2.1) % 65536) S2) [(97 + e.2.2.1) % 65536] := fun hh => put_ok hh s2.b.1
            have p3 : S2.2.1 = true → (putT ((97 + e.2.2.1) % 65536) S2).2.1 = true ∧ (putT ((97 + e.2.2.1) % 65536) S2).2.2 = S2.2.2 ∧ ∃ X, (putT ((97 + e.2.2.1) % 65536) S2).1 = S2.1 ++ X := fun hh => put_long hh
            generalize hS3 : putT ((97 + e.2.2.1) % 65536) S2 = S3 at s3 p2 p3
            have p4 := Out.app p1 p2 p3
            have p5 : S.2.2.length ≤ S3.2.2.length ∧ S1.1.length ≤ S3.1.length := by
              have := hc.len
              rcases p4 with h | ⟨-, h, -, X, hX⟩
              · rw [h]; exact ⟨this.1, by rw [List.length_append]; omega⟩
              · rw [hX]; exact ⟨by rw [h]; exact this.1, by rw [List.length_append]; omega⟩
            refine ef_aload_n (pc := 281) d59_281 rfl ?_
            refine ef_iload (pc := 282) d59_282 rfl ?_
            refine ef_iload (pc := 284) d59_284 rfl ?_
            refine ef_callV (pc := 286) d59_286 lm_5_74 (as := [_, _]) rfl rfl (by assumption) rfl rfl (by decide) (Nat.le_of_ble_eq_true rfl) rfl (Nat.le_of_ble_eq_true rfl) ?_
            refine Ec.imp (c61 hA s3 p5.1 p5.2) ?_
            rintro r286 u286 ⟨gz, rfl, rfl, oz, hI⟩
            obtain ⟨S4, s4, hI4⟩ : ∃ S4, TL gz l S4 ∧ ((S3.2.2.length < 240 ∧ ∃ h, Ins S3.1 S.2.2.length (S1.1.length, S3.1.length) S3.2.2 h ∧ S4 = (S3.1, (S3.2.1, S3.2.2.take h ++ (S1.1.length, S3.1.length) :: S3.2.2.drop h))) ∨ (240 ≤ S3.2.2.length ∧ S4 = (S3.1, (true, S3.2.2)))) := by
              rcases hI with ⟨hl, h, hI, s3⟩ | ⟨hl, s3⟩
              · exact ⟨_, s3, Or.inl ⟨hl, h, hI, rfl⟩⟩
              · exact ⟨_, s3, Or.inr ⟨hl, rfl⟩⟩
            have hc3 := Amg.step hc hbf (Nat.le_refl _) hTs s1b.2.2 hcnt2.1 (s3).b.1 p4 hI4
            refine ef_iinc (pc := 289) d59_289 (ls' := [_, _, _, _, _, _, _, _, _]) (z := ((i + 1 : Nat) : Int)) rfl (by decide) (by omega) ⟨by omega, by omega⟩ rfl ?_
            refine ef_goto (pc := 292) d59_292 (t := 218) rfl ?_
            first
            | exact ih hlt _ _ _ _ (((o1.trans o2).trans o3).trans oz) s4 hc3
            | exact ih hlt _ _ _ _ o1 s1 hc
    have lp2 : ∀ i : Nat, i ≤ gs.length → ∀ (v8 : Option Vl) (dn : List (List Int)) (S1 : TS) (g1 : Nat → Nat → Int), Off l (l + 5) g g1 → TL g1 l S1 → Amg S T all dn (pcG kd nm rp (afF en) w (gs.drop i) ++ pcM w ms) S1 →
        Ef P (rk w + 27) 59 133 [some (vR l), some (vR s), some (vR tm), some (vI w), some (vI (lv : Int)), some (vI (S.2.2.length : Int)), some (vI (S.1.length : Int)), some (vI (i : Int)), v8] [] (sI u g1) (fun x u' => ∃ g' S', u' = sI u g' ∧ x = .inl none ∧ Off l (l + 5) g g' ∧ TL g' l S' ∧ (S.2.1 = false → Out S S' (plT kd nm rp (afF en) ps gs ms (f + 1) w)) ∧ (S.2.1 = true → Lng S S')) := by
      refine nat_loop gs.length ?_
      intro i hi ih v8 dn S1 g1 o1 s1 hc
      have s1b := s1.b
      obtain ⟨w1, w2, w3, w4, w5, w6, w7, w8⟩ := id s1
      have t1 : Th g1 (s + 7) gs := hgs.same o1 (by omega)
      have t10 := t1.1
      refine ef_iload (pc := 133) d59_133 rfl ?_
      refine ef_aload_n (pc := 135) d59_135 rfl ?_
      refine eg_getR (pc := 136) d59_136 lf_5_78 (by assumption) (by decide) (by assumption) ?_
      refine eg_getI (pc := 139) d59_139 lf_5_56 (by assumption) (by decide) ?_
      rw [t10]
      refine ef_icmp_ge (pc := 142) d59_142 (t := 215) rfl (fun h142 => ?_) (fun h142 => ?_)
      · have hin : i = gs.length := by omega
        subst hin
        rw [List.drop_length] at hc
        rw [show pcG kd nm rp (afF en) w [] = [] from rfl, List.nil_append] at hc
        refine ef_iconst (pc := 215) d59_215 (by decide) ?_
        refine ef_istore (pc := 216) d59_216 (ls' := [_, _, _, _, _, _, _, _, _]) rfl ?_
        exact lp3 0 (Nat.zero_le _) _ _ _ _ o1 s1 (by assumption)
      · have hlt : i < gs.length := by omega
        obtain ⟨e, he, hdr⟩ := get_of_lt hlt
        have t2 := t1.2 i e he
        have hmem := List.mem_of_getElem? he
        rw [hdr] at hc
        refine ef_aload_n (pc := 145) d59_145 rfl ?_
        refine eg_getZ (pc := 146) d59_146 lf_5_32 (by assumption) (by decide) ?_
        rw [w3]
        refine ef_if_ne (pc := 149) d59_149 (t := 215) rfl (fun h149 => ?_) (fun h149 => ?_)
        · have hbt := b01_f h149
          have hc2 : ∀ r, Amg S T all dn r S1 := fun r => Or.inr (by rcases hc with ⟨-, ⟨-, hh, -⟩, -⟩ | hc; (rw [hh] at hbt; cases hbt); exact hc)
          have hc4 := hc2 (pcM w (ms.drop 0))
          refine ef_iconst (pc := 215) d59_215 (by decide) ?_
          refine ef_istore (pc := 216) d59_216 (ls' := [_, _, _, _, _, _, _, _, _]) rfl ?_
          exact lp3 0 (Nat.zero_le _) _ _ _ _ o1 s1 (by assumption)
        · have hbf := b01_t h149
          have hcnt2 : S.2.2.length ≤ S.1.length ∧ S1.2.2.length ≤ S1.1.length := by
            rcases hc with ⟨h0, hc, hge, -⟩ | ⟨hh, -⟩
            · have q1 := hc.cnt
              have q2 : S1.1.length = S.1.length + sumL dn := by rw [hc.1, List.length_append, flat_len]
              have q3 : dn.length ≤ sumL dn := sumL_ge (fun x hx => by have := hge x hx; omega)
              have q4 := hcnt h0
              omega
            · rw [hh] at hbf; cases hbf
          refine ef_aload_n (pc := 152) d59_152 rfl ?_
          refine eg_getR (pc := 153) d59_153 lf_5_78 (by assumption) (by decide) (by assumption) ?_
          refine eg_getR (pc := 156) d59_156 lf_5_61 (by assumption) (by decide) (by assumption) ?_
          refine ef_iload (pc := 159) d59_159 rfl ?_
          refine eg_iald (pc := 161) d59_161 (i := i) (by assumption) (rfl) (by omega) ?_
          rw [t2.2.1]
          refine ef_iload_n (pc := 162) d59_162 rfl ?_
          refine ef_icmp_ne (pc := 163) d59_163 (t := 209) rfl (fun h163 => ?_) (fun h163 => ?_)
          · rw [pcG_n h163] at hc
            refine ef_iinc (pc := 209) d59_209 (ls' := [_, _, _, _, _, _, _, _, _]) (z := ((i + 1 : Nat) : Int)) rfl (by decide) (by omega) ⟨by omega, by omega⟩ rfl ?_
            refine ef_goto (pc := 212) d59_212 (t := 133) rfl ?_
            first
            | exact ih hlt _ _ _ _ ((o1.trans o3).trans oz) s4 hc3
            | exact ih hlt _ _ _ _ o1 s1 hc
          · have hew : e.2.1 = w := h163
            rw [pcG_y hew] at hc
            refine ef_aload_n (pc := 166) d59_166 rfl ?_
            refine eg_getI (pc := 167) d59_167 lf_5_25 (by assumption) (by decide) ?_
            rw [w1]
            refine ef_istore (pc := 170) d59_170 (ls' := [_, _, _, _, _, _, _, _, _]) rfl ?_
            refine ef_aload_n (pc := 172) d59_172 rfl ?_
            refine ef_aload_n (pc := 173) d59_173 rfl ?_
            refine ef_aload_n (pc := 174) d59_174 rfl ?_
            refine eg_getR (pc := 175) d59_175 lf_5_78 (by assumption) (by decide) (by assumption) ?_
            refine eg_getR (pc := 178) d59_178 lf_5_81 (by assumption) (by decide) (by assumption) ?_
            refine ef_iload (pc := 181) d59_181 rfl ?_
            refine eg_iald (pc := 183) d59_183 (i := i) (by assumption) (rfl) (by omega) ?_
            rw [t2.2.2.2.1]
            obtain ⟨n, hn1, hn2⟩ := hgn e hmem
            rw [hn1]
            rw [hn1, Int.toNat_natCast] at hc
            have hT2 := txN_pos (kd := kd) (nm := nm) (rp := rp) (af := afF en) (f := 50) (n := n) (m := e.2.2.2.2)
            have h19n := h19 n hn2
            refine ef_aload_n (pc := 184) d59_184 rfl ?_
            refine eg_getR (pc := 185) d59_185 lf_5_78 (by assumption) (by decide) (by assumption) ?_
            refine eg_getR (pc := 188) d59_188 lf_5_84 (by assumption) (by decide) (by assumption) ?_
            refine ef_iload (pc := 191) d59_191 rfl ?_
            refine eg_iald (pc := 193) d59_193 (i := i) (by assumption) (rfl) (by omega) ?_
            rw [t2.2.2.2.2]
            refine ef_iload (pc := 194) d59_194 rfl ?_
            refine ef_iconst (pc := 196) d59_196 (by decide) ?_
            refine ef_iadd (pc := 197) d59_197 (z := ((lv + 1 : Nat) : Int)) (by omega) ⟨by omega, by omega⟩ ?_
            refine ef_callV (pc := 198) d59_198 lm_5_87 (as := [_, _, _, _]) rfl rfl (by assumption) rfl rfl (by decide) (Nat.le_of_ble_eq_true rfl) rfl (Nat.le_of_ble_eq_true rfl) ?_
            refine Ec.imp (Ec.deep (by omega) (c63 (en := en) hA hTm hdj hsv hch hk hv hh 50 n e.2.2.2.2 (lv + 1) S1 g1 (by omega) hn2 (by omega) s1 hbf hcnt2.2 ((o1 _ (by omega)).trans hkd) ((o1 _ (by omega)).trans hnm) ((o1 _ (by omega)).trans hrp) ((o1 _ (by omega)).trans hen))) ?_
            rintro r198 u198 ⟨g3, S3, rfl, rfl, o3, s3, p4⟩
            have p5 : S.2.2.length ≤ S3.2.2.length ∧ S1.1.length ≤ S3.1.length := by
              have := hc.len
              rcases p4 with h | ⟨-, h, -, X, hX⟩
              · rw [h]; exact ⟨this.1, by rw [List.length_append]; omega⟩
              · rw [hX]; exact ⟨by rw [h]; exact this.1, by rw [List.length_append]; omega⟩
            refine ef_aload_n (pc := 201) d59_201 rfl ?_
            refine ef_iload (pc := 202) d59_202 rfl ?_
            refine ef_iload (pc := 204) d59_204 rfl ?_
            refine ef_callV (pc := 206) d59_206 lm_5_74 (as := [_, _]) rfl rfl (by assumption) rfl rfl (by decide) (Nat.le_of_ble_eq_true rfl) rfl (Nat.le_of_ble_eq_true rfl) ?_
            refine Ec.imp (c61 hA s3 p5.1 p5.2) ?_
            rintro r206 u206 ⟨gz, rfl, rfl, oz, hI⟩
            obtain ⟨S4, s4, hI4⟩ : ∃ S4, TL gz l S4 ∧ ((S3.2.2.length < 240 ∧ ∃ h, Ins S3.1 S.2.2.length (S1.1.length, S3.1.length) S3.2.2 h ∧ S4 = (S3.1, (S3.2.1, S3.2.2.take h ++ (S1.1.length, S3.1.length) :: S3.2.2.drop h))) ∨ (240 ≤ S3.2.2.length ∧ S4 = (S3.1, (true, S3.2.2)))) := by
              rcases hI with ⟨hl, h, hI, s3⟩ | ⟨hl, s3⟩
              · exact ⟨_, s3, Or.inl ⟨hl, h, hI, rfl⟩⟩
              · exact ⟨_, s3, Or.inr ⟨hl, rfl⟩⟩
            have hc3 := Amg.step hc hbf hT2 hTs s1b.2.2 hcnt2.1 (s3).b.1 p4 hI4
            refine ef_iinc (pc := 209) d59_209 (ls' := [_, _, _, _, _, _, _, _, _]) (z := ((i + 1 : Nat) : Int)) rfl (by decide) (by omega) ⟨by omega, by omega⟩ rfl ?_
            refine ef_goto (pc := 212) d59_212 (t := 133) rfl ?_
            first
            | exact ih hlt _ _ _ _ ((o1.trans o3).trans oz) s4 hc3
            | exact ih hlt _ _ _ _ o1 s1 hc
    have lp1 : ∀ i : Nat, i ≤ ps.length → ∀ (v8 : Option Vl) (dn : List (List Int)) (S1 : TS) (g1 : Nat → Nat → Int), Off l (l + 5) g g1 → TL g1 l S1 → Amg S T all dn (pcP (plT kd nm rp (afF en) ps gs ms f) w (ps.drop i) ++ (pcG kd nm rp (afF en) w gs ++ pcM w ms)) S1 →
        Ef P (rk w + 27) 59 27 [some (vR l), some (vR s), some (vR tm), some (vI w), some (vI (lv : Int)), some (vI (S.2.2.length : Int)), some (vI (S.1.length : Int)), some (vI (i : Int)), v8] [] (sI u g1) (fun x u' => ∃ g' S', u' = sI u g' ∧ x = .inl none ∧ Off l (l + 5) g g' ∧ TL g' l S' ∧ (S.2.1 = false → Out S S' (plT kd nm rp (afF en) ps gs ms (f + 1) w)) ∧ (S.2.1 = true → Lng S S')) := by
      refine nat_loop ps.length ?_
      intro i hi ih v8 dn S1 g1 o1 s1 hc
      have s1b := s1.b
      obtain ⟨w1, w2, w3, w4, w5, w6, w7, w8⟩ := id s1
      have t1 : Th g1 (s + 1) ps := hps.same o1 (by omega)
      have t10 := t1.1
      refine ef_iload (pc := 27) d59_27 rfl ?_
      refine ef_aload_n (pc := 29) d59_29 rfl ?_
      refine eg_getR (pc := 30) d59_30 lf_5_52 (by assumption) (by decide) (by assumption) ?_
      refine eg_getI (pc := 33) d59_33 lf_5_56 (by assumption) (by decide) ?_
      rw [t10]
      refine ef_icmp_ge (pc := 36) d59_36 (t := 130) rfl (fun h36 => ?_) (fun h36 => ?_)
      · have hin : i = ps.length := by omega
        subst hin
        rw [List.drop_length] at hc
        rw [show pcP (plT kd nm rp (afF en) ps gs ms f) w [] = [] from rfl, List.nil_append] at hc
        refine ef_iconst (pc := 130) d59_130 (by decide) ?_
        refine ef_istore (pc := 131) d59_131 (ls' := [_, _, _, _, _, _, _, _, _]) rfl ?_
        exact lp2 0 (Nat.zero_le _) _ _ _ _ o1 s1 (by assumption)
      · have hlt : i < ps.length := by omega
        obtain ⟨e, he, hdr⟩ := get_of_lt hlt
        have t2 := t1.2 i e he
        have hmem := List.mem_of_getElem? he
        rw [hdr] at hc
        refine ef_aload_n (pc := 39) d59_39 rfl ?_
        refine eg_getZ (pc := 40) d59_40 lf_5_32 (by assumption) (by decide) ?_
        rw [w3]
        refine ef_if_ne (pc := 43) d59_43 (t := 130) rfl (fun h43 => ?_) (fun h43 => ?_)
        · have hbt := b01_f h43
          have hc2 : ∀ r, Amg S T all dn r S1 := fun r => Or.inr (by rcases hc with ⟨-, ⟨-, hh, -⟩, -⟩ | hc; (rw [hh] at hbt; cases hbt); exact hc)
          have hc4 := hc2 (pcG kd nm rp (afF en) w (gs.drop 0) ++ pcM w ms)
          refine ef_iconst (pc := 130) d59_130 (by decide) ?_
          refine ef_istore (pc := 131) d59_131 (ls' := [_, _, _, _, _, _, _, _, _]) rfl ?_
          exact lp2 0 (Nat.zero_le _) _ _ _ _ o1 s1 (by assumption)
        · have hbf := b01_t h43
          have hcnt2 : S.2.2.length ≤ S.1.length ∧ S1.2.2.length ≤ S1.1.length := by
            rcases hc with ⟨h0, hc, hge, -⟩ | ⟨hh, -⟩
            · have q1 := hc.cnt
              have q2 : S1.1.length = S.1.length + sumL dn := by rw [hc.1, List.length_append, flat_len]
              have q3 : dn.length ≤ sumL dn := sumL_ge (fun x hx => by have := hge x hx; omega)
              have q4 := hcnt h0
              omega
            · rw [hh] at hbf; cases hbf
          refine ef_aload_n (pc := 46) d59_46 rfl ?_
          refine eg_getR (pc := 47) d59_47 lf_5_52 (by assumption) (by decide) (by assumption) ?_
          refine eg_getR (pc := 50) d59_50 lf_5_61 (by assumption) (by decide) (by assumption) ?_
          refine ef_iload (pc := 53) d59_53 rfl ?_
          refine eg_iald (pc := 55) d59_55 (i := i) (by assumption) (rfl) (by omega) ?_
          rw [t2.2.1]
          refine ef_iload_n (pc := 56) d59_56 rfl ?_
          refine ef_icmp_ne (pc := 57) d59_57 (t := 124) rfl (fun h57 => ?_) (fun h57 => ?_)
          · rw [pcP_n h57] at hc
            refine ef_iinc (pc := 124) d59_124 (ls' := [_, _, _, _, _, _, _, _, _]) (z := ((i + 1 : Nat) : Int)) rfl (by decide) (by omega) ⟨by omega, by omega⟩ rfl ?_
            refine ef_goto (pc := 127) d59_127 (t := 27) rfl ?_
            first
            | exact ih hlt _ _ _ _ (((m3.trans o4).trans o5).trans oz) s6 hc3
            | exact ih hlt _ _ _ _ o1 s1 hc
          · have hew : e.2.1 = w := h57
            rw [pcP_y hew] at hc
            refine ef_aload_n (pc := 60) d59_60 rfl ?_
            refine eg_getI (pc := 61) d59_61 lf_5_25 (by assumption) (by decide) ?_
            rw [w1]
            refine ef_istore (pc := 64) d59_64 (ls' := [_, _, _, _, _, _, _, _, _]) rfl ?_
            refine ef_aload_n (pc := 66) d59_66 rfl ?_
            refine ef_bipush (pc := 67) d59_67 (by decide) ?_
            refine ef_aload_n (pc := 69) d59_69 rfl ?_
            refine eg_getR (pc := 70) d59_70 lf_5_52 (by assumption) (by decide) (by assumption) ?_
            refine eg_getR (pc := 73) d59_73 lf_5_64 (by assumption) (by decide) (by assumption) ?_
            refine ef_iload (pc := 76) d59_76 rfl ?_
            refine eg_iald (pc := 78) d59_78 (i := i) (by assumption) (rfl) (by omega) ?_
            rw [t2.2.2.1]
            have hq := hnp e hmem
            have hrk2 := hrk e hmem
            rw [hew] at hrk2
            refine ef_iadd (pc := 79) d59_79 rfl ⟨by omega, by omega⟩ ?_
            refine ef_i2c (pc := 80) d59_80 rfl ?_
            generalize hc0 : (97 + e.2.2.1) % 65536 = c0 at hc
            have hc00 : 0 ≤ c0 ∧ c0 < 65536 := by omega
            refine ef_callV (pc := 81) d59_81 lm_5_67 (as := [_]) rfl rfl (by assumption) rfl rfl (by decide) (Nat.le_of_ble_eq_true rfl) rfl (Nat.le_of_ble_eq_true rfl) ?_
            refine Ec.imp (c60 hA s1 hc00.1 hc00.2) ?_
            rintro r81 u81 ⟨g2, rfl, rfl, o2, s2⟩
            have p1 := put_ok (c := c0) hbf s1b.1
            generalize hS2 : putT c0 S1 = S2 at s2 p1
            refine ef_aload_n (pc := 84) d59_84 rfl ?_
            refine ef_bipush (pc := 85) d59_85 (by decide) ?_
            refine ef_callV (pc := 87) d59_87 lm_5_67 (as := [_]) rfl rfl (by assumption) rfl rfl (by decide) (Nat.le_of_ble_eq_true rfl) rfl (Nat.le_of_ble_eq_true rfl) ?_
            refine Ec.imp (c60 hA s2 (by decide) (by decide)) ?_
            rintro r87 u87 ⟨g3, rfl, rfl, o3, s3⟩
            have p2 : S2.2.1 = false → Out S2 (putT 91 S2) [91] := fun hh => put_ok hh s2.b.1
            have p3 : S2.2.1 = true → (putT 91 S2).2.1 = true ∧ (putT 91 S2).2.2 = S2.2.2 ∧ ∃ X, (putT 91 S2).1 = S2.1 ++ X := fun hh => put_long hh
            generalize hS3 : putT 91 S2 = S3 at s3 p2 p3
            have p4 := Out.app p1 p2 p3
            have m3 : Off l (l + 5) g g3 := (o1.trans o2).trans o3
            have m4 : Th g3 (s + 1) ps := hps.same m3 (by omega)
            have m44 := m4.2 i e he
            have hcn3 : S3.2.1 = false → S3.2.2.length ≤ S3.1.length := by
              intro hh
              rcases p4 with h | ⟨h, -⟩
              · rw [h]; show S1.2.2.length ≤ (S1.1 ++ _).length; rw [List.length_append]; omega
              · rw [h] at hh; cases hh
            refine ef_aload_n (pc := 90) d59_90 rfl ?_
            refine ef_aload_n (pc := 91) d59_91 rfl ?_
            refine ef_aload_n (pc := 92) d59_92 rfl ?_
            refine ef_aload_n (pc := 93) d59_93 rfl ?_
            refine eg_getR (pc := 94) d59_94 lf_5_52 (by assumption) (by decide) (by assumption) ?_
            refine eg_getR (pc := 97) d59_97 lf_5_71 (by assumption) (by decide) (by assumption) ?_
            refine ef_iload (pc := 100) d59_100 rfl ?_
            refine eg_iald (pc := 102) d59_102 (i := i) (by assumption) (rfl) (by omega) ?_
            try simp (disch := omega) only [u2_ne, u2_at, u2_ni, ur_ne, ur_eq]
            rw [m44.1]
            refine ef_iload (pc := 103) d59_103 rfl ?_
            refine ef_iconst (pc := 105) d59_105 (by decide) ?_
            refine ef_iadd (pc := 106) d59_106 (z := ((lv + 1 : Nat) : Int)) (by omega) ⟨by omega, by omega⟩ ?_
            refine ef_callV (pc := 107) d59_107 lm_5_36 (as := [_, _, _, _]) rfl rfl (by assumption) rfl rfl (by decide) (Nat.le_of_ble_eq_true rfl) rfl (Nat.le_of_ble_eq_true rfl) ?_
            refine Ec.imp (Ec.deep (by omega) (ih0 e.1 (lv + 1) S3 g3 (by omega) (by omega) s3 hcn3 m4 (hgs.same m3 (by omega)) (hms.same m3 (by omega)) ((m3 _ (by omega)).trans hkd) ((m3 _ (by omega)).trans hnm) ((m3 _ (by omega)).trans hrp) ((m3 _ (by omega)).trans hen))) ?_
            rintro r107 u107 ⟨g4, S4, rfl, rfl, o4, s4, p5, p6⟩
            have p7 := Out.app p4 p5 p6
            refine ef_aload_n (pc := 110) d59_110 rfl ?_
            refine ef_bipush (pc := 111) d59_111 (by decide) ?_
            refine ef_callV (pc := 113) d59_113 lm_5_67 (as := [_]) rfl rfl (by assumption) rfl rfl (by decide) (Nat.le_of_ble_eq_true rfl) rfl (Nat.le_of_ble_eq_true rfl) ?_
            refine Ec.imp (c60 hA s4 (by decide) (by decide)) ?_
            rintro r113 u113 ⟨g5, rfl, rfl, o5, s5⟩
            have p8 : S4.2.1 = false → Out S4 (putT 93 S4) [93] := fun hh => put_ok hh s4.b.1
            have p9 : S4.2.1 = true → (putT 93 S4).2.1 = true ∧ (putT 93 S4).2.2 = S4.2.2 ∧ ∃ X, (putT 93 S4).1 = S4.1 ++ X := fun hh => put_long hh
            generalize hS5 : putT 93 S4 = S5 at s5 p8 p9
            have p10 := Out.app p7 p8 p9
            have p11 : S.2.2.length ≤ S5.2.2.length ∧ S1.1.length ≤ S5.1.length := by
              have := hc.len
              rcases p10 with h | ⟨-, h, -, X, hX⟩
              · rw [h]; exact ⟨this.1, by rw [List.length_append]; omega⟩
              · rw [hX]; exact ⟨by rw [h]; exact this.1, by rw [List.length_append]; omega⟩
            refine ef_aload_n (pc := 116) d59_116 rfl ?_
            refine ef_iload (pc := 117) d59_117 rfl ?_
            refine ef_iload (pc := 119) d59_119 rfl ?_
            refine ef_callV (pc := 121) d59_121 lm_5_74 (as := [_, _]) rfl rfl (by assumption) rfl rfl (by decide) (Nat.le_of_ble_eq_true rfl) rfl (Nat.le_of_ble_eq_true rfl) ?_
            refine Ec.imp (c61 hA s5 p11.1 p11.2) ?_
            rintro r121 u121 ⟨gz, rfl, rfl, oz, hI⟩
            obtain ⟨S6, s6, hI6⟩ : ∃ S6, TL gz l S6 ∧ ((S5.2.2.length < 240 ∧ ∃ h, Ins S5.1 S.2.2.length (S1.1.length, S5.1.length) S5.2.2 h ∧ S6 = (S5.1, (S5.2.1, S5.2.2.take h ++ (S1.1.length, S5.1.length) :: S5.2.2.drop h))) ∨ (240 ≤ S5.2.2.length ∧ S6 = (S5.1, (true, S5.2.2)))) := by
              rcases hI with ⟨hl, h, hI, s3⟩ | ⟨hl, s3⟩
              · exact ⟨_, s3, Or.inl ⟨hl, h, hI, rfl⟩⟩
              · exact ⟨_, s3, Or.inr ⟨hl, rfl⟩⟩
            have hc3 := Amg.step hc hbf (by simp) hTs s1b.2.2 hcnt2.1 (s5).b.1 p10 hI6
            refine ef_iinc (pc := 124) d59_124 (ls' := [_, _, _, _, _, _, _, _, _]) (z := ((i + 1 : Nat) : Int)) rfl (by decide) (by omega) ⟨by omega, by omega⟩ rfl ?_
            refine ef_goto (pc := 127) d59_127 (t := 27) rfl ?_
            first
            | exact ih hlt _ _ _ _ (((m3.trans o4).trans o5).trans oz) s6 hc3
            | exact ih hlt _ _ _ _ o1 s1 hc
    have hc0 : Amg S T all [] (pcP (plT kd nm rp (afF en) ps gs ms f) w (ps.drop 0) ++ (pcG kd nm rp (afF en) w gs ++ pcM w ms)) S := by
      rw [List.drop_zero, hall]
      cases hq : S.2.1
      · exact Or.inl ⟨hq, ⟨by simp, hq, [], by simp, rfl⟩, fun x hx => absurd hx (List.not_mem_nil), rfl⟩
      · exact Or.inr ⟨hq, ⟨[], by simp⟩, (fun hh => by rw [hq] at hh; cases hh), [], by simp⟩
    obtain ⟨w1, w2, w3, w4, w5, w6, w7, w8⟩ := id hS
    change Ef P _ 59 0 [some (vR l), some (vR s), some (vR tm), some (vI w), some (vI (lv : Int)), none, none, none, none] [] _ _
    refine ef_aload_n (pc := 0) d59_0 rfl ?_
    refine eg_getI (pc := 1) d59_1 lf_5_29 (by assumption) (by decide) ?_
    rw [w4]
    refine ef_istore (pc := 4) d59_4 (ls' := [_, _, _, _, _, _, _, _, _]) rfl ?_
    refine ef_aload_n (pc := 6) d59_6 rfl ?_
    refine eg_getI (pc := 7) d59_7 lf_5_25 (by assumption) (by decide) ?_
    rw [w1]
    refine ef_istore (pc := 10) d59_10 (ls' := [_, _, _, _, _, _, _, _, _]) rfl ?_
    refine ef_iload (pc := 12) d59_12 rfl ?_
    refine ef_bipush (pc := 14) d59_14 (by decide) ?_
    refine ef_icmp_leT (pc := 16) d59_16 (t := 24) rfl (by omega) ?_
    refine ef_iconst (pc := 24) d59_24 (by decide) ?_
    refine ef_istore (pc := 25) d59_25 (ls' := [_, _, _, _, _, _, _, _, _]) rfl ?_
    exact lp1 0 (Nat.zero_le _) _ _ _ _ Off.refl hS hc0
