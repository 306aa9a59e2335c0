/-! What is known of the tables at every state of the run: words, classes, arrays' classes, the text of the signs. -/
def kW (w : Cond) : Bool := match w with
  | .fieldLinkNest .. => true
  | .methodLinkNest .. => true
  | .castable .. => true
  | .declares .. => true
  | w => goodWord w
theorem kW_warm {s U : State} {w : Cond} (hk : kW w = true) (hW : s.WarmedH U.vm) (h : w.before #[] s = true) (A : Array Value) : w.before A U = true := by
  cases w
  case fieldLinkNest => exact va_Nw.use rfl (va_Nw.warmF hW h)
  case methodLinkNest => exact va_Nw.use rfl (va_Nw.warmM hW h)
  case castable => exact va_Nw.use rfl (va_Nw.warmC hW h)
  case declares => exact va_tabs rfl (rfl : (s.setVm U.vm).vm = U.vm) (Cond.faceAtom_setVm hW.alike _ rfl h)
  all_goals exact word_at hW (good_of_word hk) h
def SK (D : va_G) (dA : Nat → ClassId) (P : Pg) (s : State) : Prop :=
  (∀ w ∈ lw_tbl, kW w = true → w.before #[] s = true) ∧ va_K D clT [] s ∧ (∀ k, okK k → ArrOfT s (dA k) (aT k) ∧ va_RA s (dA k) (aT k)) ∧ va_AO (cNm 2) s ∧ va_AO (cNm 4) s ∧
  vk_R "MovingBoxes$Term" 84 "><^?" (pSg P) s ∧ vk_R "MovingBoxes$Teller" 125 "><^?" (pSg P) s
section SKs
variable {D : va_G} {dA : Nat → ClassId} {P : Pg} {s U : State}
theorem SK.warm (h : SK D dA P s) (hW : s.WarmedH U.vm) : SK D dA P U :=
  ⟨fun w hw hk => kW_warm hk hW (h.1 w hw hk) _, va_K.moved hW.alike h.2.1, fun k hk => ⟨arrOfT_moved hW.alike (h.2.2.1 k hk).1, (h.2.2.1 k hk).2.moved hW.alike⟩, h.2.2.2.1.moved hW.alike, h.2.2.2.2.1.moved hW.alike, h.2.2.2.2.2.1.warm hW, h.2.2.2.2.2.2.warm hW⟩
theorem SK.w (h : SK D dA P s) {w : Cond} (hw : w ∈ lw_tbl) (hk : kW w = true) (A : Array Value) : w.before A s = true := kW_warm hk (State.WarmedH.refl s) (h.1 w hw hk) A
theorem SK.kn (h : SK D dA P s) {c : Nat} (hc : c < 9) : u_Kn s (cNm c) (cTb c) (cNf c) (D.1 c) (D.2 c) := h.2.1.1 c _ (clT_at hc)
theorem SK.lays (h : SK D dA P s) {c k : Nat} (hc : c < 9) (hk : k < cNf c) (A : Array Value) :
    (Cond.lays (cNm c) (cTb c k).1 (cTb c k).2.1 (cTb c k).2.2.1).before A s = true ∨ (Cond.laysFinal (cNm c) (cTb c k).1 (cTb c k).2.1 (cTb c k).2.2.1).before A s = true := by
  have hm := lay_in hc _ (u_in_lay (C := cNm c) (T := cTb c) hk)
  unfold u_lay at hm
  split at hm
  · exact Or.inr (h.w hm rfl A)
  · exact Or.inl (h.w hm rfl A)
theorem SK.apart (h : SK D dA P s) {c : Nat} (hc : c < 9) : ∀ x y, x < cNf c → y < cNf c → x ≠ y → (D.2 c) x ≠ (D.2 c) y := by
  intro x y hx hy hne
  obtain ⟨hS, -⟩ := h.kn hc
  obtain ⟨_, _, _, fa, hia, ea⟩ := hS x hx
  obtain ⟨_, _, _, fb, hib, eb⟩ := hS y hy
  rw [← ea, ← eb]
  refine u_apart (h.lays hc hx #[]) (h.lays hc hy #[]) hia hib ?_
  rw [(State.fieldFound?_type hia (cTy_ok c hc x hx)).1, (State.fieldFound?_type hib (cTy_ok c hc y hy)).1]
  exact cNm_ne c hc x hx y hy hne
end SKs
/-- the heap against the memory -/
def svA (u : Mm) (k a i : Nat) : Value := if k < 3 then .int (Int32.ofInt (mI u a i)) else if k = 3 then .long (mL u a i) else va_rf (mF u a i)
def svF (u : Mm) (t a i : Nat) : Value := if t = 1 then .long (mL u a i) else if t = 2 then va_rf (mF u a i) else .int (Int32.ofInt (mI u a i))
def HR (D : va_G) (dA : Nat → ClassId) (h : Nat) (H0 : Heap) (u : Mm) (H : Heap) : Prop :=
  H.size = mT u ∧ h ≤ mT u ∧ (∀ q, q < h → H[q]? = H0[q]?) ∧ (∀ a q, mS u a = some q → h ≤ a ∧ a < mT u) ∧
  (∀ a k n, mS u a = some (k, n) → k < 100 → (okK k ∧ n < 65536) ∧ H[a]? = some (arrV (dA k) n (svA u k a))) ∧
  (∀ a c n, mS u a = some (100 + c, n) → c < 9 ∧ n = cNf c ∧ t_OB a (D.1 c) n (D.2 c) H (fun k => svF u (tyF c k) a k)) ∧ (∀ a i, inR (mI u a i)) ∧ (∀ a n, mS u a = some (1, n) → ∀ i, 0 ≤ mI u a i ∧ mI u a i < 65536) ∧ ∀ (a : Nat) (cell : Cell), h ≤ a → H[a]? = some cell → cell.vm.isStatics = false
section HRs
variable {D : va_G} {dA : Nat → ClassId} {h a : Nat} {H0 H H' : Heap} {u u' : Mm}
theorem HR.upd (R : HR D dA h H0 u H) (hS : mS u' = mS u) (hT : mT u' = mT u) (hrow : ∀ b, b ≠ a → mI u' b = mI u b ∧ mL u' b = mL u b ∧ mF u' b = mF u b) (ha : h ≤ a) (hsz : H'.size = H.size) (hoff : ∀ q, q ≠ a → H'[q]? = H[q]?) (hr : ∀ i, inR (mI u' a i)) (hch : ∀ n, mS u a = some (1, n) → ∀ i, 0 ≤ mI u' a i ∧ mI u' a i < 65536) (hns : ∀ cell : Cell, H'[a]? = some cell → cell.vm.isStatics = false)
    (hA : ∀ k n, mS u a = some (k, n) → k < 100 → H'[a]? = some (arrV (dA k) n (svA u' k a))) (hO : ∀ c n, mS u a = some (100 + c, n) → t_OB a (D.1 c) n (D.2 c) H' (fun k => svF u' (tyF c k) a k)) : HR D dA h H0 u' H' := by
  obtain ⟨r1, r2, r3, r4, r5, r6, r7, r8, r9⟩ := R
  refine ⟨by rw [hsz, hT]; exact r1, by rw [hT]; exact r2, fun q hq => by rw [hoff q (by omega)]; exact r3 q hq, fun b q hb => by rw [hT]; rw [hS] at hb; exact r4 b q hb, fun b k n hb hk => ?_, fun b c n hb => ?_, fun b i => ?_, fun b n hb i => ?_, fun b cell hb hc => ?_⟩
  · rw [hS] at hb
    refine ⟨(r5 b k n hb hk).1, ?_⟩
    by_cases e : b = a
    · subst e; exact hA k n hb hk
    · rw [hoff b e, (r5 b k n hb hk).2]
      obtain ⟨e1, e2, e3⟩ := hrow b e
      have : svA u' k b = svA u k b := by funext i; simp only [svA, e1, e2, e3]
      rw [this]
  · rw [hS] at hb
    refine ⟨(r6 b c n hb).1, (r6 b c n hb).2.1, ?_⟩
    by_cases e : b = a
    · subst e; exact hO c n hb
    · obtain ⟨e1, e2, e3⟩ := hrow b e
      have : (fun k => svF u' (tyF c k) b k) = (fun k => svF u (tyF c k) b k) := by funext i; simp only [svF, e1, e2, e3]
      rw [this]
      exact (r6 b c n hb).2.2.kept (hoff b e)
  · by_cases e : b = a
    · subst e; exact hr i
    · rw [(hrow b e).1]; exact r7 b i
  · rw [hS] at hb
    by_cases e : b = a
    · subst e; exact hch n hb i
    · rw [(hrow b e).1]; exact r8 b n hb i
  · by_cases e : b = a
    · subst e; exact hns cell hc
    · rw [hoff b e] at hc; exact r9 b cell hb hc
theorem ns_of {k0 n0 : Nat} {v : Mm} (hm : mS u a = some (k0, n0)) (hA : ∀ k n, mS u a = some (k, n) → k < 100 → H'[a]? = some (arrV (dA k) n (svA v k a))) (hO : ∀ c n, mS u a = some (100 + c, n) → t_OB a (D.1 c) n (D.2 c) H' (fun k => svF v (tyF c k) a k)) : ∀ cell : Cell, H'[a]? = some cell → cell.vm.isStatics = false := by
  intro cell hc
  by_cases hk : k0 < 100
  · have := (hA k0 n0 hm hk).symm.trans hc
    cases this
    rfl
  · obtain ⟨c, rfl⟩ : ∃ c, k0 = 100 + c := ⟨k0 - 100, by omega⟩
    obtain ⟨cell', h1, -, h3, -⟩ := hO c n0 hm
    cases h1.symm.trans hc
    rw [h3]
    rfl
theorem HR.wI (R : HR D dA h H0 u H) {i k0 n0 : Nat} (hm : mS u a = some (k0, n0)) {x : Int} (hx : inR x) (hch : ∀ n, mS u a = some (1, n) → 0 ≤ x ∧ x < 65536) (ha : h ≤ a) (hsz : H'.size = H.size) (hoff : ∀ q, q ≠ a → H'[q]? = H[q]?)
    (hA : ∀ k n, mS u a = some (k, n) → k < 100 → H'[a]? = some (arrV (dA k) n (svA (sI u (u2 (mI u) a i x)) k a))) (hO : ∀ c n, mS u a = some (100 + c, n) → t_OB a (D.1 c) n (D.2 c) H' (fun k => svF (sI u (u2 (mI u) a i x)) (tyF c k) a k)) : HR D dA h H0 (sI u (u2 (mI u) a i x)) H' := by
  refine R.upd (u' := sI u (u2 (mI u) a i x)) (a := a) rfl rfl (fun b hb => ⟨u2_ne hb, rfl, rfl⟩) ha hsz hoff (fun k => ?_) (fun n hn k => ?_) (ns_of hm hA hO) hA hO
  · show inR (u2 (mI u) a i x a k)
    rw [u2_eq]
    unfold u1
    split
    · exact hx
    · exact R.2.2.2.2.2.2.1 a k
  · show 0 ≤ u2 (mI u) a i x a k ∧ u2 (mI u) a i x a k < 65536
    rw [u2_eq]
    unfold u1
    split
    · exact hch n hn
    · exact R.2.2.2.2.2.2.2.1 a n hn k
theorem HR.wL (R : HR D dA h H0 u H) {i k0 n0 : Nat} (hm : mS u a = some (k0, n0)) {x : Int64} (ha : h ≤ a) (hsz : H'.size = H.size) (hoff : ∀ q, q ≠ a → H'[q]? = H[q]?)
    (hA : ∀ k n, mS u a = some (k, n) → k < 100 → H'[a]? = some (arrV (dA k) n (svA (sL u (u2 (mL u) a i x)) k a))) (hO : ∀ c n, mS u a = some (100 + c, n) → t_OB a (D.1 c) n (D.2 c) H' (fun k => svF (sL u (u2 (mL u) a i x)) (tyF c k) a k)) : HR D dA h H0 (sL u (u2 (mL u) a i x)) H' :=
  R.upd (u' := sL u (u2 (mL u) a i x)) (a := a) rfl rfl (fun b hb => ⟨rfl, u2_ne hb, rfl⟩) ha hsz hoff (fun k => R.2.2.2.2.2.2.1 a k) (fun n hn k => R.2.2.2.2.2.2.2.1 a n hn k) (ns_of hm hA hO) hA hO
theorem HR.wF (R : HR D dA h H0 u H) {i k0 n0 : Nat} (hm : mS u a = some (k0, n0)) {x : Option Nat} (ha : h ≤ a) (hsz : H'.size = H.size) (hoff : ∀ q, q ≠ a → H'[q]? = H[q]?)
    (hA : ∀ k n, mS u a = some (k, n) → k < 100 → H'[a]? = some (arrV (dA k) n (svA (sF u (u2 (mF u) a i x)) k a))) (hO : ∀ c n, mS u a = some (100 + c, n) → t_OB a (D.1 c) n (D.2 c) H' (fun k => svF (sF u (u2 (mF u) a i x)) (tyF c k) a k)) : HR D dA h H0 (sF u (u2 (mF u) a i x)) H' :=
  R.upd (u' := sF u (u2 (mF u) a i x)) (a := a) rfl rfl (fun b hb => ⟨rfl, rfl, u2_ne hb⟩) ha hsz hoff (fun k => R.2.2.2.2.2.2.1 a k) (fun n hn k => R.2.2.2.2.2.2.2.1 a n hn k) (ns_of hm hA hO) hA hO
/-- a new cell -/
theorem HR.new (R : HR D dA h H0 u H) {k n : Nat} (hz : H'.size = H.size + 1) (hk : ∀ q, q < H.size → H'[q]? = H[q]?)
    (hA : k < 100 → (okK k ∧ n < 65536) ∧ H'[H.size]? = some (arrV (dA k) n (svA (mNew u k n) k (mT u)))) (hO : ∀ c, k = 100 + c → c < 9 ∧ n = cNf c ∧ t_OB (mT u) (D.1 c) n (D.2 c) H' (fun i => svF (mNew u k n) (tyF c i) (mT u) i)) : HR D dA h H0 (mNew u k n) H' := by
  obtain ⟨r1, r2, r3, r4, r5, r6, r7, r8, r9⟩ := R
  have row : ∀ b, b ≠ mT u → mI (mNew u k n) b = mI u b ∧ mL (mNew u k n) b = mL u b ∧ mF (mNew u k n) b = mF u b := fun b hb => ⟨if_neg hb, if_neg hb, if_neg hb⟩
  have shp : ∀ b, b ≠ mT u → mS (mNew u k n) b = mS u b := fun b hb => if_neg hb
  have shpT : mS (mNew u k n) (mT u) = some (k, n) := if_pos rfl
  refine ⟨by rw [hz, r1]; rfl, Nat.le_succ_of_le r2, fun q hq => by rw [hk q (by omega)]; exact r3 q hq, fun b q hb => ?_, fun b k' n' hb hk' => ?_, fun b c n' hb => ?_, fun b i => ?_, fun b n' hb i => ?_, fun b cell hb hc => ?_⟩
  · show h ≤ b ∧ b < mT u + 1
    by_cases e : b = mT u
    · omega
    · rw [shp b e] at hb
      have := r4 b q hb
      omega
  · by_cases e : b = mT u
    · subst e
      rw [shpT] at hb
      cases hb
      have := hA hk'
      rw [r1] at this
      exact this
    · rw [shp b e] at hb
      refine ⟨(r5 b k' n' hb hk').1, ?_⟩
      have hb4 := r4 b _ hb
      rw [hk b (by omega), (r5 b k' n' hb hk').2]
      obtain ⟨e1, e2, e3⟩ := row b e
      have : svA (mNew u k n) k' b = svA u k' b := by funext i; simp only [svA, e1, e2, e3]
      rw [this]
  · by_cases e : b = mT u
    · subst e
      rw [shpT] at hb
      cases hb
      exact hO c rfl
    · rw [shp b e] at hb
      have hb4 := r4 b _ hb
      refine ⟨(r6 b c n' hb).1, (r6 b c n' hb).2.1, ?_⟩
      obtain ⟨e1, e2, e3⟩ := row b e
      have : (fun i => svF (mNew u k n) (tyF c i) b i) = (fun i => svF u (tyF c i) b i) := by funext i; simp only [svF, e1, e2, e3]
      rw [this]
      exact (r6 b c n' hb).2.2.kept (hk b (by omega))
  · by_cases e : b = mT u
    · subst e
      show inR ((if mT u = mT u then (fun _ => (0 : Int)) else mI u (mT u)) i)
      rw [if_pos rfl]
      exact inR_0
    · rw [(row b e).1]; exact r7 b i
  · by_cases e : b = mT u
    · subst e
      show 0 ≤ (if mT u = mT u then (fun _ => (0 : Int)) else mI u (mT u)) i ∧ (if mT u = mT u then (fun _ => (0 : Int)) else mI u (mT u)) i < 65536
      rw [if_pos rfl]
      exact ⟨by decide, by decide⟩
    · rw [shp b e] at hb
      rw [(row b e).1]; exact r8 b n' hb i
  · by_cases e : b = mT u
    · subst e
      by_cases hk1 : k < 100
      · have h1 := (hA hk1).2
        rw [r1, hc] at h1
        cases h1
        rfl
      · obtain ⟨c0, rfl⟩ : ∃ c, k = 100 + c := ⟨k - 100, by omega⟩
        obtain ⟨-, -, cell', h1, -, h3, -⟩ := hO c0 rfl
        cases h1.symm.trans hc
        rw [h3]
        rfl
    · have hb2 : b < H'.size := (Array.getElem?_eq_some_iff.mp hc).1
      rw [hk b (by omega)] at hc
      exact r9 b cell hb hc
/-- a new cell that the memory does not look into -/
theorem HR.hole (R : HR D dA h H0 u H) {n : Nat} (hz : H'.size = H.size + 1) (hk : ∀ q, q < H.size → H'[q]? = H[q]?) (hns : ∀ cell : Cell, H'[H.size]? = some cell → cell.vm.isStatics = false) : HR D dA h H0 (mHole u n) H' := by
  obtain ⟨r1, r2, r3, r4, r5, r6, r7, r8, r9⟩ := R
  have shp : ∀ b, b ≠ mT u → mS (mHole u n) b = mS u b := fun b hb => if_neg hb
  have shpT : mS (mHole u n) (mT u) = none := if_pos rfl
  have old : ∀ b q, mS (mHole u n) b = some q → b ≠ mT u ∧ mS u b = some q := fun b q hb => by
    by_cases e : b = mT u
    · subst e; rw [shpT] at hb; cases hb
    · rw [shp b e] at hb; exact ⟨e, hb⟩
  refine ⟨by rw [hz, r1]; rfl, Nat.le_succ_of_le r2, fun q hq => by rw [hk q (by omega)]; exact r3 q hq, fun b q hb => ?_, fun b k' n' hb hk' => ?_, fun b c n' hb => ?_, fun b i => r7 b i, fun b n' hb i => r8 b n' (old b _ hb).2 i, fun b cell hb hc => ?_⟩
  · obtain ⟨-, h2⟩ := old b q hb
    have := r4 b q h2
    show h ≤ b ∧ b < mT u + 1
    omega
  · obtain ⟨-, h2⟩ := old b _ hb
    have hb4 := r4 b _ h2
    refine ⟨(r5 b k' n' h2 hk').1, ?_⟩
    rw [hk b (by omega)]
    exact (r5 b k' n' h2 hk').2
  · obtain ⟨-, h2⟩ := old b _ hb
    have hb4 := r4 b _ h2
    exact ⟨(r6 b c n' h2).1, (r6 b c n' h2).2.1, (r6 b c n' h2).2.2.kept (hk b (by omega))⟩
  · have hb2 : b < H'.size := (Array.getElem?_eq_some_iff.mp hc).1
    by_cases e : b = H.size
    · subst e; exact hns cell hc
    · rw [hk b (by omega)] at hc
      exact r9 b cell hb hc
end HRs
