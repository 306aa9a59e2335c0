/-! The model's tree of nodes: children, segments. Pure, by hand. -/
def hdK : List Nat → Int
  | [] => -1
  | c :: _ => (c : Int)
def Lnk (nx : Nat → Int) : List Nat → Prop
  | [] => True
  | c :: C => nx c = hdK C ∧ Lnk nx C
def Tl (af : Nat → Nat) : List Nat → Nat → Nat → Prop
  | [], lo, hi => lo = hi
  | c :: C, lo, hi => c = lo ∧ Tl af C (af lo) hi
theorem hdK_app {C D : List Nat} (h : C ≠ []) : hdK (C ++ D) = hdK C := by
  cases C with
  | nil => exact absurd rfl h
  | cons c C => rfl
theorem lnk_of {nx nx' : Nat → Int} : ∀ {C : List Nat}, Lnk nx C → (∀ c, c ∈ C → nx' c = nx c) → Lnk nx' C := by
  intro C
  induction C with
  | nil => intro _ _; trivial
  | cons c C ih =>
    intro h hs
    exact ⟨by rw [hs c (List.mem_cons_self ..)]; exact h.1, ih h.2 (fun x hx => hs x (List.mem_cons_of_mem _ hx))⟩
theorem lnk_snoc {nx nx' : Nat → Int} {l n : Nat} : ∀ {C : List Nat}, Lnk nx (C ++ [l]) → (∀ c, c ∈ C → nx' c = nx c) → nx' l = (n : Int) → nx' n = -1 → Lnk nx' (C ++ [l] ++ [n]) := by
  intro C
  induction C with
  | nil => intro _ _ h1 h2; exact ⟨h1, h2, trivial⟩
  | cons c C ih =>
    intro h hs h1 h2
    refine ⟨?_, ih h.2 (fun x hx => hs x (List.mem_cons_of_mem _ hx)) h1 h2⟩
    rw [hs c (List.mem_cons_self ..)]
    have := h.1
    rw [this]
    have hne : C ++ [l] ≠ [] := by simp
    exact (hdK_app hne).symm
theorem tl_le {af : Nat → Nat} (ha : ∀ n, n < af n) : ∀ {C : List Nat} {lo hi : Nat}, Tl af C lo hi → lo ≤ hi ∧ (∀ c, c ∈ C → lo ≤ c ∧ c < hi) ∧ (C ≠ [] → lo < hi) := by
  intro C
  induction C with
  | nil => intro lo hi h; exact ⟨Nat.le_of_eq h, fun _ h => absurd h (List.not_mem_nil), fun h => absurd rfl h⟩
  | cons c C ih =>
    intro lo hi h
    obtain ⟨h1, h2⟩ := h
    obtain ⟨i1, i2, i3⟩ := ih h2
    have := ha lo
    refine ⟨by omega, fun x hx => ?_, fun _ => by omega⟩
    rcases List.mem_cons.mp hx with rfl | hx
    · omega
    · have := i2 x hx; omega
theorem tl_app {af : Nat → Nat} : ∀ {C D : List Nat} {lo mid hi : Nat}, Tl af C lo mid → Tl af D mid hi → Tl af (C ++ D) lo hi := by
  intro C
  induction C with
  | nil => intro D lo mid hi h1 h2; cases h1; exact h2
  | cons c C ih => intro D lo mid hi h1 h2; exact ⟨h1.1, ih h1.2 h2⟩
theorem tl_of {af af' : Nat → Nat} (ha : ∀ n, n < af n) : ∀ {C : List Nat} {lo hi : Nat}, Tl af C lo hi → (∀ n, lo ≤ n → n < hi → af' n = af n) → Tl af' C lo hi := by
  intro C
  induction C with
  | nil => intro lo hi h _; exact h
  | cons c C ih =>
    intro lo hi h hs
    have hlt := (tl_le (C := c :: C) ha h).2.2 (by simp)
    have h0 := ha lo
    refine ⟨h.1, ?_⟩
    rw [hs lo (Nat.le_refl _) hlt]
    exact ih h.2 (fun n h1 h2 => hs n (by omega) h2)
theorem tl_chn {nx : Nat → Int} {af : Nat → Nat} (ha : ∀ n, n < af n) : ∀ (f : Nat) {C : List Nat} {lo hi : Nat}, Tl af C lo hi → Lnk nx C → Chn nx af f lo hi := by
  intro f
  induction f with
  | zero => intro C lo hi _ _; trivial
  | succ f ih =>
    intro C lo hi h hl hlt
    cases C with
    | nil => cases h; exact absurd hlt (by omega)
    | cons c C =>
      obtain ⟨rfl, h2⟩ := h
      refine ⟨?_, ih h2 hl.2⟩
      rw [hl.1]
      cases C with
      | nil => cases h2; rw [if_neg (by omega)]; rfl
      | cons c' C' =>
        have := (tl_le (C := c' :: C') ha h2).2.2 (by simp)
        rw [if_pos this]
        obtain ⟨rfl, _⟩ := h2
        rfl
theorem chn_of {nx : Nat → Int} {af af' : Nat → Nat} (ha : ∀ n, n < af n) : ∀ (f : Nat) {lo hi : Nat}, (∀ n, lo ≤ n → n < hi → af' n = af n) → Chn nx af f lo hi → Chn nx af' f lo hi := by
  intro f
  induction f with
  | zero => intro lo hi _ _; trivial
  | succ f ih =>
    intro lo hi hs h hlt
    have h0 := ha lo
    obtain ⟨h1, h2⟩ := h hlt
    rw [hs lo (Nat.le_refl _) hlt]
    exact ⟨h1, ih (fun n h1 h2 => hs n (by omega) h2) h2⟩
theorem afF_lt {en : Nat → Int} : ∀ n, n < afF en n := fun n => by unfold afF; split <;> omega
theorem afF_of {en en' : Nat → Int} {n : Nat} (h : en' n = en n) : afF en' n = afF en n := by unfold afF; rw [h]
theorem afF_at {en : Nat → Int} {n e : Nat} (h : en n = (e : Int)) (hl : n < e) : afF en n = e := by unfold afF; rw [h]; split <;> omega
/-- a finished segment of nodes, with the outermost of them -/
def Sgm (g : Nat → Nat → Int) (m : Nat) (S : PS) (lo : Nat) (C : List Nat) : Prop := Tl (afF S.2.2.2.2.2) C lo S.2.1 ∧ ∀ n, lo ≤ n → n < S.2.1 → g (m + 3) n = kdM (S.2.2.1 n) ∧ g (m + 5) n = nmM (S.2.2.2.1 n) ∧ g (m + 4) n = S.2.2.2.2.1 n ∧ (S.2.2.2.2.1 n = 0 ∨ S.2.2.2.2.1 n = 1) ∧ g (m + 6) n = (if n + 1 < afF S.2.2.2.2.2 n then ((n + 1 : Nat) : Int) else -1) ∧ afF S.2.2.2.2.2 n ≤ S.2.1 ∧ ∀ nx, (∀ c, lo ≤ c → c < S.2.1 → c ∉ C → nx c = g (m + 8) c) → Chn nx (afF S.2.2.2.2.2) 51 (n + 1) (afF S.2.2.2.2.2 n)
/-- the children of an owner so far -/
def OW (g : Nat → Nat → Int) (m o : Nat) (C : List Nat) : Prop := g (m + 6) o = hdK C ∧ (∀ (D : List Nat) (l : Nat), C = D ++ [l] → g (m + 7) o = (l : Int)) ∧ Lnk (g (m + 8)) C ∧ C.Pairwise (fun a b => a < b)
/-- what a parse may touch at all -/
def Wk (m : Nat) (g g' : Nat → Nat → Int) : Prop := (∀ a, a ≠ m → (a < m + 3 ∨ m + 11 < a) → g' a = g a) ∧ ∀ f, f ≠ 1 → f ≠ 4 → f ≠ 6 → f ≠ 14 → g' m f = g m f
theorem Wk.refl {m : Nat} {g : Nat → Nat → Int} : Wk m g g := ⟨fun _ _ _ => rfl, fun _ _ _ _ _ => rfl⟩
theorem Wk.trans {m : Nat} {g g1 g2 : Nat → Nat → Int} (h : Wk m g g1) (k : Wk m g1 g2) : Wk m g g2 := ⟨fun a h1 h2 => (k.1 a h1 h2).trans (h.1 a h1 h2), fun f a b c e => (k.2 f a b c e).trans (h.2 f a b c e)⟩
theorem Wk.m {m f : Nat} {x : Int} {g g1 : Nat → Nat → Int} (h : Wk m g g1) (hf : f = 1 ∨ f = 4 ∨ f = 6 ∨ f = 14) : Wk m g (u2 g1 m f x) := ⟨fun a h1 h2 => by rw [u2_ne h1]; exact h.1 a h1 h2, fun k a b c e => by rw [u2_ni (by omega)]; exact h.2 k a b c e⟩
theorem Wk.a {m j i : Nat} {x : Int} {g g1 : Nat → Nat → Int} (h : Wk m g g1) (h3 : 3 ≤ j) (h4 : j ≤ 11) : Wk m g (u2 g1 (m + j) i x) := ⟨fun a h1 h2 => by rw [u2_ne (by omega)]; exact h.1 a h1 h2, fun k a b c e => by rw [u2_ne (by omega)]; exact h.2 k a b c e⟩
/-- what a part leaves -/
def Frm (m : Nat) (g g' : Nat → Nat → Int) (s o : Nat) (C : List Nat) (k : Nat) : Prop := (∀ n, n < s → g' (m + 3) n = g (m + 3) n ∧ g' (m + 4) n = g (m + 4) n ∧ g' (m + 5) n = g (m + 5) n) ∧ (∀ n, n < s ∨ n = 50 → n ≠ o → g' (m + 6) n = g (m + 6) n ∧ g' (m + 7) n = g (m + 7) n) ∧ (∀ n, n < s → n ∉ C → g' (m + 8) n = g (m + 8) n) ∧ ∀ i, i ≤ k → g' (m + 9) i = g (m + 9) i ∧ g' (m + 10) i = g (m + 10) i ∧ g' (m + 11) i = g (m + 11) i
theorem Frm.refl {m s o k : Nat} {C : List Nat} {g : Nat → Nat → Int} : Frm m g g s o C k := ⟨fun _ _ => ⟨rfl, rfl, rfl⟩, fun _ _ _ => ⟨rfl, rfl⟩, fun _ _ _ => rfl, fun _ _ => ⟨rfl, rfl, rfl⟩⟩
theorem Frm.trans {m s s1 o k k1 : Nat} {C C1 : List Nat} {g g1 g2 : Nat → Nat → Int} (h : Frm m g g1 s o C k) (h1 : Frm m g1 g2 s1 o C1 k1) (hs : s ≤ s1) (hk : k ≤ k1) (hC : ∀ c, c ∈ C1 → c < s → c ∈ C) : Frm m g g2 s o C k := by
  refine ⟨fun n hn => ?_, fun n hn hno => ?_, fun n hn hc => ?_, fun i hi => ?_⟩
  · obtain ⟨a1, a2, a3⟩ := h.1 n hn; obtain ⟨b1, b2, b3⟩ := h1.1 n (by omega); exact ⟨b1.trans a1, b2.trans a2, b3.trans a3⟩
  · obtain ⟨a1, a2⟩ := h.2.1 n hn hno; obtain ⟨b1, b2⟩ := h1.2.1 n (by omega) hno; exact ⟨b1.trans a1, b2.trans a2⟩
  · exact (h1.2.2.1 n (by omega) (fun hx => hc (hC n hx hn))).trans (h.2.2.1 n hn hc)
  · obtain ⟨a1, a2, a3⟩ := h.2.2.2 i hi; obtain ⟨b1, b2, b3⟩ := h1.2.2.2 i (by omega); exact ⟨b1.trans a1, b2.trans a2, b3.trans a3⟩
/-- inside a new owner -/
theorem Frm.trans2 {m s o n k k1 : Nat} {C C1 : List Nat} {g g1 g2 : Nat → Nat → Int} (h : Frm m g g1 s o C k) (h1 : Frm m g1 g2 (s + 1) s C1 k1) (hk : k ≤ k1) (hC : ∀ c, c ∈ C1 → s < c) (hs : s < 50) : Frm m g g2 s o C k := by
  refine ⟨fun n hn => ?_, fun n hn hno => ?_, fun n hn hc => ?_, fun i hi => ?_⟩
  · obtain ⟨a1, a2, a3⟩ := h.1 n hn; obtain ⟨b1, b2, b3⟩ := h1.1 n (by omega); exact ⟨b1.trans a1, b2.trans a2, b3.trans a3⟩
  · obtain ⟨a1, a2⟩ := h.2.1 n hn hno; obtain ⟨b1, b2⟩ := h1.2.1 n (by omega) (by omega); exact ⟨b1.trans a1, b2.trans a2⟩
  · exact (h1.2.2.1 n (by omega) (fun hx => by have := hC n hx; omega)).trans (h.2.2.1 n hn hc)
  · obtain ⟨a1, a2, a3⟩ := h.2.2.2 i hi; obtain ⟨b1, b2, b3⟩ := h1.2.2.2 i (by omega); exact ⟨b1.trans a1, b2.trans a2, b3.trans a3⟩
theorem Frm.to {m s o k : Nat} {C : List Nat} {g g1 g2 : Nat → Nat → Int} (h : Frm m g g1 s o C k) (h2 : ∀ a, a ≠ m → g2 a = g1 a) : Frm m g g2 s o C k := by
  unfold Frm at h ⊢
  rw [h2 (m + 3) (by omega), h2 (m + 4) (by omega), h2 (m + 5) (by omega), h2 (m + 6) (by omega), h2 (m + 7) (by omega), h2 (m + 8) (by omega), h2 (m + 9) (by omega), h2 (m + 10) (by omega), h2 (m + 11) (by omega)]
  exact h
theorem Sgm.to {m : Nat} {S S' : PS} {lo : Nat} {C : List Nat} {g g2 : Nat → Nat → Int} (h : Sgm g m S lo C) (h2 : ∀ a, a ≠ m → g2 a = g a) (hS : S'.2 = S.2) : Sgm g2 m S' lo C := by
  unfold Sgm at h ⊢
  rw [hS, h2 (m + 3) (by omega), h2 (m + 4) (by omega), h2 (m + 5) (by omega), h2 (m + 6) (by omega), h2 (m + 8) (by omega)]
  exact h
theorem OW.to {m o : Nat} {C : List Nat} {g g2 : Nat → Nat → Int} (h : OW g m o C) (h2 : ∀ a, a ≠ m → (a < m + 9 ∨ m + 11 < a) → g2 a = g a) : OW g2 m o C := by
  unfold OW at h ⊢
  rw [h2 (m + 6) (by omega) (by omega), h2 (m + 7) (by omega) (by omega), h2 (m + 8) (by omega) (by omega)]
  exact h
/-- two segments beside one another -/
theorem Sgm.app {m o k : Nat} {S S1 S2 : PS} {C0 C1 C2 : List Nat} {g1 g2 : Nat → Nat → Int} (h1 : Sgm g1 m S1 S.2.1 C1) (h2 : Sgm g2 m S2 S1.2.1 C2) (hf : Frm m g1 g2 S1.2.1 o (C0 ++ C1) k) (hs : SmB S1 S2 S1.2.1) (hle : S1.2.1 ≤ S2.2.1) (hC : ∀ c, c ∈ C0 → c < S.2.1) (ho : o < S.2.1 ∨ o = 50) (h50 : S1.2.1 ≤ 50) : Sgm g2 m S2 S.2.1 (C1 ++ C2) := by
  have hz : ∀ n, n < S1.2.1 → afF S2.2.2.2.2.2 n = afF S1.2.2.2.2.2 n := fun n hn => afF_of (hs n hn).2.2.2
  refine ⟨tl_app (tl_of afF_lt h1.1 (fun n _ hn => hz n hn)) h2.1, fun n hn hn2 => ?_⟩
  by_cases hl : n < S1.2.1
  · obtain ⟨a1, a2, a3, a4, a5, a6, a7⟩ := h1.2 n hn hl
    obtain ⟨e1, e2, e3, e4⟩ := hs n hl
    obtain ⟨f1, f2, f3⟩ := hf.1 n hl
    obtain ⟨f4, _⟩ := hf.2.1 n (Or.inl hl) (by omega)
    rw [f1, f2, f3, f4, e1, e2, e3, hz n hl]
    refine ⟨a1, a2, a3, a4, a5, by omega, fun nx hx => ?_⟩
    refine chn_of afF_lt 51 (fun k h1 h2 => hz k (by omega)) (a7 nx (fun c b1 b2 b3 => ?_))
    have hc2 : c ∉ C2 := fun hx => by have := ((tl_le afF_lt h2.1).2.1 c hx).1; omega
    have hc0 : c ∉ C0 := fun hx => by have := hC c hx; omega
    rw [hx c b1 (by omega) (fun hx => by rcases List.mem_append.mp hx with h | h; exact b3 h; exact hc2 h)]
    exact hf.2.2.1 c b2 (fun hx => by rcases List.mem_append.mp hx with h | h; exact hc0 h; exact b3 h)
  · obtain ⟨a1, a2, a3, a4, a5, a6, a7⟩ := h2.2 n (by omega) hn2
    refine ⟨a1, a2, a3, a4, a5, a6, fun nx hx => a7 nx (fun c b1 b2 b3 => hx c (by have := (tl_le afF_lt h1.1).1; omega) b2 (fun hx => ?_))⟩
    rcases List.mem_append.mp hx with h | h
    · have := ((tl_le afF_lt h1.1).2.1 c h).2; omega
    · exact b3 h
theorem Sgm.nil {m : Nat} {S : PS} {g : Nat → Nat → Int} : Sgm g m S S.2.1 [] := ⟨rfl, fun n h1 h2 => absurd h2 (by omega)⟩
/-- a node around a segment -/
theorem Sgm.wrap {m n : Nat} {S : PS} {C : List Nat} {g : Nat → Nat → Int} (h : Sgm g m S (n + 1) C) (ho : OW g m n C) (h1 : g (m + 3) n = kdM (S.2.2.1 n)) (h2 : g (m + 5) n = nmM (S.2.2.2.1 n)) (h3 : g (m + 4) n = S.2.2.2.2.1 n) (h4 : S.2.2.2.2.1 n = 0 ∨ S.2.2.2.2.1 n = 1) : Sgm g m (enP n S) n [n] := by
  have hle := (tl_le afF_lt h.1).1
  have en1 : ∀ k, k ≠ n → (enP n S).2.2.2.2.2 k = S.2.2.2.2.2 k := fun k hk => u1_ne hk
  have en2 : (enP n S).2.2.2.2.2 n = (S.2.1 : Int) := u1_eq
  have af1 : ∀ k, k ≠ n → afF (enP n S).2.2.2.2.2 k = afF S.2.2.2.2.2 k := fun k hk => afF_of (en1 k hk)
  have af2 : afF (enP n S).2.2.2.2.2 n = S.2.1 := afF_at en2 (by omega)
  refine ⟨⟨rfl, ?_⟩, fun k hk hk2 => ?_⟩
  · rw [af2]; rfl
  by_cases hkn : k = n
  · subst hkn
    refine ⟨h1, h2, h3, h4, ?_, Nat.le_of_eq af2, fun nx hx => ?_⟩
    · rw [ho.1, af2]
      cases C with
      | nil => have : k + 1 = S.2.1 := h.1; rw [if_neg (by omega)]; rfl
      | cons c C =>
        have h5 := (tl_le (C := c :: C) afF_lt h.1).2.2 (by simp)
        obtain ⟨rfl, _⟩ := h.1
        rw [if_pos h5]; rfl
    · rw [af2]
      refine chn_of (af := afF S.2.2.2.2.2) afF_lt 51 (fun c b1 b2 => af1 c (by omega)) (tl_chn afF_lt 51 h.1 (lnk_of ho.2.2.1 (fun c hc => ?_)))
      have := (tl_le afF_lt h.1).2.1 c hc
      exact hx c (by omega) this.2 (fun hx => by rw [List.mem_singleton] at hx; omega)
  · obtain ⟨a1, a2, a3, a4, a5, a6, a7⟩ := h.2 k (by omega) hk2
    rw [af1 k hkn]
    refine ⟨a1, a2, a3, a4, a5, a6, fun nx hx => chn_of (af := afF S.2.2.2.2.2) afF_lt 51 (fun c b1 b2 => af1 c (by omega)) (a7 nx (fun c b1 b2 _ => hx c (by omega) b2 (fun hx => by rw [List.mem_singleton] at hx; omega)))⟩
/-- a whole term -/
theorem Sgm.tr {m : Nat} {S : PS} {C : List Nat} {g : Nat → Nat → Int} (h : Sgm g m S 0 C) (ho : OW g m 50 C) : TrR g m S.2.2.1 S.2.2.2.1 S.2.2.2.2.1 S.2.2.2.2.2 S.2.1 := by
  refine ⟨fun n hn => ?_, ?_, tl_chn afF_lt 51 h.1 ho.2.2.1⟩
  · obtain ⟨a1, a2, a3, a4, a5, a6, a7⟩ := h.2 n (Nat.zero_le _) hn
    exact ⟨a1, a2, a3, a4, a5, a7 _ (fun _ _ _ _ => rfl)⟩
  · intro h0
    rw [ho.1]
    cases C with
    | nil => have : 0 = S.2.1 := h.1; omega
    | cons c C => obtain ⟨rfl, _⟩ := h.1; rfl
