/-! A run of the small machine is the JVM's: by induction on its length. What is ready, what throws and what catches comes as three hypotheses. -/
section MAIN
/-- what stands ready (kinds of bi) -/
def ReadyS (l : Launch) (D : va_G) (dA : Nat → ClassId) (P : Pg) (h0 : Nat) (H0 : Heap) (X : State → Prop) : Prop :=
  ∀ (p : Program) (e : Env) (R : Room) (s : State) (m : MethodId) (args : Array Value) (below : List Frame) (meth : Method) (c : Code) (j y n pc : Nat) (i : Instr) (a : Array Slot) (ls : Ls) (st as rest : List Vl) (u u' : Mm) (v : Option Vl),
    Cx D dA P p s m meth c j → X s → 12 ≤ R.frames → 600 ≤ R.locals → decode (tBc j) pc = .ok (i, n) → iln i n = true → cl P j i st = some (y, (as, rest)) → (rest.map cat).sum ≤ 8 → bi P (tKd y) as u = some (v, u') → LR a (tMx j) ls → (∀ v ∈ st, vok v) →
    Sg p l e R s m args below meth c D dA h0 H0 (tMx j) pc a st u (pc + n) ls (v.toList ++ rest) u'
def ThrowS (l : Launch) (dX : Nat → ClassId) (D : va_G) (dA : Nat → ClassId) (P : Pg) (h0 : Nat) (H0 : Heap) (X : State → Prop) : Prop :=
  ∀ (p : Program) (e : Env) (R : Room) (s : State) (m : MethodId) (args : Array Value) (below : List Frame) (meth : Method) (c : Code) (j pc k x n : Nat) (a : Array Slot) (ls : Ls) (st : List Vl) (u : Mm) (H : Heap) (locs : List Loc) (cells slots : Nat),
    Cx D dA P p s m meth c j → X s → j < 179 → 12 ≤ R.frames → 600 ≤ R.locals → decode (tBc j) pc = .ok (.new k, 3) → tLx (tOw j) k = some (x, n) → tHs j = [] → thrOk j pc x = true → LR a (tMx j) ls → HR D dA h0 H0 u H → (∀ q ∈ locs, h0 ≤ q.base) → (st.map cat).sum ≤ 8 → cells + 1 ≤ R.cells → slots + n ≤ R.slots →
    W p l e R s m args below meth c H locs cells slots (Fin dX D dA h0 H0 s below (.inr (x, mT u)) (mHole u n) (cells + 1) (slots + n)) (F0 m pc a (st.map tv))
def CatchS (l : Launch) (dX : Nat → ClassId) (D : va_G) (dA : Nat → ClassId) (P : Pg) (h0 : Nat) (H0 : Heap) (X : State → Prop) : Prop :=
  ∀ (p : Program) (e : Env) (R : Room) (s : State) (m : MethodId) (args : Array Value) (below : List Frame) (meth : Method) (c : Code) (T : State) (locs : List Loc) (cells slots j pc hp : Nat) (x : Nat × Nat) (a : Array Slot) (rest : List Value) (u : Mm),
    Stand p l e R s m args below meth c T locs cells slots → Cx D dA P p s m meth c j → X s → j < 179 → HR D dA h0 H0 u T.heap → hnd pc x.1 (tHs j) = some hp → x.1 < 5 → (∃ cell : Cell, T.heap[x.2]? = some cell ∧ cell.cls = dX x.1 ∧ cell.vm = .none) →
    ∃ vm' : Vm, Stand p l e R s m args below meth c (T.setVm vm') locs cells slots ∧ ∀ target, Steps p.tables e below ((T.setVm vm').setTop (F0 m hp a [.ref x.2])) target → Steps p.tables e below ((T.setTop (F0 m pc a rest)).pushFrame (.throwing x.2)) target
/-- in the methods of texts -/
def SpecS (l : Launch) (D : va_G) (dA : Nat → ClassId) (P : Pg) (h0 : Nat) (H0 : Heap) (X : State → Prop) : Prop :=
  ∀ (p : Program) (e : Env) (R : Room) (s : State) (m : MethodId) (args : Array Value) (below : List Frame) (meth : Method) (c : Code) (j n pc : Nat) (i : Instr) (a : Array Slot) (ls : Ls) (st st' : List Vl) (u : Mm),
    Cx D dA P p s m meth c j → X s → decode (tBc j) pc = .ok (i, n) → iln i n = true → sps P j i st = some st' → LR a (tMx j) ls → (∀ v ∈ st, vok v) →
    Sg p l e R s m args below meth c D dA h0 H0 (tMx j) pc a st u (pc + n) ls st' u
/-- the text of the signs is a text -/
def TextS (P : Pg) (h0 : Nat) (H0 : Heap) (X : State → Prop) : Prop := ∀ s : State, X s → pSg P < h0 ∧ ∃ cell : Cell, H0[pSg P]? = some cell ∧ (∀ k, cell.vm ≠ .statics k) ∧ s.vm.findClass (cNm 12) = some cell.cls
theorem hs_hd : ∀ j, j < 179 → tHs j = [] → hdL j = [] := by decide +kernel
variable {l : Launch} {dX : Nat → ClassId} {D : va_G} {dA : Nat → ClassId} {P : Pg} {h0 : Nat} {H0 : Heap} {X : State → Prop}
/-- a method called: its contract, out of its run -/
theorem met_of {d y : Nat} {as : List Vl} {u u1 : Mm} {o : Rs} (hy : y < 178) (he : (ent1 as).length ≤ tMx y) (hva : ∀ v ∈ as, vok v)
    (ih : ∀ (p : Program) (e : Env) (R : Room) (s : State) (m : MethodId) (args : Array Value) (below : List Frame) (meth : Method) (c : Code) (a : Array Slot), Cx D dA P p s m meth c y → X s → LR a (tMx y) (ent P y as) → d + 12 ≤ R.frames → 60 * d + 600 ≤ R.locals →
      ∀ (H : Heap) (locs : List Loc) (cells slots : Nat), HR D dA h0 H0 u H → (∀ q ∈ locs, h0 ≤ q.base) → cells + (mT u1 - mT u) ≤ R.cells → slots + (mU u1 - mU u) ≤ R.slots →
        W p l e R s m args below meth c H locs cells slots (Fin dX D dA h0 H0 s below o u1 (cells + (mT u1 - mT u)) (slots + (mU u1 - mU u))) (F0 m 0 a [])) :
    MetFree l (yN y) (headSpec [cdW y] { frames := d + 12, cells := mT u1 - mT u, slots := mU u1 - mU u, locals := 60 * d + 600 }) (fun av st => av = (as.map tv).toArray ∧ SK D dA P st ∧ X st ∧ HR D dA h0 H0 u st.heap) (fun _ _ _ _ _ => True)
      (fun _ st oc t => (Oc dX o oc t ∧ HR D dA h0 H0 u1 t.heap) ∧ ∃ L, FE st t L (mT u1 - mT u) (mU u1 - mU u) ∧ ∀ q ∈ L, h0 ≤ q.base) := by
  refine MetFree.of_bodySF (code := tBc y) (maxLocals := tMx y) (ret := tRt y) (nm_p y hy) ?_ ?_
  · intro args s m h hn
    obtain ⟨mk, meth, c, g1, g2, g3, g4, g5, g6, g7, -, -⟩ := cd_spec (atoms_spec (ws := [cdW y]) h _ List.mem_cons_self)
    cases g1.symm.trans hn
    exact ⟨meth, c, g2, g3, g4, g5, g6, g7⟩
  · intro p e s m args below meth c s₁ B hml hP _
    obtain ⟨rfl, hK, hX, hR⟩ := hP
    obtain ⟨mk, meth', c', g1, g2, g3, g4, g5, g6, g7, -, g9⟩ := cd_spec (atoms_spec (ws := [cdW y]) B.pre _ List.mem_cons_self)
    cases g1.symm.trans B.named
    cases g2.symm.trans B.method
    have X₀ := Stand.of_body B
    cases g3.symm.trans X₀.code
    have C : Cx D dA P p s m meth c y := ⟨B.exec, B.bytes, hml, B.returns, B.notSynchronized, by rw [← nm_5 y hy]; exact findClass_of_methodNamed B.named, fun h => by rw [(name_of_methodNamed B.named B.method).1]; exact (nm_4 y hy).2 h, hK, g9⟩
    have K := ih p e (headSpec [cdW y] { frames := d + 12, cells := mT u1 - mT u, slots := mU u1 - mU u, locals := 60 * d + 600 }).room s m (as.map tv).toArray below meth c _ C hX (ent_LR he hva) (Nat.le_refl _) (Nat.le_refl _) s.heap [] 0 0 hR (fun q hq => by cases hq) (by rw [Nat.zero_add]; exact Nat.le_refl _) (by rw [Nat.zero_add]; exact Nat.le_refl _)
    have hh0 : s₁.heap = s.heap := by rw [B.state]; rfl
    rw [lg_entry_eq]
    obtain ⟨t, a1, oc, L, b1, b2, b3, b4, b5⟩ := K s₁ hh0 X₀
    rw [Nat.zero_add, Nat.zero_add] at b4
    exact ⟨t, oc, a1, b1, b2, b3, L, b4, b5⟩
set_option maxRecDepth 100000 in
set_option maxHeartbeats 4000000 in
theorem fm_W (hXw : ∀ (s U : State) (u : Mm), s.WarmedH U.vm → HR D dA h0 H0 u U.heap → X s → X U) (HB : ReadyS l D dA P h0 H0 X) (HT : ThrowS l dX D dA P h0 H0 X) (HC : CatchS l dX D dA P h0 H0 X) (HSp : SpecS l D dA P h0 H0 X) (HTx : TextS P h0 H0 X) :
    ∀ (f d j pc : Nat) (ls : Ls) (st : List Vl) (u : Mm) (r : Rs) (u' : Mm), fm P f d j pc ls st u = some (r, u') → j < 179 →
      ∀ (p : Program) (e : Env) (R : Room) (s : State) (m : MethodId) (args : Array Value) (below : List Frame) (meth : Method) (c : Code) (a : Array Slot), Cx D dA P p s m meth c j → X s → LR a (tMx j) ls → (∀ v ∈ st, vok v) → d + 12 ≤ R.frames → 60 * d + 600 ≤ R.locals →
      ∀ (H : Heap) (locs : List Loc) (cells slots : Nat), HR D dA h0 H0 u H → (∀ q ∈ locs, h0 ≤ q.base) → cells + (mT u' - mT u) ≤ R.cells → slots + (mU u' - mU u) ≤ R.slots →
        W p l e R s m args below meth c H locs cells slots (Fin dX D dA h0 H0 s below r u' (cells + (mT u' - mT u)) (slots + (mU u' - mU u))) (F0 m pc a (st.map tv)) := by
  intro f
  induction f with
  | zero => intro d j pc ls st u r u' h; rw [fm] at h; cases h
  | succ f ih =>
    intro d j pc ls st u r u' h hj p e R s m args below meth c a C hX hL hst hF hLo H locs cells slots hR hlc hce hsl
    have hC := C
    obtain ⟨hx, hb, hml, hret, hlocks, hown, hini, hK, hxt⟩ := hC
    rw [fm] at h
    cases hd : decode (pBc P j) pc with
    | error er => simp only [hd] at h; cases h
    | ok q =>
      obtain ⟨i, n⟩ := q
      simp only [hd] at h
      by_cases hn : iln i n = true
      case neg => rw [if_neg hn] at h; cases h
      rw [if_pos hn] at h
      cases hs : stp P j i n pc ls st u with
      | some q =>
        obtain ⟨⟨pc1, ls1, st1⟩, u1⟩ := q
        simp only [hs] at h
        have m1 := stp_mono hs
        have m2 := fm_mono P _ _ _ _ _ _ _ _ _ h
        obtain ⟨-, -, G⟩ := stp_g (l := l) (e := e) (R := R) (args := args) (below := below) (D := D) (dA := dA) (h0 := h0) (H0 := H0) hx hb hK hown hini hL hst hd hn hs
        refine G H locs cells slots _ hR hlc (by omega) (by omega) fun a' H' locs' hL' hR' hst' hlc' => ?_
        have K := ih d j pc1 ls1 st1 u1 r u' h hj p e R s m args below meth c a' C hX hL' hst' hF hLo H' locs' (cells + (mT u1 - mT u)) (slots + (mU u1 - mU u)) hR' hlc' (by omega) (by omega)
        have e1 : cells + (mT u1 - mT u) + (mT u' - mT u1) = cells + (mT u' - mT u) := by omega
        have e2 : slots + (mU u1 - mU u) + (mU u' - mU u1) = slots + (mU u' - mU u) := by omega
        rw [e1, e2] at K
        exact K
      | none =>
        simp only [hs] at h
        cases hr : rt j i st with
        | some r' =>
          simp only [hr] at h
          cases h
          rw [Nat.sub_self, Nat.sub_self, Nat.add_zero, Nat.add_zero]
          exact fin_ret C hd hn hr hR hlc hst
        | none =>
          simp only [hr] at h
          cases hc : cl P j i st with
          | none =>
            simp only [hc] at h
            cases hth : thrF P j pc i st u with
            | some r1 =>
              simp only [hth] at h
              cases h
              cases i <;> simp only [thrF] at hth <;> first | (cases hth; done) | skip
              rename_i k
              cases hx1 : pLx P (pOw P j) k with
              | none => simp only [hx1] at hth; cases hth
              | some q =>
                obtain ⟨x, mm⟩ := q
                simp only [hx1] at hth
                by_cases hh : pHs P j = [] ∧ thrOk j pc x = true ∧ pLc P (pOw P j) k = none ∧ (st.map cat).sum ≤ 8
                · rw [if_pos hh] at hth
                  cases hth
                  have e3 : n = 3 := by simpa [iln] using hn
                  subst e3
                  have d1 : mT (mHole u mm) - mT u = 1 := by show mT u + 1 - mT u = 1; omega
                  have d2 : mU (mHole u mm) - mU u = mm := by show mU u + mm - mU u = mm; omega
                  rw [d1] at hce ⊢
                  rw [d2] at hsl ⊢
                  exact HT p e R s m args below meth c j pc k x mm a ls st u H locs cells slots C hX hj (by omega) (by omega) hd hx1 hh.1 hh.2.1 hL hR hlc hh.2.2.2 hce hsl
                · rw [if_neg hh] at hth; cases hth
            | none =>
              simp only [hth] at h
              cases hsp : sps P j i st with
              | none => simp only [hsp] at h; cases h
              | some st1 =>
                simp only [hsp] at h
                obtain ⟨-, -, G⟩ := HSp p e R s m args below meth c j n pc i a ls st st1 u C hX hd hn hsp hL hst
                refine G H locs cells slots _ hR hlc (by omega) (by omega) fun a' H' locs' hL' hR' hst' hlc' => ?_
                have K := ih d j (pc + n) ls st1 u r u' h hj p e R s m args below meth c a' C hX hL' hst' hF hLo H' locs' (cells + (mT u - mT u)) (slots + (mU u - mU u)) hR' hlc' (by omega) (by omega)
                have e1 : cells + (mT u - mT u) + (mT u' - mT u) = cells + (mT u' - mT u) := by omega
                have e2 : slots + (mU u - mU u) + (mU u' - mU u) = slots + (mU u' - mU u) := by omega
                rw [e1, e2] at K
                exact K
          | some q =>
            obtain ⟨y, as, rest⟩ := q
            simp only [hc] at h
            have hstr : st = as.reverse ++ rest := (cl_some hc).choose_spec.2.2.2
            have hva : ∀ v ∈ as, vok v := fun v hv => hst v (by rw [hstr]; exact List.mem_append_left _ (List.mem_reverse.mpr hv))
            have hvr : ∀ v ∈ rest, vok v := fun v hv => hst v (by rw [hstr]; exact List.mem_append_right _ hv)
            by_cases hw : (rest.map cat).sum ≤ 8
            · rw [if_pos hw] at h
              cases hbi : bi P (pKd P y) as u with
              | some q =>
                obtain ⟨v, u1⟩ := q
                simp only [hbi] at h
                have m1 := bi_mono hbi
                have m2 := fm_mono P _ _ _ _ _ _ _ _ _ h
                obtain ⟨-, -, G⟩ := HB p e R s m args below meth c j y n pc i a ls st as rest u u1 v C hX (by omega) (by omega) hd hn hc hw hbi hL hst
                refine G H locs cells slots _ hR hlc (by omega) (by omega) fun a' H' locs' hL' hR' hst' hlc' => ?_
                have K := ih d j (pc + n) ls (v.toList ++ rest) u1 r u' h hj p e R s m args below meth c a' C hX hL' hst' hF hLo H' locs' (cells + (mT u1 - mT u)) (slots + (mU u1 - mU u)) hR' hlc' (by omega) (by omega)
                have e1 : cells + (mT u1 - mT u) + (mT u' - mT u1) = cells + (mT u' - mT u) := by omega
                have e2 : slots + (mU u1 - mU u) + (mU u' - mU u1) = slots + (mU u' - mU u) := by omega
                rw [e1, e2] at K
                exact K
              | none =>
                simp only [hbi] at h
                cases d with
                | zero => cases h
                | succ d' =>
                  by_cases he : (ent1 as).length ≤ pMx P y ∧ pKd P y = 0 ∧ rcv P u y as = true
                  · simp only [if_pos he] at h
                    cases hf : fm P f d' y 0 (ent P y as) [] u with
                    | none => simp only [hf] at h; cases h
                    | some q =>
                      obtain ⟨o, u1⟩ := q
                      simp only [hf] at h
                      have m1 := fm_mono P _ _ _ _ _ _ _ _ _ hf
                      have hy : y < 178 := by
                        obtain ⟨k, -, hlm, -, -⟩ := cl_some hc
                        rcases (lm_ok hlm).1 with h5 | h5
                        · have := tKd_lt he.2.1; omega
                        · exact h5.1
                      have hM := met_of (l := l) (dX := dX) (D := D) (dA := dA) (P := P) (h0 := h0) (H0 := H0) (X := X) (d := d') (u := u) (u1 := u1) (o := o) hy he.1 hva
                        (fun p e R s m args below meth c a C hX hL hF hLo H locs cells slots hR hl h1 h2 => ih d' y 0 (ent P y as) [] u o u1 hf (by omega) p e R s m args below meth c a C hX hL (fun v hv => by cases hv) hF hLo H locs cells slots hR hl h1 h2)
                      intro T hT XT
                      obtain ⟨vm₁, mk, methY, cY, X₁, g1, g2, g3, g5, hgo⟩ := enter_ok (a := a) XT C hd hn hc hy he.2.2 (by rw [hT]; exact hR) (by
                        obtain ⟨t1, cell, t2, t3⟩ := HTx s hX
                        exact ⟨cell, by rw [hT, hR.2.2.1 _ t1]; exact t2, t3⟩)
                      have hmx := tMx_le y (by omega)
                      have m2 : mT u1 ≤ mT u' ∧ mU u1 ≤ mU u' := by
                        cases o with
                        | inl v => exact fm_mono P _ _ _ _ _ _ _ _ _ h
                        | inr x =>
                          simp only at h
                          cases hh : hnd pc x.1 (pHs P j) with
                          | none =>
                            simp only [hh] at h
                            split at h
                            · cases h; exact ⟨Nat.le_refl _, Nat.le_refl _⟩
                            · cases h
                          | some t => simp only [hh] at h; exact fm_mono P _ _ _ _ _ _ _ _ _ h
                      obtain ⟨oc, t, L, hq, hLq, X₂, hst2⟩ := callX X₁ hM (g := F0 m pc a (rest.map tv)) rfl (by rw [hml]; exact hL.2.1) (ig := i) (len := n) (by rw [hb]; exact hd) (Wd := 8) (lv_room (by rw [tv_cats]; exact hw)) (a := (as.map tv).toArray) (X₁.named g1) (by rw [X₁.warmed.alike.method?]; exact g2) g3
                        (by show d' + 12 + 1 ≤ R.frames; omega) (by show 8 + (cY.maxLocals + 11) + (60 * d' + 600) ≤ R.locals; omega) (by show cells + (mT u1 - mT u) ≤ R.cells; omega) (by show slots + (mU u1 - mU u) ≤ R.slots; omega)
                        (fun w hw' => by rw [List.mem_singleton.mp hw']; exact (hK.warm X₁.warmed).w (code_ok y hy) (cd_kW y) _) (by rw [nm_5 y hy]; exact (hK.warm X₁.warmed).w (tm (ini_ok (tOw y) (nm_6 y hy).1)) rfl _)
                        ⟨rfl, hK.warm X₁.warmed, hXw s _ u X₁.warmed (by show HR D dA h0 H0 u T.heap; rw [hT]; exact hR) hX, by show HR D dA h0 H0 u T.heap; rw [hT]; exact hR⟩
                      obtain ⟨hoc, hR1⟩ := hq
                      have hlc2 : ∀ q ∈ locs ++ L, h0 ≤ q.base := fun q hq => by
                        rcases List.mem_append.mp hq with h9 | h9
                        · exact hlc q h9
                        · exact hLq q h9
                      have e1 : cells + (mT u1 - mT u) + (mT u' - mT u1) = cells + (mT u' - mT u) := by omega
                      have e2 : slots + (mU u1 - mU u) + (mU u' - mU u1) = slots + (mU u' - mU u) := by omega
                      cases o with
                      | inl v =>
                        obtain ⟨hoc', hvv⟩ := hoc
                        subst hoc'
                        have K := ih (d' + 1) j (pc + n) ls (v.toList ++ rest) u1 r u' h hj p e R s m args below meth c a C hX hL (fun w hw' => by
                          rcases List.mem_append.mp hw' with h9 | h9
                          · exact hvv w h9
                          · exact hvr w h9) hF hLo _ (locs ++ L) (cells + (mT u1 - mT u)) (slots + (mU u1 - mU u)) hR1 hlc2 (by omega) (by omega)
                        rw [e1, e2] at K
                        obtain ⟨t2, a1, b1⟩ := K _ (by rfl) X₂
                        refine ⟨t2, hgo _ (hst2.trans ?_), b1⟩
                        have ev : (F0 m (pc + n) a ((v.toList ++ rest).map tv)) = { (F0 m pc a (rest.map tv)) with pc := (F0 m pc a (rest.map tv)).pc + n, stack := (v.map tv).toList ++ (F0 m pc a (rest.map tv)).stack } := by
                          show F0 m (pc + n) a _ = F0 m (pc + n) a _
                          rw [List.map_append]
                          cases v <;> rfl
                        rw [ev] at a1
                        exact a1
                      | inr x =>
                        simp only at h
                        obtain ⟨hoc', hx5, hcell⟩ := hoc
                        subst hoc'
                        cases hh : hnd pc x.1 (pHs P j) with
                        | none =>
                          simp only [hh] at h
                          split at h
                          · rename_i hnil
                            cases h
                            obtain ⟨w1, w2, w3, w4, w5⟩ := X₂.leaveThrown x.2 (g := F0 m pc a (rest.map tv)) rfl rfl rfl (by
                              have : c.exceptionTable.toList = [] := by
                                have h9 := hxt
                                rw [hs_hd j hj hnil] at h9
                                simpa using h9
                              rw [this]
                              intro z hz
                              cases hz) hlocks
                            refine ⟨_, hgo _ (hst2.trans w1), .threw x.2, locs ++ L, w2, w3, ⟨⟨rfl, hx5, hcell⟩, hR1⟩, ⟨w4, w5⟩, hlc2⟩
                          · cases h
                        | some hp =>
                          simp only [hh] at h
                          obtain ⟨vm', X₃, hgo3⟩ := HC p e R s m args below meth c _ (locs ++ L) _ _ j pc hp x a (rest.map tv) u1 X₂ C hX hj hR1 hh hx5 hcell
                          have K := ih (d' + 1) j hp ls [vR x.2] u1 r u' h hj p e R s m args below meth c a C hX hL (fun w hw' => by rw [List.mem_singleton.mp hw']; trivial) hF hLo _ (locs ++ L) (cells + (mT u1 - mT u)) (slots + (mU u1 - mU u)) hR1 hlc2 (by omega) (by omega)
                          rw [e1, e2] at K
                          obtain ⟨t2, a1, b1⟩ := K _ (by rfl) X₃
                          exact ⟨t2, hgo _ (hst2.trans (hgo3 _ a1)), b1⟩
                  · simp only [if_neg he] at h; cases h
            · rw [if_neg hw] at h; cases h
end MAIN
