/-! More steps, more depth: the same result. Then the rules. -/
theorem fm_up (P : Pg) : ∀ (f d j pc : Nat) (ls : Ls) (st : List Vl) (u : Mm) (r : Rs × Mm), fm P f d j pc ls st u = some r → fm P (f + 1) d j pc ls st u = some r := by
  intro f
  induction f with
  | zero => intro d j pc ls st u r h; rw [fm] at h; cases h
  | succ f ih =>
    intro d j pc ls st u r h
    rw [fm] at h ⊢
    cases hd : decode (pBc P j) pc with
    | error e => simp only [hd] at h; cases h
    | ok q =>
      obtain ⟨i, n⟩ := q
      simp only [hd] at h ⊢
      by_cases hl : iln i n = true
      case neg => rw [if_neg hl] at h; cases h
      rw [if_pos hl] at h ⊢
      cases hs : stp P j i n pc ls st u with
      | some q =>
        obtain ⟨⟨pc', ls', st'⟩, u'⟩ := q
        simp only [hs] at h ⊢
        exact ih _ _ _ _ _ _ _ h
      | none =>
        simp only [hs] at h ⊢
        cases hr : rt j i st with
        | some r' => simp only [hr] at h ⊢; exact h
        | none =>
          simp only [hr] at h ⊢
          cases hc : cl P j i st with
          | none =>
            simp only [hc] at h ⊢
            cases ht : thrF P j pc i st u with
            | some r1 => simp only [ht] at h ⊢; exact h
            | none =>
              simp only [ht] at h ⊢
              cases hp : sps P j i st with
              | none => simp only [hp] at h; cases h
              | some st1 => simp only [hp] at h ⊢; exact ih _ _ _ _ _ _ _ h
          | some q =>
            obtain ⟨y, as, rest⟩ := q
            simp only [hc] at h ⊢
            by_cases hw : (rest.map cat).sum ≤ 8
            · rw [if_pos hw] at h ⊢
              cases hb : bi P (pKd P y) as u with
              | some q =>
                obtain ⟨v, u'⟩ := q
                simp only [hb] at h ⊢
                exact ih _ _ _ _ _ _ _ h
              | none =>
                simp only [hb] at h ⊢
                cases d with
                | zero => cases h
                | succ d' =>
                  by_cases he : (ent1 as).length ≤ pMx P y ∧ pKd P y = 0 ∧ rcv P u y as = true
                  · simp only [if_pos he] at h ⊢
                    cases hf : fm P f d' y 0 (ent P y as) [] u with
                    | none => simp only [hf] at h; cases h
                    | some q =>
                      rw [ih _ _ _ _ _ _ _ hf]
                      obtain ⟨o, u'⟩ := q
                      simp only [hf] at h
                      cases o with
                      | inl v => exact ih _ _ _ _ _ _ _ h
                      | inr x =>
                        simp only at h ⊢
                        cases hh : hnd pc x.1 (pHs P j) with
                        | none => simp only [hh] at h ⊢; exact h
                        | some t => simp only [hh] at h ⊢; exact ih _ _ _ _ _ _ _ h
                  · simp only [if_neg he] at h; cases h
            · rw [if_neg hw] at h; cases h
theorem fm_dp (P : Pg) : ∀ (f d j pc : Nat) (ls : Ls) (st : List Vl) (u : Mm) (r : Rs × Mm), fm P f d j pc ls st u = some r → fm P f (d + 1) j pc ls st u = some r := by
  intro f
  induction f with
  | zero => intro d j pc ls st u r h; rw [fm] at h; cases h
  | succ f ih =>
    intro d j pc ls st u r h
    rw [fm] at h ⊢
    cases hd : decode (pBc P j) pc with
    | error e => simp only [hd] at h; cases h
    | ok q =>
      obtain ⟨i, n⟩ := q
      simp only [hd] at h ⊢
      by_cases hl : iln i n = true
      case neg => rw [if_neg hl] at h; cases h
      rw [if_pos hl] at h ⊢
      cases hs : stp P j i n pc ls st u with
      | some q =>
        obtain ⟨⟨pc', ls', st'⟩, u'⟩ := q
        simp only [hs] at h ⊢
        exact ih _ _ _ _ _ _ _ h
      | none =>
        simp only [hs] at h ⊢
        cases hr : rt j i st with
        | some r' => simp only [hr] at h ⊢; exact h
        | none =>
          simp only [hr] at h ⊢
          cases hc : cl P j i st with
          | none =>
            simp only [hc] at h ⊢
            cases ht : thrF P j pc i st u with
            | some r1 => simp only [ht] at h ⊢; exact h
            | none =>
              simp only [ht] at h ⊢
              cases hp : sps P j i st with
              | none => simp only [hp] at h; cases h
              | some st1 => simp only [hp] at h ⊢; exact ih _ _ _ _ _ _ _ h
          | some q =>
            obtain ⟨y, as, rest⟩ := q
            simp only [hc] at h ⊢
            by_cases hw : (rest.map cat).sum ≤ 8
            · rw [if_pos hw] at h ⊢
              cases hb : bi P (pKd P y) as u with
              | some q =>
                obtain ⟨v, u'⟩ := q
                simp only [hb] at h ⊢
                exact ih _ _ _ _ _ _ _ h
              | none =>
                simp only [hb] at h ⊢
                cases d with
                | zero => cases h
                | succ d' =>
                  by_cases he : (ent1 as).length ≤ pMx P y ∧ pKd P y = 0 ∧ rcv P u y as = true
                  · simp only [if_pos he] at h ⊢
                    cases hf : fm P f d' y 0 (ent P y as) [] u with
                    | none => simp only [hf] at h; cases h
                    | some q =>
                      rw [ih _ _ _ _ _ _ _ hf]
                      obtain ⟨o, u'⟩ := q
                      simp only [hf] at h
                      cases o with
                      | inl v => exact ih _ _ _ _ _ _ _ h
                      | inr x =>
                        simp only at h ⊢
                        cases hh : hnd pc x.1 (pHs P j) with
                        | none => simp only [hh] at h ⊢; exact h
                        | some t => simp only [hh] at h ⊢; exact ih _ _ _ _ _ _ _ h
                  · simp only [if_neg he] at h; cases h
            · rw [if_neg hw] at h; cases h
theorem fm_ups {P : Pg} {f f' d j pc : Nat} {ls : Ls} {st : List Vl} {u : Mm} {r : Rs × Mm} (hf : f ≤ f') (h : fm P f d j pc ls st u = some r) : fm P f' d j pc ls st u = some r := by
  induction hf with
  | refl => exact h
  | step _ ih => exact fm_up _ _ _ _ _ _ _ _ _ ih
theorem fm_dps {P : Pg} {f d d' j pc : Nat} {ls : Ls} {st : List Vl} {u : Mm} {r : Rs × Mm} (hd : d ≤ d') (h : fm P f d j pc ls st u = some r) : fm P f d' j pc ls st u = some r := by
  induction hd with
  | refl => exact h
  | step _ ih => exact fm_dp _ _ _ _ _ _ _ _ _ ih
/-- from here the run comes to its end, with Q of the result and the memory -/
def Ef (P : Pg) (d j pc : Nat) (ls : Ls) (st : List Vl) (u : Mm) (Q : Rs → Mm → Prop) : Prop := ∃ (f : Nat) (r : Rs) (u' : Mm), fm P f d j pc ls st u = some (r, u') ∧ Q r u'
/-- a method called -/
def Ec (P : Pg) (d y : Nat) (as : List Vl) (u : Mm) (Q : Rs → Mm → Prop) : Prop := Ef P d y 0 (ent P y as) [] u Q
section R
variable {P : Pg} {d d' j pc n : Nat} {ls : Ls} {st : List Vl} {u : Mm} {Q Q' : Rs → Mm → Prop} {i : Instr}
theorem Ef.imp (h : Ef P d j pc ls st u Q) (hq : ∀ r u', Q r u' → Q' r u') : Ef P d j pc ls st u Q' := by
  obtain ⟨f, r, u', h1, h2⟩ := h
  exact ⟨f, r, u', h1, hq _ _ h2⟩
theorem Ef.deep (hd : d ≤ d') (h : Ef P d j pc ls st u Q) : Ef P d' j pc ls st u Q := by
  obtain ⟨f, r, u', h1, h2⟩ := h
  exact ⟨f, r, u', fm_dps hd h1, h2⟩
theorem Ec.imp {y : Nat} {as : List Vl} (h : Ec P d y as u Q) (hq : ∀ r u', Q r u' → Q' r u') : Ec P d y as u Q' := Ef.imp h hq
theorem Ec.deep {y : Nat} {as : List Vl} (hd : d ≤ d') (h : Ec P d y as u Q) : Ec P d' y as u Q := Ef.deep hd h
theorem Ef.go {pc' : Nat} {ls' : Ls} {st' : List Vl} {u' : Mm} (hd : decode (pBc P j) pc = .ok (i, n)) (hn : iln i n = true) (hs : stp P j i n pc ls st u = some ((pc', (ls', st')), u')) (k : Ef P d j pc' ls' st' u' Q) : Ef P d j pc ls st u Q := by
  obtain ⟨f, r, u1, h, q⟩ := k
  refine ⟨f + 1, r, u1, ?_, q⟩
  rw [fm]
  simp only [hd, if_pos hn, hs]
  exact h
theorem Ef.ret {r : Option Vl} (hd : decode (pBc P j) pc = .ok (i, n)) (hn : iln i n = true) (hs : stp P j i n pc ls st u = none) (hr : rt j i st = some r) (k : Q (.inl r) u) : Ef P d j pc ls st u Q := by
  refine ⟨1, .inl r, u, ?_, k⟩
  rw [fm]
  simp only [hd, if_pos hn, hs, hr]
/-- a call of a method -/
theorem Ef.call {y : Nat} {as rest : List Vl} (hd : decode (pBc P j) pc = .ok (i, n)) (hn : iln i n = true) (hs : stp P j i n pc ls st u = none) (hr : rt j i st = none) (hc : cl P j i st = some (y, (as, rest))) (hw : (rest.map cat).sum ≤ 8) (hk : pKd P y = 0) (hm : (ent1 as).length ≤ pMx P y) (hv : rcv P u y as = true)
    (k : Ec P d y as u (fun r u' => match r with
      | .inl v => Ef P (d + 1) j (pc + n) ls (v.toList ++ rest) u' Q
      | .inr x => match hnd pc x.1 (pHs P j) with
        | some h => Ef P (d + 1) j h ls [vR x.2] u' Q
        | none => pHs P j = [] ∧ Q (.inr x) u')) : Ef P (d + 1) j pc ls st u Q := by
  obtain ⟨f, r, u1, h, q⟩ := k
  have hb : bi P (pKd P y) as u = none := by rw [hk]; rfl
  cases r with
  | inl v =>
    obtain ⟨f2, r2, u2, h2, q2⟩ := q
    refine ⟨max f f2 + 1, r2, u2, ?_, q2⟩
    rw [fm]
    simp only [hd, if_pos hn, hs, hr, hc, if_pos hw, hb, if_pos (show (ent1 as).length ≤ pMx P y ∧ pKd P y = 0 ∧ rcv P u y as = true from ⟨hm, hk, hv⟩)]
    rw [fm_ups (Nat.le_max_left f f2) h]
    exact fm_ups (Nat.le_max_right f f2) h2
  | inr x =>
    simp only at q
    cases hh : hnd pc x.1 (pHs P j) with
    | none =>
      simp only [hh] at q
      refine ⟨f + 1, .inr x, u1, ?_, q.2⟩
      rw [fm]
      simp only [hd, if_pos hn, hs, hr, hc, if_pos hw, hb, if_pos (show (ent1 as).length ≤ pMx P y ∧ pKd P y = 0 ∧ rcv P u y as = true from ⟨hm, hk, hv⟩)]
      rw [h]
      simp only [hh, if_pos q.1]
    | some t =>
      simp only [hh] at q
      obtain ⟨f2, r2, u2, h2, q2⟩ := q
      refine ⟨max f f2 + 1, r2, u2, ?_, q2⟩
      rw [fm]
      simp only [hd, if_pos hn, hs, hr, hc, if_pos hw, hb, if_pos (show (ent1 as).length ≤ pMx P y ∧ pKd P y = 0 ∧ rcv P u y as = true from ⟨hm, hk, hv⟩)]
      rw [fm_ups (Nat.le_max_left f f2) h]
      simp only [hh]
      exact fm_ups (Nat.le_max_right f f2) h2
/-- a call of what stands ready -/
theorem Ef.bi {y : Nat} {as rest : List Vl} {v : Option Vl} {u' : Mm} (hd : decode (pBc P j) pc = .ok (i, n)) (hn : iln i n = true) (hs : stp P j i n pc ls st u = none) (hr : rt j i st = none) (hc : cl P j i st = some (y, (as, rest))) (hw : (rest.map cat).sum ≤ 8) (hb : bi P (pKd P y) as u = some (v, u'))
    (k : Ef P d j (pc + n) ls (v.toList ++ rest) u' Q) : Ef P d j pc ls st u Q := by
  obtain ⟨f, r, u1, h, q⟩ := k
  refine ⟨f + 1, r, u1, ?_, q⟩
  rw [fm]
  simp only [hd, if_pos hn, hs, hr, hc, if_pos hw, hb]
  exact h
/-- a new exception thrown -/
theorem Ef.thr {k x m : Nat} (hd : decode (pBc P j) pc = .ok (.new k, 3)) (hl : pLc P (pOw P j) k = none) (hx : pLx P (pOw P j) k = some (x, m)) (hh : pHs P j = []) (ht : thrOk j pc x = true) (hw : (st.map cat).sum ≤ 8) (q : Q (.inr (x, mT u)) (mHole u m)) : Ef P d j pc ls st u Q := by
  refine ⟨1, .inr (x, mT u), mHole u m, ?_, q⟩
  rw [fm]
  simp only [hd, if_pos (show iln (.new k) 3 = true from rfl), show stp P j (.new k) 3 pc ls st u = none by simp only [stp, hl], show rt j (.new k) st = none from rfl, show cl P j (.new k) st = none from rfl,
    show thrF P j pc (.new k) st u = some (.inr (x, mT u), mHole u m) by simp only [thrF, hx, if_pos (show pHs P j = [] ∧ thrOk j pc x = true ∧ pLc P (pOw P j) k = none ∧ (st.map cat).sum ≤ 8 from ⟨hh, ht, hl, hw⟩)]]
/-- in a text's method -/
theorem Ef.sp {st' : List Vl} (hd : decode (pBc P j) pc = .ok (i, n)) (hn : iln i n = true) (hs : stp P j i n pc ls st u = none) (hr : rt j i st = none) (hc : cl P j i st = none) (ht : thrF P j pc i st u = none) (hp : sps P j i st = some st')
    (k : Ef P d j (pc + n) ls st' u Q) : Ef P d j pc ls st u Q := by
  obtain ⟨f, r, u1, h, q⟩ := k
  refine ⟨f + 1, r, u1, ?_, q⟩
  rw [fm]
  simp only [hd, if_pos hn, hs, hr, hc, ht, hp]
  exact h
end R
