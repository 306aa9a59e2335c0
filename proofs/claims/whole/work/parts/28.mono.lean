/-! The memory only grows. Written by wip/whole/gen/mk28.py. -/
theorem stp_mono {P : Pg} {j n pc pc' : Nat} {i : Instr} {ls ls' : Ls} {st st' : List Vl} {u u' : Mm} (hs : stp P j i n pc ls st u = some ((pc', (ls', st')), u')) : mT u ≤ mT u' ∧ mU u ≤ mU u' := by
  have same : u' = u → mT u ≤ mT u' ∧ mU u ≤ mU u' := fun h => by rw [h]; exact ⟨Nat.le_refl _, Nat.le_refl _⟩
  cases i
  case iadd => simp only [stp] at hs; exact same (goS_some hs).2.2.2
  case isub => simp only [stp] at hs; exact same (goS_some hs).2.2.2
  case imul => simp only [stp] at hs; exact same (goS_some hs).2.2.2
  case iand => simp only [stp] at hs; exact same (goS_some hs).2.2.2
  case ior => simp only [stp] at hs; exact same (goS_some hs).2.2.2
  case ixor => simp only [stp] at hs; exact same (goS_some hs).2.2.2
  case ishl => simp only [stp] at hs; exact same (goS_some hs).2.2.2
  case ishr => simp only [stp] at hs; exact same (goS_some hs).2.2.2
  case i2c => simp only [stp] at hs; exact same (goS_some hs).2.2.2
  case i2l => simp only [stp] at hs; exact same (goS_some hs).2.2.2
  case l2i => simp only [stp] at hs; exact same (goS_some hs).2.2.2
  case land => simp only [stp] at hs; exact same (goS_some hs).2.2.2
  case lor => simp only [stp] at hs; exact same (goS_some hs).2.2.2
  case lshl => simp only [stp] at hs; exact same (goS_some hs).2.2.2
  case lshr => simp only [stp] at hs; exact same (goS_some hs).2.2.2
  case lcmp => simp only [stp] at hs; exact same (goS_some hs).2.2.2
  case dup => simp only [stp] at hs; exact same (goS_some hs).2.2.2
  case dup_x1 => simp only [stp] at hs; exact same (goS_some hs).2.2.2
  case dup_x2 => simp only [stp] at hs; exact same (goS_some hs).2.2.2
  case dup2 => simp only [stp] at hs; exact same (goS_some hs).2.2.2
  case pop => simp only [stp] at hs; exact same (goS_some hs).2.2.2
  case iload => simp only [stp] at hs; exact same (goS_some hs).2.2.2
  case lload => simp only [stp] at hs; exact same (goS_some hs).2.2.2
  case aload => simp only [stp] at hs; exact same (goS_some hs).2.2.2
  case iload_n => simp only [stp] at hs; exact same (goS_some hs).2.2.2
  case lload_n => simp only [stp] at hs; exact same (goS_some hs).2.2.2
  case aload_n => simp only [stp] at hs; exact same (goS_some hs).2.2.2
  case iconst => simp only [stp] at hs; exact same (goS_some hs).2.2.2
  case bipush => simp only [stp] at hs; exact same (goS_some hs).2.2.2
  case sipush => simp only [stp] at hs; exact same (goS_some hs).2.2.2
  case lconst => simp only [stp] at hs; exact same (goS_some hs).2.2.2
  case iaload => simp only [stp] at hs; exact same (goS_some hs).2.2.2
  case caload => simp only [stp] at hs; exact same (goS_some hs).2.2.2
  case baload => simp only [stp] at hs; exact same (goS_some hs).2.2.2
  case laload => simp only [stp] at hs; exact same (goS_some hs).2.2.2
  case aaload => simp only [stp] at hs; exact same (goS_some hs).2.2.2
  case arraylength => simp only [stp] at hs; exact same (goS_some hs).2.2.2
  case getfield => simp only [stp] at hs; exact same (goS_some hs).2.2.2
  case istore => obtain ⟨-, -, -, -, -, h⟩ := kSt_some hs; exact same h
  case lstore => obtain ⟨-, -, -, -, -, h⟩ := kSt_some hs; exact same h
  case astore => obtain ⟨-, -, -, -, -, h⟩ := kSt_some hs; exact same h
  case istore_n => obtain ⟨-, -, -, -, -, h⟩ := kSt_some hs; exact same h
  case lstore_n => obtain ⟨-, -, -, -, -, h⟩ := kSt_some hs; exact same h
  case astore_n => obtain ⟨-, -, -, -, -, h⟩ := kSt_some hs; exact same h
  case goto => simp only [stp] at hs; exact same (goP_some hs).2.2.2
  case ifCond =>
    simp only [stp] at hs
    split at hs
    · exact same (goP_some hs).2.2.2
    · cases hs
  case if_icmp =>
    simp only [stp] at hs
    split at hs
    · exact same (goP_some hs).2.2.2
    · cases hs
  case tableswitch =>
    simp only [stp] at hs
    split at hs
    · exact same (goP_some hs).2.2.2
    · cases hs
  case lookupswitch =>
    simp only [stp] at hs
    split at hs
    · split at hs
      · exact same (goP_some hs).2.2.2
      · cases hs
    · cases hs
  case iinc =>
    simp only [stp] at hs
    split at hs
    · exact same (goL_some hs).2.2.2
    · cases hs
  case ldc =>
    simp only [stp] at hs
    split at hs
    · exact same (goS_some hs).2.2.2
    · cases hs
  case ldc2_w =>
    simp only [stp] at hs
    split at hs
    · exact same (goS_some hs).2.2.2
    · cases hs
  case iastore => obtain ⟨_, _, _, _, -, -, -, -, -, -, rfl⟩ := kEs_some hs; exact ⟨Nat.le_refl _, Nat.le_refl _⟩
  case castore => obtain ⟨_, _, _, _, -, -, -, -, -, -, rfl⟩ := kEs_some hs; exact ⟨Nat.le_refl _, Nat.le_refl _⟩
  case bastore => obtain ⟨_, _, _, _, -, -, -, -, -, -, rfl⟩ := kEs_some hs; exact ⟨Nat.le_refl _, Nat.le_refl _⟩
  case lastore => obtain ⟨_, _, _, _, -, -, -, -, -, -, rfl⟩ := kLs_some hs; exact ⟨Nat.le_refl _, Nat.le_refl _⟩
  case aastore => obtain ⟨_, _, _, _, _, _, -, -, -, -, -, -, -, -, rfl⟩ := kAs_some hs; exact ⟨Nat.le_refl _, Nat.le_refl _⟩
  case putfield =>
    rcases kPut_some hs with ⟨_, _, _, _, _, _, -, -, -, -, -, -, -, rfl⟩ | ⟨_, _, _, _, _, -, -, -, -, -, -, rfl⟩
    · exact ⟨Nat.le_refl _, Nat.le_refl _⟩
    · exact ⟨Nat.le_refl _, Nat.le_refl _⟩
  case new =>
    simp only [stp] at hs
    split at hs
    · cases hs; exact ⟨Nat.le_succ _, Nat.le_add_right _ _⟩
    · cases hs
  case newarray =>
    simp only [stp] at hs
    split at hs
    · obtain ⟨_, _, -, -, -, -, -, -, rfl⟩ := kNa_some hs; exact ⟨Nat.le_succ _, Nat.le_add_right _ _⟩
    · cases hs
  case anewarray =>
    simp only [stp] at hs
    split at hs
    · obtain ⟨_, _, -, -, -, -, -, -, rfl⟩ := kNa_some hs; exact ⟨Nat.le_succ _, Nat.le_add_right _ _⟩
    · cases hs
  all_goals exact absurd hs (by simp [stp])
theorem bi_mono {P : Pg} {k : Nat} {as : List Vl} {u u' : Mm} {v : Option Vl} (h : bi P k as u = some (v, u')) : mT u' = mT u ∧ mU u' = mU u := by
  unfold bi at h
  repeat' split at h
  all_goals first | (cases h; exact ⟨rfl, rfl⟩) | (cases h)
theorem thr_mono {P : Pg} {j pc : Nat} {i : Instr} {st : List Vl} {u : Mm} {r : Rs} {u' : Mm} (h : thrF P j pc i st u = some (r, u')) : mT u ≤ mT u' ∧ mU u ≤ mU u' := by
  cases i <;> simp only [thrF] at h <;> first | (cases h; done) | skip
  split at h
  · split at h
    · cases h; exact ⟨Nat.le_succ _, Nat.le_add_right _ _⟩
    · cases h
  · cases h
theorem fm_mono (P : Pg) : ∀ (f d j pc : Nat) (ls : Ls) (st : List Vl) (u : Mm) (r : Rs) (u' : Mm), fm P f d j pc ls st u = some (r, u') → mT u ≤ mT u' ∧ mU u ≤ mU u' := by
  intro f
  induction f with
  | zero => intro d j pc ls st u r u' h; rw [fm] at h; cases h
  | succ f ih =>
    intro d j pc ls st u r u' h
    rw [fm] at h
    cases hd : decode (pBc P j) pc with
    | error e => simp only [hd] at h; cases h
    | ok q =>
      obtain ⟨i, n⟩ := q
      simp only [hd] at h
      by_cases hl : iln i n = true
      case neg => rw [if_neg hl] at h; cases h
      rw [if_pos hl] at h
      cases hs : stp P j i n pc ls st u with
      | some q =>
        obtain ⟨⟨pc1, ls1, st1⟩, u1⟩ := q
        simp only [hs] at h
        have h1 := stp_mono hs
        have h2 := ih _ _ _ _ _ _ _ _ h
        omega
      | none =>
        simp only [hs] at h
        cases hr : rt j i st with
        | some r' => simp only [hr] at h; cases h; exact ⟨Nat.le_refl _, Nat.le_refl _⟩
        | none =>
          simp only [hr] at h
          cases hc : cl P j i st with
          | none =>
            simp only [hc] at h
            cases ht : thrF P j pc i st u with
            | some r1 =>
              simp only [ht] at h
              cases h
              exact thr_mono ht
            | none =>
              simp only [ht] at h
              cases hp : sps P j i st with
              | none => simp only [hp] at h; cases h
              | some st1 => simp only [hp] at h; exact ih _ _ _ _ _ _ _ _ h
          | some q =>
            obtain ⟨y, as, rest⟩ := q
            simp only [hc] at h
            by_cases hw : (rest.map cat).sum ≤ 8
            · rw [if_pos hw] at h
              cases hb : bi P (pKd P y) as u with
              | some q =>
                obtain ⟨v, u1⟩ := q
                simp only [hb] at h
                have h1 := bi_mono hb
                have h2 := ih _ _ _ _ _ _ _ _ h
                omega
              | none =>
                simp only [hb] at h
                cases d with
                | zero => cases h
                | succ d' =>
                  by_cases he : (ent1 as).length ≤ pMx P y ∧ pKd P y = 0 ∧ rcv P u y as = true
                  · simp only [if_pos he] at h
                    cases hf : fm P f d' y 0 (ent P y as) [] u with
                    | none => simp only [hf] at h; cases h
                    | some q =>
                      obtain ⟨o, u1⟩ := q
                      simp only [hf] at h
                      have h1 := ih _ _ _ _ _ _ _ _ hf
                      cases o with
                      | inl v =>
                        have h2 := ih _ _ _ _ _ _ _ _ h
                        omega
                      | inr x =>
                        simp only at h
                        cases hh : hnd pc x.1 (pHs P j) with
                        | none =>
                          simp only [hh] at h
                          split at h
                          · cases h; exact h1
                          · cases h
                        | some t =>
                          simp only [hh] at h
                          have h2 := ih _ _ _ _ _ _ _ _ h
                          omega
                  · simp only [if_neg he] at h; cases h
            · rw [if_neg hw] at h; cases h
