/-! The rules, an instruction each. -/
theorem inR_of {x : Int} (h1 : -2147483648 ≤ x) (h2 : x ≤ 2147483647) : inR x := ⟨h1, h2⟩
theorem tgt_of {pc t : Nat} {off : Int} (h : (pc : Int) + off = (t : Int)) : tgt pc off = some t := by
  unfold tgt
  rw [h, if_pos (Int.natCast_nonneg t), Int.toNat_natCast]
theorem tk_r {α : Type} {as rest : List α} {b : α} : (as.reverse ++ b :: rest).take (as.length + 1) = as.reverse ++ [b] := by
  have e : as.reverse ++ b :: rest = (as.reverse ++ [b]) ++ rest := by simp
  rw [e]
  exact List.take_left' (by simp)
theorem dr_r {α : Type} {as rest : List α} {b : α} : (as.reverse ++ b :: rest).drop (as.length + 1) = rest := by
  have e : as.reverse ++ b :: rest = (as.reverse ++ [b]) ++ rest := by simp
  rw [e]
  exact List.drop_left' (by simp)
section O
variable {P : Pg} {d j pc : Nat} {ls ls' : Ls} {st : List Vl} {u : Mm} {Q : Rs → Mm → Prop}
theorem ef_iconst {x : Int} (hd : decode (pBc P j) pc = .ok (.iconst x, 1)) (hx : wr x = x) (k : Ef P d j (pc + 1) ls (vI x :: st) u Q) : Ef P d j pc ls st u Q := Ef.go hd rfl (by simp only [stp, goS, hx]) k
theorem ef_bipush {x : Int} (hd : decode (pBc P j) pc = .ok (.bipush x, 2)) (hx : (Int8.ofInt x).toInt32.toInt = x) (k : Ef P d j (pc + 2) ls (vI x :: st) u Q) : Ef P d j pc ls st u Q := Ef.go hd rfl (by simp only [stp, goS, hx]) k
theorem ef_sipush {x : Int} (hd : decode (pBc P j) pc = .ok (.sipush x, 3)) (hx : (Int16.ofInt x).toInt32.toInt = x) (k : Ef P d j (pc + 3) ls (vI x :: st) u Q) : Ef P d j pc ls st u Q := Ef.go hd rfl (by simp only [stp, goS, hx]) k
theorem ef_lconst {x : Fin 2} (hd : decode (pBc P j) pc = .ok (.lconst x, 1))  (k : Ef P d j (pc + 1) ls (vL (Int64.ofNat x) :: st) u Q) : Ef P d j pc ls st u Q := Ef.go hd rfl rfl k
theorem ef_ldcS {k0 z : Nat} (hd : decode (pBc P j) pc = .ok (.ldc k0, 2)) (hl : pLs P (pOw P j) k0 = some z) (k : Ef P d j (pc + 2) ls (vR (pSg P) :: st) u Q) : Ef P d j pc ls st u Q := Ef.go hd rfl (by simp only [stp, goS, hl]) k
theorem ef_ldc2 {k0 : Nat} {x : Int64} (hd : decode (pBc P j) pc = .ok (.ldc2_w k0, 3)) (hl : pLl P (pOw P j) k0 = some x) (k : Ef P d j (pc + 3) ls (vL x :: st) u Q) : Ef P d j pc ls st u Q := Ef.go hd rfl (by simp only [stp, goS, hl]) k
theorem ef_iload {x : Nat} {y : Int} (hd : decode (pBc P j) pc = .ok (.iload x, 2)) (hl : ls.getD x none = some (vI y)) (k : Ef P d j (pc + 2) ls (vI y :: st) u Q) : Ef P d j pc ls st u Q := Ef.go hd rfl (by simp only [stp, goS, kLd, hl, vty, if_true]) k
theorem ef_iload_n {x : Fin 4} {y : Int} (hd : decode (pBc P j) pc = .ok (.iload_n x, 1)) (hl : ls.getD x.val none = some (vI y)) (k : Ef P d j (pc + 1) ls (vI y :: st) u Q) : Ef P d j pc ls st u Q := Ef.go hd rfl (by simp only [stp, goS, kLd, hl, vty, if_true]) k
theorem ef_istore {x : Nat} {y : Int} (hd : decode (pBc P j) pc = .ok (.istore x, 2)) (hl : lPut ls x (vI y) = some ls') (k : Ef P d j (pc + 2) ls' st u Q) : Ef P d j pc ls (vI y :: st) u Q := Ef.go hd rfl (by simp only [stp, kSt, goL, hl, vty, if_true]) k
theorem ef_istore_n {x : Fin 4} {y : Int} (hd : decode (pBc P j) pc = .ok (.istore_n x, 1)) (hl : lPut ls x.val (vI y) = some ls') (k : Ef P d j (pc + 1) ls' st u Q) : Ef P d j pc ls (vI y :: st) u Q := Ef.go hd rfl (by simp only [stp, kSt, goL, hl, vty, if_true]) k
theorem ef_lload {x : Nat} {y : Int64} (hd : decode (pBc P j) pc = .ok (.lload x, 2)) (hl : ls.getD x none = some (vL y)) (k : Ef P d j (pc + 2) ls (vL y :: st) u Q) : Ef P d j pc ls st u Q := Ef.go hd rfl (by simp only [stp, goS, kLd, hl, vty, if_true]) k
theorem ef_lload_n {x : Fin 4} {y : Int64} (hd : decode (pBc P j) pc = .ok (.lload_n x, 1)) (hl : ls.getD x.val none = some (vL y)) (k : Ef P d j (pc + 1) ls (vL y :: st) u Q) : Ef P d j pc ls st u Q := Ef.go hd rfl (by simp only [stp, goS, kLd, hl, vty, if_true]) k
theorem ef_lstore {x : Nat} {y : Int64} (hd : decode (pBc P j) pc = .ok (.lstore x, 2)) (hl : lPut ls x (vL y) = some ls') (k : Ef P d j (pc + 2) ls' st u Q) : Ef P d j pc ls (vL y :: st) u Q := Ef.go hd rfl (by simp only [stp, kSt, goL, hl, vty, if_true]) k
theorem ef_lstore_n {x : Fin 4} {y : Int64} (hd : decode (pBc P j) pc = .ok (.lstore_n x, 1)) (hl : lPut ls x.val (vL y) = some ls') (k : Ef P d j (pc + 1) ls' st u Q) : Ef P d j pc ls (vL y :: st) u Q := Ef.go hd rfl (by simp only [stp, kSt, goL, hl, vty, if_true]) k
theorem ef_aload {x : Nat} {y : Option Nat} (hd : decode (pBc P j) pc = .ok (.aload x, 2)) (hl : ls.getD x none = some (vF y)) (k : Ef P d j (pc + 2) ls (vF y :: st) u Q) : Ef P d j pc ls st u Q := Ef.go hd rfl (by simp only [stp, goS, kLd, hl, vty, if_true]) k
theorem ef_aload_n {x : Fin 4} {y : Option Nat} (hd : decode (pBc P j) pc = .ok (.aload_n x, 1)) (hl : ls.getD x.val none = some (vF y)) (k : Ef P d j (pc + 1) ls (vF y :: st) u Q) : Ef P d j pc ls st u Q := Ef.go hd rfl (by simp only [stp, goS, kLd, hl, vty, if_true]) k
theorem ef_astore {x : Nat} {y : Option Nat} (hd : decode (pBc P j) pc = .ok (.astore x, 2)) (hl : lPut ls x (vF y) = some ls') (k : Ef P d j (pc + 2) ls' st u Q) : Ef P d j pc ls (vF y :: st) u Q := Ef.go hd rfl (by simp only [stp, kSt, goL, hl, vty, if_true]) k
theorem ef_astore_n {x : Fin 4} {y : Option Nat} (hd : decode (pBc P j) pc = .ok (.astore_n x, 1)) (hl : lPut ls x.val (vF y) = some ls') (k : Ef P d j (pc + 1) ls' st u Q) : Ef P d j pc ls (vF y :: st) u Q := Ef.go hd rfl (by simp only [stp, kSt, goL, hl, vty, if_true]) k
theorem ef_iinc {i : Nat} {c x z : Int} (hd : decode (pBc P j) pc = .ok (.iinc i c, 3)) (hl : ls.getD i none = some (vI x)) (hc : wr c = c) (hz : x + c = z) (hr : inR z) (hp : lPut ls i (vI z) = some ls') (k : Ef P d j (pc + 3) ls' st u Q) : Ef P d j pc ls st u Q := Ef.go hd rfl (by simp only [stp, hl, hc, hz, wr_in hr, goL, hp]) k
theorem ef_iadd {x y z : Int} (hd : decode (pBc P j) pc = .ok (.iadd, 1)) (hz : x + y = z) (hr : inR z) (k : Ef P d j (pc + 1) ls (vI z :: st) u Q) : Ef P d j pc ls (vI y :: vI x :: st) u Q := Ef.go hd rfl (by simp only [stp, goS, kI2, hz, wr_in hr]) k
theorem ef_isub {x y z : Int} (hd : decode (pBc P j) pc = .ok (.isub, 1)) (hz : x - y = z) (hr : inR z) (k : Ef P d j (pc + 1) ls (vI z :: st) u Q) : Ef P d j pc ls (vI y :: vI x :: st) u Q := Ef.go hd rfl (by simp only [stp, goS, kI2, hz, wr_in hr]) k
theorem ef_imul {x y z : Int} (hd : decode (pBc P j) pc = .ok (.imul, 1)) (hz : x * y = z) (hr : inR z) (k : Ef P d j (pc + 1) ls (vI z :: st) u Q) : Ef P d j pc ls (vI y :: vI x :: st) u Q := Ef.go hd rfl (by simp only [stp, goS, kI2, hz, wr_in hr]) k
theorem ef_iand {x y z : Int} (hd : decode (pBc P j) pc = .ok (.iand, 1)) (hz : bI (fun x y => x &&& y) x y = z) (k : Ef P d j (pc + 1) ls (vI z :: st) u Q) : Ef P d j pc ls (vI y :: vI x :: st) u Q := Ef.go hd rfl (by simp only [stp, goS, kI2, hz]) k
theorem ef_ior {x y z : Int} (hd : decode (pBc P j) pc = .ok (.ior, 1)) (hz : bI (fun x y => x ||| y) x y = z) (k : Ef P d j (pc + 1) ls (vI z :: st) u Q) : Ef P d j pc ls (vI y :: vI x :: st) u Q := Ef.go hd rfl (by simp only [stp, goS, kI2, hz]) k
theorem ef_ixor {x y z : Int} (hd : decode (pBc P j) pc = .ok (.ixor, 1)) (hz : bI (fun x y => x ^^^ y) x y = z) (k : Ef P d j (pc + 1) ls (vI z :: st) u Q) : Ef P d j pc ls (vI y :: vI x :: st) u Q := Ef.go hd rfl (by simp only [stp, goS, kI2, hz]) k
theorem ef_ishl {x y z : Int} (hd : decode (pBc P j) pc = .ok (.ishl, 1)) (hz : bI (fun x y => x <<< (y &&& 31)) x y = z) (k : Ef P d j (pc + 1) ls (vI z :: st) u Q) : Ef P d j pc ls (vI y :: vI x :: st) u Q := Ef.go hd rfl (by simp only [stp, goS, kI2, hz]) k
theorem ef_ishr {x y z : Int} (hd : decode (pBc P j) pc = .ok (.ishr, 1)) (hz : bI (fun x y => x >>> (y &&& 31)) x y = z) (k : Ef P d j (pc + 1) ls (vI z :: st) u Q) : Ef P d j pc ls (vI y :: vI x :: st) u Q := Ef.go hd rfl (by simp only [stp, goS, kI2, hz]) k
theorem ef_i2c {x z : Int} (hd : decode (pBc P j) pc = .ok (.i2c, 1)) (hz : x % 65536 = z) (k : Ef P d j (pc + 1) ls (vI z :: st) u Q) : Ef P d j pc ls (vI x :: st) u Q := Ef.go hd rfl (by simp only [stp, goS, kI1, hz]) k
theorem ef_i2l {x : Int} (hd : decode (pBc P j) pc = .ok (.i2l, 1))  (k : Ef P d j (pc + 1) ls (vL (Int32.ofInt x).toInt64 :: st) u Q) : Ef P d j pc ls (vI x :: st) u Q := Ef.go hd rfl rfl k
theorem ef_l2i {x : Int64} (hd : decode (pBc P j) pc = .ok (.l2i, 1))  (k : Ef P d j (pc + 1) ls (vI x.toInt32.toInt :: st) u Q) : Ef P d j pc ls (vL x :: st) u Q := Ef.go hd rfl rfl k
theorem ef_land {x y : Int64} (hd : decode (pBc P j) pc = .ok (.land, 1))  (k : Ef P d j (pc + 1) ls (vL (x &&& y) :: st) u Q) : Ef P d j pc ls (vL y :: vL x :: st) u Q := Ef.go hd rfl rfl k
theorem ef_lor {x y : Int64} (hd : decode (pBc P j) pc = .ok (.lor, 1))  (k : Ef P d j (pc + 1) ls (vL (x ||| y) :: st) u Q) : Ef P d j pc ls (vL y :: vL x :: st) u Q := Ef.go hd rfl rfl k
theorem ef_lshl {x : Int64} {y : Int} (hd : decode (pBc P j) pc = .ok (.lshl, 1))  (k : Ef P d j (pc + 1) ls (vL (x <<< ((Int32.ofInt y).toInt64 &&& 63)) :: st) u Q) : Ef P d j pc ls (vI y :: vL x :: st) u Q := Ef.go hd rfl rfl k
theorem ef_lshr {x : Int64} {y : Int} (hd : decode (pBc P j) pc = .ok (.lshr, 1))  (k : Ef P d j (pc + 1) ls (vL (x >>> ((Int32.ofInt y).toInt64 &&& 63)) :: st) u Q) : Ef P d j pc ls (vI y :: vL x :: st) u Q := Ef.go hd rfl rfl k
theorem ef_lcmp {x y : Int64} (hd : decode (pBc P j) pc = .ok (.lcmp, 1))  (k : Ef P d j (pc + 1) ls (vI (lg_cmp x y).toInt :: st) u Q) : Ef P d j pc ls (vL y :: vL x :: st) u Q := Ef.go hd rfl rfl k
theorem ef_dup {v : Vl} (hd : decode (pBc P j) pc = .ok (.dup, 1)) (hc : cat v = 1) (k : Ef P d j (pc + 1) ls (v :: v :: st) u Q) : Ef P d j pc ls (v :: st) u Q := Ef.go hd rfl (by simp only [stp, goS, kDup, if_pos hc]) k
theorem ef_dup_x1 {v w : Vl} (hd : decode (pBc P j) pc = .ok (.dup_x1, 1)) (hc : cat v = 1) (hw : cat w = 1) (k : Ef P d j (pc + 1) ls (v :: w :: v :: st) u Q) : Ef P d j pc ls (v :: w :: st) u Q := Ef.go hd rfl (by simp only [stp, goS, kDx1, if_pos (And.intro hc hw)]) k
theorem ef_dup_x2 {v w x : Vl} (hd : decode (pBc P j) pc = .ok (.dup_x2, 1)) (hc : cat v = 1) (hw : cat w = 1) (hx : cat x = 1) (k : Ef P d j (pc + 1) ls (v :: w :: x :: v :: st) u Q) : Ef P d j pc ls (v :: w :: x :: st) u Q := Ef.go hd rfl (by simp only [stp, goS, kDx2, if_pos (And.intro hc (And.intro hw hx))]) k
theorem ef_dup2 {v w : Vl} (hd : decode (pBc P j) pc = .ok (.dup2, 1)) (hc : cat v = 1) (hw : cat w = 1) (k : Ef P d j (pc + 1) ls (v :: w :: v :: w :: st) u Q) : Ef P d j pc ls (v :: w :: st) u Q := Ef.go hd rfl (by simp only [stp, goS, kD2, if_pos (And.intro hc hw)]) k
theorem ef_pop {v : Vl} (hd : decode (pBc P j) pc = .ok (.pop, 1)) (hc : cat v = 1) (k : Ef P d j (pc + 1) ls st u Q) : Ef P d j pc ls (v :: st) u Q := Ef.go hd rfl (by simp only [stp, goS, kPop, if_pos hc]) k
theorem ef_goto {off : Int} {t : Nat} (hd : decode (pBc P j) pc = .ok (.goto off, 3)) (ht : (pc : Int) + off = (t : Int)) (k : Ef P d j t ls st u Q) : Ef P d j pc ls st u Q := Ef.go hd rfl (by simp only [stp, goP, tgt_of ht]) k
theorem ef_if_eq {x : Int} {off : Int} {t : Nat} (hd : decode (pBc P j) pc = .ok (.ifCond .eq off, 3)) (ht : (pc : Int) + off = (t : Int)) (kt : x = 0 → Ef P d j t ls st u Q) (kf : ¬ x = 0 → Ef P d j (pc + 3) ls st u Q) : Ef P d j pc ls (vI x :: st) u Q := by
  by_cases h : cmpI .eq x 0 = true
  · exact Ef.go hd rfl (by simp only [stp, goP, tgt_of ht, Option.map_some, if_pos h]) (kt (by simpa [cmpI] using h))
  · exact Ef.go hd rfl (by simp only [stp, goP, tgt_of ht, Option.map_some, if_neg h]) (kf (by simp [cmpI] at h; omega))
theorem ef_if_eqT {x : Int} {off : Int} {t : Nat} (hd : decode (pBc P j) pc = .ok (.ifCond .eq off, 3)) (ht : (pc : Int) + off = (t : Int)) (h : x = 0) (kt : Ef P d j t ls st u Q) : Ef P d j pc ls (vI x :: st) u Q := ef_if_eq hd ht (fun _ => kt) (fun h' => absurd h (by omega))
theorem ef_if_eqF {x : Int} {off : Int} {t : Nat} (hd : decode (pBc P j) pc = .ok (.ifCond .eq off, 3)) (ht : (pc : Int) + off = (t : Int)) (h : ¬ x = 0) (kf : Ef P d j (pc + 3) ls st u Q) : Ef P d j pc ls (vI x :: st) u Q := ef_if_eq hd ht (fun h' => absurd h' (by omega)) (fun _ => kf)
theorem ef_icmp_eq {x y : Int} {off : Int} {t : Nat} (hd : decode (pBc P j) pc = .ok (.if_icmp .eq off, 3)) (ht : (pc : Int) + off = (t : Int)) (kt : x = y → Ef P d j t ls st u Q) (kf : ¬ x = y → Ef P d j (pc + 3) ls st u Q) : Ef P d j pc ls (vI y :: vI x :: st) u Q := by
  by_cases h : cmpI .eq x y = true
  · exact Ef.go hd rfl (by simp only [stp, goP, tgt_of ht, Option.map_some, if_pos h]) (kt (by simpa [cmpI] using h))
  · exact Ef.go hd rfl (by simp only [stp, goP, tgt_of ht, Option.map_some, if_neg h]) (kf (by simp [cmpI] at h; omega))
theorem ef_icmp_eqT {x y : Int} {off : Int} {t : Nat} (hd : decode (pBc P j) pc = .ok (.if_icmp .eq off, 3)) (ht : (pc : Int) + off = (t : Int)) (h : x = y) (kt : Ef P d j t ls st u Q) : Ef P d j pc ls (vI y :: vI x :: st) u Q := ef_icmp_eq hd ht (fun _ => kt) (fun h' => absurd h (by omega))
theorem ef_icmp_eqF {x y : Int} {off : Int} {t : Nat} (hd : decode (pBc P j) pc = .ok (.if_icmp .eq off, 3)) (ht : (pc : Int) + off = (t : Int)) (h : ¬ x = y) (kf : Ef P d j (pc + 3) ls st u Q) : Ef P d j pc ls (vI y :: vI x :: st) u Q := ef_icmp_eq hd ht (fun h' => absurd h' (by omega)) (fun _ => kf)
theorem ef_if_ne {x : Int} {off : Int} {t : Nat} (hd : decode (pBc P j) pc = .ok (.ifCond .ne off, 3)) (ht : (pc : Int) + off = (t : Int)) (kt : ¬ x = 0 → Ef P d j t ls st u Q) (kf : x = 0 → Ef P d j (pc + 3) ls st u Q) : Ef P d j pc ls (vI x :: st) u Q := by
  by_cases h : cmpI .ne x 0 = true
  · exact Ef.go hd rfl (by simp only [stp, goP, tgt_of ht, Option.map_some, if_pos h]) (kt (by simpa [cmpI] using h))
  · exact Ef.go hd rfl (by simp only [stp, goP, tgt_of ht, Option.map_some, if_neg h]) (kf (by simp [cmpI] at h; omega))
theorem ef_if_neT {x : Int} {off : Int} {t : Nat} (hd : decode (pBc P j) pc = .ok (.ifCond .ne off, 3)) (ht : (pc : Int) + off = (t : Int)) (h : ¬ x = 0) (kt : Ef P d j t ls st u Q) : Ef P d j pc ls (vI x :: st) u Q := ef_if_ne hd ht (fun _ => kt) (fun h' => absurd h (by omega))
theorem ef_if_neF {x : Int} {off : Int} {t : Nat} (hd : decode (pBc P j) pc = .ok (.ifCond .ne off, 3)) (ht : (pc : Int) + off = (t : Int)) (h : x = 0) (kf : Ef P d j (pc + 3) ls st u Q) : Ef P d j pc ls (vI x :: st) u Q := ef_if_ne hd ht (fun h' => absurd h' (by omega)) (fun _ => kf)
theorem ef_icmp_ne {x y : Int} {off : Int} {t : Nat} (hd : decode (pBc P j) pc = .ok (.if_icmp .ne off, 3)) (ht : (pc : Int) + off = (t : Int)) (kt : ¬ x = y → Ef P d j t ls st u Q) (kf : x = y → Ef P d j (pc + 3) ls st u Q) : Ef P d j pc ls (vI y :: vI x :: st) u Q := by
  by_cases h : cmpI .ne x y = true
  · exact Ef.go hd rfl (by simp only [stp, goP, tgt_of ht, Option.map_some, if_pos h]) (kt (by simpa [cmpI] using h))
  · exact Ef.go hd rfl (by simp only [stp, goP, tgt_of ht, Option.map_some, if_neg h]) (kf (by simp [cmpI] at h; omega))
theorem ef_icmp_neT {x y : Int} {off : Int} {t : Nat} (hd : decode (pBc P j) pc = .ok (.if_icmp .ne off, 3)) (ht : (pc : Int) + off = (t : Int)) (h : ¬ x = y) (kt : Ef P d j t ls st u Q) : Ef P d j pc ls (vI y :: vI x :: st) u Q := ef_icmp_ne hd ht (fun _ => kt) (fun h' => absurd h (by omega))
theorem ef_icmp_neF {x y : Int} {off : Int} {t : Nat} (hd : decode (pBc P j) pc = .ok (.if_icmp .ne off, 3)) (ht : (pc : Int) + off = (t : Int)) (h : x = y) (kf : Ef P d j (pc + 3) ls st u Q) : Ef P d j pc ls (vI y :: vI x :: st) u Q := ef_icmp_ne hd ht (fun h' => absurd h' (by omega)) (fun _ => kf)
theorem ef_if_lt {x : Int} {off : Int} {t : Nat} (hd : decode (pBc P j) pc = .ok (.ifCond .lt off, 3)) (ht : (pc : Int) + off = (t : Int)) (kt : x < 0 → Ef P d j t ls st u Q) (kf : 0 ≤ x → Ef P d j (pc + 3) ls st u Q) : Ef P d j pc ls (vI x :: st) u Q := by
  by_cases h : cmpI .lt x 0 = true
  · exact Ef.go hd rfl (by simp only [stp, goP, tgt_of ht, Option.map_some, if_pos h]) (kt (by simpa [cmpI] using h))
  · exact Ef.go hd rfl (by simp only [stp, goP, tgt_of ht, Option.map_some, if_neg h]) (kf (by simp [cmpI] at h; omega))
theorem ef_if_ltT {x : Int} {off : Int} {t : Nat} (hd : decode (pBc P j) pc = .ok (.ifCond .lt off, 3)) (ht : (pc : Int) + off = (t : Int)) (h : x < 0) (kt : Ef P d j t ls st u Q) : Ef P d j pc ls (vI x :: st) u Q := ef_if_lt hd ht (fun _ => kt) (fun h' => absurd h (by omega))
theorem ef_if_ltF {x : Int} {off : Int} {t : Nat} (hd : decode (pBc P j) pc = .ok (.ifCond .lt off, 3)) (ht : (pc : Int) + off = (t : Int)) (h : 0 ≤ x) (kf : Ef P d j (pc + 3) ls st u Q) : Ef P d j pc ls (vI x :: st) u Q := ef_if_lt hd ht (fun h' => absurd h' (by omega)) (fun _ => kf)
theorem ef_icmp_lt {x y : Int} {off : Int} {t : Nat} (hd : decode (pBc P j) pc = .ok (.if_icmp .lt off, 3)) (ht : (pc : Int) + off = (t : Int)) (kt : x < y → Ef P d j t ls st u Q) (kf : y ≤ x → Ef P d j (pc + 3) ls st u Q) : Ef P d j pc ls (vI y :: vI x :: st) u Q := by
  by_cases h : cmpI .lt x y = true
  · exact Ef.go hd rfl (by simp only [stp, goP, tgt_of ht, Option.map_some, if_pos h]) (kt (by simpa [cmpI] using h))
  · exact Ef.go hd rfl (by simp only [stp, goP, tgt_of ht, Option.map_some, if_neg h]) (kf (by simp [cmpI] at h; omega))
theorem ef_icmp_ltT {x y : Int} {off : Int} {t : Nat} (hd : decode (pBc P j) pc = .ok (.if_icmp .lt off, 3)) (ht : (pc : Int) + off = (t : Int)) (h : x < y) (kt : Ef P d j t ls st u Q) : Ef P d j pc ls (vI y :: vI x :: st) u Q := ef_icmp_lt hd ht (fun _ => kt) (fun h' => absurd h (by omega))
theorem ef_icmp_ltF {x y : Int} {off : Int} {t : Nat} (hd : decode (pBc P j) pc = .ok (.if_icmp .lt off, 3)) (ht : (pc : Int) + off = (t : Int)) (h : y ≤ x) (kf : Ef P d j (pc + 3) ls st u Q) : Ef P d j pc ls (vI y :: vI x :: st) u Q := ef_icmp_lt hd ht (fun h' => absurd h' (by omega)) (fun _ => kf)
theorem ef_if_ge {x : Int} {off : Int} {t : Nat} (hd : decode (pBc P j) pc = .ok (.ifCond .ge off, 3)) (ht : (pc : Int) + off = (t : Int)) (kt : 0 ≤ x → Ef P d j t ls st u Q) (kf : x < 0 → Ef P d j (pc + 3) ls st u Q) : Ef P d j pc ls (vI x :: st) u Q := by
  by_cases h : cmpI .ge x 0 = true
  · exact Ef.go hd rfl (by simp only [stp, goP, tgt_of ht, Option.map_some, if_pos h]) (kt (by simpa [cmpI] using h))
  · exact Ef.go hd rfl (by simp only [stp, goP, tgt_of ht, Option.map_some, if_neg h]) (kf (by simp [cmpI] at h; omega))
theorem ef_if_geT {x : Int} {off : Int} {t : Nat} (hd : decode (pBc P j) pc = .ok (.ifCond .ge off, 3)) (ht : (pc : Int) + off = (t : Int)) (h : 0 ≤ x) (kt : Ef P d j t ls st u Q) : Ef P d j pc ls (vI x :: st) u Q := ef_if_ge hd ht (fun _ => kt) (fun h' => absurd h (by omega))
theorem ef_if_geF {x : Int} {off : Int} {t : Nat} (hd : decode (pBc P j) pc = .ok (.ifCond .ge off, 3)) (ht : (pc : Int) + off = (t : Int)) (h : x < 0) (kf : Ef P d j (pc + 3) ls st u Q) : Ef P d j pc ls (vI x :: st) u Q := ef_if_ge hd ht (fun h' => absurd h' (by omega)) (fun _ => kf)
theorem ef_icmp_ge {x y : Int} {off : Int} {t : Nat} (hd : decode (pBc P j) pc = .ok (.if_icmp .ge off, 3)) (ht : (pc : Int) + off = (t : Int)) (kt : y ≤ x → Ef P d j t ls st u Q) (kf : x < y → Ef P d j (pc + 3) ls st u Q) : Ef P d j pc ls (vI y :: vI x :: st) u Q := by
  by_cases h : cmpI .ge x y = true
  · exact Ef.go hd rfl (by simp only [stp, goP, tgt_of ht, Option.map_some, if_pos h]) (kt (by simpa [cmpI] using h))
  · exact Ef.go hd rfl (by simp only [stp, goP, tgt_of ht, Option.map_some, if_neg h]) (kf (by simp [cmpI] at h; omega))
theorem ef_icmp_geT {x y : Int} {off : Int} {t : Nat} (hd : decode (pBc P j) pc = .ok (.if_icmp .ge off, 3)) (ht : (pc : Int) + off = (t : Int)) (h : y ≤ x) (kt : Ef P d j t ls st u Q) : Ef P d j pc ls (vI y :: vI x :: st) u Q := ef_icmp_ge hd ht (fun _ => kt) (fun h' => absurd h (by omega))
theorem ef_icmp_geF {x y : Int} {off : Int} {t : Nat} (hd : decode (pBc P j) pc = .ok (.if_icmp .ge off, 3)) (ht : (pc : Int) + off = (t : Int)) (h : x < y) (kf : Ef P d j (pc + 3) ls st u Q) : Ef P d j pc ls (vI y :: vI x :: st) u Q := ef_icmp_ge hd ht (fun h' => absurd h' (by omega)) (fun _ => kf)
theorem ef_if_gt {x : Int} {off : Int} {t : Nat} (hd : decode (pBc P j) pc = .ok (.ifCond .gt off, 3)) (ht : (pc : Int) + off = (t : Int)) (kt : 0 < x → Ef P d j t ls st u Q) (kf : x ≤ 0 → Ef P d j (pc + 3) ls st u Q) : Ef P d j pc ls (vI x :: st) u Q := by
  by_cases h : cmpI .gt x 0 = true
  · exact Ef.go hd rfl (by simp only [stp, goP, tgt_of ht, Option.map_some, if_pos h]) (kt (by simpa [cmpI] using h))
  · exact Ef.go hd rfl (by simp only [stp, goP, tgt_of ht, Option.map_some, if_neg h]) (kf (by simp [cmpI] at h; omega))
theorem ef_if_gtT {x : Int} {off : Int} {t : Nat} (hd : decode (pBc P j) pc = .ok (.ifCond .gt off, 3)) (ht : (pc : Int) + off = (t : Int)) (h : 0 < x) (kt : Ef P d j t ls st u Q) : Ef P d j pc ls (vI x :: st) u Q := ef_if_gt hd ht (fun _ => kt) (fun h' => absurd h (by omega))
theorem ef_if_gtF {x : Int} {off : Int} {t : Nat} (hd : decode (pBc P j) pc = .ok (.ifCond .gt off, 3)) (ht : (pc : Int) + off = (t : Int)) (h : x ≤ 0) (kf : Ef P d j (pc + 3) ls st u Q) : Ef P d j pc ls (vI x :: st) u Q := ef_if_gt hd ht (fun h' => absurd h' (by omega)) (fun _ => kf)
theorem ef_icmp_gt {x y : Int} {off : Int} {t : Nat} (hd : decode (pBc P j) pc = .ok (.if_icmp .gt off, 3)) (ht : (pc : Int) + off = (t : Int)) (kt : y < x → Ef P d j t ls st u Q) (kf : x ≤ y → Ef P d j (pc + 3) ls st u Q) : Ef P d j pc ls (vI y :: vI x :: st) u Q := by
  by_cases h : cmpI .gt x y = true
  · exact Ef.go hd rfl (by simp only [stp, goP, tgt_of ht, Option.map_some, if_pos h]) (kt (by simpa [cmpI] using h))
  · exact Ef.go hd rfl (by simp only [stp, goP, tgt_of ht, Option.map_some, if_neg h]) (kf (by simp [cmpI] at h; omega))
theorem ef_icmp_gtT {x y : Int} {off : Int} {t : Nat} (hd : decode (pBc P j) pc = .ok (.if_icmp .gt off, 3)) (ht : (pc : Int) + off = (t : Int)) (h : y < x) (kt : Ef P d j t ls st u Q) : Ef P d j pc ls (vI y :: vI x :: st) u Q := ef_icmp_gt hd ht (fun _ => kt) (fun h' => absurd h (by omega))
theorem ef_icmp_gtF {x y : Int} {off : Int} {t : Nat} (hd : decode (pBc P j) pc = .ok (.if_icmp .gt off, 3)) (ht : (pc : Int) + off = (t : Int)) (h : x ≤ y) (kf : Ef P d j (pc + 3) ls st u Q) : Ef P d j pc ls (vI y :: vI x :: st) u Q := ef_icmp_gt hd ht (fun h' => absurd h' (by omega)) (fun _ => kf)
theorem ef_if_le {x : Int} {off : Int} {t : Nat} (hd : decode (pBc P j) pc = .ok (.ifCond .le off, 3)) (ht : (pc : Int) + off = (t : Int)) (kt : x ≤ 0 → Ef P d j t ls st u Q) (kf : 0 < x → Ef P d j (pc + 3) ls st u Q) : Ef P d j pc ls (vI x :: st) u Q := by
  by_cases h : cmpI .le x 0 = true
  · exact Ef.go hd rfl (by simp only [stp, goP, tgt_of ht, Option.map_some, if_pos h]) (kt (by simpa [cmpI] using h))
  · exact Ef.go hd rfl (by simp only [stp, goP, tgt_of ht, Option.map_some, if_neg h]) (kf (by simp [cmpI] at h; omega))
theorem ef_if_leT {x : Int} {off : Int} {t : Nat} (hd : decode (pBc P j) pc = .ok (.ifCond .le off, 3)) (ht : (pc : Int) + off = (t : Int)) (h : x ≤ 0) (kt : Ef P d j t ls st u Q) : Ef P d j pc ls (vI x :: st) u Q := ef_if_le hd ht (fun _ => kt) (fun h' => absurd h (by omega))
theorem ef_if_leF {x : Int} {off : Int} {t : Nat} (hd : decode (pBc P j) pc = .ok (.ifCond .le off, 3)) (ht : (pc : Int) + off = (t : Int)) (h : 0 < x) (kf : Ef P d j (pc + 3) ls st u Q) : Ef P d j pc ls (vI x :: st) u Q := ef_if_le hd ht (fun h' => absurd h' (by omega)) (fun _ => kf)
theorem ef_icmp_le {x y : Int} {off : Int} {t : Nat} (hd : decode (pBc P j) pc = .ok (.if_icmp .le off, 3)) (ht : (pc : Int) + off = (t : Int)) (kt : x ≤ y → Ef P d j t ls st u Q) (kf : y < x → Ef P d j (pc + 3) ls st u Q) : Ef P d j pc ls (vI y :: vI x :: st) u Q := by
  by_cases h : cmpI .le x y = true
  · exact Ef.go hd rfl (by simp only [stp, goP, tgt_of ht, Option.map_some, if_pos h]) (kt (by simpa [cmpI] using h))
  · exact Ef.go hd rfl (by simp only [stp, goP, tgt_of ht, Option.map_some, if_neg h]) (kf (by simp [cmpI] at h; omega))
theorem ef_icmp_leT {x y : Int} {off : Int} {t : Nat} (hd : decode (pBc P j) pc = .ok (.if_icmp .le off, 3)) (ht : (pc : Int) + off = (t : Int)) (h : x ≤ y) (kt : Ef P d j t ls st u Q) : Ef P d j pc ls (vI y :: vI x :: st) u Q := ef_icmp_le hd ht (fun _ => kt) (fun h' => absurd h (by omega))
theorem ef_icmp_leF {x y : Int} {off : Int} {t : Nat} (hd : decode (pBc P j) pc = .ok (.if_icmp .le off, 3)) (ht : (pc : Int) + off = (t : Int)) (h : y < x) (kf : Ef P d j (pc + 3) ls st u Q) : Ef P d j pc ls (vI y :: vI x :: st) u Q := ef_icmp_le hd ht (fun h' => absurd h' (by omega)) (fun _ => kf)
theorem ef_table {df lo hi x off : Int} {offs : Array Int} {n t : Nat} (hd : decode (pBc P j) pc = .ok (.tableswitch df lo hi offs, n)) (hs : tsw df lo hi offs x = some off) (ht : (pc : Int) + off = (t : Int)) (k : Ef P d j t ls st u Q) : Ef P d j pc ls (vI x :: st) u Q := Ef.go hd rfl (by simp only [stp, goP, hs, Option.bind_some, tgt_of ht]) k
theorem ef_lookup {df x off : Int} {ps : Array (Int × Int)} {n t : Nat} (hd : decode (pBc P j) pc = .ok (.lookupswitch df ps, n)) (hp : (ps.toList.zip (ps.toList.drop 1)).all (fun (a, next) => a.1 < next.1) = true) (hs : Op.lookupswitch.offset ps.toList df x = off) (ht : (pc : Int) + off = (t : Int)) (k : Ef P d j t ls st u Q) : Ef P d j pc ls (vI x :: st) u Q := Ef.go hd rfl (by simp only [stp, goP, if_pos hp, hs, tgt_of ht]) k
theorem ef_iald {a n i : Nat} {x : Int} (hd : decode (pBc P j) pc = .ok (.iaload, 1)) (hs : mS u a = some (0, n)) (hx : x = (i : Int)) (hi : i < n) (k : Ef P d j (pc + 1) ls (vI (mI u a i) :: st) u Q) : Ef P d j pc ls (vI x :: vR a :: st) u Q := by
  subst hx
  exact Ef.go hd rfl (by simp [stp, goS, kEl, hs, hi]) k
theorem ef_cald {a n i : Nat} {x : Int} (hd : decode (pBc P j) pc = .ok (.caload, 1)) (hs : mS u a = some (1, n)) (hx : x = (i : Int)) (hi : i < n) (k : Ef P d j (pc + 1) ls (vI (mI u a i) :: st) u Q) : Ef P d j pc ls (vI x :: vR a :: st) u Q := by
  subst hx
  exact Ef.go hd rfl (by simp [stp, goS, kEl, hs, hi]) k
theorem ef_bald {a n i : Nat} {x : Int} (hd : decode (pBc P j) pc = .ok (.baload, 1)) (hs : mS u a = some (2, n)) (hx : x = (i : Int)) (hi : i < n) (k : Ef P d j (pc + 1) ls (vI (mI u a i) :: st) u Q) : Ef P d j pc ls (vI x :: vR a :: st) u Q := by
  subst hx
  exact Ef.go hd rfl (by simp [stp, goS, kEl, hs, hi]) k
theorem ef_lald {a n i : Nat} {x : Int} (hd : decode (pBc P j) pc = .ok (.laload, 1)) (hs : mS u a = some (3, n)) (hx : x = (i : Int)) (hi : i < n) (k : Ef P d j (pc + 1) ls (vL (mL u a i) :: st) u Q) : Ef P d j pc ls (vI x :: vR a :: st) u Q := by
  subst hx
  exact Ef.go hd rfl (by simp [stp, goS, kEl, hs, hi]) k
theorem ef_aald {a c n i : Nat} {x : Int} (hd : decode (pBc P j) pc = .ok (.aaload, 1)) (hs : mS u a = some (4 + c, n)) (hc : c < 96) (hx : x = (i : Int)) (hi : i < n) (k : Ef P d j (pc + 1) ls (vF (mF u a i) :: st) u Q) : Ef P d j pc ls (vI x :: vR a :: st) u Q := by
  subst hx
  exact Ef.go hd rfl (by simp [stp, goS, kEl, hs, hi, show 4 + c < 100 by omega, show ¬ 4 + c < 3 by omega, show ¬ 4 + c = 3 by omega]) k
theorem ef_iast {a n i : Nat} {x v w : Int} (hd : decode (pBc P j) pc = .ok (.iastore, 1)) (hs : mS u a = some (0, n)) (hx : x = (i : Int)) (hi : i < n) (hv : v = w) (k : Ef P d j (pc + 1) ls st (sI u (u2 (mI u) a i w)) Q) : Ef P d j pc ls (vI v :: vI x :: vR a :: st) u Q := by
  subst hx; subst hv
  exact Ef.go hd rfl (by simp [stp, kEs, hs, hi]) k
theorem ef_cast {a n i : Nat} {x v w : Int} (hd : decode (pBc P j) pc = .ok (.castore, 1)) (hs : mS u a = some (1, n)) (hx : x = (i : Int)) (hi : i < n) (hv : v % 65536 = w) (k : Ef P d j (pc + 1) ls st (sI u (u2 (mI u) a i w)) Q) : Ef P d j pc ls (vI v :: vI x :: vR a :: st) u Q := by
  subst hx; subst hv
  exact Ef.go hd rfl (by simp [stp, kEs, hs, hi]) k
theorem ef_bast {a n i : Nat} {x v w : Int} (hd : decode (pBc P j) pc = .ok (.bastore, 1)) (hs : mS u a = some (2, n)) (hx : x = (i : Int)) (hi : i < n) (hv : v % 2 = w) (k : Ef P d j (pc + 1) ls st (sI u (u2 (mI u) a i w)) Q) : Ef P d j pc ls (vI v :: vI x :: vR a :: st) u Q := by
  subst hx; subst hv
  exact Ef.go hd rfl (by simp [stp, kEs, hs, hi]) k
theorem ef_last {a n i : Nat} {x : Int} {v : Int64} (hd : decode (pBc P j) pc = .ok (.lastore, 1)) (hs : mS u a = some (3, n)) (hx : x = (i : Int)) (hi : i < n) (k : Ef P d j (pc + 1) ls st (sL u (u2 (mL u) a i v)) Q) : Ef P d j pc ls (vL v :: vI x :: vR a :: st) u Q := by
  subst hx
  exact Ef.go hd rfl (by simp [stp, kLs, hs, hi]) k
theorem ef_aast {a b c n m i : Nat} {x : Int} (hd : decode (pBc P j) pc = .ok (.aastore, 1)) (hs : mS u a = some (4 + c, n)) (hb : mS u b = some (100 + c, m)) (hc : c < 96) (hx : x = (i : Int)) (hi : i < n) (k : Ef P d j (pc + 1) ls st (sF u (u2 (mF u) a i (some b))) Q) : Ef P d j pc ls (vR b :: vI x :: vR a :: st) u Q := by
  subst hx
  exact Ef.go hd rfl (by simp [stp, kAs, hs, hb, hi, show 4 + c < 100 by omega, show 100 + c = 96 + (4 + c) by omega]) k
theorem ef_alen {a k0 n : Nat} (hd : decode (pBc P j) pc = .ok (.arraylength, 1)) (hs : mS u a = some (k0, n)) (hk : k0 < 100) (k : Ef P d j (pc + 1) ls (vI n :: st) u Q) : Ef P d j pc ls (vR a :: st) u Q := Ef.go hd rfl (by simp only [stp, goS, kLen, hs, if_pos hk]) k
theorem ef_getI {k0 a c f n : Nat} (hd : decode (pBc P j) pc = .ok (.getfield k0, 3)) (hl : pLf P (pOw P j) k0 = some (c, (f, 0))) (hs : mS u a = some (100 + c, n)) (hf : f < n) (k : Ef P d j (pc + 3) ls (vI (mI u a f) :: st) u Q) : Ef P d j pc ls (vR a :: st) u Q := Ef.go hd rfl (by simp [stp, goS, kGet, hl, hs, hf]) k
theorem ef_getL {k0 a c f n : Nat} (hd : decode (pBc P j) pc = .ok (.getfield k0, 3)) (hl : pLf P (pOw P j) k0 = some (c, (f, 1))) (hs : mS u a = some (100 + c, n)) (hf : f < n) (k : Ef P d j (pc + 3) ls (vL (mL u a f) :: st) u Q) : Ef P d j pc ls (vR a :: st) u Q := Ef.go hd rfl (by simp [stp, goS, kGet, hl, hs, hf]) k
theorem ef_getZ {k0 a c f n : Nat} (hd : decode (pBc P j) pc = .ok (.getfield k0, 3)) (hl : pLf P (pOw P j) k0 = some (c, (f, 3))) (hs : mS u a = some (100 + c, n)) (hf : f < n) (k : Ef P d j (pc + 3) ls (vI (mI u a f) :: st) u Q) : Ef P d j pc ls (vR a :: st) u Q := Ef.go hd rfl (by simp [stp, goS, kGet, hl, hs, hf]) k
theorem ef_getR {k0 a c f n : Nat} {r : Option Nat} (hd : decode (pBc P j) pc = .ok (.getfield k0, 3)) (hl : pLf P (pOw P j) k0 = some (c, (f, 2))) (hs : mS u a = some (100 + c, n)) (hf : f < n) (hr : mF u a f = r) (k : Ef P d j (pc + 3) ls (vF r :: st) u Q) : Ef P d j pc ls (vR a :: st) u Q := Ef.go hd rfl (by simp [stp, goS, kGet, hl, hs, hf, hr]) k
theorem ef_putI {k0 a c f n : Nat} {x : Int} (hd : decode (pBc P j) pc = .ok (.putfield k0, 3)) (hl : tPf j k0 = some (c, (f, 0))) (hs : mS u a = some (100 + c, n)) (hf : f < n) (k : Ef P d j (pc + 3) ls st (sI u (u2 (mI u) a f x)) Q) : Ef P d j pc ls (vI x :: vR a :: st) u Q := Ef.go hd rfl (by simp [stp, kPut, hl, hs, hf]) k
theorem ef_putZ {k0 a c f n : Nat} {x : Int} (hd : decode (pBc P j) pc = .ok (.putfield k0, 3)) (hl : tPf j k0 = some (c, (f, 3))) (hs : mS u a = some (100 + c, n)) (hf : f < n) (hx : x = 0 ∨ x = 1) (k : Ef P d j (pc + 3) ls st (sI u (u2 (mI u) a f x)) Q) : Ef P d j pc ls (vI x :: vR a :: st) u Q := Ef.go hd rfl (by simp [stp, kPut, hl, hs, hf, hx]) k
theorem ef_putR {k0 a c f n : Nat} {r : Option Nat} (hd : decode (pBc P j) pc = .ok (.putfield k0, 3)) (hl : tPf j k0 = some (c, (f, 2))) (hs : mS u a = some (100 + c, n)) (hf : f < n) (k : Ef P d j (pc + 3) ls st (sF u (u2 (mF u) a f r)) Q) : Ef P d j pc ls (vF r :: vR a :: st) u Q := Ef.go hd rfl (by simp [stp, kPut, hl, hs, hf]) k
theorem ef_new {k0 c m : Nat} (hd : decode (pBc P j) pc = .ok (.new k0, 3)) (hl : pLc P (pOw P j) k0 = some (c, m)) (k : Ef P d j (pc + 3) ls (vR (mT u) :: st) (mNew u (100 + c) m) Q) : Ef P d j pc ls st u Q := Ef.go hd rfl (by simp only [stp, hl]) k
theorem ef_newa {t : ArrayType} {k0 n : Nat} {x : Int} (hd : decode (pBc P j) pc = .ok (.newarray t, 2)) (ht : aKd t = some k0) (hx : x = (n : Int)) (hn : n < 65536) (k : Ef P d j (pc + 2) ls (vR (mT u) :: st) (mNew u k0 n) Q) : Ef P d j pc ls (vI x :: st) u Q := by
  subst hx
  exact Ef.go hd rfl (by simp [stp, ht, kNa, show (n : Int) < 65536 by omega]) k
theorem ef_newr {k1 c n : Nat} {x : Int} (hd : decode (pBc P j) pc = .ok (.anewarray k1, 3)) (ht : pLa P (pOw P j) k1 = some c) (hx : x = (n : Int)) (hn : n < 65536) (k : Ef P d j (pc + 3) ls (vR (mT u) :: st) (mNew u (4 + c) n) Q) : Ef P d j pc ls (vI x :: st) u Q := by
  subst hx
  exact Ef.go hd rfl (by simp [stp, ht, kNa, show (n : Int) < 65536 by omega]) k
theorem ef_iret {x : Int} (hd : decode (pBc P j) pc = .ok (.ireturn, 1)) (hk : rk (tRt j) = 1) (k : Q (.inl (some (vI x))) u) : Ef P d j pc ls [vI x] u Q := Ef.ret hd rfl rfl (by simp only [rt, hk, true_or, if_true]) k
theorem ef_zret {x : Int} (hd : decode (pBc P j) pc = .ok (.ireturn, 1)) (hk : rk (tRt j) = 2) (hx : x = 0 ∨ x = 1) (k : Q (.inl (some (vI x))) u) : Ef P d j pc ls [vI x] u Q := Ef.ret hd rfl rfl (by simp only [rt, hk, hx, and_self, true_or, or_true, if_true]) k
theorem ef_cret {x : Int} (hd : decode (pBc P j) pc = .ok (.ireturn, 1)) (hk : rk (tRt j) = 3) (h0 : 0 ≤ x) (h1 : x < 65536) (k : Q (.inl (some (vI x))) u) : Ef P d j pc ls [vI x] u Q := Ef.ret hd rfl rfl (by simp [rt, hk, h0, h1]) k
theorem ef_bret (hd : decode (pBc P j) pc = .ok (.ireturn, 1)) (hk : rk (tRt j) = 6) (k : Q (.inl (some (vI 0))) u) : Ef P d j pc ls [vI 0] u Q := Ef.ret hd rfl rfl (by simp [rt, hk]) k
theorem ef_lret {x : Int64} (hd : decode (pBc P j) pc = .ok (.lreturn, 1)) (hk : rk (tRt j) = 4) (k : Q (.inl (some (vL x))) u) : Ef P d j pc ls [vL x] u Q := Ef.ret hd rfl rfl (by simp only [rt, hk, if_true]) k
theorem ef_aret {a : Nat} (hd : decode (pBc P j) pc = .ok (.areturn, 1)) (hk : rk (tRt j) = 5) (k : Q (.inl (some (vR a))) u) : Ef P d j pc ls [vR a] u Q := Ef.ret hd rfl rfl (by simp only [rt, hk, if_true]) k
theorem ef_vret (hd : decode (pBc P j) pc = .ok (.return_, 1)) (hk : rk (tRt j) = 0) (k : Q (.inl none) u) : Ef P d j pc ls [] u Q := Ef.ret hd rfl rfl (by simp only [rt, hk, if_true]) k
theorem ef_callV {k0 y m : Nat} {as rest : List Vl} {b c0 n0 : Nat} (hd : decode (pBc P j) pc = .ok (.invokevirtual k0, 3)) (hl : pLm P (pOw P j) k0 = some (y, m)) (ha : st = as.reverse ++ vR b :: rest) (hm : as.length + 1 = m) (hb : mS u b = some (100 + c0, n0)) (ho : tOw y = c0) (h0 : tSt y = 0) (h12 : c0 ≠ 12) (hw : (rest.map cat).sum ≤ 8) (hk : pKd P y = 0) (hx : (ent1 (vR b :: as)).length ≤ pMx P y)
    (k : Ec P d y (vR b :: as) u (fun r u' => match r with
      | .inl v => Ef P (d + 1) j (pc + 3) ls (v.toList ++ rest) u' Q
      | .inr x => match hnd pc x.1 (pHs P j) with
        | some h => Ef P (d + 1) j h ls [vR x.2] u' Q
        | none => pHs P j = [] ∧ Q (.inr x) u')) : Ef P (d + 1) j pc ls st u Q :=
  Ef.call hd rfl rfl rfl (by
    subst ha; subst hm
    simp [cl, iK, hl, cK, h0, tk_r, dr_r]) hw hk hx (by simp [rcv, h0, hb, ho, h12]) k
theorem ef_biV {k0 y m : Nat} {as rest : List Vl} {v : Option Vl} {u' : Mm} (hd : decode (pBc P j) pc = .ok (.invokevirtual k0, 3)) (hl : pLm P (pOw P j) k0 = some (y, m)) (ha : st = as.reverse ++ rest) (hm : as.length = m) (hc : cK (.invokevirtual k0) y = true) (hw : (rest.map cat).sum ≤ 8) (hb : bi P (pKd P y) as u = some (v, u'))
    (k : Ef P d j (pc + 3) ls (v.toList ++ rest) u' Q) : Ef P d j pc ls st u Q :=
  Ef.bi hd rfl rfl rfl (by
    subst ha; subst hm
    simp [cl, iK, hl, hc]) hw hb k
theorem ef_callI {k0 y m : Nat} {as rest : List Vl} {b : Nat} (hd : decode (pBc P j) pc = .ok (.invokespecial k0, 3)) (hl : pLm P (pOw P j) k0 = some (y, m)) (ha : st = as.reverse ++ vR b :: rest) (hm : as.length + 1 = m) (h0 : tSt y = 2) (hw : (rest.map cat).sum ≤ 8) (hk : pKd P y = 0) (hx : (ent1 (vR b :: as)).length ≤ pMx P y)
    (k : Ec P d y (vR b :: as) u (fun r u' => match r with
      | .inl v => Ef P (d + 1) j (pc + 3) ls (v.toList ++ rest) u' Q
      | .inr x => match hnd pc x.1 (pHs P j) with
        | some h => Ef P (d + 1) j h ls [vR x.2] u' Q
        | none => pHs P j = [] ∧ Q (.inr x) u')) : Ef P (d + 1) j pc ls st u Q :=
  Ef.call hd rfl rfl rfl (by
    subst ha; subst hm
    simp [cl, iK, hl, cK, h0, tk_r, dr_r]) hw hk hx (by simp [rcv, h0]) k
theorem ef_biI {k0 y m : Nat} {as rest : List Vl} {v : Option Vl} {u' : Mm} (hd : decode (pBc P j) pc = .ok (.invokespecial k0, 3)) (hl : pLm P (pOw P j) k0 = some (y, m)) (ha : st = as.reverse ++ rest) (hm : as.length = m) (hc : cK (.invokespecial k0) y = true) (hw : (rest.map cat).sum ≤ 8) (hb : bi P (pKd P y) as u = some (v, u'))
    (k : Ef P d j (pc + 3) ls (v.toList ++ rest) u' Q) : Ef P d j pc ls st u Q :=
  Ef.bi hd rfl rfl rfl (by
    subst ha; subst hm
    simp [cl, iK, hl, hc]) hw hb k
theorem ef_callS {k0 y m : Nat} {as rest : List Vl} (hd : decode (pBc P j) pc = .ok (.invokestatic k0, 3)) (hl : pLm P (pOw P j) k0 = some (y, m)) (ha : st = as.reverse ++ rest) (hm : as.length = m) (h0 : tSt y = 1) (hw : (rest.map cat).sum ≤ 8) (hk : pKd P y = 0) (hx : (ent1 as).length ≤ pMx P y)
    (k : Ec P d y as u (fun r u' => match r with
      | .inl v => Ef P (d + 1) j (pc + 3) ls (v.toList ++ rest) u' Q
      | .inr x => match hnd pc x.1 (pHs P j) with
        | some h => Ef P (d + 1) j h ls [vR x.2] u' Q
        | none => pHs P j = [] ∧ Q (.inr x) u')) : Ef P (d + 1) j pc ls st u Q :=
  Ef.call hd rfl rfl rfl (by
    subst ha; subst hm
    simp [cl, iK, hl, cK, h0, tk_r, dr_r]) hw hk hx (by simp [rcv, h0]) k
theorem ef_biS {k0 y m : Nat} {as rest : List Vl} {v : Option Vl} {u' : Mm} (hd : decode (pBc P j) pc = .ok (.invokestatic k0, 3)) (hl : pLm P (pOw P j) k0 = some (y, m)) (ha : st = as.reverse ++ rest) (hm : as.length = m) (hc : cK (.invokestatic k0) y = true) (hw : (rest.map cat).sum ≤ 8) (hb : bi P (pKd P y) as u = some (v, u'))
    (k : Ef P d j (pc + 3) ls (v.toList ++ rest) u' Q) : Ef P d j pc ls st u Q :=
  Ef.bi hd rfl rfl rfl (by
    subst ha; subst hm
    simp [cl, iK, hl, hc]) hw hb k
end O
