/-! A small machine over a flat memory (ints as integers in range, longs, references; shapes; the heap's size; slots made): what an instruction does, what a run is, and rules for it. Nothing here speaks of the JVM but decode and Instr. -/
abbrev Vl : Type := Int ⊕ (Int64 ⊕ Option Nat)
abbrev vI (x : Int) : Vl := Sum.inl x
abbrev vL (x : Int64) : Vl := Sum.inr (Sum.inl x)
abbrev vR (a : Nat) : Vl := Sum.inr (Sum.inr (some a))
abbrev vF (r : Option Nat) : Vl := Sum.inr (Sum.inr r)
/-- ints, longs, references by (cell, place); shapes (kind, length); the heap's size; slots made -/
abbrev Mm : Type := (Nat → Nat → Int) × ((Nat → Nat → Int64) × ((Nat → Nat → Option Nat) × ((Nat → Option (Nat × Nat)) × (Nat × Nat))))
def mI (u : Mm) : Nat → Nat → Int := u.1
def mL (u : Mm) : Nat → Nat → Int64 := u.2.1
def mF (u : Mm) : Nat → Nat → Option Nat := u.2.2.1
def mS (u : Mm) : Nat → Option (Nat × Nat) := u.2.2.2.1
def mT (u : Mm) : Nat := u.2.2.2.2.1
def mU (u : Mm) : Nat := u.2.2.2.2.2
def sI (u : Mm) (g : Nat → Nat → Int) : Mm := (g, u.2)
def sL (u : Mm) (g : Nat → Nat → Int64) : Mm := (u.1, (g, u.2.2))
def sF (u : Mm) (g : Nat → Nat → Option Nat) : Mm := (u.1, (u.2.1, (g, u.2.2.2)))
def u1 {α : Type} (f : Nat → α) (i : Nat) (x : α) : Nat → α := fun k => if k = i then x else f k
def u2 {α : Type} (f : Nat → Nat → α) (a i : Nat) (x : α) : Nat → Nat → α := fun b => if b = a then u1 (f a) i x else f b
theorem u1_eq {α : Type} {f : Nat → α} {i : Nat} {x : α} : u1 f i x i = x := if_pos rfl
theorem u1_ne {α : Type} {f : Nat → α} {i k : Nat} {x : α} (h : k ≠ i) : u1 f i x k = f k := if_neg h
theorem u2_ne {α : Type} {f : Nat → Nat → α} {a b i : Nat} {x : α} (h : b ≠ a) : u2 f a i x b = f b := if_neg h
theorem u2_eq {α : Type} {f : Nat → Nat → α} {a i : Nat} {x : α} : u2 f a i x a = u1 (f a) i x := if_pos rfl
theorem u2_at {α : Type} {f : Nat → Nat → α} {a i : Nat} {x : α} : u2 f a i x a i = x := by rw [u2_eq, u1_eq]
theorem u2_ni {α : Type} {f : Nat → Nat → α} {a i k : Nat} {x : α} (h : k ≠ i) : u2 f a i x a k = f a k := by rw [u2_eq, u1_ne h]
/-- a new cell of kind k and length n -/
def mNew (u : Mm) (k n : Nat) : Mm :=
  ((fun b => if b = mT u then (fun _ => 0) else mI u b), ((fun b => if b = mT u then (fun _ => 0) else mL u b), ((fun b => if b = mT u then (fun _ => none) else mF u b),
    ((fun b => if b = mT u then some (k, n) else mS u b), (mT u + 1, mU u + n)))))
/-- a new cell that the memory does not look into -/
def mHole (u : Mm) (n : Nat) : Mm := (u.1, (u.2.1, (u.2.2.1, ((fun b => if b = mT u then none else mS u b), (mT u + 1, mU u + n)))))
def inR (x : Int) : Prop := -2147483648 ≤ x ∧ x ≤ 2147483647
/-- an int's value out of any integer -/
def wr (x : Int) : Int := (Int32.ofInt x).toInt
def bI (f : Int32 → Int32 → Int32) (x y : Int) : Int := (f (Int32.ofInt x) (Int32.ofInt y)).toInt
theorem wr_in {x : Int} (h : inR x) : wr x = x := by
  unfold wr
  rw [Int32.toInt_ofInt]
  unfold inR at h
  have h2 : Int32.size = 4294967296 := rfl
  rw [h2]
  apply Int.bmod_eq_of_le <;> omega
/-- what is not in the tables: where the text of the signs lies, and its bytes; a static of the JDK's; the script: its cell, its length, its ints -/
abbrev Pg : Type := Nat × (Nat × (Option Nat × (Nat × (Nat × (Nat → Int)))))
abbrev pBc (_ : Pg) : Nat → ByteArray := tBc
abbrev pMx (_ : Pg) : Nat → Nat := tMx
abbrev pOw (_ : Pg) : Nat → Nat := tOw
abbrev pLf (_ : Pg) : Nat → Nat → Option (Nat × (Nat × Nat)) := tLf
abbrev pLm (_ : Pg) : Nat → Nat → Option (Nat × Nat) := tLm
abbrev pLc (_ : Pg) : Nat → Nat → Option (Nat × Nat) := tLc
abbrev pLa (_ : Pg) : Nat → Nat → Option Nat := tLa
abbrev pLl (_ : Pg) : Nat → Nat → Option Int64 := tLl
abbrev pLs (_ : Pg) : Nat → Nat → Option Nat := tLs
abbrev pLx (_ : Pg) : Nat → Nat → Option (Nat × Nat) := tLx
abbrev pKd (_ : Pg) : Nat → Nat := tKd
abbrev pHs (_ : Pg) : Nat → List (Nat × (Nat × (Nat × Nat))) := tHs
abbrev pSg (P : Pg) : Nat := P.1
abbrev pSv (P : Pg) : Nat := P.2.1
abbrev pFm (P : Pg) : Option Nat := P.2.2.1
abbrev pB (P : Pg) : Nat := P.2.2.2.1
abbrev pLn (P : Pg) : Nat := P.2.2.2.2.1
abbrev pX (P : Pg) : Nat → Int := P.2.2.2.2.2
abbrev Ls : Type := List (Option Vl)
abbrev Fr : Type := Nat × (Ls × List Vl)
def isLg : Option Vl → Bool
  | some (.inr (.inl _)) => true
  | _ => false
def lClr (ls : Ls) (i : Nat) : Ls := match i with
  | 0 => ls
  | k + 1 => if isLg (ls.getD k none) = true then ls.set k none else ls
def lPut (ls : Ls) (i : Nat) (v : Vl) : Option Ls :=
  if isLg (some v) = true then (if i + 1 < ls.length then some (((lClr ls i).set i (some v)).set (i + 1) none) else none)
  else (if i < ls.length then some ((lClr ls i).set i (some v)) else none)
def cat (v : Vl) : Nat := if isLg (some v) = true then 2 else 1
def tgt (pc : Nat) (off : Int) : Option Nat := if 0 ≤ (pc : Int) + off then some ((pc : Int) + off).toNat else none
def cmpI (c : ClassFile.Cond) (x y : Int) : Bool := match c with
  | .eq => x == y
  | .ne => x != y
  | .lt => decide (x < y)
  | .ge => decide (y ≤ x)
  | .gt => decide (y < x)
  | .le => decide (x ≤ y)
def tsw (d lo hi : Int) (offs : Array Int) (x : Int) : Option Int := if x < lo ∨ hi < x then some d else offs[(x - lo).toNat]?
/-- go on behind an instruction -/
def goS (n pc : Nat) (ls : Ls) (u : Mm) (o : Option (List Vl)) : Option (Fr × Mm) := match o with
  | some st => some ((pc + n, (ls, st)), u)
  | none => none
def goL (n pc : Nat) (st : List Vl) (u : Mm) (o : Option Ls) : Option (Fr × Mm) := match o with
  | some ls => some ((pc + n, (ls, st)), u)
  | none => none
def goP (ls : Ls) (st : List Vl) (u : Mm) (o : Option Nat) : Option (Fr × Mm) := match o with
  | some pc => some ((pc, (ls, st)), u)
  | none => none
def kI2 (f : Int → Int → Int) : List Vl → Option (List Vl)
  | .inl y :: .inl x :: st => some (.inl (f x y) :: st)
  | _ => none
def kL2 (f : Int64 → Int64 → Int64) : List Vl → Option (List Vl)
  | .inr (.inl y) :: .inr (.inl x) :: st => some (.inr (.inl (f x y)) :: st)
  | _ => none
def kLI (f : Int64 → Int32 → Int64) : List Vl → Option (List Vl)
  | .inl y :: .inr (.inl x) :: st => some (.inr (.inl (f x (Int32.ofInt y))) :: st)
  | _ => none
def kLc : List Vl → Option (List Vl)
  | .inr (.inl y) :: .inr (.inl x) :: st => some (.inl (lg_cmp x y).toInt :: st)
  | _ => none
def kI1 (f : Int → Int) : List Vl → Option (List Vl)
  | .inl x :: st => some (.inl (f x) :: st)
  | _ => none
def kIL : List Vl → Option (List Vl)
  | .inl x :: st => some (.inr (.inl (Int32.ofInt x).toInt64) :: st)
  | _ => none
def kLi : List Vl → Option (List Vl)
  | .inr (.inl x) :: st => some (.inl (x.toInt32).toInt :: st)
  | _ => none
def vty : Vl → Nat
  | .inl _ => 0
  | .inr (.inl _) => 1
  | .inr (.inr _) => 2
def kLd (t : Nat) (ls : Ls) (i : Nat) (st : List Vl) : Option (List Vl) := match ls.getD i none with
  | some v => if vty v = t then some (v :: st) else none
  | none => none
def kSt (t : Nat) (ls : Ls) (i : Nat) (n pc : Nat) (u : Mm) : List Vl → Option (Fr × Mm)
  | v :: st => if vty v = t then goL n pc st u (lPut ls i v) else none
  | _ => none
def kDup : List Vl → Option (List Vl)
  | v :: st => if cat v = 1 then some (v :: v :: st) else none
  | _ => none
def kDx1 : List Vl → Option (List Vl)
  | v :: w :: st => if cat v = 1 ∧ cat w = 1 then some (v :: w :: v :: st) else none
  | _ => none
def kDx2 : List Vl → Option (List Vl)
  | v :: w :: x :: st => if cat v = 1 ∧ cat w = 1 ∧ cat x = 1 then some (v :: w :: x :: v :: st) else none
  | _ => none
def kD2 : List Vl → Option (List Vl)
  | v :: w :: st => if cat v = 1 ∧ cat w = 1 then some (v :: w :: v :: w :: st) else none
  | _ => none
def kPop : List Vl → Option (List Vl)
  | v :: st => if cat v = 1 then some st else none
  | _ => none
/-- an element: kinds 0 int, 1 char, 2 boolean, 3 long, from 4 on references -/
def kEl (u : Mm) (ok : Nat → Bool) : List Vl → Option (List Vl)
  | .inl x :: .inr (.inr (some a)) :: st => match mS u a with
    | some (k, n) => if ok k = true ∧ k < 100 ∧ 0 ≤ x ∧ x < (n : Int) then some ((if k < 3 then vI (mI u a x.toNat) else if k = 3 then vL (mL u a x.toNat) else vF (mF u a x.toNat)) :: st) else none
    | none => none
  | _ => none
def kEs (n pc : Nat) (ls : Ls) (u : Mm) (kd : Nat) (f : Int → Int) : List Vl → Option (Fr × Mm)
  | .inl v :: .inl x :: .inr (.inr (some a)) :: st => match mS u a with
    | some (k, m) => if k = kd ∧ 0 ≤ x ∧ x < (m : Int) then some ((pc + n, (ls, st)), sI u (u2 (mI u) a x.toNat (f v))) else none
    | none => none
  | _ => none
def kLs (n pc : Nat) (ls : Ls) (u : Mm) : List Vl → Option (Fr × Mm)
  | .inr (.inl v) :: .inl x :: .inr (.inr (some a)) :: st => match mS u a with
    | some (k, m) => if k = 3 ∧ 0 ≤ x ∧ x < (m : Int) then some ((pc + n, (ls, st)), sL u (u2 (mL u) a x.toNat v)) else none
    | none => none
  | _ => none
/-- a reference array of kind 4 + c takes objects of class c -/
def kAs (n pc : Nat) (ls : Ls) (u : Mm) : List Vl → Option (Fr × Mm)
  | .inr (.inr (some b)) :: .inl x :: .inr (.inr (some a)) :: st => match mS u a, mS u b with
    | some (k, m), some (kb, _) => if 4 ≤ k ∧ k < 100 ∧ kb = 96 + k ∧ 0 ≤ x ∧ x < (m : Int) then some ((pc + n, (ls, st)), sF u (u2 (mF u) a x.toNat (some b))) else none
    | _, _ => none
  | _ => none
def kLen (u : Mm) : List Vl → Option (List Vl)
  | .inr (.inr (some a)) :: st => match mS u a with
    | some (k, n) => if k < 100 then some (vI n :: st) else none
    | none => none
  | _ => none
def kGet (u : Mm) (o : Option (Nat × (Nat × Nat))) : List Vl → Option (List Vl)
  | .inr (.inr (some a)) :: st => match o, mS u a with
    | some (c, (k, t)), some (kd, n) => if kd = 100 + c ∧ k < n then some ((if t = 1 then vL (mL u a k) else if t = 2 then vF (mF u a k) else vI (mI u a k)) :: st) else none
    | _, _ => none
  | _ => none
def kPut (n pc : Nat) (ls : Ls) (u : Mm) (o : Option (Nat × (Nat × Nat))) : List Vl → Option (Fr × Mm)
  | .inl x :: .inr (.inr (some a)) :: st => match o, mS u a with
    | some (c, (k, t)), some (kd, m) => if kd = 100 + c ∧ k < m ∧ (t = 0 ∨ (t = 3 ∧ (x = 0 ∨ x = 1))) then some ((pc + n, (ls, st)), sI u (u2 (mI u) a k x)) else none
    | _, _ => none
  | .inr (.inr r) :: .inr (.inr (some a)) :: st => match o, mS u a with
    | some (c, (k, t)), some (kd, m) => if kd = 100 + c ∧ k < m ∧ t = 2 then some ((pc + n, (ls, st)), sF u (u2 (mF u) a k r)) else none
    | _, _ => none
  | _ => none
def kNa (n pc : Nat) (ls : Ls) (u : Mm) (k : Nat) : List Vl → Option (Fr × Mm)
  | .inl x :: st => if 0 ≤ x ∧ x < 65536 then some ((pc + n, (ls, vR (mT u) :: st)), mNew u k x.toNat) else none
  | _ => none
def aKd : ArrayType → Option Nat
  | .int => some 0
  | .char => some 1
  | .boolean => some 2
  | .long => some 3
  | _ => none
/-- one instruction, but calls, ends and throws -/
def stp (P : Pg) (j : Nat) (i : Instr) (n pc : Nat) (ls : Ls) (st : List Vl) (u : Mm) : Option (Fr × Mm) := match i with
  | .iconst x => goS n pc ls u (some (vI (wr x) :: st))
  | .bipush x => goS n pc ls u (some (vI (Int8.ofInt x).toInt32.toInt :: st))
  | .sipush x => goS n pc ls u (some (vI (Int16.ofInt x).toInt32.toInt :: st))
  | .lconst x => goS n pc ls u (some (vL (Int64.ofNat x) :: st))
  | .ldc k => match pLs P (pOw P j) k with
    | some _ => goS n pc ls u (some (vR (pSg P) :: st))
    | none => none
  | .ldc2_w k => match pLl P (pOw P j) k with
    | some x => goS n pc ls u (some (vL x :: st))
    | none => none
  | .iload k => goS n pc ls u (kLd 0 ls k st)
  | .lload k => goS n pc ls u (kLd 1 ls k st)
  | .aload k => goS n pc ls u (kLd 2 ls k st)
  | .iload_n k => goS n pc ls u (kLd 0 ls k.val st)
  | .lload_n k => goS n pc ls u (kLd 1 ls k.val st)
  | .aload_n k => goS n pc ls u (kLd 2 ls k.val st)
  | .istore k => kSt 0 ls k n pc u st
  | .lstore k => kSt 1 ls k n pc u st
  | .astore k => kSt 2 ls k n pc u st
  | .istore_n k => kSt 0 ls k.val n pc u st
  | .lstore_n k => kSt 1 ls k.val n pc u st
  | .astore_n k => kSt 2 ls k.val n pc u st
  | .iinc k c => match ls.getD k none with
    | some (.inl x) => goL n pc st u (lPut ls k (vI (wr (x + wr c))))
    | _ => none
  | .iadd => goS n pc ls u (kI2 (fun x y => wr (x + y)) st)
  | .isub => goS n pc ls u (kI2 (fun x y => wr (x - y)) st)
  | .imul => goS n pc ls u (kI2 (fun x y => wr (x * y)) st)
  | .iand => goS n pc ls u (kI2 (bI (fun x y => x &&& y)) st)
  | .ior => goS n pc ls u (kI2 (bI (fun x y => x ||| y)) st)
  | .ixor => goS n pc ls u (kI2 (bI (fun x y => x ^^^ y)) st)
  | .ishl => goS n pc ls u (kI2 (bI (fun x y => x <<< (y &&& 31))) st)
  | .ishr => goS n pc ls u (kI2 (bI (fun x y => x >>> (y &&& 31))) st)
  | .i2c => goS n pc ls u (kI1 (fun x => x % 65536) st)
  | .i2l => goS n pc ls u (kIL st)
  | .l2i => goS n pc ls u (kLi st)
  | .land => goS n pc ls u (kL2 (fun x y => x &&& y) st)
  | .lor => goS n pc ls u (kL2 (fun x y => x ||| y) st)
  | .lshl => goS n pc ls u (kLI (fun x y => x <<< (y.toInt64 &&& 63)) st)
  | .lshr => goS n pc ls u (kLI (fun x y => x >>> (y.toInt64 &&& 63)) st)
  | .lcmp => goS n pc ls u (kLc st)
  | .dup => goS n pc ls u (kDup st)
  | .dup_x1 => goS n pc ls u (kDx1 st)
  | .dup_x2 => goS n pc ls u (kDx2 st)
  | .dup2 => goS n pc ls u (kD2 st)
  | .pop => goS n pc ls u (kPop st)
  | .goto o => goP ls st u (tgt pc o)
  | .ifCond c o => match st with
    | .inl x :: st' => goP ls st' u ((tgt pc o).map fun t => if cmpI c x 0 = true then t else pc + n)
    | _ => none
  | .if_icmp c o => match st with
    | .inl y :: .inl x :: st' => goP ls st' u ((tgt pc o).map fun t => if cmpI c x y = true then t else pc + n)
    | _ => none
  | .tableswitch d lo hi offs => match st with
    | .inl x :: st' => goP ls st' u ((tsw d lo hi offs x).bind (tgt pc))
    | _ => none
  | .lookupswitch d ps => match st with
    | .inl x :: st' => if (ps.toList.zip (ps.toList.drop 1)).all (fun (a, next) => a.1 < next.1) = true then goP ls st' u (tgt pc (Op.lookupswitch.offset ps.toList d x)) else none
    | _ => none
  | .iaload => goS n pc ls u (kEl u (fun k => k == 0) st)
  | .caload => goS n pc ls u (kEl u (fun k => k == 1) st)
  | .baload => goS n pc ls u (kEl u (fun k => k == 2) st)
  | .laload => goS n pc ls u (kEl u (fun k => k == 3) st)
  | .aaload => goS n pc ls u (kEl u (fun k => decide (4 ≤ k)) st)
  | .iastore => kEs n pc ls u 0 (fun x => x) st
  | .castore => kEs n pc ls u 1 (fun x => x % 65536) st
  | .bastore => kEs n pc ls u 2 (fun x => x % 2) st
  | .lastore => kLs n pc ls u st
  | .aastore => kAs n pc ls u st
  | .arraylength => goS n pc ls u (kLen u st)
  | .getfield k => goS n pc ls u (kGet u (pLf P (pOw P j) k) st)
  | .putfield k => kPut n pc ls u (tPf j k) st
  | .new k => match pLc P (pOw P j) k with
    | some (c, m) => some ((pc + n, (ls, vR (mT u) :: st)), mNew u (100 + c) m)
    | none => none
  | .newarray t => match aKd t with
    | some k => kNa n pc ls u k st
    | none => none
  | .anewarray k => match pLa P (pOw P j) k with
    | some c => kNa n pc ls u (4 + c) st
    | none => none
  | _ => none
/-- a result: a value or none; or an exception (its number, its cell) -/
abbrev Rs : Type := Option Vl ⊕ (Nat × Nat)
def rk : Option FieldType → Nat
  | none => 0
  | some .int => 1
  | some .boolean => 2
  | some .char => 3
  | some .long => 4
  | some .byte => 6
  | some (.object _) => 5
  | some (.array _) => 5
  | _ => 9
def rt (j : Nat) (i : Instr) (st : List Vl) : Option (Option Vl) := match i with
  | .return_ => match st with
    | [] => if rk (tRt j) = 0 then some none else none
    | _ => none
  | .ireturn => match st with
    | [.inl x] => if rk (tRt j) = 1 ∨ (rk (tRt j) = 2 ∧ (x = 0 ∨ x = 1)) ∨ (rk (tRt j) = 3 ∧ 0 ≤ x ∧ x < 65536) ∨ (rk (tRt j) = 6 ∧ x = 0) then some (some (vI x)) else none
    | _ => none
  | .lreturn => match st with
    | [.inr (.inl x)] => if rk (tRt j) = 4 then some (some (vL x)) else none
    | _ => none
  | .areturn => match st with
    | [.inr (.inr (some a))] => if rk (tRt j) = 5 then some (some (vR a)) else none
    | _ => none
  | _ => none
/-- behind 'new' of an exception: dup, its constructor, athrow -/
def thrOk (j pc x : Nat) : Bool :=
  (match decode (tBc j) (pc + 3) with
    | .ok (.dup, 1) => true
    | _ => false) &&
  (match decode (tBc j) (pc + 4) with
    | .ok (.invokespecial k, 3) => tLy (tOw j) k == some x
    | _ => false) &&
  (match decode (tBc j) (pc + 7) with
    | .ok (.athrow, 1) => true
    | _ => false)
/-- a call: the method, its arguments, what is left of the stack -/
def cK (i : Instr) (y : Nat) : Bool := match i with
  | .invokevirtual _ => tSt y == 0
  | .invokespecial _ => tSt y == 2 || y == 500
  | .invokestatic _ => tSt y == 1 || y == 501
  | _ => false
def iK : Instr → Option Nat
  | .invokevirtual k => some k
  | .invokespecial k => some k
  | .invokestatic k => some k
  | _ => none
def cl (P : Pg) (j : Nat) (i : Instr) (st : List Vl) : Option (Nat × (List Vl × List Vl)) := match iK i with
  | some k => match pLm P (pOw P j) k with
    | some (y, n) => if n ≤ st.length ∧ cK i y = true then some (y, ((st.take n).reverse, st.drop n)) else none
    | none => none
  | none => none
/-- the receiver is an object of the method's class (a constructor's: any object; a text's: the signs) -/
def rcv (P : Pg) (u : Mm) (y : Nat) (as : List Vl) : Bool := if tSt y = 1 then true else match as with
  | .inr (.inr (some b)) :: _ => if tSt y = 2 then true else if tOw y = 12 then b == pSg P else match mS u b with
    | some (k, _) => k == 100 + tOw y
    | none => false
  | _ => false
def ent1 : List Vl → Ls
  | [] => []
  | v :: vs => if isLg (some v) = true then some v :: none :: ent1 vs else some v :: ent1 vs
def ent (P : Pg) (y : Nat) (as : List Vl) : Ls := ent1 as ++ List.replicate (pMx P y - (ent1 as).length) none
def cpy (f g : Nat → Int) (sp dp n : Nat) : Nat → Int := fun k => if dp ≤ k ∧ k < dp + n then f (sp + (k - dp)) else g k
def sgn4 (c : Int) : Int := if c = 62 then 0 else if c = 60 then 1 else if c = 94 then 2 else if c = 63 then 3 else -1
def sgnC (k : Int) : Int := if k = 0 then 62 else if k = 1 then 60 else if k = 2 then 94 else 63
/-- what stands ready: 1 Math.min, 2 Math.max, 3 Integer.compare, 4 arraycopy, 5 Object.<init> -/
def bi (P : Pg) (k : Nat) (as : List Vl) (u : Mm) : Option (Option Vl × Mm) := match k with
  | 1 => match as with
    | [.inl x, .inl y] => some (some (vI (if x ≤ y then x else y)), u)
    | _ => none
  | 2 => match as with
    | [.inl x, .inl y] => some (some (vI (if x ≤ y then y else x)), u)
    | _ => none
  | 3 => match as with
    | [.inl x, .inl y] => some (some (vI (if x < y then -1 else if x = y then 0 else 1)), u)
    | _ => none
  | 4 => match as with
    | [.inr (.inr (some a)), .inl sp, .inr (.inr (some b)), .inl dp, .inl n] => match mS u a, mS u b with
      | some (k, la), some (k', lb) => if k = k' ∧ k < 2 ∧ a ≠ b ∧ 0 ≤ sp ∧ 0 ≤ dp ∧ 0 ≤ n ∧ sp + n ≤ (la : Int) ∧ dp + n ≤ (lb : Int) then
          some (none, sI u (fun c => if c = b then cpy (mI u a) (mI u b) sp.toNat dp.toNat n.toNat else mI u c)) else none
      | _, _ => none
    | _ => none
  | 5 => match as with
    | [.inr (.inr (some _))] => some (none, u)
    | _ => none
  | _ => none
def hnd (pc x : Nat) : List (Nat × (Nat × (Nat × Nat))) → Option Nat
  | [] => none
  | (a, (b, (h, e))) :: t => if a ≤ pc ∧ pc < b ∧ e = x then some h else hnd pc x t
/-- a new exception, thrown -/
def thrF (P : Pg) (j pc : Nat) (i : Instr) (st : List Vl) (u : Mm) : Option (Rs × Mm) := match i with
  | .new k => match pLx P (pOw P j) k with
    | some (x, m) => if pHs P j = [] ∧ thrOk j pc x = true ∧ pLc P (pOw P j) k = none ∧ (st.map cat).sum ≤ 8 then some (.inr (x, mT u), mHole u m) else none
    | none => none
  | _ => none
/-- in the methods of texts: the signs' own fields and bytes; in the law: the script -/
def sps (P : Pg) (j : Nat) (i : Instr) (st : List Vl) : Option (List Vl) := if tOw j < 12 ∧ j ≠ 178 then none else match i with
  | .i2b => kI1 (fun x => (Int32.ofInt x).toInt8.toInt32.toInt) st
  | .getstatic k => if tOw j = 12 ∧ k = 38 then some (vI 1 :: st) else if tOw j = 12 ∧ k = 1053 then some (vF (pFm P) :: st) else none
  | .getfield k => match st with
    | .inr (.inr (some a)) :: r => if a = pSg P ∧ tOw j = 12 then (if k = 9 then some (vR (pSv P) :: r) else if k = 15 then some (vI 0 :: r) else none) else none
    | _ => none
  | .arraylength => match st with
    | .inr (.inr (some a)) :: r => if a = pSv P then some (vI 4 :: r) else if a = pB P then some (vI (pLn P) :: r) else none
    | _ => none
  | .iaload => match st with
    | .inl x :: .inr (.inr (some a)) :: r => if a = pB P ∧ 0 ≤ x ∧ x < (pLn P : Int) then some (vI (pX P x.toNat) :: r) else none
    | _ => none
  | .baload => match st with
    | .inl x :: .inr (.inr (some a)) :: r => if a = pSv P ∧ 0 ≤ x ∧ x < 4 then some (vI (sgnC x) :: r) else none
    | _ => none
  | _ => none
/-- the length of an instruction, as it is met here -/
def iln (i : Instr) (n : Nat) : Bool := match i with
  | .bipush _ => n == 2
  | .sipush _ => n == 3
  | .ldc _ => n == 2
  | .ldc2_w _ => n == 3
  | .iload _ => n == 2
  | .lload _ => n == 2
  | .aload _ => n == 2
  | .istore _ => n == 2
  | .lstore _ => n == 2
  | .astore _ => n == 2
  | .iinc _ _ => n == 3
  | .goto _ => n == 3
  | .ifCond _ _ => n == 3
  | .if_icmp _ _ => n == 3
  | .tableswitch _ _ _ _ => true
  | .lookupswitch _ _ => true
  | .getfield _ => n == 3
  | .getstatic _ => n == 3
  | .putfield _ => n == 3
  | .invokevirtual _ => n == 3
  | .invokespecial _ => n == 3
  | .invokestatic _ => n == 3
  | .new _ => n == 3
  | .newarray _ => n == 2
  | .anewarray _ => n == 3
  | _ => n == 1
/-- a run by f instructions (each call counts its own), calls at most d deep -/
def fm (P : Pg) : Nat → Nat → Nat → Nat → Ls → List Vl → Mm → Option (Rs × Mm)
  | 0, _, _, _, _, _, _ => none
  | f + 1, d, j, pc, ls, st, u => match decode (pBc P j) pc with
    | .error _ => none
    | .ok (i, n) => if iln i n = true then match stp P j i n pc ls st u with
      | some ((pc', (ls', st')), u') => fm P f d j pc' ls' st' u'
      | none => match rt j i st with
        | some r => some (.inl r, u)
        | none => match cl P j i st with
          | some (y, (as, rest)) =>
            if (rest.map cat).sum ≤ 8 then match bi P (pKd P y) as u with
              | some (v, u') => fm P f d j (pc + n) ls (v.toList ++ rest) u'
              | none => match d with
                | 0 => none
                | d' + 1 => if (ent1 as).length ≤ pMx P y ∧ pKd P y = 0 ∧ rcv P u y as = true then match fm P f d' y 0 (ent P y as) [] u with
                  | some (.inl v, u') => fm P f (d' + 1) j (pc + n) ls (v.toList ++ rest) u'
                  | some (.inr x, u') => match hnd pc x.1 (pHs P j) with
                    | some h => fm P f (d' + 1) j h ls [vR x.2] u'
                    | none => if pHs P j = [] then some (.inr x, u') else none
                  | none => none
                  else none
            else none
          | none => match thrF P j pc i st u with
            | some r => some r
            | none => match sps P j i st with
              | some st' => fm P f d j (pc + n) ls st' u
              | none => none
      else none
