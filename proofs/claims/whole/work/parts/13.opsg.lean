/-! The rules that touch the memory, over ints g laid on a memory u. -/
theorem mS_sI (u : Mm) (g : Nat → Nat → Int) : mS (sI u g) = mS u := rfl
theorem mF_sI (u : Mm) (g : Nat → Nat → Int) : mF (sI u g) = mF u := rfl
theorem mL_sI (u : Mm) (g : Nat → Nat → Int) : mL (sI u g) = mL u := rfl
theorem mI_sI (u : Mm) (g : Nat → Nat → Int) : mI (sI u g) = g := rfl
theorem sI_sI (u : Mm) (g h : Nat → Nat → Int) : sI (sI u g) h = sI u h := rfl
theorem sI_mI (u : Mm) : sI u (mI u) = u := rfl
section G
variable {P : Pg} {d j pc : Nat} {ls ls' : Ls} {st : List Vl} {u : Mm} {g : Nat → Nat → Int} {Q : Rs → Mm → Prop}
theorem eg_iald {a n i : Nat} {x : Int} (hd : decode (pBc P j) pc = .ok (.iaload, 1)) (hs : mS u a = some (0, n)) (hx : x = (i : Int)) (hi : i < n) (k : Ef P d j (pc + 1) ls (vI (g a i) :: st) (sI u g) Q) : Ef P d j pc ls (vI x :: vR a :: st) (sI u g) Q := ef_iald (u := sI u g) hd hs hx hi k
theorem eg_cald {a n i : Nat} {x : Int} (hd : decode (pBc P j) pc = .ok (.caload, 1)) (hs : mS u a = some (1, n)) (hx : x = (i : Int)) (hi : i < n) (k : Ef P d j (pc + 1) ls (vI (g a i) :: st) (sI u g) Q) : Ef P d j pc ls (vI x :: vR a :: st) (sI u g) Q := ef_cald (u := sI u g) hd hs hx hi k
theorem eg_bald {a n i : Nat} {x : Int} (hd : decode (pBc P j) pc = .ok (.baload, 1)) (hs : mS u a = some (2, n)) (hx : x = (i : Int)) (hi : i < n) (k : Ef P d j (pc + 1) ls (vI (g a i) :: st) (sI u g) Q) : Ef P d j pc ls (vI x :: vR a :: st) (sI u g) Q := ef_bald (u := sI u g) hd hs hx hi k
theorem eg_lald {a n i : Nat} {x : Int} (hd : decode (pBc P j) pc = .ok (.laload, 1)) (hs : mS u a = some (3, n)) (hx : x = (i : Int)) (hi : i < n) (k : Ef P d j (pc + 1) ls (vL (mL u a i) :: st) (sI u g) Q) : Ef P d j pc ls (vI x :: vR a :: st) (sI u g) Q := ef_lald (u := sI u g) hd hs hx hi k
theorem eg_aald {a c n i : Nat} {x : Int} {r : Option Nat} (hd : decode (pBc P j) pc = .ok (.aaload, 1)) (hs : mS u a = some (4 + c, n)) (hc : c < 96) (hx : x = (i : Int)) (hi : i < n) (hr : mF u a i = r) (k : Ef P d j (pc + 1) ls (vF r :: st) (sI u g) Q) : Ef P d j pc ls (vI x :: vR a :: st) (sI u g) Q := by
  subst hr
  exact ef_aald (u := sI u g) hd hs hc hx hi k
theorem eg_iast {a n i : Nat} {x v w : Int} (hd : decode (pBc P j) pc = .ok (.iastore, 1)) (hs : mS u a = some (0, n)) (hx : x = (i : Int)) (hi : i < n) (hv : v = w) (k : Ef P d j (pc + 1) ls st (sI u (u2 g a i w)) Q) : Ef P d j pc ls (vI v :: vI x :: vR a :: st) (sI u g) Q := ef_iast (u := sI u g) hd hs hx hi hv k
theorem eg_cast {a n i : Nat} {x v w : Int} (hd : decode (pBc P j) pc = .ok (.castore, 1)) (hs : mS u a = some (1, n)) (hx : x = (i : Int)) (hi : i < n) (hv : v % 65536 = w) (k : Ef P d j (pc + 1) ls st (sI u (u2 g a i w)) Q) : Ef P d j pc ls (vI v :: vI x :: vR a :: st) (sI u g) Q := ef_cast (u := sI u g) hd hs hx hi hv k
theorem eg_bast {a n i : Nat} {x v w : Int} (hd : decode (pBc P j) pc = .ok (.bastore, 1)) (hs : mS u a = some (2, n)) (hx : x = (i : Int)) (hi : i < n) (hv : v % 2 = w) (k : Ef P d j (pc + 1) ls st (sI u (u2 g a i w)) Q) : Ef P d j pc ls (vI v :: vI x :: vR a :: st) (sI u g) Q := ef_bast (u := sI u g) hd hs hx hi hv k
theorem eg_alen {a k0 n : Nat} (hd : decode (pBc P j) pc = .ok (.arraylength, 1)) (hs : mS u a = some (k0, n)) (hk : k0 < 100) (k : Ef P d j (pc + 1) ls (vI n :: st) (sI u g) Q) : Ef P d j pc ls (vR a :: st) (sI u g) Q := ef_alen (u := sI u g) hd hs hk k
theorem eg_getI {k0 a c f n : Nat} (hd : decode (pBc P j) pc = .ok (.getfield k0, 3)) (hl : pLf P (pOw P j) k0 = some (c, (f, 0))) (hs : mS u a = some (100 + c, n)) (hf : f < n) (k : Ef P d j (pc + 3) ls (vI (g a f) :: st) (sI u g) Q) : Ef P d j pc ls (vR a :: st) (sI u g) Q := ef_getI (u := sI u g) hd hl hs hf k
theorem eg_getL {k0 a c f n : Nat} (hd : decode (pBc P j) pc = .ok (.getfield k0, 3)) (hl : pLf P (pOw P j) k0 = some (c, (f, 1))) (hs : mS u a = some (100 + c, n)) (hf : f < n) (k : Ef P d j (pc + 3) ls (vL (mL u a f) :: st) (sI u g) Q) : Ef P d j pc ls (vR a :: st) (sI u g) Q := ef_getL (u := sI u g) hd hl hs hf k
theorem eg_getZ {k0 a c f n : Nat} (hd : decode (pBc P j) pc = .ok (.getfield k0, 3)) (hl : pLf P (pOw P j) k0 = some (c, (f, 3))) (hs : mS u a = some (100 + c, n)) (hf : f < n) (k : Ef P d j (pc + 3) ls (vI (g a f) :: st) (sI u g) Q) : Ef P d j pc ls (vR a :: st) (sI u g) Q := ef_getZ (u := sI u g) hd hl hs hf k
theorem eg_getR {k0 a c f n : Nat} {r : Option Nat} (hd : decode (pBc P j) pc = .ok (.getfield k0, 3)) (hl : pLf P (pOw P j) k0 = some (c, (f, 2))) (hs : mS u a = some (100 + c, n)) (hf : f < n) (hr : mF u a f = r) (k : Ef P d j (pc + 3) ls (vF r :: st) (sI u g) Q) : Ef P d j pc ls (vR a :: st) (sI u g) Q := ef_getR (u := sI u g) hd hl hs hf hr k
theorem eg_putI {k0 a c f n : Nat} {x : Int} (hd : decode (pBc P j) pc = .ok (.putfield k0, 3)) (hl : tPf j k0 = some (c, (f, 0))) (hs : mS u a = some (100 + c, n)) (hf : f < n) (k : Ef P d j (pc + 3) ls st (sI u (u2 g a f x)) Q) : Ef P d j pc ls (vI x :: vR a :: st) (sI u g) Q := ef_putI (u := sI u g) hd hl hs hf k
theorem eg_putZ {k0 a c f n : Nat} {x : Int} (hd : decode (pBc P j) pc = .ok (.putfield k0, 3)) (hl : tPf j k0 = some (c, (f, 3))) (hs : mS u a = some (100 + c, n)) (hf : f < n) (hx : x = 0 ∨ x = 1) (k : Ef P d j (pc + 3) ls st (sI u (u2 g a f x)) Q) : Ef P d j pc ls (vI x :: vR a :: st) (sI u g) Q := ef_putZ (u := sI u g) hd hl hs hf hx k
end G
