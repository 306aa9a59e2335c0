/-! Every step of the small machine is the JVM's. Written by wip/whole/gen/mk24.py. -/
theorem stp_g {p : Program} {l : Launch} {e : Env} {R : Room} {s : State} {m : MethodId} {args : Array Value} {below : List Frame} {meth : Method} {c : Code} {cc : ByteArray} {D : va_G} {dA : Nat → ClassId} {h0 : Nat} {H0 : Heap} {P : Pg} {j n pc pc' nL : Nat} {a : Array Slot} {ls ls' : Ls} {st st' : List Vl} {u u' : Mm} {i : Instr}
    (hx : p.tables.exec = Jvm.exec) (hb : c.code = cc) (hK : SK D dA P s) (hown : s.vm.findClass (cNm (tOw j)) = some m.cls) (hini : tIni j = 1 → meth.name = "<init>") (hL : LR a nL ls) (hst : ∀ v ∈ st, vok v)
    (hd : decode cc pc = .ok (i, n)) (hn : iln i n = true) (hs : stp P j i n pc ls st u = some ((pc', (ls', st')), u')) : Sg p l e R s m args below meth c D dA h0 H0 nL pc a st u pc' ls' st' u' := by
  cases i
  case lconst x =>
    have e1 : n = 1 := by simpa [iln] using hn
    subst e1
    exact (sx_lconst hx hb hL hst hd hs).g
  case iconst x =>
    have e1 : n = 1 := by simpa [iln] using hn
    subst e1
    exact (sx_iconst hx hb hL hst hd hs).g
  case iload_n x =>
    have e1 : n = 1 := by simpa [iln] using hn
    subst e1
    exact (sx_iload_n hx hb hL hst hd hs).g
  case lload_n x =>
    have e1 : n = 1 := by simpa [iln] using hn
    subst e1
    exact (sx_lload_n hx hb hL hst hd hs).g
  case aload_n x =>
    have e1 : n = 1 := by simpa [iln] using hn
    subst e1
    exact (sx_aload_n hx hb hL hst hd hs).g
  case istore_n x =>
    have e1 : n = 1 := by simpa [iln] using hn
    subst e1
    exact (sx_istore_n hx hb hL hst hd hs).g
  case lstore_n x =>
    have e1 : n = 1 := by simpa [iln] using hn
    subst e1
    exact (sx_lstore_n hx hb hL hst hd hs).g
  case astore_n x =>
    have e1 : n = 1 := by simpa [iln] using hn
    subst e1
    exact (sx_astore_n hx hb hL hst hd hs).g
  case iadd =>
    have e1 : n = 1 := by simpa [iln] using hn
    subst e1
    exact (sx_iadd hx hb hL hst hd hs).g
  case isub =>
    have e1 : n = 1 := by simpa [iln] using hn
    subst e1
    exact (sx_isub hx hb hL hst hd hs).g
  case imul =>
    have e1 : n = 1 := by simpa [iln] using hn
    subst e1
    exact (sx_imul hx hb hL hst hd hs).g
  case iand =>
    have e1 : n = 1 := by simpa [iln] using hn
    subst e1
    exact (sx_iand hx hb hL hst hd hs).g
  case ior =>
    have e1 : n = 1 := by simpa [iln] using hn
    subst e1
    exact (sx_ior hx hb hL hst hd hs).g
  case ixor =>
    have e1 : n = 1 := by simpa [iln] using hn
    subst e1
    exact (sx_ixor hx hb hL hst hd hs).g
  case ishl =>
    have e1 : n = 1 := by simpa [iln] using hn
    subst e1
    exact (sx_ishl hx hb hL hst hd hs).g
  case ishr =>
    have e1 : n = 1 := by simpa [iln] using hn
    subst e1
    exact (sx_ishr hx hb hL hst hd hs).g
  case i2c =>
    have e1 : n = 1 := by simpa [iln] using hn
    subst e1
    exact (sx_i2c hx hb hL hst hd hs).g
  case i2l =>
    have e1 : n = 1 := by simpa [iln] using hn
    subst e1
    exact (sx_i2l hx hb hL hst hd hs).g
  case l2i =>
    have e1 : n = 1 := by simpa [iln] using hn
    subst e1
    exact (sx_l2i hx hb hL hst hd hs).g
  case land =>
    have e1 : n = 1 := by simpa [iln] using hn
    subst e1
    exact (sx_land hx hb hL hst hd hs).g
  case lor =>
    have e1 : n = 1 := by simpa [iln] using hn
    subst e1
    exact (sx_lor hx hb hL hst hd hs).g
  case lshl =>
    have e1 : n = 1 := by simpa [iln] using hn
    subst e1
    exact (sx_lshl hx hb hL hst hd hs).g
  case lshr =>
    have e1 : n = 1 := by simpa [iln] using hn
    subst e1
    exact (sx_lshr hx hb hL hst hd hs).g
  case lcmp =>
    have e1 : n = 1 := by simpa [iln] using hn
    subst e1
    exact (sx_lcmp hx hb hL hst hd hs).g
  case dup =>
    have e1 : n = 1 := by simpa [iln] using hn
    subst e1
    exact (sx_dup hx hb hL hst hd hs).g
  case dup_x1 =>
    have e1 : n = 1 := by simpa [iln] using hn
    subst e1
    exact (sx_dup_x1 hx hb hL hst hd hs).g
  case dup_x2 =>
    have e1 : n = 1 := by simpa [iln] using hn
    subst e1
    exact (sx_dup_x2 hx hb hL hst hd hs).g
  case dup2 =>
    have e1 : n = 1 := by simpa [iln] using hn
    subst e1
    exact (sx_dup2 hx hb hL hst hd hs).g
  case pop =>
    have e1 : n = 1 := by simpa [iln] using hn
    subst e1
    exact (sx_pop hx hb hL hst hd hs).g
  case bipush x =>
    have e1 : n = 2 := by simpa [iln] using hn
    subst e1
    exact (sx_bipush hx hb hL hst hd hs).g
  case iload x =>
    have e1 : n = 2 := by simpa [iln] using hn
    subst e1
    exact (sx_iload hx hb hL hst hd hs).g
  case lload x =>
    have e1 : n = 2 := by simpa [iln] using hn
    subst e1
    exact (sx_lload hx hb hL hst hd hs).g
  case aload x =>
    have e1 : n = 2 := by simpa [iln] using hn
    subst e1
    exact (sx_aload hx hb hL hst hd hs).g
  case istore x =>
    have e1 : n = 2 := by simpa [iln] using hn
    subst e1
    exact (sx_istore hx hb hL hst hd hs).g
  case lstore x =>
    have e1 : n = 2 := by simpa [iln] using hn
    subst e1
    exact (sx_lstore hx hb hL hst hd hs).g
  case astore x =>
    have e1 : n = 2 := by simpa [iln] using hn
    subst e1
    exact (sx_astore hx hb hL hst hd hs).g
  case sipush x =>
    have e1 : n = 3 := by simpa [iln] using hn
    subst e1
    exact (sx_sipush hx hb hL hst hd hs).g
  case iinc x y =>
    have e1 : n = 3 := by simpa [iln] using hn
    subst e1
    exact (sx_iinc hx hb hL hst hd hs).g
  case goto x =>
    have e1 : n = 3 := by simpa [iln] using hn
    subst e1
    exact (sx_goto hx hb hL hst hd hs).g
  case ifCond cd off =>
    have e1 : n = 3 := by simpa [iln] using hn
    subst e1
    cases cd
    · exact (sx_if_eq hx hb hL hst hd hs).g
    · exact (sx_if_ne hx hb hL hst hd hs).g
    · exact (sx_if_lt hx hb hL hst hd hs).g
    · exact (sx_if_ge hx hb hL hst hd hs).g
    · exact (sx_if_gt hx hb hL hst hd hs).g
    · exact (sx_if_le hx hb hL hst hd hs).g
  case if_icmp cd off =>
    have e1 : n = 3 := by simpa [iln] using hn
    subst e1
    cases cd
    · exact (sx_icmp_eq hx hb hL hst hd hs).g
    · exact (sx_icmp_ne hx hb hL hst hd hs).g
    · exact (sx_icmp_lt hx hb hL hst hd hs).g
    · exact (sx_icmp_ge hx hb hL hst hd hs).g
    · exact (sx_icmp_gt hx hb hL hst hd hs).g
    · exact (sx_icmp_le hx hb hL hst hd hs).g
  case tableswitch => exact (sx_table hx hb hL hst hd hs).g
  case lookupswitch => exact (sx_lookup hx hb hL hst hd hs).g
  case iaload =>
    have e1 : n = 1 := by simpa [iln] using hn
    subst e1
    exact sg_iaload hx hb hK hL hst hd hs
  case caload =>
    have e1 : n = 1 := by simpa [iln] using hn
    subst e1
    exact sg_caload hx hb hK hL hst hd hs
  case baload =>
    have e1 : n = 1 := by simpa [iln] using hn
    subst e1
    exact sg_baload hx hb hK hL hst hd hs
  case laload =>
    have e1 : n = 1 := by simpa [iln] using hn
    subst e1
    exact sg_laload hx hb hK hL hst hd hs
  case aaload =>
    have e1 : n = 1 := by simpa [iln] using hn
    subst e1
    exact sg_aaload hx hb hK hL hst hd hs
  case iastore =>
    have e1 : n = 1 := by simpa [iln] using hn
    subst e1
    exact sg_iastore hx hb hK hL hst hd hs
  case castore =>
    have e1 : n = 1 := by simpa [iln] using hn
    subst e1
    exact sg_castore hx hb hK hL hst hd hs
  case bastore =>
    have e1 : n = 1 := by simpa [iln] using hn
    subst e1
    exact sg_bastore hx hb hK hL hst hd hs
  case lastore =>
    have e1 : n = 1 := by simpa [iln] using hn
    subst e1
    exact sg_lastore hx hb hK hL hst hd hs
  case aastore =>
    have e1 : n = 1 := by simpa [iln] using hn
    subst e1
    exact sg_aastore hx hb hK hL hst hd hs
  case arraylength =>
    have e1 : n = 1 := by simpa [iln] using hn
    subst e1
    exact sg_arraylength hx hb hK hL hst hd hs
  case getfield x =>
    have e1 : n = 3 := by simpa [iln] using hn
    subst e1
    exact sg_getfield hx hb hK hL hst hown hd hs
  case putfield x =>
    have e1 : n = 3 := by simpa [iln] using hn
    subst e1
    exact sg_putfield hx hb hK hL hst hown hini hd hs
  case new x =>
    have e1 : n = 3 := by simpa [iln] using hn
    subst e1
    exact sg_new hx hb hK hL hst hown hd hs
  case newarray x =>
    have e1 : n = 2 := by simpa [iln] using hn
    subst e1
    exact sg_newarray hx hb hK hL hst hd hs
  case anewarray x =>
    have e1 : n = 3 := by simpa [iln] using hn
    subst e1
    exact sg_anewarray hx hb hK hL hst hown hd hs
  case ldc x =>
    have e1 : n = 2 := by simpa [iln] using hn
    subst e1
    exact sg_ldc hx hb hK hL hst hown hd hs
  case ldc2_w x =>
    have e1 : n = 3 := by simpa [iln] using hn
    subst e1
    exact sg_ldc2 hx hb hK hL hst hown hd hs
  all_goals exact absurd hs (by simp [stp])
