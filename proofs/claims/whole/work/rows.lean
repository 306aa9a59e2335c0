section
-- ===== PART A: goes FIRST, ahead of the names: the tables' words, and 'selects' of the private methods out of them =====
/-- a private method of a class that the tables say can be made, by its rows of tables_1 -/
def lw_okq (q : MethodName × Nat) : Prop := (q.1.cls ≠ "java/lang/invoke/MethodHandle" ∧ q.1.cls ≠ "java/lang/invoke/VarHandle") ∧ Cond.instantiable q.1.cls q.2 ∈ tables_1 ∧ Cond.privateMethod q.1 ∈ tables_1 ∧ Cond.instanceMethod q.1 ∈ tables_1
theorem lw_p0 : lw_okq (⟨"java/lang/Throwable", "fillInStackTrace", "(I)Ljava/lang/Throwable;"⟩, 6) := ⟨⟨by decide +kernel, by decide +kernel⟩, List.mem_of_getElem? (i := 374) (by decide +kernel), List.mem_of_getElem? (i := 372) (by decide +kernel), List.mem_of_getElem? (i := 373) (by decide +kernel)⟩
theorem lw_p1 : lw_okq (⟨"MovingBoxes$Term", "parseProcess", "(II)V"⟩, 8) := ⟨⟨by decide +kernel, by decide +kernel⟩, List.mem_of_getElem? (i := 35) (by decide +kernel), List.mem_of_getElem? (i := 434) (by decide +kernel), List.mem_of_getElem? (i := 435) (by decide +kernel)⟩
theorem lw_p2 : lw_okq (⟨"MovingBoxes$Term", "parsePart", "(II)V"⟩, 8) := ⟨⟨by decide +kernel, by decide +kernel⟩, List.mem_of_getElem? (i := 35) (by decide +kernel), List.mem_of_getElem? (i := 438) (by decide +kernel), List.mem_of_getElem? (i := 439) (by decide +kernel)⟩
theorem lw_p3 : lw_okq (⟨"MovingBoxes$Term", "peek", "()C"⟩, 8) := ⟨⟨by decide +kernel, by decide +kernel⟩, List.mem_of_getElem? (i := 35) (by decide +kernel), List.mem_of_getElem? (i := 444) (by decide +kernel), List.mem_of_getElem? (i := 445) (by decide +kernel)⟩
theorem lw_p4 : lw_okq (⟨"MovingBoxes$Term", "skip", "(C)V"⟩, 8) := ⟨⟨by decide +kernel, by decide +kernel⟩, List.mem_of_getElem? (i := 35) (by decide +kernel), List.mem_of_getElem? (i := 448) (by decide +kernel), List.mem_of_getElem? (i := 449) (by decide +kernel)⟩
theorem lw_p5 : lw_okq (⟨"MovingBoxes$Term", "parseMessage", "(I)V"⟩, 8) := ⟨⟨by decide +kernel, by decide +kernel⟩, List.mem_of_getElem? (i := 35) (by decide +kernel), List.mem_of_getElem? (i := 454) (by decide +kernel), List.mem_of_getElem? (i := 455) (by decide +kernel)⟩
theorem lw_p6 : lw_okq (⟨"MovingBoxes$Term", "addNode", "(IZ)I"⟩, 8) := ⟨⟨by decide +kernel, by decide +kernel⟩, List.mem_of_getElem? (i := 35) (by decide +kernel), List.mem_of_getElem? (i := 458) (by decide +kernel), List.mem_of_getElem? (i := 459) (by decide +kernel)⟩
theorem lw_p7 : lw_okq (⟨"MovingBoxes$Term", "parseName", "(I)C"⟩, 8) := ⟨⟨by decide +kernel, by decide +kernel⟩, List.mem_of_getElem? (i := 35) (by decide +kernel), List.mem_of_getElem? (i := 462) (by decide +kernel), List.mem_of_getElem? (i := 463) (by decide +kernel)⟩
theorem lw_p8 : lw_okq (⟨"MovingBoxes$Term", "parsePlace", "(II)V"⟩, 8) := ⟨⟨by decide +kernel, by decide +kernel⟩, List.mem_of_getElem? (i := 35) (by decide +kernel), List.mem_of_getElem? (i := 472) (by decide +kernel), List.mem_of_getElem? (i := 473) (by decide +kernel)⟩
theorem lw_p9 : lw_okq (⟨"MovingBoxes$Term", "parseGuard", "(II)V"⟩, 8) := ⟨⟨by decide +kernel, by decide +kernel⟩, List.mem_of_getElem? (i := 35) (by decide +kernel), List.mem_of_getElem? (i := 476) (by decide +kernel), List.mem_of_getElem? (i := 477) (by decide +kernel)⟩
theorem lw_p10 : lw_okq (⟨"MovingBoxes$Term", "parseLetter", "()C"⟩, 8) := ⟨⟨by decide +kernel, by decide +kernel⟩, List.mem_of_getElem? (i := 35) (by decide +kernel), List.mem_of_getElem? (i := 567) (by decide +kernel), List.mem_of_getElem? (i := 568) (by decide +kernel)⟩
theorem lw_p11 : lw_okq (⟨"MovingBoxes$State", "run", "(LMovingBoxes$Term;IIIII)V"⟩, 6) := ⟨⟨by decide +kernel, by decide +kernel⟩, List.mem_of_getElem? (i := 106) (by decide +kernel), List.mem_of_getElem? (i := 576) (by decide +kernel), List.mem_of_getElem? (i := 577) (by decide +kernel)⟩
theorem lw_p12 : lw_okq (⟨"MovingBoxes$State", "sort", "(I)LMovingBoxes$Things;"⟩, 6) := ⟨⟨by decide +kernel, by decide +kernel⟩, List.mem_of_getElem? (i := 106) (by decide +kernel), List.mem_of_getElem? (i := 583) (by decide +kernel), List.mem_of_getElem? (i := 584) (by decide +kernel)⟩
theorem lw_p13 : lw_okq (⟨"MovingBoxes$Teller", "tellPlace", "(LMovingBoxes$State;LMovingBoxes$Term;II)V"⟩, 7) := ⟨⟨by decide +kernel, by decide +kernel⟩, List.mem_of_getElem? (i := 78) (by decide +kernel), List.mem_of_getElem? (i := 600) (by decide +kernel), List.mem_of_getElem? (i := 601) (by decide +kernel)⟩
theorem lw_p14 : lw_okq (⟨"MovingBoxes$Teller", "put", "(C)V"⟩, 7) := ⟨⟨by decide +kernel, by decide +kernel⟩, List.mem_of_getElem? (i := 78) (by decide +kernel), List.mem_of_getElem? (i := 604) (by decide +kernel), List.mem_of_getElem? (i := 605) (by decide +kernel)⟩
theorem lw_p15 : lw_okq (⟨"MovingBoxes$Teller", "addPiece", "(II)V"⟩, 7) := ⟨⟨by decide +kernel, by decide +kernel⟩, List.mem_of_getElem? (i := 78) (by decide +kernel), List.mem_of_getElem? (i := 608) (by decide +kernel), List.mem_of_getElem? (i := 609) (by decide +kernel)⟩
def lw_privs_1 : List (MethodName × Nat) := [(⟨"java/lang/Throwable", "fillInStackTrace", "(I)Ljava/lang/Throwable;"⟩, 6), (⟨"MovingBoxes$Term", "parseProcess", "(II)V"⟩, 8), (⟨"MovingBoxes$Term", "parsePart", "(II)V"⟩, 8), (⟨"MovingBoxes$Term", "peek", "()C"⟩, 8), (⟨"MovingBoxes$Term", "skip", "(C)V"⟩, 8), (⟨"MovingBoxes$Term", "parseMessage", "(I)V"⟩, 8), (⟨"MovingBoxes$Term", "addNode", "(IZ)I"⟩, 8), (⟨"MovingBoxes$Term", "parseName", "(I)C"⟩, 8), (⟨"MovingBoxes$Term", "parsePlace", "(II)V"⟩, 8), (⟨"MovingBoxes$Term", "parseGuard", "(II)V"⟩, 8), (⟨"MovingBoxes$Term", "parseLetter", "()C"⟩, 8), (⟨"MovingBoxes$State", "run", "(LMovingBoxes$Term;IIIII)V"⟩, 6), (⟨"MovingBoxes$State", "sort", "(I)LMovingBoxes$Things;"⟩, 6), (⟨"MovingBoxes$Teller", "tellPlace", "(LMovingBoxes$State;LMovingBoxes$Term;II)V"⟩, 7), (⟨"MovingBoxes$Teller", "put", "(C)V"⟩, 7), (⟨"MovingBoxes$Teller", "addPiece", "(II)V"⟩, 7)]
theorem lw_r1 : ∀ q ∈ lw_privs_1, lw_okq q := List.forall_mem_cons.mpr ⟨lw_p0, List.forall_mem_cons.mpr ⟨lw_p1, List.forall_mem_cons.mpr ⟨lw_p2, List.forall_mem_cons.mpr ⟨lw_p3, List.forall_mem_cons.mpr ⟨lw_p4, List.forall_mem_cons.mpr ⟨lw_p5, List.forall_mem_cons.mpr ⟨lw_p6, List.forall_mem_cons.mpr ⟨lw_p7, List.forall_mem_cons.mpr ⟨lw_p8, List.forall_mem_cons.mpr ⟨lw_p9, List.forall_mem_cons.mpr ⟨lw_p10, List.forall_mem_cons.mpr ⟨lw_p11, List.forall_mem_cons.mpr ⟨lw_p12, List.forall_mem_cons.mpr ⟨lw_p13, List.forall_mem_cons.mpr ⟨lw_p14, List.forall_mem_cons.mpr ⟨lw_p15, fun _ h => absurd h List.not_mem_nil⟩⟩⟩⟩⟩⟩⟩⟩⟩⟩⟩⟩⟩⟩⟩⟩
theorem lw_p16 : lw_okq (⟨"MovingBoxes$Teller", "isBefore", "(IIII)Z"⟩, 7) := ⟨⟨by decide +kernel, by decide +kernel⟩, List.mem_of_getElem? (i := 78) (by decide +kernel), List.mem_of_getElem? (i := 612) (by decide +kernel), List.mem_of_getElem? (i := 613) (by decide +kernel)⟩
theorem lw_p17 : lw_okq (⟨"MovingBoxes$Teller", "tellNode", "(LMovingBoxes$Term;III)V"⟩, 7) := ⟨⟨by decide +kernel, by decide +kernel⟩, List.mem_of_getElem? (i := 78) (by decide +kernel), List.mem_of_getElem? (i := 617) (by decide +kernel), List.mem_of_getElem? (i := 618) (by decide +kernel)⟩
theorem lw_p18 : lw_okq (⟨"MovingBoxes$Teller", "putHead", "(LMovingBoxes$Term;II)V"⟩, 7) := ⟨⟨by decide +kernel, by decide +kernel⟩, List.mem_of_getElem? (i := 78) (by decide +kernel), List.mem_of_getElem? (i := 624) (by decide +kernel), List.mem_of_getElem? (i := 625) (by decide +kernel)⟩
theorem lw_p19 : lw_okq (⟨"MovingBoxes$Teller", "putName", "(CI)V"⟩, 7) := ⟨⟨by decide +kernel, by decide +kernel⟩, List.mem_of_getElem? (i := 78) (by decide +kernel), List.mem_of_getElem? (i := 628) (by decide +kernel), List.mem_of_getElem? (i := 629) (by decide +kernel)⟩
theorem lw_p20 : lw_okq (⟨"MovingBoxes$Teller", "join", "(IIZ)V"⟩, 7) := ⟨⟨by decide +kernel, by decide +kernel⟩, List.mem_of_getElem? (i := 78) (by decide +kernel), List.mem_of_getElem? (i := 655) (by decide +kernel), List.mem_of_getElem? (i := 656) (by decide +kernel)⟩
theorem lw_p21 : lw_okq (⟨"MovingBoxes$Teller", "copyOrdered", "(IZ)V"⟩, 7) := ⟨⟨by decide +kernel, by decide +kernel⟩, List.mem_of_getElem? (i := 78) (by decide +kernel), List.mem_of_getElem? (i := 659) (by decide +kernel), List.mem_of_getElem? (i := 660) (by decide +kernel)⟩
theorem lw_p22 : lw_okq (⟨"MovingBoxes", "goOn", "()V"⟩, 11) := ⟨⟨by decide +kernel, by decide +kernel⟩, List.mem_of_getElem? (i := 27) (by decide +kernel), List.mem_of_getElem? (i := 688) (by decide +kernel), List.mem_of_getElem? (i := 689) (by decide +kernel)⟩
theorem lw_p23 : lw_okq (⟨"MovingBoxes$Redexes", "findBeside", "(LMovingBoxes$State;I)V"⟩, 5) := ⟨⟨by decide +kernel, by decide +kernel⟩, List.mem_of_getElem? (i := 203) (by decide +kernel), List.mem_of_getElem? (i := 696) (by decide +kernel), List.mem_of_getElem? (i := 697) (by decide +kernel)⟩
theorem lw_p24 : lw_okq (⟨"MovingBoxes$Redexes", "add", "(III)V"⟩, 5) := ⟨⟨by decide +kernel, by decide +kernel⟩, List.mem_of_getElem? (i := 203) (by decide +kernel), List.mem_of_getElem? (i := 704) (by decide +kernel), List.mem_of_getElem? (i := 705) (by decide +kernel)⟩
theorem lw_p25 : lw_okq (⟨"MovingBoxes$Redexes", "findAround", "(LMovingBoxes$State;I)V"⟩, 5) := ⟨⟨by decide +kernel, by decide +kernel⟩, List.mem_of_getElem? (i := 203) (by decide +kernel), List.mem_of_getElem? (i := 708) (by decide +kernel), List.mem_of_getElem? (i := 709) (by decide +kernel)⟩
theorem lw_p26 : lw_okq (⟨"MovingBoxes$Redexes", "findInside", "(LMovingBoxes$State;I)V"⟩, 5) := ⟨⟨by decide +kernel, by decide +kernel⟩, List.mem_of_getElem? (i := 203) (by decide +kernel), List.mem_of_getElem? (i := 712) (by decide +kernel), List.mem_of_getElem? (i := 713) (by decide +kernel)⟩
theorem lw_p27 : lw_okq (⟨"MovingBoxes$Redexes", "findMessages", "(LMovingBoxes$State;I)V"⟩, 5) := ⟨⟨by decide +kernel, by decide +kernel⟩, List.mem_of_getElem? (i := 203) (by decide +kernel), List.mem_of_getElem? (i := 716) (by decide +kernel), List.mem_of_getElem? (i := 717) (by decide +kernel)⟩
theorem lw_p28 : lw_okq (⟨"MovingBoxes$Redexes", "compare", "(III)I"⟩, 5) := ⟨⟨by decide +kernel, by decide +kernel⟩, List.mem_of_getElem? (i := 203) (by decide +kernel), List.mem_of_getElem? (i := 724) (by decide +kernel), List.mem_of_getElem? (i := 725) (by decide +kernel)⟩
theorem lw_p29 : lw_okq (⟨"MovingBoxes", "stepped", "(I)Z"⟩, 11) := ⟨⟨by decide +kernel, by decide +kernel⟩, List.mem_of_getElem? (i := 27) (by decide +kernel), List.mem_of_getElem? (i := 765) (by decide +kernel), List.mem_of_getElem? (i := 766) (by decide +kernel)⟩
theorem lw_p30 : lw_okq (⟨"MovingBoxes$State", "react", "(LMovingBoxes$Term;II)V"⟩, 6) := ⟨⟨by decide +kernel, by decide +kernel⟩, List.mem_of_getElem? (i := 106) (by decide +kernel), List.mem_of_getElem? (i := 785) (by decide +kernel), List.mem_of_getElem? (i := 786) (by decide +kernel)⟩
theorem lw_p31 : lw_okq (⟨"MovingBoxes$State", "move", "(II)V"⟩, 6) := ⟨⟨by decide +kernel, by decide +kernel⟩, List.mem_of_getElem? (i := 106) (by decide +kernel), List.mem_of_getElem? (i := 793) (by decide +kernel), List.mem_of_getElem? (i := 794) (by decide +kernel)⟩
def lw_privs_2 : List (MethodName × Nat) := [(⟨"MovingBoxes$Teller", "isBefore", "(IIII)Z"⟩, 7), (⟨"MovingBoxes$Teller", "tellNode", "(LMovingBoxes$Term;III)V"⟩, 7), (⟨"MovingBoxes$Teller", "putHead", "(LMovingBoxes$Term;II)V"⟩, 7), (⟨"MovingBoxes$Teller", "putName", "(CI)V"⟩, 7), (⟨"MovingBoxes$Teller", "join", "(IIZ)V"⟩, 7), (⟨"MovingBoxes$Teller", "copyOrdered", "(IZ)V"⟩, 7), (⟨"MovingBoxes", "goOn", "()V"⟩, 11), (⟨"MovingBoxes$Redexes", "findBeside", "(LMovingBoxes$State;I)V"⟩, 5), (⟨"MovingBoxes$Redexes", "add", "(III)V"⟩, 5), (⟨"MovingBoxes$Redexes", "findAround", "(LMovingBoxes$State;I)V"⟩, 5), (⟨"MovingBoxes$Redexes", "findInside", "(LMovingBoxes$State;I)V"⟩, 5), (⟨"MovingBoxes$Redexes", "findMessages", "(LMovingBoxes$State;I)V"⟩, 5), (⟨"MovingBoxes$Redexes", "compare", "(III)I"⟩, 5), (⟨"MovingBoxes", "stepped", "(I)Z"⟩, 11), (⟨"MovingBoxes$State", "react", "(LMovingBoxes$Term;II)V"⟩, 6), (⟨"MovingBoxes$State", "move", "(II)V"⟩, 6)]
theorem lw_r2 : ∀ q ∈ lw_privs_2, lw_okq q := List.forall_mem_cons.mpr ⟨lw_p16, List.forall_mem_cons.mpr ⟨lw_p17, List.forall_mem_cons.mpr ⟨lw_p18, List.forall_mem_cons.mpr ⟨lw_p19, List.forall_mem_cons.mpr ⟨lw_p20, List.forall_mem_cons.mpr ⟨lw_p21, List.forall_mem_cons.mpr ⟨lw_p22, List.forall_mem_cons.mpr ⟨lw_p23, List.forall_mem_cons.mpr ⟨lw_p24, List.forall_mem_cons.mpr ⟨lw_p25, List.forall_mem_cons.mpr ⟨lw_p26, List.forall_mem_cons.mpr ⟨lw_p27, List.forall_mem_cons.mpr ⟨lw_p28, List.forall_mem_cons.mpr ⟨lw_p29, List.forall_mem_cons.mpr ⟨lw_p30, List.forall_mem_cons.mpr ⟨lw_p31, fun _ h => absurd h List.not_mem_nil⟩⟩⟩⟩⟩⟩⟩⟩⟩⟩⟩⟩⟩⟩⟩⟩
theorem lw_p32 : lw_okq (⟨"MovingBoxes$State", "placeOf", "(I)I"⟩, 6) := ⟨⟨by decide +kernel, by decide +kernel⟩, List.mem_of_getElem? (i := 106) (by decide +kernel), List.mem_of_getElem? (i := 797) (by decide +kernel), List.mem_of_getElem? (i := 798) (by decide +kernel)⟩
theorem lw_p33 : lw_okq (⟨"MovingBoxes$State", "dissolve", "(II)V"⟩, 6) := ⟨⟨by decide +kernel, by decide +kernel⟩, List.mem_of_getElem? (i := 106) (by decide +kernel), List.mem_of_getElem? (i := 801) (by decide +kernel), List.mem_of_getElem? (i := 802) (by decide +kernel)⟩
theorem lw_p34 : lw_okq (⟨"MovingBoxes$State", "receive", "(I)I"⟩, 6) := ⟨⟨by decide +kernel, by decide +kernel⟩, List.mem_of_getElem? (i := 106) (by decide +kernel), List.mem_of_getElem? (i := 809) (by decide +kernel), List.mem_of_getElem? (i := 810) (by decide +kernel)⟩
theorem lw_p35 : lw_okq (⟨"MovingBoxes$Explorer", "isNew", "(LMovingBoxes$State;)Z"⟩, 7) := ⟨⟨by decide +kernel, by decide +kernel⟩, List.mem_of_getElem? (i := 235) (by decide +kernel), List.mem_of_getElem? (i := 907) (by decide +kernel), List.mem_of_getElem? (i := 908) (by decide +kernel)⟩
theorem lw_p36 : lw_okq (⟨"MovingBoxesModel", "alone", "()V"⟩, 67) := ⟨⟨by decide +kernel, by decide +kernel⟩, List.mem_of_getElem? (i := 928) (by decide +kernel), List.mem_of_getElem? (i := 934) (by decide +kernel), List.mem_of_getElem? (i := 935) (by decide +kernel)⟩
theorem lw_p37 : lw_okq (⟨"MovingBoxesModel", "fail", "(I)I"⟩, 67) := ⟨⟨by decide +kernel, by decide +kernel⟩, List.mem_of_getElem? (i := 928) (by decide +kernel), List.mem_of_getElem? (i := 1152) (by decide +kernel), List.mem_of_getElem? (i := 1153) (by decide +kernel)⟩
theorem lw_p38 : lw_okq (⟨"MovingBoxesModel", "parse", "()V"⟩, 67) := ⟨⟨by decide +kernel, by decide +kernel⟩, List.mem_of_getElem? (i := 928) (by decide +kernel), List.mem_of_getElem? (i := 1165) (by decide +kernel), List.mem_of_getElem? (i := 1166) (by decide +kernel)⟩
theorem lw_p39 : lw_okq (⟨"MovingBoxesModel", "push", "(III)V"⟩, 67) := ⟨⟨by decide +kernel, by decide +kernel⟩, List.mem_of_getElem? (i := 928) (by decide +kernel), List.mem_of_getElem? (i := 1169) (by decide +kernel), List.mem_of_getElem? (i := 1170) (by decide +kernel)⟩
theorem lw_p40 : lw_okq (⟨"MovingBoxesModel", "part", "()Z"⟩, 67) := ⟨⟨by decide +kernel, by decide +kernel⟩, List.mem_of_getElem? (i := 928) (by decide +kernel), List.mem_of_getElem? (i := 1173) (by decide +kernel), List.mem_of_getElem? (i := 1174) (by decide +kernel)⟩
theorem lw_p41 : lw_okq (⟨"MovingBoxesModel", "wrong", "(I)V"⟩, 67) := ⟨⟨by decide +kernel, by decide +kernel⟩, List.mem_of_getElem? (i := 928) (by decide +kernel), List.mem_of_getElem? (i := 1177) (by decide +kernel), List.mem_of_getElem? (i := 1178) (by decide +kernel)⟩
theorem lw_p42 : lw_okq (⟨"MovingBoxesModel", "here", "()I"⟩, 67) := ⟨⟨by decide +kernel, by decide +kernel⟩, List.mem_of_getElem? (i := 928) (by decide +kernel), List.mem_of_getElem? (i := 1181) (by decide +kernel), List.mem_of_getElem? (i := 1182) (by decide +kernel)⟩
theorem lw_p43 : lw_okq (⟨"MovingBoxesModel", "node", "(IZ)I"⟩, 67) := ⟨⟨by decide +kernel, by decide +kernel⟩, List.mem_of_getElem? (i := 928) (by decide +kernel), List.mem_of_getElem? (i := 1185) (by decide +kernel), List.mem_of_getElem? (i := 1186) (by decide +kernel)⟩
theorem lw_p44 : lw_okq (⟨"MovingBoxesModel", "named", "()I"⟩, 67) := ⟨⟨by decide +kernel, by decide +kernel⟩, List.mem_of_getElem? (i := 928) (by decide +kernel), List.mem_of_getElem? (i := 1189) (by decide +kernel), List.mem_of_getElem? (i := 1190) (by decide +kernel)⟩
theorem lw_p45 : lw_okq (⟨"MovingBoxesModel", "guard", "(Z)V"⟩, 67) := ⟨⟨by decide +kernel, by decide +kernel⟩, List.mem_of_getElem? (i := 928) (by decide +kernel), List.mem_of_getElem? (i := 1196) (by decide +kernel), List.mem_of_getElem? (i := 1197) (by decide +kernel)⟩
theorem lw_p46 : lw_okq (⟨"MovingBoxesModel", "expect", "(I)V"⟩, 67) := ⟨⟨by decide +kernel, by decide +kernel⟩, List.mem_of_getElem? (i := 928) (by decide +kernel), List.mem_of_getElem? (i := 1200) (by decide +kernel), List.mem_of_getElem? (i := 1201) (by decide +kernel)⟩
theorem lw_p47 : lw_okq (⟨"MovingBoxesModel", "behind", "()Z"⟩, 67) := ⟨⟨by decide +kernel, by decide +kernel⟩, List.mem_of_getElem? (i := 928) (by decide +kernel), List.mem_of_getElem? (i := 1204) (by decide +kernel), List.mem_of_getElem? (i := 1205) (by decide +kernel)⟩
def lw_privs_3 : List (MethodName × Nat) := [(⟨"MovingBoxes$State", "placeOf", "(I)I"⟩, 6), (⟨"MovingBoxes$State", "dissolve", "(II)V"⟩, 6), (⟨"MovingBoxes$State", "receive", "(I)I"⟩, 6), (⟨"MovingBoxes$Explorer", "isNew", "(LMovingBoxes$State;)Z"⟩, 7), (⟨"MovingBoxesModel", "alone", "()V"⟩, 67), (⟨"MovingBoxesModel", "fail", "(I)I"⟩, 67), (⟨"MovingBoxesModel", "parse", "()V"⟩, 67), (⟨"MovingBoxesModel", "push", "(III)V"⟩, 67), (⟨"MovingBoxesModel", "part", "()Z"⟩, 67), (⟨"MovingBoxesModel", "wrong", "(I)V"⟩, 67), (⟨"MovingBoxesModel", "here", "()I"⟩, 67), (⟨"MovingBoxesModel", "node", "(IZ)I"⟩, 67), (⟨"MovingBoxesModel", "named", "()I"⟩, 67), (⟨"MovingBoxesModel", "guard", "(Z)V"⟩, 67), (⟨"MovingBoxesModel", "expect", "(I)V"⟩, 67), (⟨"MovingBoxesModel", "behind", "()Z"⟩, 67)]
theorem lw_r3 : ∀ q ∈ lw_privs_3, lw_okq q := List.forall_mem_cons.mpr ⟨lw_p32, List.forall_mem_cons.mpr ⟨lw_p33, List.forall_mem_cons.mpr ⟨lw_p34, List.forall_mem_cons.mpr ⟨lw_p35, List.forall_mem_cons.mpr ⟨lw_p36, List.forall_mem_cons.mpr ⟨lw_p37, List.forall_mem_cons.mpr ⟨lw_p38, List.forall_mem_cons.mpr ⟨lw_p39, List.forall_mem_cons.mpr ⟨lw_p40, List.forall_mem_cons.mpr ⟨lw_p41, List.forall_mem_cons.mpr ⟨lw_p42, List.forall_mem_cons.mpr ⟨lw_p43, List.forall_mem_cons.mpr ⟨lw_p44, List.forall_mem_cons.mpr ⟨lw_p45, List.forall_mem_cons.mpr ⟨lw_p46, List.forall_mem_cons.mpr ⟨lw_p47, fun _ h => absurd h List.not_mem_nil⟩⟩⟩⟩⟩⟩⟩⟩⟩⟩⟩⟩⟩⟩⟩⟩
theorem lw_p48 : lw_okq (⟨"MovingBoxesModel", "run", "(III)V"⟩, 67) := ⟨⟨by decide +kernel, by decide +kernel⟩, List.mem_of_getElem? (i := 928) (by decide +kernel), List.mem_of_getElem? (i := 1208) (by decide +kernel), List.mem_of_getElem? (i := 1209) (by decide +kernel)⟩
theorem lw_p49 : lw_okq (⟨"MovingBoxesModel", "resolved", "(II)I"⟩, 67) := ⟨⟨by decide +kernel, by decide +kernel⟩, List.mem_of_getElem? (i := 928) (by decide +kernel), List.mem_of_getElem? (i := 1212) (by decide +kernel), List.mem_of_getElem? (i := 1213) (by decide +kernel)⟩
theorem lw_p50 : lw_okq (⟨"MovingBoxesModel", "makePlace", "(II)I"⟩, 67) := ⟨⟨by decide +kernel, by decide +kernel⟩, List.mem_of_getElem? (i := 928) (by decide +kernel), List.mem_of_getElem? (i := 1216) (by decide +kernel), List.mem_of_getElem? (i := 1217) (by decide +kernel)⟩
theorem lw_p51 : lw_okq (⟨"MovingBoxesModel", "makeMessage", "(II)V"⟩, 67) := ⟨⟨by decide +kernel, by decide +kernel⟩, List.mem_of_getElem? (i := 928) (by decide +kernel), List.mem_of_getElem? (i := 1220) (by decide +kernel), List.mem_of_getElem? (i := 1221) (by decide +kernel)⟩
theorem lw_p52 : lw_okq (⟨"MovingBoxesModel", "makeGuard", "(III)V"⟩, 67) := ⟨⟨by decide +kernel, by decide +kernel⟩, List.mem_of_getElem? (i := 928) (by decide +kernel), List.mem_of_getElem? (i := 1224) (by decide +kernel), List.mem_of_getElem? (i := 1225) (by decide +kernel)⟩
theorem lw_p53 : lw_okq (⟨"MovingBoxesModel", "describe", "()V"⟩, 67) := ⟨⟨by decide +kernel, by decide +kernel⟩, List.mem_of_getElem? (i := 928) (by decide +kernel), List.mem_of_getElem? (i := 1228) (by decide +kernel), List.mem_of_getElem? (i := 1229) (by decide +kernel)⟩
theorem lw_p54 : lw_okq (⟨"MovingBoxesModel", "frame", "(IIII)V"⟩, 67) := ⟨⟨by decide +kernel, by decide +kernel⟩, List.mem_of_getElem? (i := 928) (by decide +kernel), List.mem_of_getElem? (i := 1232) (by decide +kernel), List.mem_of_getElem? (i := 1233) (by decide +kernel)⟩
theorem lw_p55 : lw_okq (⟨"MovingBoxesModel", "placeStep", "(I)V"⟩, 67) := ⟨⟨by decide +kernel, by decide +kernel⟩, List.mem_of_getElem? (i := 928) (by decide +kernel), List.mem_of_getElem? (i := 1236) (by decide +kernel), List.mem_of_getElem? (i := 1237) (by decide +kernel)⟩
theorem lw_p56 : lw_okq (⟨"MovingBoxesModel", "begin", "()V"⟩, 67) := ⟨⟨by decide +kernel, by decide +kernel⟩, List.mem_of_getElem? (i := 928) (by decide +kernel), List.mem_of_getElem? (i := 1240) (by decide +kernel), List.mem_of_getElem? (i := 1241) (by decide +kernel)⟩
theorem lw_p57 : lw_okq (⟨"MovingBoxesModel", "letterOf", "(I)V"⟩, 67) := ⟨⟨by decide +kernel, by decide +kernel⟩, List.mem_of_getElem? (i := 928) (by decide +kernel), List.mem_of_getElem? (i := 1244) (by decide +kernel), List.mem_of_getElem? (i := 1245) (by decide +kernel)⟩
theorem lw_p58 : lw_okq (⟨"MovingBoxesModel", "character", "(I)V"⟩, 67) := ⟨⟨by decide +kernel, by decide +kernel⟩, List.mem_of_getElem? (i := 928) (by decide +kernel), List.mem_of_getElem? (i := 1248) (by decide +kernel), List.mem_of_getElem? (i := 1249) (by decide +kernel)⟩
theorem lw_p59 : lw_okq (⟨"MovingBoxesModel", "head", "()V"⟩, 67) := ⟨⟨by decide +kernel, by decide +kernel⟩, List.mem_of_getElem? (i := 928) (by decide +kernel), List.mem_of_getElem? (i := 1252) (by decide +kernel), List.mem_of_getElem? (i := 1253) (by decide +kernel)⟩
theorem lw_p60 : lw_okq (⟨"MovingBoxesModel", "guardText", "(III)V"⟩, 67) := ⟨⟨by decide +kernel, by decide +kernel⟩, List.mem_of_getElem? (i := 928) (by decide +kernel), List.mem_of_getElem? (i := 1256) (by decide +kernel), List.mem_of_getElem? (i := 1257) (by decide +kernel)⟩
theorem lw_p61 : lw_okq (⟨"MovingBoxesModel", "nameText", "(III)V"⟩, 67) := ⟨⟨by decide +kernel, by decide +kernel⟩, List.mem_of_getElem? (i := 928) (by decide +kernel), List.mem_of_getElem? (i := 1260) (by decide +kernel), List.mem_of_getElem? (i := 1261) (by decide +kernel)⟩
theorem lw_p62 : lw_okq (⟨"MovingBoxesModel", "simple", "(III)V"⟩, 67) := ⟨⟨by decide +kernel, by decide +kernel⟩, List.mem_of_getElem? (i := 928) (by decide +kernel), List.mem_of_getElem? (i := 1264) (by decide +kernel), List.mem_of_getElem? (i := 1265) (by decide +kernel)⟩
theorem lw_p63 : lw_okq (⟨"MovingBoxesModel", "join", "(II)V"⟩, 67) := ⟨⟨by decide +kernel, by decide +kernel⟩, List.mem_of_getElem? (i := 928) (by decide +kernel), List.mem_of_getElem? (i := 1268) (by decide +kernel), List.mem_of_getElem? (i := 1269) (by decide +kernel)⟩
def lw_privs_4 : List (MethodName × Nat) := [(⟨"MovingBoxesModel", "run", "(III)V"⟩, 67), (⟨"MovingBoxesModel", "resolved", "(II)I"⟩, 67), (⟨"MovingBoxesModel", "makePlace", "(II)I"⟩, 67), (⟨"MovingBoxesModel", "makeMessage", "(II)V"⟩, 67), (⟨"MovingBoxesModel", "makeGuard", "(III)V"⟩, 67), (⟨"MovingBoxesModel", "describe", "()V"⟩, 67), (⟨"MovingBoxesModel", "frame", "(IIII)V"⟩, 67), (⟨"MovingBoxesModel", "placeStep", "(I)V"⟩, 67), (⟨"MovingBoxesModel", "begin", "()V"⟩, 67), (⟨"MovingBoxesModel", "letterOf", "(I)V"⟩, 67), (⟨"MovingBoxesModel", "character", "(I)V"⟩, 67), (⟨"MovingBoxesModel", "head", "()V"⟩, 67), (⟨"MovingBoxesModel", "guardText", "(III)V"⟩, 67), (⟨"MovingBoxesModel", "nameText", "(III)V"⟩, 67), (⟨"MovingBoxesModel", "simple", "(III)V"⟩, 67), (⟨"MovingBoxesModel", "join", "(II)V"⟩, 67)]
theorem lw_r4 : ∀ q ∈ lw_privs_4, lw_okq q := List.forall_mem_cons.mpr ⟨lw_p48, List.forall_mem_cons.mpr ⟨lw_p49, List.forall_mem_cons.mpr ⟨lw_p50, List.forall_mem_cons.mpr ⟨lw_p51, List.forall_mem_cons.mpr ⟨lw_p52, List.forall_mem_cons.mpr ⟨lw_p53, List.forall_mem_cons.mpr ⟨lw_p54, List.forall_mem_cons.mpr ⟨lw_p55, List.forall_mem_cons.mpr ⟨lw_p56, List.forall_mem_cons.mpr ⟨lw_p57, List.forall_mem_cons.mpr ⟨lw_p58, List.forall_mem_cons.mpr ⟨lw_p59, List.forall_mem_cons.mpr ⟨lw_p60, List.forall_mem_cons.mpr ⟨lw_p61, List.forall_mem_cons.mpr ⟨lw_p62, List.forall_mem_cons.mpr ⟨lw_p63, fun _ h => absurd h List.not_mem_nil⟩⟩⟩⟩⟩⟩⟩⟩⟩⟩⟩⟩⟩⟩⟩⟩
theorem lw_p64 : lw_okq (⟨"MovingBoxesModel", "before", "(II)Z"⟩, 67) := ⟨⟨by decide +kernel, by decide +kernel⟩, List.mem_of_getElem? (i := 928) (by decide +kernel), List.mem_of_getElem? (i := 1272) (by decide +kernel), List.mem_of_getElem? (i := 1273) (by decide +kernel)⟩
theorem lw_p65 : lw_okq (⟨"MovingBoxesModel", "copied", "(II)I"⟩, 67) := ⟨⟨by decide +kernel, by decide +kernel⟩, List.mem_of_getElem? (i := 928) (by decide +kernel), List.mem_of_getElem? (i := 1276) (by decide +kernel), List.mem_of_getElem? (i := 1277) (by decide +kernel)⟩
theorem lw_p66 : lw_okq (⟨"MovingBoxesModel", "partStep", "(I)V"⟩, 67) := ⟨⟨by decide +kernel, by decide +kernel⟩, List.mem_of_getElem? (i := 928) (by decide +kernel), List.mem_of_getElem? (i := 1280) (by decide +kernel), List.mem_of_getElem? (i := 1281) (by decide +kernel)⟩
theorem lw_p67 : lw_okq (⟨"MovingBoxesModel", "settle", "()V"⟩, 67) := ⟨⟨by decide +kernel, by decide +kernel⟩, List.mem_of_getElem? (i := 928) (by decide +kernel), List.mem_of_getElem? (i := 1284) (by decide +kernel), List.mem_of_getElem? (i := 1285) (by decide +kernel)⟩
theorem lw_p68 : lw_okq (⟨"MovingBoxesModel", "otherNumber", "(I)I"⟩, 67) := ⟨⟨by decide +kernel, by decide +kernel⟩, List.mem_of_getElem? (i := 928) (by decide +kernel), List.mem_of_getElem? (i := 1288) (by decide +kernel), List.mem_of_getElem? (i := 1289) (by decide +kernel)⟩
theorem lw_p69 : lw_okq (⟨"MovingBoxesModel", "isRedex", "(II)Z"⟩, 67) := ⟨⟨by decide +kernel, by decide +kernel⟩, List.mem_of_getElem? (i := 928) (by decide +kernel), List.mem_of_getElem? (i := 1292) (by decide +kernel), List.mem_of_getElem? (i := 1293) (by decide +kernel)⟩
theorem lw_p70 : lw_okq (⟨"MovingBoxesModel", "search", "(I)I"⟩, 67) := ⟨⟨by decide +kernel, by decide +kernel⟩, List.mem_of_getElem? (i := 928) (by decide +kernel), List.mem_of_getElem? (i := 1300) (by decide +kernel), List.mem_of_getElem? (i := 1301) (by decide +kernel)⟩
theorem lw_p71 : lw_okq (⟨"MovingBoxesModel", "guardBehind", "(I)I"⟩, 67) := ⟨⟨by decide +kernel, by decide +kernel⟩, List.mem_of_getElem? (i := 928) (by decide +kernel), List.mem_of_getElem? (i := 1304) (by decide +kernel), List.mem_of_getElem? (i := 1305) (by decide +kernel)⟩
theorem lw_p72 : lw_okq (⟨"MovingBoxesModel", "otherBehind", "(I)I"⟩, 67) := ⟨⟨by decide +kernel, by decide +kernel⟩, List.mem_of_getElem? (i := 928) (by decide +kernel), List.mem_of_getElem? (i := 1308) (by decide +kernel), List.mem_of_getElem? (i := 1309) (by decide +kernel)⟩
theorem lw_p73 : lw_okq (⟨"MovingBoxesModel", "step", "()Z"⟩, 67) := ⟨⟨by decide +kernel, by decide +kernel⟩, List.mem_of_getElem? (i := 928) (by decide +kernel), List.mem_of_getElem? (i := 1320) (by decide +kernel), List.mem_of_getElem? (i := 1321) (by decide +kernel)⟩
theorem lw_p74 : lw_okq (⟨"MovingBoxesModel", "save", "(I)V"⟩, 67) := ⟨⟨by decide +kernel, by decide +kernel⟩, List.mem_of_getElem? (i := 928) (by decide +kernel), List.mem_of_getElem? (i := 1324) (by decide +kernel), List.mem_of_getElem? (i := 1325) (by decide +kernel)⟩
theorem lw_p75 : lw_okq (⟨"MovingBoxesModel", "make", "()V"⟩, 67) := ⟨⟨by decide +kernel, by decide +kernel⟩, List.mem_of_getElem? (i := 928) (by decide +kernel), List.mem_of_getElem? (i := 1328) (by decide +kernel), List.mem_of_getElem? (i := 1329) (by decide +kernel)⟩
theorem lw_p76 : lw_okq (⟨"MovingBoxesModel", "load", "(I)V"⟩, 67) := ⟨⟨by decide +kernel, by decide +kernel⟩, List.mem_of_getElem? (i := 928) (by decide +kernel), List.mem_of_getElem? (i := 1332) (by decide +kernel), List.mem_of_getElem? (i := 1333) (by decide +kernel)⟩
theorem lw_p77 : lw_okq (⟨"MovingBoxesModel", "eight", "(I)J"⟩, 67) := ⟨⟨by decide +kernel, by decide +kernel⟩, List.mem_of_getElem? (i := 928) (by decide +kernel), List.mem_of_getElem? (i := 1352) (by decide +kernel), List.mem_of_getElem? (i := 1353) (by decide +kernel)⟩
theorem lw_p78 : lw_okq (⟨"MovingBoxesModel", "shape", "(II)Z"⟩, 67) := ⟨⟨by decide +kernel, by decide +kernel⟩, List.mem_of_getElem? (i := 928) (by decide +kernel), List.mem_of_getElem? (i := 1364) (by decide +kernel), List.mem_of_getElem? (i := 1365) (by decide +kernel)⟩
theorem lw_p79 : lw_okq (⟨"MovingBoxesModel", "find", "(III)V"⟩, 67) := ⟨⟨by decide +kernel, by decide +kernel⟩, List.mem_of_getElem? (i := 928) (by decide +kernel), List.mem_of_getElem? (i := 1372) (by decide +kernel), List.mem_of_getElem? (i := 1373) (by decide +kernel)⟩
def lw_privs_5 : List (MethodName × Nat) := [(⟨"MovingBoxesModel", "before", "(II)Z"⟩, 67), (⟨"MovingBoxesModel", "copied", "(II)I"⟩, 67), (⟨"MovingBoxesModel", "partStep", "(I)V"⟩, 67), (⟨"MovingBoxesModel", "settle", "()V"⟩, 67), (⟨"MovingBoxesModel", "otherNumber", "(I)I"⟩, 67), (⟨"MovingBoxesModel", "isRedex", "(II)Z"⟩, 67), (⟨"MovingBoxesModel", "search", "(I)I"⟩, 67), (⟨"MovingBoxesModel", "guardBehind", "(I)I"⟩, 67), (⟨"MovingBoxesModel", "otherBehind", "(I)I"⟩, 67), (⟨"MovingBoxesModel", "step", "()Z"⟩, 67), (⟨"MovingBoxesModel", "save", "(I)V"⟩, 67), (⟨"MovingBoxesModel", "make", "()V"⟩, 67), (⟨"MovingBoxesModel", "load", "(I)V"⟩, 67), (⟨"MovingBoxesModel", "eight", "(I)J"⟩, 67), (⟨"MovingBoxesModel", "shape", "(II)Z"⟩, 67), (⟨"MovingBoxesModel", "find", "(III)V"⟩, 67)]
theorem lw_r5 : ∀ q ∈ lw_privs_5, lw_okq q := List.forall_mem_cons.mpr ⟨lw_p64, List.forall_mem_cons.mpr ⟨lw_p65, List.forall_mem_cons.mpr ⟨lw_p66, List.forall_mem_cons.mpr ⟨lw_p67, List.forall_mem_cons.mpr ⟨lw_p68, List.forall_mem_cons.mpr ⟨lw_p69, List.forall_mem_cons.mpr ⟨lw_p70, List.forall_mem_cons.mpr ⟨lw_p71, List.forall_mem_cons.mpr ⟨lw_p72, List.forall_mem_cons.mpr ⟨lw_p73, List.forall_mem_cons.mpr ⟨lw_p74, List.forall_mem_cons.mpr ⟨lw_p75, List.forall_mem_cons.mpr ⟨lw_p76, List.forall_mem_cons.mpr ⟨lw_p77, List.forall_mem_cons.mpr ⟨lw_p78, List.forall_mem_cons.mpr ⟨lw_p79, fun _ h => absurd h List.not_mem_nil⟩⟩⟩⟩⟩⟩⟩⟩⟩⟩⟩⟩⟩⟩⟩⟩
def lw_privs : List (MethodName × Nat) := lw_privs_1 ++ (lw_privs_2 ++ (lw_privs_3 ++ (lw_privs_4 ++ (lw_privs_5))))
def lw_tbl : List Cond := k2_sels lw_privs ++ tables_1
theorem lw_privs_ok : ∀ q ∈ lw_privs, lw_okq q := by
  show ∀ q ∈ lw_privs_1 ++ (lw_privs_2 ++ (lw_privs_3 ++ (lw_privs_4 ++ (lw_privs_5)))), lw_okq q
  exact List.forall_mem_append.mpr ⟨lw_r1, List.forall_mem_append.mpr ⟨lw_r2, List.forall_mem_append.mpr ⟨lw_r3, List.forall_mem_append.mpr ⟨lw_r4, lw_r5⟩⟩⟩⟩
end
section
/-! The program's tables: a method's code, locals, class; a class's links. Written by wip/whole/gen/mktab.py. -/
def tBc : Nat → ByteArray := fun j => match j with
  | 0 => prog_1_method_1_code
  | 1 => prog_1_method_3_code
  | 2 => prog_1_method_5_code
  | 3 => prog_1_method_2_code
  | 4 => prog_1_method_17_code
  | 5 => prog_1_method_16_code
  | 6 => prog_1_method_4_code
  | 7 => prog_1_method_22_code
  | 8 => prog_1_method_23_code
  | 9 => prog_1_method_21_code
  | 10 => prog_1_method_6_code
  | 11 => prog_1_method_7_code
  | 12 => prog_1_method_20_code
  | 13 => prog_1_method_8_code
  | 14 => prog_1_method_9_code
  | 15 => prog_1_method_10_code
  | 16 => prog_1_method_11_code
  | 17 => prog_1_method_18_code
  | 18 => prog_1_method_12_code
  | 19 => prog_1_method_13_code
  | 20 => prog_1_method_19_code
  | 21 => prog_1_method_14_code
  | 22 => prog_1_method_15_code
  | 23 => prog_2_method_1_code
  | 24 => prog_2_method_2_code
  | 25 => prog_2_method_3_code
  | 26 => prog_2_method_4_code
  | 27 => prog_2_method_5_code
  | 28 => prog_2_method_6_code
  | 29 => prog_3_method_1_code
  | 30 => prog_3_method_2_code
  | 31 => prog_3_method_3_code
  | 32 => prog_4_method_1_code
  | 33 => prog_4_method_2_code
  | 34 => prog_4_method_4_code
  | 35 => prog_4_method_5_code
  | 36 => prog_4_method_9_code
  | 37 => prog_4_method_6_code
  | 38 => prog_4_method_7_code
  | 39 => prog_4_method_8_code
  | 40 => prog_4_method_10_code
  | 41 => prog_4_method_11_code
  | 42 => prog_4_method_3_code
  | 43 => prog_4_method_12_code
  | 44 => prog_5_method_1_code
  | 45 => prog_5_method_2_code
  | 46 => prog_5_method_4_code
  | 47 => prog_5_method_11_code
  | 48 => prog_5_method_12_code
  | 49 => prog_5_method_5_code
  | 50 => prog_5_method_3_code
  | 51 => prog_5_method_6_code
  | 52 => prog_5_method_8_code
  | 53 => prog_5_method_7_code
  | 54 => prog_5_method_9_code
  | 55 => prog_5_method_10_code
  | 56 => prog_5_method_13_code
  | 57 => prog_6_method_1_code
  | 58 => prog_6_method_2_code
  | 59 => prog_6_method_3_code
  | 60 => prog_6_method_7_code
  | 61 => prog_6_method_8_code
  | 62 => prog_6_method_9_code
  | 63 => prog_6_method_4_code
  | 64 => prog_6_method_5_code
  | 65 => prog_6_method_6_code
  | 66 => prog_6_method_10_code
  | 67 => prog_6_method_11_code
  | 68 => prog_7_method_1_code
  | 69 => prog_7_method_3_code
  | 70 => prog_7_method_4_code
  | 71 => prog_7_method_5_code
  | 72 => prog_7_method_14_code
  | 73 => prog_7_method_15_code
  | 74 => prog_7_method_6_code
  | 75 => prog_7_method_13_code
  | 76 => prog_7_method_9_code
  | 77 => prog_7_method_11_code
  | 78 => prog_7_method_12_code
  | 79 => prog_7_method_7_code
  | 80 => prog_7_method_8_code
  | 81 => prog_7_method_10_code
  | 82 => prog_7_method_2_code
  | 83 => prog_8_method_1_code
  | 84 => prog_8_method_3_code
  | 85 => prog_8_method_5_code
  | 86 => prog_8_method_2_code
  | 87 => prog_8_method_4_code
  | 88 => prog_8_method_6_code
  | 89 => prog_10_method_1_code
  | 90 => prog_10_method_18_code
  | 91 => prog_10_method_2_code
  | 92 => prog_10_method_6_code
  | 93 => prog_10_method_4_code
  | 94 => prog_10_method_3_code
  | 95 => prog_10_method_7_code
  | 96 => prog_10_method_49_code
  | 97 => prog_10_method_17_code
  | 98 => prog_10_method_11_code
  | 99 => prog_10_method_15_code
  | 100 => prog_10_method_5_code
  | 101 => prog_10_method_8_code
  | 102 => prog_10_method_9_code
  | 103 => prog_10_method_10_code
  | 104 => prog_10_method_13_code
  | 105 => prog_10_method_14_code
  | 106 => prog_10_method_12_code
  | 107 => prog_10_method_16_code
  | 108 => prog_10_method_24_code
  | 109 => prog_10_method_20_code
  | 110 => prog_10_method_21_code
  | 111 => prog_10_method_23_code
  | 112 => prog_10_method_22_code
  | 113 => prog_10_method_38_code
  | 114 => prog_10_method_27_code
  | 115 => prog_10_method_36_code
  | 116 => prog_10_method_28_code
  | 117 => prog_10_method_26_code
  | 118 => prog_10_method_25_code
  | 119 => prog_10_method_32_code
  | 120 => prog_10_method_33_code
  | 121 => prog_10_method_34_code
  | 122 => prog_10_method_35_code
  | 123 => prog_10_method_30_code
  | 124 => prog_10_method_29_code
  | 125 => prog_10_method_31_code
  | 126 => prog_10_method_37_code
  | 127 => prog_10_method_44_code
  | 128 => prog_10_method_39_code
  | 129 => prog_10_method_40_code
  | 130 => prog_10_method_51_code
  | 131 => prog_10_method_43_code
  | 132 => prog_10_method_41_code
  | 133 => prog_10_method_42_code
  | 134 => prog_10_method_52_code
  | 135 => prog_10_method_53_code
  | 136 => prog_10_method_50_code
  | 137 => prog_10_method_46_code
  | 138 => prog_10_method_45_code
  | 139 => prog_10_method_47_code
  | 140 => prog_10_method_54_code
  | 141 => prog_10_method_55_code
  | 142 => prog_10_method_56_code
  | 143 => prog_10_method_57_code
  | 144 => prog_10_method_48_code
  | 145 => prog_10_method_58_code
  | 146 => prog_10_method_60_code
  | 147 => prog_10_method_59_code
  | 148 => prog_10_method_62_code
  | 149 => prog_10_method_61_code
  | 150 => prog_10_method_63_code
  | 151 => method_3_code
  | 152 => method_4_code
  | 153 => method_5_code
  | 154 => method_6_code
  | 155 => method_7_code
  | 156 => method_8_code
  | 157 => method_9_code
  | 158 => method_10_code
  | 159 => method_11_code
  | 160 => method_12_code
  | 161 => method_13_code
  | 162 => method_14_code
  | 163 => prog_17_method_65_code
  | 164 => prog_17_method_69_code
  | 165 => prog_16_method_40_code
  | _ => code
def tMxL : List Nat := [2, 2, 1, 5, 5, 3, 1, 2, 4, 3, 3, 2, 2, 3, 2, 2, 2, 1, 2, 3, 1, 4, 2, 2, 1, 8, 3, 4, 1, 1, 3, 3, 1, 1, 5, 6, 4, 6, 5, 5, 6, 4, 2, 3, 1, 1, 2, 10, 2, 5, 2, 7, 4, 3, 3, 4, 5, 1, 3, 9, 2, 4, 7, 12, 5, 4, 6, 5, 1, 4, 3, 4, 1, 2, 3, 4, 4, 1, 1, 4, 7, 2, 2, 2, 6, 3, 2, 3, 4, 1, 2, 1, 6, 3, 2, 2, 1, 2, 4, 3, 2, 1, 5, 3, 1, 5, 2, 4, 7, 3, 4, 4, 5, 1, 5, 5, 1, 2, 2, 1, 4, 5, 4, 8, 6, 3, 5, 5, 2, 5, 1, 8, 4, 4, 3, 2, 1, 4, 7, 4, 3, 4, 2, 3, 5, 4, 3, 5, 6, 7, 2, 6, 3, 5, 4, 4, 4, 4, 4, 4, 5, 6, 4, 2, 2, 2, maxLocals]
def tMx (j : Nat) : Nat := tMxL.getD j 0
def tOwL : List Nat := [0, 0, 0, 0, 0, 0, 0, 0, 0, 0, 0, 0, 0, 0, 0, 0, 0, 0, 0, 0, 0, 0, 0, 1, 1, 1, 1, 1, 1, 2, 2, 2, 3, 3, 3, 3, 3, 3, 3, 3, 3, 3, 3, 3, 4, 4, 4, 4, 4, 4, 4, 4, 4, 4, 4, 4, 4, 5, 5, 5, 5, 5, 5, 5, 5, 5, 5, 5, 6, 6, 6, 6, 6, 6, 6, 6, 6, 6, 6, 6, 6, 6, 6, 7, 7, 7, 7, 7, 7, 8, 8, 8, 8, 8, 8, 8, 8, 8, 8, 8, 8, 8, 8, 8, 8, 8, 8, 8, 8, 8, 8, 8, 8, 8, 8, 8, 8, 8, 8, 8, 8, 8, 8, 8, 8, 8, 8, 8, 8, 8, 8, 8, 8, 8, 8, 8, 8, 8, 8, 8, 8, 8, 8, 8, 8, 8, 8, 8, 8, 8, 8, 9, 9, 9, 9, 9, 9, 9, 9, 9, 9, 9, 9, 10, 10, 11, 9]
def tOw (j : Nat) : Nat := tOwL.getD j 99
def lk2 {α : Type} (l : List (Nat × (Nat × α))) (a b : Nat) : Option α := match l with
  | [] => none
  | (x, (y, v)) :: t => if x = a ∧ y = b then some v else lk2 t a b
def tLfL : List (Nat × (Nat × (Nat × (Nat × Nat)))) := [(0, (9, (0, (0, 2)))), (0, (16, (0, (2, 2)))), (0, (23, (0, (3, 2)))), (0, (30, (0, (4, 2)))), (0, (34, (0, (5, 2)))), (0, (40, (0, (6, 2)))), (0, (44, (0, (7, 2)))), (0, (49, (0, (9, 2)))), (0, (56, (0, (10, 2)))), (0, (71, (0, (1, 0)))), (0, (83, (0, (8, 0)))), (0, (107, (6, (4, 0)))), (0, (110, (3, (4, 0)))), (0, (118, (3, (0, 2)))), (0, (122, (3, (1, 2)))), (0, (125, (3, (2, 2)))), (0, (128, (3, (3, 2)))), (0, (138, (4, (0, 2)))), (0, (142, (7, (5, 0)))), (0, (145, (4, (1, 2)))), (0, (148, (4, (2, 2)))), (0, (151, (4, (4, 0)))), (0, (154, (4, (3, 2)))), (0, (158, (2, (1, 0)))), (0, (161, (2, (0, 2)))), (0, (192, (1, (3, 0)))), (0, (193, (1, (4, 3)))), (0, (197, (1, (5, 0)))), (0, (200, (1, (6, 0)))), (1, (11, (1, (0, 2)))), (1, (17, (1, (1, 2)))), (1, (24, (1, (2, 2)))), (1, (28, (1, (6, 0)))), (1, (33, (1, (3, 0)))), (1, (36, (1, (4, 3)))), (1, (40, (1, (5, 0)))), (1, (54, (3, (4, 0)))), (1, (69, (4, (3, 2)))), (2, (9, (2, (0, 2)))), (2, (21, (2, (1, 0)))), (3, (9, (3, (0, 2)))), (3, (15, (3, (1, 2)))), (3, (18, (3, (2, 2)))), (3, (21, (3, (3, 2)))), (3, (24, (3, (4, 0)))), (3, (28, (4, (1, 2)))), (3, (34, (7, (5, 0)))), (3, (37, (6, (0, 2)))), (3, (40, (7, (3, 2)))), (3, (56, (4, (0, 2)))), (3, (59, (7, (1, 2)))), (3, (66, (7, (2, 2)))), (3, (69, (7, (0, 2)))), (3, (76, (4, (2, 2)))), (4, (14, (4, (0, 2)))), (4, (20, (4, (1, 2)))), (4, (23, (4, (2, 2)))), (4, (29, (4, (3, 2)))), (4, (33, (7, (5, 0)))), (4, (37, (4, (4, 0)))), (4, (40, (4, (5, 3)))), (4, (44, (2, (0, 2)))), (4, (48, (2, (1, 0)))), (4, (62, (6, (4, 0)))), (4, (72, (3, (1, 2)))), (4, (82, (3, (2, 2)))), (4, (89, (7, (3, 2)))), (4, (92, (7, (1, 2)))), (4, (95, (7, (4, 2)))), (4, (98, (6, (2, 2)))), (4, (105, (6, (0, 2)))), (4, (118, (6, (1, 2)))), (4, (134, (7, (2, 2)))), (5, (9, (5, (0, 2)))), (5, (15, (5, (1, 2)))), (5, (18, (5, (3, 2)))), (5, (22, (5, (4, 2)))), (5, (25, (5, (2, 0)))), (5, (29, (5, (5, 0)))), (5, (32, (5, (6, 3)))), (5, (40, (4, (3, 2)))), (5, (52, (4, (0, 2)))), (5, (56, (7, (5, 0)))), (5, (61, (7, (1, 2)))), (5, (64, (7, (2, 2)))), (5, (71, (7, (0, 2)))), (5, (78, (4, (1, 2)))), (5, (81, (7, (3, 2)))), (5, (84, (7, (4, 2)))), (5, (91, (4, (2, 2)))), (5, (98, (6, (0, 2)))), (5, (103, (6, (1, 2)))), (5, (121, (6, (2, 2)))), (6, (9, (6, (0, 2)))), (6, (15, (6, (1, 2)))), (6, (19, (6, (2, 2)))), (6, (23, (6, (3, 2)))), (6, (26, (6, (5, 2)))), (6, (35, (6, (6, 0)))), (6, (39, (6, (4, 0)))), (6, (42, (6, (7, 0)))), (7, (9, (7, (0, 2)))), (7, (15, (7, (1, 2)))), (7, (18, (7, (2, 2)))), (7, (21, (7, (3, 2)))), (7, (24, (7, (4, 2)))), (7, (27, (7, (5, 0)))), (8, (7, (8, (3, 2)))), (8, (13, (8, (7, 2)))), (8, (16, (8, (8, 2)))), (8, (19, (8, (9, 2)))), (8, (23, (8, (10, 2)))), (8, (26, (8, (11, 2)))), (8, (29, (8, (12, 2)))), (8, (32, (8, (13, 2)))), (8, (35, (8, (15, 2)))), (8, (38, (8, (16, 2)))), (8, (41, (8, (17, 2)))), (8, (44, (8, (18, 2)))), (8, (47, (8, (19, 2)))), (8, (50, (8, (20, 2)))), (8, (53, (8, (21, 2)))), (8, (56, (8, (22, 2)))), (8, (59, (8, (23, 2)))), (8, (62, (8, (24, 2)))), (8, (65, (8, (25, 2)))), (8, (68, (8, (26, 2)))), (8, (71, (8, (27, 2)))), (8, (74, (8, (31, 2)))), (8, (77, (8, (32, 2)))), (8, (80, (8, (33, 2)))), (8, (83, (8, (35, 2)))), (8, (86, (8, (36, 2)))), (8, (89, (8, (40, 2)))), (8, (92, (8, (41, 2)))), (8, (95, (8, (42, 2)))), (8, (98, (8, (43, 2)))), (8, (101, (8, (44, 2)))), (8, (104, (8, (45, 2)))), (8, (107, (8, (46, 2)))), (8, (110, (8, (47, 2)))), (8, (113, (8, (50, 2)))), (8, (116, (8, (51, 2)))), (8, (120, (8, (59, 2)))), (8, (123, (8, (60, 2)))), (8, (126, (8, (61, 2)))), (8, (129, (8, (62, 2)))), (8, (132, (8, (63, 2)))), (8, (135, (8, (64, 2)))), (8, (141, (8, (0, 0)))), (8, (145, (8, (1, 0)))), (8, (158, (8, (2, 0)))), (8, (161, (8, (6, 0)))), (8, (164, (8, (5, 0)))), (8, (167, (8, (4, 0)))), (8, (174, (8, (14, 0)))), (8, (209, (8, (28, 0)))), (8, (212, (8, (29, 0)))), (8, (215, (8, (30, 3)))), (8, (219, (8, (49, 0)))), (8, (222, (8, (34, 0)))), (8, (239, (8, (37, 0)))), (8, (245, (8, (39, 0)))), (8, (248, (8, (38, 0)))), (8, (274, (8, (48, 0)))), (8, (304, (8, (65, 0)))), (8, (307, (8, (66, 0)))), (8, (316, (8, (57, 3)))), (8, (347, (8, (52, 0)))), (8, (350, (8, (56, 0)))), (8, (353, (8, (55, 0)))), (8, (356, (8, (53, 0)))), (8, (359, (8, (54, 0)))), (8, (365, (8, (58, 3))))]
def tLf (a b : Nat) : Option (Nat × (Nat × Nat)) := lk2 tLfL a b
def tLmL : List (Nat × (Nat × (Nat × Nat))) := [(0, (3, (500, 1))), (0, (15, (68, 1))), (0, (22, (57, 1))), (0, (29, (44, 1))), (0, (39, (32, 1))), (0, (55, (23, 1))), (0, (60, (29, 1))), (0, (61, (45, 1))), (0, (64, (4, 2))), (0, (78, (5, 2))), (0, (82, (33, 1))), (0, (86, (24, 1))), (0, (89, (69, 3))), (0, (93, (46, 2))), (0, (97, (58, 3))), (0, (104, (9, 1))), (0, (111, (42, 2))), (0, (131, (12, 2))), (0, (134, (43, 1))), (0, (164, (17, 1))), (0, (167, (30, 3))), (0, (173, (31, 2))), (0, (177, (20, 1))), (0, (180, (56, 3))), (0, (184, (25, 5))), (0, (188, (27, 3))), (0, (203, (28, 1))), (0, (206, (49, 5))), (0, (210, (34, 3))), (0, (214, (40, 3))), (1, (3, (500, 1))), (1, (23, (32, 1))), (1, (32, (44, 1))), (1, (43, (24, 1))), (1, (46, (50, 2))), (1, (50, (34, 3))), (1, (55, (49, 5))), (1, (59, (58, 3))), (1, (65, (26, 2))), (1, (73, (31, 2))), (1, (79, (56, 3))), (2, (3, (500, 1))), (2, (15, (164, 2))), (2, (25, (501, 5))), (3, (3, (500, 1))), (3, (43, (35, 3))), (3, (47, (37, 3))), (3, (50, (38, 3))), (3, (53, (39, 3))), (3, (62, (85, 2))), (3, (72, (36, 4))), (3, (79, (41, 4))), (3, (83, (165, 2))), (4, (3, (500, 1))), (4, (11, (83, 2))), (4, (28, (29, 1))), (4, (51, (86, 2))), (4, (55, (30, 3))), (4, (59, (45, 1))), (4, (65, (47, 7))), (4, (69, (50, 2))), (4, (78, (85, 2))), (4, (85, (51, 4))), (4, (102, (87, 2))), (4, (108, (52, 3))), (4, (112, (53, 2))), (4, (115, (54, 3))), (4, (121, (55, 2))), (4, (124, (8, 3))), (4, (128, (82, 2))), (4, (131, (88, 3))), (4, (136, (7, 2))), (4, (140, (48, 2))), (4, (144, (84, 6))), (5, (3, (500, 1))), (5, (36, (59, 5))), (5, (46, (30, 3))), (5, (67, (60, 2))), (5, (74, (61, 3))), (5, (87, (63, 5))), (5, (94, (66, 4))), (5, (105, (8, 3))), (5, (109, (64, 4))), (5, (113, (82, 2))), (5, (117, (65, 3))), (5, (127, (503, 2))), (5, (133, (7, 2))), (5, (137, (62, 5))), (5, (141, (164, 2))), (5, (147, (67, 3))), (5, (151, (501, 5))), (6, (3, (500, 1))), (6, (29, (163, 2))), (6, (45, (70, 3))), (6, (52, (71, 3))), (6, (58, (72, 1))), (6, (62, (73, 2))), (6, (66, (74, 2))), (6, (70, (79, 3))), (6, (73, (80, 3))), (6, (76, (75, 3))), (6, (80, (76, 2))), (6, (86, (502, 2))), (6, (92, (81, 1))), (6, (95, (78, 1))), (6, (99, (77, 1))), (7, (3, (500, 1))), (7, (31, (164, 2))), (7, (37, (501, 5))), (8, (1, (500, 1))), (8, (138, (90, 1))), (8, (148, (93, 3))), (8, (152, (94, 2))), (8, (170, (100, 2))), (8, (177, (101, 1))), (8, (181, (104, 1))), (8, (184, (102, 3))), (8, (188, (103, 1))), (8, (191, (106, 2))), (8, (194, (98, 4))), (8, (198, (105, 2))), (8, (202, (99, 1))), (8, (206, (107, 1))), (8, (225, (109, 3))), (8, (229, (110, 3))), (8, (232, (111, 3))), (8, (236, (112, 4))), (8, (242, (118, 2))), (8, (251, (124, 3))), (8, (255, (125, 3))), (8, (258, (116, 1))), (8, (261, (117, 2))), (8, (264, (121, 4))), (8, (267, (119, 1))), (8, (270, (114, 5))), (8, (277, (120, 4))), (8, (280, (122, 4))), (8, (283, (123, 3))), (8, (286, (115, 2))), (8, (289, (126, 2))), (8, (292, (128, 2))), (8, (295, (132, 2))), (8, (298, (133, 2))), (8, (301, (129, 3))), (8, (310, (108, 4))), (8, (313, (113, 1))), (8, (319, (97, 1))), (8, (322, (127, 1))), (8, (325, (137, 2))), (8, (328, (138, 1))), (8, (331, (139, 2))), (8, (334, (131, 2))), (8, (337, (136, 1))), (8, (340, (144, 2))), (8, (344, (147, 3))), (8, (362, (149, 4))), (9, (7, (3, 3))), (9, (17, (6, 1))), (9, (23, (10, 3))), (9, (29, (11, 2))), (9, (33, (13, 2))), (9, (36, (14, 2))), (9, (39, (15, 2))), (9, (42, (16, 2))), (9, (45, (18, 2))), (9, (51, (19, 3))), (9, (55, (21, 4))), (9, (59, (22, 2))), (9, (62, (0, 1))), (9, (65, (89, 1))), (9, (68, (151, 4))), (9, (73, (92, 3))), (9, (74, (91, 1))), (9, (77, (1, 1))), (9, (80, (95, 1))), (9, (81, (152, 2))), (9, (84, (96, 1))), (9, (85, (2, 1))), (9, (88, (130, 1))), (9, (89, (153, 4))), (9, (92, (134, 3))), (9, (93, (154, 3))), (9, (96, (135, 2))), (9, (97, (155, 3))), (9, (99, (140, 2))), (9, (100, (156, 3))), (9, (102, (141, 2))), (9, (103, (157, 3))), (9, (105, (142, 2))), (9, (106, (158, 3))), (9, (108, (143, 2))), (9, (109, (159, 3))), (9, (111, (145, 2))), (9, (112, (160, 4))), (9, (114, (146, 3))), (9, (115, (161, 5))), (9, (118, (148, 4))), (9, (119, (162, 3))), (9, (121, (150, 2)))]
def tLm (a b : Nat) : Option (Nat × Nat) := lk2 tLmL a b
def tLcL : List (Nat × (Nat × (Nat × Nat))) := [(9, (8, (0, 11))), (0, (13, (6, 8))), (0, (20, (5, 7))), (0, (27, (4, 6))), (4, (9, (7, 6))), (4, (26, (2, 2))), (0, (37, (3, 5))), (0, (47, (2, 2))), (0, (53, (1, 7))), (1, (9, (4, 6))), (1, (21, (3, 5))), (9, (63, (8, 67)))]
def tLc (a b : Nat) : Option (Nat × Nat) := lk2 tLcL a b
def tLaL : List (Nat × (Nat × Nat)) := [(0, (47, 2)), (1, (9, 4))]
def tLa (a b : Nat) : Option Nat := lk2 tLaL a b
def tLxL : List (Nat × (Nat × (Nat × Nat))) := [(0, (68, (0, 6))), (0, (75, (1, 6))), (6, (55, (1, 6))), (6, (49, (0, 6))), (0, (101, (2, 6))), (0, (115, (3, 6))), (0, (170, (4, 6)))]
def tLx (a b : Nat) : Option (Nat × Nat) := lk2 tLxL a b
def tLyL : List (Nat × (Nat × Nat)) := [(0, (70, 0)), (0, (77, 1)), (6, (57, 1)), (6, (51, 0)), (0, (103, 2)), (0, (117, 3)), (0, (172, 4))]
def tLy (a b : Nat) : Option Nat := lk2 tLyL a b
def tLlL : List (Nat × (Nat × Int64)) := [(8, (156, 255)), (9, (66, 4294967295))]
def tLl (a b : Nat) : Option Int64 := lk2 tLlL a b
def tLsL : List (Nat × (Nat × Nat)) := [(6, (84, 1)), (5, (125, 1))]
def tLs (a b : Nat) : Option Nat := lk2 tLsL a b
def tKd (j : Nat) : Nat := if j < 500 then 0 else if j = 500 then 5 else if j = 501 then 4 else if j = 502 then 6 else if j = 503 then 7 else 99
def tHs : Nat → List (Nat × (Nat × (Nat × Nat))) := fun j => match j with
  | 151 => [(0, (11, (14, 0))), (0, (11, (18, 1)))]
  | 152 => [(0, (8, (11, 0))), (0, (8, (14, 1))), (0, (8, (17, 2)))]
  | 153 => [(0, (10, (13, 3)))]
  | 154 => [(0, (9, (12, 3))), (0, (9, (15, 2)))]
  | 155 => [(0, (9, (12, 0))), (0, (9, (15, 2)))]
  | 156 => [(0, (9, (12, 3)))]
  | 157 => [(0, (9, (12, 3)))]
  | 158 => [(0, (9, (12, 3)))]
  | 159 => [(0, (16, (19, 3))), (0, (16, (22, 4)))]
  | 160 => [(0, (17, (20, 0)))]
  | 161 => [(0, (12, (15, 0)))]
  | 162 => [(0, (9, (12, 3)))]
  | _ => []
def tIniL : List Nat := [1, 0, 0, 0, 0, 0, 0, 0, 0, 0, 0, 0, 0, 0, 0, 0, 0, 0, 0, 0, 0, 0, 0, 1, 0, 0, 0, 0, 0, 1, 0, 0, 1, 0, 0, 0, 0, 0, 0, 0, 0, 0, 0, 0, 1, 0, 0, 0, 0, 0, 0, 0, 0, 0, 0, 0, 0, 1, 0, 0, 0, 0, 0, 0, 0, 0, 0, 0, 1, 0, 0, 0, 0, 0, 0, 0, 0, 0, 0, 0, 0, 0, 0, 1, 0, 0, 0, 0, 0, 1, 0, 0, 0, 0, 0, 0, 0, 0, 0, 0, 0, 0, 0, 0, 0, 0, 0, 0, 0, 0, 0, 0, 0, 0, 0, 0, 0, 0, 0, 0, 0, 0, 0, 0, 0, 0, 0, 0, 0, 0, 0, 0, 0, 0, 0, 0, 0, 0, 0, 0, 0, 0, 0, 0, 0, 0, 0, 0, 0, 0, 0, 0, 0, 0, 0, 0, 0, 0, 0, 0, 0, 0, 0, 0, 0, 0, 0]
def tIni (j : Nat) : Nat := tIniL.getD j 0
def tFinL : List (List Nat) := [[1, 0, 1, 1, 0, 0, 0, 0, 0, 1, 1], [1, 1, 1, 0, 0, 0, 0], [1, 0], [1, 1, 1, 1, 0], [1, 1, 1, 1, 0, 0], [1, 1, 0, 1, 1, 0, 0], [1, 1, 1, 1, 0, 1, 0, 0], [1, 1, 1, 1, 1, 0], [0, 0, 0, 1, 0, 0, 0, 1, 1, 1, 1, 1, 1, 1, 0, 1, 1, 1, 1, 1, 1, 1, 1, 1, 1, 1, 1, 1, 0, 0, 0, 1, 1, 1, 0, 1, 1, 0, 0, 0, 1, 1, 1, 1, 1, 1, 1, 1, 0, 0, 1, 1, 0, 0, 0, 0, 0, 0, 0, 1, 1, 1, 1, 1, 1, 0, 0]]
def tFin (c f : Nat) : Nat := (tFinL.getD c []).getD f 0
/-- a field that may be written here: not final, or in its own class's constructor -/
def tPf (j k : Nat) : Option (Nat × (Nat × Nat)) := match tLf (tOw j) k with
  | some (c, (f, t)) => if tFin c f = 0 ∨ (tIni j = 1 ∧ tOw j = c) then some (c, (f, t)) else none
  | none => none
def tRt : Nat → Option FieldType := fun j => match j with
  | 1 => (Option.some Jvm.ClassFile.FieldType.int)
  | 2 => (Option.some Jvm.ClassFile.FieldType.int)
  | 3 => (Option.some Jvm.ClassFile.FieldType.int)
  | 4 => (Option.some Jvm.ClassFile.FieldType.boolean)
  | 5 => (Option.some Jvm.ClassFile.FieldType.int)
  | 6 => (Option.some Jvm.ClassFile.FieldType.int)
  | 7 => (Option.some Jvm.ClassFile.FieldType.int)
  | 8 => (Option.some Jvm.ClassFile.FieldType.int)
  | 10 => (Option.some Jvm.ClassFile.FieldType.int)
  | 11 => (Option.some Jvm.ClassFile.FieldType.int)
  | 12 => (Option.some Jvm.ClassFile.FieldType.boolean)
  | 13 => (Option.some Jvm.ClassFile.FieldType.int)
  | 14 => (Option.some Jvm.ClassFile.FieldType.int)
  | 15 => (Option.some Jvm.ClassFile.FieldType.int)
  | 16 => (Option.some Jvm.ClassFile.FieldType.int)
  | 17 => (Option.some Jvm.ClassFile.FieldType.boolean)
  | 18 => (Option.some Jvm.ClassFile.FieldType.boolean)
  | 19 => (Option.some Jvm.ClassFile.FieldType.boolean)
  | 20 => (Option.some Jvm.ClassFile.FieldType.boolean)
  | 21 => (Option.some Jvm.ClassFile.FieldType.int)
  | 22 => (Option.some Jvm.ClassFile.FieldType.int)
  | 26 => (Option.some Jvm.ClassFile.FieldType.boolean)
  | 28 => (Option.some Jvm.ClassFile.FieldType.int)
  | 31 => (Option.some Jvm.ClassFile.FieldType.boolean)
  | 41 => (Option.some Jvm.ClassFile.FieldType.int)
  | 42 => (Option.some Jvm.ClassFile.FieldType.boolean)
  | 43 => (Option.some Jvm.ClassFile.FieldType.int)
  | 46 => (Option.some Jvm.ClassFile.FieldType.boolean)
  | 48 => (Option.some (Jvm.ClassFile.FieldType.object "MovingBoxes$Things"))
  | 49 => (Option.some Jvm.ClassFile.FieldType.boolean)
  | 53 => (Option.some Jvm.ClassFile.FieldType.int)
  | 55 => (Option.some Jvm.ClassFile.FieldType.int)
  | 56 => (Option.some Jvm.ClassFile.FieldType.boolean)
  | 58 => (Option.some Jvm.ClassFile.FieldType.boolean)
  | 62 => (Option.some Jvm.ClassFile.FieldType.boolean)
  | 72 => (Option.some Jvm.ClassFile.FieldType.char)
  | 75 => (Option.some Jvm.ClassFile.FieldType.int)
  | 76 => (Option.some Jvm.ClassFile.FieldType.char)
  | 77 => (Option.some Jvm.ClassFile.FieldType.boolean)
  | 78 => (Option.some Jvm.ClassFile.FieldType.int)
  | 81 => (Option.some Jvm.ClassFile.FieldType.char)
  | 82 => (Option.some Jvm.ClassFile.FieldType.int)
  | 84 => (Option.some Jvm.ClassFile.FieldType.boolean)
  | 85 => (Option.some Jvm.ClassFile.FieldType.int)
  | 91 => (Option.some Jvm.ClassFile.FieldType.int)
  | 92 => (Option.some Jvm.ClassFile.FieldType.int)
  | 93 => (Option.some Jvm.ClassFile.FieldType.boolean)
  | 94 => (Option.some Jvm.ClassFile.FieldType.int)
  | 95 => (Option.some Jvm.ClassFile.FieldType.int)
  | 96 => (Option.some Jvm.ClassFile.FieldType.int)
  | 99 => (Option.some Jvm.ClassFile.FieldType.boolean)
  | 101 => (Option.some Jvm.ClassFile.FieldType.int)
  | 102 => (Option.some Jvm.ClassFile.FieldType.int)
  | 103 => (Option.some Jvm.ClassFile.FieldType.int)
  | 104 => (Option.some Jvm.ClassFile.FieldType.int)
  | 107 => (Option.some Jvm.ClassFile.FieldType.boolean)
  | 109 => (Option.some Jvm.ClassFile.FieldType.int)
  | 110 => (Option.some Jvm.ClassFile.FieldType.int)
  | 124 => (Option.some Jvm.ClassFile.FieldType.boolean)
  | 125 => (Option.some Jvm.ClassFile.FieldType.int)
  | 128 => (Option.some Jvm.ClassFile.FieldType.int)
  | 129 => (Option.some Jvm.ClassFile.FieldType.boolean)
  | 130 => (Option.some Jvm.ClassFile.FieldType.int)
  | 131 => (Option.some Jvm.ClassFile.FieldType.int)
  | 132 => (Option.some Jvm.ClassFile.FieldType.int)
  | 133 => (Option.some Jvm.ClassFile.FieldType.int)
  | 134 => (Option.some Jvm.ClassFile.FieldType.int)
  | 135 => (Option.some Jvm.ClassFile.FieldType.int)
  | 136 => (Option.some Jvm.ClassFile.FieldType.boolean)
  | 140 => (Option.some Jvm.ClassFile.FieldType.int)
  | 141 => (Option.some Jvm.ClassFile.FieldType.int)
  | 142 => (Option.some Jvm.ClassFile.FieldType.int)
  | 143 => (Option.some Jvm.ClassFile.FieldType.int)
  | 144 => (Option.some Jvm.ClassFile.FieldType.long)
  | 145 => (Option.some Jvm.ClassFile.FieldType.boolean)
  | 146 => (Option.some Jvm.ClassFile.FieldType.boolean)
  | 147 => (Option.some Jvm.ClassFile.FieldType.boolean)
  | 148 => (Option.some Jvm.ClassFile.FieldType.int)
  | 150 => (Option.some Jvm.ClassFile.FieldType.int)
  | 151 => (Option.some Jvm.ClassFile.FieldType.int)
  | 152 => (Option.some Jvm.ClassFile.FieldType.int)
  | 153 => (Option.some Jvm.ClassFile.FieldType.int)
  | 154 => (Option.some Jvm.ClassFile.FieldType.int)
  | 155 => (Option.some Jvm.ClassFile.FieldType.int)
  | 156 => (Option.some Jvm.ClassFile.FieldType.int)
  | 157 => (Option.some Jvm.ClassFile.FieldType.int)
  | 158 => (Option.some Jvm.ClassFile.FieldType.int)
  | 159 => (Option.some Jvm.ClassFile.FieldType.int)
  | 160 => (Option.some Jvm.ClassFile.FieldType.int)
  | 161 => (Option.some Jvm.ClassFile.FieldType.int)
  | 162 => (Option.some Jvm.ClassFile.FieldType.int)
  | 163 => (Option.some Jvm.ClassFile.FieldType.int)
  | 164 => (Option.some Jvm.ClassFile.FieldType.int)
  | 165 => (Option.some Jvm.ClassFile.FieldType.int)
  | 166 => ret
  | _ => none
end
section
/-! Rows of the tables, each by computation; and the rows that decode each instruction. Written by wip/whole/gen/mktab.py. -/
theorem lf_0_9 : tLf 0 9 = some (0, (0, 2)) := by decide +kernel
theorem lf_0_16 : tLf 0 16 = some (0, (2, 2)) := by decide +kernel
theorem lf_0_23 : tLf 0 23 = some (0, (3, 2)) := by decide +kernel
theorem lf_0_30 : tLf 0 30 = some (0, (4, 2)) := by decide +kernel
theorem lf_0_34 : tLf 0 34 = some (0, (5, 2)) := by decide +kernel
theorem lf_0_40 : tLf 0 40 = some (0, (6, 2)) := by decide +kernel
theorem lf_0_44 : tLf 0 44 = some (0, (7, 2)) := by decide +kernel
theorem lf_0_49 : tLf 0 49 = some (0, (9, 2)) := by decide +kernel
theorem lf_0_56 : tLf 0 56 = some (0, (10, 2)) := by decide +kernel
theorem lf_0_71 : tLf 0 71 = some (0, (1, 0)) := by decide +kernel
theorem lf_0_83 : tLf 0 83 = some (0, (8, 0)) := by decide +kernel
theorem lf_0_107 : tLf 0 107 = some (6, (4, 0)) := by decide +kernel
theorem lf_0_110 : tLf 0 110 = some (3, (4, 0)) := by decide +kernel
theorem lf_0_118 : tLf 0 118 = some (3, (0, 2)) := by decide +kernel
theorem lf_0_122 : tLf 0 122 = some (3, (1, 2)) := by decide +kernel
theorem lf_0_125 : tLf 0 125 = some (3, (2, 2)) := by decide +kernel
theorem lf_0_128 : tLf 0 128 = some (3, (3, 2)) := by decide +kernel
theorem lf_0_138 : tLf 0 138 = some (4, (0, 2)) := by decide +kernel
theorem lf_0_142 : tLf 0 142 = some (7, (5, 0)) := by decide +kernel
theorem lf_0_145 : tLf 0 145 = some (4, (1, 2)) := by decide +kernel
theorem lf_0_148 : tLf 0 148 = some (4, (2, 2)) := by decide +kernel
theorem lf_0_151 : tLf 0 151 = some (4, (4, 0)) := by decide +kernel
theorem lf_0_154 : tLf 0 154 = some (4, (3, 2)) := by decide +kernel
theorem lf_0_158 : tLf 0 158 = some (2, (1, 0)) := by decide +kernel
theorem lf_0_161 : tLf 0 161 = some (2, (0, 2)) := by decide +kernel
theorem lf_0_192 : tLf 0 192 = some (1, (3, 0)) := by decide +kernel
theorem lf_0_193 : tLf 0 193 = some (1, (4, 3)) := by decide +kernel
theorem lf_0_197 : tLf 0 197 = some (1, (5, 0)) := by decide +kernel
theorem lf_0_200 : tLf 0 200 = some (1, (6, 0)) := by decide +kernel
theorem lf_1_11 : tLf 1 11 = some (1, (0, 2)) := by decide +kernel
theorem lf_1_17 : tLf 1 17 = some (1, (1, 2)) := by decide +kernel
theorem lf_1_24 : tLf 1 24 = some (1, (2, 2)) := by decide +kernel
theorem lf_1_28 : tLf 1 28 = some (1, (6, 0)) := by decide +kernel
theorem lf_1_33 : tLf 1 33 = some (1, (3, 0)) := by decide +kernel
theorem lf_1_36 : tLf 1 36 = some (1, (4, 3)) := by decide +kernel
theorem lf_1_40 : tLf 1 40 = some (1, (5, 0)) := by decide +kernel
theorem lf_1_54 : tLf 1 54 = some (3, (4, 0)) := by decide +kernel
theorem lf_1_69 : tLf 1 69 = some (4, (3, 2)) := by decide +kernel
theorem lf_2_9 : tLf 2 9 = some (2, (0, 2)) := by decide +kernel
theorem lf_2_21 : tLf 2 21 = some (2, (1, 0)) := by decide +kernel
theorem lf_3_9 : tLf 3 9 = some (3, (0, 2)) := by decide +kernel
theorem lf_3_15 : tLf 3 15 = some (3, (1, 2)) := by decide +kernel
theorem lf_3_18 : tLf 3 18 = some (3, (2, 2)) := by decide +kernel
theorem lf_3_21 : tLf 3 21 = some (3, (3, 2)) := by decide +kernel
theorem lf_3_24 : tLf 3 24 = some (3, (4, 0)) := by decide +kernel
theorem lf_3_28 : tLf 3 28 = some (4, (1, 2)) := by decide +kernel
theorem lf_3_34 : tLf 3 34 = some (7, (5, 0)) := by decide +kernel
theorem lf_3_37 : tLf 3 37 = some (6, (0, 2)) := by decide +kernel
theorem lf_3_40 : tLf 3 40 = some (7, (3, 2)) := by decide +kernel
theorem lf_3_56 : tLf 3 56 = some (4, (0, 2)) := by decide +kernel
theorem lf_3_59 : tLf 3 59 = some (7, (1, 2)) := by decide +kernel
theorem lf_3_66 : tLf 3 66 = some (7, (2, 2)) := by decide +kernel
theorem lf_3_69 : tLf 3 69 = some (7, (0, 2)) := by decide +kernel
theorem lf_3_76 : tLf 3 76 = some (4, (2, 2)) := by decide +kernel
theorem lf_4_14 : tLf 4 14 = some (4, (0, 2)) := by decide +kernel
theorem lf_4_20 : tLf 4 20 = some (4, (1, 2)) := by decide +kernel
theorem lf_4_23 : tLf 4 23 = some (4, (2, 2)) := by decide +kernel
theorem lf_4_29 : tLf 4 29 = some (4, (3, 2)) := by decide +kernel
theorem lf_4_33 : tLf 4 33 = some (7, (5, 0)) := by decide +kernel
theorem lf_4_37 : tLf 4 37 = some (4, (4, 0)) := by decide +kernel
theorem lf_4_40 : tLf 4 40 = some (4, (5, 3)) := by decide +kernel
theorem lf_4_44 : tLf 4 44 = some (2, (0, 2)) := by decide +kernel
theorem lf_4_48 : tLf 4 48 = some (2, (1, 0)) := by decide +kernel
theorem lf_4_62 : tLf 4 62 = some (6, (4, 0)) := by decide +kernel
theorem lf_4_72 : tLf 4 72 = some (3, (1, 2)) := by decide +kernel
theorem lf_4_82 : tLf 4 82 = some (3, (2, 2)) := by decide +kernel
theorem lf_4_89 : tLf 4 89 = some (7, (3, 2)) := by decide +kernel
theorem lf_4_92 : tLf 4 92 = some (7, (1, 2)) := by decide +kernel
theorem lf_4_95 : tLf 4 95 = some (7, (4, 2)) := by decide +kernel
theorem lf_4_98 : tLf 4 98 = some (6, (2, 2)) := by decide +kernel
theorem lf_4_105 : tLf 4 105 = some (6, (0, 2)) := by decide +kernel
theorem lf_4_118 : tLf 4 118 = some (6, (1, 2)) := by decide +kernel
theorem lf_4_134 : tLf 4 134 = some (7, (2, 2)) := by decide +kernel
theorem lf_5_9 : tLf 5 9 = some (5, (0, 2)) := by decide +kernel
theorem lf_5_15 : tLf 5 15 = some (5, (1, 2)) := by decide +kernel
theorem lf_5_18 : tLf 5 18 = some (5, (3, 2)) := by decide +kernel
theorem lf_5_22 : tLf 5 22 = some (5, (4, 2)) := by decide +kernel
theorem lf_5_25 : tLf 5 25 = some (5, (2, 0)) := by decide +kernel
theorem lf_5_29 : tLf 5 29 = some (5, (5, 0)) := by decide +kernel
theorem lf_5_32 : tLf 5 32 = some (5, (6, 3)) := by decide +kernel
theorem lf_5_40 : tLf 5 40 = some (4, (3, 2)) := by decide +kernel
theorem lf_5_52 : tLf 5 52 = some (4, (0, 2)) := by decide +kernel
theorem lf_5_56 : tLf 5 56 = some (7, (5, 0)) := by decide +kernel
theorem lf_5_61 : tLf 5 61 = some (7, (1, 2)) := by decide +kernel
theorem lf_5_64 : tLf 5 64 = some (7, (2, 2)) := by decide +kernel
theorem lf_5_71 : tLf 5 71 = some (7, (0, 2)) := by decide +kernel
theorem lf_5_78 : tLf 5 78 = some (4, (1, 2)) := by decide +kernel
theorem lf_5_81 : tLf 5 81 = some (7, (3, 2)) := by decide +kernel
theorem lf_5_84 : tLf 5 84 = some (7, (4, 2)) := by decide +kernel
theorem lf_5_91 : tLf 5 91 = some (4, (2, 2)) := by decide +kernel
theorem lf_5_98 : tLf 5 98 = some (6, (0, 2)) := by decide +kernel
theorem lf_5_103 : tLf 5 103 = some (6, (1, 2)) := by decide +kernel
theorem lf_5_121 : tLf 5 121 = some (6, (2, 2)) := by decide +kernel
theorem lf_6_9 : tLf 6 9 = some (6, (0, 2)) := by decide +kernel
theorem lf_6_15 : tLf 6 15 = some (6, (1, 2)) := by decide +kernel
theorem lf_6_19 : tLf 6 19 = some (6, (2, 2)) := by decide +kernel
theorem lf_6_23 : tLf 6 23 = some (6, (3, 2)) := by decide +kernel
theorem lf_6_26 : tLf 6 26 = some (6, (5, 2)) := by decide +kernel
theorem lf_6_35 : tLf 6 35 = some (6, (6, 0)) := by decide +kernel
theorem lf_6_39 : tLf 6 39 = some (6, (4, 0)) := by decide +kernel
theorem lf_6_42 : tLf 6 42 = some (6, (7, 0)) := by decide +kernel
theorem lf_7_9 : tLf 7 9 = some (7, (0, 2)) := by decide +kernel
theorem lf_7_15 : tLf 7 15 = some (7, (1, 2)) := by decide +kernel
theorem lf_7_18 : tLf 7 18 = some (7, (2, 2)) := by decide +kernel
theorem lf_7_21 : tLf 7 21 = some (7, (3, 2)) := by decide +kernel
theorem lf_7_24 : tLf 7 24 = some (7, (4, 2)) := by decide +kernel
theorem lf_7_27 : tLf 7 27 = some (7, (5, 0)) := by decide +kernel
theorem lf_8_7 : tLf 8 7 = some (8, (3, 2)) := by decide +kernel
theorem lf_8_13 : tLf 8 13 = some (8, (7, 2)) := by decide +kernel
theorem lf_8_16 : tLf 8 16 = some (8, (8, 2)) := by decide +kernel
theorem lf_8_19 : tLf 8 19 = some (8, (9, 2)) := by decide +kernel
theorem lf_8_23 : tLf 8 23 = some (8, (10, 2)) := by decide +kernel
theorem lf_8_26 : tLf 8 26 = some (8, (11, 2)) := by decide +kernel
theorem lf_8_29 : tLf 8 29 = some (8, (12, 2)) := by decide +kernel
theorem lf_8_32 : tLf 8 32 = some (8, (13, 2)) := by decide +kernel
theorem lf_8_35 : tLf 8 35 = some (8, (15, 2)) := by decide +kernel
theorem lf_8_38 : tLf 8 38 = some (8, (16, 2)) := by decide +kernel
theorem lf_8_41 : tLf 8 41 = some (8, (17, 2)) := by decide +kernel
theorem lf_8_44 : tLf 8 44 = some (8, (18, 2)) := by decide +kernel
theorem lf_8_47 : tLf 8 47 = some (8, (19, 2)) := by decide +kernel
theorem lf_8_50 : tLf 8 50 = some (8, (20, 2)) := by decide +kernel
theorem lf_8_53 : tLf 8 53 = some (8, (21, 2)) := by decide +kernel
theorem lf_8_56 : tLf 8 56 = some (8, (22, 2)) := by decide +kernel
theorem lf_8_59 : tLf 8 59 = some (8, (23, 2)) := by decide +kernel
theorem lf_8_62 : tLf 8 62 = some (8, (24, 2)) := by decide +kernel
theorem lf_8_65 : tLf 8 65 = some (8, (25, 2)) := by decide +kernel
theorem lf_8_68 : tLf 8 68 = some (8, (26, 2)) := by decide +kernel
theorem lf_8_71 : tLf 8 71 = some (8, (27, 2)) := by decide +kernel
theorem lf_8_74 : tLf 8 74 = some (8, (31, 2)) := by decide +kernel
theorem lf_8_77 : tLf 8 77 = some (8, (32, 2)) := by decide +kernel
theorem lf_8_80 : tLf 8 80 = some (8, (33, 2)) := by decide +kernel
theorem lf_8_83 : tLf 8 83 = some (8, (35, 2)) := by decide +kernel
theorem lf_8_86 : tLf 8 86 = some (8, (36, 2)) := by decide +kernel
theorem lf_8_89 : tLf 8 89 = some (8, (40, 2)) := by decide +kernel
theorem lf_8_92 : tLf 8 92 = some (8, (41, 2)) := by decide +kernel
theorem lf_8_95 : tLf 8 95 = some (8, (42, 2)) := by decide +kernel
theorem lf_8_98 : tLf 8 98 = some (8, (43, 2)) := by decide +kernel
theorem lf_8_101 : tLf 8 101 = some (8, (44, 2)) := by decide +kernel
theorem lf_8_104 : tLf 8 104 = some (8, (45, 2)) := by decide +kernel
theorem lf_8_107 : tLf 8 107 = some (8, (46, 2)) := by decide +kernel
theorem lf_8_110 : tLf 8 110 = some (8, (47, 2)) := by decide +kernel
theorem lf_8_113 : tLf 8 113 = some (8, (50, 2)) := by decide +kernel
theorem lf_8_116 : tLf 8 116 = some (8, (51, 2)) := by decide +kernel
theorem lf_8_120 : tLf 8 120 = some (8, (59, 2)) := by decide +kernel
theorem lf_8_123 : tLf 8 123 = some (8, (60, 2)) := by decide +kernel
theorem lf_8_126 : tLf 8 126 = some (8, (61, 2)) := by decide +kernel
theorem lf_8_129 : tLf 8 129 = some (8, (62, 2)) := by decide +kernel
theorem lf_8_132 : tLf 8 132 = some (8, (63, 2)) := by decide +kernel
theorem lf_8_135 : tLf 8 135 = some (8, (64, 2)) := by decide +kernel
theorem lf_8_141 : tLf 8 141 = some (8, (0, 0)) := by decide +kernel
theorem lf_8_145 : tLf 8 145 = some (8, (1, 0)) := by decide +kernel
theorem lf_8_158 : tLf 8 158 = some (8, (2, 0)) := by decide +kernel
theorem lf_8_161 : tLf 8 161 = some (8, (6, 0)) := by decide +kernel
theorem lf_8_164 : tLf 8 164 = some (8, (5, 0)) := by decide +kernel
theorem lf_8_167 : tLf 8 167 = some (8, (4, 0)) := by decide +kernel
theorem lf_8_174 : tLf 8 174 = some (8, (14, 0)) := by decide +kernel
theorem lf_8_209 : tLf 8 209 = some (8, (28, 0)) := by decide +kernel
theorem lf_8_212 : tLf 8 212 = some (8, (29, 0)) := by decide +kernel
theorem lf_8_215 : tLf 8 215 = some (8, (30, 3)) := by decide +kernel
theorem lf_8_219 : tLf 8 219 = some (8, (49, 0)) := by decide +kernel
theorem lf_8_222 : tLf 8 222 = some (8, (34, 0)) := by decide +kernel
theorem lf_8_239 : tLf 8 239 = some (8, (37, 0)) := by decide +kernel
theorem lf_8_245 : tLf 8 245 = some (8, (39, 0)) := by decide +kernel
theorem lf_8_248 : tLf 8 248 = some (8, (38, 0)) := by decide +kernel
theorem lf_8_274 : tLf 8 274 = some (8, (48, 0)) := by decide +kernel
theorem lf_8_304 : tLf 8 304 = some (8, (65, 0)) := by decide +kernel
theorem lf_8_307 : tLf 8 307 = some (8, (66, 0)) := by decide +kernel
theorem lf_8_316 : tLf 8 316 = some (8, (57, 3)) := by decide +kernel
theorem lf_8_347 : tLf 8 347 = some (8, (52, 0)) := by decide +kernel
theorem lf_8_350 : tLf 8 350 = some (8, (56, 0)) := by decide +kernel
theorem lf_8_353 : tLf 8 353 = some (8, (55, 0)) := by decide +kernel
theorem lf_8_356 : tLf 8 356 = some (8, (53, 0)) := by decide +kernel
theorem lf_8_359 : tLf 8 359 = some (8, (54, 0)) := by decide +kernel
theorem lf_8_365 : tLf 8 365 = some (8, (58, 3)) := by decide +kernel
theorem pf_0_9 : tPf 0 9 = some (0, (0, 2)) := by decide +kernel
theorem pf_0_16 : tPf 0 16 = some (0, (2, 2)) := by decide +kernel
theorem pf_0_23 : tPf 0 23 = some (0, (3, 2)) := by decide +kernel
theorem pf_0_30 : tPf 0 30 = some (0, (4, 2)) := by decide +kernel
theorem pf_0_34 : tPf 0 34 = some (0, (5, 2)) := by decide +kernel
theorem pf_0_40 : tPf 0 40 = some (0, (6, 2)) := by decide +kernel
theorem pf_0_44 : tPf 0 44 = some (0, (7, 2)) := by decide +kernel
theorem pf_0_49 : tPf 0 49 = some (0, (9, 2)) := by decide +kernel
theorem pf_0_56 : tPf 0 56 = some (0, (10, 2)) := by decide +kernel
theorem pf_1_71 : tPf 1 71 = some (0, (1, 0)) := by decide +kernel
theorem pf_3_71 : tPf 3 71 = some (0, (1, 0)) := by decide +kernel
theorem pf_6_83 : tPf 6 83 = some (0, (8, 0)) := by decide +kernel
theorem pf_9_30 : tPf 9 30 = some (0, (4, 2)) := by decide +kernel
theorem pf_9_34 : tPf 9 34 = some (0, (5, 2)) := by decide +kernel
theorem pf_9_40 : tPf 9 40 = some (0, (6, 2)) := by decide +kernel
theorem pf_9_44 : tPf 9 44 = some (0, (7, 2)) := by decide +kernel
theorem pf_12_83 : tPf 12 83 = some (0, (8, 0)) := by decide +kernel
theorem pf_23_11 : tPf 23 11 = some (1, (0, 2)) := by decide +kernel
theorem pf_23_17 : tPf 23 17 = some (1, (1, 2)) := by decide +kernel
theorem pf_23_24 : tPf 23 24 = some (1, (2, 2)) := by decide +kernel
theorem pf_23_28 : tPf 23 28 = some (1, (6, 0)) := by decide +kernel
theorem pf_24_28 : tPf 24 28 = some (1, (6, 0)) := by decide +kernel
theorem pf_24_33 : tPf 24 33 = some (1, (3, 0)) := by decide +kernel
theorem pf_24_36 : tPf 24 36 = some (1, (4, 3)) := by decide +kernel
theorem pf_24_40 : tPf 24 40 = some (1, (5, 0)) := by decide +kernel
theorem pf_25_33 : tPf 25 33 = some (1, (3, 0)) := by decide +kernel
theorem pf_25_36 : tPf 25 36 = some (1, (4, 3)) := by decide +kernel
theorem pf_25_40 : tPf 25 40 = some (1, (5, 0)) := by decide +kernel
theorem pf_27_28 : tPf 27 28 = some (1, (6, 0)) := by decide +kernel
theorem pf_29_9 : tPf 29 9 = some (2, (0, 2)) := by decide +kernel
theorem pf_30_21 : tPf 30 21 = some (2, (1, 0)) := by decide +kernel
theorem pf_32_9 : tPf 32 9 = some (3, (0, 2)) := by decide +kernel
theorem pf_32_15 : tPf 32 15 = some (3, (1, 2)) := by decide +kernel
theorem pf_32_18 : tPf 32 18 = some (3, (2, 2)) := by decide +kernel
theorem pf_32_21 : tPf 32 21 = some (3, (3, 2)) := by decide +kernel
theorem pf_33_24 : tPf 33 24 = some (3, (4, 0)) := by decide +kernel
theorem pf_34_24 : tPf 34 24 = some (3, (4, 0)) := by decide +kernel
theorem pf_36_24 : tPf 36 24 = some (3, (4, 0)) := by decide +kernel
theorem pf_44_14 : tPf 44 14 = some (4, (0, 2)) := by decide +kernel
theorem pf_44_20 : tPf 44 20 = some (4, (1, 2)) := by decide +kernel
theorem pf_44_23 : tPf 44 23 = some (4, (2, 2)) := by decide +kernel
theorem pf_44_29 : tPf 44 29 = some (4, (3, 2)) := by decide +kernel
theorem pf_45_33 : tPf 45 33 = some (7, (5, 0)) := by decide +kernel
theorem pf_45_37 : tPf 45 37 = some (4, (4, 0)) := by decide +kernel
theorem pf_45_40 : tPf 45 40 = some (4, (5, 3)) := by decide +kernel
theorem pf_45_48 : tPf 45 48 = some (2, (1, 0)) := by decide +kernel
theorem pf_47_37 : tPf 47 37 = some (4, (4, 0)) := by decide +kernel
theorem pf_47_40 : tPf 47 40 = some (4, (5, 3)) := by decide +kernel
theorem pf_50_37 : tPf 50 37 = some (4, (4, 0)) := by decide +kernel
theorem pf_50_40 : tPf 50 40 = some (4, (5, 3)) := by decide +kernel
theorem pf_57_9 : tPf 57 9 = some (5, (0, 2)) := by decide +kernel
theorem pf_57_15 : tPf 57 15 = some (5, (1, 2)) := by decide +kernel
theorem pf_57_18 : tPf 57 18 = some (5, (3, 2)) := by decide +kernel
theorem pf_57_22 : tPf 57 22 = some (5, (4, 2)) := by decide +kernel
theorem pf_58_25 : tPf 58 25 = some (5, (2, 0)) := by decide +kernel
theorem pf_58_29 : tPf 58 29 = some (5, (5, 0)) := by decide +kernel
theorem pf_58_32 : tPf 58 32 = some (5, (6, 3)) := by decide +kernel
theorem pf_59_32 : tPf 59 32 = some (5, (6, 3)) := by decide +kernel
theorem pf_60_25 : tPf 60 25 = some (5, (2, 0)) := by decide +kernel
theorem pf_60_32 : tPf 60 32 = some (5, (6, 3)) := by decide +kernel
theorem pf_61_29 : tPf 61 29 = some (5, (5, 0)) := by decide +kernel
theorem pf_61_32 : tPf 61 32 = some (5, (6, 3)) := by decide +kernel
theorem pf_63_32 : tPf 63 32 = some (5, (6, 3)) := by decide +kernel
theorem pf_66_25 : tPf 66 25 = some (5, (2, 0)) := by decide +kernel
theorem pf_66_29 : tPf 66 29 = some (5, (5, 0)) := by decide +kernel
theorem pf_66_32 : tPf 66 32 = some (5, (6, 3)) := by decide +kernel
theorem pf_68_9 : tPf 68 9 = some (6, (0, 2)) := by decide +kernel
theorem pf_68_15 : tPf 68 15 = some (6, (1, 2)) := by decide +kernel
theorem pf_68_19 : tPf 68 19 = some (6, (2, 2)) := by decide +kernel
theorem pf_68_23 : tPf 68 23 = some (6, (3, 2)) := by decide +kernel
theorem pf_68_26 : tPf 68 26 = some (6, (5, 2)) := by decide +kernel
theorem pf_69_35 : tPf 69 35 = some (6, (6, 0)) := by decide +kernel
theorem pf_69_39 : tPf 69 39 = some (6, (4, 0)) := by decide +kernel
theorem pf_69_42 : tPf 69 42 = some (6, (7, 0)) := by decide +kernel
theorem pf_70_42 : tPf 70 42 = some (6, (7, 0)) := by decide +kernel
theorem pf_71_42 : tPf 71 42 = some (6, (7, 0)) := by decide +kernel
theorem pf_73_42 : tPf 73 42 = some (6, (7, 0)) := by decide +kernel
theorem pf_74_42 : tPf 74 42 = some (6, (7, 0)) := by decide +kernel
theorem pf_75_39 : tPf 75 39 = some (6, (4, 0)) := by decide +kernel
theorem pf_76_42 : tPf 76 42 = some (6, (7, 0)) := by decide +kernel
theorem pf_80_42 : tPf 80 42 = some (6, (7, 0)) := by decide +kernel
theorem pf_81_42 : tPf 81 42 = some (6, (7, 0)) := by decide +kernel
theorem pf_83_9 : tPf 83 9 = some (7, (0, 2)) := by decide +kernel
theorem pf_83_15 : tPf 83 15 = some (7, (1, 2)) := by decide +kernel
theorem pf_83_18 : tPf 83 18 = some (7, (2, 2)) := by decide +kernel
theorem pf_83_21 : tPf 83 21 = some (7, (3, 2)) := by decide +kernel
theorem pf_83_24 : tPf 83 24 = some (7, (4, 2)) := by decide +kernel
theorem pf_84_27 : tPf 84 27 = some (7, (5, 0)) := by decide +kernel
theorem pf_86_27 : tPf 86 27 = some (7, (5, 0)) := by decide +kernel
theorem pf_87_27 : tPf 87 27 = some (7, (5, 0)) := by decide +kernel
theorem pf_89_7 : tPf 89 7 = some (8, (3, 2)) := by decide +kernel
theorem pf_89_13 : tPf 89 13 = some (8, (7, 2)) := by decide +kernel
theorem pf_89_16 : tPf 89 16 = some (8, (8, 2)) := by decide +kernel
theorem pf_89_19 : tPf 89 19 = some (8, (9, 2)) := by decide +kernel
theorem pf_89_23 : tPf 89 23 = some (8, (10, 2)) := by decide +kernel
theorem pf_89_26 : tPf 89 26 = some (8, (11, 2)) := by decide +kernel
theorem pf_89_29 : tPf 89 29 = some (8, (12, 2)) := by decide +kernel
theorem pf_89_32 : tPf 89 32 = some (8, (13, 2)) := by decide +kernel
theorem pf_89_35 : tPf 89 35 = some (8, (15, 2)) := by decide +kernel
theorem pf_89_38 : tPf 89 38 = some (8, (16, 2)) := by decide +kernel
theorem pf_89_41 : tPf 89 41 = some (8, (17, 2)) := by decide +kernel
theorem pf_89_44 : tPf 89 44 = some (8, (18, 2)) := by decide +kernel
theorem pf_89_47 : tPf 89 47 = some (8, (19, 2)) := by decide +kernel
theorem pf_89_50 : tPf 89 50 = some (8, (20, 2)) := by decide +kernel
theorem pf_89_53 : tPf 89 53 = some (8, (21, 2)) := by decide +kernel
theorem pf_89_56 : tPf 89 56 = some (8, (22, 2)) := by decide +kernel
theorem pf_89_59 : tPf 89 59 = some (8, (23, 2)) := by decide +kernel
theorem pf_89_62 : tPf 89 62 = some (8, (24, 2)) := by decide +kernel
theorem pf_89_65 : tPf 89 65 = some (8, (25, 2)) := by decide +kernel
theorem pf_89_68 : tPf 89 68 = some (8, (26, 2)) := by decide +kernel
theorem pf_89_71 : tPf 89 71 = some (8, (27, 2)) := by decide +kernel
theorem pf_89_74 : tPf 89 74 = some (8, (31, 2)) := by decide +kernel
theorem pf_89_77 : tPf 89 77 = some (8, (32, 2)) := by decide +kernel
theorem pf_89_80 : tPf 89 80 = some (8, (33, 2)) := by decide +kernel
theorem pf_89_83 : tPf 89 83 = some (8, (35, 2)) := by decide +kernel
theorem pf_89_86 : tPf 89 86 = some (8, (36, 2)) := by decide +kernel
theorem pf_89_89 : tPf 89 89 = some (8, (40, 2)) := by decide +kernel
theorem pf_89_92 : tPf 89 92 = some (8, (41, 2)) := by decide +kernel
theorem pf_89_95 : tPf 89 95 = some (8, (42, 2)) := by decide +kernel
theorem pf_89_98 : tPf 89 98 = some (8, (43, 2)) := by decide +kernel
theorem pf_89_101 : tPf 89 101 = some (8, (44, 2)) := by decide +kernel
theorem pf_89_104 : tPf 89 104 = some (8, (45, 2)) := by decide +kernel
theorem pf_89_107 : tPf 89 107 = some (8, (46, 2)) := by decide +kernel
theorem pf_89_110 : tPf 89 110 = some (8, (47, 2)) := by decide +kernel
theorem pf_89_113 : tPf 89 113 = some (8, (50, 2)) := by decide +kernel
theorem pf_89_116 : tPf 89 116 = some (8, (51, 2)) := by decide +kernel
theorem pf_89_120 : tPf 89 120 = some (8, (59, 2)) := by decide +kernel
theorem pf_89_123 : tPf 89 123 = some (8, (60, 2)) := by decide +kernel
theorem pf_89_126 : tPf 89 126 = some (8, (61, 2)) := by decide +kernel
theorem pf_89_129 : tPf 89 129 = some (8, (62, 2)) := by decide +kernel
theorem pf_89_132 : tPf 89 132 = some (8, (63, 2)) := by decide +kernel
theorem pf_89_135 : tPf 89 135 = some (8, (64, 2)) := by decide +kernel
theorem pf_90_209 : tPf 90 209 = some (8, (28, 0)) := by decide +kernel
theorem pf_90_212 : tPf 90 212 = some (8, (29, 0)) := by decide +kernel
theorem pf_90_215 : tPf 90 215 = some (8, (30, 3)) := by decide +kernel
theorem pf_90_219 : tPf 90 219 = some (8, (49, 0)) := by decide +kernel
theorem pf_92_141 : tPf 92 141 = some (8, (0, 0)) := by decide +kernel
theorem pf_92_158 : tPf 92 158 = some (8, (2, 0)) := by decide +kernel
theorem pf_94_141 : tPf 94 141 = some (8, (0, 0)) := by decide +kernel
theorem pf_95_141 : tPf 95 141 = some (8, (0, 0)) := by decide +kernel
theorem pf_95_158 : tPf 95 158 = some (8, (2, 0)) := by decide +kernel
theorem pf_96_141 : tPf 96 141 = some (8, (0, 0)) := by decide +kernel
theorem pf_96_145 : tPf 96 145 = some (8, (1, 0)) := by decide +kernel
theorem pf_96_316 : tPf 96 316 = some (8, (57, 3)) := by decide +kernel
theorem pf_97_161 : tPf 97 161 = some (8, (6, 0)) := by decide +kernel
theorem pf_97_164 : tPf 97 164 = some (8, (5, 0)) := by decide +kernel
theorem pf_97_167 : tPf 97 167 = some (8, (4, 0)) := by decide +kernel
theorem pf_97_174 : tPf 97 174 = some (8, (14, 0)) := by decide +kernel
theorem pf_98_174 : tPf 98 174 = some (8, (14, 0)) := by decide +kernel
theorem pf_99_161 : tPf 99 161 = some (8, (6, 0)) := by decide +kernel
theorem pf_100_145 : tPf 100 145 = some (8, (1, 0)) := by decide +kernel
theorem pf_102_167 : tPf 102 167 = some (8, (4, 0)) := by decide +kernel
theorem pf_103_161 : tPf 103 161 = some (8, (6, 0)) := by decide +kernel
theorem pf_105_161 : tPf 105 161 = some (8, (6, 0)) := by decide +kernel
theorem pf_106_161 : tPf 106 161 = some (8, (6, 0)) := by decide +kernel
theorem pf_107_161 : tPf 107 161 = some (8, (6, 0)) := by decide +kernel
theorem pf_107_174 : tPf 107 174 = some (8, (14, 0)) := by decide +kernel
theorem pf_108_209 : tPf 108 209 = some (8, (28, 0)) := by decide +kernel
theorem pf_108_222 : tPf 108 222 = some (8, (34, 0)) := by decide +kernel
theorem pf_110_215 : tPf 110 215 = some (8, (30, 3)) := by decide +kernel
theorem pf_111_215 : tPf 111 215 = some (8, (30, 3)) := by decide +kernel
theorem pf_112_215 : tPf 112 215 = some (8, (30, 3)) := by decide +kernel
theorem pf_113_215 : tPf 113 215 = some (8, (30, 3)) := by decide +kernel
theorem pf_113_239 : tPf 113 239 = some (8, (37, 0)) := by decide +kernel
theorem pf_113_245 : tPf 113 245 = some (8, (39, 0)) := by decide +kernel
theorem pf_113_248 : tPf 113 248 = some (8, (38, 0)) := by decide +kernel
theorem pf_114_245 : tPf 114 245 = some (8, (39, 0)) := by decide +kernel
theorem pf_115_245 : tPf 115 245 = some (8, (39, 0)) := by decide +kernel
theorem pf_115_274 : tPf 115 274 = some (8, (48, 0)) := by decide +kernel
theorem pf_116_248 : tPf 116 248 = some (8, (38, 0)) := by decide +kernel
theorem pf_118_215 : tPf 118 215 = some (8, (30, 3)) := by decide +kernel
theorem pf_118_239 : tPf 118 239 = some (8, (37, 0)) := by decide +kernel
theorem pf_123_219 : tPf 123 219 = some (8, (49, 0)) := by decide +kernel
theorem pf_123_239 : tPf 123 239 = some (8, (37, 0)) := by decide +kernel
theorem pf_123_248 : tPf 123 248 = some (8, (38, 0)) := by decide +kernel
theorem pf_126_245 : tPf 126 245 = some (8, (39, 0)) := by decide +kernel
theorem pf_130_141 : tPf 130 141 = some (8, (0, 0)) := by decide +kernel
theorem pf_131_304 : tPf 131 304 = some (8, (65, 0)) := by decide +kernel
theorem pf_131_307 : tPf 131 307 = some (8, (66, 0)) := by decide +kernel
theorem pf_134_141 : tPf 134 141 = some (8, (0, 0)) := by decide +kernel
theorem pf_135_141 : tPf 135 141 = some (8, (0, 0)) := by decide +kernel
theorem pf_136_212 : tPf 136 212 = some (8, (29, 0)) := by decide +kernel
theorem pf_139_209 : tPf 139 209 = some (8, (28, 0)) := by decide +kernel
theorem pf_139_215 : tPf 139 215 = some (8, (30, 3)) := by decide +kernel
theorem pf_140_141 : tPf 140 141 = some (8, (0, 0)) := by decide +kernel
theorem pf_141_141 : tPf 141 141 = some (8, (0, 0)) := by decide +kernel
theorem pf_142_141 : tPf 142 141 = some (8, (0, 0)) := by decide +kernel
theorem pf_143_141 : tPf 143 141 = some (8, (0, 0)) := by decide +kernel
theorem pf_145_141 : tPf 145 141 = some (8, (0, 0)) := by decide +kernel
theorem pf_146_141 : tPf 146 141 = some (8, (0, 0)) := by decide +kernel
theorem pf_148_141 : tPf 148 141 = some (8, (0, 0)) := by decide +kernel
theorem pf_148_316 : tPf 148 316 = some (8, (57, 3)) := by decide +kernel
theorem pf_148_347 : tPf 148 347 = some (8, (52, 0)) := by decide +kernel
theorem pf_148_353 : tPf 148 353 = some (8, (55, 0)) := by decide +kernel
theorem pf_148_356 : tPf 148 356 = some (8, (53, 0)) := by decide +kernel
theorem pf_148_359 : tPf 148 359 = some (8, (54, 0)) := by decide +kernel
theorem pf_148_365 : tPf 148 365 = some (8, (58, 3)) := by decide +kernel
theorem pf_149_347 : tPf 149 347 = some (8, (52, 0)) := by decide +kernel
theorem pf_149_350 : tPf 149 350 = some (8, (56, 0)) := by decide +kernel
theorem pf_149_353 : tPf 149 353 = some (8, (55, 0)) := by decide +kernel
theorem pf_150_141 : tPf 150 141 = some (8, (0, 0)) := by decide +kernel
theorem lm_0_3 : tLm 0 3 = some (500, 1) := by decide +kernel
theorem lm_0_15 : tLm 0 15 = some (68, 1) := by decide +kernel
theorem lm_0_22 : tLm 0 22 = some (57, 1) := by decide +kernel
theorem lm_0_29 : tLm 0 29 = some (44, 1) := by decide +kernel
theorem lm_0_39 : tLm 0 39 = some (32, 1) := by decide +kernel
theorem lm_0_55 : tLm 0 55 = some (23, 1) := by decide +kernel
theorem lm_0_60 : tLm 0 60 = some (29, 1) := by decide +kernel
theorem lm_0_61 : tLm 0 61 = some (45, 1) := by decide +kernel
theorem lm_0_64 : tLm 0 64 = some (4, 2) := by decide +kernel
theorem lm_0_78 : tLm 0 78 = some (5, 2) := by decide +kernel
theorem lm_0_82 : tLm 0 82 = some (33, 1) := by decide +kernel
theorem lm_0_86 : tLm 0 86 = some (24, 1) := by decide +kernel
theorem lm_0_89 : tLm 0 89 = some (69, 3) := by decide +kernel
theorem lm_0_93 : tLm 0 93 = some (46, 2) := by decide +kernel
theorem lm_0_97 : tLm 0 97 = some (58, 3) := by decide +kernel
theorem lm_0_104 : tLm 0 104 = some (9, 1) := by decide +kernel
theorem lm_0_111 : tLm 0 111 = some (42, 2) := by decide +kernel
theorem lm_0_131 : tLm 0 131 = some (12, 2) := by decide +kernel
theorem lm_0_134 : tLm 0 134 = some (43, 1) := by decide +kernel
theorem lm_0_164 : tLm 0 164 = some (17, 1) := by decide +kernel
theorem lm_0_167 : tLm 0 167 = some (30, 3) := by decide +kernel
theorem lm_0_173 : tLm 0 173 = some (31, 2) := by decide +kernel
theorem lm_0_177 : tLm 0 177 = some (20, 1) := by decide +kernel
theorem lm_0_180 : tLm 0 180 = some (56, 3) := by decide +kernel
theorem lm_0_184 : tLm 0 184 = some (25, 5) := by decide +kernel
theorem lm_0_188 : tLm 0 188 = some (27, 3) := by decide +kernel
theorem lm_0_203 : tLm 0 203 = some (28, 1) := by decide +kernel
theorem lm_0_206 : tLm 0 206 = some (49, 5) := by decide +kernel
theorem lm_0_210 : tLm 0 210 = some (34, 3) := by decide +kernel
theorem lm_0_214 : tLm 0 214 = some (40, 3) := by decide +kernel
theorem lm_1_3 : tLm 1 3 = some (500, 1) := by decide +kernel
theorem lm_1_23 : tLm 1 23 = some (32, 1) := by decide +kernel
theorem lm_1_32 : tLm 1 32 = some (44, 1) := by decide +kernel
theorem lm_1_43 : tLm 1 43 = some (24, 1) := by decide +kernel
theorem lm_1_46 : tLm 1 46 = some (50, 2) := by decide +kernel
theorem lm_1_50 : tLm 1 50 = some (34, 3) := by decide +kernel
theorem lm_1_55 : tLm 1 55 = some (49, 5) := by decide +kernel
theorem lm_1_59 : tLm 1 59 = some (58, 3) := by decide +kernel
theorem lm_1_65 : tLm 1 65 = some (26, 2) := by decide +kernel
theorem lm_1_73 : tLm 1 73 = some (31, 2) := by decide +kernel
theorem lm_1_79 : tLm 1 79 = some (56, 3) := by decide +kernel
theorem lm_2_3 : tLm 2 3 = some (500, 1) := by decide +kernel
theorem lm_2_15 : tLm 2 15 = some (164, 2) := by decide +kernel
theorem lm_2_25 : tLm 2 25 = some (501, 5) := by decide +kernel
theorem lm_3_3 : tLm 3 3 = some (500, 1) := by decide +kernel
theorem lm_3_43 : tLm 3 43 = some (35, 3) := by decide +kernel
theorem lm_3_47 : tLm 3 47 = some (37, 3) := by decide +kernel
theorem lm_3_50 : tLm 3 50 = some (38, 3) := by decide +kernel
theorem lm_3_53 : tLm 3 53 = some (39, 3) := by decide +kernel
theorem lm_3_62 : tLm 3 62 = some (85, 2) := by decide +kernel
theorem lm_3_72 : tLm 3 72 = some (36, 4) := by decide +kernel
theorem lm_3_79 : tLm 3 79 = some (41, 4) := by decide +kernel
theorem lm_3_83 : tLm 3 83 = some (165, 2) := by decide +kernel
theorem lm_4_3 : tLm 4 3 = some (500, 1) := by decide +kernel
theorem lm_4_11 : tLm 4 11 = some (83, 2) := by decide +kernel
theorem lm_4_28 : tLm 4 28 = some (29, 1) := by decide +kernel
theorem lm_4_51 : tLm 4 51 = some (86, 2) := by decide +kernel
theorem lm_4_55 : tLm 4 55 = some (30, 3) := by decide +kernel
theorem lm_4_59 : tLm 4 59 = some (45, 1) := by decide +kernel
theorem lm_4_65 : tLm 4 65 = some (47, 7) := by decide +kernel
theorem lm_4_69 : tLm 4 69 = some (50, 2) := by decide +kernel
theorem lm_4_78 : tLm 4 78 = some (85, 2) := by decide +kernel
theorem lm_4_85 : tLm 4 85 = some (51, 4) := by decide +kernel
theorem lm_4_102 : tLm 4 102 = some (87, 2) := by decide +kernel
theorem lm_4_108 : tLm 4 108 = some (52, 3) := by decide +kernel
theorem lm_4_112 : tLm 4 112 = some (53, 2) := by decide +kernel
theorem lm_4_115 : tLm 4 115 = some (54, 3) := by decide +kernel
theorem lm_4_121 : tLm 4 121 = some (55, 2) := by decide +kernel
theorem lm_4_124 : tLm 4 124 = some (8, 3) := by decide +kernel
theorem lm_4_128 : tLm 4 128 = some (82, 2) := by decide +kernel
theorem lm_4_131 : tLm 4 131 = some (88, 3) := by decide +kernel
theorem lm_4_136 : tLm 4 136 = some (7, 2) := by decide +kernel
theorem lm_4_140 : tLm 4 140 = some (48, 2) := by decide +kernel
theorem lm_4_144 : tLm 4 144 = some (84, 6) := by decide +kernel
theorem lm_5_3 : tLm 5 3 = some (500, 1) := by decide +kernel
theorem lm_5_36 : tLm 5 36 = some (59, 5) := by decide +kernel
theorem lm_5_46 : tLm 5 46 = some (30, 3) := by decide +kernel
theorem lm_5_67 : tLm 5 67 = some (60, 2) := by decide +kernel
theorem lm_5_74 : tLm 5 74 = some (61, 3) := by decide +kernel
theorem lm_5_87 : tLm 5 87 = some (63, 5) := by decide +kernel
theorem lm_5_94 : tLm 5 94 = some (66, 4) := by decide +kernel
theorem lm_5_105 : tLm 5 105 = some (8, 3) := by decide +kernel
theorem lm_5_109 : tLm 5 109 = some (64, 4) := by decide +kernel
theorem lm_5_113 : tLm 5 113 = some (82, 2) := by decide +kernel
theorem lm_5_117 : tLm 5 117 = some (65, 3) := by decide +kernel
theorem lm_5_127 : tLm 5 127 = some (503, 2) := by decide +kernel
theorem lm_5_133 : tLm 5 133 = some (7, 2) := by decide +kernel
theorem lm_5_137 : tLm 5 137 = some (62, 5) := by decide +kernel
theorem lm_5_141 : tLm 5 141 = some (164, 2) := by decide +kernel
theorem lm_5_147 : tLm 5 147 = some (67, 3) := by decide +kernel
theorem lm_5_151 : tLm 5 151 = some (501, 5) := by decide +kernel
theorem lm_6_3 : tLm 6 3 = some (500, 1) := by decide +kernel
theorem lm_6_29 : tLm 6 29 = some (163, 2) := by decide +kernel
theorem lm_6_45 : tLm 6 45 = some (70, 3) := by decide +kernel
theorem lm_6_52 : tLm 6 52 = some (71, 3) := by decide +kernel
theorem lm_6_58 : tLm 6 58 = some (72, 1) := by decide +kernel
theorem lm_6_62 : tLm 6 62 = some (73, 2) := by decide +kernel
theorem lm_6_66 : tLm 6 66 = some (74, 2) := by decide +kernel
theorem lm_6_70 : tLm 6 70 = some (79, 3) := by decide +kernel
theorem lm_6_73 : tLm 6 73 = some (80, 3) := by decide +kernel
theorem lm_6_76 : tLm 6 76 = some (75, 3) := by decide +kernel
theorem lm_6_80 : tLm 6 80 = some (76, 2) := by decide +kernel
theorem lm_6_86 : tLm 6 86 = some (502, 2) := by decide +kernel
theorem lm_6_92 : tLm 6 92 = some (81, 1) := by decide +kernel
theorem lm_6_95 : tLm 6 95 = some (78, 1) := by decide +kernel
theorem lm_6_99 : tLm 6 99 = some (77, 1) := by decide +kernel
theorem lm_7_3 : tLm 7 3 = some (500, 1) := by decide +kernel
theorem lm_7_31 : tLm 7 31 = some (164, 2) := by decide +kernel
theorem lm_7_37 : tLm 7 37 = some (501, 5) := by decide +kernel
theorem lm_8_1 : tLm 8 1 = some (500, 1) := by decide +kernel
theorem lm_8_138 : tLm 8 138 = some (90, 1) := by decide +kernel
theorem lm_8_148 : tLm 8 148 = some (93, 3) := by decide +kernel
theorem lm_8_152 : tLm 8 152 = some (94, 2) := by decide +kernel
theorem lm_8_170 : tLm 8 170 = some (100, 2) := by decide +kernel
theorem lm_8_177 : tLm 8 177 = some (101, 1) := by decide +kernel
theorem lm_8_181 : tLm 8 181 = some (104, 1) := by decide +kernel
theorem lm_8_184 : tLm 8 184 = some (102, 3) := by decide +kernel
theorem lm_8_188 : tLm 8 188 = some (103, 1) := by decide +kernel
theorem lm_8_191 : tLm 8 191 = some (106, 2) := by decide +kernel
theorem lm_8_194 : tLm 8 194 = some (98, 4) := by decide +kernel
theorem lm_8_198 : tLm 8 198 = some (105, 2) := by decide +kernel
theorem lm_8_202 : tLm 8 202 = some (99, 1) := by decide +kernel
theorem lm_8_206 : tLm 8 206 = some (107, 1) := by decide +kernel
theorem lm_8_225 : tLm 8 225 = some (109, 3) := by decide +kernel
theorem lm_8_229 : tLm 8 229 = some (110, 3) := by decide +kernel
theorem lm_8_232 : tLm 8 232 = some (111, 3) := by decide +kernel
theorem lm_8_236 : tLm 8 236 = some (112, 4) := by decide +kernel
theorem lm_8_242 : tLm 8 242 = some (118, 2) := by decide +kernel
theorem lm_8_251 : tLm 8 251 = some (124, 3) := by decide +kernel
theorem lm_8_255 : tLm 8 255 = some (125, 3) := by decide +kernel
theorem lm_8_258 : tLm 8 258 = some (116, 1) := by decide +kernel
theorem lm_8_261 : tLm 8 261 = some (117, 2) := by decide +kernel
theorem lm_8_264 : tLm 8 264 = some (121, 4) := by decide +kernel
theorem lm_8_267 : tLm 8 267 = some (119, 1) := by decide +kernel
theorem lm_8_270 : tLm 8 270 = some (114, 5) := by decide +kernel
theorem lm_8_277 : tLm 8 277 = some (120, 4) := by decide +kernel
theorem lm_8_280 : tLm 8 280 = some (122, 4) := by decide +kernel
theorem lm_8_283 : tLm 8 283 = some (123, 3) := by decide +kernel
theorem lm_8_286 : tLm 8 286 = some (115, 2) := by decide +kernel
theorem lm_8_289 : tLm 8 289 = some (126, 2) := by decide +kernel
theorem lm_8_292 : tLm 8 292 = some (128, 2) := by decide +kernel
theorem lm_8_295 : tLm 8 295 = some (132, 2) := by decide +kernel
theorem lm_8_298 : tLm 8 298 = some (133, 2) := by decide +kernel
theorem lm_8_301 : tLm 8 301 = some (129, 3) := by decide +kernel
theorem lm_8_310 : tLm 8 310 = some (108, 4) := by decide +kernel
theorem lm_8_313 : tLm 8 313 = some (113, 1) := by decide +kernel
theorem lm_8_319 : tLm 8 319 = some (97, 1) := by decide +kernel
theorem lm_8_322 : tLm 8 322 = some (127, 1) := by decide +kernel
theorem lm_8_325 : tLm 8 325 = some (137, 2) := by decide +kernel
theorem lm_8_328 : tLm 8 328 = some (138, 1) := by decide +kernel
theorem lm_8_331 : tLm 8 331 = some (139, 2) := by decide +kernel
theorem lm_8_334 : tLm 8 334 = some (131, 2) := by decide +kernel
theorem lm_8_337 : tLm 8 337 = some (136, 1) := by decide +kernel
theorem lm_8_340 : tLm 8 340 = some (144, 2) := by decide +kernel
theorem lm_8_344 : tLm 8 344 = some (147, 3) := by decide +kernel
theorem lm_8_362 : tLm 8 362 = some (149, 4) := by decide +kernel
theorem lm_9_7 : tLm 9 7 = some (3, 3) := by decide +kernel
theorem lm_9_17 : tLm 9 17 = some (6, 1) := by decide +kernel
theorem lm_9_23 : tLm 9 23 = some (10, 3) := by decide +kernel
theorem lm_9_29 : tLm 9 29 = some (11, 2) := by decide +kernel
theorem lm_9_33 : tLm 9 33 = some (13, 2) := by decide +kernel
theorem lm_9_36 : tLm 9 36 = some (14, 2) := by decide +kernel
theorem lm_9_39 : tLm 9 39 = some (15, 2) := by decide +kernel
theorem lm_9_42 : tLm 9 42 = some (16, 2) := by decide +kernel
theorem lm_9_45 : tLm 9 45 = some (18, 2) := by decide +kernel
theorem lm_9_51 : tLm 9 51 = some (19, 3) := by decide +kernel
theorem lm_9_55 : tLm 9 55 = some (21, 4) := by decide +kernel
theorem lm_9_59 : tLm 9 59 = some (22, 2) := by decide +kernel
theorem lm_9_62 : tLm 9 62 = some (0, 1) := by decide +kernel
theorem lm_9_65 : tLm 9 65 = some (89, 1) := by decide +kernel
theorem lm_9_68 : tLm 9 68 = some (151, 4) := by decide +kernel
theorem lm_9_73 : tLm 9 73 = some (92, 3) := by decide +kernel
theorem lm_9_74 : tLm 9 74 = some (91, 1) := by decide +kernel
theorem lm_9_77 : tLm 9 77 = some (1, 1) := by decide +kernel
theorem lm_9_80 : tLm 9 80 = some (95, 1) := by decide +kernel
theorem lm_9_81 : tLm 9 81 = some (152, 2) := by decide +kernel
theorem lm_9_84 : tLm 9 84 = some (96, 1) := by decide +kernel
theorem lm_9_85 : tLm 9 85 = some (2, 1) := by decide +kernel
theorem lm_9_88 : tLm 9 88 = some (130, 1) := by decide +kernel
theorem lm_9_89 : tLm 9 89 = some (153, 4) := by decide +kernel
theorem lm_9_92 : tLm 9 92 = some (134, 3) := by decide +kernel
theorem lm_9_93 : tLm 9 93 = some (154, 3) := by decide +kernel
theorem lm_9_96 : tLm 9 96 = some (135, 2) := by decide +kernel
theorem lm_9_97 : tLm 9 97 = some (155, 3) := by decide +kernel
theorem lm_9_99 : tLm 9 99 = some (140, 2) := by decide +kernel
theorem lm_9_100 : tLm 9 100 = some (156, 3) := by decide +kernel
theorem lm_9_102 : tLm 9 102 = some (141, 2) := by decide +kernel
theorem lm_9_103 : tLm 9 103 = some (157, 3) := by decide +kernel
theorem lm_9_105 : tLm 9 105 = some (142, 2) := by decide +kernel
theorem lm_9_106 : tLm 9 106 = some (158, 3) := by decide +kernel
theorem lm_9_108 : tLm 9 108 = some (143, 2) := by decide +kernel
theorem lm_9_109 : tLm 9 109 = some (159, 3) := by decide +kernel
theorem lm_9_111 : tLm 9 111 = some (145, 2) := by decide +kernel
theorem lm_9_112 : tLm 9 112 = some (160, 4) := by decide +kernel
theorem lm_9_114 : tLm 9 114 = some (146, 3) := by decide +kernel
theorem lm_9_115 : tLm 9 115 = some (161, 5) := by decide +kernel
theorem lm_9_118 : tLm 9 118 = some (148, 4) := by decide +kernel
theorem lm_9_119 : tLm 9 119 = some (162, 3) := by decide +kernel
theorem lm_9_121 : tLm 9 121 = some (150, 2) := by decide +kernel
theorem lc_9_8 : tLc 9 8 = some (0, 11) := by decide +kernel
theorem lc_0_13 : tLc 0 13 = some (6, 8) := by decide +kernel
theorem lc_0_20 : tLc 0 20 = some (5, 7) := by decide +kernel
theorem lc_0_27 : tLc 0 27 = some (4, 6) := by decide +kernel
theorem lc_4_9 : tLc 4 9 = some (7, 6) := by decide +kernel
theorem lc_4_26 : tLc 4 26 = some (2, 2) := by decide +kernel
theorem lc_0_37 : tLc 0 37 = some (3, 5) := by decide +kernel
theorem lc_0_47 : tLc 0 47 = some (2, 2) := by decide +kernel
theorem lc_0_53 : tLc 0 53 = some (1, 7) := by decide +kernel
theorem lc_1_9 : tLc 1 9 = some (4, 6) := by decide +kernel
theorem lc_1_21 : tLc 1 21 = some (3, 5) := by decide +kernel
theorem lc_9_63 : tLc 9 63 = some (8, 67) := by decide +kernel
theorem lx_0_68 : tLx 0 68 = some (0, 6) := by decide +kernel
theorem lcn_0_68 : tLc 0 68 = none := by decide +kernel
theorem lx_0_75 : tLx 0 75 = some (1, 6) := by decide +kernel
theorem lcn_0_75 : tLc 0 75 = none := by decide +kernel
theorem lx_6_55 : tLx 6 55 = some (1, 6) := by decide +kernel
theorem lcn_6_55 : tLc 6 55 = none := by decide +kernel
theorem lx_6_49 : tLx 6 49 = some (0, 6) := by decide +kernel
theorem lcn_6_49 : tLc 6 49 = none := by decide +kernel
theorem lx_0_101 : tLx 0 101 = some (2, 6) := by decide +kernel
theorem lcn_0_101 : tLc 0 101 = none := by decide +kernel
theorem lx_0_115 : tLx 0 115 = some (3, 6) := by decide +kernel
theorem lcn_0_115 : tLc 0 115 = none := by decide +kernel
theorem lx_0_170 : tLx 0 170 = some (4, 6) := by decide +kernel
theorem lcn_0_170 : tLc 0 170 = none := by decide +kernel
end
section
/-! The classes, their fields; the words that the links stand for, by their places. Written by wip/whole/gen/mk05.py. -/
def cNm : Nat → String := fun c => match c with
  | 0 => "MovingBoxes"
  | 1 => "MovingBoxes$Explorer"
  | 2 => "MovingBoxes$Line"
  | 3 => "MovingBoxes$Redexes"
  | 4 => "MovingBoxes$State"
  | 5 => "MovingBoxes$Teller"
  | 6 => "MovingBoxes$Term"
  | 7 => "MovingBoxes$Things"
  | 8 => "MovingBoxesModel"
  | 9 => "MovingBoxesLaw"
  | 10 => "java/lang/Math"
  | _ => "java/lang/Integer"
def cNf (c : Nat) : Nat := [11, 7, 2, 5, 6, 7, 8, 6, 67].getD c 0
def cTb0 : u_T := fun k => match k with
  | 0 => ("MovingBoxes", "written", "[C", true)
  | 1 => ("MovingBoxes", "writtenLength", "I", false)
  | 2 => ("MovingBoxes", "term", "LMovingBoxes$Term;", true)
  | 3 => ("MovingBoxes", "teller", "LMovingBoxes$Teller;", true)
  | 4 => ("MovingBoxes", "state", "LMovingBoxes$State;", false)
  | 5 => ("MovingBoxes", "spare", "LMovingBoxes$State;", false)
  | 6 => ("MovingBoxes", "present", "LMovingBoxes$Redexes;", false)
  | 7 => ("MovingBoxes", "past", "LMovingBoxes$Redexes;", false)
  | 8 => ("MovingBoxes", "steps", "I", false)
  | 9 => ("MovingBoxes", "kept", "[LMovingBoxes$Line;", true)
  | _ => ("MovingBoxes", "explorer", "LMovingBoxes$Explorer;", true)
def cTy0 : Nat → FieldType := fun k => match k with
  | 0 => .array .char
  | 1 => .int
  | 2 => .object "MovingBoxes$Term"
  | 3 => .object "MovingBoxes$Teller"
  | 4 => .object "MovingBoxes$State"
  | 5 => .object "MovingBoxes$State"
  | 6 => .object "MovingBoxes$Redexes"
  | 7 => .object "MovingBoxes$Redexes"
  | 8 => .int
  | 9 => .array (.object "MovingBoxes$Line")
  | _ => .object "MovingBoxes$Explorer"
def cTb1 : u_T := fun k => match k with
  | 0 => ("MovingBoxes$Explorer", "found", "[LMovingBoxes$State;", true)
  | 1 => ("MovingBoxes$Explorer", "distance", "[I", true)
  | 2 => ("MovingBoxes$Explorer", "redexes", "LMovingBoxes$Redexes;", true)
  | 3 => ("MovingBoxes$Explorer", "size", "I", false)
  | 4 => ("MovingBoxes$Explorer", "isComplete", "Z", false)
  | 5 => ("MovingBoxes$Explorer", "stuck", "I", false)
  | _ => ("MovingBoxes$Explorer", "nearest", "I", false)
def cTy1 : Nat → FieldType := fun k => match k with
  | 0 => .array (.object "MovingBoxes$State")
  | 1 => .array .int
  | 2 => .object "MovingBoxes$Redexes"
  | 3 => .int
  | 4 => .boolean
  | 5 => .int
  | _ => .int
def cTb2 : u_T := fun k => match k with
  | 0 => ("MovingBoxes$Line", "letters", "[C", true)
  | _ => ("MovingBoxes$Line", "length", "I", false)
def cTy2 : Nat → FieldType := fun k => match k with
  | 0 => .array .char
  | _ => .int
def cTb3 : u_T := fun k => match k with
  | 0 => ("MovingBoxes$Redexes", "kind", "[I", true)
  | 1 => ("MovingBoxes$Redexes", "guard", "[I", true)
  | 2 => ("MovingBoxes$Redexes", "other", "[I", true)
  | 3 => ("MovingBoxes$Redexes", "since", "[I", true)
  | _ => ("MovingBoxes$Redexes", "size", "I", false)
def cTy3 : Nat → FieldType := fun k => match k with
  | 0 => .array .int
  | 1 => .array .int
  | 2 => .array .int
  | 3 => .array .int
  | _ => .int
def cTb4 : u_T := fun k => match k with
  | 0 => ("MovingBoxes$State", "places", "LMovingBoxes$Things;", true)
  | 1 => ("MovingBoxes$State", "guards", "LMovingBoxes$Things;", true)
  | 2 => ("MovingBoxes$State", "messages", "LMovingBoxes$Things;", true)
  | 3 => ("MovingBoxes$State", "text", "LMovingBoxes$Line;", true)
  | 4 => ("MovingBoxes$State", "nextNumber", "I", false)
  | _ => ("MovingBoxes$State", "isTooMuch", "Z", false)
def cTy4 : Nat → FieldType := fun k => match k with
  | 0 => .object "MovingBoxes$Things"
  | 1 => .object "MovingBoxes$Things"
  | 2 => .object "MovingBoxes$Things"
  | 3 => .object "MovingBoxes$Line"
  | 4 => .int
  | _ => .boolean
def cTb5 : u_T := fun k => match k with
  | 0 => ("MovingBoxes$Teller", "letters", "[C", true)
  | 1 => ("MovingBoxes$Teller", "ordered", "[C", true)
  | 2 => ("MovingBoxes$Teller", "length", "I", false)
  | 3 => ("MovingBoxes$Teller", "begin", "[I", true)
  | 4 => ("MovingBoxes$Teller", "end", "[I", true)
  | 5 => ("MovingBoxes$Teller", "pieces", "I", false)
  | _ => ("MovingBoxes$Teller", "isTooLong", "Z", false)
def cTy5 : Nat → FieldType := fun k => match k with
  | 0 => .array .char
  | 1 => .array .char
  | 2 => .int
  | 3 => .array .int
  | 4 => .array .int
  | 5 => .int
  | _ => .boolean
def cTb6 : u_T := fun k => match k with
  | 0 => ("MovingBoxes$Term", "kind", "[I", true)
  | 1 => ("MovingBoxes$Term", "name", "[C", true)
  | 2 => ("MovingBoxes$Term", "isReplica", "[Z", true)
  | 3 => ("MovingBoxes$Term", "end", "[I", true)
  | 4 => ("MovingBoxes$Term", "size", "I", false)
  | 5 => ("MovingBoxes$Term", "letters", "[C", true)
  | 6 => ("MovingBoxes$Term", "length", "I", false)
  | _ => ("MovingBoxes$Term", "at", "I", false)
def cTy6 : Nat → FieldType := fun k => match k with
  | 0 => .array .int
  | 1 => .array .char
  | 2 => .array .boolean
  | 3 => .array .int
  | 4 => .int
  | 5 => .array .char
  | 6 => .int
  | _ => .int
def cTb7 : u_T := fun k => match k with
  | 0 => ("MovingBoxes$Things", "number", "[I", true)
  | 1 => ("MovingBoxes$Things", "in", "[I", true)
  | 2 => ("MovingBoxes$Things", "name", "[I", true)
  | 3 => ("MovingBoxes$Things", "node", "[I", true)
  | 4 => ("MovingBoxes$Things", "meanings", "[I", true)
  | _ => ("MovingBoxes$Things", "size", "I", false)
def cTy7 : Nat → FieldType := fun k => match k with
  | 0 => .array .int
  | 1 => .array .int
  | 2 => .array .int
  | 3 => .array .int
  | 4 => .array .int
  | _ => .int
def cTb8 : u_T := fun k => match k with
  | 0 => ("MovingBoxesModel", "thrown", "I", false)
  | 1 => ("MovingBoxesModel", "bad", "I", false)
  | 2 => ("MovingBoxesModel", "length", "I", false)
  | 3 => ("MovingBoxesModel", "text", "[I", true)
  | 4 => ("MovingBoxesModel", "nodes", "I", false)
  | 5 => ("MovingBoxesModel", "chars", "I", false)
  | 6 => ("MovingBoxesModel", "at", "I", false)
  | 7 => ("MovingBoxesModel", "plain", "[I", true)
  | 8 => ("MovingBoxesModel", "kind", "[I", true)
  | 9 => ("MovingBoxesModel", "replica", "[Z", true)
  | 10 => ("MovingBoxesModel", "name", "[I", true)
  | 11 => ("MovingBoxesModel", "first", "[I", true)
  | 12 => ("MovingBoxesModel", "last", "[I", true)
  | 13 => ("MovingBoxesModel", "next", "[I", true)
  | 14 => ("MovingBoxesModel", "open", "I", false)
  | 15 => ("MovingBoxesModel", "sort", "[I", true)
  | 16 => ("MovingBoxesModel", "owner", "[I", true)
  | 17 => ("MovingBoxesModel", "bound", "[I", true)
  | 18 => ("MovingBoxesModel", "placeNumber", "[I", true)
  | 19 => ("MovingBoxesModel", "placeName", "[I", true)
  | 20 => ("MovingBoxesModel", "inside", "[I", true)
  | 21 => ("MovingBoxesModel", "guardNumber", "[I", true)
  | 22 => ("MovingBoxesModel", "guardNode", "[I", true)
  | 23 => ("MovingBoxesModel", "guardAt", "[I", true)
  | 24 => ("MovingBoxesModel", "meaning", "[I", true)
  | 25 => ("MovingBoxesModel", "messageNumber", "[I", true)
  | 26 => ("MovingBoxesModel", "messageName", "[I", true)
  | 27 => ("MovingBoxesModel", "messageAt", "[I", true)
  | 28 => ("MovingBoxesModel", "number", "I", false)
  | 29 => ("MovingBoxesModel", "steps", "I", false)
  | 30 => ("MovingBoxesModel", "full", "Z", false)
  | 31 => ("MovingBoxesModel", "came", "[I", true)
  | 32 => ("MovingBoxesModel", "whoGuard", "[I", true)
  | 33 => ("MovingBoxesModel", "whoOther", "[I", true)
  | 34 => ("MovingBoxesModel", "runs", "I", false)
  | 35 => ("MovingBoxesModel", "runNode", "[I", true)
  | 36 => ("MovingBoxesModel", "runPlace", "[I", true)
  | 37 => ("MovingBoxesModel", "used", "I", false)
  | 38 => ("MovingBoxesModel", "strings", "I", false)
  | 39 => ("MovingBoxesModel", "frames", "I", false)
  | 40 => ("MovingBoxesModel", "pool", "[I", true)
  | 41 => ("MovingBoxesModel", "from", "[I", true)
  | 42 => ("MovingBoxesModel", "size", "[I", true)
  | 43 => ("MovingBoxesModel", "frameKind", "[I", true)
  | 44 => ("MovingBoxesModel", "frameThing", "[I", true)
  | 45 => ("MovingBoxesModel", "frameNext", "[I", true)
  | 46 => ("MovingBoxesModel", "frameBase", "[I", true)
  | 47 => ("MovingBoxesModel", "frameMask", "[I", true)
  | 48 => ("MovingBoxesModel", "guardOf", "I", false)
  | 49 => ("MovingBoxesModel", "stateSize", "I", false)
  | 50 => ("MovingBoxesModel", "keptSize", "[I", true)
  | 51 => ("MovingBoxesModel", "kept", "[J", true)
  | 52 => ("MovingBoxesModel", "found", "I", false)
  | 53 => ("MovingBoxesModel", "gone", "I", false)
  | 54 => ("MovingBoxesModel", "still", "I", false)
  | 55 => ("MovingBoxesModel", "shown", "I", false)
  | 56 => ("MovingBoxesModel", "greatest", "I", false)
  | 57 => ("MovingBoxesModel", "explored", "Z", false)
  | 58 => ("MovingBoxesModel", "everything", "Z", false)
  | 59 => ("MovingBoxesModel", "states", "[I", true)
  | 60 => ("MovingBoxesModel", "stateSizes", "[I", true)
  | 61 => ("MovingBoxesModel", "stateTexts", "[J", true)
  | 62 => ("MovingBoxesModel", "distances", "[I", true)
  | 63 => ("MovingBoxesModel", "put", "[I", true)
  | 64 => ("MovingBoxesModel", "heads", "[I", true)
  | 65 => ("MovingBoxesModel", "redexGuard", "I", false)
  | _ => ("MovingBoxesModel", "redexOther", "I", false)
def cTy8 : Nat → FieldType := fun k => match k with
  | 0 => .int
  | 1 => .int
  | 2 => .int
  | 3 => .array .int
  | 4 => .int
  | 5 => .int
  | 6 => .int
  | 7 => .array .int
  | 8 => .array .int
  | 9 => .array .boolean
  | 10 => .array .int
  | 11 => .array .int
  | 12 => .array .int
  | 13 => .array .int
  | 14 => .int
  | 15 => .array .int
  | 16 => .array .int
  | 17 => .array .int
  | 18 => .array .int
  | 19 => .array .int
  | 20 => .array .int
  | 21 => .array .int
  | 22 => .array .int
  | 23 => .array .int
  | 24 => .array .int
  | 25 => .array .int
  | 26 => .array .int
  | 27 => .array .int
  | 28 => .int
  | 29 => .int
  | 30 => .boolean
  | 31 => .array .int
  | 32 => .array .int
  | 33 => .array .int
  | 34 => .int
  | 35 => .array .int
  | 36 => .array .int
  | 37 => .int
  | 38 => .int
  | 39 => .int
  | 40 => .array .int
  | 41 => .array .int
  | 42 => .array .int
  | 43 => .array .int
  | 44 => .array .int
  | 45 => .array .int
  | 46 => .array .int
  | 47 => .array .int
  | 48 => .int
  | 49 => .int
  | 50 => .array .int
  | 51 => .array .long
  | 52 => .int
  | 53 => .int
  | 54 => .int
  | 55 => .int
  | 56 => .int
  | 57 => .boolean
  | 58 => .boolean
  | 59 => .array .int
  | 60 => .array .int
  | 61 => .array .long
  | 62 => .array .int
  | 63 => .array .int
  | 64 => .array .int
  | 65 => .int
  | _ => .int
def cTb : Nat → u_T := fun c => match c with
  | 0 => cTb0
  | 1 => cTb1
  | 2 => cTb2
  | 3 => cTb3
  | 4 => cTb4
  | 5 => cTb5
  | 6 => cTb6
  | 7 => cTb7
  | _ => cTb8
def cTy : Nat → Nat → FieldType := fun c => match c with
  | 0 => cTy0
  | 1 => cTy1
  | 2 => cTy2
  | 3 => cTy3
  | 4 => cTy4
  | 5 => cTy5
  | 6 => cTy6
  | 7 => cTy7
  | _ => cTy8
def tyFL : List (List Nat) := [[2, 0, 2, 2, 2, 2, 2, 2, 0, 2, 2], [2, 2, 2, 0, 3, 0, 0], [2, 0], [2, 2, 2, 2, 0], [2, 2, 2, 2, 0, 3], [2, 2, 0, 2, 2, 0, 3], [2, 2, 2, 2, 0, 2, 0, 0], [2, 2, 2, 2, 2, 0], [0, 0, 0, 2, 0, 0, 0, 2, 2, 2, 2, 2, 2, 2, 0, 2, 2, 2, 2, 2, 2, 2, 2, 2, 2, 2, 2, 2, 0, 0, 3, 2, 2, 2, 0, 2, 2, 0, 0, 0, 2, 2, 2, 2, 2, 2, 2, 2, 0, 0, 2, 2, 0, 0, 0, 0, 0, 3, 3, 2, 2, 2, 2, 2, 2, 0, 0]]
def tyF (c k : Nat) : Nat := (tyFL.getD c []).getD k 0
def clT : List vw_C := (List.range 9).map fun c => (cNm c, cTb c, cNf c)
theorem clT_at {c : Nat} (h : c < 9) : clT[c]? = some (cNm c, cTb c, cNf c) := by
  unfold clT
  rw [List.getElem?_map, List.getElem?_range h]
  rfl
theorem tm {i : Nat} {w : Cond} (h : tables_1[i]? = some w) : w ∈ lw_tbl := List.mem_append_right _ (List.mem_of_getElem? h)
theorem lk2_mem {α : Type} : ∀ {l : List (Nat × (Nat × α))} {a b : Nat} {v : α}, lk2 l a b = some v → (a, (b, v)) ∈ l := by
  intro l
  induction l with
  | nil => intro a b v h; cases h
  | cons q t ih =>
    intro a b v h
    obtain ⟨x, y, w⟩ := q
    unfold lk2 at h
    split at h
    · rename_i hc
      cases h
      rw [hc.1, hc.2]
      exact List.mem_cons_self
    · exact List.mem_cons_of_mem _ (ih h)
theorem zip_all {α β : Type} {l : List α} {r : List β} {f : α × β → Bool} (h : (l.zip r).all f = true) (hl : l.length = r.length) {x : α} (hx : x ∈ l) : ∃ y, f (x, y) = true := by
  obtain ⟨i, hi⟩ := List.getElem?_of_mem hx
  have hlt : i < l.length := (List.getElem?_eq_some_iff.mp hi).1
  have h2 : (l.zip r)[i]? = some (x, r[i]'(hl ▸ hlt)) := by
    rw [List.getElem?_zip_eq_some]
    exact ⟨hi, List.getElem?_eq_getElem _⟩
  exact ⟨_, List.all_eq_true.mp h _ (List.mem_of_getElem? h2)⟩
def layP : List (List Nat) := [[287, 289, 291, 293, 295, 297, 299, 301, 303, 305, 307], [256, 258, 260, 262, 264, 266, 268], [165, 167], [221, 223, 225, 227, 229], [189, 191, 193, 195, 197, 199], [90, 92, 94, 96, 98, 100, 102], [57, 59, 61, 63, 65, 67, 69, 71], [140, 142, 144, 146, 148, 150], [1004, 1006, 1008, 1010, 1012, 1014, 1016, 1018, 1020, 1022, 1024, 1026, 1028, 1030, 1032, 1034, 1036, 1038, 1040, 1042, 1044, 1046, 1048, 1050, 1052, 1054, 1056, 1058, 1060, 1062, 1064, 1066, 1068, 1070, 1072, 1074, 1076, 1078, 1080, 1082, 1084, 1086, 1088, 1090, 1092, 1094, 1096, 1098, 1100, 1102, 1104, 1106, 1108, 1110, 1112, 1114, 1116, 1118, 1120, 1122, 1124, 1126, 1128, 1130, 1132, 1134, 1136]]
theorem lay_ok : ∀ c, c < 9 → ∀ k, k < cNf c → tables_1[(layP.getD c []).getD k 0]? = some (u_lay (cNm c) (cTb c) k) := by decide +kernel
theorem lay_in {c : Nat} (h : c < 9) : ∀ w ∈ u_ws (cNm c) (cTb c) (cNf c), w ∈ lw_tbl := by
  intro w hw
  obtain ⟨k, hk, rfl⟩ := List.mem_map.mp hw
  exact tm (lay_ok c h k (List.mem_range.mp hk))
theorem cTy_ok : ∀ c, c < 9 → ∀ k, k < cNf c → parseFieldDescriptor (cTb c k).2.2.1 = some (cTy c k) := by decide +kernel
theorem cNm_ne : ∀ c, c < 9 → ∀ a, a < cNf c → ∀ b, b < cNf c → a ≠ b → (cTb c a).2.1 ≠ (cTb c b).2.1 := by decide +kernel
theorem cOwn : ∀ c, c < 9 → ∀ k, k < cNf c → (cTb c k).1 = cNm c := by decide +kernel
def iniP : List Nat := [1, 8, 6, 7, 4, 3, 2, 5, 9, 0, 17, 23]
def insP : List Nat := [27, 235, 154, 203, 106, 78, 35, 112, 928]
theorem ini_ok : ∀ c, c < 12 → tables_1[iniP.getD c 0]? = some (.initialized (cNm c)) := by decide +kernel
theorem ins_ok : ∀ c, c < 9 → tables_1[insP.getD c 0]? = some (.instantiable (cNm c) (cNf c)) := by decide +kernel
def lfP : List (Nat × Bool) := [(276, false), (278, false), (279, false), (280, false), (281, false), (282, false), (283, false), (285, false), (286, false), (277, false), (284, false), (53, true), (220, true), (209, true), (212, true), (215, true), (217, true), (173, true), (139, true), (177, true), (181, true), (187, true), (185, true), (164, true), (161, true), (249, true), (251, true), (253, true), (255, true), (245, false), (246, false), (247, false), (254, false), (248, false), (250, false), (252, false), (219, true), (184, true), (159, false), (162, false), (208, false), (210, false), (213, false), (216, false), (218, false), (176, true), (138, true), (42, true), (130, true), (172, true), (122, true), (126, true), (119, true), (180, true), (170, false), (174, false), (178, false), (182, false), (136, true), (186, false), (188, false), (160, true), (163, true), (52, true), (211, true), (214, true), (131, true), (123, true), (134, true), (49, true), (43, true), (46, true), (127, true), (83, false), (84, false), (86, false), (87, false), (85, false), (88, false), (89, false), (183, true), (171, true), (137, true), (121, true), (125, true), (118, true), (175, true), (129, true), (133, true), (179, true), (41, true), (45, true), (48, true), (40, false), (44, false), (47, false), (50, false), (54, false), (55, false), (51, false), (56, false), (117, false), (120, false), (124, false), (128, false), (132, false), (135, false), (940, false), (944, false), (945, false), (946, false), (947, false), (948, false), (949, false), (950, false), (952, false), (953, false), (954, false), (955, false), (956, false), (957, false), (958, false), (959, false), (960, false), (961, false), (962, false), (963, false), (964, false), (968, false), (969, false), (970, false), (972, false), (973, false), (977, false), (978, false), (979, false), (980, false), (981, false), (982, false), (983, false), (984, false), (987, false), (988, false), (996, false), (997, false), (998, false), (999, false), (1000, false), (1001, false), (937, false), (938, false), (939, false), (943, false), (942, false), (941, false), (951, false), (965, false), (966, false), (967, false), (986, false), (971, false), (974, false), (976, false), (975, false), (985, false), (1002, false), (1003, false), (994, false), (989, false), (993, false), (992, false), (990, false), (991, false), (995, false)]
def lfC (q : (Nat × (Nat × (Nat × (Nat × Nat)))) × (Nat × Bool)) : Bool :=
  decide (q.1.2.2.1 < 9) && decide (q.1.2.2.2.1 < cNf q.1.2.2.1) && (tyF q.1.2.2.1 q.1.2.2.2.1 == q.1.2.2.2.2) &&
  (if q.2.2 = true then decide (tables_1[q.2.1]? = some (.fieldLinkNest (cNm q.1.1) q.1.2.1 (cNm q.1.2.2.1) (cTb q.1.2.2.1 q.1.2.2.2.1).2.1 (cTb q.1.2.2.1 q.1.2.2.2.1).2.2.1 "MovingBoxes"))
   else decide (tables_1[q.2.1]? = some (.fieldLink (cNm q.1.1) q.1.2.1 (cNm q.1.2.2.1) (cTb q.1.2.2.1 q.1.2.2.2.1).2.1 (cTb q.1.2.2.1 q.1.2.2.2.1).2.2.1)))
theorem lf_all : (tLfL.zip lfP).all lfC = true := by decide +kernel
theorem lf_ok {o k c f t : Nat} (h : tLf o k = some (c, (f, t))) : c < 9 ∧ f < cNf c ∧ tyF c f = t ∧
    (Cond.fieldLinkNest (cNm o) k (cNm c) (cTb c f).2.1 (cTb c f).2.2.1 "MovingBoxes" ∈ lw_tbl ∨ Cond.fieldLink (cNm o) k (cNm c) (cTb c f).2.1 (cTb c f).2.2.1 ∈ lw_tbl) := by
  obtain ⟨y, hy⟩ := zip_all lf_all rfl (lk2_mem h)
  simp only [lfC, Bool.and_eq_true, decide_eq_true_eq, beq_iff_eq] at hy
  obtain ⟨⟨⟨h1, h2⟩, h3⟩, h4⟩ := hy
  refine ⟨h1, h2, h3, ?_⟩
  split at h4
  · exact Or.inl (tm (of_decide_eq_true h4))
  · exact Or.inr (tm (of_decide_eq_true h4))
def lcP : List Nat := [26, 34, 77, 105, 111, 153, 202, 232, 234, 240, 242, 927]
def lcC (q : (Nat × (Nat × (Nat × Nat))) × Nat) : Bool := decide (q.1.2.2.1 < 9) && (q.1.2.2.2 == cNf q.1.2.2.1) && decide (tables_1[q.2]? = some (.classLink (cNm q.1.1) q.1.2.1 (cNm q.1.2.2.1)))
theorem lc_all : (tLcL.zip lcP).all lcC = true := by decide +kernel
theorem lc_ok {o k c n : Nat} (h : tLc o k = some (c, n)) : c < 9 ∧ n = cNf c ∧ Cond.classLink (cNm o) k (cNm c) ∈ lw_tbl := by
  obtain ⟨y, hy⟩ := zip_all lc_all rfl (lk2_mem h)
  simp only [lcC, Bool.and_eq_true, decide_eq_true_eq, beq_iff_eq] at hy
  exact ⟨hy.1.1, hy.1.2, tm hy.2⟩
def laP : List (Nat × Nat) := [(232, 233), (240, 241)]
def laC (q : (Nat × (Nat × Nat)) × (Nat × Nat)) : Bool := (q.1.2.2 == 2 || q.1.2.2 == 4) && decide (tables_1[q.2.1]? = some (.classLink (cNm q.1.1) q.1.2.1 (cNm q.1.2.2))) && decide (tables_1[q.2.2]? = some (.arrayOver (.object (cNm q.1.2.2))))
theorem la_all : (tLaL.zip laP).all laC = true := by decide +kernel
theorem la_ok {o k c : Nat} (h : tLa o k = some c) : (c = 2 ∨ c = 4) ∧ Cond.classLink (cNm o) k (cNm c) ∈ lw_tbl ∧ Cond.arrayOver (.object (cNm c)) ∈ lw_tbl := by
  obtain ⟨y, hy⟩ := zip_all la_all rfl (lk2_mem h)
  simp only [laC, Bool.and_eq_true, Bool.or_eq_true, decide_eq_true_eq, beq_iff_eq] at hy
  exact ⟨hy.1.1, tm hy.1.2, tm hy.2⟩
def llP : List Nat := [1155, 1379]
def llC (q : (Nat × (Nat × Int64)) × Nat) : Bool := decide (tables_1[q.2]? = some (.constantLong (cNm q.1.1) q.1.2.1 q.1.2.2))
theorem ll_all : (tLlL.zip llP).all llC = true := by decide +kernel
theorem ll_ok {o k : Nat} {v : Int64} (h : tLl o k = some v) : Cond.constantLong (cNm o) k v ∈ lw_tbl := by
  obtain ⟨y, hy⟩ := zip_all ll_all rfl (lk2_mem h)
  simp only [llC, decide_eq_true_eq] at hy
  exact tm hy
def aT : Nat → FieldType := fun k => match k with
  | 0 => .int
  | 1 => .char
  | 2 => .boolean
  | 3 => .long
  | k + 4 => .object (cNm k)
def okK (k : Nat) : Prop := k < 4 ∨ k = 6 ∨ k = 8
def arP : List Nat := [75, 74, 76, 1139]
theorem ar_ok : ∀ k, k < 4 → tables_1[arP.getD k 0]? = some (.arrayClass (aT k)) := by decide +kernel
theorem ao_2 : Cond.arrayOver (.object (cNm 2)) ∈ lw_tbl := tm (i := 233) (by decide +kernel)
theorem ao_4 : Cond.arrayOver (.object (cNm 4)) ∈ lw_tbl := tm (i := 241) (by decide +kernel)
end
section
/-! The methods: names, kinds, the words of their code and of their calls. Written by wip/whole/gen/mk06.py. -/
def yN : Nat → MethodName := fun j => match j with
  | 0 => ⟨"MovingBoxes", "<init>", "()V"⟩
  | 1 => ⟨"MovingBoxes", "erase", "()I"⟩
  | 2 => ⟨"MovingBoxes", "redexes", "()I"⟩
  | 3 => ⟨"MovingBoxes", "write", "(JI)I"⟩
  | 4 => ⟨"MovingBoxes", "areCharacters", "(JI)Z"⟩
  | 5 => ⟨"MovingBoxes", "byteOf", "(JI)I"⟩
  | 6 => ⟨"MovingBoxes", "read", "()I"⟩
  | 7 => ⟨"MovingBoxes", "meant", "(CI)I"⟩
  | 8 => ⟨"MovingBoxes", "bind", "(CII)I"⟩
  | 9 => ⟨"MovingBoxes", "goOn", "()V"⟩
  | 10 => ⟨"MovingBoxes", "redex", "(II)I"⟩
  | 11 => ⟨"MovingBoxes", "take", "(I)I"⟩
  | 12 => ⟨"MovingBoxes", "stepped", "(I)Z"⟩
  | 13 => ⟨"MovingBoxes", "fair", "(I)I"⟩
  | 14 => ⟨"MovingBoxes", "count", "(I)I"⟩
  | 15 => ⟨"MovingBoxes", "letter", "(I)I"⟩
  | 16 => ⟨"MovingBoxes", "keep", "(I)I"⟩
  | 17 => ⟨"MovingBoxes", "isSlot", "(I)Z"⟩
  | 18 => ⟨"MovingBoxes", "equal", "(I)Z"⟩
  | 19 => ⟨"MovingBoxes", "shows", "(II)Z"⟩
  | 20 => ⟨"MovingBoxes", "isName", "(I)Z"⟩
  | 21 => ⟨"MovingBoxes", "explore", "(III)I"⟩
  | 22 => ⟨"MovingBoxes", "explored", "(I)I"⟩
  | 23 => ⟨"MovingBoxes$Explorer", "<init>", "()V"⟩
  | 24 => ⟨"MovingBoxes$Explorer", "forget", "()V"⟩
  | 25 => ⟨"MovingBoxes$Explorer", "goOver", "(LMovingBoxes$State;ILMovingBoxes$Term;LMovingBoxes$Teller;)V"⟩
  | 26 => ⟨"MovingBoxes$Explorer", "isNew", "(LMovingBoxes$State;)Z"⟩
  | 27 => ⟨"MovingBoxes$Explorer", "lookFor", "(II)V"⟩
  | 28 => ⟨"MovingBoxes$Explorer", "farthest", "()I"⟩
  | 29 => ⟨"MovingBoxes$Line", "<init>", "()V"⟩
  | 30 => ⟨"MovingBoxes$Line", "set", "([CI)V"⟩
  | 31 => ⟨"MovingBoxes$Line", "isSame", "(LMovingBoxes$Line;)Z"⟩
  | 32 => ⟨"MovingBoxes$Redexes", "<init>", "()V"⟩
  | 33 => ⟨"MovingBoxes$Redexes", "clear", "()V"⟩
  | 34 => ⟨"MovingBoxes$Redexes", "find", "(LMovingBoxes$State;LMovingBoxes$Term;)V"⟩
  | 35 => ⟨"MovingBoxes$Redexes", "findBeside", "(LMovingBoxes$State;I)V"⟩
  | 36 => ⟨"MovingBoxes$Redexes", "add", "(III)V"⟩
  | 37 => ⟨"MovingBoxes$Redexes", "findAround", "(LMovingBoxes$State;I)V"⟩
  | 38 => ⟨"MovingBoxes$Redexes", "findInside", "(LMovingBoxes$State;I)V"⟩
  | 39 => ⟨"MovingBoxes$Redexes", "findMessages", "(LMovingBoxes$State;I)V"⟩
  | 40 => ⟨"MovingBoxes$Redexes", "date", "(LMovingBoxes$Redexes;I)V"⟩
  | 41 => ⟨"MovingBoxes$Redexes", "compare", "(III)I"⟩
  | 42 => ⟨"MovingBoxes$Redexes", "has", "(I)Z"⟩
  | 43 => ⟨"MovingBoxes$Redexes", "oldest", "()I"⟩
  | 44 => ⟨"MovingBoxes$State", "<init>", "()V"⟩
  | 45 => ⟨"MovingBoxes$State", "clear", "()V"⟩
  | 46 => ⟨"MovingBoxes$State", "begin", "(LMovingBoxes$Term;)Z"⟩
  | 47 => ⟨"MovingBoxes$State", "run", "(LMovingBoxes$Term;IIIII)V"⟩
  | 48 => ⟨"MovingBoxes$State", "sort", "(I)LMovingBoxes$Things;"⟩
  | 49 => ⟨"MovingBoxes$State", "follow", "(LMovingBoxes$State;LMovingBoxes$Redexes;ILMovingBoxes$Term;)Z"⟩
  | 50 => ⟨"MovingBoxes$State", "copy", "(LMovingBoxes$State;)V"⟩
  | 51 => ⟨"MovingBoxes$State", "react", "(LMovingBoxes$Term;II)V"⟩
  | 52 => ⟨"MovingBoxes$State", "move", "(II)V"⟩
  | 53 => ⟨"MovingBoxes$State", "placeOf", "(I)I"⟩
  | 54 => ⟨"MovingBoxes$State", "dissolve", "(II)V"⟩
  | 55 => ⟨"MovingBoxes$State", "receive", "(I)I"⟩
  | 56 => ⟨"MovingBoxes$State", "hasShape", "(II)Z"⟩
  | 57 => ⟨"MovingBoxes$Teller", "<init>", "()V"⟩
  | 58 => ⟨"MovingBoxes$Teller", "tell", "(LMovingBoxes$State;LMovingBoxes$Term;)Z"⟩
  | 59 => ⟨"MovingBoxes$Teller", "tellPlace", "(LMovingBoxes$State;LMovingBoxes$Term;II)V"⟩
  | 60 => ⟨"MovingBoxes$Teller", "put", "(C)V"⟩
  | 61 => ⟨"MovingBoxes$Teller", "addPiece", "(II)V"⟩
  | 62 => ⟨"MovingBoxes$Teller", "isBefore", "(IIII)Z"⟩
  | 63 => ⟨"MovingBoxes$Teller", "tellNode", "(LMovingBoxes$Term;III)V"⟩
  | 64 => ⟨"MovingBoxes$Teller", "putHead", "(LMovingBoxes$Term;II)V"⟩
  | 65 => ⟨"MovingBoxes$Teller", "putName", "(CI)V"⟩
  | 66 => ⟨"MovingBoxes$Teller", "join", "(IIZ)V"⟩
  | 67 => ⟨"MovingBoxes$Teller", "copyOrdered", "(IZ)V"⟩
  | 68 => ⟨"MovingBoxes$Term", "<init>", "()V"⟩
  | 69 => ⟨"MovingBoxes$Term", "parse", "([CI)V"⟩
  | 70 => ⟨"MovingBoxes$Term", "parseProcess", "(II)V"⟩
  | 71 => ⟨"MovingBoxes$Term", "parsePart", "(II)V"⟩
  | 72 => ⟨"MovingBoxes$Term", "peek", "()C"⟩
  | 73 => ⟨"MovingBoxes$Term", "skip", "(C)V"⟩
  | 74 => ⟨"MovingBoxes$Term", "parseMessage", "(I)V"⟩
  | 75 => ⟨"MovingBoxes$Term", "addNode", "(IZ)I"⟩
  | 76 => ⟨"MovingBoxes$Term", "parseName", "(I)C"⟩
  | 77 => ⟨"MovingBoxes$Term", "isLetter", "(C)Z"⟩
  | 78 => ⟨"MovingBoxes$Term", "bitOf", "(C)I"⟩
  | 79 => ⟨"MovingBoxes$Term", "parsePlace", "(II)V"⟩
  | 80 => ⟨"MovingBoxes$Term", "parseGuard", "(II)V"⟩
  | 81 => ⟨"MovingBoxes$Term", "parseLetter", "()C"⟩
  | 82 => ⟨"MovingBoxes$Term", "after", "(I)I"⟩
  | 83 => ⟨"MovingBoxes$Things", "<init>", "(I)V"⟩
  | 84 => ⟨"MovingBoxes$Things", "add", "(IIIII)Z"⟩
  | 85 => ⟨"MovingBoxes$Things", "indexOf", "(I)I"⟩
  | 86 => ⟨"MovingBoxes$Things", "copy", "(LMovingBoxes$Things;)V"⟩
  | 87 => ⟨"MovingBoxes$Things", "remove", "(I)V"⟩
  | 88 => ⟨"MovingBoxes$Things", "moveAll", "(II)V"⟩
  | 89 => ⟨"MovingBoxesModel", "<init>", "()V"⟩
  | 90 => ⟨"MovingBoxesModel", "alone", "()V"⟩
  | 91 => ⟨"MovingBoxesModel", "thrown", "()I"⟩
  | 92 => ⟨"MovingBoxesModel", "write", "(JI)I"⟩
  | 93 => ⟨"MovingBoxesModel", "within", "(III)Z"⟩
  | 94 => ⟨"MovingBoxesModel", "fail", "(I)I"⟩
  | 95 => ⟨"MovingBoxesModel", "erase", "()I"⟩
  | 96 => ⟨"MovingBoxesModel", "read", "()I"⟩
  | 97 => ⟨"MovingBoxesModel", "parse", "()V"⟩
  | 98 => ⟨"MovingBoxesModel", "push", "(III)V"⟩
  | 99 => ⟨"MovingBoxesModel", "part", "()Z"⟩
  | 100 => ⟨"MovingBoxesModel", "wrong", "(I)V"⟩
  | 101 => ⟨"MovingBoxesModel", "here", "()I"⟩
  | 102 => ⟨"MovingBoxesModel", "node", "(IZ)I"⟩
  | 103 => ⟨"MovingBoxesModel", "named", "()I"⟩
  | 104 => ⟨"MovingBoxesModel", "guardKind", "(I)I"⟩
  | 105 => ⟨"MovingBoxesModel", "guard", "(Z)V"⟩
  | 106 => ⟨"MovingBoxesModel", "expect", "(I)V"⟩
  | 107 => ⟨"MovingBoxesModel", "behind", "()Z"⟩
  | 108 => ⟨"MovingBoxesModel", "run", "(III)V"⟩
  | 109 => ⟨"MovingBoxesModel", "resolved", "(II)I"⟩
  | 110 => ⟨"MovingBoxesModel", "makePlace", "(II)I"⟩
  | 111 => ⟨"MovingBoxesModel", "makeMessage", "(II)V"⟩
  | 112 => ⟨"MovingBoxesModel", "makeGuard", "(III)V"⟩
  | 113 => ⟨"MovingBoxesModel", "describe", "()V"⟩
  | 114 => ⟨"MovingBoxesModel", "frame", "(IIII)V"⟩
  | 115 => ⟨"MovingBoxesModel", "placeStep", "(I)V"⟩
  | 116 => ⟨"MovingBoxesModel", "begin", "()V"⟩
  | 117 => ⟨"MovingBoxesModel", "letterOf", "(I)V"⟩
  | 118 => ⟨"MovingBoxesModel", "character", "(I)V"⟩
  | 119 => ⟨"MovingBoxesModel", "head", "()V"⟩
  | 120 => ⟨"MovingBoxesModel", "guardText", "(III)V"⟩
  | 121 => ⟨"MovingBoxesModel", "nameText", "(III)V"⟩
  | 122 => ⟨"MovingBoxesModel", "simple", "(III)V"⟩
  | 123 => ⟨"MovingBoxesModel", "join", "(II)V"⟩
  | 124 => ⟨"MovingBoxesModel", "before", "(II)Z"⟩
  | 125 => ⟨"MovingBoxesModel", "copied", "(II)I"⟩
  | 126 => ⟨"MovingBoxesModel", "partStep", "(I)V"⟩
  | 127 => ⟨"MovingBoxesModel", "settle", "()V"⟩
  | 128 => ⟨"MovingBoxesModel", "otherNumber", "(I)I"⟩
  | 129 => ⟨"MovingBoxesModel", "isRedex", "(II)Z"⟩
  | 130 => ⟨"MovingBoxesModel", "redexes", "()I"⟩
  | 131 => ⟨"MovingBoxesModel", "search", "(I)I"⟩
  | 132 => ⟨"MovingBoxesModel", "guardBehind", "(I)I"⟩
  | 133 => ⟨"MovingBoxesModel", "otherBehind", "(I)I"⟩
  | 134 => ⟨"MovingBoxesModel", "redex", "(II)I"⟩
  | 135 => ⟨"MovingBoxesModel", "take", "(I)I"⟩
  | 136 => ⟨"MovingBoxesModel", "step", "()Z"⟩
  | 137 => ⟨"MovingBoxesModel", "save", "(I)V"⟩
  | 138 => ⟨"MovingBoxesModel", "make", "()V"⟩
  | 139 => ⟨"MovingBoxesModel", "load", "(I)V"⟩
  | 140 => ⟨"MovingBoxesModel", "fair", "(I)I"⟩
  | 141 => ⟨"MovingBoxesModel", "count", "(I)I"⟩
  | 142 => ⟨"MovingBoxesModel", "letter", "(I)I"⟩
  | 143 => ⟨"MovingBoxesModel", "keep", "(I)I"⟩
  | 144 => ⟨"MovingBoxesModel", "eight", "(I)J"⟩
  | 145 => ⟨"MovingBoxesModel", "equal", "(I)Z"⟩
  | 146 => ⟨"MovingBoxesModel", "shows", "(II)Z"⟩
  | 147 => ⟨"MovingBoxesModel", "shape", "(II)Z"⟩
  | 148 => ⟨"MovingBoxesModel", "explore", "(III)I"⟩
  | 149 => ⟨"MovingBoxesModel", "find", "(III)V"⟩
  | 150 => ⟨"MovingBoxesModel", "explored", "(I)I"⟩
  | 151 => ⟨"MovingBoxesLaw", "write", "(LMovingBoxes;JI[J)I"⟩
  | 152 => ⟨"MovingBoxesLaw", "read", "(LMovingBoxes;[J)I"⟩
  | 153 => ⟨"MovingBoxesLaw", "redex", "(LMovingBoxes;II[J)I"⟩
  | 154 => ⟨"MovingBoxesLaw", "take", "(LMovingBoxes;I[J)I"⟩
  | 155 => ⟨"MovingBoxesLaw", "fair", "(LMovingBoxes;I[J)I"⟩
  | 156 => ⟨"MovingBoxesLaw", "count", "(LMovingBoxes;I[J)I"⟩
  | 157 => ⟨"MovingBoxesLaw", "letter", "(LMovingBoxes;I[J)I"⟩
  | 158 => ⟨"MovingBoxesLaw", "keep", "(LMovingBoxes;I[J)I"⟩
  | 159 => ⟨"MovingBoxesLaw", "equal", "(LMovingBoxes;I[J)I"⟩
  | 160 => ⟨"MovingBoxesLaw", "shows", "(LMovingBoxes;II[J)I"⟩
  | 161 => ⟨"MovingBoxesLaw", "explore", "(LMovingBoxes;III[J)I"⟩
  | 162 => ⟨"MovingBoxesLaw", "explored", "(LMovingBoxes;I[J)I"⟩
  | 163 => ⟨"java/lang/Math", "max", "(II)I"⟩
  | 164 => ⟨"java/lang/Math", "min", "(II)I"⟩
  | 165 => ⟨"java/lang/Integer", "compare", "(II)I"⟩
  | 500 => ⟨"java/lang/Object", "<init>", "()V"⟩
  | 501 => ⟨"java/lang/System", "arraycopy", "(Ljava/lang/Object;ILjava/lang/Object;II)V"⟩
  | 502 => ⟨"java/lang/String", "indexOf", "(I)I"⟩
  | 503 => ⟨"java/lang/String", "charAt", "(I)C"⟩
  | _ => x
def tStL : List Nat := [2, 0, 0, 0, 1, 1, 0, 1, 1, 0, 0, 0, 0, 0, 0, 0, 0, 1, 0, 0, 1, 0, 0, 2, 0, 0, 0, 0, 0, 2, 0, 0, 2, 0, 0, 0, 0, 0, 0, 0, 0, 0, 0, 0, 2, 0, 0, 0, 0, 0, 0, 0, 0, 0, 0, 0, 0, 2, 0, 0, 0, 0, 0, 0, 0, 0, 0, 0, 2, 0, 0, 0, 0, 0, 0, 0, 0, 1, 1, 0, 0, 0, 0, 2, 0, 0, 0, 0, 0, 2, 0, 0, 0, 1, 0, 0, 0, 0, 0, 0, 0, 0, 0, 0, 1, 0, 0, 0, 0, 0, 0, 0, 0, 0, 0, 0, 0, 0, 0, 0, 0, 0, 0, 0, 0, 0, 0, 0, 0, 0, 0, 0, 0, 0, 0, 0, 0, 0, 0, 0, 0, 0, 0, 0, 0, 0, 0, 0, 0, 0, 0, 1, 1, 1, 1, 1, 1, 1, 1, 1, 1, 1, 1, 1, 1, 1]
def tSt (j : Nat) : Nat := tStL.getD j 9
def tNaL : List Nat := [0, 0, 0, 2, 2, 2, 0, 2, 3, 0, 2, 1, 1, 1, 1, 1, 1, 1, 1, 2, 1, 3, 1, 0, 0, 4, 1, 2, 0, 0, 2, 1, 0, 0, 2, 2, 3, 2, 2, 2, 2, 3, 1, 0, 0, 0, 1, 6, 1, 4, 1, 3, 2, 1, 2, 1, 2, 0, 2, 4, 1, 2, 4, 4, 3, 2, 3, 2, 0, 2, 2, 2, 0, 1, 1, 2, 1, 1, 1, 2, 2, 0, 1, 1, 5, 1, 1, 1, 2, 0, 0, 0, 2, 3, 1, 0, 0, 0, 3, 0, 1, 0, 2, 0, 1, 1, 1, 0, 3, 2, 2, 2, 3, 0, 4, 1, 0, 1, 1, 0, 3, 3, 3, 2, 2, 2, 1, 0, 1, 2, 0, 1, 1, 1, 2, 1, 0, 1, 0, 1, 1, 1, 1, 1, 1, 1, 2, 2, 3, 3, 1, 4, 2, 4, 3, 3, 3, 3, 3, 3, 4, 5, 3, 2, 2, 2]
def tNa (j : Nat) : Nat := tNaL.getD j 0
def hdL : Nat → List (Nat × Nat × Nat × Nat) := fun j => match j with
  | 151 => [(0, 11, 14, 13), (0, 11, 18, 15)]
  | 152 => [(0, 8, 11, 13), (0, 8, 14, 15), (0, 8, 17, 21)]
  | 153 => [(0, 10, 13, 27)]
  | 154 => [(0, 9, 12, 27), (0, 9, 15, 21)]
  | 155 => [(0, 9, 12, 13), (0, 9, 15, 21)]
  | 156 => [(0, 9, 12, 27)]
  | 157 => [(0, 9, 12, 27)]
  | 158 => [(0, 9, 12, 27)]
  | 159 => [(0, 16, 19, 27), (0, 16, 22, 49)]
  | 160 => [(0, 17, 20, 13)]
  | 161 => [(0, 12, 15, 13)]
  | 162 => [(0, 9, 12, 27)]
  | _ => []
def cdW (j : Nat) : Cond := match hdL j with
  | [] => .code (yN j) (tBc j) (tMx j) (tRt j)
  | h :: t => .codeWith (yN j) (tBc j) (tMx j) (tRt j) (h :: t)
theorem ts_1 {w : Cond} (h : w ∈ tables_1_1) : w ∈ lw_tbl := List.mem_append_right _ (List.mem_append_left _ h)
theorem ts_2 {w : Cond} (h : w ∈ tables_1_2) : w ∈ lw_tbl := List.mem_append_right _ (List.mem_append_right _ (List.mem_append_left _ h))
theorem ts_3 {w : Cond} (h : w ∈ tables_1_3) : w ∈ lw_tbl := List.mem_append_right _ (List.mem_append_right _ (List.mem_append_right _ (List.mem_append_left _ h)))
theorem ts_4 {w : Cond} (h : w ∈ tables_1_4) : w ∈ lw_tbl := List.mem_append_right _ (List.mem_append_right _ (List.mem_append_right _ (List.mem_append_right _ (List.mem_append_left _ h))))
theorem ts_5 {w : Cond} (h : w ∈ tables_1_5) : w ∈ lw_tbl := List.mem_append_right _ (List.mem_append_right _ (List.mem_append_right _ (List.mem_append_right _ (List.mem_append_right _ (List.mem_append_left _ h)))))
theorem ts_6 {w : Cond} (h : w ∈ tables_1_6) : w ∈ lw_tbl := List.mem_append_right _ (List.mem_append_right _ (List.mem_append_right _ (List.mem_append_right _ (List.mem_append_right _ (List.mem_append_right _ h)))))
theorem cm_0 : cdW 0 ∈ lw_tbl := ts_1 (List.mem_of_getElem? (i := 30) rfl)
theorem cm_1 : cdW 1 ∈ lw_tbl := ts_2 (List.mem_of_getElem? (i := 73) rfl)
theorem cm_2 : cdW 2 ∈ lw_tbl := ts_2 (List.mem_of_getElem? (i := 77) rfl)
theorem cm_3 : cdW 3 ∈ lw_tbl := ts_2 (List.mem_of_getElem? (i := 86) rfl)
theorem cm_4 : cdW 4 ∈ lw_tbl := ts_2 (List.mem_of_getElem? (i := 89) rfl)
theorem cm_5 : cdW 5 ∈ lw_tbl := ts_2 (List.mem_of_getElem? (i := 92) rfl)
theorem cm_6 : cdW 6 ∈ lw_tbl := ts_2 (List.mem_of_getElem? (i := 180) rfl)
theorem cm_7 : cdW 7 ∈ lw_tbl := ts_3 (List.mem_of_getElem? (i := 101) rfl)
theorem cm_8 : cdW 8 ∈ lw_tbl := ts_3 (List.mem_of_getElem? (i := 142) rfl)
theorem cm_9 : cdW 9 ∈ lw_tbl := ts_3 (List.mem_of_getElem? (i := 210) rfl)
theorem cm_10 : cdW 10 ∈ lw_tbl := ts_4 (List.mem_of_getElem? (i := 17) rfl)
theorem cm_11 : cdW 11 ∈ lw_tbl := ts_4 (List.mem_of_getElem? (i := 43) rfl)
theorem cm_12 : cdW 12 ∈ lw_tbl := ts_4 (List.mem_of_getElem? (i := 47) rfl)
theorem cm_13 : cdW 13 ∈ lw_tbl := ts_4 (List.mem_of_getElem? (i := 99) rfl)
theorem cm_14 : cdW 14 ∈ lw_tbl := ts_4 (List.mem_of_getElem? (i := 110) rfl)
theorem cm_15 : cdW 15 ∈ lw_tbl := ts_4 (List.mem_of_getElem? (i := 117) rfl)
theorem cm_16 : cdW 16 ∈ lw_tbl := ts_4 (List.mem_of_getElem? (i := 124) rfl)
theorem cm_17 : cdW 17 ∈ lw_tbl := ts_4 (List.mem_of_getElem? (i := 127) rfl)
theorem cm_18 : cdW 18 ∈ lw_tbl := ts_4 (List.mem_of_getElem? (i := 136) rfl)
theorem cm_19 : cdW 19 ∈ lw_tbl := ts_4 (List.mem_of_getElem? (i := 162) rfl)
theorem cm_20 : cdW 20 ∈ lw_tbl := ts_4 (List.mem_of_getElem? (i := 165) rfl)
theorem cm_21 : cdW 21 ∈ lw_tbl := ts_4 (List.mem_of_getElem? (i := 176) rfl)
theorem cm_22 : cdW 22 ∈ lw_tbl := ts_4 (List.mem_of_getElem? (i := 202) rfl)
theorem cm_23 : cdW 23 ∈ lw_tbl := ts_1 (List.mem_of_getElem? (i := 238) rfl)
theorem cm_24 : cdW 24 ∈ lw_tbl := ts_2 (List.mem_of_getElem? (i := 188) rfl)
theorem cm_25 : cdW 25 ∈ lw_tbl := ts_4 (List.mem_of_getElem? (i := 180) rfl)
theorem cm_26 : cdW 26 ∈ lw_tbl := ts_4 (List.mem_of_getElem? (i := 189) rfl)
theorem cm_27 : cdW 27 ∈ lw_tbl := ts_4 (List.mem_of_getElem? (i := 194) rfl)
theorem cm_28 : cdW 28 ∈ lw_tbl := ts_4 (List.mem_of_getElem? (i := 206) rfl)
theorem cm_29 : cdW 29 ∈ lw_tbl := ts_1 (List.mem_of_getElem? (i := 157) rfl)
theorem cm_30 : cdW 30 ∈ lw_tbl := ts_3 (List.mem_of_getElem? (i := 188) rfl)
theorem cm_31 : cdW 31 ∈ lw_tbl := ts_4 (List.mem_of_getElem? (i := 155) rfl)
theorem cm_32 : cdW 32 ∈ lw_tbl := ts_1 (List.mem_of_getElem? (i := 206) rfl)
theorem cm_33 : cdW 33 ∈ lw_tbl := ts_2 (List.mem_of_getElem? (i := 184) rfl)
theorem cm_34 : cdW 34 ∈ lw_tbl := ts_3 (List.mem_of_getElem? (i := 214) rfl)
theorem cm_35 : cdW 35 ∈ lw_tbl := ts_3 (List.mem_of_getElem? (i := 218) rfl)
theorem cm_36 : cdW 36 ∈ lw_tbl := ts_3 (List.mem_of_getElem? (i := 226) rfl)
theorem cm_37 : cdW 37 ∈ lw_tbl := ts_3 (List.mem_of_getElem? (i := 230) rfl)
theorem cm_38 : cdW 38 ∈ lw_tbl := ts_3 (List.mem_of_getElem? (i := 234) rfl)
theorem cm_39 : cdW 39 ∈ lw_tbl := ts_3 (List.mem_of_getElem? (i := 238) rfl)
theorem cm_40 : cdW 40 ∈ lw_tbl := ts_4 (List.mem_of_getElem? (i := 2) rfl)
theorem cm_41 : cdW 41 ∈ lw_tbl := ts_4 (List.mem_of_getElem? (i := 6) rfl)
theorem cm_42 : cdW 42 ∈ lw_tbl := ts_4 (List.mem_of_getElem? (i := 21) rfl)
theorem cm_43 : cdW 43 ∈ lw_tbl := ts_4 (List.mem_of_getElem? (i := 103) rfl)
theorem cm_44 : cdW 44 ∈ lw_tbl := ts_1 (List.mem_of_getElem? (i := 109) rfl)
theorem cm_45 : cdW 45 ∈ lw_tbl := ts_2 (List.mem_of_getElem? (i := 35) rfl)
theorem cm_46 : cdW 46 ∈ lw_tbl := ts_3 (List.mem_of_getElem? (i := 93) rfl)
theorem cm_47 : cdW 47 ∈ lw_tbl := ts_3 (List.mem_of_getElem? (i := 98) rfl)
theorem cm_48 : cdW 48 ∈ lw_tbl := ts_3 (List.mem_of_getElem? (i := 105) rfl)
theorem cm_49 : cdW 49 ∈ lw_tbl := ts_4 (List.mem_of_getElem? (i := 51) rfl)
theorem cm_50 : cdW 50 ∈ lw_tbl := ts_4 (List.mem_of_getElem? (i := 55) rfl)
theorem cm_51 : cdW 51 ∈ lw_tbl := ts_4 (List.mem_of_getElem? (i := 67) rfl)
theorem cm_52 : cdW 52 ∈ lw_tbl := ts_4 (List.mem_of_getElem? (i := 75) rfl)
theorem cm_53 : cdW 53 ∈ lw_tbl := ts_4 (List.mem_of_getElem? (i := 79) rfl)
theorem cm_54 : cdW 54 ∈ lw_tbl := ts_4 (List.mem_of_getElem? (i := 83) rfl)
theorem cm_55 : cdW 55 ∈ lw_tbl := ts_4 (List.mem_of_getElem? (i := 91) rfl)
theorem cm_56 : cdW 56 ∈ lw_tbl := ts_4 (List.mem_of_getElem? (i := 169) rfl)
theorem cm_57 : cdW 57 ∈ lw_tbl := ts_1 (List.mem_of_getElem? (i := 81) rfl)
theorem cm_58 : cdW 58 ∈ lw_tbl := ts_3 (List.mem_of_getElem? (i := 118) rfl)
theorem cm_59 : cdW 59 ∈ lw_tbl := ts_3 (List.mem_of_getElem? (i := 122) rfl)
theorem cm_60 : cdW 60 ∈ lw_tbl := ts_3 (List.mem_of_getElem? (i := 126) rfl)
theorem cm_61 : cdW 61 ∈ lw_tbl := ts_3 (List.mem_of_getElem? (i := 130) rfl)
theorem cm_62 : cdW 62 ∈ lw_tbl := ts_3 (List.mem_of_getElem? (i := 134) rfl)
theorem cm_63 : cdW 63 ∈ lw_tbl := ts_3 (List.mem_of_getElem? (i := 139) rfl)
theorem cm_64 : cdW 64 ∈ lw_tbl := ts_3 (List.mem_of_getElem? (i := 146) rfl)
theorem cm_65 : cdW 65 ∈ lw_tbl := ts_3 (List.mem_of_getElem? (i := 150) rfl)
theorem cm_66 : cdW 66 ∈ lw_tbl := ts_3 (List.mem_of_getElem? (i := 177) rfl)
theorem cm_67 : cdW 67 ∈ lw_tbl := ts_3 (List.mem_of_getElem? (i := 181) rfl)
theorem cm_68 : cdW 68 ∈ lw_tbl := ts_1 (List.mem_of_getElem? (i := 38) rfl)
theorem cm_69 : cdW 69 ∈ lw_tbl := ts_2 (List.mem_of_getElem? (i := 192) rfl)
theorem cm_70 : cdW 70 ∈ lw_tbl := ts_2 (List.mem_of_getElem? (i := 196) rfl)
theorem cm_71 : cdW 71 ∈ lw_tbl := ts_2 (List.mem_of_getElem? (i := 200) rfl)
theorem cm_72 : cdW 72 ∈ lw_tbl := ts_2 (List.mem_of_getElem? (i := 206) rfl)
theorem cm_73 : cdW 73 ∈ lw_tbl := ts_2 (List.mem_of_getElem? (i := 210) rfl)
theorem cm_74 : cdW 74 ∈ lw_tbl := ts_2 (List.mem_of_getElem? (i := 216) rfl)
theorem cm_75 : cdW 75 ∈ lw_tbl := ts_2 (List.mem_of_getElem? (i := 220) rfl)
theorem cm_76 : cdW 76 ∈ lw_tbl := ts_2 (List.mem_of_getElem? (i := 224) rfl)
theorem cm_77 : cdW 77 ∈ lw_tbl := ts_2 (List.mem_of_getElem? (i := 227) rfl)
theorem cm_78 : cdW 78 ∈ lw_tbl := ts_2 (List.mem_of_getElem? (i := 230) rfl)
theorem cm_79 : cdW 79 ∈ lw_tbl := ts_2 (List.mem_of_getElem? (i := 234) rfl)
theorem cm_80 : cdW 80 ∈ lw_tbl := ts_2 (List.mem_of_getElem? (i := 238) rfl)
theorem cm_81 : cdW 81 ∈ lw_tbl := ts_3 (List.mem_of_getElem? (i := 89) rfl)
theorem cm_82 : cdW 82 ∈ lw_tbl := ts_3 (List.mem_of_getElem? (i := 113) rfl)
theorem cm_83 : cdW 83 ∈ lw_tbl := ts_1 (List.mem_of_getElem? (i := 115) rfl)
theorem cm_84 : cdW 84 ∈ lw_tbl := ts_3 (List.mem_of_getElem? (i := 109) rfl)
theorem cm_85 : cdW 85 ∈ lw_tbl := ts_3 (List.mem_of_getElem? (i := 222) rfl)
theorem cm_86 : cdW 86 ∈ lw_tbl := ts_4 (List.mem_of_getElem? (i := 59) rfl)
theorem cm_87 : cdW 87 ∈ lw_tbl := ts_4 (List.mem_of_getElem? (i := 71) rfl)
theorem cm_88 : cdW 88 ∈ lw_tbl := ts_4 (List.mem_of_getElem? (i := 87) rfl)
theorem cm_89 : cdW 89 ∈ lw_tbl := ts_4 (List.mem_of_getElem? (i := 211) rfl)
theorem cm_90 : cdW 90 ∈ lw_tbl := ts_4 (List.mem_of_getElem? (i := 216) rfl)
theorem cm_91 : cdW 91 ∈ lw_tbl := ts_5 (List.mem_of_getElem? (i := 183) rfl)
theorem cm_92 : cdW 92 ∈ lw_tbl := ts_5 (List.mem_of_getElem? (i := 187) rfl)
theorem cm_93 : cdW 93 ∈ lw_tbl := ts_5 (List.mem_of_getElem? (i := 190) rfl)
theorem cm_94 : cdW 94 ∈ lw_tbl := ts_5 (List.mem_of_getElem? (i := 194) rfl)
theorem cm_95 : cdW 95 ∈ lw_tbl := ts_5 (List.mem_of_getElem? (i := 199) rfl)
theorem cm_96 : cdW 96 ∈ lw_tbl := ts_5 (List.mem_of_getElem? (i := 203) rfl)
theorem cm_97 : cdW 97 ∈ lw_tbl := ts_5 (List.mem_of_getElem? (i := 207) rfl)
theorem cm_98 : cdW 98 ∈ lw_tbl := ts_5 (List.mem_of_getElem? (i := 211) rfl)
theorem cm_99 : cdW 99 ∈ lw_tbl := ts_5 (List.mem_of_getElem? (i := 215) rfl)
theorem cm_100 : cdW 100 ∈ lw_tbl := ts_5 (List.mem_of_getElem? (i := 219) rfl)
theorem cm_101 : cdW 101 ∈ lw_tbl := ts_5 (List.mem_of_getElem? (i := 223) rfl)
theorem cm_102 : cdW 102 ∈ lw_tbl := ts_5 (List.mem_of_getElem? (i := 227) rfl)
theorem cm_103 : cdW 103 ∈ lw_tbl := ts_5 (List.mem_of_getElem? (i := 231) rfl)
theorem cm_104 : cdW 104 ∈ lw_tbl := ts_5 (List.mem_of_getElem? (i := 234) rfl)
theorem cm_105 : cdW 105 ∈ lw_tbl := ts_5 (List.mem_of_getElem? (i := 238) rfl)
theorem cm_106 : cdW 106 ∈ lw_tbl := ts_6 (List.mem_of_getElem? (i := 2) rfl)
theorem cm_107 : cdW 107 ∈ lw_tbl := ts_6 (List.mem_of_getElem? (i := 6) rfl)
theorem cm_108 : cdW 108 ∈ lw_tbl := ts_6 (List.mem_of_getElem? (i := 10) rfl)
theorem cm_109 : cdW 109 ∈ lw_tbl := ts_6 (List.mem_of_getElem? (i := 14) rfl)
theorem cm_110 : cdW 110 ∈ lw_tbl := ts_6 (List.mem_of_getElem? (i := 18) rfl)
theorem cm_111 : cdW 111 ∈ lw_tbl := ts_6 (List.mem_of_getElem? (i := 22) rfl)
theorem cm_112 : cdW 112 ∈ lw_tbl := ts_6 (List.mem_of_getElem? (i := 26) rfl)
theorem cm_113 : cdW 113 ∈ lw_tbl := ts_6 (List.mem_of_getElem? (i := 30) rfl)
theorem cm_114 : cdW 114 ∈ lw_tbl := ts_6 (List.mem_of_getElem? (i := 34) rfl)
theorem cm_115 : cdW 115 ∈ lw_tbl := ts_6 (List.mem_of_getElem? (i := 38) rfl)
theorem cm_116 : cdW 116 ∈ lw_tbl := ts_6 (List.mem_of_getElem? (i := 42) rfl)
theorem cm_117 : cdW 117 ∈ lw_tbl := ts_6 (List.mem_of_getElem? (i := 46) rfl)
theorem cm_118 : cdW 118 ∈ lw_tbl := ts_6 (List.mem_of_getElem? (i := 50) rfl)
theorem cm_119 : cdW 119 ∈ lw_tbl := ts_6 (List.mem_of_getElem? (i := 54) rfl)
theorem cm_120 : cdW 120 ∈ lw_tbl := ts_6 (List.mem_of_getElem? (i := 58) rfl)
theorem cm_121 : cdW 121 ∈ lw_tbl := ts_6 (List.mem_of_getElem? (i := 62) rfl)
theorem cm_122 : cdW 122 ∈ lw_tbl := ts_6 (List.mem_of_getElem? (i := 66) rfl)
theorem cm_123 : cdW 123 ∈ lw_tbl := ts_6 (List.mem_of_getElem? (i := 70) rfl)
theorem cm_124 : cdW 124 ∈ lw_tbl := ts_6 (List.mem_of_getElem? (i := 74) rfl)
theorem cm_125 : cdW 125 ∈ lw_tbl := ts_6 (List.mem_of_getElem? (i := 78) rfl)
theorem cm_126 : cdW 126 ∈ lw_tbl := ts_6 (List.mem_of_getElem? (i := 82) rfl)
theorem cm_127 : cdW 127 ∈ lw_tbl := ts_6 (List.mem_of_getElem? (i := 86) rfl)
theorem cm_128 : cdW 128 ∈ lw_tbl := ts_6 (List.mem_of_getElem? (i := 90) rfl)
theorem cm_129 : cdW 129 ∈ lw_tbl := ts_6 (List.mem_of_getElem? (i := 94) rfl)
theorem cm_130 : cdW 130 ∈ lw_tbl := ts_6 (List.mem_of_getElem? (i := 98) rfl)
theorem cm_131 : cdW 131 ∈ lw_tbl := ts_6 (List.mem_of_getElem? (i := 102) rfl)
theorem cm_132 : cdW 132 ∈ lw_tbl := ts_6 (List.mem_of_getElem? (i := 106) rfl)
theorem cm_133 : cdW 133 ∈ lw_tbl := ts_6 (List.mem_of_getElem? (i := 110) rfl)
theorem cm_134 : cdW 134 ∈ lw_tbl := ts_6 (List.mem_of_getElem? (i := 114) rfl)
theorem cm_135 : cdW 135 ∈ lw_tbl := ts_6 (List.mem_of_getElem? (i := 118) rfl)
theorem cm_136 : cdW 136 ∈ lw_tbl := ts_6 (List.mem_of_getElem? (i := 122) rfl)
theorem cm_137 : cdW 137 ∈ lw_tbl := ts_6 (List.mem_of_getElem? (i := 126) rfl)
theorem cm_138 : cdW 138 ∈ lw_tbl := ts_6 (List.mem_of_getElem? (i := 130) rfl)
theorem cm_139 : cdW 139 ∈ lw_tbl := ts_6 (List.mem_of_getElem? (i := 134) rfl)
theorem cm_140 : cdW 140 ∈ lw_tbl := ts_6 (List.mem_of_getElem? (i := 138) rfl)
theorem cm_141 : cdW 141 ∈ lw_tbl := ts_6 (List.mem_of_getElem? (i := 142) rfl)
theorem cm_142 : cdW 142 ∈ lw_tbl := ts_6 (List.mem_of_getElem? (i := 146) rfl)
theorem cm_143 : cdW 143 ∈ lw_tbl := ts_6 (List.mem_of_getElem? (i := 150) rfl)
theorem cm_144 : cdW 144 ∈ lw_tbl := ts_6 (List.mem_of_getElem? (i := 154) rfl)
theorem cm_145 : cdW 145 ∈ lw_tbl := ts_6 (List.mem_of_getElem? (i := 158) rfl)
theorem cm_146 : cdW 146 ∈ lw_tbl := ts_6 (List.mem_of_getElem? (i := 162) rfl)
theorem cm_147 : cdW 147 ∈ lw_tbl := ts_6 (List.mem_of_getElem? (i := 166) rfl)
theorem cm_148 : cdW 148 ∈ lw_tbl := ts_6 (List.mem_of_getElem? (i := 170) rfl)
theorem cm_149 : cdW 149 ∈ lw_tbl := ts_6 (List.mem_of_getElem? (i := 174) rfl)
theorem cm_150 : cdW 150 ∈ lw_tbl := ts_6 (List.mem_of_getElem? (i := 178) rfl)
theorem cm_151 : cdW 151 ∈ lw_tbl := ts_2 (List.mem_of_getElem? (i := 80) rfl)
theorem cm_152 : cdW 152 ∈ lw_tbl := ts_2 (List.mem_of_getElem? (i := 175) rfl)
theorem cm_153 : cdW 153 ∈ lw_tbl := ts_4 (List.mem_of_getElem? (i := 12) rfl)
theorem cm_154 : cdW 154 ∈ lw_tbl := ts_4 (List.mem_of_getElem? (i := 39) rfl)
theorem cm_155 : cdW 155 ∈ lw_tbl := ts_4 (List.mem_of_getElem? (i := 95) rfl)
theorem cm_156 : cdW 156 ∈ lw_tbl := ts_4 (List.mem_of_getElem? (i := 106) rfl)
theorem cm_157 : cdW 157 ∈ lw_tbl := ts_4 (List.mem_of_getElem? (i := 113) rfl)
theorem cm_158 : cdW 158 ∈ lw_tbl := ts_4 (List.mem_of_getElem? (i := 120) rfl)
theorem cm_159 : cdW 159 ∈ lw_tbl := ts_4 (List.mem_of_getElem? (i := 131) rfl)
theorem cm_160 : cdW 160 ∈ lw_tbl := ts_4 (List.mem_of_getElem? (i := 158) rfl)
theorem cm_161 : cdW 161 ∈ lw_tbl := ts_4 (List.mem_of_getElem? (i := 172) rfl)
theorem cm_162 : cdW 162 ∈ lw_tbl := ts_4 (List.mem_of_getElem? (i := 198) rfl)
theorem cm_163 : cdW 163 ∈ lw_tbl := ts_3 (List.mem_of_getElem? (i := 30) rfl)
theorem cm_164 : cdW 164 ∈ lw_tbl := ts_3 (List.mem_of_getElem? (i := 33) rfl)
theorem cm_165 : cdW 165 ∈ lw_tbl := ts_4 (List.mem_of_getElem? (i := 9) rfl)
end
section
/-! The words of the methods and of their calls, gathered. Written by wip/whole/gen/mk06.py. -/
theorem code_ok : ∀ j, j < 166 → cdW j ∈ lw_tbl := fun j h => match j, h with
  | 0, _ => cm_0
  | 1, _ => cm_1
  | 2, _ => cm_2
  | 3, _ => cm_3
  | 4, _ => cm_4
  | 5, _ => cm_5
  | 6, _ => cm_6
  | 7, _ => cm_7
  | 8, _ => cm_8
  | 9, _ => cm_9
  | 10, _ => cm_10
  | 11, _ => cm_11
  | 12, _ => cm_12
  | 13, _ => cm_13
  | 14, _ => cm_14
  | 15, _ => cm_15
  | 16, _ => cm_16
  | 17, _ => cm_17
  | 18, _ => cm_18
  | 19, _ => cm_19
  | 20, _ => cm_20
  | 21, _ => cm_21
  | 22, _ => cm_22
  | 23, _ => cm_23
  | 24, _ => cm_24
  | 25, _ => cm_25
  | 26, _ => cm_26
  | 27, _ => cm_27
  | 28, _ => cm_28
  | 29, _ => cm_29
  | 30, _ => cm_30
  | 31, _ => cm_31
  | 32, _ => cm_32
  | 33, _ => cm_33
  | 34, _ => cm_34
  | 35, _ => cm_35
  | 36, _ => cm_36
  | 37, _ => cm_37
  | 38, _ => cm_38
  | 39, _ => cm_39
  | 40, _ => cm_40
  | 41, _ => cm_41
  | 42, _ => cm_42
  | 43, _ => cm_43
  | 44, _ => cm_44
  | 45, _ => cm_45
  | 46, _ => cm_46
  | 47, _ => cm_47
  | 48, _ => cm_48
  | 49, _ => cm_49
  | 50, _ => cm_50
  | 51, _ => cm_51
  | 52, _ => cm_52
  | 53, _ => cm_53
  | 54, _ => cm_54
  | 55, _ => cm_55
  | 56, _ => cm_56
  | 57, _ => cm_57
  | 58, _ => cm_58
  | 59, _ => cm_59
  | 60, _ => cm_60
  | 61, _ => cm_61
  | 62, _ => cm_62
  | 63, _ => cm_63
  | 64, _ => cm_64
  | 65, _ => cm_65
  | 66, _ => cm_66
  | 67, _ => cm_67
  | 68, _ => cm_68
  | 69, _ => cm_69
  | 70, _ => cm_70
  | 71, _ => cm_71
  | 72, _ => cm_72
  | 73, _ => cm_73
  | 74, _ => cm_74
  | 75, _ => cm_75
  | 76, _ => cm_76
  | 77, _ => cm_77
  | 78, _ => cm_78
  | 79, _ => cm_79
  | 80, _ => cm_80
  | 81, _ => cm_81
  | 82, _ => cm_82
  | 83, _ => cm_83
  | 84, _ => cm_84
  | 85, _ => cm_85
  | 86, _ => cm_86
  | 87, _ => cm_87
  | 88, _ => cm_88
  | 89, _ => cm_89
  | 90, _ => cm_90
  | 91, _ => cm_91
  | 92, _ => cm_92
  | 93, _ => cm_93
  | 94, _ => cm_94
  | 95, _ => cm_95
  | 96, _ => cm_96
  | 97, _ => cm_97
  | 98, _ => cm_98
  | 99, _ => cm_99
  | 100, _ => cm_100
  | 101, _ => cm_101
  | 102, _ => cm_102
  | 103, _ => cm_103
  | 104, _ => cm_104
  | 105, _ => cm_105
  | 106, _ => cm_106
  | 107, _ => cm_107
  | 108, _ => cm_108
  | 109, _ => cm_109
  | 110, _ => cm_110
  | 111, _ => cm_111
  | 112, _ => cm_112
  | 113, _ => cm_113
  | 114, _ => cm_114
  | 115, _ => cm_115
  | 116, _ => cm_116
  | 117, _ => cm_117
  | 118, _ => cm_118
  | 119, _ => cm_119
  | 120, _ => cm_120
  | 121, _ => cm_121
  | 122, _ => cm_122
  | 123, _ => cm_123
  | 124, _ => cm_124
  | 125, _ => cm_125
  | 126, _ => cm_126
  | 127, _ => cm_127
  | 128, _ => cm_128
  | 129, _ => cm_129
  | 130, _ => cm_130
  | 131, _ => cm_131
  | 132, _ => cm_132
  | 133, _ => cm_133
  | 134, _ => cm_134
  | 135, _ => cm_135
  | 136, _ => cm_136
  | 137, _ => cm_137
  | 138, _ => cm_138
  | 139, _ => cm_139
  | 140, _ => cm_140
  | 141, _ => cm_141
  | 142, _ => cm_142
  | 143, _ => cm_143
  | 144, _ => cm_144
  | 145, _ => cm_145
  | 146, _ => cm_146
  | 147, _ => cm_147
  | 148, _ => cm_148
  | 149, _ => cm_149
  | 150, _ => cm_150
  | 151, _ => cm_151
  | 152, _ => cm_152
  | 153, _ => cm_153
  | 154, _ => cm_154
  | 155, _ => cm_155
  | 156, _ => cm_156
  | 157, _ => cm_157
  | 158, _ => cm_158
  | 159, _ => cm_159
  | 160, _ => cm_160
  | 161, _ => cm_161
  | 162, _ => cm_162
  | 163, _ => cm_163
  | 164, _ => cm_164
  | 165, _ => cm_165
  | n + 166, h => absurd h (by omega)
def siP : List (Nat × Nat) := [(29, 0), (311, 392), (315, 396), (324, 405), (328, 0), (331, 0), (418, 499), (580, 0), (621, 0), (689, 22), (735, 816), (761, 842), (766, 29), (817, 898), (828, 909), (835, 916), (842, 923), (846, 0), (854, 935), (880, 961), (884, 0), (894, 975), (920, 1001), (237, 0), (426, 507), (898, 979), (908, 35), (912, 993), (924, 1005), (156, 0), (666, 747), (873, 954), (205, 0), (422, 503), (692, 773), (697, 23), (705, 24), (709, 25), (713, 26), (717, 27), (720, 801), (725, 28), (739, 820), (821, 902), (108, 0), (273, 354), (571, 652), (577, 11), (584, 12), (769, 850), (773, 854), (786, 30), (794, 31), (798, 32), (802, 33), (810, 34), (887, 968), (80, 0), (596, 677), (601, 13), (605, 14), (609, 15), (613, 16), (618, 17), (625, 18), (629, 19), (656, 20), (660, 21), (37, 0), (430, 511), (435, 1), (439, 2), (445, 3), (449, 4), (455, 5), (459, 6), (463, 7), (466, 0), (469, 0), (473, 8), (477, 9), (568, 10), (591, 672), (114, 0), (587, 668), (700, 781), (777, 858), (789, 870), (805, 886), (930, 0), (935, 36), (1141, 1222), (1145, 1226), (1149, 0), (1153, 37), (1157, 1238), (1161, 1242), (1166, 38), (1170, 39), (1174, 40), (1178, 41), (1182, 42), (1186, 43), (1190, 44), (1193, 0), (1197, 45), (1201, 46), (1205, 47), (1209, 48), (1213, 49), (1217, 50), (1221, 51), (1225, 52), (1229, 53), (1233, 54), (1237, 55), (1241, 56), (1245, 57), (1249, 58), (1253, 59), (1257, 60), (1261, 61), (1265, 62), (1269, 63), (1273, 64), (1277, 65), (1281, 66), (1285, 67), (1289, 68), (1293, 69), (1296, 1377), (1301, 70), (1305, 71), (1309, 72), (1312, 1393), (1316, 1397), (1321, 73), (1325, 74), (1329, 75), (1333, 76), (1336, 1417), (1340, 1421), (1344, 1425), (1348, 1429), (1353, 77), (1356, 1437), (1360, 1441), (1365, 78), (1368, 1449), (1373, 79), (1376, 1457), (319, 0), (414, 0), (731, 0), (758, 0), (814, 0), (825, 0), (832, 0), (839, 0), (850, 0), (877, 0), (891, 0), (917, 0), (509, 0), (512, 0), (728, 0)]
theorem si_ok : ∀ j, j < 166 → (tSt j = 1 → tables_1[(siP.getD j (0, 0)).1]? = some (.static (yN j))) ∧ (tSt j ≠ 1 → tables_1[(siP.getD j (0, 0)).1]? = some (.instanceMethod (yN j))) ∧ (tSt j = 0 → lw_tbl[(siP.getD j (0, 0)).2]? = some (.selects (yN j).cls (yN j) (yN j))) := by decide +kernel
theorem nm_1 : ∀ j, j < 166 → (yN j).cls ≠ "java/lang/invoke/MethodHandle" ∧ (yN j).cls ≠ "java/lang/invoke/VarHandle" := by decide +kernel
theorem nm_3 : ∀ j, j < 166 → tOw j < 10 → plainName (yN j).cls = true := by decide +kernel
theorem nm_3_163 : plainFor (yN 163) = true := by decide +kernel
theorem nm_3_164 : plainFor (yN 164) = true := by decide +kernel
theorem nm_3_165 : plainFor (yN 165) = true := by decide +kernel
theorem nm_4 : ∀ j, j < 166 → (tSt j = 2 → (yN j).name = "<init>") ∧ (tIni j = 1 → (yN j).name = "<init>") := by decide +kernel
theorem nm_5 : ∀ j, j < 166 → (yN j).cls = cNm (tOw j) := by decide +kernel
theorem nm_6 : ∀ j, j < 166 → tOw j < 12 ∧ tSt j < 3 := by decide +kernel
theorem nm_2 : ∀ j, j < 166 → (parseMethodDescriptor (yN j).desc).map (fun d => d.parameters.length) = some (tNa j) := by decide +kernel
theorem tMx_le : ∀ j, j < 167 → tMx j ≤ 30 := by decide +kernel
def lmP : List (Nat × Bool) := [(31, false), (36, true), (79, true), (107, true), (204, true), (236, false), (271, true), (272, false), (327, false), (330, false), (421, false), (425, false), (429, false), (570, false), (595, false), (687, false), (738, false), (764, false), (820, false), (845, false), (848, false), (872, false), (883, false), (886, false), (897, false), (911, false), (923, false), (768, false), (691, false), (719, false), (239, false), (243, true), (244, true), (901, false), (902, false), (903, false), (904, false), (905, false), (906, false), (910, false), (915, false), (158, false), (669, false), (670, false), (207, false), (695, false), (707, false), (711, false), (715, false), (699, false), (703, false), (723, false), (727, false), (110, false), (113, false), (155, true), (776, false), (782, false), (574, false), (575, false), (772, false), (783, false), (784, false), (788, false), (792, false), (796, false), (800, false), (808, false), (812, true), (590, false), (804, false), (579, true), (582, false), (586, false), (82, false), (599, false), (665, false), (603, false), (607, false), (616, false), (654, false), (620, true), (623, false), (653, false), (627, false), (633, false), (631, true), (611, false), (615, false), (658, false), (662, false), (39, false), (594, false), (433, false), (437, false), (443, false), (447, false), (453, false), (471, false), (475, false), (457, false), (461, false), (480, false), (566, false), (468, false), (465, false), (116, false), (780, false), (781, false), (932, false), (933, false), (1148, false), (1151, false), (1176, false), (1180, false), (1192, false), (1184, false), (1188, false), (1199, false), (1168, false), (1195, false), (1172, false), (1203, false), (1211, false), (1215, false), (1219, false), (1223, false), (1247, false), (1271, false), (1275, false), (1239, false), (1243, false), (1259, false), (1251, false), (1231, false), (1255, false), (1263, false), (1267, false), (1235, false), (1279, false), (1287, false), (1303, false), (1307, false), (1291, false), (1207, false), (1227, false), (1164, false), (1283, false), (1323, false), (1327, false), (1331, false), (1299, false), (1319, false), (1351, false), (1363, false), (1371, false), (323, false), (417, false), (734, false), (760, false), (816, false), (827, false), (834, false), (841, false), (853, false), (879, false), (893, false), (919, false), (28, false), (929, false), (318, false), (1144, false), (1140, false), (310, false), (1156, false), (413, false), (1160, false), (314, false), (1295, false), (730, false), (1311, false), (757, false), (1315, false), (813, false), (1335, false), (824, false), (1339, false), (831, false), (1343, false), (838, false), (1347, false), (849, false), (1355, false), (876, false), (1359, false), (890, false), (1367, false), (916, false), (1375, false)]
def lmC (q : (Nat × (Nat × (Nat × Nat))) × (Nat × Bool)) : Bool :=
  (decide (500 ≤ q.1.2.2.1 ∧ q.1.2.2.1 < 504) || (decide (q.1.2.2.1 < 166) && (q.1.2.2.2 == tNa q.1.2.2.1 + (if tSt q.1.2.2.1 = 1 then 0 else 1)))) &&
  (if q.2.2 = true then decide (tables_1[q.2.1]? = some (.methodLinkNest (cNm q.1.1) q.1.2.1 (yN q.1.2.2.1) "MovingBoxes")) else decide (tables_1[q.2.1]? = some (.methodLink (cNm q.1.1) q.1.2.1 (yN q.1.2.2.1))))
theorem lm_all : (tLmL.zip lmP).all lmC = true := by decide +kernel
theorem lm_ok {o k j n : Nat} (h : tLm o k = some (j, n)) : ((500 ≤ j ∧ j < 504) ∨ (j < 166 ∧ n = tNa j + (if tSt j = 1 then 0 else 1))) ∧ (Cond.methodLinkNest (cNm o) k (yN j) "MovingBoxes" ∈ lw_tbl ∨ Cond.methodLink (cNm o) k (yN j) ∈ lw_tbl) := by
  obtain ⟨y, hy⟩ := zip_all lm_all rfl (lk2_mem h)
  simp only [lmC, Bool.and_eq_true, Bool.or_eq_true, decide_eq_true_eq, beq_iff_eq] at hy
  refine ⟨hy.1, ?_⟩
  have h4 := hy.2
  split at h4
  · exact Or.inl (tm (of_decide_eq_true h4))
  · exact Or.inr (tm (of_decide_eq_true h4))
end
