section
-- ===== PART A: goes FIRST, ahead of the names: the tables' words, and 'selects' of the private methods out of them =====
/-- a private method of a class that the tables say can be made, by its rows of tables_1 -/
def lw_okq (q : MethodName × Nat) : Prop := (q.1.cls ≠ "java/lang/invoke/MethodHandle" ∧ q.1.cls ≠ "java/lang/invoke/VarHandle") ∧ Cond.instantiable q.1.cls q.2 ∈ tables_1 ∧ Cond.privateMethod q.1 ∈ tables_1 ∧ Cond.instanceMethod q.1 ∈ tables_1
theorem lw_p0 : lw_okq (⟨"java/lang/Throwable", "fillInStackTrace", "(I)Ljava/lang/Throwable;"⟩, 6) := ⟨⟨by decide +kernel, by decide +kernel⟩, List.mem_of_getElem? (i := 374) (by decide +kernel), List.mem_of_getElem? (i := 372) (by decide +kernel), List.mem_of_getElem? (i := 373) (by decide +kernel)⟩
theorem lw_p1 : lw_okq (⟨"MovingBoxes$Term", "parseProcess", "(II)V"⟩, 8) := ⟨⟨by decide +kernel, by decide +kernel⟩, List.mem_of_getElem? (i := 35) (by decide +kernel), List.mem_of_getElem? (i := 434) (by decide +kernel), List.mem_of_getElem? (i := 435) (by decide +kernel)⟩
theorem lw_p2 : lw_okq (⟨"MovingBoxes$Term", "parsePart", "(II)V"⟩, 8) := ⟨⟨by decide +kernel, by decide +kernel⟩, List.mem_of_getElem? (i := 35) (by decide +kernel), List.mem_of_getElem? (i := 438) (by decide +kernel), List.mem_of_getElem? (i := 439) (by decide +kernel)⟩
theorem lw_p3 : lw_okq (⟨"MovingBoxes$Term", "peek", "()C"⟩, 8) := ⟨⟨by decide +kernel, by decide +kernel⟩, List.mem_of_getElem? (i := 35) (by decide +kernel), List.mem_of_getElem? (i := 444) (by decide +kernel), List.mem_of_getElem? (i := 445) (by decide +kernel)⟩
theorem lw_p4 : lw_okq (⟨"MovingBoxes$Term", "skip", "(C)V"⟩, 8) := ⟨⟨by decide +kernel, by decide +kernel⟩, List.mem_of_getElem? (i := 35) (by decide +kernel), List.mem_of_getElem? (i := 448) (by decide +kernel), List.mem_of_getElem? (i := 449) (by decide +kernel)⟩
theorem lw_p5 : lw_okq (⟨"MovingBoxes$Term", "parseMessage", "(I)V"⟩, 8) := ⟨⟨by decide +kernel, by decide +kernel⟩, List.mem_of_getElem? (i := 35) (by decide +kernel), List.mem_of_getElem? (i := 454) (by decide +kernel), List.mem_of_getElem? (i := 455) (by decide +kernel)⟩
theorem lw_p6 : lw_okq (⟨"MovingBoxes$Term", "addNode", "(IZ)I"⟩, 8) := ⟨⟨by decide +kernel, by decide +kernel⟩, List.mem_of_getElem? (i := 35) (by decide +kernel), List.mem_of_getElem? (i := 458) (by decide +kernel), List.mem_of_getElem? (i := 459) (by decide +kernel)⟩
theorem lw_p7 : lw_okq (⟨"MovingBoxes$Term", "parseName", "(I)C"⟩, 8) := ⟨⟨by decide +kernel, by decide +kernel⟩, List.mem_of_getElem? (i := 35) (by decide +kernel), List.mem_of_getElem? (i := 462) (by decide +kernel), List.mem_of_getElem? (i := 463) (by decide +kernel)⟩
theorem lw_p8 : lw_okq (⟨"MovingBoxes$Term", "parsePlace", "(II)V"⟩, 8) := ⟨⟨by decide +kernel, by decide +kernel⟩, List.mem_of_getElem? (i := 35) (by decide +kernel), List.mem_of_getElem? (i := 472) (by decide +kernel), List.mem_of_getElem? (i := 473) (by decide +kernel)⟩
theorem lw_p9 : lw_okq (⟨"MovingBoxes$Term", "parseGuard", "(II)V"⟩, 8) := ⟨⟨by decide +kernel, by decide +kernel⟩, List.mem_of_getElem? (i := 35) (by decide +kernel), List.mem_of_getElem? (i := 476) (by decide +kernel), List.mem_of_getElem? (i := 477) (by decide +kernel)⟩
theorem lw_p10 : lw_okq (⟨"MovingBoxes$Term", "parseLetter", "()C"⟩, 8) := ⟨⟨by decide +kernel, by decide +kernel⟩, List.mem_of_getElem? (i := 35) (by decide +kernel), List.mem_of_getElem? (i := 567) (by decide +kernel), List.mem_of_getElem? (i := 568) (by decide +kernel)⟩
theorem lw_p11 : lw_okq (⟨"MovingBoxes$State", "run", "(LMovingBoxes$Term;IIIII)V"⟩, 6) := ⟨⟨by decide +kernel, by decide +kernel⟩, List.mem_of_getElem? (i := 106) (by decide +kernel), List.mem_of_getElem? (i := 576) (by decide +kernel), List.mem_of_getElem? (i := 577) (by decide +kernel)⟩
theorem lw_p12 : lw_okq (⟨"MovingBoxes$State", "sort", "(I)LMovingBoxes$Things;"⟩, 6) := ⟨⟨by decide +kernel, by decide +kernel⟩, List.mem_of_getElem? (i := 106) (by decide +kernel), List.mem_of_getElem? (i := 583) (by decide +kernel), List.mem_of_getElem? (i := 584) (by decide +kernel)⟩
theorem lw_p13 : lw_okq (⟨"MovingBoxes$Teller", "tellPlace", "(LMovingBoxes$State;LMovingBoxes$Term;II)V"⟩, 7) := ⟨⟨by decide +kernel, by decide +kernel⟩, List.mem_of_getElem? (i := 78) (by decide +kernel), List.mem_of_getElem? (i := 600) (by decide +kernel), List.mem_of_getElem? (i := 601) (by decide +kernel)⟩
theorem lw_p14 : lw_okq (⟨"MovingBoxes$Teller", "put", "(C)V"⟩, 7) := ⟨⟨by decide +kernel, by decide +kernel⟩, List.mem_of_getElem? (i := 78) (by decide +kernel), List.mem_of_getElem? (i := 604) (by decide +kernel), List.mem_of_getElem? (i := 605) (by decide +kernel)⟩
theorem lw_p15 : lw_okq (⟨"MovingBoxes$Teller", "addPiece", "(II)V"⟩, 7) := ⟨⟨by decide +kernel, by decide +kernel⟩, List.mem_of_getElem? (i := 78) (by decide +kernel), List.mem_of_getElem? (i := 608) (by decide +kernel), List.mem_of_getElem? (i := 609) (by decide +kernel)⟩
def lw_privs_1 : List (MethodName × Nat) := [(⟨"java/lang/Throwable", "fillInStackTrace", "(I)Ljava/lang/Throwable;"⟩, 6), (⟨"MovingBoxes$Term", "parseProcess", "(II)V"⟩, 8), (⟨"MovingBoxes$Term", "parsePart", "(II)V"⟩, 8), (⟨"MovingBoxes$Term", "peek", "()C"⟩, 8), (⟨"MovingBoxes$Term", "skip", "(C)V"⟩, 8), (⟨"MovingBoxes$Term", "parseMessage", "(I)V"⟩, 8), (⟨"MovingBoxes$Term", "addNode", "(IZ)I"⟩, 8), (⟨"MovingBoxes$Term", "parseName", "(I)C"⟩, 8), (⟨"MovingBoxes$Term", "parsePlace", "(II)V"⟩, 8), (⟨"MovingBoxes$Term", "parseGuard", "(II)V"⟩, 8), (⟨"MovingBoxes$Term", "parseLetter", "()C"⟩, 8), (⟨"MovingBoxes$State", "run", "(LMovingBoxes$Term;IIIII)V"⟩, 6), (⟨"MovingBoxes$State", "sort", "(I)LMovingBoxes$Things;"⟩, 6), (⟨"MovingBoxes$Teller", "tellPlace", "(LMovingBoxes$State;LMovingBoxes$Term;II)V"⟩, 7), (⟨"MovingBoxes$Teller", "put", "(C)V"⟩, 7), (⟨"MovingBoxes$Teller", "addPiece", "(II)V"⟩, 7)]
theorem lw_r1 : ∀ q ∈ lw_privs_1, lw_okq q := List.forall_mem_cons.mpr ⟨lw_p0, List.forall_mem_cons.mpr ⟨lw_p1, List.forall_mem_cons.mpr ⟨lw_p2, List.forall_mem_cons.mpr ⟨lw_p3, List.forall_mem_cons.mpr ⟨lw_p4, List.forall_mem_cons.mpr ⟨lw_p5, List.forall_mem_cons.mpr ⟨lw_p6, List.forall_mem_cons.mpr ⟨lw_p7, List.forall_mem_cons.mpr ⟨lw_p8, List.forall_mem_cons.mpr ⟨lw_p9, List.forall_mem_cons.mpr ⟨lw_p10, List.forall_mem_cons.mpr ⟨lw_p11, List.forall_mem_cons.mpr ⟨lw_p12, List.forall_mem_cons.mpr ⟨lw_p13, List.forall_mem_cons.mpr ⟨lw_p14, List.forall_mem_cons.mpr ⟨lw_p15, fun _ h => absurd h List.not_mem_nil⟩⟩⟩⟩⟩⟩⟩⟩⟩⟩⟩⟩⟩⟩⟩⟩
theorem lw_p16 : lw_okq (⟨"MovingBoxes$Teller", "isBefore", "(IIII)Z"⟩, 7) := ⟨⟨by decide +kernel, by decide +kernel⟩, List.mem_of_getElem? (i := 78) (by decide +kernel), List.mem_of_getElem? (i := 612) (by decide +kernel), List.mem_of_getElem? (i := 613) (by decide +kernel)⟩
theorem lw_p17 : lw_okq (⟨"MovingBoxes$Teller", "tellNode", "(LMovingBoxes$Term;III)V"⟩, 7) := ⟨⟨by decide +kernel, by decide +kernel⟩, List.mem_of_getElem? (i := 78) (by decide +kernel), List.mem_of_getElem? (i := 617) (by decide +kernel), List.mem_of_getElem? (i := 618) (by decide +kernel)⟩
theorem lw_p18 : lw_okq (⟨"MovingBoxes$Teller", "putHead", "(LMovingBoxes$Term;II)V"⟩, 7) := ⟨⟨by decide +kernel, by decide +kernel⟩, List.mem_of_getElem? (i := 78) (by decide +kernel), List.mem_of_getElem? (i := 624) (by decide +kernel), List.mem_of_getElem? (i := 625) (by decide +kernel)⟩
theorem lw_p19 : lw_okq (⟨"MovingBoxes$Teller", "putName", "(CI)V"⟩, 7) := ⟨⟨by decide +kernel, by decide +kernel⟩, List.mem_of_getElem? (i := 78) (by decide +kernel), List.mem_of_getElem? (i := 628) (by decide +kernel), List.mem_of_getElem? (i := 629) (by decide +kernel)⟩
theorem lw_p20 : lw_okq (⟨"MovingBoxes$Teller", "join", "(IIZ)V"⟩, 7) := ⟨⟨by decide +kernel, by decide +kernel⟩, List.mem_of_getElem? (i := 78) (by decide +kernel), List.mem_of_getElem? (i := 655) (by decide +kernel), List.mem_of_getElem? (i := 656) (by decide +kernel)⟩
theorem lw_p21 : lw_okq (⟨"MovingBoxes$Teller", "copyOrdered", "(IZ)V"⟩, 7) := ⟨⟨by decide +kernel, by decide +kernel⟩, List.mem_of_getElem? (i := 78) (by decide +kernel), List.mem_of_getElem? (i := 659) (by decide +kernel), List.mem_of_getElem? (i := 660) (by decide +kernel)⟩
theorem lw_p22 : lw_okq (⟨"MovingBoxes", "goOn", "()V"⟩, 11) := ⟨⟨by decide +kernel, by decide +kernel⟩, List.mem_of_getElem? (i := 27) (by decide +kernel), List.mem_of_getElem? (i := 688) (by decide +kernel), List.mem_of_getElem? (i := 689) (by decide +kernel)⟩
theorem lw_p23 : lw_okq (⟨"MovingBoxes$Redexes", "findBeside", "(LMovingBoxes$State;I)V"⟩, 5) := ⟨⟨by decide +kernel, by decide +kernel⟩, List.mem_of_getElem? (i := 203) (by decide +kernel), List.mem_of_getElem? (i := 696) (by decide +kernel), List.mem_of_getElem? (i := 697) (by decide +kernel)⟩
theorem lw_p24 : lw_okq (⟨"MovingBoxes$Redexes", "add", "(III)V"⟩, 5) := ⟨⟨by decide +kernel, by decide +kernel⟩, List.mem_of_getElem? (i := 203) (by decide +kernel), List.mem_of_getElem? (i := 704) (by decide +kernel), List.mem_of_getElem? (i := 705) (by decide +kernel)⟩
theorem lw_p25 : lw_okq (⟨"MovingBoxes$Redexes", "findAround", "(LMovingBoxes$State;I)V"⟩, 5) := ⟨⟨by decide +kernel, by decide +kernel⟩, List.mem_of_getElem? (i := 203) (by decide +kernel), List.mem_of_getElem? (i := 708) (by decide +kernel), List.mem_of_getElem? (i := 709) (by decide +kernel)⟩
theorem lw_p26 : lw_okq (⟨"MovingBoxes$Redexes", "findInside", "(LMovingBoxes$State;I)V"⟩, 5) := ⟨⟨by decide +kernel, by decide +kernel⟩, List.mem_of_getElem? (i := 203) (by decide +kernel), List.mem_of_getElem? (i := 712) (by decide +kernel), List.mem_of_getElem? (i := 713) (by decide +kernel)⟩
theorem lw_p27 : lw_okq (⟨"MovingBoxes$Redexes", "findMessages", "(LMovingBoxes$State;I)V"⟩, 5) := ⟨⟨by decide +kernel, by decide +kernel⟩, List.mem_of_getElem? (i := 203) (by decide +kernel), List.mem_of_getElem? (i := 716) (by decide +kernel), List.mem_of_getElem? (i := 717) (by decide +kernel)⟩
theorem lw_p28 : lw_okq (⟨"MovingBoxes$Redexes", "compare", "(III)I"⟩, 5) := ⟨⟨by decide +kernel, by decide +kernel⟩, List.mem_of_getElem? (i := 203) (by decide +kernel), List.mem_of_getElem? (i := 724) (by decide +kernel), List.mem_of_getElem? (i := 725) (by decide +kernel)⟩
theorem lw_p29 : lw_okq (⟨"MovingBoxes", "stepped", "(I)Z"⟩, 11) := ⟨⟨by decide +kernel, by decide +kernel⟩, List.mem_of_getElem? (i := 27) (by decide +kernel), List.mem_of_getElem? (i := 765) (by decide +kernel), List.mem_of_getElem? (i := 766) (by decide +kernel)⟩
theorem lw_p30 : lw_okq (⟨"MovingBoxes$State", "react", "(LMovingBoxes$Term;II)V"⟩, 6) := ⟨⟨by decide +kernel, by decide +kernel⟩, List.mem_of_getElem? (i := 106) (by decide +kernel), List.mem_of_getElem? (i := 785) (by decide +kernel), List.mem_of_getElem? (i := 786) (by decide +kernel)⟩
theorem lw_p31 : lw_okq (⟨"MovingBoxes$State", "move", "(II)V"⟩, 6) := ⟨⟨by decide +kernel, by decide +kernel⟩, List.mem_of_getElem? (i := 106) (by decide +kernel), List.mem_of_getElem? (i := 793) (by decide +kernel), List.mem_of_getElem? (i := 794) (by decide +kernel)⟩
def lw_privs_2 : List (MethodName × Nat) := [(⟨"MovingBoxes$Teller", "isBefore", "(IIII)Z"⟩, 7), (⟨"MovingBoxes$Teller", "tellNode", "(LMovingBoxes$Term;III)V"⟩, 7), (⟨"MovingBoxes$Teller", "putHead", "(LMovingBoxes$Term;II)V"⟩, 7), (⟨"MovingBoxes$Teller", "putName", "(CI)V"⟩, 7), (⟨"MovingBoxes$Teller", "join", "(IIZ)V"⟩, 7), (⟨"MovingBoxes$Teller", "copyOrdered", "(IZ)V"⟩, 7), (⟨"MovingBoxes", "goOn", "()V"⟩, 11), (⟨"MovingBoxes$Redexes", "findBeside", "(LMovingBoxes$State;I)V"⟩, 5), (⟨"MovingBoxes$Redexes", "add", "(III)V"⟩, 5), (⟨"MovingBoxes$Redexes", "findAround", "(LMovingBoxes$State;I)V"⟩, 5), (⟨"MovingBoxes$Redexes", "findInside", "(LMovingBoxes$State;I)V"⟩, 5), (⟨"MovingBoxes$Redexes", "findMessages", "(LMovingBoxes$State;I)V"⟩, 5), (⟨"MovingBoxes$Redexes", "compare", "(III)I"⟩, 5), (⟨"MovingBoxes", "stepped", "(I)Z"⟩, 11), (⟨"MovingBoxes$State", "react", "(LMovingBoxes$Term;II)V"⟩, 6), (⟨"MovingBoxes$State", "move", "(II)V"⟩, 6)]
theorem lw_r2 : ∀ q ∈ lw_privs_2, lw_okq q := List.forall_mem_cons.mpr ⟨lw_p16, List.forall_mem_cons.mpr ⟨lw_p17, List.forall_mem_cons.mpr ⟨lw_p18, List.forall_mem_cons.mpr ⟨lw_p19, List.forall_mem_cons.mpr ⟨lw_p20, List.forall_mem_cons.mpr ⟨lw_p21, List.forall_mem_cons.mpr ⟨lw_p22, List.forall_mem_cons.mpr ⟨lw_p23, List.forall_mem_cons.mpr ⟨lw_p24, List.forall_mem_cons.mpr ⟨lw_p25, List.forall_mem_cons.mpr ⟨lw_p26, List.forall_mem_cons.mpr ⟨lw_p27, List.forall_mem_cons.mpr ⟨lw_p28, List.forall_mem_cons.mpr ⟨lw_p29, List.forall_mem_cons.mpr ⟨lw_p30, List.forall_mem_cons.mpr ⟨lw_p31, fun _ h => absurd h List.not_mem_nil⟩⟩⟩⟩⟩⟩⟩⟩⟩⟩⟩⟩⟩⟩⟩⟩
theorem lw_p32 : lw_okq (⟨"MovingBoxes$State", "placeOf", "(I)I"⟩, 6) := ⟨⟨by decide +kernel, by decide +kernel⟩, List.mem_of_getElem? (i := 106) (by decide +kernel), List.mem_of_getElem? (i := 797) (by decide +kernel), List.mem_of_getElem? (i := 798) (by decide +kernel)⟩
theorem lw_p33 : lw_okq (⟨"MovingBoxes$State", "dissolve", "(II)V"⟩, 6) := ⟨⟨by decide +kernel, by decide +kernel⟩, List.mem_of_getElem? (i := 106) (by decide +kernel), List.mem_of_getElem? (i := 801) (by decide +kernel), List.mem_of_getElem? (i := 802) (by decide +kernel)⟩
theorem lw_p34 : lw_okq (⟨"MovingBoxes$State", "receive", "(I)I"⟩, 6) := ⟨⟨by decide +kernel, by decide +kernel⟩, List.mem_of_getElem? (i := 106) (by decide +kernel), List.mem_of_getElem? (i := 809) (by decide +kernel), List.mem_of_getElem? (i := 810) (by decide +kernel)⟩
theorem lw_p35 : lw_okq (⟨"MovingBoxes$Explorer", "isNew", "(LMovingBoxes$State;)Z"⟩, 7) := ⟨⟨by decide +kernel, by decide +kernel⟩, List.mem_of_getElem? (i := 235) (by decide +kernel), List.mem_of_getElem? (i := 907) (by decide +kernel), List.mem_of_getElem? (i := 908) (by decide +kernel)⟩
theorem lw_p36 : lw_okq (⟨"MovingBoxesModel", "alone", "()V"⟩, 67) := ⟨⟨by decide +kernel, by decide +kernel⟩, List.mem_of_getElem? (i := 928) (by decide +kernel), List.mem_of_getElem? (i := 934) (by decide +kernel), List.mem_of_getElem? (i := 935) (by decide +kernel)⟩
theorem lw_p37 : lw_okq (⟨"MovingBoxesModel", "fail", "(I)I"⟩, 67) := ⟨⟨by decide +kernel, by decide +kernel⟩, List.mem_of_getElem? (i := 928) (by decide +kernel), List.mem_of_getElem? (i := 1152) (by decide +kernel), List.mem_of_getElem? (i := 1153) (by decide +kernel)⟩
theorem lw_p38 : lw_okq (⟨"MovingBoxesModel", "parse", "()V"⟩, 67) := ⟨⟨by decide +kernel, by decide +kernel⟩, List.mem_of_getElem? (i := 928) (by decide +kernel), List.mem_of_getElem? (i := 1165) (by decide +kernel), List.mem_of_getElem? (i := 1166) (by decide +kernel)⟩
theorem lw_p39 : lw_okq (⟨"MovingBoxesModel", "push", "(III)V"⟩, 67) := ⟨⟨by decide +kernel, by decide +kernel⟩, List.mem_of_getElem? (i := 928) (by decide +kernel), List.mem_of_getElem? (i := 1169) (by decide +kernel), List.mem_of_getElem? (i := 1170) (by decide +kernel)⟩
theorem lw_p40 : lw_okq (⟨"MovingBoxesModel", "part", "()Z"⟩, 67) := ⟨⟨by decide +kernel, by decide +kernel⟩, List.mem_of_getElem? (i := 928) (by decide +kernel), List.mem_of_getElem? (i := 1173) (by decide +kernel), List.mem_of_getElem? (i := 1174) (by decide +kernel)⟩
theorem lw_p41 : lw_okq (⟨"MovingBoxesModel", "wrong", "(I)V"⟩, 67) := ⟨⟨by decide +kernel, by decide +kernel⟩, List.mem_of_getElem? (i := 928) (by decide +kernel), List.mem_of_getElem? (i := 1177) (by decide +kernel), List.mem_of_getElem? (i := 1178) (by decide +kernel)⟩
theorem lw_p42 : lw_okq (⟨"MovingBoxesModel", "here", "()I"⟩, 67) := ⟨⟨by decide +kernel, by decide +kernel⟩, List.mem_of_getElem? (i := 928) (by decide +kernel), List.mem_of_getElem? (i := 1181) (by decide +kernel), List.mem_of_getElem? (i := 1182) (by decide +kernel)⟩
theorem lw_p43 : lw_okq (⟨"MovingBoxesModel", "node", "(IZ)I"⟩, 67) := ⟨⟨by decide +kernel, by decide +kernel⟩, List.mem_of_getElem? (i := 928) (by decide +kernel), List.mem_of_getElem? (i := 1185) (by decide +kernel), List.mem_of_getElem? (i := 1186) (by decide +kernel)⟩
theorem lw_p44 : lw_okq (⟨"MovingBoxesModel", "named", "()I"⟩, 67) := ⟨⟨by decide +kernel, by decide +kernel⟩, List.mem_of_getElem? (i := 928) (by decide +kernel), List.mem_of_getElem? (i := 1189) (by decide +kernel), List.mem_of_getElem? (i := 1190) (by decide +kernel)⟩
theorem lw_p45 : lw_okq (⟨"MovingBoxesModel", "guard", "(Z)V"⟩, 67) := ⟨⟨by decide +kernel, by decide +kernel⟩, List.mem_of_getElem? (i := 928) (by decide +kernel), List.mem_of_getElem? (i := 1196) (by decide +kernel), List.mem_of_getElem? (i := 1197) (by decide +kernel)⟩
theorem lw_p46 : lw_okq (⟨"MovingBoxesModel", "expect", "(I)V"⟩, 67) := ⟨⟨by decide +kernel, by decide +kernel⟩, List.mem_of_getElem? (i := 928) (by decide +kernel), List.mem_of_getElem? (i := 1200) (by decide +kernel), List.mem_of_getElem? (i := 1201) (by decide +kernel)⟩
theorem lw_p47 : lw_okq (⟨"MovingBoxesModel", "behind", "()Z"⟩, 67) := ⟨⟨by decide +kernel, by decide +kernel⟩, List.mem_of_getElem? (i := 928) (by decide +kernel), List.mem_of_getElem? (i := 1204) (by decide +kernel), List.mem_of_getElem? (i := 1205) (by decide +kernel)⟩
def lw_privs_3 : List (MethodName × Nat) := [(⟨"MovingBoxes$State", "placeOf", "(I)I"⟩, 6), (⟨"MovingBoxes$State", "dissolve", "(II)V"⟩, 6), (⟨"MovingBoxes$State", "receive", "(I)I"⟩, 6), (⟨"MovingBoxes$Explorer", "isNew", "(LMovingBoxes$State;)Z"⟩, 7), (⟨"MovingBoxesModel", "alone", "()V"⟩, 67), (⟨"MovingBoxesModel", "fail", "(I)I"⟩, 67), (⟨"MovingBoxesModel", "parse", "()V"⟩, 67), (⟨"MovingBoxesModel", "push", "(III)V"⟩, 67), (⟨"MovingBoxesModel", "part", "()Z"⟩, 67), (⟨"MovingBoxesModel", "wrong", "(I)V"⟩, 67), (⟨"MovingBoxesModel", "here", "()I"⟩, 67), (⟨"MovingBoxesModel", "node", "(IZ)I"⟩, 67), (⟨"MovingBoxesModel", "named", "()I"⟩, 67), (⟨"MovingBoxesModel", "guard", "(Z)V"⟩, 67), (⟨"MovingBoxesModel", "expect", "(I)V"⟩, 67), (⟨"MovingBoxesModel", "behind", "()Z"⟩, 67)]
theorem lw_r3 : ∀ q ∈ lw_privs_3, lw_okq q := List.forall_mem_cons.mpr ⟨lw_p32, List.forall_mem_cons.mpr ⟨lw_p33, List.forall_mem_cons.mpr ⟨lw_p34, List.forall_mem_cons.mpr ⟨lw_p35, List.forall_mem_cons.mpr ⟨lw_p36, List.forall_mem_cons.mpr ⟨lw_p37, List.forall_mem_cons.mpr ⟨lw_p38, List.forall_mem_cons.mpr ⟨lw_p39, List.forall_mem_cons.mpr ⟨lw_p40, List.forall_mem_cons.mpr ⟨lw_p41, List.forall_mem_cons.mpr ⟨lw_p42, List.forall_mem_cons.mpr ⟨lw_p43, List.forall_mem_cons.mpr ⟨lw_p44, List.forall_mem_cons.mpr ⟨lw_p45, List.forall_mem_cons.mpr ⟨lw_p46, List.forall_mem_cons.mpr ⟨lw_p47, fun _ h => absurd h List.not_mem_nil⟩⟩⟩⟩⟩⟩⟩⟩⟩⟩⟩⟩⟩⟩⟩⟩
theorem lw_p48 : lw_okq (⟨"MovingBoxesModel", "run", "(III)V"⟩, 67) := ⟨⟨by decide +kernel, by decide +kernel⟩, List.mem_of_getElem? (i := 928) (by decide +kernel), List.mem_of_getElem? (i := 1208) (by decide +kernel), List.mem_of_getElem? (i := 1209) (by decide +kernel)⟩
theorem lw_p49 : lw_okq (⟨"MovingBoxesModel", "resolved", "(II)I"⟩, 67) := ⟨⟨by decide +kernel, by decide +kernel⟩, List.mem_of_getElem? (i := 928) (by decide +kernel), List.mem_of_getElem? (i := 1212) (by decide +kernel), List.mem_of_getElem? (i := 1213) (by decide +kernel)⟩
theorem lw_p50 : lw_okq (⟨"MovingBoxesModel", "makePlace", "(II)I"⟩, 67) := ⟨⟨by decide +kernel, by decide +kernel⟩, List.mem_of_getElem? (i := 928) (by decide +kernel), List.mem_of_getElem? (i := 1216) (by decide +kernel), List.mem_of_getElem? (i := 1217) (by decide +kernel)⟩
theorem lw_p51 : lw_okq (⟨"MovingBoxesModel", "makeMessage", "(II)V"⟩, 67) := ⟨⟨by decide +kernel, by decide +kernel⟩, List.mem_of_getElem? (i := 928) (by decide +kernel), List.mem_of_getElem? (i := 1220) (by decide +kernel), List.mem_of_getElem? (i := 1221) (by decide +kernel)⟩
theorem lw_p52 : lw_okq (⟨"MovingBoxesModel", "makeGuard", "(III)V"⟩, 67) := ⟨⟨by decide +kernel, by decide +kernel⟩, List.mem_of_getElem? (i := 928) (by decide +kernel), List.mem_of_getElem? (i := 1224) (by decide +kernel), List.mem_of_getElem? (i := 1225) (by decide +kernel)⟩
theorem lw_p53 : lw_okq (⟨"MovingBoxesModel", "describe", "()V"⟩, 67) := ⟨⟨by decide +kernel, by decide +kernel⟩, List.mem_of_getElem? (i := 928) (by decide +kernel), List.mem_of_getElem? (i := 1228) (by decide +kernel), List.mem_of_getElem? (i := 1229) (by decide +kernel)⟩
theorem lw_p54 : lw_okq (⟨"MovingBoxesModel", "frame", "(IIII)V"⟩, 67) := ⟨⟨by decide +kernel, by decide +kernel⟩, List.mem_of_getElem? (i := 928) (by decide +kernel), List.mem_of_getElem? (i := 1232) (by decide +kernel), List.mem_of_getElem? (i := 1233) (by decide +kernel)⟩
theorem lw_p55 : lw_okq (⟨"MovingBoxesModel", "placeStep", "(I)V"⟩, 67) := ⟨⟨by decide +kernel, by decide +kernel⟩, List.mem_of_getElem? (i := 928) (by decide +kernel), List.mem_of_getElem? (i := 1236) (by decide +kernel), List.mem_of_getElem? (i := 1237) (by decide +kernel)⟩
theorem lw_p56 : lw_okq (⟨"MovingBoxesModel", "begin", "()V"⟩, 67) := ⟨⟨by decide +kernel, by decide +kernel⟩, List.mem_of_getElem? (i := 928) (by decide +kernel), List.mem_of_getElem? (i := 1240) (by decide +kernel), List.mem_of_getElem? (i := 1241) (by decide +kernel)⟩
theorem lw_p57 : lw_okq (⟨"MovingBoxesModel", "letterOf", "(I)V"⟩, 67) := ⟨⟨by decide +kernel, by decide +kernel⟩, List.mem_of_getElem? (i := 928) (by decide +kernel), List.mem_of_getElem? (i := 1244) (by decide +kernel), List.mem_of_getElem? (i := 1245) (by decide +kernel)⟩
theorem lw_p58 : lw_okq (⟨"MovingBoxesModel", "character", "(I)V"⟩, 67) := ⟨⟨by decide +kernel, by decide +kernel⟩, List.mem_of_getElem? (i := 928) (by decide +kernel), List.mem_of_getElem? (i := 1248) (by decide +kernel), List.mem_of_getElem? (i := 1249) (by decide +kernel)⟩
theorem lw_p59 : lw_okq (⟨"MovingBoxesModel", "head", "()V"⟩, 67) := ⟨⟨by decide +kernel, by decide +kernel⟩, List.mem_of_getElem? (i := 928) (by decide +kernel), List.mem_of_getElem? (i := 1252) (by decide +kernel), List.mem_of_getElem? (i := 1253) (by decide +kernel)⟩
theorem lw_p60 : lw_okq (⟨"MovingBoxesModel", "guardText", "(III)V"⟩, 67) := ⟨⟨by decide +kernel, by decide +kernel⟩, List.mem_of_getElem? (i := 928) (by decide +kernel), List.mem_of_getElem? (i := 1256) (by decide +kernel), List.mem_of_getElem? (i := 1257) (by decide +kernel)⟩
theorem lw_p61 : lw_okq (⟨"MovingBoxesModel", "nameText", "(III)V"⟩, 67) := ⟨⟨by decide +kernel, by decide +kernel⟩, List.mem_of_getElem? (i := 928) (by decide +kernel), List.mem_of_getElem? (i := 1260) (by decide +kernel), List.mem_of_getElem? (i := 1261) (by decide +kernel)⟩
theorem lw_p62 : lw_okq (⟨"MovingBoxesModel", "simple", "(III)V"⟩, 67) := ⟨⟨by decide +kernel, by decide +kernel⟩, List.mem_of_getElem? (i := 928) (by decide +kernel), List.mem_of_getElem? (i := 1264) (by decide +kernel), List.mem_of_getElem? (i := 1265) (by decide +kernel)⟩
theorem lw_p63 : lw_okq (⟨"MovingBoxesModel", "join", "(II)V"⟩, 67) := ⟨⟨by decide +kernel, by decide +kernel⟩, List.mem_of_getElem? (i := 928) (by decide +kernel), List.mem_of_getElem? (i := 1268) (by decide +kernel), List.mem_of_getElem? (i := 1269) (by decide +kernel)⟩
def lw_privs_4 : List (MethodName × Nat) := [(⟨"MovingBoxesModel", "run", "(III)V"⟩, 67), (⟨"MovingBoxesModel", "resolved", "(II)I"⟩, 67), (⟨"MovingBoxesModel", "makePlace", "(II)I"⟩, 67), (⟨"MovingBoxesModel", "makeMessage", "(II)V"⟩, 67), (⟨"MovingBoxesModel", "makeGuard", "(III)V"⟩, 67), (⟨"MovingBoxesModel", "describe", "()V"⟩, 67), (⟨"MovingBoxesModel", "frame", "(IIII)V"⟩, 67), (⟨"MovingBoxesModel", "placeStep", "(I)V"⟩, 67), (⟨"MovingBoxesModel", "begin", "()V"⟩, 67), (⟨"MovingBoxesModel", "letterOf", "(I)V"⟩, 67), (⟨"MovingBoxesModel", "character", "(I)V"⟩, 67), (⟨"MovingBoxesModel", "head", "()V"⟩, 67), (⟨"MovingBoxesModel", "guardText", "(III)V"⟩, 67), (⟨"MovingBoxesModel", "nameText", "(III)V"⟩, 67), (⟨"MovingBoxesModel", "simple", "(III)V"⟩, 67), (⟨"MovingBoxesModel", "join", "(II)V"⟩, 67)]
theorem lw_r4 : ∀ q ∈ lw_privs_4, lw_okq q := List.forall_mem_cons.mpr ⟨lw_p48, List.forall_mem_cons.mpr ⟨lw_p49, List.forall_mem_cons.mpr ⟨lw_p50, List.forall_mem_cons.mpr ⟨lw_p51, List.forall_mem_cons.mpr ⟨lw_p52, List.forall_mem_cons.mpr ⟨lw_p53, List.forall_mem_cons.mpr ⟨lw_p54, List.forall_mem_cons.mpr ⟨lw_p55, List.forall_mem_cons.mpr ⟨lw_p56, List.forall_mem_cons.mpr ⟨lw_p57, List.forall_mem_cons.mpr ⟨lw_p58, List.forall_mem_cons.mpr ⟨lw_p59, List.forall_mem_cons.mpr ⟨lw_p60, List.forall_mem_cons.mpr ⟨lw_p61, List.forall_mem_cons.mpr ⟨lw_p62, List.forall_mem_cons.mpr ⟨lw_p63, fun _ h => absurd h List.not_mem_nil⟩⟩⟩⟩⟩⟩⟩⟩⟩⟩⟩⟩⟩⟩⟩⟩
theorem lw_p64 : lw_okq (⟨"MovingBoxesModel", "before", "(II)Z"⟩, 67) := ⟨⟨by decide +kernel, by decide +kernel⟩, List.mem_of_getElem? (i := 928) (by decide +kernel), List.mem_of_getElem? (i := 1272) (by decide +kernel), List.mem_of_getElem? (i := 1273) (by decide +kernel)⟩
theorem lw_p65 : lw_okq (⟨"MovingBoxesModel", "copied", "(II)I"⟩, 67) := ⟨⟨by decide +kernel, by decide +kernel⟩, List.mem_of_getElem? (i := 928) (by decide +kernel), List.mem_of_getElem? (i := 1276) (by decide +kernel), List.mem_of_getElem? (i := 1277) (by decide +kernel)⟩
theorem lw_p66 : lw_okq (⟨"MovingBoxesModel", "partStep", "(I)V"⟩, 67) := ⟨⟨by decide +kernel, by decide +kernel⟩, List.mem_of_getElem? (i := 928) (by decide +kernel), List.mem_of_getElem? (i := 1280) (by decide +kernel), List.mem_of_getElem? (i := 1281) (by decide +kernel)⟩
theorem lw_p67 : lw_okq (⟨"MovingBoxesModel", "settle", "()V"⟩, 67) := ⟨⟨by decide +kernel, by decide +kernel⟩, List.mem_of_getElem? (i := 928) (by decide +kernel), List.mem_of_getElem? (i := 1284) (by decide +kernel), List.mem_of_getElem? (i := 1285) (by decide +kernel)⟩
theorem lw_p68 : lw_okq (⟨"MovingBoxesModel", "otherNumber", "(I)I"⟩, 67) := ⟨⟨by decide +kernel, by decide +kernel⟩, List.mem_of_getElem? (i := 928) (by decide +kernel), List.mem_of_getElem? (i := 1288) (by decide +kernel), List.mem_of_getElem? (i := 1289) (by decide +kernel)⟩
theorem lw_p69 : lw_okq (⟨"MovingBoxesModel", "isRedex", "(II)Z"⟩, 67) := ⟨⟨by decide +kernel, by decide +kernel⟩, List.mem_of_getElem? (i := 928) (by decide +kernel), List.mem_of_getElem? (i := 1292) (by decide +kernel), List.mem_of_getElem? (i := 1293) (by decide +kernel)⟩
theorem lw_p70 : lw_okq (⟨"MovingBoxesModel", "search", "(I)I"⟩, 67) := ⟨⟨by decide +kernel, by decide +kernel⟩, List.mem_of_getElem? (i := 928) (by decide +kernel), List.mem_of_getElem? (i := 1300) (by decide +kernel), List.mem_of_getElem? (i := 1301) (by decide +kernel)⟩
theorem lw_p71 : lw_okq (⟨"MovingBoxesModel", "guardBehind", "(I)I"⟩, 67) := ⟨⟨by decide +kernel, by decide +kernel⟩, List.mem_of_getElem? (i := 928) (by decide +kernel), List.mem_of_getElem? (i := 1304) (by decide +kernel), List.mem_of_getElem? (i := 1305) (by decide +kernel)⟩
theorem lw_p72 : lw_okq (⟨"MovingBoxesModel", "otherBehind", "(I)I"⟩, 67) := ⟨⟨by decide +kernel, by decide +kernel⟩, List.mem_of_getElem? (i := 928) (by decide +kernel), List.mem_of_getElem? (i := 1308) (by decide +kernel), List.mem_of_getElem? (i := 1309) (by decide +kernel)⟩
theorem lw_p73 : lw_okq (⟨"MovingBoxesModel", "step", "()Z"⟩, 67) := ⟨⟨by decide +kernel, by decide +kernel⟩, List.mem_of_getElem? (i := 928) (by decide +kernel), List.mem_of_getElem? (i := 1320) (by decide +kernel), List.mem_of_getElem? (i := 1321) (by decide +kernel)⟩
theorem lw_p74 : lw_okq (⟨"MovingBoxesModel", "save", "(I)V"⟩, 67) := ⟨⟨by decide +kernel, by decide +kernel⟩, List.mem_of_getElem? (i := 928) (by decide +kernel), List.mem_of_getElem? (i := 1324) (by decide +kernel), List.mem_of_getElem? (i := 1325) (by decide +kernel)⟩
theorem lw_p75 : lw_okq (⟨"MovingBoxesModel", "make", "()V"⟩, 67) := ⟨⟨by decide +kernel, by decide +kernel⟩, List.mem_of_getElem? (i := 928) (by decide +kernel), List.mem_of_getElem? (i := 1328) (by decide +kernel), List.mem_of_getElem? (i := 1329) (by decide +kernel)⟩
theorem lw_p76 : lw_okq (⟨"MovingBoxesModel", "load", "(I)V"⟩, 67) := ⟨⟨by decide +kernel, by decide +kernel⟩, List.mem_of_getElem? (i := 928) (by decide +kernel), List.mem_of_getElem? (i := 1332) (by decide +kernel), List.mem_of_getElem? (i := 1333) (by decide +kernel)⟩
theorem lw_p77 : lw_okq (⟨"MovingBoxesModel", "eight", "(I)J"⟩, 67) := ⟨⟨by decide +kernel, by decide +kernel⟩, List.mem_of_getElem? (i := 928) (by decide +kernel), List.mem_of_getElem? (i := 1352) (by decide +kernel), List.mem_of_getElem? (i := 1353) (by decide +kernel)⟩
theorem lw_p78 : lw_okq (⟨"MovingBoxesModel", "shape", "(II)Z"⟩, 67) := ⟨⟨by decide +kernel, by decide +kernel⟩, List.mem_of_getElem? (i := 928) (by decide +kernel), List.mem_of_getElem? (i := 1364) (by decide +kernel), List.mem_of_getElem? (i := 1365) (by decide +kernel)⟩
theorem lw_p79 : lw_okq (⟨"MovingBoxesModel", "find", "(III)V"⟩, 67) := ⟨⟨by decide +kernel, by decide +kernel⟩, List.mem_of_getElem? (i := 928) (by decide +kernel), List.mem_of_getElem? (i := 1372) (by decide +kernel), List.mem_of_getElem? (i := 1373) (by decide +kernel)⟩
def lw_privs_5 : List (MethodName × Nat) := [(⟨"MovingBoxesModel", "before", "(II)Z"⟩, 67), (⟨"MovingBoxesModel", "copied", "(II)I"⟩, 67), (⟨"MovingBoxesModel", "partStep", "(I)V"⟩, 67), (⟨"MovingBoxesModel", "settle", "()V"⟩, 67), (⟨"MovingBoxesModel", "otherNumber", "(I)I"⟩, 67), (⟨"MovingBoxesModel", "isRedex", "(II)Z"⟩, 67), (⟨"MovingBoxesModel", "search", "(I)I"⟩, 67), (⟨"MovingBoxesModel", "guardBehind", "(I)I"⟩, 67), (⟨"MovingBoxesModel", "otherBehind", "(I)I"⟩, 67), (⟨"MovingBoxesModel", "step", "()Z"⟩, 67), (⟨"MovingBoxesModel", "save", "(I)V"⟩, 67), (⟨"MovingBoxesModel", "make", "()V"⟩, 67), (⟨"MovingBoxesModel", "load", "(I)V"⟩, 67), (⟨"MovingBoxesModel", "eight", "(I)J"⟩, 67), (⟨"MovingBoxesModel", "shape", "(II)Z"⟩, 67), (⟨"MovingBoxesModel", "find", "(III)V"⟩, 67)]
theorem lw_r5 : ∀ q ∈ lw_privs_5, lw_okq q := List.forall_mem_cons.mpr ⟨lw_p64, List.forall_mem_cons.mpr ⟨lw_p65, List.forall_mem_cons.mpr ⟨lw_p66, List.forall_mem_cons.mpr ⟨lw_p67, List.forall_mem_cons.mpr ⟨lw_p68, List.forall_mem_cons.mpr ⟨lw_p69, List.forall_mem_cons.mpr ⟨lw_p70, List.forall_mem_cons.mpr ⟨lw_p71, List.forall_mem_cons.mpr ⟨lw_p72, List.forall_mem_cons.mpr ⟨lw_p73, List.forall_mem_cons.mpr ⟨lw_p74, List.forall_mem_cons.mpr ⟨lw_p75, List.forall_mem_cons.mpr ⟨lw_p76, List.forall_mem_cons.mpr ⟨lw_p77, List.forall_mem_cons.mpr ⟨lw_p78, List.forall_mem_cons.mpr ⟨lw_p79, fun _ h => absurd h List.not_mem_nil⟩⟩⟩⟩⟩⟩⟩⟩⟩⟩⟩⟩⟩⟩⟩⟩
def lw_privs : List (MethodName × Nat) := lw_privs_1 ++ (lw_privs_2 ++ (lw_privs_3 ++ (lw_privs_4 ++ (lw_privs_5))))
def lw_tbl : List Cond := k2_sels lw_privs ++ tables_1
theorem lw_privs_ok : ∀ q ∈ lw_privs, lw_okq q := by
  show ∀ q ∈ lw_privs_1 ++ (lw_privs_2 ++ (lw_privs_3 ++ (lw_privs_4 ++ (lw_privs_5)))), lw_okq q
  exact List.forall_mem_append.mpr ⟨lw_r1, List.forall_mem_append.mpr ⟨lw_r2, List.forall_mem_append.mpr ⟨lw_r3, List.forall_mem_append.mpr ⟨lw_r4, lw_r5⟩⟩⟩⟩
end
section
/-! The program's tables: a method's code, locals, class; a class's links. Written by wip/whole/gen/mktab.py. -/
def tBc : Nat → ByteArray := fun j => match j with
  | 0 => prog_1_method_1_code
  | 1 => prog_1_method_3_code
  | 2 => prog_1_method_5_code
  | 3 => prog_1_method_2_code
  | 4 => prog_1_method_17_code
  | 5 => prog_1_method_16_code
  | 6 => prog_1_method_4_code
  | 7 => prog_1_method_22_code
  | 8 => prog_1_method_23_code
  | 9 => prog_1_method_21_code
  | 10 => prog_1_method_6_code
  | 11 => prog_1_method_7_code
  | 12 => prog_1_method_20_code
  | 13 => prog_1_method_8_code
  | 14 => prog_1_method_9_code
  | 15 => prog_1_method_10_code
  | 16 => prog_1_method_11_code
  | 17 => prog_1_method_18_code
  | 18 => prog_1_method_12_code
  | 19 => prog_1_method_13_code
  | 20 => prog_1_method_19_code
  | 21 => prog_1_method_14_code
  | 22 => prog_1_method_15_code
  | 23 => prog_2_method_1_code
  | 24 => prog_2_method_2_code
  | 25 => prog_2_method_3_code
  | 26 => prog_2_method_4_code
  | 27 => prog_2_method_5_code
  | 28 => prog_2_method_6_code
  | 29 => prog_3_method_1_code
  | 30 => prog_3_method_2_code
  | 31 => prog_3_method_3_code
  | 32 => prog_4_method_1_code
  | 33 => prog_4_method_2_code
  | 34 => prog_4_method_4_code
  | 35 => prog_4_method_5_code
  | 36 => prog_4_method_9_code
  | 37 => prog_4_method_6_code
  | 38 => prog_4_method_7_code
  | 39 => prog_4_method_8_code
  | 40 => prog_4_method_10_code
  | 41 => prog_4_method_11_code
  | 42 => prog_4_method_3_code
  | 43 => prog_4_method_12_code
  | 44 => prog_5_method_1_code
  | 45 => prog_5_method_2_code
  | 46 => prog_5_method_4_code
  | 47 => prog_5_method_11_code
  | 48 => prog_5_method_12_code
  | 49 => prog_5_method_5_code
  | 50 => prog_5_method_3_code
  | 51 => prog_5_method_6_code
  | 52 => prog_5_method_8_code
  | 53 => prog_5_method_7_code
  | 54 => prog_5_method_9_code
  | 55 => prog_5_method_10_code
  | 56 => prog_5_method_13_code
  | 57 => prog_6_method_1_code
  | 58 => prog_6_method_2_code
  | 59 => prog_6_method_3_code
  | 60 => prog_6_method_7_code
  | 61 => prog_6_method_8_code
  | 62 => prog_6_method_9_code
  | 63 => prog_6_method_4_code
  | 64 => prog_6_method_5_code
  | 65 => prog_6_method_6_code
  | 66 => prog_6_method_10_code
  | 67 => prog_6_method_11_code
  | 68 => prog_7_method_1_code
  | 69 => prog_7_method_3_code
  | 70 => prog_7_method_4_code
  | 71 => prog_7_method_5_code
  | 72 => prog_7_method_14_code
  | 73 => prog_7_method_15_code
  | 74 => prog_7_method_6_code
  | 75 => prog_7_method_13_code
  | 76 => prog_7_method_9_code
  | 77 => prog_7_method_11_code
  | 78 => prog_7_method_12_code
  | 79 => prog_7_method_7_code
  | 80 => prog_7_method_8_code
  | 81 => prog_7_method_10_code
  | 82 => prog_7_method_2_code
  | 83 => prog_8_method_1_code
  | 84 => prog_8_method_3_code
  | 85 => prog_8_method_5_code
  | 86 => prog_8_method_2_code
  | 87 => prog_8_method_4_code
  | 88 => prog_8_method_6_code
  | 89 => prog_10_method_1_code
  | 90 => prog_10_method_18_code
  | 91 => prog_10_method_2_code
  | 92 => prog_10_method_6_code
  | 93 => prog_10_method_4_code
  | 94 => prog_10_method_3_code
  | 95 => prog_10_method_7_code
  | 96 => prog_10_method_49_code
  | 97 => prog_10_method_17_code
  | 98 => prog_10_method_11_code
  | 99 => prog_10_method_15_code
  | 100 => prog_10_method_5_code
  | 101 => prog_10_method_8_code
  | 102 => prog_10_method_9_code
  | 103 => prog_10_method_10_code
  | 104 => prog_10_method_13_code
  | 105 => prog_10_method_14_code
  | 106 => prog_10_method_12_code
  | 107 => prog_10_method_16_code
  | 108 => prog_10_method_24_code
  | 109 => prog_10_method_20_code
  | 110 => prog_10_method_21_code
  | 111 => prog_10_method_23_code
  | 112 => prog_10_method_22_code
  | 113 => prog_10_method_38_code
  | 114 => prog_10_method_27_code
  | 115 => prog_10_method_36_code
  | 116 => prog_10_method_28_code
  | 117 => prog_10_method_26_code
  | 118 => prog_10_method_25_code
  | 119 => prog_10_method_32_code
  | 120 => prog_10_method_33_code
  | 121 => prog_10_method_34_code
  | 122 => prog_10_method_35_code
  | 123 => prog_10_method_30_code
  | 124 => prog_10_method_29_code
  | 125 => prog_10_method_31_code
  | 126 => prog_10_method_37_code
  | 127 => prog_10_method_44_code
  | 128 => prog_10_method_39_code
  | 129 => prog_10_method_40_code
  | 130 => prog_10_method_51_code
  | 131 => prog_10_method_43_code
  | 132 => prog_10_method_41_code
  | 133 => prog_10_method_42_code
  | 134 => prog_10_method_52_code
  | 135 => prog_10_method_53_code
  | 136 => prog_10_method_50_code
  | 137 => prog_10_method_46_code
  | 138 => prog_10_method_45_code
  | 139 => prog_10_method_47_code
  | 140 => prog_10_method_54_code
  | 141 => prog_10_method_55_code
  | 142 => prog_10_method_56_code
  | 143 => prog_10_method_57_code
  | 144 => prog_10_method_48_code
  | 145 => prog_10_method_58_code
  | 146 => prog_10_method_60_code
  | 147 => prog_10_method_59_code
  | 148 => prog_10_method_62_code
  | 149 => prog_10_method_61_code
  | 150 => prog_10_method_63_code
  | 151 => method_3_code
  | 152 => method_4_code
  | 153 => method_5_code
  | 154 => method_6_code
  | 155 => method_7_code
  | 156 => method_8_code
  | 157 => method_9_code
  | 158 => method_10_code
  | 159 => method_11_code
  | 160 => method_12_code
  | 161 => method_13_code
  | 162 => method_14_code
  | 163 => prog_17_method_65_code
  | 164 => prog_17_method_69_code
  | 165 => prog_16_method_40_code
  | 166 => prog_19_method_79_code
  | 167 => prog_19_method_80_code
  | 168 => prog_19_method_154_code
  | 169 => prog_19_method_54_code
  | 170 => prog_19_method_152_code
  | 171 => prog_19_method_56_code
  | 172 => prog_19_method_155_code
  | 173 => prog_20_method_22_code
  | 174 => prog_20_method_4_code
  | 175 => prog_20_method_23_code
  | 176 => prog_20_method_2_code
  | 177 => prog_26_method_11_code
  | _ => code
def tMxL : List Nat := [2, 2, 1, 5, 5, 3, 1, 2, 4, 3, 3, 2, 2, 3, 2, 2, 2, 1, 2, 3, 1, 4, 2, 2, 1, 8, 3, 4, 1, 1, 3, 3, 1, 1, 5, 6, 4, 6, 5, 5, 6, 4, 2, 3, 1, 1, 2, 10, 2, 5, 2, 7, 4, 3, 3, 4, 5, 1, 3, 9, 2, 4, 7, 12, 5, 4, 6, 5, 1, 4, 3, 4, 1, 2, 3, 4, 4, 1, 1, 4, 7, 2, 2, 2, 6, 3, 2, 3, 4, 1, 2, 1, 6, 3, 2, 2, 1, 2, 4, 3, 2, 1, 5, 3, 1, 5, 2, 4, 7, 3, 4, 4, 5, 1, 5, 5, 1, 2, 2, 1, 4, 5, 4, 8, 6, 3, 5, 5, 2, 5, 1, 8, 4, 4, 3, 2, 1, 4, 7, 4, 3, 4, 2, 3, 5, 4, 3, 5, 6, 7, 2, 6, 3, 5, 4, 4, 4, 4, 4, 4, 5, 6, 4, 2, 2, 2, 2, 3, 1, 1, 1, 2, 2, 4, 1, 6, 2, 3, maxLocals]
def tMx (j : Nat) : Nat := tMxL.getD j 0
def tOwL : List Nat := [0, 0, 0, 0, 0, 0, 0, 0, 0, 0, 0, 0, 0, 0, 0, 0, 0, 0, 0, 0, 0, 0, 0, 1, 1, 1, 1, 1, 1, 2, 2, 2, 3, 3, 3, 3, 3, 3, 3, 3, 3, 3, 3, 3, 4, 4, 4, 4, 4, 4, 4, 4, 4, 4, 4, 4, 4, 5, 5, 5, 5, 5, 5, 5, 5, 5, 5, 5, 6, 6, 6, 6, 6, 6, 6, 6, 6, 6, 6, 6, 6, 6, 6, 7, 7, 7, 7, 7, 7, 8, 8, 8, 8, 8, 8, 8, 8, 8, 8, 8, 8, 8, 8, 8, 8, 8, 8, 8, 8, 8, 8, 8, 8, 8, 8, 8, 8, 8, 8, 8, 8, 8, 8, 8, 8, 8, 8, 8, 8, 8, 8, 8, 8, 8, 8, 8, 8, 8, 8, 8, 8, 8, 8, 8, 8, 8, 8, 8, 8, 8, 8, 9, 9, 9, 9, 9, 9, 9, 9, 9, 9, 9, 9, 10, 10, 11, 12, 12, 12, 12, 12, 12, 12, 13, 13, 13, 13, 14, 9]
def tOw (j : Nat) : Nat := tOwL.getD j 99
def lk2 {α : Type} (l : List (Nat × (Nat × α))) (a b : Nat) : Option α := match l with
  | [] => none
  | (x, (y, v)) :: t => if x = a ∧ y = b then some v else lk2 t a b
def tLfL : List (Nat × (Nat × (Nat × (Nat × Nat)))) := [(0, (9, (0, (0, 2)))), (0, (16, (0, (2, 2)))), (0, (23, (0, (3, 2)))), (0, (30, (0, (4, 2)))), (0, (34, (0, (5, 2)))), (0, (40, (0, (6, 2)))), (0, (44, (0, (7, 2)))), (0, (49, (0, (9, 2)))), (0, (56, (0, (10, 2)))), (0, (71, (0, (1, 0)))), (0, (83, (0, (8, 0)))), (0, (107, (6, (4, 0)))), (0, (110, (3, (4, 0)))), (0, (118, (3, (0, 2)))), (0, (122, (3, (1, 2)))), (0, (125, (3, (2, 2)))), (0, (128, (3, (3, 2)))), (0, (138, (4, (0, 2)))), (0, (142, (7, (5, 0)))), (0, (145, (4, (1, 2)))), (0, (148, (4, (2, 2)))), (0, (151, (4, (4, 0)))), (0, (154, (4, (3, 2)))), (0, (158, (2, (1, 0)))), (0, (161, (2, (0, 2)))), (0, (192, (1, (3, 0)))), (0, (193, (1, (4, 3)))), (0, (197, (1, (5, 0)))), (0, (200, (1, (6, 0)))), (1, (11, (1, (0, 2)))), (1, (17, (1, (1, 2)))), (1, (24, (1, (2, 2)))), (1, (28, (1, (6, 0)))), (1, (33, (1, (3, 0)))), (1, (36, (1, (4, 3)))), (1, (40, (1, (5, 0)))), (1, (54, (3, (4, 0)))), (1, (69, (4, (3, 2)))), (2, (9, (2, (0, 2)))), (2, (21, (2, (1, 0)))), (3, (9, (3, (0, 2)))), (3, (15, (3, (1, 2)))), (3, (18, (3, (2, 2)))), (3, (21, (3, (3, 2)))), (3, (24, (3, (4, 0)))), (3, (28, (4, (1, 2)))), (3, (34, (7, (5, 0)))), (3, (37, (6, (0, 2)))), (3, (40, (7, (3, 2)))), (3, (56, (4, (0, 2)))), (3, (59, (7, (1, 2)))), (3, (66, (7, (2, 2)))), (3, (69, (7, (0, 2)))), (3, (76, (4, (2, 2)))), (4, (14, (4, (0, 2)))), (4, (20, (4, (1, 2)))), (4, (23, (4, (2, 2)))), (4, (29, (4, (3, 2)))), (4, (33, (7, (5, 0)))), (4, (37, (4, (4, 0)))), (4, (40, (4, (5, 3)))), (4, (44, (2, (0, 2)))), (4, (48, (2, (1, 0)))), (4, (62, (6, (4, 0)))), (4, (72, (3, (1, 2)))), (4, (82, (3, (2, 2)))), (4, (89, (7, (3, 2)))), (4, (92, (7, (1, 2)))), (4, (95, (7, (4, 2)))), (4, (98, (6, (2, 2)))), (4, (105, (6, (0, 2)))), (4, (118, (6, (1, 2)))), (4, (134, (7, (2, 2)))), (5, (9, (5, (0, 2)))), (5, (15, (5, (1, 2)))), (5, (18, (5, (3, 2)))), (5, (22, (5, (4, 2)))), (5, (25, (5, (2, 0)))), (5, (29, (5, (5, 0)))), (5, (32, (5, (6, 3)))), (5, (40, (4, (3, 2)))), (5, (52, (4, (0, 2)))), (5, (56, (7, (5, 0)))), (5, (61, (7, (1, 2)))), (5, (64, (7, (2, 2)))), (5, (71, (7, (0, 2)))), (5, (78, (4, (1, 2)))), (5, (81, (7, (3, 2)))), (5, (84, (7, (4, 2)))), (5, (91, (4, (2, 2)))), (5, (98, (6, (0, 2)))), (5, (103, (6, (1, 2)))), (5, (121, (6, (2, 2)))), (6, (9, (6, (0, 2)))), (6, (15, (6, (1, 2)))), (6, (19, (6, (2, 2)))), (6, (23, (6, (3, 2)))), (6, (26, (6, (5, 2)))), (6, (35, (6, (6, 0)))), (6, (39, (6, (4, 0)))), (6, (42, (6, (7, 0)))), (7, (9, (7, (0, 2)))), (7, (15, (7, (1, 2)))), (7, (18, (7, (2, 2)))), (7, (21, (7, (3, 2)))), (7, (24, (7, (4, 2)))), (7, (27, (7, (5, 0)))), (8, (7, (8, (3, 2)))), (8, (13, (8, (7, 2)))), (8, (16, (8, (8, 2)))), (8, (19, (8, (9, 2)))), (8, (23, (8, (10, 2)))), (8, (26, (8, (11, 2)))), (8, (29, (8, (12, 2)))), (8, (32, (8, (13, 2)))), (8, (35, (8, (15, 2)))), (8, (38, (8, (16, 2)))), (8, (41, (8, (17, 2)))), (8, (44, (8, (18, 2)))), (8, (47, (8, (19, 2)))), (8, (50, (8, (20, 2)))), (8, (53, (8, (21, 2)))), (8, (56, (8, (22, 2)))), (8, (59, (8, (23, 2)))), (8, (62, (8, (24, 2)))), (8, (65, (8, (25, 2)))), (8, (68, (8, (26, 2)))), (8, (71, (8, (27, 2)))), (8, (74, (8, (31, 2)))), (8, (77, (8, (32, 2)))), (8, (80, (8, (33, 2)))), (8, (83, (8, (35, 2)))), (8, (86, (8, (36, 2)))), (8, (89, (8, (40, 2)))), (8, (92, (8, (41, 2)))), (8, (95, (8, (42, 2)))), (8, (98, (8, (43, 2)))), (8, (101, (8, (44, 2)))), (8, (104, (8, (45, 2)))), (8, (107, (8, (46, 2)))), (8, (110, (8, (47, 2)))), (8, (113, (8, (50, 2)))), (8, (116, (8, (51, 2)))), (8, (120, (8, (59, 2)))), (8, (123, (8, (60, 2)))), (8, (126, (8, (61, 2)))), (8, (129, (8, (62, 2)))), (8, (132, (8, (63, 2)))), (8, (135, (8, (64, 2)))), (8, (141, (8, (0, 0)))), (8, (145, (8, (1, 0)))), (8, (158, (8, (2, 0)))), (8, (161, (8, (6, 0)))), (8, (164, (8, (5, 0)))), (8, (167, (8, (4, 0)))), (8, (174, (8, (14, 0)))), (8, (209, (8, (28, 0)))), (8, (212, (8, (29, 0)))), (8, (215, (8, (30, 3)))), (8, (219, (8, (49, 0)))), (8, (222, (8, (34, 0)))), (8, (239, (8, (37, 0)))), (8, (245, (8, (39, 0)))), (8, (248, (8, (38, 0)))), (8, (274, (8, (48, 0)))), (8, (304, (8, (65, 0)))), (8, (307, (8, (66, 0)))), (8, (316, (8, (57, 3)))), (8, (347, (8, (52, 0)))), (8, (350, (8, (56, 0)))), (8, (353, (8, (55, 0)))), (8, (356, (8, (53, 0)))), (8, (359, (8, (54, 0)))), (8, (365, (8, (58, 3))))]
def tLf (a b : Nat) : Option (Nat × (Nat × Nat)) := lk2 tLfL a b
def tLmL : List (Nat × (Nat × (Nat × Nat))) := [(0, (3, (500, 1))), (0, (15, (68, 1))), (0, (22, (57, 1))), (0, (29, (44, 1))), (0, (39, (32, 1))), (0, (55, (23, 1))), (0, (60, (29, 1))), (0, (61, (45, 1))), (0, (64, (4, 2))), (0, (78, (5, 2))), (0, (82, (33, 1))), (0, (86, (24, 1))), (0, (89, (69, 3))), (0, (93, (46, 2))), (0, (97, (58, 3))), (0, (104, (9, 1))), (0, (111, (42, 2))), (0, (131, (12, 2))), (0, (134, (43, 1))), (0, (164, (17, 1))), (0, (167, (30, 3))), (0, (173, (31, 2))), (0, (177, (20, 1))), (0, (180, (56, 3))), (0, (184, (25, 5))), (0, (188, (27, 3))), (0, (203, (28, 1))), (0, (206, (49, 5))), (0, (210, (34, 3))), (0, (214, (40, 3))), (1, (3, (500, 1))), (1, (23, (32, 1))), (1, (32, (44, 1))), (1, (43, (24, 1))), (1, (46, (50, 2))), (1, (50, (34, 3))), (1, (55, (49, 5))), (1, (59, (58, 3))), (1, (65, (26, 2))), (1, (73, (31, 2))), (1, (79, (56, 3))), (2, (3, (500, 1))), (2, (15, (164, 2))), (2, (25, (501, 5))), (3, (3, (500, 1))), (3, (43, (35, 3))), (3, (47, (37, 3))), (3, (50, (38, 3))), (3, (53, (39, 3))), (3, (62, (85, 2))), (3, (72, (36, 4))), (3, (79, (41, 4))), (3, (83, (165, 2))), (4, (3, (500, 1))), (4, (11, (83, 2))), (4, (28, (29, 1))), (4, (51, (86, 2))), (4, (55, (30, 3))), (4, (59, (45, 1))), (4, (65, (47, 7))), (4, (69, (50, 2))), (4, (78, (85, 2))), (4, (85, (51, 4))), (4, (102, (87, 2))), (4, (108, (52, 3))), (4, (112, (53, 2))), (4, (115, (54, 3))), (4, (121, (55, 2))), (4, (124, (8, 3))), (4, (128, (82, 2))), (4, (131, (88, 3))), (4, (136, (7, 2))), (4, (140, (48, 2))), (4, (144, (84, 6))), (5, (3, (500, 1))), (5, (36, (59, 5))), (5, (46, (30, 3))), (5, (67, (60, 2))), (5, (74, (61, 3))), (5, (87, (63, 5))), (5, (94, (66, 4))), (5, (105, (8, 3))), (5, (109, (64, 4))), (5, (113, (82, 2))), (5, (117, (65, 3))), (5, (127, (171, 2))), (5, (133, (7, 2))), (5, (137, (62, 5))), (5, (141, (164, 2))), (5, (147, (67, 3))), (5, (151, (501, 5))), (6, (3, (500, 1))), (6, (29, (163, 2))), (6, (45, (70, 3))), (6, (52, (71, 3))), (6, (58, (72, 1))), (6, (62, (73, 2))), (6, (66, (74, 2))), (6, (70, (79, 3))), (6, (73, (80, 3))), (6, (76, (75, 3))), (6, (80, (76, 2))), (6, (86, (166, 2))), (6, (92, (81, 1))), (6, (95, (78, 1))), (6, (99, (77, 1))), (7, (3, (500, 1))), (7, (31, (164, 2))), (7, (37, (501, 5))), (8, (1, (500, 1))), (8, (138, (90, 1))), (8, (148, (93, 3))), (8, (152, (94, 2))), (8, (170, (100, 2))), (8, (177, (101, 1))), (8, (181, (104, 1))), (8, (184, (102, 3))), (8, (188, (103, 1))), (8, (191, (106, 2))), (8, (194, (98, 4))), (8, (198, (105, 2))), (8, (202, (99, 1))), (8, (206, (107, 1))), (8, (225, (109, 3))), (8, (229, (110, 3))), (8, (232, (111, 3))), (8, (236, (112, 4))), (8, (242, (118, 2))), (8, (251, (124, 3))), (8, (255, (125, 3))), (8, (258, (116, 1))), (8, (261, (117, 2))), (8, (264, (121, 4))), (8, (267, (119, 1))), (8, (270, (114, 5))), (8, (277, (120, 4))), (8, (280, (122, 4))), (8, (283, (123, 3))), (8, (286, (115, 2))), (8, (289, (126, 2))), (8, (292, (128, 2))), (8, (295, (132, 2))), (8, (298, (133, 2))), (8, (301, (129, 3))), (8, (310, (108, 4))), (8, (313, (113, 1))), (8, (319, (97, 1))), (8, (322, (127, 1))), (8, (325, (137, 2))), (8, (328, (138, 1))), (8, (331, (139, 2))), (8, (334, (131, 2))), (8, (337, (136, 1))), (8, (340, (144, 2))), (8, (344, (147, 3))), (8, (362, (149, 4))), (9, (7, (3, 3))), (9, (17, (6, 1))), (9, (23, (10, 3))), (9, (29, (11, 2))), (9, (33, (13, 2))), (9, (36, (14, 2))), (9, (39, (15, 2))), (9, (42, (16, 2))), (9, (45, (18, 2))), (9, (51, (19, 3))), (9, (55, (21, 4))), (9, (59, (22, 2))), (9, (62, (0, 1))), (9, (65, (89, 1))), (9, (68, (151, 4))), (9, (73, (92, 3))), (9, (74, (91, 1))), (9, (77, (1, 1))), (9, (80, (95, 1))), (9, (81, (152, 2))), (9, (84, (96, 1))), (9, (85, (2, 1))), (9, (88, (130, 1))), (9, (89, (153, 4))), (9, (92, (134, 3))), (9, (93, (154, 3))), (9, (96, (135, 2))), (9, (97, (155, 3))), (9, (99, (140, 2))), (9, (100, (156, 3))), (9, (102, (141, 2))), (9, (103, (157, 3))), (9, (105, (142, 2))), (9, (106, (158, 3))), (9, (108, (143, 2))), (9, (109, (159, 3))), (9, (111, (145, 2))), (9, (112, (160, 4))), (9, (114, (146, 3))), (9, (115, (161, 5))), (9, (118, (148, 4))), (9, (119, (162, 3))), (9, (121, (150, 2))), (12, (335, (170, 1))), (12, (492, (168, 1))), (12, (495, (176, 2))), (12, (505, (169, 1))), (12, (633, (167, 3))), (12, (637, (173, 4))), (12, (1059, (177, 3))), (13, (9, (172, 2))), (13, (38, (164, 2))), (13, (88, (174, 1))), (13, (92, (163, 2))), (13, (95, (175, 4)))]
def tLm (a b : Nat) : Option (Nat × Nat) := lk2 tLmL a b
def tLcL : List (Nat × (Nat × (Nat × Nat))) := [(9, (8, (0, 11))), (0, (13, (6, 8))), (0, (20, (5, 7))), (0, (27, (4, 6))), (4, (9, (7, 6))), (4, (26, (2, 2))), (0, (37, (3, 5))), (0, (47, (2, 2))), (0, (53, (1, 7))), (1, (9, (4, 6))), (1, (21, (3, 5))), (9, (63, (8, 67)))]
def tLc (a b : Nat) : Option (Nat × Nat) := lk2 tLcL a b
def tLaL : List (Nat × (Nat × Nat)) := [(0, (47, 2)), (1, (9, 4))]
def tLa (a b : Nat) : Option Nat := lk2 tLaL a b
def tLxL : List (Nat × (Nat × (Nat × Nat))) := [(0, (68, (0, 6))), (0, (75, (1, 6))), (6, (55, (1, 6))), (6, (49, (0, 6))), (0, (101, (2, 6))), (0, (115, (3, 6))), (0, (170, (4, 6)))]
def tLx (a b : Nat) : Option (Nat × Nat) := lk2 tLxL a b
def tLyL : List (Nat × (Nat × Nat)) := [(0, (70, 0)), (0, (77, 1)), (6, (57, 1)), (6, (51, 0)), (0, (103, 2)), (0, (117, 3)), (0, (172, 4))]
def tLy (a b : Nat) : Option Nat := lk2 tLyL a b
def tLlL : List (Nat × (Nat × Int64)) := [(8, (156, 255)), (9, (66, 4294967295))]
def tLl (a b : Nat) : Option Int64 := lk2 tLlL a b
def tLsL : List (Nat × (Nat × Nat)) := [(6, (84, 1)), (5, (125, 1))]
def tLs (a b : Nat) : Option Nat := lk2 tLsL a b
def tKd (j : Nat) : Nat := if j < 500 then 0 else if j = 500 then 5 else if j = 501 then 4 else 99
def tHs : Nat → List (Nat × (Nat × (Nat × Nat))) := fun j => match j with
  | 151 => [(0, (11, (14, 0))), (0, (11, (18, 1)))]
  | 152 => [(0, (8, (11, 0))), (0, (8, (14, 1))), (0, (8, (17, 2)))]
  | 153 => [(0, (10, (13, 3)))]
  | 154 => [(0, (9, (12, 3))), (0, (9, (15, 2)))]
  | 155 => [(0, (9, (12, 0))), (0, (9, (15, 2)))]
  | 156 => [(0, (9, (12, 3)))]
  | 157 => [(0, (9, (12, 3)))]
  | 158 => [(0, (9, (12, 3)))]
  | 159 => [(0, (16, (19, 3))), (0, (16, (22, 4)))]
  | 160 => [(0, (17, (20, 0)))]
  | 161 => [(0, (12, (15, 0)))]
  | 162 => [(0, (9, (12, 3)))]
  | _ => []
def tIniL : List Nat := [1, 0, 0, 0, 0, 0, 0, 0, 0, 0, 0, 0, 0, 0, 0, 0, 0, 0, 0, 0, 0, 0, 0, 1, 0, 0, 0, 0, 0, 1, 0, 0, 1, 0, 0, 0, 0, 0, 0, 0, 0, 0, 0, 0, 1, 0, 0, 0, 0, 0, 0, 0, 0, 0, 0, 0, 0, 1, 0, 0, 0, 0, 0, 0, 0, 0, 0, 0, 1, 0, 0, 0, 0, 0, 0, 0, 0, 0, 0, 0, 0, 0, 0, 1, 0, 0, 0, 0, 0, 1, 0, 0, 0, 0, 0, 0, 0, 0, 0, 0, 0, 0, 0, 0, 0, 0, 0, 0, 0, 0, 0, 0, 0, 0, 0, 0, 0, 0, 0, 0, 0, 0, 0, 0, 0, 0, 0, 0, 0, 0, 0, 0, 0, 0, 0, 0, 0, 0, 0, 0, 0, 0, 0, 0, 0, 0, 0, 0, 0, 0, 0, 0, 0, 0, 0, 0, 0, 0, 0, 0, 0, 0, 0, 0, 0, 0, 0, 0, 0, 0, 0, 0, 0, 0, 0, 0, 0, 0, 0]
def tIni (j : Nat) : Nat := tIniL.getD j 0
def tFinL : List (List Nat) := [[1, 0, 1, 1, 0, 0, 0, 0, 0, 1, 1], [1, 1, 1, 0, 0, 0, 0], [1, 0], [1, 1, 1, 1, 0], [1, 1, 1, 1, 0, 0], [1, 1, 0, 1, 1, 0, 0], [1, 1, 1, 1, 0, 1, 0, 0], [1, 1, 1, 1, 1, 0], [0, 0, 0, 1, 0, 0, 0, 1, 1, 1, 1, 1, 1, 1, 0, 1, 1, 1, 1, 1, 1, 1, 1, 1, 1, 1, 1, 1, 0, 0, 0, 1, 1, 1, 0, 1, 1, 0, 0, 0, 1, 1, 1, 1, 1, 1, 1, 1, 0, 0, 1, 1, 0, 0, 0, 0, 0, 0, 0, 1, 1, 1, 1, 1, 1, 0, 0]]
def tFin (c f : Nat) : Nat := (tFinL.getD c []).getD f 0
/-- a field that may be written here: not final, or in its own class's constructor -/
def tPf (j k : Nat) : Option (Nat × (Nat × Nat)) := match tLf (tOw j) k with
  | some (c, (f, t)) => if tFin c f = 0 ∨ (tIni j = 1 ∧ tOw j = c) then some (c, (f, t)) else none
  | none => none
def tRt : Nat → Option FieldType := fun j => match j with
  | 1 => (Option.some Jvm.ClassFile.FieldType.int)
  | 2 => (Option.some Jvm.ClassFile.FieldType.int)
  | 3 => (Option.some Jvm.ClassFile.FieldType.int)
  | 4 => (Option.some Jvm.ClassFile.FieldType.boolean)
  | 5 => (Option.some Jvm.ClassFile.FieldType.int)
  | 6 => (Option.some Jvm.ClassFile.FieldType.int)
  | 7 => (Option.some Jvm.ClassFile.FieldType.int)
  | 8 => (Option.some Jvm.ClassFile.FieldType.int)
  | 10 => (Option.some Jvm.ClassFile.FieldType.int)
  | 11 => (Option.some Jvm.ClassFile.FieldType.int)
  | 12 => (Option.some Jvm.ClassFile.FieldType.boolean)
  | 13 => (Option.some Jvm.ClassFile.FieldType.int)
  | 14 => (Option.some Jvm.ClassFile.FieldType.int)
  | 15 => (Option.some Jvm.ClassFile.FieldType.int)
  | 16 => (Option.some Jvm.ClassFile.FieldType.int)
  | 17 => (Option.some Jvm.ClassFile.FieldType.boolean)
  | 18 => (Option.some Jvm.ClassFile.FieldType.boolean)
  | 19 => (Option.some Jvm.ClassFile.FieldType.boolean)
  | 20 => (Option.some Jvm.ClassFile.FieldType.boolean)
  | 21 => (Option.some Jvm.ClassFile.FieldType.int)
  | 22 => (Option.some Jvm.ClassFile.FieldType.int)
  | 26 => (Option.some Jvm.ClassFile.FieldType.boolean)
  | 28 => (Option.some Jvm.ClassFile.FieldType.int)
  | 31 => (Option.some Jvm.ClassFile.FieldType.boolean)
  | 41 => (Option.some Jvm.ClassFile.FieldType.int)
  | 42 => (Option.some Jvm.ClassFile.FieldType.boolean)
  | 43 => (Option.some Jvm.ClassFile.FieldType.int)
  | 46 => (Option.some Jvm.ClassFile.FieldType.boolean)
  | 48 => (Option.some (Jvm.ClassFile.FieldType.object "MovingBoxes$Things"))
  | 49 => (Option.some Jvm.ClassFile.FieldType.boolean)
  | 53 => (Option.some Jvm.ClassFile.FieldType.int)
  | 55 => (Option.some Jvm.ClassFile.FieldType.int)
  | 56 => (Option.some Jvm.ClassFile.FieldType.boolean)
  | 58 => (Option.some Jvm.ClassFile.FieldType.boolean)
  | 62 => (Option.some Jvm.ClassFile.FieldType.boolean)
  | 72 => (Option.some Jvm.ClassFile.FieldType.char)
  | 75 => (Option.some Jvm.ClassFile.FieldType.int)
  | 76 => (Option.some Jvm.ClassFile.FieldType.char)
  | 77 => (Option.some Jvm.ClassFile.FieldType.boolean)
  | 78 => (Option.some Jvm.ClassFile.FieldType.int)
  | 81 => (Option.some Jvm.ClassFile.FieldType.char)
  | 82 => (Option.some Jvm.ClassFile.FieldType.int)
  | 84 => (Option.some Jvm.ClassFile.FieldType.boolean)
  | 85 => (Option.some Jvm.ClassFile.FieldType.int)
  | 91 => (Option.some Jvm.ClassFile.FieldType.int)
  | 92 => (Option.some Jvm.ClassFile.FieldType.int)
  | 93 => (Option.some Jvm.ClassFile.FieldType.boolean)
  | 94 => (Option.some Jvm.ClassFile.FieldType.int)
  | 95 => (Option.some Jvm.ClassFile.FieldType.int)
  | 96 => (Option.some Jvm.ClassFile.FieldType.int)
  | 99 => (Option.some Jvm.ClassFile.FieldType.boolean)
  | 101 => (Option.some Jvm.ClassFile.FieldType.int)
  | 102 => (Option.some Jvm.ClassFile.FieldType.int)
  | 103 => (Option.some Jvm.ClassFile.FieldType.int)
  | 104 => (Option.some Jvm.ClassFile.FieldType.int)
  | 107 => (Option.some Jvm.ClassFile.FieldType.boolean)
  | 109 => (Option.some Jvm.ClassFile.FieldType.int)
  | 110 => (Option.some Jvm.ClassFile.FieldType.int)
  | 124 => (Option.some Jvm.ClassFile.FieldType.boolean)
  | 125 => (Option.some Jvm.ClassFile.FieldType.int)
  | 128 => (Option.some Jvm.ClassFile.FieldType.int)
  | 129 => (Option.some Jvm.ClassFile.FieldType.boolean)
  | 130 => (Option.some Jvm.ClassFile.FieldType.int)
  | 131 => (Option.some Jvm.ClassFile.FieldType.int)
  | 132 => (Option.some Jvm.ClassFile.FieldType.int)
  | 133 => (Option.some Jvm.ClassFile.FieldType.int)
  | 134 => (Option.some Jvm.ClassFile.FieldType.int)
  | 135 => (Option.some Jvm.ClassFile.FieldType.int)
  | 136 => (Option.some Jvm.ClassFile.FieldType.boolean)
  | 140 => (Option.some Jvm.ClassFile.FieldType.int)
  | 141 => (Option.some Jvm.ClassFile.FieldType.int)
  | 142 => (Option.some Jvm.ClassFile.FieldType.int)
  | 143 => (Option.some Jvm.ClassFile.FieldType.int)
  | 144 => (Option.some Jvm.ClassFile.FieldType.long)
  | 145 => (Option.some Jvm.ClassFile.FieldType.boolean)
  | 146 => (Option.some Jvm.ClassFile.FieldType.boolean)
  | 147 => (Option.some Jvm.ClassFile.FieldType.boolean)
  | 148 => (Option.some Jvm.ClassFile.FieldType.int)
  | 150 => (Option.some Jvm.ClassFile.FieldType.int)
  | 151 => (Option.some Jvm.ClassFile.FieldType.int)
  | 152 => (Option.some Jvm.ClassFile.FieldType.int)
  | 153 => (Option.some Jvm.ClassFile.FieldType.int)
  | 154 => (Option.some Jvm.ClassFile.FieldType.int)
  | 155 => (Option.some Jvm.ClassFile.FieldType.int)
  | 156 => (Option.some Jvm.ClassFile.FieldType.int)
  | 157 => (Option.some Jvm.ClassFile.FieldType.int)
  | 158 => (Option.some Jvm.ClassFile.FieldType.int)
  | 159 => (Option.some Jvm.ClassFile.FieldType.int)
  | 160 => (Option.some Jvm.ClassFile.FieldType.int)
  | 161 => (Option.some Jvm.ClassFile.FieldType.int)
  | 162 => (Option.some Jvm.ClassFile.FieldType.int)
  | 163 => (Option.some Jvm.ClassFile.FieldType.int)
  | 164 => (Option.some Jvm.ClassFile.FieldType.int)
  | 165 => (Option.some Jvm.ClassFile.FieldType.int)
  | 166 => (Option.some Jvm.ClassFile.FieldType.int)
  | 167 => (Option.some Jvm.ClassFile.FieldType.int)
  | 168 => (Option.some Jvm.ClassFile.FieldType.boolean)
  | 169 => (Option.some Jvm.ClassFile.FieldType.int)
  | 170 => (Option.some Jvm.ClassFile.FieldType.byte)
  | 171 => (Option.some Jvm.ClassFile.FieldType.char)
  | 173 => (Option.some Jvm.ClassFile.FieldType.int)
  | 174 => (Option.some Jvm.ClassFile.FieldType.boolean)
  | 175 => (Option.some Jvm.ClassFile.FieldType.int)
  | 176 => (Option.some Jvm.ClassFile.FieldType.char)
  | 177 => (Option.some Jvm.ClassFile.FieldType.int)
  | 178 => ret
  | _ => none
end
section
/-! Rows of the tables, each by computation; and the rows that decode each instruction. Written by wip/whole/gen/mktab.py. -/
theorem lf_0_9 : tLf 0 9 = some (0, (0, 2)) := by decide +kernel
theorem lf_0_16 : tLf 0 16 = some (0, (2, 2)) := by decide +kernel
theorem lf_0_23 : tLf 0 23 = some (0, (3, 2)) := by decide +kernel
theorem lf_0_30 : tLf 0 30 = some (0, (4, 2)) := by decide +kernel
theorem lf_0_34 : tLf 0 34 = some (0, (5, 2)) := by decide +kernel
theorem lf_0_40 : tLf 0 40 = some (0, (6, 2)) := by decide +kernel
theorem lf_0_44 : tLf 0 44 = some (0, (7, 2)) := by decide +kernel
theorem lf_0_49 : tLf 0 49 = some (0, (9, 2)) := by decide +kernel
theorem lf_0_56 : tLf 0 56 = some (0, (10, 2)) := by decide +kernel
theorem lf_0_71 : tLf 0 71 = some (0, (1, 0)) := by decide +kernel
theorem lf_0_83 : tLf 0 83 = some (0, (8, 0)) := by decide +kernel
theorem lf_0_107 : tLf 0 107 = some (6, (4, 0)) := by decide +kernel
theorem lf_0_110 : tLf 0 110 = some (3, (4, 0)) := by decide +kernel
theorem lf_0_118 : tLf 0 118 = some (3, (0, 2)) := by decide +kernel
theorem lf_0_122 : tLf 0 122 = some (3, (1, 2)) := by decide +kernel
theorem lf_0_125 : tLf 0 125 = some (3, (2, 2)) := by decide +kernel
theorem lf_0_128 : tLf 0 128 = some (3, (3, 2)) := by decide +kernel
theorem lf_0_138 : tLf 0 138 = some (4, (0, 2)) := by decide +kernel
theorem lf_0_142 : tLf 0 142 = some (7, (5, 0)) := by decide +kernel
theorem lf_0_145 : tLf 0 145 = some (4, (1, 2)) := by decide +kernel
theorem lf_0_148 : tLf 0 148 = some (4, (2, 2)) := by decide +kernel
theorem lf_0_151 : tLf 0 151 = some (4, (4, 0)) := by decide +kernel
theorem lf_0_154 : tLf 0 154 = some (4, (3, 2)) := by decide +kernel
theorem lf_0_158 : tLf 0 158 = some (2, (1, 0)) := by decide +kernel
theorem lf_0_161 : tLf 0 161 = some (2, (0, 2)) := by decide +kernel
theorem lf_0_192 : tLf 0 192 = some (1, (3, 0)) := by decide +kernel
theorem lf_0_193 : tLf 0 193 = some (1, (4, 3)) := by decide +kernel
theorem lf_0_197 : tLf 0 197 = some (1, (5, 0)) := by decide +kernel
theorem lf_0_200 : tLf 0 200 = some (1, (6, 0)) := by decide +kernel
theorem lf_1_11 : tLf 1 11 = some (1, (0, 2)) := by decide +kernel
theorem lf_1_17 : tLf 1 17 = some (1, (1, 2)) := by decide +kernel
theorem lf_1_24 : tLf 1 24 = some (1, (2, 2)) := by decide +kernel
theorem lf_1_28 : tLf 1 28 = some (1, (6, 0)) := by decide +kernel
theorem lf_1_33 : tLf 1 33 = some (1, (3, 0)) := by decide +kernel
theorem lf_1_36 : tLf 1 36 = some (1, (4, 3)) := by decide +kernel
theorem lf_1_40 : tLf 1 40 = some (1, (5, 0)) := by decide +kernel
theorem lf_1_54 : tLf 1 54 = some (3, (4, 0)) := by decide +kernel
theorem lf_1_69 : tLf 1 69 = some (4, (3, 2)) := by decide +kernel
theorem lf_2_9 : tLf 2 9 = some (2, (0, 2)) := by decide +kernel
theorem lf_2_21 : tLf 2 21 = some (2, (1, 0)) := by decide +kernel
theorem lf_3_9 : tLf 3 9 = some (3, (0, 2)) := by decide +kernel
theorem lf_3_15 : tLf 3 15 = some (3, (1, 2)) := by decide +kernel
theorem lf_3_18 : tLf 3 18 = some (3, (2, 2)) := by decide +kernel
theorem lf_3_21 : tLf 3 21 = some (3, (3, 2)) := by decide +kernel
theorem lf_3_24 : tLf 3 24 = some (3, (4, 0)) := by decide +kernel
theorem lf_3_28 : tLf 3 28 = some (4, (1, 2)) := by decide +kernel
theorem lf_3_34 : tLf 3 34 = some (7, (5, 0)) := by decide +kernel
theorem lf_3_37 : tLf 3 37 = some (6, (0, 2)) := by decide +kernel
theorem lf_3_40 : tLf 3 40 = some (7, (3, 2)) := by decide +kernel
theorem lf_3_56 : tLf 3 56 = some (4, (0, 2)) := by decide +kernel
theorem lf_3_59 : tLf 3 59 = some (7, (1, 2)) := by decide +kernel
theorem lf_3_66 : tLf 3 66 = some (7, (2, 2)) := by decide +kernel
theorem lf_3_69 : tLf 3 69 = some (7, (0, 2)) := by decide +kernel
theorem lf_3_76 : tLf 3 76 = some (4, (2, 2)) := by decide +kernel
theorem lf_4_14 : tLf 4 14 = some (4, (0, 2)) := by decide +kernel
theorem lf_4_20 : tLf 4 20 = some (4, (1, 2)) := by decide +kernel
theorem lf_4_23 : tLf 4 23 = some (4, (2, 2)) := by decide +kernel
theorem lf_4_29 : tLf 4 29 = some (4, (3, 2)) := by decide +kernel
theorem lf_4_33 : tLf 4 33 = some (7, (5, 0)) := by decide +kernel
theorem lf_4_37 : tLf 4 37 = some (4, (4, 0)) := by decide +kernel
theorem lf_4_40 : tLf 4 40 = some (4, (5, 3)) := by decide +kernel
theorem lf_4_44 : tLf 4 44 = some (2, (0, 2)) := by decide +kernel
theorem lf_4_48 : tLf 4 48 = some (2, (1, 0)) := by decide +kernel
theorem lf_4_62 : tLf 4 62 = some (6, (4, 0)) := by decide +kernel
theorem lf_4_72 : tLf 4 72 = some (3, (1, 2)) := by decide +kernel
theorem lf_4_82 : tLf 4 82 = some (3, (2, 2)) := by decide +kernel
theorem lf_4_89 : tLf 4 89 = some (7, (3, 2)) := by decide +kernel
theorem lf_4_92 : tLf 4 92 = some (7, (1, 2)) := by decide +kernel
theorem lf_4_95 : tLf 4 95 = some (7, (4, 2)) := by decide +kernel
theorem lf_4_98 : tLf 4 98 = some (6, (2, 2)) := by decide +kernel
theorem lf_4_105 : tLf 4 105 = some (6, (0, 2)) := by decide +kernel
theorem lf_4_118 : tLf 4 118 = some (6, (1, 2)) := by decide +kernel
theorem lf_4_134 : tLf 4 134 = some (7, (2, 2)) := by decide +kernel
theorem lf_5_9 : tLf 5 9 = some (5, (0, 2)) := by decide +kernel
theorem lf_5_15 : tLf 5 15 = some (5, (1, 2)) := by decide +kernel
theorem lf_5_18 : tLf 5 18 = some (5, (3, 2)) := by decide +kernel
theorem lf_5_22 : tLf 5 22 = some (5, (4, 2)) := by decide +kernel
theorem lf_5_25 : tLf 5 25 = some (5, (2, 0)) := by decide +kernel
theorem lf_5_29 : tLf 5 29 = some (5, (5, 0)) := by decide +kernel
theorem lf_5_32 : tLf 5 32 = some (5, (6, 3)) := by decide +kernel
theorem lf_5_40 : tLf 5 40 = some (4, (3, 2)) := by decide +kernel
theorem lf_5_52 : tLf 5 52 = some (4, (0, 2)) := by decide +kernel
theorem lf_5_56 : tLf 5 56 = some (7, (5, 0)) := by decide +kernel
theorem lf_5_61 : tLf 5 61 = some (7, (1, 2)) := by decide +kernel
theorem lf_5_64 : tLf 5 64 = some (7, (2, 2)) := by decide +kernel
theorem lf_5_71 : tLf 5 71 = some (7, (0, 2)) := by decide +kernel
theorem lf_5_78 : tLf 5 78 = some (4, (1, 2)) := by decide +kernel
theorem lf_5_81 : tLf 5 81 = some (7, (3, 2)) := by decide +kernel
theorem lf_5_84 : tLf 5 84 = some (7, (4, 2)) := by decide +kernel
theorem lf_5_91 : tLf 5 91 = some (4, (2, 2)) := by decide +kernel
theorem lf_5_98 : tLf 5 98 = some (6, (0, 2)) := by decide +kernel
theorem lf_5_103 : tLf 5 103 = some (6, (1, 2)) := by decide +kernel
theorem lf_5_121 : tLf 5 121 = some (6, (2, 2)) := by decide +kernel
theorem lf_6_9 : tLf 6 9 = some (6, (0, 2)) := by decide +kernel
theorem lf_6_15 : tLf 6 15 = some (6, (1, 2)) := by decide +kernel
theorem lf_6_19 : tLf 6 19 = some (6, (2, 2)) := by decide +kernel
theorem lf_6_23 : tLf 6 23 = some (6, (3, 2)) := by decide +kernel
theorem lf_6_26 : tLf 6 26 = some (6, (5, 2)) := by decide +kernel
theorem lf_6_35 : tLf 6 35 = some (6, (6, 0)) := by decide +kernel
theorem lf_6_39 : tLf 6 39 = some (6, (4, 0)) := by decide +kernel
theorem lf_6_42 : tLf 6 42 = some (6, (7, 0)) := by decide +kernel
theorem lf_7_9 : tLf 7 9 = some (7, (0, 2)) := by decide +kernel
theorem lf_7_15 : tLf 7 15 = some (7, (1, 2)) := by decide +kernel
theorem lf_7_18 : tLf 7 18 = some (7, (2, 2)) := by decide +kernel
theorem lf_7_21 : tLf 7 21 = some (7, (3, 2)) := by decide +kernel
theorem lf_7_24 : tLf 7 24 = some (7, (4, 2)) := by decide +kernel
theorem lf_7_27 : tLf 7 27 = some (7, (5, 0)) := by decide +kernel
theorem lf_8_7 : tLf 8 7 = some (8, (3, 2)) := by decide +kernel
theorem lf_8_13 : tLf 8 13 = some (8, (7, 2)) := by decide +kernel
theorem lf_8_16 : tLf 8 16 = some (8, (8, 2)) := by decide +kernel
theorem lf_8_19 : tLf 8 19 = some (8, (9, 2)) := by decide +kernel
theorem lf_8_23 : tLf 8 23 = some (8, (10, 2)) := by decide +kernel
theorem lf_8_26 : tLf 8 26 = some (8, (11, 2)) := by decide +kernel
theorem lf_8_29 : tLf 8 29 = some (8, (12, 2)) := by decide +kernel
theorem lf_8_32 : tLf 8 32 = some (8, (13, 2)) := by decide +kernel
theorem lf_8_35 : tLf 8 35 = some (8, (15, 2)) := by decide +kernel
theorem lf_8_38 : tLf 8 38 = some (8, (16, 2)) := by decide +kernel
theorem lf_8_41 : tLf 8 41 = some (8, (17, 2)) := by decide +kernel
theorem lf_8_44 : tLf 8 44 = some (8, (18, 2)) := by decide +kernel
theorem lf_8_47 : tLf 8 47 = some (8, (19, 2)) := by decide +kernel
theorem lf_8_50 : tLf 8 50 = some (8, (20, 2)) := by decide +kernel
theorem lf_8_53 : tLf 8 53 = some (8, (21, 2)) := by decide +kernel
theorem lf_8_56 : tLf 8 56 = some (8, (22, 2)) := by decide +kernel
theorem lf_8_59 : tLf 8 59 = some (8, (23, 2)) := by decide +kernel
theorem lf_8_62 : tLf 8 62 = some (8, (24, 2)) := by decide +kernel
theorem lf_8_65 : tLf 8 65 = some (8, (25, 2)) := by decide +kernel
theorem lf_8_68 : tLf 8 68 = some (8, (26, 2)) := by decide +kernel
theorem lf_8_71 : tLf 8 71 = some (8, (27, 2)) := by decide +kernel
theorem lf_8_74 : tLf 8 74 = some (8, (31, 2)) := by decide +kernel
theorem lf_8_77 : tLf 8 77 = some (8, (32, 2)) := by decide +kernel
theorem lf_8_80 : tLf 8 80 = some (8, (33, 2)) := by decide +kernel
theorem lf_8_83 : tLf 8 83 = some (8, (35, 2)) := by decide +kernel
theorem lf_8_86 : tLf 8 86 = some (8, (36, 2)) := by decide +kernel
theorem lf_8_89 : tLf 8 89 = some (8, (40, 2)) := by decide +kernel
theorem lf_8_92 : tLf 8 92 = some (8, (41, 2)) := by decide +kernel
theorem lf_8_95 : tLf 8 95 = some (8, (42, 2)) := by decide +kernel
theorem lf_8_98 : tLf 8 98 = some (8, (43, 2)) := by decide +kernel
theorem lf_8_101 : tLf 8 101 = some (8, (44, 2)) := by decide +kernel
theorem lf_8_104 : tLf 8 104 = some (8, (45, 2)) := by decide +kernel
theorem lf_8_107 : tLf 8 107 = some (8, (46, 2)) := by decide +kernel
theorem lf_8_110 : tLf 8 110 = some (8, (47, 2)) := by decide +kernel
theorem lf_8_113 : tLf 8 113 = some (8, (50, 2)) := by decide +kernel
theorem lf_8_116 : tLf 8 116 = some (8, (51, 2)) := by decide +kernel
theorem lf_8_120 : tLf 8 120 = some (8, (59, 2)) := by decide +kernel
theorem lf_8_123 : tLf 8 123 = some (8, (60, 2)) := by decide +kernel
theorem lf_8_126 : tLf 8 126 = some (8, (61, 2)) := by decide +kernel
theorem lf_8_129 : tLf 8 129 = some (8, (62, 2)) := by decide +kernel
theorem lf_8_132 : tLf 8 132 = some (8, (63, 2)) := by decide +kernel
theorem lf_8_135 : tLf 8 135 = some (8, (64, 2)) := by decide +kernel
theorem lf_8_141 : tLf 8 141 = some (8, (0, 0)) := by decide +kernel
theorem lf_8_145 : tLf 8 145 = some (8, (1, 0)) := by decide +kernel
theorem lf_8_158 : tLf 8 158 = some (8, (2, 0)) := by decide +kernel
theorem lf_8_161 : tLf 8 161 = some (8, (6, 0)) := by decide +kernel
theorem lf_8_164 : tLf 8 164 = some (8, (5, 0)) := by decide +kernel
theorem lf_8_167 : tLf 8 167 = some (8, (4, 0)) := by decide +kernel
theorem lf_8_174 : tLf 8 174 = some (8, (14, 0)) := by decide +kernel
theorem lf_8_209 : tLf 8 209 = some (8, (28, 0)) := by decide +kernel
theorem lf_8_212 : tLf 8 212 = some (8, (29, 0)) := by decide +kernel
theorem lf_8_215 : tLf 8 215 = some (8, (30, 3)) := by decide +kernel
theorem lf_8_219 : tLf 8 219 = some (8, (49, 0)) := by decide +kernel
theorem lf_8_222 : tLf 8 222 = some (8, (34, 0)) := by decide +kernel
theorem lf_8_239 : tLf 8 239 = some (8, (37, 0)) := by decide +kernel
theorem lf_8_245 : tLf 8 245 = some (8, (39, 0)) := by decide +kernel
theorem lf_8_248 : tLf 8 248 = some (8, (38, 0)) := by decide +kernel
theorem lf_8_274 : tLf 8 274 = some (8, (48, 0)) := by decide +kernel
theorem lf_8_304 : tLf 8 304 = some (8, (65, 0)) := by decide +kernel
theorem lf_8_307 : tLf 8 307 = some (8, (66, 0)) := by decide +kernel
theorem lf_8_316 : tLf 8 316 = some (8, (57, 3)) := by decide +kernel
theorem lf_8_347 : tLf 8 347 = some (8, (52, 0)) := by decide +kernel
theorem lf_8_350 : tLf 8 350 = some (8, (56, 0)) := by decide +kernel
theorem lf_8_353 : tLf 8 353 = some (8, (55, 0)) := by decide +kernel
theorem lf_8_356 : tLf 8 356 = some (8, (53, 0)) := by decide +kernel
theorem lf_8_359 : tLf 8 359 = some (8, (54, 0)) := by decide +kernel
theorem lf_8_365 : tLf 8 365 = some (8, (58, 3)) := by decide +kernel
theorem pf_0_9 : tPf 0 9 = some (0, (0, 2)) := by decide +kernel
theorem pf_0_16 : tPf 0 16 = some (0, (2, 2)) := by decide +kernel
theorem pf_0_23 : tPf 0 23 = some (0, (3, 2)) := by decide +kernel
theorem pf_0_30 : tPf 0 30 = some (0, (4, 2)) := by decide +kernel
theorem pf_0_34 : tPf 0 34 = some (0, (5, 2)) := by decide +kernel
theorem pf_0_40 : tPf 0 40 = some (0, (6, 2)) := by decide +kernel
theorem pf_0_44 : tPf 0 44 = some (0, (7, 2)) := by decide +kernel
theorem pf_0_49 : tPf 0 49 = some (0, (9, 2)) := by decide +kernel
theorem pf_0_56 : tPf 0 56 = some (0, (10, 2)) := by decide +kernel
theorem pf_1_71 : tPf 1 71 = some (0, (1, 0)) := by decide +kernel
theorem pf_3_71 : tPf 3 71 = some (0, (1, 0)) := by decide +kernel
theorem pf_6_83 : tPf 6 83 = some (0, (8, 0)) := by decide +kernel
theorem pf_9_30 : tPf 9 30 = some (0, (4, 2)) := by decide +kernel
theorem pf_9_34 : tPf 9 34 = some (0, (5, 2)) := by decide +kernel
theorem pf_9_40 : tPf 9 40 = some (0, (6, 2)) := by decide +kernel
theorem pf_9_44 : tPf 9 44 = some (0, (7, 2)) := by decide +kernel
theorem pf_12_83 : tPf 12 83 = some (0, (8, 0)) := by decide +kernel
theorem pf_23_11 : tPf 23 11 = some (1, (0, 2)) := by decide +kernel
theorem pf_23_17 : tPf 23 17 = some (1, (1, 2)) := by decide +kernel
theorem pf_23_24 : tPf 23 24 = some (1, (2, 2)) := by decide +kernel
theorem pf_23_28 : tPf 23 28 = some (1, (6, 0)) := by decide +kernel
theorem pf_24_28 : tPf 24 28 = some (1, (6, 0)) := by decide +kernel
theorem pf_24_33 : tPf 24 33 = some (1, (3, 0)) := by decide +kernel
theorem pf_24_36 : tPf 24 36 = some (1, (4, 3)) := by decide +kernel
theorem pf_24_40 : tPf 24 40 = some (1, (5, 0)) := by decide +kernel
theorem pf_25_33 : tPf 25 33 = some (1, (3, 0)) := by decide +kernel
theorem pf_25_36 : tPf 25 36 = some (1, (4, 3)) := by decide +kernel
theorem pf_25_40 : tPf 25 40 = some (1, (5, 0)) := by decide +kernel
theorem pf_27_28 : tPf 27 28 = some (1, (6, 0)) := by decide +kernel
theorem pf_29_9 : tPf 29 9 = some (2, (0, 2)) := by decide +kernel
theorem pf_30_21 : tPf 30 21 = some (2, (1, 0)) := by decide +kernel
theorem pf_32_9 : tPf 32 9 = some (3, (0, 2)) := by decide +kernel
theorem pf_32_15 : tPf 32 15 = some (3, (1, 2)) := by decide +kernel
theorem pf_32_18 : tPf 32 18 = some (3, (2, 2)) := by decide +kernel
theorem pf_32_21 : tPf 32 21 = some (3, (3, 2)) := by decide +kernel
theorem pf_33_24 : tPf 33 24 = some (3, (4, 0)) := by decide +kernel
theorem pf_34_24 : tPf 34 24 = some (3, (4, 0)) := by decide +kernel
theorem pf_36_24 : tPf 36 24 = some (3, (4, 0)) := by decide +kernel
theorem pf_44_14 : tPf 44 14 = some (4, (0, 2)) := by decide +kernel
theorem pf_44_20 : tPf 44 20 = some (4, (1, 2)) := by decide +kernel
theorem pf_44_23 : tPf 44 23 = some (4, (2, 2)) := by decide +kernel
theorem pf_44_29 : tPf 44 29 = some (4, (3, 2)) := by decide +kernel
theorem pf_45_33 : tPf 45 33 = some (7, (5, 0)) := by decide +kernel
theorem pf_45_37 : tPf 45 37 = some (4, (4, 0)) := by decide +kernel
theorem pf_45_40 : tPf 45 40 = some (4, (5, 3)) := by decide +kernel
theorem pf_45_48 : tPf 45 48 = some (2, (1, 0)) := by decide +kernel
theorem pf_47_37 : tPf 47 37 = some (4, (4, 0)) := by decide +kernel
theorem pf_47_40 : tPf 47 40 = some (4, (5, 3)) := by decide +kernel
theorem pf_50_37 : tPf 50 37 = some (4, (4, 0)) := by decide +kernel
theorem pf_50_40 : tPf 50 40 = some (4, (5, 3)) := by decide +kernel
theorem pf_57_9 : tPf 57 9 = some (5, (0, 2)) := by decide +kernel
theorem pf_57_15 : tPf 57 15 = some (5, (1, 2)) := by decide +kernel
theorem pf_57_18 : tPf 57 18 = some (5, (3, 2)) := by decide +kernel
theorem pf_57_22 : tPf 57 22 = some (5, (4, 2)) := by decide +kernel
theorem pf_58_25 : tPf 58 25 = some (5, (2, 0)) := by decide +kernel
theorem pf_58_29 : tPf 58 29 = some (5, (5, 0)) := by decide +kernel
theorem pf_58_32 : tPf 58 32 = some (5, (6, 3)) := by decide +kernel
theorem pf_59_32 : tPf 59 32 = some (5, (6, 3)) := by decide +kernel
theorem pf_60_25 : tPf 60 25 = some (5, (2, 0)) := by decide +kernel
theorem pf_60_32 : tPf 60 32 = some (5, (6, 3)) := by decide +kernel
theorem pf_61_29 : tPf 61 29 = some (5, (5, 0)) := by decide +kernel
theorem pf_61_32 : tPf 61 32 = some (5, (6, 3)) := by decide +kernel
theorem pf_63_32 : tPf 63 32 = some (5, (6, 3)) := by decide +kernel
theorem pf_66_25 : tPf 66 25 = some (5, (2, 0)) := by decide +kernel
theorem pf_66_29 : tPf 66 29 = some (5, (5, 0)) := by decide +kernel
theorem pf_66_32 : tPf 66 32 = some (5, (6, 3)) := by decide +kernel
theorem pf_68_9 : tPf 68 9 = some (6, (0, 2)) := by decide +kernel
theorem pf_68_15 : tPf 68 15 = some (6, (1, 2)) := by decide +kernel
theorem pf_68_19 : tPf 68 19 = some (6, (2, 2)) := by decide +kernel
theorem pf_68_23 : tPf 68 23 = some (6, (3, 2)) := by decide +kernel
theorem pf_68_26 : tPf 68 26 = some (6, (5, 2)) := by decide +kernel
theorem pf_69_35 : tPf 69 35 = some (6, (6, 0)) := by decide +kernel
theorem pf_69_39 : tPf 69 39 = some (6, (4, 0)) := by decide +kernel
theorem pf_69_42 : tPf 69 42 = some (6, (7, 0)) := by decide +kernel
theorem pf_70_42 : tPf 70 42 = some (6, (7, 0)) := by decide +kernel
theorem pf_71_42 : tPf 71 42 = some (6, (7, 0)) := by decide +kernel
theorem pf_73_42 : tPf 73 42 = some (6, (7, 0)) := by decide +kernel
theorem pf_74_42 : tPf 74 42 = some (6, (7, 0)) := by decide +kernel
theorem pf_75_39 : tPf 75 39 = some (6, (4, 0)) := by decide +kernel
theorem pf_76_42 : tPf 76 42 = some (6, (7, 0)) := by decide +kernel
theorem pf_80_42 : tPf 80 42 = some (6, (7, 0)) := by decide +kernel
theorem pf_81_42 : tPf 81 42 = some (6, (7, 0)) := by decide +kernel
theorem pf_83_9 : tPf 83 9 = some (7, (0, 2)) := by decide +kernel
theorem pf_83_15 : tPf 83 15 = some (7, (1, 2)) := by decide +kernel
theorem pf_83_18 : tPf 83 18 = some (7, (2, 2)) := by decide +kernel
theorem pf_83_21 : tPf 83 21 = some (7, (3, 2)) := by decide +kernel
theorem pf_83_24 : tPf 83 24 = some (7, (4, 2)) := by decide +kernel
theorem pf_84_27 : tPf 84 27 = some (7, (5, 0)) := by decide +kernel
theorem pf_86_27 : tPf 86 27 = some (7, (5, 0)) := by decide +kernel
theorem pf_87_27 : tPf 87 27 = some (7, (5, 0)) := by decide +kernel
theorem pf_89_7 : tPf 89 7 = some (8, (3, 2)) := by decide +kernel
theorem pf_89_13 : tPf 89 13 = some (8, (7, 2)) := by decide +kernel
theorem pf_89_16 : tPf 89 16 = some (8, (8, 2)) := by decide +kernel
theorem pf_89_19 : tPf 89 19 = some (8, (9, 2)) := by decide +kernel
theorem pf_89_23 : tPf 89 23 = some (8, (10, 2)) := by decide +kernel
theorem pf_89_26 : tPf 89 26 = some (8, (11, 2)) := by decide +kernel
theorem pf_89_29 : tPf 89 29 = some (8, (12, 2)) := by decide +kernel
theorem pf_89_32 : tPf 89 32 = some (8, (13, 2)) := by decide +kernel
theorem pf_89_35 : tPf 89 35 = some (8, (15, 2)) := by decide +kernel
theorem pf_89_38 : tPf 89 38 = some (8, (16, 2)) := by decide +kernel
theorem pf_89_41 : tPf 89 41 = some (8, (17, 2)) := by decide +kernel
theorem pf_89_44 : tPf 89 44 = some (8, (18, 2)) := by decide +kernel
theorem pf_89_47 : tPf 89 47 = some (8, (19, 2)) := by decide +kernel
theorem pf_89_50 : tPf 89 50 = some (8, (20, 2)) := by decide +kernel
theorem pf_89_53 : tPf 89 53 = some (8, (21, 2)) := by decide +kernel
theorem pf_89_56 : tPf 89 56 = some (8, (22, 2)) := by decide +kernel
theorem pf_89_59 : tPf 89 59 = some (8, (23, 2)) := by decide +kernel
theorem pf_89_62 : tPf 89 62 = some (8, (24, 2)) := by decide +kernel
theorem pf_89_65 : tPf 89 65 = some (8, (25, 2)) := by decide +kernel
theorem pf_89_68 : tPf 89 68 = some (8, (26, 2)) := by decide +kernel
theorem pf_89_71 : tPf 89 71 = some (8, (27, 2)) := by decide +kernel
theorem pf_89_74 : tPf 89 74 = some (8, (31, 2)) := by decide +kernel
theorem pf_89_77 : tPf 89 77 = some (8, (32, 2)) := by decide +kernel
theorem pf_89_80 : tPf 89 80 = some (8, (33, 2)) := by decide +kernel
theorem pf_89_83 : tPf 89 83 = some (8, (35, 2)) := by decide +kernel
theorem pf_89_86 : tPf 89 86 = some (8, (36, 2)) := by decide +kernel
theorem pf_89_89 : tPf 89 89 = some (8, (40, 2)) := by decide +kernel
theorem pf_89_92 : tPf 89 92 = some (8, (41, 2)) := by decide +kernel
theorem pf_89_95 : tPf 89 95 = some (8, (42, 2)) := by decide +kernel
theorem pf_89_98 : tPf 89 98 = some (8, (43, 2)) := by decide +kernel
theorem pf_89_101 : tPf 89 101 = some (8, (44, 2)) := by decide +kernel
theorem pf_89_104 : tPf 89 104 = some (8, (45, 2)) := by decide +kernel
theorem pf_89_107 : tPf 89 107 = some (8, (46, 2)) := by decide +kernel
theorem pf_89_110 : tPf 89 110 = some (8, (47, 2)) := by decide +kernel
theorem pf_89_113 : tPf 89 113 = some (8, (50, 2)) := by decide +kernel
theorem pf_89_116 : tPf 89 116 = some (8, (51, 2)) := by decide +kernel
theorem pf_89_120 : tPf 89 120 = some (8, (59, 2)) := by decide +kernel
theorem pf_89_123 : tPf 89 123 = some (8, (60, 2)) := by decide +kernel
theorem pf_89_126 : tPf 89 126 = some (8, (61, 2)) := by decide +kernel
theorem pf_89_129 : tPf 89 129 = some (8, (62, 2)) := by decide +kernel
theorem pf_89_132 : tPf 89 132 = some (8, (63, 2)) := by decide +kernel
theorem pf_89_135 : tPf 89 135 = some (8, (64, 2)) := by decide +kernel
theorem pf_90_209 : tPf 90 209 = some (8, (28, 0)) := by decide +kernel
theorem pf_90_212 : tPf 90 212 = some (8, (29, 0)) := by decide +kernel
theorem pf_90_215 : tPf 90 215 = some (8, (30, 3)) := by decide +kernel
theorem pf_90_219 : tPf 90 219 = some (8, (49, 0)) := by decide +kernel
theorem pf_92_141 : tPf 92 141 = some (8, (0, 0)) := by decide +kernel
theorem pf_92_158 : tPf 92 158 = some (8, (2, 0)) := by decide +kernel
theorem pf_94_141 : tPf 94 141 = some (8, (0, 0)) := by decide +kernel
theorem pf_95_141 : tPf 95 141 = some (8, (0, 0)) := by decide +kernel
theorem pf_95_158 : tPf 95 158 = some (8, (2, 0)) := by decide +kernel
theorem pf_96_141 : tPf 96 141 = some (8, (0, 0)) := by decide +kernel
theorem pf_96_145 : tPf 96 145 = some (8, (1, 0)) := by decide +kernel
theorem pf_96_316 : tPf 96 316 = some (8, (57, 3)) := by decide +kernel
theorem pf_97_161 : tPf 97 161 = some (8, (6, 0)) := by decide +kernel
theorem pf_97_164 : tPf 97 164 = some (8, (5, 0)) := by decide +kernel
theorem pf_97_167 : tPf 97 167 = some (8, (4, 0)) := by decide +kernel
theorem pf_97_174 : tPf 97 174 = some (8, (14, 0)) := by decide +kernel
theorem pf_98_174 : tPf 98 174 = some (8, (14, 0)) := by decide +kernel
theorem pf_99_161 : tPf 99 161 = some (8, (6, 0)) := by decide +kernel
theorem pf_100_145 : tPf 100 145 = some (8, (1, 0)) := by decide +kernel
theorem pf_102_167 : tPf 102 167 = some (8, (4, 0)) := by decide +kernel
theorem pf_103_161 : tPf 103 161 = some (8, (6, 0)) := by decide +kernel
theorem pf_105_161 : tPf 105 161 = some (8, (6, 0)) := by decide +kernel
theorem pf_106_161 : tPf 106 161 = some (8, (6, 0)) := by decide +kernel
theorem pf_107_161 : tPf 107 161 = some (8, (6, 0)) := by decide +kernel
theorem pf_107_174 : tPf 107 174 = some (8, (14, 0)) := by decide +kernel
theorem pf_108_209 : tPf 108 209 = some (8, (28, 0)) := by decide +kernel
theorem pf_108_222 : tPf 108 222 = some (8, (34, 0)) := by decide +kernel
theorem pf_110_215 : tPf 110 215 = some (8, (30, 3)) := by decide +kernel
theorem pf_111_215 : tPf 111 215 = some (8, (30, 3)) := by decide +kernel
theorem pf_112_215 : tPf 112 215 = some (8, (30, 3)) := by decide +kernel
theorem pf_113_215 : tPf 113 215 = some (8, (30, 3)) := by decide +kernel
theorem pf_113_239 : tPf 113 239 = some (8, (37, 0)) := by decide +kernel
theorem pf_113_245 : tPf 113 245 = some (8, (39, 0)) := by decide +kernel
theorem pf_113_248 : tPf 113 248 = some (8, (38, 0)) := by decide +kernel
theorem pf_114_245 : tPf 114 245 = some (8, (39, 0)) := by decide +kernel
theorem pf_115_245 : tPf 115 245 = some (8, (39, 0)) := by decide +kernel
theorem pf_115_274 : tPf 115 274 = some (8, (48, 0)) := by decide +kernel
theorem pf_116_248 : tPf 116 248 = some (8, (38, 0)) := by decide +kernel
theorem pf_118_215 : tPf 118 215 = some (8, (30, 3)) := by decide +kernel
theorem pf_118_239 : tPf 118 239 = some (8, (37, 0)) := by decide +kernel
theorem pf_123_219 : tPf 123 219 = some (8, (49, 0)) := by decide +kernel
theorem pf_123_239 : tPf 123 239 = some (8, (37, 0)) := by decide +kernel
theorem pf_123_248 : tPf 123 248 = some (8, (38, 0)) := by decide +kernel
theorem pf_126_245 : tPf 126 245 = some (8, (39, 0)) := by decide +kernel
theorem pf_130_141 : tPf 130 141 = some (8, (0, 0)) := by decide +kernel
theorem pf_131_304 : tPf 131 304 = some (8, (65, 0)) := by decide +kernel
theorem pf_131_307 : tPf 131 307 = some (8, (66, 0)) := by decide +kernel
theorem pf_134_141 : tPf 134 141 = some (8, (0, 0)) := by decide +kernel
theorem pf_135_141 : tPf 135 141 = some (8, (0, 0)) := by decide +kernel
theorem pf_136_212 : tPf 136 212 = some (8, (29, 0)) := by decide +kernel
theorem pf_139_209 : tPf 139 209 = some (8, (28, 0)) := by decide +kernel
theorem pf_139_215 : tPf 139 215 = some (8, (30, 3)) := by decide +kernel
theorem pf_140_141 : tPf 140 141 = some (8, (0, 0)) := by decide +kernel
theorem pf_141_141 : tPf 141 141 = some (8, (0, 0)) := by decide +kernel
theorem pf_142_141 : tPf 142 141 = some (8, (0, 0)) := by decide +kernel
theorem pf_143_141 : tPf 143 141 = some (8, (0, 0)) := by decide +kernel
theorem pf_145_141 : tPf 145 141 = some (8, (0, 0)) := by decide +kernel
theorem pf_146_141 : tPf 146 141 = some (8, (0, 0)) := by decide +kernel
theorem pf_148_141 : tPf 148 141 = some (8, (0, 0)) := by decide +kernel
theorem pf_148_316 : tPf 148 316 = some (8, (57, 3)) := by decide +kernel
theorem pf_148_347 : tPf 148 347 = some (8, (52, 0)) := by decide +kernel
theorem pf_148_353 : tPf 148 353 = some (8, (55, 0)) := by decide +kernel
theorem pf_148_356 : tPf 148 356 = some (8, (53, 0)) := by decide +kernel
theorem pf_148_359 : tPf 148 359 = some (8, (54, 0)) := by decide +kernel
theorem pf_148_365 : tPf 148 365 = some (8, (58, 3)) := by decide +kernel
theorem pf_149_347 : tPf 149 347 = some (8, (52, 0)) := by decide +kernel
theorem pf_149_350 : tPf 149 350 = some (8, (56, 0)) := by decide +kernel
theorem pf_149_353 : tPf 149 353 = some (8, (55, 0)) := by decide +kernel
theorem pf_150_141 : tPf 150 141 = some (8, (0, 0)) := by decide +kernel
theorem lm_0_3 : tLm 0 3 = some (500, 1) := by decide +kernel
theorem lm_0_15 : tLm 0 15 = some (68, 1) := by decide +kernel
theorem lm_0_22 : tLm 0 22 = some (57, 1) := by decide +kernel
theorem lm_0_29 : tLm 0 29 = some (44, 1) := by decide +kernel
theorem lm_0_39 : tLm 0 39 = some (32, 1) := by decide +kernel
theorem lm_0_55 : tLm 0 55 = some (23, 1) := by decide +kernel
theorem lm_0_60 : tLm 0 60 = some (29, 1) := by decide +kernel
theorem lm_0_61 : tLm 0 61 = some (45, 1) := by decide +kernel
theorem lm_0_64 : tLm 0 64 = some (4, 2) := by decide +kernel
theorem lm_0_78 : tLm 0 78 = some (5, 2) := by decide +kernel
theorem lm_0_82 : tLm 0 82 = some (33, 1) := by decide +kernel
theorem lm_0_86 : tLm 0 86 = some (24, 1) := by decide +kernel
theorem lm_0_89 : tLm 0 89 = some (69, 3) := by decide +kernel
theorem lm_0_93 : tLm 0 93 = some (46, 2) := by decide +kernel
theorem lm_0_97 : tLm 0 97 = some (58, 3) := by decide +kernel
theorem lm_0_104 : tLm 0 104 = some (9, 1) := by decide +kernel
theorem lm_0_111 : tLm 0 111 = some (42, 2) := by decide +kernel
theorem lm_0_131 : tLm 0 131 = some (12, 2) := by decide +kernel
theorem lm_0_134 : tLm 0 134 = some (43, 1) := by decide +kernel
theorem lm_0_164 : tLm 0 164 = some (17, 1) := by decide +kernel
theorem lm_0_167 : tLm 0 167 = some (30, 3) := by decide +kernel
theorem lm_0_173 : tLm 0 173 = some (31, 2) := by decide +kernel
theorem lm_0_177 : tLm 0 177 = some (20, 1) := by decide +kernel
theorem lm_0_180 : tLm 0 180 = some (56, 3) := by decide +kernel
theorem lm_0_184 : tLm 0 184 = some (25, 5) := by decide +kernel
theorem lm_0_188 : tLm 0 188 = some (27, 3) := by decide +kernel
theorem lm_0_203 : tLm 0 203 = some (28, 1) := by decide +kernel
theorem lm_0_206 : tLm 0 206 = some (49, 5) := by decide +kernel
theorem lm_0_210 : tLm 0 210 = some (34, 3) := by decide +kernel
theorem lm_0_214 : tLm 0 214 = some (40, 3) := by decide +kernel
theorem lm_1_3 : tLm 1 3 = some (500, 1) := by decide +kernel
theorem lm_1_23 : tLm 1 23 = some (32, 1) := by decide +kernel
theorem lm_1_32 : tLm 1 32 = some (44, 1) := by decide +kernel
theorem lm_1_43 : tLm 1 43 = some (24, 1) := by decide +kernel
theorem lm_1_46 : tLm 1 46 = some (50, 2) := by decide +kernel
theorem lm_1_50 : tLm 1 50 = some (34, 3) := by decide +kernel
theorem lm_1_55 : tLm 1 55 = some (49, 5) := by decide +kernel
theorem lm_1_59 : tLm 1 59 = some (58, 3) := by decide +kernel
theorem lm_1_65 : tLm 1 65 = some (26, 2) := by decide +kernel
theorem lm_1_73 : tLm 1 73 = some (31, 2) := by decide +kernel
theorem lm_1_79 : tLm 1 79 = some (56, 3) := by decide +kernel
theorem lm_2_3 : tLm 2 3 = some (500, 1) := by decide +kernel
theorem lm_2_15 : tLm 2 15 = some (164, 2) := by decide +kernel
theorem lm_2_25 : tLm 2 25 = some (501, 5) := by decide +kernel
theorem lm_3_3 : tLm 3 3 = some (500, 1) := by decide +kernel
theorem lm_3_43 : tLm 3 43 = some (35, 3) := by decide +kernel
theorem lm_3_47 : tLm 3 47 = some (37, 3) := by decide +kernel
theorem lm_3_50 : tLm 3 50 = some (38, 3) := by decide +kernel
theorem lm_3_53 : tLm 3 53 = some (39, 3) := by decide +kernel
theorem lm_3_62 : tLm 3 62 = some (85, 2) := by decide +kernel
theorem lm_3_72 : tLm 3 72 = some (36, 4) := by decide +kernel
theorem lm_3_79 : tLm 3 79 = some (41, 4) := by decide +kernel
theorem lm_3_83 : tLm 3 83 = some (165, 2) := by decide +kernel
theorem lm_4_3 : tLm 4 3 = some (500, 1) := by decide +kernel
theorem lm_4_11 : tLm 4 11 = some (83, 2) := by decide +kernel
theorem lm_4_28 : tLm 4 28 = some (29, 1) := by decide +kernel
theorem lm_4_51 : tLm 4 51 = some (86, 2) := by decide +kernel
theorem lm_4_55 : tLm 4 55 = some (30, 3) := by decide +kernel
theorem lm_4_59 : tLm 4 59 = some (45, 1) := by decide +kernel
theorem lm_4_65 : tLm 4 65 = some (47, 7) := by decide +kernel
theorem lm_4_69 : tLm 4 69 = some (50, 2) := by decide +kernel
theorem lm_4_78 : tLm 4 78 = some (85, 2) := by decide +kernel
theorem lm_4_85 : tLm 4 85 = some (51, 4) := by decide +kernel
theorem lm_4_102 : tLm 4 102 = some (87, 2) := by decide +kernel
theorem lm_4_108 : tLm 4 108 = some (52, 3) := by decide +kernel
theorem lm_4_112 : tLm 4 112 = some (53, 2) := by decide +kernel
theorem lm_4_115 : tLm 4 115 = some (54, 3) := by decide +kernel
theorem lm_4_121 : tLm 4 121 = some (55, 2) := by decide +kernel
theorem lm_4_124 : tLm 4 124 = some (8, 3) := by decide +kernel
theorem lm_4_128 : tLm 4 128 = some (82, 2) := by decide +kernel
theorem lm_4_131 : tLm 4 131 = some (88, 3) := by decide +kernel
theorem lm_4_136 : tLm 4 136 = some (7, 2) := by decide +kernel
theorem lm_4_140 : tLm 4 140 = some (48, 2) := by decide +kernel
theorem lm_4_144 : tLm 4 144 = some (84, 6) := by decide +kernel
theorem lm_5_3 : tLm 5 3 = some (500, 1) := by decide +kernel
theorem lm_5_36 : tLm 5 36 = some (59, 5) := by decide +kernel
theorem lm_5_46 : tLm 5 46 = some (30, 3) := by decide +kernel
theorem lm_5_67 : tLm 5 67 = some (60, 2) := by decide +kernel
theorem lm_5_74 : tLm 5 74 = some (61, 3) := by decide +kernel
theorem lm_5_87 : tLm 5 87 = some (63, 5) := by decide +kernel
theorem lm_5_94 : tLm 5 94 = some (66, 4) := by decide +kernel
theorem lm_5_105 : tLm 5 105 = some (8, 3) := by decide +kernel
theorem lm_5_109 : tLm 5 109 = some (64, 4) := by decide +kernel
theorem lm_5_113 : tLm 5 113 = some (82, 2) := by decide +kernel
theorem lm_5_117 : tLm 5 117 = some (65, 3) := by decide +kernel
theorem lm_5_127 : tLm 5 127 = some (171, 2) := by decide +kernel
theorem lm_5_133 : tLm 5 133 = some (7, 2) := by decide +kernel
theorem lm_5_137 : tLm 5 137 = some (62, 5) := by decide +kernel
theorem lm_5_141 : tLm 5 141 = some (164, 2) := by decide +kernel
theorem lm_5_147 : tLm 5 147 = some (67, 3) := by decide +kernel
theorem lm_5_151 : tLm 5 151 = some (501, 5) := by decide +kernel
theorem lm_6_3 : tLm 6 3 = some (500, 1) := by decide +kernel
theorem lm_6_29 : tLm 6 29 = some (163, 2) := by decide +kernel
theorem lm_6_45 : tLm 6 45 = some (70, 3) := by decide +kernel
theorem lm_6_52 : tLm 6 52 = some (71, 3) := by decide +kernel
theorem lm_6_58 : tLm 6 58 = some (72, 1) := by decide +kernel
theorem lm_6_62 : tLm 6 62 = some (73, 2) := by decide +kernel
theorem lm_6_66 : tLm 6 66 = some (74, 2) := by decide +kernel
theorem lm_6_70 : tLm 6 70 = some (79, 3) := by decide +kernel
theorem lm_6_73 : tLm 6 73 = some (80, 3) := by decide +kernel
theorem lm_6_76 : tLm 6 76 = some (75, 3) := by decide +kernel
theorem lm_6_80 : tLm 6 80 = some (76, 2) := by decide +kernel
theorem lm_6_86 : tLm 6 86 = some (166, 2) := by decide +kernel
theorem lm_6_92 : tLm 6 92 = some (81, 1) := by decide +kernel
theorem lm_6_95 : tLm 6 95 = some (78, 1) := by decide +kernel
theorem lm_6_99 : tLm 6 99 = some (77, 1) := by decide +kernel
theorem lm_7_3 : tLm 7 3 = some (500, 1) := by decide +kernel
theorem lm_7_31 : tLm 7 31 = some (164, 2) := by decide +kernel
theorem lm_7_37 : tLm 7 37 = some (501, 5) := by decide +kernel
theorem lm_8_1 : tLm 8 1 = some (500, 1) := by decide +kernel
theorem lm_8_138 : tLm 8 138 = some (90, 1) := by decide +kernel
theorem lm_8_148 : tLm 8 148 = some (93, 3) := by decide +kernel
theorem lm_8_152 : tLm 8 152 = some (94, 2) := by decide +kernel
theorem lm_8_170 : tLm 8 170 = some (100, 2) := by decide +kernel
theorem lm_8_177 : tLm 8 177 = some (101, 1) := by decide +kernel
theorem lm_8_181 : tLm 8 181 = some (104, 1) := by decide +kernel
theorem lm_8_184 : tLm 8 184 = some (102, 3) := by decide +kernel
theorem lm_8_188 : tLm 8 188 = some (103, 1) := by decide +kernel
theorem lm_8_191 : tLm 8 191 = some (106, 2) := by decide +kernel
theorem lm_8_194 : tLm 8 194 = some (98, 4) := by decide +kernel
theorem lm_8_198 : tLm 8 198 = some (105, 2) := by decide +kernel
theorem lm_8_202 : tLm 8 202 = some (99, 1) := by decide +kernel
theorem lm_8_206 : tLm 8 206 = some (107, 1) := by decide +kernel
theorem lm_8_225 : tLm 8 225 = some (109, 3) := by decide +kernel
theorem lm_8_229 : tLm 8 229 = some (110, 3) := by decide +kernel
theorem lm_8_232 : tLm 8 232 = some (111, 3) := by decide +kernel
theorem lm_8_236 : tLm 8 236 = some (112, 4) := by decide +kernel
theorem lm_8_242 : tLm 8 242 = some (118, 2) := by decide +kernel
theorem lm_8_251 : tLm 8 251 = some (124, 3) := by decide +kernel
theorem lm_8_255 : tLm 8 255 = some (125, 3) := by decide +kernel
theorem lm_8_258 : tLm 8 258 = some (116, 1) := by decide +kernel
theorem lm_8_261 : tLm 8 261 = some (117, 2) := by decide +kernel
theorem lm_8_264 : tLm 8 264 = some (121, 4) := by decide +kernel
theorem lm_8_267 : tLm 8 267 = some (119, 1) := by decide +kernel
theorem lm_8_270 : tLm 8 270 = some (114, 5) := by decide +kernel
theorem lm_8_277 : tLm 8 277 = some (120, 4) := by decide +kernel
theorem lm_8_280 : tLm 8 280 = some (122, 4) := by decide +kernel
theorem lm_8_283 : tLm 8 283 = some (123, 3) := by decide +kernel
theorem lm_8_286 : tLm 8 286 = some (115, 2) := by decide +kernel
theorem lm_8_289 : tLm 8 289 = some (126, 2) := by decide +kernel
theorem lm_8_292 : tLm 8 292 = some (128, 2) := by decide +kernel
theorem lm_8_295 : tLm 8 295 = some (132, 2) := by decide +kernel
theorem lm_8_298 : tLm 8 298 = some (133, 2) := by decide +kernel
theorem lm_8_301 : tLm 8 301 = some (129, 3) := by decide +kernel
theorem lm_8_310 : tLm 8 310 = some (108, 4) := by decide +kernel
theorem lm_8_313 : tLm 8 313 = some (113, 1) := by decide +kernel
theorem lm_8_319 : tLm 8 319 = some (97, 1) := by decide +kernel
theorem lm_8_322 : tLm 8 322 = some (127, 1) := by decide +kernel
theorem lm_8_325 : tLm 8 325 = some (137, 2) := by decide +kernel
theorem lm_8_328 : tLm 8 328 = some (138, 1) := by decide +kernel
theorem lm_8_331 : tLm 8 331 = some (139, 2) := by decide +kernel
theorem lm_8_334 : tLm 8 334 = some (131, 2) := by decide +kernel
theorem lm_8_337 : tLm 8 337 = some (136, 1) := by decide +kernel
theorem lm_8_340 : tLm 8 340 = some (144, 2) := by decide +kernel
theorem lm_8_344 : tLm 8 344 = some (147, 3) := by decide +kernel
theorem lm_8_362 : tLm 8 362 = some (149, 4) := by decide +kernel
theorem lm_9_7 : tLm 9 7 = some (3, 3) := by decide +kernel
theorem lm_9_17 : tLm 9 17 = some (6, 1) := by decide +kernel
theorem lm_9_23 : tLm 9 23 = some (10, 3) := by decide +kernel
theorem lm_9_29 : tLm 9 29 = some (11, 2) := by decide +kernel
theorem lm_9_33 : tLm 9 33 = some (13, 2) := by decide +kernel
theorem lm_9_36 : tLm 9 36 = some (14, 2) := by decide +kernel
theorem lm_9_39 : tLm 9 39 = some (15, 2) := by decide +kernel
theorem lm_9_42 : tLm 9 42 = some (16, 2) := by decide +kernel
theorem lm_9_45 : tLm 9 45 = some (18, 2) := by decide +kernel
theorem lm_9_51 : tLm 9 51 = some (19, 3) := by decide +kernel
theorem lm_9_55 : tLm 9 55 = some (21, 4) := by decide +kernel
theorem lm_9_59 : tLm 9 59 = some (22, 2) := by decide +kernel
theorem lm_9_62 : tLm 9 62 = some (0, 1) := by decide +kernel
theorem lm_9_65 : tLm 9 65 = some (89, 1) := by decide +kernel
theorem lm_9_68 : tLm 9 68 = some (151, 4) := by decide +kernel
theorem lm_9_73 : tLm 9 73 = some (92, 3) := by decide +kernel
theorem lm_9_74 : tLm 9 74 = some (91, 1) := by decide +kernel
theorem lm_9_77 : tLm 9 77 = some (1, 1) := by decide +kernel
theorem lm_9_80 : tLm 9 80 = some (95, 1) := by decide +kernel
theorem lm_9_81 : tLm 9 81 = some (152, 2) := by decide +kernel
theorem lm_9_84 : tLm 9 84 = some (96, 1) := by decide +kernel
theorem lm_9_85 : tLm 9 85 = some (2, 1) := by decide +kernel
theorem lm_9_88 : tLm 9 88 = some (130, 1) := by decide +kernel
theorem lm_9_89 : tLm 9 89 = some (153, 4) := by decide +kernel
theorem lm_9_92 : tLm 9 92 = some (134, 3) := by decide +kernel
theorem lm_9_93 : tLm 9 93 = some (154, 3) := by decide +kernel
theorem lm_9_96 : tLm 9 96 = some (135, 2) := by decide +kernel
theorem lm_9_97 : tLm 9 97 = some (155, 3) := by decide +kernel
theorem lm_9_99 : tLm 9 99 = some (140, 2) := by decide +kernel
theorem lm_9_100 : tLm 9 100 = some (156, 3) := by decide +kernel
theorem lm_9_102 : tLm 9 102 = some (141, 2) := by decide +kernel
theorem lm_9_103 : tLm 9 103 = some (157, 3) := by decide +kernel
theorem lm_9_105 : tLm 9 105 = some (142, 2) := by decide +kernel
theorem lm_9_106 : tLm 9 106 = some (158, 3) := by decide +kernel
theorem lm_9_108 : tLm 9 108 = some (143, 2) := by decide +kernel
theorem lm_9_109 : tLm 9 109 = some (159, 3) := by decide +kernel
theorem lm_9_111 : tLm 9 111 = some (145, 2) := by decide +kernel
theorem lm_9_112 : tLm 9 112 = some (160, 4) := by decide +kernel
theorem lm_9_114 : tLm 9 114 = some (146, 3) := by decide +kernel
theorem lm_9_115 : tLm 9 115 = some (161, 5) := by decide +kernel
theorem lm_9_118 : tLm 9 118 = some (148, 4) := by decide +kernel
theorem lm_9_119 : tLm 9 119 = some (162, 3) := by decide +kernel
theorem lm_9_121 : tLm 9 121 = some (150, 2) := by decide +kernel
theorem lm_12_335 : tLm 12 335 = some (170, 1) := by decide +kernel
theorem lm_12_492 : tLm 12 492 = some (168, 1) := by decide +kernel
theorem lm_12_495 : tLm 12 495 = some (176, 2) := by decide +kernel
theorem lm_12_505 : tLm 12 505 = some (169, 1) := by decide +kernel
theorem lm_12_633 : tLm 12 633 = some (167, 3) := by decide +kernel
theorem lm_12_637 : tLm 12 637 = some (173, 4) := by decide +kernel
theorem lm_12_1059 : tLm 12 1059 = some (177, 3) := by decide +kernel
theorem lm_13_9 : tLm 13 9 = some (172, 2) := by decide +kernel
theorem lm_13_38 : tLm 13 38 = some (164, 2) := by decide +kernel
theorem lm_13_88 : tLm 13 88 = some (174, 1) := by decide +kernel
theorem lm_13_92 : tLm 13 92 = some (163, 2) := by decide +kernel
theorem lm_13_95 : tLm 13 95 = some (175, 4) := by decide +kernel
theorem lc_9_8 : tLc 9 8 = some (0, 11) := by decide +kernel
theorem lc_0_13 : tLc 0 13 = some (6, 8) := by decide +kernel
theorem lc_0_20 : tLc 0 20 = some (5, 7) := by decide +kernel
theorem lc_0_27 : tLc 0 27 = some (4, 6) := by decide +kernel
theorem lc_4_9 : tLc 4 9 = some (7, 6) := by decide +kernel
theorem lc_4_26 : tLc 4 26 = some (2, 2) := by decide +kernel
theorem lc_0_37 : tLc 0 37 = some (3, 5) := by decide +kernel
theorem lc_0_47 : tLc 0 47 = some (2, 2) := by decide +kernel
theorem lc_0_53 : tLc 0 53 = some (1, 7) := by decide +kernel
theorem lc_1_9 : tLc 1 9 = some (4, 6) := by decide +kernel
theorem lc_1_21 : tLc 1 21 = some (3, 5) := by decide +kernel
theorem lc_9_63 : tLc 9 63 = some (8, 67) := by decide +kernel
theorem lx_0_68 : tLx 0 68 = some (0, 6) := by decide +kernel
theorem lcn_0_68 : tLc 0 68 = none := by decide +kernel
theorem lx_0_75 : tLx 0 75 = some (1, 6) := by decide +kernel
theorem lcn_0_75 : tLc 0 75 = none := by decide +kernel
theorem lx_6_55 : tLx 6 55 = some (1, 6) := by decide +kernel
theorem lcn_6_55 : tLc 6 55 = none := by decide +kernel
theorem lx_6_49 : tLx 6 49 = some (0, 6) := by decide +kernel
theorem lcn_6_49 : tLc 6 49 = none := by decide +kernel
theorem lx_0_101 : tLx 0 101 = some (2, 6) := by decide +kernel
theorem lcn_0_101 : tLc 0 101 = none := by decide +kernel
theorem lx_0_115 : tLx 0 115 = some (3, 6) := by decide +kernel
theorem lcn_0_115 : tLc 0 115 = none := by decide +kernel
theorem lx_0_170 : tLx 0 170 = some (4, 6) := by decide +kernel
theorem lcn_0_170 : tLc 0 170 = none := by decide +kernel
end
section
/-! The classes, their fields; the words that the links stand for, by their places. Written by wip/whole/gen/mk05.py. -/
def cNm : Nat → String := fun c => match c with
  | 0 => "MovingBoxes"
  | 1 => "MovingBoxes$Explorer"
  | 2 => "MovingBoxes$Line"
  | 3 => "MovingBoxes$Redexes"
  | 4 => "MovingBoxes$State"
  | 5 => "MovingBoxes$Teller"
  | 6 => "MovingBoxes$Term"
  | 7 => "MovingBoxes$Things"
  | 8 => "MovingBoxesModel"
  | 9 => "MovingBoxesLaw"
  | 10 => "java/lang/Math"
  | 11 => "java/lang/Integer"
  | 12 => "java/lang/String"
  | 13 => "java/lang/StringLatin1"
  | _ => "jdk/internal/util/Preconditions"
def cNf (c : Nat) : Nat := [11, 7, 2, 5, 6, 7, 8, 6, 67].getD c 0
def cTb0 : u_T := fun k => match k with
  | 0 => ("MovingBoxes", "written", "[C", true)
  | 1 => ("MovingBoxes", "writtenLength", "I", false)
  | 2 => ("MovingBoxes", "term", "LMovingBoxes$Term;", true)
  | 3 => ("MovingBoxes", "teller", "LMovingBoxes$Teller;", true)
  | 4 => ("MovingBoxes", "state", "LMovingBoxes$State;", false)
  | 5 => ("MovingBoxes", "spare", "LMovingBoxes$State;", false)
  | 6 => ("MovingBoxes", "present", "LMovingBoxes$Redexes;", false)
  | 7 => ("MovingBoxes", "past", "LMovingBoxes$Redexes;", false)
  | 8 => ("MovingBoxes", "steps", "I", false)
  | 9 => ("MovingBoxes", "kept", "[LMovingBoxes$Line;", true)
  | _ => ("MovingBoxes", "explorer", "LMovingBoxes$Explorer;", true)
def cTy0 : Nat → FieldType := fun k => match k with
  | 0 => .array .char
  | 1 => .int
  | 2 => .object "MovingBoxes$Term"
  | 3 => .object "MovingBoxes$Teller"
  | 4 => .object "MovingBoxes$State"
  | 5 => .object "MovingBoxes$State"
  | 6 => .object "MovingBoxes$Redexes"
  | 7 => .object "MovingBoxes$Redexes"
  | 8 => .int
  | 9 => .array (.object "MovingBoxes$Line")
  | _ => .object "MovingBoxes$Explorer"
def cTb1 : u_T := fun k => match k with
  | 0 => ("MovingBoxes$Explorer", "found", "[LMovingBoxes$State;", true)
  | 1 => ("MovingBoxes$Explorer", "distance", "[I", true)
  | 2 => ("MovingBoxes$Explorer", "redexes", "LMovingBoxes$Redexes;", true)
  | 3 => ("MovingBoxes$Explorer", "size", "I", false)
  | 4 => ("MovingBoxes$Explorer", "isComplete", "Z", false)
  | 5 => ("MovingBoxes$Explorer", "stuck", "I", false)
  | _ => ("MovingBoxes$Explorer", "nearest", "I", false)
def cTy1 : Nat → FieldType := fun k => match k with
  | 0 => .array (.object "MovingBoxes$State")
  | 1 => .array .int
  | 2 => .object "MovingBoxes$Redexes"
  | 3 => .int
  | 4 => .boolean
  | 5 => .int
  | _ => .int
def cTb2 : u_T := fun k => match k with
  | 0 => ("MovingBoxes$Line", "letters", "[C", true)
  | _ => ("MovingBoxes$Line", "length", "I", false)
def cTy2 : Nat → FieldType := fun k => match k with
  | 0 => .array .char
  | _ => .int
def cTb3 : u_T := fun k => match k with
  | 0 => ("MovingBoxes$Redexes", "kind", "[I", true)
  | 1 => ("MovingBoxes$Redexes", "guard", "[I", true)
  | 2 => ("MovingBoxes$Redexes", "other", "[I", true)
  | 3 => ("MovingBoxes$Redexes", "since", "[I", true)
  | _ => ("MovingBoxes$Redexes", "size", "I", false)
def cTy3 : Nat → FieldType := fun k => match k with
  | 0 => .array .int
  | 1 => .array .int
  | 2 => .array .int
  | 3 => .array .int
  | _ => .int
def cTb4 : u_T := fun k => match k with
  | 0 => ("MovingBoxes$State", "places", "LMovingBoxes$Things;", true)
  | 1 => ("MovingBoxes$State", "guards", "LMovingBoxes$Things;", true)
  | 2 => ("MovingBoxes$State", "messages", "LMovingBoxes$Things;", true)
  | 3 => ("MovingBoxes$State", "text", "LMovingBoxes$Line;", true)
  | 4 => ("MovingBoxes$State", "nextNumber", "I", false)
  | _ => ("MovingBoxes$State", "isTooMuch", "Z", false)
def cTy4 : Nat → FieldType := fun k => match k with
  | 0 => .object "MovingBoxes$Things"
  | 1 => .object "MovingBoxes$Things"
  | 2 => .object "MovingBoxes$Things"
  | 3 => .object "MovingBoxes$Line"
  | 4 => .int
  | _ => .boolean
def cTb5 : u_T := fun k => match k with
  | 0 => ("MovingBoxes$Teller", "letters", "[C", true)
  | 1 => ("MovingBoxes$Teller", "ordered", "[C", true)
  | 2 => ("MovingBoxes$Teller", "length", "I", false)
  | 3 => ("MovingBoxes$Teller", "begin", "[I", true)
  | 4 => ("MovingBoxes$Teller", "end", "[I", true)
  | 5 => ("MovingBoxes$Teller", "pieces", "I", false)
  | _ => ("MovingBoxes$Teller", "isTooLong", "Z", false)
def cTy5 : Nat → FieldType := fun k => match k with
  | 0 => .array .char
  | 1 => .array .char
  | 2 => .int
  | 3 => .array .int
  | 4 => .array .int
  | 5 => .int
  | _ => .boolean
def cTb6 : u_T := fun k => match k with
  | 0 => ("MovingBoxes$Term", "kind", "[I", true)
  | 1 => ("MovingBoxes$Term", "name", "[C", true)
  | 2 => ("MovingBoxes$Term", "isReplica", "[Z", true)
  | 3 => ("MovingBoxes$Term", "end", "[I", true)
  | 4 => ("MovingBoxes$Term", "size", "I", false)
  | 5 => ("MovingBoxes$Term", "letters", "[C", true)
  | 6 => ("MovingBoxes$Term", "length", "I", false)
  | _ => ("MovingBoxes$Term", "at", "I", false)
def cTy6 : Nat → FieldType := fun k => match k with
  | 0 => .array .int
  | 1 => .array .char
  | 2 => .array .boolean
  | 3 => .array .int
  | 4 => .int
  | 5 => .array .char
  | 6 => .int
  | _ => .int
def cTb7 : u_T := fun k => match k with
  | 0 => ("MovingBoxes$Things", "number", "[I", true)
  | 1 => ("MovingBoxes$Things", "in", "[I", true)
  | 2 => ("MovingBoxes$Things", "name", "[I", true)
  | 3 => ("MovingBoxes$Things", "node", "[I", true)
  | 4 => ("MovingBoxes$Things", "meanings", "[I", true)
  | _ => ("MovingBoxes$Things", "size", "I", false)
def cTy7 : Nat → FieldType := fun k => match k with
  | 0 => .array .int
  | 1 => .array .int
  | 2 => .array .int
  | 3 => .array .int
  | 4 => .array .int
  | _ => .int
def cTb8 : u_T := fun k => match k with
  | 0 => ("MovingBoxesModel", "thrown", "I", false)
  | 1 => ("MovingBoxesModel", "bad", "I", false)
  | 2 => ("MovingBoxesModel", "length", "I", false)
  | 3 => ("MovingBoxesModel", "text", "[I", true)
  | 4 => ("MovingBoxesModel", "nodes", "I", false)
  | 5 => ("MovingBoxesModel", "chars", "I", false)
  | 6 => ("MovingBoxesModel", "at", "I", false)
  | 7 => ("MovingBoxesModel", "plain", "[I", true)
  | 8 => ("MovingBoxesModel", "kind", "[I", true)
  | 9 => ("MovingBoxesModel", "replica", "[Z", true)
  | 10 => ("MovingBoxesModel", "name", "[I", true)
  | 11 => ("MovingBoxesModel", "first", "[I", true)
  | 12 => ("MovingBoxesModel", "last", "[I", true)
  | 13 => ("MovingBoxesModel", "next", "[I", true)
  | 14 => ("MovingBoxesModel", "open", "I", false)
  | 15 => ("MovingBoxesModel", "sort", "[I", true)
  | 16 => ("MovingBoxesModel", "owner", "[I", true)
  | 17 => ("MovingBoxesModel", "bound", "[I", true)
  | 18 => ("MovingBoxesModel", "placeNumber", "[I", true)
  | 19 => ("MovingBoxesModel", "placeName", "[I", true)
  | 20 => ("MovingBoxesModel", "inside", "[I", true)
  | 21 => ("MovingBoxesModel", "guardNumber", "[I", true)
  | 22 => ("MovingBoxesModel", "guardNode", "[I", true)
  | 23 => ("MovingBoxesModel", "guardAt", "[I", true)
  | 24 => ("MovingBoxesModel", "meaning", "[I", true)
  | 25 => ("MovingBoxesModel", "messageNumber", "[I", true)
  | 26 => ("MovingBoxesModel", "messageName", "[I", true)
  | 27 => ("MovingBoxesModel", "messageAt", "[I", true)
  | 28 => ("MovingBoxesModel", "number", "I", false)
  | 29 => ("MovingBoxesModel", "steps", "I", false)
  | 30 => ("MovingBoxesModel", "full", "Z", false)
  | 31 => ("MovingBoxesModel", "came", "[I", true)
  | 32 => ("MovingBoxesModel", "whoGuard", "[I", true)
  | 33 => ("MovingBoxesModel", "whoOther", "[I", true)
  | 34 => ("MovingBoxesModel", "runs", "I", false)
  | 35 => ("MovingBoxesModel", "runNode", "[I", true)
  | 36 => ("MovingBoxesModel", "runPlace", "[I", true)
  | 37 => ("MovingBoxesModel", "used", "I", false)
  | 38 => ("MovingBoxesModel", "strings", "I", false)
  | 39 => ("MovingBoxesModel", "frames", "I", false)
  | 40 => ("MovingBoxesModel", "pool", "[I", true)
  | 41 => ("MovingBoxesModel", "from", "[I", true)
  | 42 => ("MovingBoxesModel", "size", "[I", true)
  | 43 => ("MovingBoxesModel", "frameKind", "[I", true)
  | 44 => ("MovingBoxesModel", "frameThing", "[I", true)
  | 45 => ("MovingBoxesModel", "frameNext", "[I", true)
  | 46 => ("MovingBoxesModel", "frameBase", "[I", true)
  | 47 => ("MovingBoxesModel", "frameMask", "[I", true)
  | 48 => ("MovingBoxesModel", "guardOf", "I", false)
  | 49 => ("MovingBoxesModel", "stateSize", "I", false)
  | 50 => ("MovingBoxesModel", "keptSize", "[I", true)
  | 51 => ("MovingBoxesModel", "kept", "[J", true)
  | 52 => ("MovingBoxesModel", "found", "I", false)
  | 53 => ("MovingBoxesModel", "gone", "I", false)
  | 54 => ("MovingBoxesModel", "still", "I", false)
  | 55 => ("MovingBoxesModel", "shown", "I", false)
  | 56 => ("MovingBoxesModel", "greatest", "I", false)
  | 57 => ("MovingBoxesModel", "explored", "Z", false)
  | 58 => ("MovingBoxesModel", "everything", "Z", false)
  | 59 => ("MovingBoxesModel", "states", "[I", true)
  | 60 => ("MovingBoxesModel", "stateSizes", "[I", true)
  | 61 => ("MovingBoxesModel", "stateTexts", "[J", true)
  | 62 => ("MovingBoxesModel", "distances", "[I", true)
  | 63 => ("MovingBoxesModel", "put", "[I", true)
  | 64 => ("MovingBoxesModel", "heads", "[I", true)
  | 65 => ("MovingBoxesModel", "redexGuard", "I", false)
  | _ => ("MovingBoxesModel", "redexOther", "I", false)
def cTy8 : Nat → FieldType := fun k => match k with
  | 0 => .int
  | 1 => .int
  | 2 => .int
  | 3 => .array .int
  | 4 => .int
  | 5 => .int
  | 6 => .int
  | 7 => .array .int
  | 8 => .array .int
  | 9 => .array .boolean
  | 10 => .array .int
  | 11 => .array .int
  | 12 => .array .int
  | 13 => .array .int
  | 14 => .int
  | 15 => .array .int
  | 16 => .array .int
  | 17 => .array .int
  | 18 => .array .int
  | 19 => .array .int
  | 20 => .array .int
  | 21 => .array .int
  | 22 => .array .int
  | 23 => .array .int
  | 24 => .array .int
  | 25 => .array .int
  | 26 => .array .int
  | 27 => .array .int
  | 28 => .int
  | 29 => .int
  | 30 => .boolean
  | 31 => .array .int
  | 32 => .array .int
  | 33 => .array .int
  | 34 => .int
  | 35 => .array .int
  | 36 => .array .int
  | 37 => .int
  | 38 => .int
  | 39 => .int
  | 40 => .array .int
  | 41 => .array .int
  | 42 => .array .int
  | 43 => .array .int
  | 44 => .array .int
  | 45 => .array .int
  | 46 => .array .int
  | 47 => .array .int
  | 48 => .int
  | 49 => .int
  | 50 => .array .int
  | 51 => .array .long
  | 52 => .int
  | 53 => .int
  | 54 => .int
  | 55 => .int
  | 56 => .int
  | 57 => .boolean
  | 58 => .boolean
  | 59 => .array .int
  | 60 => .array .int
  | 61 => .array .long
  | 62 => .array .int
  | 63 => .array .int
  | 64 => .array .int
  | 65 => .int
  | _ => .int
def cTb : Nat → u_T := fun c => match c with
  | 0 => cTb0
  | 1 => cTb1
  | 2 => cTb2
  | 3 => cTb3
  | 4 => cTb4
  | 5 => cTb5
  | 6 => cTb6
  | 7 => cTb7
  | _ => cTb8
def cTy : Nat → Nat → FieldType := fun c => match c with
  | 0 => cTy0
  | 1 => cTy1
  | 2 => cTy2
  | 3 => cTy3
  | 4 => cTy4
  | 5 => cTy5
  | 6 => cTy6
  | 7 => cTy7
  | _ => cTy8
def tyFL : List (List Nat) := [[2, 0, 2, 2, 2, 2, 2, 2, 0, 2, 2], [2, 2, 2, 0, 3, 0, 0], [2, 0], [2, 2, 2, 2, 0], [2, 2, 2, 2, 0, 3], [2, 2, 0, 2, 2, 0, 3], [2, 2, 2, 2, 0, 2, 0, 0], [2, 2, 2, 2, 2, 0], [0, 0, 0, 2, 0, 0, 0, 2, 2, 2, 2, 2, 2, 2, 0, 2, 2, 2, 2, 2, 2, 2, 2, 2, 2, 2, 2, 2, 0, 0, 3, 2, 2, 2, 0, 2, 2, 0, 0, 0, 2, 2, 2, 2, 2, 2, 2, 2, 0, 0, 2, 2, 0, 0, 0, 0, 0, 3, 3, 2, 2, 2, 2, 2, 2, 0, 0]]
def tyF (c k : Nat) : Nat := (tyFL.getD c []).getD k 0
def clT : List vw_C := (List.range 9).map fun c => (cNm c, cTb c, cNf c)
theorem clT_at {c : Nat} (h : c < 9) : clT[c]? = some (cNm c, cTb c, cNf c) := by
  unfold clT
  rw [List.getElem?_map, List.getElem?_range h]
  rfl
theorem tm {i : Nat} {w : Cond} (h : tables_1[i]? = some w) : w ∈ lw_tbl := List.mem_append_right _ (List.mem_of_getElem? h)
theorem lk2_mem {α : Type} : ∀ {l : List (Nat × (Nat × α))} {a b : Nat} {v : α}, lk2 l a b = some v → (a, (b, v)) ∈ l := by
  intro l
  induction l with
  | nil => intro a b v h; cases h
  | cons q t ih =>
    intro a b v h
    obtain ⟨x, y, w⟩ := q
    unfold lk2 at h
    split at h
    · rename_i hc
      cases h
      rw [hc.1, hc.2]
      exact List.mem_cons_self
    · exact List.mem_cons_of_mem _ (ih h)
theorem zip_all {α β : Type} {l : List α} {r : List β} {f : α × β → Bool} (h : (l.zip r).all f = true) (hl : l.length = r.length) {x : α} (hx : x ∈ l) : ∃ y, f (x, y) = true := by
  obtain ⟨i, hi⟩ := List.getElem?_of_mem hx
  have hlt : i < l.length := (List.getElem?_eq_some_iff.mp hi).1
  have h2 : (l.zip r)[i]? = some (x, r[i]'(hl ▸ hlt)) := by
    rw [List.getElem?_zip_eq_some]
    exact ⟨hi, List.getElem?_eq_getElem _⟩
  exact ⟨_, List.all_eq_true.mp h _ (List.mem_of_getElem? h2)⟩
def layP : List (List Nat) := [[287, 289, 291, 293, 295, 297, 299, 301, 303, 305, 307], [256, 258, 260, 262, 264, 266, 268], [165, 167], [221, 223, 225, 227, 229], [189, 191, 193, 195, 197, 199], [90, 92, 94, 96, 98, 100, 102], [57, 59, 61, 63, 65, 67, 69, 71], [140, 142, 144, 146, 148, 150], [1004, 1006, 1008, 1010, 1012, 1014, 1016, 1018, 1020, 1022, 1024, 1026, 1028, 1030, 1032, 1034, 1036, 1038, 1040, 1042, 1044, 1046, 1048, 1050, 1052, 1054, 1056, 1058, 1060, 1062, 1064, 1066, 1068, 1070, 1072, 1074, 1076, 1078, 1080, 1082, 1084, 1086, 1088, 1090, 1092, 1094, 1096, 1098, 1100, 1102, 1104, 1106, 1108, 1110, 1112, 1114, 1116, 1118, 1120, 1122, 1124, 1126, 1128, 1130, 1132, 1134, 1136]]
theorem lay_ok : ∀ c, c < 9 → ∀ k, k < cNf c → tables_1[(layP.getD c []).getD k 0]? = some (u_lay (cNm c) (cTb c) k) := by decide +kernel
theorem lay_in {c : Nat} (h : c < 9) : ∀ w ∈ u_ws (cNm c) (cTb c) (cNf c), w ∈ lw_tbl := by
  intro w hw
  obtain ⟨k, hk, rfl⟩ := List.mem_map.mp hw
  exact tm (lay_ok c h k (List.mem_range.mp hk))
theorem cTy_ok : ∀ c, c < 9 → ∀ k, k < cNf c → parseFieldDescriptor (cTb c k).2.2.1 = some (cTy c k) := by decide +kernel
theorem cNm_ne : ∀ c, c < 9 → ∀ a, a < cNf c → ∀ b, b < cNf c → a ≠ b → (cTb c a).2.1 ≠ (cTb c b).2.1 := by decide +kernel
theorem cOwn : ∀ c, c < 9 → ∀ k, k < cNf c → (cTb c k).1 = cNm c := by decide +kernel
def iniP : List Nat := [1, 8, 6, 7, 4, 3, 2, 5, 9, 0, 17, 23, 15, 16, 19]
def insP : List Nat := [27, 235, 154, 203, 106, 78, 35, 112, 928]
theorem ini_ok : ∀ c, c < 15 → tables_1[iniP.getD c 0]? = some (.initialized (cNm c)) := by decide +kernel
theorem ins_ok : ∀ c, c < 9 → tables_1[insP.getD c 0]? = some (.instantiable (cNm c) (cNf c)) := by decide +kernel
def lfP : List (Nat × Bool) := [(276, false), (278, false), (279, false), (280, false), (281, false), (282, false), (283, false), (285, false), (286, false), (277, false), (284, false), (53, true), (220, true), (209, true), (212, true), (215, true), (217, true), (173, true), (139, true), (177, true), (181, true), (187, true), (185, true), (164, true), (161, true), (249, true), (251, true), (253, true), (255, true), (245, false), (246, false), (247, false), (254, false), (248, false), (250, false), (252, false), (219, true), (184, true), (159, false), (162, false), (208, false), (210, false), (213, false), (216, false), (218, false), (176, true), (138, true), (42, true), (130, true), (172, true), (122, true), (126, true), (119, true), (180, true), (170, false), (174, false), (178, false), (182, false), (136, true), (186, false), (188, false), (160, true), (163, true), (52, true), (211, true), (214, true), (131, true), (123, true), (134, true), (49, true), (43, true), (46, true), (127, true), (83, false), (84, false), (86, false), (87, false), (85, false), (88, false), (89, false), (183, true), (171, true), (137, true), (121, true), (125, true), (118, true), (175, true), (129, true), (133, true), (179, true), (41, true), (45, true), (48, true), (40, false), (44, false), (47, false), (50, false), (54, false), (55, false), (51, false), (56, false), (117, false), (120, false), (124, false), (128, false), (132, false), (135, false), (940, false), (944, false), (945, false), (946, false), (947, false), (948, false), (949, false), (950, false), (952, false), (953, false), (954, false), (955, false), (956, false), (957, false), (958, false), (959, false), (960, false), (961, false), (962, false), (963, false), (964, false), (968, false), (969, false), (970, false), (972, false), (973, false), (977, false), (978, false), (979, false), (980, false), (981, false), (982, false), (983, false), (984, false), (987, false), (988, false), (996, false), (997, false), (998, false), (999, false), (1000, false), (1001, false), (937, false), (938, false), (939, false), (943, false), (942, false), (941, false), (951, false), (965, false), (966, false), (967, false), (986, false), (971, false), (974, false), (976, false), (975, false), (985, false), (1002, false), (1003, false), (994, false), (989, false), (993, false), (992, false), (990, false), (991, false), (995, false)]
def lfC (q : (Nat × (Nat × (Nat × (Nat × Nat)))) × (Nat × Bool)) : Bool :=
  decide (q.1.2.2.1 < 9) && decide (q.1.2.2.2.1 < cNf q.1.2.2.1) && (tyF q.1.2.2.1 q.1.2.2.2.1 == q.1.2.2.2.2) &&
  (if q.2.2 = true then decide (tables_1[q.2.1]? = some (.fieldLinkNest (cNm q.1.1) q.1.2.1 (cNm q.1.2.2.1) (cTb q.1.2.2.1 q.1.2.2.2.1).2.1 (cTb q.1.2.2.1 q.1.2.2.2.1).2.2.1 "MovingBoxes"))
   else decide (tables_1[q.2.1]? = some (.fieldLink (cNm q.1.1) q.1.2.1 (cNm q.1.2.2.1) (cTb q.1.2.2.1 q.1.2.2.2.1).2.1 (cTb q.1.2.2.1 q.1.2.2.2.1).2.2.1)))
theorem lf_all : (tLfL.zip lfP).all lfC = true := by decide +kernel
theorem lf_ok {o k c f t : Nat} (h : tLf o k = some (c, (f, t))) : c < 9 ∧ f < cNf c ∧ tyF c f = t ∧
    (Cond.fieldLinkNest (cNm o) k (cNm c) (cTb c f).2.1 (cTb c f).2.2.1 "MovingBoxes" ∈ lw_tbl ∨ Cond.fieldLink (cNm o) k (cNm c) (cTb c f).2.1 (cTb c f).2.2.1 ∈ lw_tbl) := by
  obtain ⟨y, hy⟩ := zip_all lf_all rfl (lk2_mem h)
  simp only [lfC, Bool.and_eq_true, decide_eq_true_eq, beq_iff_eq] at hy
  obtain ⟨⟨⟨h1, h2⟩, h3⟩, h4⟩ := hy
  refine ⟨h1, h2, h3, ?_⟩
  split at h4
  · exact Or.inl (tm (of_decide_eq_true h4))
  · exact Or.inr (tm (of_decide_eq_true h4))
def lcP : List Nat := [26, 34, 77, 105, 111, 153, 202, 232, 234, 240, 242, 927]
def lcC (q : (Nat × (Nat × (Nat × Nat))) × Nat) : Bool := decide (q.1.2.2.1 < 9) && (q.1.2.2.2 == cNf q.1.2.2.1) && decide (tables_1[q.2]? = some (.classLink (cNm q.1.1) q.1.2.1 (cNm q.1.2.2.1)))
theorem lc_all : (tLcL.zip lcP).all lcC = true := by decide +kernel
theorem lc_ok {o k c n : Nat} (h : tLc o k = some (c, n)) : c < 9 ∧ n = cNf c ∧ Cond.classLink (cNm o) k (cNm c) ∈ lw_tbl := by
  obtain ⟨y, hy⟩ := zip_all lc_all rfl (lk2_mem h)
  simp only [lcC, Bool.and_eq_true, decide_eq_true_eq, beq_iff_eq] at hy
  exact ⟨hy.1.1, hy.1.2, tm hy.2⟩
def laP : List (Nat × Nat) := [(232, 233), (240, 241)]
def laC (q : (Nat × (Nat × Nat)) × (Nat × Nat)) : Bool := (q.1.2.2 == 2 || q.1.2.2 == 4) && decide (tables_1[q.2.1]? = some (.classLink (cNm q.1.1) q.1.2.1 (cNm q.1.2.2))) && decide (tables_1[q.2.2]? = some (.arrayOver (.object (cNm q.1.2.2))))
theorem la_all : (tLaL.zip laP).all laC = true := by decide +kernel
theorem la_ok {o k c : Nat} (h : tLa o k = some c) : (c = 2 ∨ c = 4) ∧ Cond.classLink (cNm o) k (cNm c) ∈ lw_tbl ∧ Cond.arrayOver (.object (cNm c)) ∈ lw_tbl := by
  obtain ⟨y, hy⟩ := zip_all la_all rfl (lk2_mem h)
  simp only [laC, Bool.and_eq_true, Bool.or_eq_true, decide_eq_true_eq, beq_iff_eq] at hy
  exact ⟨hy.1.1, tm hy.1.2, tm hy.2⟩
def llP : List Nat := [1155, 1379]
def llC (q : (Nat × (Nat × Int64)) × Nat) : Bool := decide (tables_1[q.2]? = some (.constantLong (cNm q.1.1) q.1.2.1 q.1.2.2))
theorem ll_all : (tLlL.zip llP).all llC = true := by decide +kernel
theorem ll_ok {o k : Nat} {v : Int64} (h : tLl o k = some v) : Cond.constantLong (cNm o) k v ∈ lw_tbl := by
  obtain ⟨y, hy⟩ := zip_all ll_all rfl (lk2_mem h)
  simp only [llC, decide_eq_true_eq] at hy
  exact tm hy
def aT : Nat → FieldType := fun k => match k with
  | 0 => .int
  | 1 => .char
  | 2 => .boolean
  | 3 => .long
  | k + 4 => .object (cNm k)
def okK (k : Nat) : Prop := k < 4 ∨ k = 6 ∨ k = 8
def arP : List Nat := [75, 74, 76, 1139]
theorem ar_ok : ∀ k, k < 4 → tables_1[arP.getD k 0]? = some (.arrayClass (aT k)) := by decide +kernel
theorem ao_2 : Cond.arrayOver (.object (cNm 2)) ∈ lw_tbl := tm (i := 233) (by decide +kernel)
theorem ao_4 : Cond.arrayOver (.object (cNm 4)) ∈ lw_tbl := tm (i := 241) (by decide +kernel)
end
section
/-! The methods: names, kinds, the words of their code and of their calls. Written by wip/whole/gen/mk06.py. -/
def yN : Nat → MethodName := fun j => match j with
  | 0 => ⟨"MovingBoxes", "<init>", "()V"⟩
  | 1 => ⟨"MovingBoxes", "erase", "()I"⟩
  | 2 => ⟨"MovingBoxes", "redexes", "()I"⟩
  | 3 => ⟨"MovingBoxes", "write", "(JI)I"⟩
  | 4 => ⟨"MovingBoxes", "areCharacters", "(JI)Z"⟩
  | 5 => ⟨"MovingBoxes", "byteOf", "(JI)I"⟩
  | 6 => ⟨"MovingBoxes", "read", "()I"⟩
  | 7 => ⟨"MovingBoxes", "meant", "(CI)I"⟩
  | 8 => ⟨"MovingBoxes", "bind", "(CII)I"⟩
  | 9 => ⟨"MovingBoxes", "goOn", "()V"⟩
  | 10 => ⟨"MovingBoxes", "redex", "(II)I"⟩
  | 11 => ⟨"MovingBoxes", "take", "(I)I"⟩
  | 12 => ⟨"MovingBoxes", "stepped", "(I)Z"⟩
  | 13 => ⟨"MovingBoxes", "fair", "(I)I"⟩
  | 14 => ⟨"MovingBoxes", "count", "(I)I"⟩
  | 15 => ⟨"MovingBoxes", "letter", "(I)I"⟩
  | 16 => ⟨"MovingBoxes", "keep", "(I)I"⟩
  | 17 => ⟨"MovingBoxes", "isSlot", "(I)Z"⟩
  | 18 => ⟨"MovingBoxes", "equal", "(I)Z"⟩
  | 19 => ⟨"MovingBoxes", "shows", "(II)Z"⟩
  | 20 => ⟨"MovingBoxes", "isName", "(I)Z"⟩
  | 21 => ⟨"MovingBoxes", "explore", "(III)I"⟩
  | 22 => ⟨"MovingBoxes", "explored", "(I)I"⟩
  | 23 => ⟨"MovingBoxes$Explorer", "<init>", "()V"⟩
  | 24 => ⟨"MovingBoxes$Explorer", "forget", "()V"⟩
  | 25 => ⟨"MovingBoxes$Explorer", "goOver", "(LMovingBoxes$State;ILMovingBoxes$Term;LMovingBoxes$Teller;)V"⟩
  | 26 => ⟨"MovingBoxes$Explorer", "isNew", "(LMovingBoxes$State;)Z"⟩
  | 27 => ⟨"MovingBoxes$Explorer", "lookFor", "(II)V"⟩
  | 28 => ⟨"MovingBoxes$Explorer", "farthest", "()I"⟩
  | 29 => ⟨"MovingBoxes$Line", "<init>", "()V"⟩
  | 30 => ⟨"MovingBoxes$Line", "set", "([CI)V"⟩
  | 31 => ⟨"MovingBoxes$Line", "isSame", "(LMovingBoxes$Line;)Z"⟩
  | 32 => ⟨"MovingBoxes$Redexes", "<init>", "()V"⟩
  | 33 => ⟨"MovingBoxes$Redexes", "clear", "()V"⟩
  | 34 => ⟨"MovingBoxes$Redexes", "find", "(LMovingBoxes$State;LMovingBoxes$Term;)V"⟩
  | 35 => ⟨"MovingBoxes$Redexes", "findBeside", "(LMovingBoxes$State;I)V"⟩
  | 36 => ⟨"MovingBoxes$Redexes", "add", "(III)V"⟩
  | 37 => ⟨"MovingBoxes$Redexes", "findAround", "(LMovingBoxes$State;I)V"⟩
  | 38 => ⟨"MovingBoxes$Redexes", "findInside", "(LMovingBoxes$State;I)V"⟩
  | 39 => ⟨"MovingBoxes$Redexes", "findMessages", "(LMovingBoxes$State;I)V"⟩
  | 40 => ⟨"MovingBoxes$Redexes", "date", "(LMovingBoxes$Redexes;I)V"⟩
  | 41 => ⟨"MovingBoxes$Redexes", "compare", "(III)I"⟩
  | 42 => ⟨"MovingBoxes$Redexes", "has", "(I)Z"⟩
  | 43 => ⟨"MovingBoxes$Redexes", "oldest", "()I"⟩
  | 44 => ⟨"MovingBoxes$State", "<init>", "()V"⟩
  | 45 => ⟨"MovingBoxes$State", "clear", "()V"⟩
  | 46 => ⟨"MovingBoxes$State", "begin", "(LMovingBoxes$Term;)Z"⟩
  | 47 => ⟨"MovingBoxes$State", "run", "(LMovingBoxes$Term;IIIII)V"⟩
  | 48 => ⟨"MovingBoxes$State", "sort", "(I)LMovingBoxes$Things;"⟩
  | 49 => ⟨"MovingBoxes$State", "follow", "(LMovingBoxes$State;LMovingBoxes$Redexes;ILMovingBoxes$Term;)Z"⟩
  | 50 => ⟨"MovingBoxes$State", "copy", "(LMovingBoxes$State;)V"⟩
  | 51 => ⟨"MovingBoxes$State", "react", "(LMovingBoxes$Term;II)V"⟩
  | 52 => ⟨"MovingBoxes$State", "move", "(II)V"⟩
  | 53 => ⟨"MovingBoxes$State", "placeOf", "(I)I"⟩
  | 54 => ⟨"MovingBoxes$State", "dissolve", "(II)V"⟩
  | 55 => ⟨"MovingBoxes$State", "receive", "(I)I"⟩
  | 56 => ⟨"MovingBoxes$State", "hasShape", "(II)Z"⟩
  | 57 => ⟨"MovingBoxes$Teller", "<init>", "()V"⟩
  | 58 => ⟨"MovingBoxes$Teller", "tell", "(LMovingBoxes$State;LMovingBoxes$Term;)Z"⟩
  | 59 => ⟨"MovingBoxes$Teller", "tellPlace", "(LMovingBoxes$State;LMovingBoxes$Term;II)V"⟩
  | 60 => ⟨"MovingBoxes$Teller", "put", "(C)V"⟩
  | 61 => ⟨"MovingBoxes$Teller", "addPiece", "(II)V"⟩
  | 62 => ⟨"MovingBoxes$Teller", "isBefore", "(IIII)Z"⟩
  | 63 => ⟨"MovingBoxes$Teller", "tellNode", "(LMovingBoxes$Term;III)V"⟩
  | 64 => ⟨"MovingBoxes$Teller", "putHead", "(LMovingBoxes$Term;II)V"⟩
  | 65 => ⟨"MovingBoxes$Teller", "putName", "(CI)V"⟩
  | 66 => ⟨"MovingBoxes$Teller", "join", "(IIZ)V"⟩
  | 67 => ⟨"MovingBoxes$Teller", "copyOrdered", "(IZ)V"⟩
  | 68 => ⟨"MovingBoxes$Term", "<init>", "()V"⟩
  | 69 => ⟨"MovingBoxes$Term", "parse", "([CI)V"⟩
  | 70 => ⟨"MovingBoxes$Term", "parseProcess", "(II)V"⟩
  | 71 => ⟨"MovingBoxes$Term", "parsePart", "(II)V"⟩
  | 72 => ⟨"MovingBoxes$Term", "peek", "()C"⟩
  | 73 => ⟨"MovingBoxes$Term", "skip", "(C)V"⟩
  | 74 => ⟨"MovingBoxes$Term", "parseMessage", "(I)V"⟩
  | 75 => ⟨"MovingBoxes$Term", "addNode", "(IZ)I"⟩
  | 76 => ⟨"MovingBoxes$Term", "parseName", "(I)C"⟩
  | 77 => ⟨"MovingBoxes$Term", "isLetter", "(C)Z"⟩
  | 78 => ⟨"MovingBoxes$Term", "bitOf", "(C)I"⟩
  | 79 => ⟨"MovingBoxes$Term", "parsePlace", "(II)V"⟩
  | 80 => ⟨"MovingBoxes$Term", "parseGuard", "(II)V"⟩
  | 81 => ⟨"MovingBoxes$Term", "parseLetter", "()C"⟩
  | 82 => ⟨"MovingBoxes$Term", "after", "(I)I"⟩
  | 83 => ⟨"MovingBoxes$Things", "<init>", "(I)V"⟩
  | 84 => ⟨"MovingBoxes$Things", "add", "(IIIII)Z"⟩
  | 85 => ⟨"MovingBoxes$Things", "indexOf", "(I)I"⟩
  | 86 => ⟨"MovingBoxes$Things", "copy", "(LMovingBoxes$Things;)V"⟩
  | 87 => ⟨"MovingBoxes$Things", "remove", "(I)V"⟩
  | 88 => ⟨"MovingBoxes$Things", "moveAll", "(II)V"⟩
  | 89 => ⟨"MovingBoxesModel", "<init>", "()V"⟩
  | 90 => ⟨"MovingBoxesModel", "alone", "()V"⟩
  | 91 => ⟨"MovingBoxesModel", "thrown", "()I"⟩
  | 92 => ⟨"MovingBoxesModel", "write", "(JI)I"⟩
  | 93 => ⟨"MovingBoxesModel", "within", "(III)Z"⟩
  | 94 => ⟨"MovingBoxesModel", "fail", "(I)I"⟩
  | 95 => ⟨"MovingBoxesModel", "erase", "()I"⟩
  | 96 => ⟨"MovingBoxesModel", "read", "()I"⟩
  | 97 => ⟨"MovingBoxesModel", "parse", "()V"⟩
  | 98 => ⟨"MovingBoxesModel", "push", "(III)V"⟩
  | 99 => ⟨"MovingBoxesModel", "part", "()Z"⟩
  | 100 => ⟨"MovingBoxesModel", "wrong", "(I)V"⟩
  | 101 => ⟨"MovingBoxesModel", "here", "()I"⟩
  | 102 => ⟨"MovingBoxesModel", "node", "(IZ)I"⟩
  | 103 => ⟨"MovingBoxesModel", "named", "()I"⟩
  | 104 => ⟨"MovingBoxesModel", "guardKind", "(I)I"⟩
  | 105 => ⟨"MovingBoxesModel", "guard", "(Z)V"⟩
  | 106 => ⟨"MovingBoxesModel", "expect", "(I)V"⟩
  | 107 => ⟨"MovingBoxesModel", "behind", "()Z"⟩
  | 108 => ⟨"MovingBoxesModel", "run", "(III)V"⟩
  | 109 => ⟨"MovingBoxesModel", "resolved", "(II)I"⟩
  | 110 => ⟨"MovingBoxesModel", "makePlace", "(II)I"⟩
  | 111 => ⟨"MovingBoxesModel", "makeMessage", "(II)V"⟩
  | 112 => ⟨"MovingBoxesModel", "makeGuard", "(III)V"⟩
  | 113 => ⟨"MovingBoxesModel", "describe", "()V"⟩
  | 114 => ⟨"MovingBoxesModel", "frame", "(IIII)V"⟩
  | 115 => ⟨"MovingBoxesModel", "placeStep", "(I)V"⟩
  | 116 => ⟨"MovingBoxesModel", "begin", "()V"⟩
  | 117 => ⟨"MovingBoxesModel", "letterOf", "(I)V"⟩
  | 118 => ⟨"MovingBoxesModel", "character", "(I)V"⟩
  | 119 => ⟨"MovingBoxesModel", "head", "()V"⟩
  | 120 => ⟨"MovingBoxesModel", "guardText", "(III)V"⟩
  | 121 => ⟨"MovingBoxesModel", "nameText", "(III)V"⟩
  | 122 => ⟨"MovingBoxesModel", "simple", "(III)V"⟩
  | 123 => ⟨"MovingBoxesModel", "join", "(II)V"⟩
  | 124 => ⟨"MovingBoxesModel", "before", "(II)Z"⟩
  | 125 => ⟨"MovingBoxesModel", "copied", "(II)I"⟩
  | 126 => ⟨"MovingBoxesModel", "partStep", "(I)V"⟩
  | 127 => ⟨"MovingBoxesModel", "settle", "()V"⟩
  | 128 => ⟨"MovingBoxesModel", "otherNumber", "(I)I"⟩
  | 129 => ⟨"MovingBoxesModel", "isRedex", "(II)Z"⟩
  | 130 => ⟨"MovingBoxesModel", "redexes", "()I"⟩
  | 131 => ⟨"MovingBoxesModel", "search", "(I)I"⟩
  | 132 => ⟨"MovingBoxesModel", "guardBehind", "(I)I"⟩
  | 133 => ⟨"MovingBoxesModel", "otherBehind", "(I)I"⟩
  | 134 => ⟨"MovingBoxesModel", "redex", "(II)I"⟩
  | 135 => ⟨"MovingBoxesModel", "take", "(I)I"⟩
  | 136 => ⟨"MovingBoxesModel", "step", "()Z"⟩
  | 137 => ⟨"MovingBoxesModel", "save", "(I)V"⟩
  | 138 => ⟨"MovingBoxesModel", "make", "()V"⟩
  | 139 => ⟨"MovingBoxesModel", "load", "(I)V"⟩
  | 140 => ⟨"MovingBoxesModel", "fair", "(I)I"⟩
  | 141 => ⟨"MovingBoxesModel", "count", "(I)I"⟩
  | 142 => ⟨"MovingBoxesModel", "letter", "(I)I"⟩
  | 143 => ⟨"MovingBoxesModel", "keep", "(I)I"⟩
  | 144 => ⟨"MovingBoxesModel", "eight", "(I)J"⟩
  | 145 => ⟨"MovingBoxesModel", "equal", "(I)Z"⟩
  | 146 => ⟨"MovingBoxesModel", "shows", "(II)Z"⟩
  | 147 => ⟨"MovingBoxesModel", "shape", "(II)Z"⟩
  | 148 => ⟨"MovingBoxesModel", "explore", "(III)I"⟩
  | 149 => ⟨"MovingBoxesModel", "find", "(III)V"⟩
  | 150 => ⟨"MovingBoxesModel", "explored", "(I)I"⟩
  | 151 => ⟨"MovingBoxesLaw", "write", "(LMovingBoxes;JI[J)I"⟩
  | 152 => ⟨"MovingBoxesLaw", "read", "(LMovingBoxes;[J)I"⟩
  | 153 => ⟨"MovingBoxesLaw", "redex", "(LMovingBoxes;II[J)I"⟩
  | 154 => ⟨"MovingBoxesLaw", "take", "(LMovingBoxes;I[J)I"⟩
  | 155 => ⟨"MovingBoxesLaw", "fair", "(LMovingBoxes;I[J)I"⟩
  | 156 => ⟨"MovingBoxesLaw", "count", "(LMovingBoxes;I[J)I"⟩
  | 157 => ⟨"MovingBoxesLaw", "letter", "(LMovingBoxes;I[J)I"⟩
  | 158 => ⟨"MovingBoxesLaw", "keep", "(LMovingBoxes;I[J)I"⟩
  | 159 => ⟨"MovingBoxesLaw", "equal", "(LMovingBoxes;I[J)I"⟩
  | 160 => ⟨"MovingBoxesLaw", "shows", "(LMovingBoxes;II[J)I"⟩
  | 161 => ⟨"MovingBoxesLaw", "explore", "(LMovingBoxes;III[J)I"⟩
  | 162 => ⟨"MovingBoxesLaw", "explored", "(LMovingBoxes;I[J)I"⟩
  | 163 => ⟨"java/lang/Math", "max", "(II)I"⟩
  | 164 => ⟨"java/lang/Math", "min", "(II)I"⟩
  | 165 => ⟨"java/lang/Integer", "compare", "(II)I"⟩
  | 166 => ⟨"java/lang/String", "indexOf", "(I)I"⟩
  | 167 => ⟨"java/lang/String", "indexOf", "(II)I"⟩
  | 168 => ⟨"java/lang/String", "isLatin1", "()Z"⟩
  | 169 => ⟨"java/lang/String", "length", "()I"⟩
  | 170 => ⟨"java/lang/String", "coder", "()B"⟩
  | 171 => ⟨"java/lang/String", "charAt", "(I)C"⟩
  | 172 => ⟨"java/lang/String", "checkIndex", "(II)V"⟩
  | 173 => ⟨"java/lang/StringLatin1", "indexOf", "([BIII)I"⟩
  | 174 => ⟨"java/lang/StringLatin1", "canEncode", "(I)Z"⟩
  | 175 => ⟨"java/lang/StringLatin1", "indexOfChar", "([BIII)I"⟩
  | 176 => ⟨"java/lang/StringLatin1", "charAt", "([BI)C"⟩
  | 177 => ⟨"jdk/internal/util/Preconditions", "checkIndex", "(IILjava/util/function/BiFunction;)I"⟩
  | 500 => ⟨"java/lang/Object", "<init>", "()V"⟩
  | 501 => ⟨"java/lang/System", "arraycopy", "(Ljava/lang/Object;ILjava/lang/Object;II)V"⟩
  | _ => x
def tStL : List Nat := [2, 0, 0, 0, 1, 1, 0, 1, 1, 0, 0, 0, 0, 0, 0, 0, 0, 1, 0, 0, 1, 0, 0, 2, 0, 0, 0, 0, 0, 2, 0, 0, 2, 0, 0, 0, 0, 0, 0, 0, 0, 0, 0, 0, 2, 0, 0, 0, 0, 0, 0, 0, 0, 0, 0, 0, 0, 2, 0, 0, 0, 0, 0, 0, 0, 0, 0, 0, 2, 0, 0, 0, 0, 0, 0, 0, 0, 1, 1, 0, 0, 0, 0, 2, 0, 0, 0, 0, 0, 2, 0, 0, 0, 1, 0, 0, 0, 0, 0, 0, 0, 0, 0, 0, 1, 0, 0, 0, 0, 0, 0, 0, 0, 0, 0, 0, 0, 0, 0, 0, 0, 0, 0, 0, 0, 0, 0, 0, 0, 0, 0, 0, 0, 0, 0, 0, 0, 0, 0, 0, 0, 0, 0, 0, 0, 0, 0, 0, 0, 0, 0, 1, 1, 1, 1, 1, 1, 1, 1, 1, 1, 1, 1, 1, 1, 1, 0, 0, 0, 0, 0, 0, 1, 1, 1, 1, 1, 1]
def tSt (j : Nat) : Nat := tStL.getD j 9
def tNaL : List Nat := [0, 0, 0, 2, 2, 2, 0, 2, 3, 0, 2, 1, 1, 1, 1, 1, 1, 1, 1, 2, 1, 3, 1, 0, 0, 4, 1, 2, 0, 0, 2, 1, 0, 0, 2, 2, 3, 2, 2, 2, 2, 3, 1, 0, 0, 0, 1, 6, 1, 4, 1, 3, 2, 1, 2, 1, 2, 0, 2, 4, 1, 2, 4, 4, 3, 2, 3, 2, 0, 2, 2, 2, 0, 1, 1, 2, 1, 1, 1, 2, 2, 0, 1, 1, 5, 1, 1, 1, 2, 0, 0, 0, 2, 3, 1, 0, 0, 0, 3, 0, 1, 0, 2, 0, 1, 1, 1, 0, 3, 2, 2, 2, 3, 0, 4, 1, 0, 1, 1, 0, 3, 3, 3, 2, 2, 2, 1, 0, 1, 2, 0, 1, 1, 1, 2, 1, 0, 1, 0, 1, 1, 1, 1, 1, 1, 1, 2, 2, 3, 3, 1, 4, 2, 4, 3, 3, 3, 3, 3, 3, 4, 5, 3, 2, 2, 2, 1, 2, 0, 0, 0, 1, 2, 4, 1, 4, 2, 3]
def tNa (j : Nat) : Nat := tNaL.getD j 0
def hdL : Nat → List (Nat × Nat × Nat × Nat) := fun j => match j with
  | 151 => [(0, 11, 14, 13), (0, 11, 18, 15)]
  | 152 => [(0, 8, 11, 13), (0, 8, 14, 15), (0, 8, 17, 21)]
  | 153 => [(0, 10, 13, 27)]
  | 154 => [(0, 9, 12, 27), (0, 9, 15, 21)]
  | 155 => [(0, 9, 12, 13), (0, 9, 15, 21)]
  | 156 => [(0, 9, 12, 27)]
  | 157 => [(0, 9, 12, 27)]
  | 158 => [(0, 9, 12, 27)]
  | 159 => [(0, 16, 19, 27), (0, 16, 22, 49)]
  | 160 => [(0, 17, 20, 13)]
  | 161 => [(0, 12, 15, 13)]
  | 162 => [(0, 9, 12, 27)]
  | _ => []
def cdW (j : Nat) : Cond := match hdL j with
  | [] => .code (yN j) (tBc j) (tMx j) (tRt j)
  | h :: t => .codeWith (yN j) (tBc j) (tMx j) (tRt j) (h :: t)
theorem ts_1 {w : Cond} (h : w ∈ tables_1_1) : w ∈ lw_tbl := List.mem_append_right _ (List.mem_append_left _ h)
theorem ts_2 {w : Cond} (h : w ∈ tables_1_2) : w ∈ lw_tbl := List.mem_append_right _ (List.mem_append_right _ (List.mem_append_left _ h))
theorem ts_3 {w : Cond} (h : w ∈ tables_1_3) : w ∈ lw_tbl := List.mem_append_right _ (List.mem_append_right _ (List.mem_append_right _ (List.mem_append_left _ h)))
theorem ts_4 {w : Cond} (h : w ∈ tables_1_4) : w ∈ lw_tbl := List.mem_append_right _ (List.mem_append_right _ (List.mem_append_right _ (List.mem_append_right _ (List.mem_append_left _ h))))
theorem ts_5 {w : Cond} (h : w ∈ tables_1_5) : w ∈ lw_tbl := List.mem_append_right _ (List.mem_append_right _ (List.mem_append_right _ (List.mem_append_right _ (List.mem_append_right _ (List.mem_append_left _ h)))))
theorem ts_6 {w : Cond} (h : w ∈ tables_1_6) : w ∈ lw_tbl := List.mem_append_right _ (List.mem_append_right _ (List.mem_append_right _ (List.mem_append_right _ (List.mem_append_right _ (List.mem_append_right _ h)))))
theorem cm_0 : cdW 0 ∈ lw_tbl := ts_1 (List.mem_of_getElem? (i := 30) rfl)
theorem cm_1 : cdW 1 ∈ lw_tbl := ts_2 (List.mem_of_getElem? (i := 73) rfl)
theorem cm_2 : cdW 2 ∈ lw_tbl := ts_2 (List.mem_of_getElem? (i := 77) rfl)
theorem cm_3 : cdW 3 ∈ lw_tbl := ts_2 (List.mem_of_getElem? (i := 86) rfl)
theorem cm_4 : cdW 4 ∈ lw_tbl := ts_2 (List.mem_of_getElem? (i := 89) rfl)
theorem cm_5 : cdW 5 ∈ lw_tbl := ts_2 (List.mem_of_getElem? (i := 92) rfl)
theorem cm_6 : cdW 6 ∈ lw_tbl := ts_2 (List.mem_of_getElem? (i := 180) rfl)
theorem cm_7 : cdW 7 ∈ lw_tbl := ts_3 (List.mem_of_getElem? (i := 101) rfl)
theorem cm_8 : cdW 8 ∈ lw_tbl := ts_3 (List.mem_of_getElem? (i := 142) rfl)
theorem cm_9 : cdW 9 ∈ lw_tbl := ts_3 (List.mem_of_getElem? (i := 210) rfl)
theorem cm_10 : cdW 10 ∈ lw_tbl := ts_4 (List.mem_of_getElem? (i := 17) rfl)
theorem cm_11 : cdW 11 ∈ lw_tbl := ts_4 (List.mem_of_getElem? (i := 43) rfl)
theorem cm_12 : cdW 12 ∈ lw_tbl := ts_4 (List.mem_of_getElem? (i := 47) rfl)
theorem cm_13 : cdW 13 ∈ lw_tbl := ts_4 (List.mem_of_getElem? (i := 99) rfl)
theorem cm_14 : cdW 14 ∈ lw_tbl := ts_4 (List.mem_of_getElem? (i := 110) rfl)
theorem cm_15 : cdW 15 ∈ lw_tbl := ts_4 (List.mem_of_getElem? (i := 117) rfl)
theorem cm_16 : cdW 16 ∈ lw_tbl := ts_4 (List.mem_of_getElem? (i := 124) rfl)
theorem cm_17 : cdW 17 ∈ lw_tbl := ts_4 (List.mem_of_getElem? (i := 127) rfl)
theorem cm_18 : cdW 18 ∈ lw_tbl := ts_4 (List.mem_of_getElem? (i := 136) rfl)
theorem cm_19 : cdW 19 ∈ lw_tbl := ts_4 (List.mem_of_getElem? (i := 162) rfl)
theorem cm_20 : cdW 20 ∈ lw_tbl := ts_4 (List.mem_of_getElem? (i := 165) rfl)
theorem cm_21 : cdW 21 ∈ lw_tbl := ts_4 (List.mem_of_getElem? (i := 176) rfl)
theorem cm_22 : cdW 22 ∈ lw_tbl := ts_4 (List.mem_of_getElem? (i := 202) rfl)
theorem cm_23 : cdW 23 ∈ lw_tbl := ts_1 (List.mem_of_getElem? (i := 238) rfl)
theorem cm_24 : cdW 24 ∈ lw_tbl := ts_2 (List.mem_of_getElem? (i := 188) rfl)
theorem cm_25 : cdW 25 ∈ lw_tbl := ts_4 (List.mem_of_getElem? (i := 180) rfl)
theorem cm_26 : cdW 26 ∈ lw_tbl := ts_4 (List.mem_of_getElem? (i := 189) rfl)
theorem cm_27 : cdW 27 ∈ lw_tbl := ts_4 (List.mem_of_getElem? (i := 194) rfl)
theorem cm_28 : cdW 28 ∈ lw_tbl := ts_4 (List.mem_of_getElem? (i := 206) rfl)
theorem cm_29 : cdW 29 ∈ lw_tbl := ts_1 (List.mem_of_getElem? (i := 157) rfl)
theorem cm_30 : cdW 30 ∈ lw_tbl := ts_3 (List.mem_of_getElem? (i := 188) rfl)
theorem cm_31 : cdW 31 ∈ lw_tbl := ts_4 (List.mem_of_getElem? (i := 155) rfl)
theorem cm_32 : cdW 32 ∈ lw_tbl := ts_1 (List.mem_of_getElem? (i := 206) rfl)
theorem cm_33 : cdW 33 ∈ lw_tbl := ts_2 (List.mem_of_getElem? (i := 184) rfl)
theorem cm_34 : cdW 34 ∈ lw_tbl := ts_3 (List.mem_of_getElem? (i := 214) rfl)
theorem cm_35 : cdW 35 ∈ lw_tbl := ts_3 (List.mem_of_getElem? (i := 218) rfl)
theorem cm_36 : cdW 36 ∈ lw_tbl := ts_3 (List.mem_of_getElem? (i := 226) rfl)
theorem cm_37 : cdW 37 ∈ lw_tbl := ts_3 (List.mem_of_getElem? (i := 230) rfl)
theorem cm_38 : cdW 38 ∈ lw_tbl := ts_3 (List.mem_of_getElem? (i := 234) rfl)
theorem cm_39 : cdW 39 ∈ lw_tbl := ts_3 (List.mem_of_getElem? (i := 238) rfl)
theorem cm_40 : cdW 40 ∈ lw_tbl := ts_4 (List.mem_of_getElem? (i := 2) rfl)
theorem cm_41 : cdW 41 ∈ lw_tbl := ts_4 (List.mem_of_getElem? (i := 6) rfl)
theorem cm_42 : cdW 42 ∈ lw_tbl := ts_4 (List.mem_of_getElem? (i := 21) rfl)
theorem cm_43 : cdW 43 ∈ lw_tbl := ts_4 (List.mem_of_getElem? (i := 103) rfl)
theorem cm_44 : cdW 44 ∈ lw_tbl := ts_1 (List.mem_of_getElem? (i := 109) rfl)
theorem cm_45 : cdW 45 ∈ lw_tbl := ts_2 (List.mem_of_getElem? (i := 35) rfl)
theorem cm_46 : cdW 46 ∈ lw_tbl := ts_3 (List.mem_of_getElem? (i := 93) rfl)
theorem cm_47 : cdW 47 ∈ lw_tbl := ts_3 (List.mem_of_getElem? (i := 98) rfl)
theorem cm_48 : cdW 48 ∈ lw_tbl := ts_3 (List.mem_of_getElem? (i := 105) rfl)
theorem cm_49 : cdW 49 ∈ lw_tbl := ts_4 (List.mem_of_getElem? (i := 51) rfl)
theorem cm_50 : cdW 50 ∈ lw_tbl := ts_4 (List.mem_of_getElem? (i := 55) rfl)
theorem cm_51 : cdW 51 ∈ lw_tbl := ts_4 (List.mem_of_getElem? (i := 67) rfl)
theorem cm_52 : cdW 52 ∈ lw_tbl := ts_4 (List.mem_of_getElem? (i := 75) rfl)
theorem cm_53 : cdW 53 ∈ lw_tbl := ts_4 (List.mem_of_getElem? (i := 79) rfl)
theorem cm_54 : cdW 54 ∈ lw_tbl := ts_4 (List.mem_of_getElem? (i := 83) rfl)
theorem cm_55 : cdW 55 ∈ lw_tbl := ts_4 (List.mem_of_getElem? (i := 91) rfl)
theorem cm_56 : cdW 56 ∈ lw_tbl := ts_4 (List.mem_of_getElem? (i := 169) rfl)
theorem cm_57 : cdW 57 ∈ lw_tbl := ts_1 (List.mem_of_getElem? (i := 81) rfl)
theorem cm_58 : cdW 58 ∈ lw_tbl := ts_3 (List.mem_of_getElem? (i := 118) rfl)
theorem cm_59 : cdW 59 ∈ lw_tbl := ts_3 (List.mem_of_getElem? (i := 122) rfl)
theorem cm_60 : cdW 60 ∈ lw_tbl := ts_3 (List.mem_of_getElem? (i := 126) rfl)
theorem cm_61 : cdW 61 ∈ lw_tbl := ts_3 (List.mem_of_getElem? (i := 130) rfl)
theorem cm_62 : cdW 62 ∈ lw_tbl := ts_3 (List.mem_of_getElem? (i := 134) rfl)
theorem cm_63 : cdW 63 ∈ lw_tbl := ts_3 (List.mem_of_getElem? (i := 139) rfl)
theorem cm_64 : cdW 64 ∈ lw_tbl := ts_3 (List.mem_of_getElem? (i := 146) rfl)
theorem cm_65 : cdW 65 ∈ lw_tbl := ts_3 (List.mem_of_getElem? (i := 150) rfl)
theorem cm_66 : cdW 66 ∈ lw_tbl := ts_3 (List.mem_of_getElem? (i := 177) rfl)
theorem cm_67 : cdW 67 ∈ lw_tbl := ts_3 (List.mem_of_getElem? (i := 181) rfl)
theorem cm_68 : cdW 68 ∈ lw_tbl := ts_1 (List.mem_of_getElem? (i := 38) rfl)
theorem cm_69 : cdW 69 ∈ lw_tbl := ts_2 (List.mem_of_getElem? (i := 192) rfl)
theorem cm_70 : cdW 70 ∈ lw_tbl := ts_2 (List.mem_of_getElem? (i := 196) rfl)
theorem cm_71 : cdW 71 ∈ lw_tbl := ts_2 (List.mem_of_getElem? (i := 200) rfl)
theorem cm_72 : cdW 72 ∈ lw_tbl := ts_2 (List.mem_of_getElem? (i := 206) rfl)
theorem cm_73 : cdW 73 ∈ lw_tbl := ts_2 (List.mem_of_getElem? (i := 210) rfl)
theorem cm_74 : cdW 74 ∈ lw_tbl := ts_2 (List.mem_of_getElem? (i := 216) rfl)
theorem cm_75 : cdW 75 ∈ lw_tbl := ts_2 (List.mem_of_getElem? (i := 220) rfl)
theorem cm_76 : cdW 76 ∈ lw_tbl := ts_2 (List.mem_of_getElem? (i := 224) rfl)
theorem cm_77 : cdW 77 ∈ lw_tbl := ts_2 (List.mem_of_getElem? (i := 227) rfl)
theorem cm_78 : cdW 78 ∈ lw_tbl := ts_2 (List.mem_of_getElem? (i := 230) rfl)
theorem cm_79 : cdW 79 ∈ lw_tbl := ts_2 (List.mem_of_getElem? (i := 234) rfl)
theorem cm_80 : cdW 80 ∈ lw_tbl := ts_2 (List.mem_of_getElem? (i := 238) rfl)
theorem cm_81 : cdW 81 ∈ lw_tbl := ts_3 (List.mem_of_getElem? (i := 89) rfl)
theorem cm_82 : cdW 82 ∈ lw_tbl := ts_3 (List.mem_of_getElem? (i := 113) rfl)
theorem cm_83 : cdW 83 ∈ lw_tbl := ts_1 (List.mem_of_getElem? (i := 115) rfl)
theorem cm_84 : cdW 84 ∈ lw_tbl := ts_3 (List.mem_of_getElem? (i := 109) rfl)
theorem cm_85 : cdW 85 ∈ lw_tbl := ts_3 (List.mem_of_getElem? (i := 222) rfl)
theorem cm_86 : cdW 86 ∈ lw_tbl := ts_4 (List.mem_of_getElem? (i := 59) rfl)
theorem cm_87 : cdW 87 ∈ lw_tbl := ts_4 (List.mem_of_getElem? (i := 71) rfl)
theorem cm_88 : cdW 88 ∈ lw_tbl := ts_4 (List.mem_of_getElem? (i := 87) rfl)
theorem cm_89 : cdW 89 ∈ lw_tbl := ts_4 (List.mem_of_getElem? (i := 211) rfl)
theorem cm_90 : cdW 90 ∈ lw_tbl := ts_4 (List.mem_of_getElem? (i := 216) rfl)
theorem cm_91 : cdW 91 ∈ lw_tbl := ts_5 (List.mem_of_getElem? (i := 183) rfl)
theorem cm_92 : cdW 92 ∈ lw_tbl := ts_5 (List.mem_of_getElem? (i := 187) rfl)
theorem cm_93 : cdW 93 ∈ lw_tbl := ts_5 (List.mem_of_getElem? (i := 190) rfl)
theorem cm_94 : cdW 94 ∈ lw_tbl := ts_5 (List.mem_of_getElem? (i := 194) rfl)
theorem cm_95 : cdW 95 ∈ lw_tbl := ts_5 (List.mem_of_getElem? (i := 199) rfl)
theorem cm_96 : cdW 96 ∈ lw_tbl := ts_5 (List.mem_of_getElem? (i := 203) rfl)
theorem cm_97 : cdW 97 ∈ lw_tbl := ts_5 (List.mem_of_getElem? (i := 207) rfl)
theorem cm_98 : cdW 98 ∈ lw_tbl := ts_5 (List.mem_of_getElem? (i := 211) rfl)
theorem cm_99 : cdW 99 ∈ lw_tbl := ts_5 (List.mem_of_getElem? (i := 215) rfl)
theorem cm_100 : cdW 100 ∈ lw_tbl := ts_5 (List.mem_of_getElem? (i := 219) rfl)
theorem cm_101 : cdW 101 ∈ lw_tbl := ts_5 (List.mem_of_getElem? (i := 223) rfl)
theorem cm_102 : cdW 102 ∈ lw_tbl := ts_5 (List.mem_of_getElem? (i := 227) rfl)
theorem cm_103 : cdW 103 ∈ lw_tbl := ts_5 (List.mem_of_getElem? (i := 231) rfl)
theorem cm_104 : cdW 104 ∈ lw_tbl := ts_5 (List.mem_of_getElem? (i := 234) rfl)
theorem cm_105 : cdW 105 ∈ lw_tbl := ts_5 (List.mem_of_getElem? (i := 238) rfl)
theorem cm_106 : cdW 106 ∈ lw_tbl := ts_6 (List.mem_of_getElem? (i := 2) rfl)
theorem cm_107 : cdW 107 ∈ lw_tbl := ts_6 (List.mem_of_getElem? (i := 6) rfl)
theorem cm_108 : cdW 108 ∈ lw_tbl := ts_6 (List.mem_of_getElem? (i := 10) rfl)
theorem cm_109 : cdW 109 ∈ lw_tbl := ts_6 (List.mem_of_getElem? (i := 14) rfl)
theorem cm_110 : cdW 110 ∈ lw_tbl := ts_6 (List.mem_of_getElem? (i := 18) rfl)
theorem cm_111 : cdW 111 ∈ lw_tbl := ts_6 (List.mem_of_getElem? (i := 22) rfl)
theorem cm_112 : cdW 112 ∈ lw_tbl := ts_6 (List.mem_of_getElem? (i := 26) rfl)
theorem cm_113 : cdW 113 ∈ lw_tbl := ts_6 (List.mem_of_getElem? (i := 30) rfl)
theorem cm_114 : cdW 114 ∈ lw_tbl := ts_6 (List.mem_of_getElem? (i := 34) rfl)
theorem cm_115 : cdW 115 ∈ lw_tbl := ts_6 (List.mem_of_getElem? (i := 38) rfl)
theorem cm_116 : cdW 116 ∈ lw_tbl := ts_6 (List.mem_of_getElem? (i := 42) rfl)
theorem cm_117 : cdW 117 ∈ lw_tbl := ts_6 (List.mem_of_getElem? (i := 46) rfl)
theorem cm_118 : cdW 118 ∈ lw_tbl := ts_6 (List.mem_of_getElem? (i := 50) rfl)
theorem cm_119 : cdW 119 ∈ lw_tbl := ts_6 (List.mem_of_getElem? (i := 54) rfl)
theorem cm_120 : cdW 120 ∈ lw_tbl := ts_6 (List.mem_of_getElem? (i := 58) rfl)
theorem cm_121 : cdW 121 ∈ lw_tbl := ts_6 (List.mem_of_getElem? (i := 62) rfl)
theorem cm_122 : cdW 122 ∈ lw_tbl := ts_6 (List.mem_of_getElem? (i := 66) rfl)
theorem cm_123 : cdW 123 ∈ lw_tbl := ts_6 (List.mem_of_getElem? (i := 70) rfl)
theorem cm_124 : cdW 124 ∈ lw_tbl := ts_6 (List.mem_of_getElem? (i := 74) rfl)
theorem cm_125 : cdW 125 ∈ lw_tbl := ts_6 (List.mem_of_getElem? (i := 78) rfl)
theorem cm_126 : cdW 126 ∈ lw_tbl := ts_6 (List.mem_of_getElem? (i := 82) rfl)
theorem cm_127 : cdW 127 ∈ lw_tbl := ts_6 (List.mem_of_getElem? (i := 86) rfl)
theorem cm_128 : cdW 128 ∈ lw_tbl := ts_6 (List.mem_of_getElem? (i := 90) rfl)
theorem cm_129 : cdW 129 ∈ lw_tbl := ts_6 (List.mem_of_getElem? (i := 94) rfl)
theorem cm_130 : cdW 130 ∈ lw_tbl := ts_6 (List.mem_of_getElem? (i := 98) rfl)
theorem cm_131 : cdW 131 ∈ lw_tbl := ts_6 (List.mem_of_getElem? (i := 102) rfl)
theorem cm_132 : cdW 132 ∈ lw_tbl := ts_6 (List.mem_of_getElem? (i := 106) rfl)
theorem cm_133 : cdW 133 ∈ lw_tbl := ts_6 (List.mem_of_getElem? (i := 110) rfl)
theorem cm_134 : cdW 134 ∈ lw_tbl := ts_6 (List.mem_of_getElem? (i := 114) rfl)
theorem cm_135 : cdW 135 ∈ lw_tbl := ts_6 (List.mem_of_getElem? (i := 118) rfl)
theorem cm_136 : cdW 136 ∈ lw_tbl := ts_6 (List.mem_of_getElem? (i := 122) rfl)
theorem cm_137 : cdW 137 ∈ lw_tbl := ts_6 (List.mem_of_getElem? (i := 126) rfl)
theorem cm_138 : cdW 138 ∈ lw_tbl := ts_6 (List.mem_of_getElem? (i := 130) rfl)
theorem cm_139 : cdW 139 ∈ lw_tbl := ts_6 (List.mem_of_getElem? (i := 134) rfl)
theorem cm_140 : cdW 140 ∈ lw_tbl := ts_6 (List.mem_of_getElem? (i := 138) rfl)
theorem cm_141 : cdW 141 ∈ lw_tbl := ts_6 (List.mem_of_getElem? (i := 142) rfl)
theorem cm_142 : cdW 142 ∈ lw_tbl := ts_6 (List.mem_of_getElem? (i := 146) rfl)
theorem cm_143 : cdW 143 ∈ lw_tbl := ts_6 (List.mem_of_getElem? (i := 150) rfl)
theorem cm_144 : cdW 144 ∈ lw_tbl := ts_6 (List.mem_of_getElem? (i := 154) rfl)
theorem cm_145 : cdW 145 ∈ lw_tbl := ts_6 (List.mem_of_getElem? (i := 158) rfl)
theorem cm_146 : cdW 146 ∈ lw_tbl := ts_6 (List.mem_of_getElem? (i := 162) rfl)
theorem cm_147 : cdW 147 ∈ lw_tbl := ts_6 (List.mem_of_getElem? (i := 166) rfl)
theorem cm_148 : cdW 148 ∈ lw_tbl := ts_6 (List.mem_of_getElem? (i := 170) rfl)
theorem cm_149 : cdW 149 ∈ lw_tbl := ts_6 (List.mem_of_getElem? (i := 174) rfl)
theorem cm_150 : cdW 150 ∈ lw_tbl := ts_6 (List.mem_of_getElem? (i := 178) rfl)
theorem cm_151 : cdW 151 ∈ lw_tbl := ts_2 (List.mem_of_getElem? (i := 80) rfl)
theorem cm_152 : cdW 152 ∈ lw_tbl := ts_2 (List.mem_of_getElem? (i := 175) rfl)
theorem cm_153 : cdW 153 ∈ lw_tbl := ts_4 (List.mem_of_getElem? (i := 12) rfl)
theorem cm_154 : cdW 154 ∈ lw_tbl := ts_4 (List.mem_of_getElem? (i := 39) rfl)
theorem cm_155 : cdW 155 ∈ lw_tbl := ts_4 (List.mem_of_getElem? (i := 95) rfl)
theorem cm_156 : cdW 156 ∈ lw_tbl := ts_4 (List.mem_of_getElem? (i := 106) rfl)
theorem cm_157 : cdW 157 ∈ lw_tbl := ts_4 (List.mem_of_getElem? (i := 113) rfl)
theorem cm_158 : cdW 158 ∈ lw_tbl := ts_4 (List.mem_of_getElem? (i := 120) rfl)
theorem cm_159 : cdW 159 ∈ lw_tbl := ts_4 (List.mem_of_getElem? (i := 131) rfl)
theorem cm_160 : cdW 160 ∈ lw_tbl := ts_4 (List.mem_of_getElem? (i := 158) rfl)
theorem cm_161 : cdW 161 ∈ lw_tbl := ts_4 (List.mem_of_getElem? (i := 172) rfl)
theorem cm_162 : cdW 162 ∈ lw_tbl := ts_4 (List.mem_of_getElem? (i := 198) rfl)
theorem cm_163 : cdW 163 ∈ lw_tbl := ts_3 (List.mem_of_getElem? (i := 30) rfl)
theorem cm_164 : cdW 164 ∈ lw_tbl := ts_3 (List.mem_of_getElem? (i := 33) rfl)
theorem cm_165 : cdW 165 ∈ lw_tbl := ts_4 (List.mem_of_getElem? (i := 9) rfl)
theorem cm_166 : cdW 166 ∈ lw_tbl := ts_3 (List.mem_of_getElem? (i := 3) rfl)
theorem cm_167 : cdW 167 ∈ lw_tbl := ts_3 (List.mem_of_getElem? (i := 7) rfl)
theorem cm_168 : cdW 168 ∈ lw_tbl := ts_3 (List.mem_of_getElem? (i := 11) rfl)
theorem cm_169 : cdW 169 ∈ lw_tbl := ts_3 (List.mem_of_getElem? (i := 17) rfl)
theorem cm_170 : cdW 170 ∈ lw_tbl := ts_3 (List.mem_of_getElem? (i := 21) rfl)
theorem cm_171 : cdW 171 ∈ lw_tbl := ts_3 (List.mem_of_getElem? (i := 156) rfl)
theorem cm_172 : cdW 172 ∈ lw_tbl := ts_3 (List.mem_of_getElem? (i := 162) rfl)
theorem cm_173 : cdW 173 ∈ lw_tbl := ts_3 (List.mem_of_getElem? (i := 24) rfl)
theorem cm_174 : cdW 174 ∈ lw_tbl := ts_3 (List.mem_of_getElem? (i := 27) rfl)
theorem cm_175 : cdW 175 ∈ lw_tbl := ts_3 (List.mem_of_getElem? (i := 36) rfl)
theorem cm_176 : cdW 176 ∈ lw_tbl := ts_3 (List.mem_of_getElem? (i := 159) rfl)
theorem cm_177 : cdW 177 ∈ lw_tbl := ts_3 (List.mem_of_getElem? (i := 165) rfl)
end
section
/-! The words of the methods and of their calls, gathered. Written by wip/whole/gen/mk06.py. -/
theorem code_ok : ∀ j, j < 178 → cdW j ∈ lw_tbl := fun j h => match j, h with
  | 0, _ => cm_0
  | 1, _ => cm_1
  | 2, _ => cm_2
  | 3, _ => cm_3
  | 4, _ => cm_4
  | 5, _ => cm_5
  | 6, _ => cm_6
  | 7, _ => cm_7
  | 8, _ => cm_8
  | 9, _ => cm_9
  | 10, _ => cm_10
  | 11, _ => cm_11
  | 12, _ => cm_12
  | 13, _ => cm_13
  | 14, _ => cm_14
  | 15, _ => cm_15
  | 16, _ => cm_16
  | 17, _ => cm_17
  | 18, _ => cm_18
  | 19, _ => cm_19
  | 20, _ => cm_20
  | 21, _ => cm_21
  | 22, _ => cm_22
  | 23, _ => cm_23
  | 24, _ => cm_24
  | 25, _ => cm_25
  | 26, _ => cm_26
  | 27, _ => cm_27
  | 28, _ => cm_28
  | 29, _ => cm_29
  | 30, _ => cm_30
  | 31, _ => cm_31
  | 32, _ => cm_32
  | 33, _ => cm_33
  | 34, _ => cm_34
  | 35, _ => cm_35
  | 36, _ => cm_36
  | 37, _ => cm_37
  | 38, _ => cm_38
  | 39, _ => cm_39
  | 40, _ => cm_40
  | 41, _ => cm_41
  | 42, _ => cm_42
  | 43, _ => cm_43
  | 44, _ => cm_44
  | 45, _ => cm_45
  | 46, _ => cm_46
  | 47, _ => cm_47
  | 48, _ => cm_48
  | 49, _ => cm_49
  | 50, _ => cm_50
  | 51, _ => cm_51
  | 52, _ => cm_52
  | 53, _ => cm_53
  | 54, _ => cm_54
  | 55, _ => cm_55
  | 56, _ => cm_56
  | 57, _ => cm_57
  | 58, _ => cm_58
  | 59, _ => cm_59
  | 60, _ => cm_60
  | 61, _ => cm_61
  | 62, _ => cm_62
  | 63, _ => cm_63
  | 64, _ => cm_64
  | 65, _ => cm_65
  | 66, _ => cm_66
  | 67, _ => cm_67
  | 68, _ => cm_68
  | 69, _ => cm_69
  | 70, _ => cm_70
  | 71, _ => cm_71
  | 72, _ => cm_72
  | 73, _ => cm_73
  | 74, _ => cm_74
  | 75, _ => cm_75
  | 76, _ => cm_76
  | 77, _ => cm_77
  | 78, _ => cm_78
  | 79, _ => cm_79
  | 80, _ => cm_80
  | 81, _ => cm_81
  | 82, _ => cm_82
  | 83, _ => cm_83
  | 84, _ => cm_84
  | 85, _ => cm_85
  | 86, _ => cm_86
  | 87, _ => cm_87
  | 88, _ => cm_88
  | 89, _ => cm_89
  | 90, _ => cm_90
  | 91, _ => cm_91
  | 92, _ => cm_92
  | 93, _ => cm_93
  | 94, _ => cm_94
  | 95, _ => cm_95
  | 96, _ => cm_96
  | 97, _ => cm_97
  | 98, _ => cm_98
  | 99, _ => cm_99
  | 100, _ => cm_100
  | 101, _ => cm_101
  | 102, _ => cm_102
  | 103, _ => cm_103
  | 104, _ => cm_104
  | 105, _ => cm_105
  | 106, _ => cm_106
  | 107, _ => cm_107
  | 108, _ => cm_108
  | 109, _ => cm_109
  | 110, _ => cm_110
  | 111, _ => cm_111
  | 112, _ => cm_112
  | 113, _ => cm_113
  | 114, _ => cm_114
  | 115, _ => cm_115
  | 116, _ => cm_116
  | 117, _ => cm_117
  | 118, _ => cm_118
  | 119, _ => cm_119
  | 120, _ => cm_120
  | 121, _ => cm_121
  | 122, _ => cm_122
  | 123, _ => cm_123
  | 124, _ => cm_124
  | 125, _ => cm_125
  | 126, _ => cm_126
  | 127, _ => cm_127
  | 128, _ => cm_128
  | 129, _ => cm_129
  | 130, _ => cm_130
  | 131, _ => cm_131
  | 132, _ => cm_132
  | 133, _ => cm_133
  | 134, _ => cm_134
  | 135, _ => cm_135
  | 136, _ => cm_136
  | 137, _ => cm_137
  | 138, _ => cm_138
  | 139, _ => cm_139
  | 140, _ => cm_140
  | 141, _ => cm_141
  | 142, _ => cm_142
  | 143, _ => cm_143
  | 144, _ => cm_144
  | 145, _ => cm_145
  | 146, _ => cm_146
  | 147, _ => cm_147
  | 148, _ => cm_148
  | 149, _ => cm_149
  | 150, _ => cm_150
  | 151, _ => cm_151
  | 152, _ => cm_152
  | 153, _ => cm_153
  | 154, _ => cm_154
  | 155, _ => cm_155
  | 156, _ => cm_156
  | 157, _ => cm_157
  | 158, _ => cm_158
  | 159, _ => cm_159
  | 160, _ => cm_160
  | 161, _ => cm_161
  | 162, _ => cm_162
  | 163, _ => cm_163
  | 164, _ => cm_164
  | 165, _ => cm_165
  | 166, _ => cm_166
  | 167, _ => cm_167
  | 168, _ => cm_168
  | 169, _ => cm_169
  | 170, _ => cm_170
  | 171, _ => cm_171
  | 172, _ => cm_172
  | 173, _ => cm_173
  | 174, _ => cm_174
  | 175, _ => cm_175
  | 176, _ => cm_176
  | 177, _ => cm_177
  | n + 178, h => absurd h (by omega)
def siP : List (Nat × Nat) := [(29, 0), (311, 392), (315, 396), (324, 405), (328, 0), (331, 0), (418, 499), (580, 0), (621, 0), (689, 22), (735, 816), (761, 842), (766, 29), (817, 898), (828, 909), (835, 916), (842, 923), (846, 0), (854, 935), (880, 961), (884, 0), (894, 975), (920, 1001), (237, 0), (426, 507), (898, 979), (908, 35), (912, 993), (924, 1005), (156, 0), (666, 747), (873, 954), (205, 0), (422, 503), (692, 773), (697, 23), (705, 24), (709, 25), (713, 26), (717, 27), (720, 801), (725, 28), (739, 820), (821, 902), (108, 0), (273, 354), (571, 652), (577, 11), (584, 12), (769, 850), (773, 854), (786, 30), (794, 31), (798, 32), (802, 33), (810, 34), (887, 968), (80, 0), (596, 677), (601, 13), (605, 14), (609, 15), (613, 16), (618, 17), (625, 18), (629, 19), (656, 20), (660, 21), (37, 0), (430, 511), (435, 1), (439, 2), (445, 3), (449, 4), (455, 5), (459, 6), (463, 7), (466, 0), (469, 0), (473, 8), (477, 9), (568, 10), (591, 672), (114, 0), (587, 668), (700, 781), (777, 858), (789, 870), (805, 886), (930, 0), (935, 36), (1141, 1222), (1145, 1226), (1149, 0), (1153, 37), (1157, 1238), (1161, 1242), (1166, 38), (1170, 39), (1174, 40), (1178, 41), (1182, 42), (1186, 43), (1190, 44), (1193, 0), (1197, 45), (1201, 46), (1205, 47), (1209, 48), (1213, 49), (1217, 50), (1221, 51), (1225, 52), (1229, 53), (1233, 54), (1237, 55), (1241, 56), (1245, 57), (1249, 58), (1253, 59), (1257, 60), (1261, 61), (1265, 62), (1269, 63), (1273, 64), (1277, 65), (1281, 66), (1285, 67), (1289, 68), (1293, 69), (1296, 1377), (1301, 70), (1305, 71), (1309, 72), (1312, 1393), (1316, 1397), (1321, 73), (1325, 74), (1329, 75), (1333, 76), (1336, 1417), (1340, 1421), (1344, 1425), (1348, 1429), (1353, 77), (1356, 1437), (1360, 1441), (1365, 78), (1368, 1449), (1373, 79), (1376, 1457), (319, 0), (414, 0), (731, 0), (758, 0), (814, 0), (825, 0), (832, 0), (839, 0), (850, 0), (877, 0), (891, 0), (917, 0), (509, 0), (512, 0), (728, 0), (481, 562), (485, 566), (489, 570), (495, 576), (499, 580), (634, 715), (641, 0), (503, 0), (506, 0), (515, 0), (638, 0), (644, 0)]
theorem si_ok : ∀ j, j < 178 → (tSt j = 1 → tables_1[(siP.getD j (0, 0)).1]? = some (.static (yN j))) ∧ (tSt j ≠ 1 → tables_1[(siP.getD j (0, 0)).1]? = some (.instanceMethod (yN j))) ∧ (tSt j = 0 → lw_tbl[(siP.getD j (0, 0)).2]? = some (.selects (yN j).cls (yN j) (yN j))) := by decide +kernel
theorem nm_1 : ∀ j, j < 178 → (yN j).cls ≠ "java/lang/invoke/MethodHandle" ∧ (yN j).cls ≠ "java/lang/invoke/VarHandle" := by decide +kernel
theorem nm_3 : ∀ j, j < 178 → tOw j < 10 → plainName (yN j).cls = true := by decide +kernel
theorem nm_3_163 : plainFor (yN 163) = true := by decide +kernel
theorem nm_3_164 : plainFor (yN 164) = true := by decide +kernel
theorem nm_3_165 : plainFor (yN 165) = true := by decide +kernel
theorem nm_3_166 : plainFor (yN 166) = true := by decide +kernel
theorem nm_3_167 : plainFor (yN 167) = true := by decide +kernel
theorem nm_3_168 : plainFor (yN 168) = true := by decide +kernel
theorem nm_3_169 : plainFor (yN 169) = true := by decide +kernel
theorem nm_3_170 : plainFor (yN 170) = true := by decide +kernel
theorem nm_3_171 : plainFor (yN 171) = true := by decide +kernel
theorem nm_3_172 : plainFor (yN 172) = true := by decide +kernel
theorem nm_3_173 : plainFor (yN 173) = true := by decide +kernel
theorem nm_3_174 : plainFor (yN 174) = true := by decide +kernel
theorem nm_3_175 : plainFor (yN 175) = true := by decide +kernel
theorem nm_3_176 : plainFor (yN 176) = true := by decide +kernel
theorem nm_3_177 : plainFor (yN 177) = true := by decide +kernel
theorem nm_4 : ∀ j, j < 178 → (tSt j = 2 → (yN j).name = "<init>") ∧ (tIni j = 1 → (yN j).name = "<init>") := by decide +kernel
theorem nm_5 : ∀ j, j < 178 → (yN j).cls = cNm (tOw j) := by decide +kernel
theorem nm_6 : ∀ j, j < 178 → tOw j < 15 ∧ tSt j < 3 := by decide +kernel
theorem nm_2 : ∀ j, j < 178 → (parseMethodDescriptor (yN j).desc).map (fun d => d.parameters.length) = some (tNa j) := by decide +kernel
theorem tMx_le : ∀ j, j < 179 → tMx j ≤ 30 := by decide +kernel
def lmP : List (Nat × Bool) := [(31, false), (36, true), (79, true), (107, true), (204, true), (236, false), (271, true), (272, false), (327, false), (330, false), (421, false), (425, false), (429, false), (570, false), (595, false), (687, false), (738, false), (764, false), (820, false), (845, false), (848, false), (872, false), (883, false), (886, false), (897, false), (911, false), (923, false), (768, false), (691, false), (719, false), (239, false), (243, true), (244, true), (901, false), (902, false), (903, false), (904, false), (905, false), (906, false), (910, false), (915, false), (158, false), (669, false), (670, false), (207, false), (695, false), (707, false), (711, false), (715, false), (699, false), (703, false), (723, false), (727, false), (110, false), (113, false), (155, true), (776, false), (782, false), (574, false), (575, false), (772, false), (783, false), (784, false), (788, false), (792, false), (796, false), (800, false), (808, false), (812, true), (590, false), (804, false), (579, true), (582, false), (586, false), (82, false), (599, false), (665, false), (603, false), (607, false), (616, false), (654, false), (620, true), (623, false), (653, false), (627, false), (633, false), (631, true), (611, false), (615, false), (658, false), (662, false), (39, false), (594, false), (433, false), (437, false), (443, false), (447, false), (453, false), (471, false), (475, false), (457, false), (461, false), (480, false), (566, false), (468, false), (465, false), (116, false), (780, false), (781, false), (932, false), (933, false), (1148, false), (1151, false), (1176, false), (1180, false), (1192, false), (1184, false), (1188, false), (1199, false), (1168, false), (1195, false), (1172, false), (1203, false), (1211, false), (1215, false), (1219, false), (1223, false), (1247, false), (1271, false), (1275, false), (1239, false), (1243, false), (1259, false), (1251, false), (1231, false), (1255, false), (1263, false), (1267, false), (1235, false), (1279, false), (1287, false), (1303, false), (1307, false), (1291, false), (1207, false), (1227, false), (1164, false), (1283, false), (1323, false), (1327, false), (1331, false), (1299, false), (1319, false), (1351, false), (1363, false), (1371, false), (323, false), (417, false), (734, false), (760, false), (816, false), (827, false), (834, false), (841, false), (853, false), (879, false), (893, false), (919, false), (28, false), (929, false), (318, false), (1144, false), (1140, false), (310, false), (1156, false), (413, false), (1160, false), (314, false), (1295, false), (730, false), (1311, false), (757, false), (1315, false), (813, false), (1335, false), (824, false), (1339, false), (831, false), (1343, false), (838, false), (1347, false), (849, false), (1355, false), (876, false), (1359, false), (890, false), (1367, false), (916, false), (1375, false), (498, false), (488, false), (637, false), (494, false), (484, false), (502, false), (643, false), (640, false), (511, false), (505, false), (508, false), (514, false)]
def lmC (q : (Nat × (Nat × (Nat × Nat))) × (Nat × Bool)) : Bool :=
  (decide (500 ≤ q.1.2.2.1 ∧ q.1.2.2.1 < 502) || (decide (q.1.2.2.1 < 178) && (q.1.2.2.2 == tNa q.1.2.2.1 + (if tSt q.1.2.2.1 = 1 then 0 else 1)))) &&
  (if q.2.2 = true then decide (tables_1[q.2.1]? = some (.methodLinkNest (cNm q.1.1) q.1.2.1 (yN q.1.2.2.1) "MovingBoxes")) else decide (tables_1[q.2.1]? = some (.methodLink (cNm q.1.1) q.1.2.1 (yN q.1.2.2.1))))
theorem lm_all : (tLmL.zip lmP).all lmC = true := by decide +kernel
theorem lm_ok {o k j n : Nat} (h : tLm o k = some (j, n)) : ((500 ≤ j ∧ j < 502) ∨ (j < 178 ∧ n = tNa j + (if tSt j = 1 then 0 else 1))) ∧ (Cond.methodLinkNest (cNm o) k (yN j) "MovingBoxes" ∈ lw_tbl ∨ Cond.methodLink (cNm o) k (yN j) ∈ lw_tbl) := by
  obtain ⟨y, hy⟩ := zip_all lm_all rfl (lk2_mem h)
  simp only [lmC, Bool.and_eq_true, Bool.or_eq_true, decide_eq_true_eq, beq_iff_eq] at hy
  refine ⟨hy.1, ?_⟩
  have h4 := hy.2
  split at h4
  · exact Or.inl (tm (of_decide_eq_true h4))
  · exact Or.inr (tm (of_decide_eq_true h4))
end
section
/-! A small machine over a flat memory (ints as integers in range, longs, references; shapes; the heap's size; slots made): what an instruction does, what a run is, and rules for it. Nothing here speaks of the JVM but decode and Instr. -/
abbrev Vl : Type := Int ⊕ (Int64 ⊕ Option Nat)
abbrev vI (x : Int) : Vl := Sum.inl x
abbrev vL (x : Int64) : Vl := Sum.inr (Sum.inl x)
abbrev vR (a : Nat) : Vl := Sum.inr (Sum.inr (some a))
abbrev vF (r : Option Nat) : Vl := Sum.inr (Sum.inr r)
/-- ints, longs, references by (cell, place); shapes (kind, length); the heap's size; slots made -/
abbrev Mm : Type := (Nat → Nat → Int) × ((Nat → Nat → Int64) × ((Nat → Nat → Option Nat) × ((Nat → Option (Nat × Nat)) × (Nat × Nat))))
def mI (u : Mm) : Nat → Nat → Int := u.1
def mL (u : Mm) : Nat → Nat → Int64 := u.2.1
def mF (u : Mm) : Nat → Nat → Option Nat := u.2.2.1
def mS (u : Mm) : Nat → Option (Nat × Nat) := u.2.2.2.1
def mT (u : Mm) : Nat := u.2.2.2.2.1
def mU (u : Mm) : Nat := u.2.2.2.2.2
def sI (u : Mm) (g : Nat → Nat → Int) : Mm := (g, u.2)
def sL (u : Mm) (g : Nat → Nat → Int64) : Mm := (u.1, (g, u.2.2))
def sF (u : Mm) (g : Nat → Nat → Option Nat) : Mm := (u.1, (u.2.1, (g, u.2.2.2)))
def u1 {α : Type} (f : Nat → α) (i : Nat) (x : α) : Nat → α := fun k => if k = i then x else f k
def u2 {α : Type} (f : Nat → Nat → α) (a i : Nat) (x : α) : Nat → Nat → α := fun b => if b = a then u1 (f a) i x else f b
theorem u1_eq {α : Type} {f : Nat → α} {i : Nat} {x : α} : u1 f i x i = x := if_pos rfl
theorem u1_ne {α : Type} {f : Nat → α} {i k : Nat} {x : α} (h : k ≠ i) : u1 f i x k = f k := if_neg h
theorem u2_ne {α : Type} {f : Nat → Nat → α} {a b i : Nat} {x : α} (h : b ≠ a) : u2 f a i x b = f b := if_neg h
theorem u2_eq {α : Type} {f : Nat → Nat → α} {a i : Nat} {x : α} : u2 f a i x a = u1 (f a) i x := if_pos rfl
theorem u2_at {α : Type} {f : Nat → Nat → α} {a i : Nat} {x : α} : u2 f a i x a i = x := by rw [u2_eq, u1_eq]
theorem u2_ni {α : Type} {f : Nat → Nat → α} {a i k : Nat} {x : α} (h : k ≠ i) : u2 f a i x a k = f a k := by rw [u2_eq, u1_ne h]
/-- a new cell of kind k and length n -/
def mNew (u : Mm) (k n : Nat) : Mm :=
  ((fun b => if b = mT u then (fun _ => 0) else mI u b), ((fun b => if b = mT u then (fun _ => 0) else mL u b), ((fun b => if b = mT u then (fun _ => none) else mF u b),
    ((fun b => if b = mT u then some (k, n) else mS u b), (mT u + 1, mU u + n)))))
/-- a new cell that the memory does not look into -/
def mHole (u : Mm) (n : Nat) : Mm := (u.1, (u.2.1, (u.2.2.1, ((fun b => if b = mT u then none else mS u b), (mT u + 1, mU u + n)))))
def inR (x : Int) : Prop := -2147483648 ≤ x ∧ x ≤ 2147483647
/-- an int's value out of any integer -/
def wr (x : Int) : Int := (Int32.ofInt x).toInt
def bI (f : Int32 → Int32 → Int32) (x y : Int) : Int := (f (Int32.ofInt x) (Int32.ofInt y)).toInt
theorem wr_in {x : Int} (h : inR x) : wr x = x := by
  unfold wr
  rw [Int32.toInt_ofInt]
  unfold inR at h
  have h2 : Int32.size = 4294967296 := rfl
  rw [h2]
  apply Int.bmod_eq_of_le <;> omega
/-- what is not in the tables: where the text of the signs lies, and its bytes; a static of the JDK's; the script: its cell, its length, its ints -/
abbrev Pg : Type := Nat × (Nat × (Option Nat × (Nat × (Nat × (Nat → Int)))))
abbrev pBc (_ : Pg) : Nat → ByteArray := tBc
abbrev pMx (_ : Pg) : Nat → Nat := tMx
abbrev pOw (_ : Pg) : Nat → Nat := tOw
abbrev pLf (_ : Pg) : Nat → Nat → Option (Nat × (Nat × Nat)) := tLf
abbrev pLm (_ : Pg) : Nat → Nat → Option (Nat × Nat) := tLm
abbrev pLc (_ : Pg) : Nat → Nat → Option (Nat × Nat) := tLc
abbrev pLa (_ : Pg) : Nat → Nat → Option Nat := tLa
abbrev pLl (_ : Pg) : Nat → Nat → Option Int64 := tLl
abbrev pLs (_ : Pg) : Nat → Nat → Option Nat := tLs
abbrev pLx (_ : Pg) : Nat → Nat → Option (Nat × Nat) := tLx
abbrev pKd (_ : Pg) : Nat → Nat := tKd
abbrev pHs (_ : Pg) : Nat → List (Nat × (Nat × (Nat × Nat))) := tHs
abbrev pSg (P : Pg) : Nat := P.1
abbrev pSv (P : Pg) : Nat := P.2.1
abbrev pFm (P : Pg) : Option Nat := P.2.2.1
abbrev pB (P : Pg) : Nat := P.2.2.2.1
abbrev pLn (P : Pg) : Nat := P.2.2.2.2.1
abbrev pX (P : Pg) : Nat → Int := P.2.2.2.2.2
abbrev Ls : Type := List (Option Vl)
abbrev Fr : Type := Nat × (Ls × List Vl)
def isLg : Option Vl → Bool
  | some (.inr (.inl _)) => true
  | _ => false
def lClr (ls : Ls) (i : Nat) : Ls := match i with
  | 0 => ls
  | k + 1 => if isLg (ls.getD k none) = true then ls.set k none else ls
def lPut (ls : Ls) (i : Nat) (v : Vl) : Option Ls :=
  if isLg (some v) = true then (if i + 1 < ls.length then some (((lClr ls i).set i (some v)).set (i + 1) none) else none)
  else (if i < ls.length then some ((lClr ls i).set i (some v)) else none)
def cat (v : Vl) : Nat := if isLg (some v) = true then 2 else 1
def tgt (pc : Nat) (off : Int) : Option Nat := if 0 ≤ (pc : Int) + off then some ((pc : Int) + off).toNat else none
def cmpI (c : ClassFile.Cond) (x y : Int) : Bool := match c with
  | .eq => x == y
  | .ne => x != y
  | .lt => decide (x < y)
  | .ge => decide (y ≤ x)
  | .gt => decide (y < x)
  | .le => decide (x ≤ y)
def tsw (d lo hi : Int) (offs : Array Int) (x : Int) : Option Int := if x < lo ∨ hi < x then some d else offs[(x - lo).toNat]?
/-- go on behind an instruction -/
def goS (n pc : Nat) (ls : Ls) (u : Mm) (o : Option (List Vl)) : Option (Fr × Mm) := match o with
  | some st => some ((pc + n, (ls, st)), u)
  | none => none
def goL (n pc : Nat) (st : List Vl) (u : Mm) (o : Option Ls) : Option (Fr × Mm) := match o with
  | some ls => some ((pc + n, (ls, st)), u)
  | none => none
def goP (ls : Ls) (st : List Vl) (u : Mm) (o : Option Nat) : Option (Fr × Mm) := match o with
  | some pc => some ((pc, (ls, st)), u)
  | none => none
def kI2 (f : Int → Int → Int) : List Vl → Option (List Vl)
  | .inl y :: .inl x :: st => some (.inl (f x y) :: st)
  | _ => none
def kL2 (f : Int64 → Int64 → Int64) : List Vl → Option (List Vl)
  | .inr (.inl y) :: .inr (.inl x) :: st => some (.inr (.inl (f x y)) :: st)
  | _ => none
def kLI (f : Int64 → Int32 → Int64) : List Vl → Option (List Vl)
  | .inl y :: .inr (.inl x) :: st => some (.inr (.inl (f x (Int32.ofInt y))) :: st)
  | _ => none
def kLc : List Vl → Option (List Vl)
  | .inr (.inl y) :: .inr (.inl x) :: st => some (.inl (lg_cmp x y).toInt :: st)
  | _ => none
def kI1 (f : Int → Int) : List Vl → Option (List Vl)
  | .inl x :: st => some (.inl (f x) :: st)
  | _ => none
def kIL : List Vl → Option (List Vl)
  | .inl x :: st => some (.inr (.inl (Int32.ofInt x).toInt64) :: st)
  | _ => none
def kLi : List Vl → Option (List Vl)
  | .inr (.inl x) :: st => some (.inl (x.toInt32).toInt :: st)
  | _ => none
def vty : Vl → Nat
  | .inl _ => 0
  | .inr (.inl _) => 1
  | .inr (.inr _) => 2
def kLd (t : Nat) (ls : Ls) (i : Nat) (st : List Vl) : Option (List Vl) := match ls.getD i none with
  | some v => if vty v = t then some (v :: st) else none
  | none => none
def kSt (t : Nat) (ls : Ls) (i : Nat) (n pc : Nat) (u : Mm) : List Vl → Option (Fr × Mm)
  | v :: st => if vty v = t then goL n pc st u (lPut ls i v) else none
  | _ => none
def kDup : List Vl → Option (List Vl)
  | v :: st => if cat v = 1 then some (v :: v :: st) else none
  | _ => none
def kDx1 : List Vl → Option (List Vl)
  | v :: w :: st => if cat v = 1 ∧ cat w = 1 then some (v :: w :: v :: st) else none
  | _ => none
def kDx2 : List Vl → Option (List Vl)
  | v :: w :: x :: st => if cat v = 1 ∧ cat w = 1 ∧ cat x = 1 then some (v :: w :: x :: v :: st) else none
  | _ => none
def kD2 : List Vl → Option (List Vl)
  | v :: w :: st => if cat v = 1 ∧ cat w = 1 then some (v :: w :: v :: w :: st) else none
  | _ => none
def kPop : List Vl → Option (List Vl)
  | v :: st => if cat v = 1 then some st else none
  | _ => none
/-- an element: kinds 0 int, 1 char, 2 boolean, 3 long, from 4 on references -/
def kEl (u : Mm) (ok : Nat → Bool) : List Vl → Option (List Vl)
  | .inl x :: .inr (.inr (some a)) :: st => match mS u a with
    | some (k, n) => if ok k = true ∧ k < 100 ∧ 0 ≤ x ∧ x < (n : Int) then some ((if k < 3 then vI (mI u a x.toNat) else if k = 3 then vL (mL u a x.toNat) else vF (mF u a x.toNat)) :: st) else none
    | none => none
  | _ => none
def kEs (n pc : Nat) (ls : Ls) (u : Mm) (kd : Nat) (f : Int → Int) : List Vl → Option (Fr × Mm)
  | .inl v :: .inl x :: .inr (.inr (some a)) :: st => match mS u a with
    | some (k, m) => if k = kd ∧ 0 ≤ x ∧ x < (m : Int) then some ((pc + n, (ls, st)), sI u (u2 (mI u) a x.toNat (f v))) else none
    | none => none
  | _ => none
def kLs (n pc : Nat) (ls : Ls) (u : Mm) : List Vl → Option (Fr × Mm)
  | .inr (.inl v) :: .inl x :: .inr (.inr (some a)) :: st => match mS u a with
    | some (k, m) => if k = 3 ∧ 0 ≤ x ∧ x < (m : Int) then some ((pc + n, (ls, st)), sL u (u2 (mL u) a x.toNat v)) else none
    | none => none
  | _ => none
/-- a reference array of kind 4 + c takes objects of class c -/
def kAs (n pc : Nat) (ls : Ls) (u : Mm) : List Vl → Option (Fr × Mm)
  | .inr (.inr (some b)) :: .inl x :: .inr (.inr (some a)) :: st => match mS u a, mS u b with
    | some (k, m), some (kb, _) => if 4 ≤ k ∧ k < 100 ∧ kb = 96 + k ∧ 0 ≤ x ∧ x < (m : Int) then some ((pc + n, (ls, st)), sF u (u2 (mF u) a x.toNat (some b))) else none
    | _, _ => none
  | _ => none
def kLen (u : Mm) : List Vl → Option (List Vl)
  | .inr (.inr (some a)) :: st => match mS u a with
    | some (k, n) => if k < 100 then some (vI n :: st) else none
    | none => none
  | _ => none
def kGet (u : Mm) (o : Option (Nat × (Nat × Nat))) : List Vl → Option (List Vl)
  | .inr (.inr (some a)) :: st => match o, mS u a with
    | some (c, (k, t)), some (kd, n) => if kd = 100 + c ∧ k < n then some ((if t = 1 then vL (mL u a k) else if t = 2 then vF (mF u a k) else vI (mI u a k)) :: st) else none
    | _, _ => none
  | _ => none
def kPut (n pc : Nat) (ls : Ls) (u : Mm) (o : Option (Nat × (Nat × Nat))) : List Vl → Option (Fr × Mm)
  | .inl x :: .inr (.inr (some a)) :: st => match o, mS u a with
    | some (c, (k, t)), some (kd, m) => if kd = 100 + c ∧ k < m ∧ (t = 0 ∨ (t = 3 ∧ (x = 0 ∨ x = 1))) then some ((pc + n, (ls, st)), sI u (u2 (mI u) a k x)) else none
    | _, _ => none
  | .inr (.inr r) :: .inr (.inr (some a)) :: st => match o, mS u a with
    | some (c, (k, t)), some (kd, m) => if kd = 100 + c ∧ k < m ∧ t = 2 then some ((pc + n, (ls, st)), sF u (u2 (mF u) a k r)) else none
    | _, _ => none
  | _ => none
def kNa (n pc : Nat) (ls : Ls) (u : Mm) (k : Nat) : List Vl → Option (Fr × Mm)
  | .inl x :: st => if 0 ≤ x ∧ x < 65536 then some ((pc + n, (ls, vR (mT u) :: st)), mNew u k x.toNat) else none
  | _ => none
def aKd : ArrayType → Option Nat
  | .int => some 0
  | .char => some 1
  | .boolean => some 2
  | .long => some 3
  | _ => none
/-- one instruction, but calls, ends and throws -/
def stp (P : Pg) (j : Nat) (i : Instr) (n pc : Nat) (ls : Ls) (st : List Vl) (u : Mm) : Option (Fr × Mm) := match i with
  | .iconst x => goS n pc ls u (some (vI (wr x) :: st))
  | .bipush x => goS n pc ls u (some (vI (Int8.ofInt x).toInt32.toInt :: st))
  | .sipush x => goS n pc ls u (some (vI (Int16.ofInt x).toInt32.toInt :: st))
  | .lconst x => goS n pc ls u (some (vL (Int64.ofNat x) :: st))
  | .ldc k => match pLs P (pOw P j) k with
    | some _ => goS n pc ls u (some (vR (pSg P) :: st))
    | none => none
  | .ldc2_w k => match pLl P (pOw P j) k with
    | some x => goS n pc ls u (some (vL x :: st))
    | none => none
  | .iload k => goS n pc ls u (kLd 0 ls k st)
  | .lload k => goS n pc ls u (kLd 1 ls k st)
  | .aload k => goS n pc ls u (kLd 2 ls k st)
  | .iload_n k => goS n pc ls u (kLd 0 ls k.val st)
  | .lload_n k => goS n pc ls u (kLd 1 ls k.val st)
  | .aload_n k => goS n pc ls u (kLd 2 ls k.val st)
  | .istore k => kSt 0 ls k n pc u st
  | .lstore k => kSt 1 ls k n pc u st
  | .astore k => kSt 2 ls k n pc u st
  | .istore_n k => kSt 0 ls k.val n pc u st
  | .lstore_n k => kSt 1 ls k.val n pc u st
  | .astore_n k => kSt 2 ls k.val n pc u st
  | .iinc k c => match ls.getD k none with
    | some (.inl x) => goL n pc st u (lPut ls k (vI (wr (x + wr c))))
    | _ => none
  | .iadd => goS n pc ls u (kI2 (fun x y => wr (x + y)) st)
  | .isub => goS n pc ls u (kI2 (fun x y => wr (x - y)) st)
  | .imul => goS n pc ls u (kI2 (fun x y => wr (x * y)) st)
  | .iand => goS n pc ls u (kI2 (bI (fun x y => x &&& y)) st)
  | .ior => goS n pc ls u (kI2 (bI (fun x y => x ||| y)) st)
  | .ixor => goS n pc ls u (kI2 (bI (fun x y => x ^^^ y)) st)
  | .ishl => goS n pc ls u (kI2 (bI (fun x y => x <<< (y &&& 31))) st)
  | .ishr => goS n pc ls u (kI2 (bI (fun x y => x >>> (y &&& 31))) st)
  | .i2c => goS n pc ls u (kI1 (fun x => x % 65536) st)
  | .i2l => goS n pc ls u (kIL st)
  | .l2i => goS n pc ls u (kLi st)
  | .land => goS n pc ls u (kL2 (fun x y => x &&& y) st)
  | .lor => goS n pc ls u (kL2 (fun x y => x ||| y) st)
  | .lshl => goS n pc ls u (kLI (fun x y => x <<< (y.toInt64 &&& 63)) st)
  | .lshr => goS n pc ls u (kLI (fun x y => x >>> (y.toInt64 &&& 63)) st)
  | .lcmp => goS n pc ls u (kLc st)
  | .dup => goS n pc ls u (kDup st)
  | .dup_x1 => goS n pc ls u (kDx1 st)
  | .dup_x2 => goS n pc ls u (kDx2 st)
  | .dup2 => goS n pc ls u (kD2 st)
  | .pop => goS n pc ls u (kPop st)
  | .goto o => goP ls st u (tgt pc o)
  | .ifCond c o => match st with
    | .inl x :: st' => goP ls st' u ((tgt pc o).map fun t => if cmpI c x 0 = true then t else pc + n)
    | _ => none
  | .if_icmp c o => match st with
    | .inl y :: .inl x :: st' => goP ls st' u ((tgt pc o).map fun t => if cmpI c x y = true then t else pc + n)
    | _ => none
  | .tableswitch d lo hi offs => match st with
    | .inl x :: st' => goP ls st' u ((tsw d lo hi offs x).bind (tgt pc))
    | _ => none
  | .lookupswitch d ps => match st with
    | .inl x :: st' => if (ps.toList.zip (ps.toList.drop 1)).all (fun (a, next) => a.1 < next.1) = true then goP ls st' u (tgt pc (Op.lookupswitch.offset ps.toList d x)) else none
    | _ => none
  | .iaload => goS n pc ls u (kEl u (fun k => k == 0) st)
  | .caload => goS n pc ls u (kEl u (fun k => k == 1) st)
  | .baload => goS n pc ls u (kEl u (fun k => k == 2) st)
  | .laload => goS n pc ls u (kEl u (fun k => k == 3) st)
  | .aaload => goS n pc ls u (kEl u (fun k => decide (4 ≤ k)) st)
  | .iastore => kEs n pc ls u 0 (fun x => x) st
  | .castore => kEs n pc ls u 1 (fun x => x % 65536) st
  | .bastore => kEs n pc ls u 2 (fun x => x % 2) st
  | .lastore => kLs n pc ls u st
  | .aastore => kAs n pc ls u st
  | .arraylength => goS n pc ls u (kLen u st)
  | .getfield k => goS n pc ls u (kGet u (pLf P (pOw P j) k) st)
  | .putfield k => kPut n pc ls u (tPf j k) st
  | .new k => match pLc P (pOw P j) k with
    | some (c, m) => some ((pc + n, (ls, vR (mT u) :: st)), mNew u (100 + c) m)
    | none => none
  | .newarray t => match aKd t with
    | some k => kNa n pc ls u k st
    | none => none
  | .anewarray k => match pLa P (pOw P j) k with
    | some c => kNa n pc ls u (4 + c) st
    | none => none
  | _ => none
/-- a result: a value or none; or an exception (its number, its cell) -/
abbrev Rs : Type := Option Vl ⊕ (Nat × Nat)
def rk : Option FieldType → Nat
  | none => 0
  | some .int => 1
  | some .boolean => 2
  | some .char => 3
  | some .long => 4
  | some .byte => 6
  | some (.object _) => 5
  | some (.array _) => 5
  | _ => 9
def rt (j : Nat) (i : Instr) (st : List Vl) : Option (Option Vl) := match i with
  | .return_ => match st with
    | [] => if rk (tRt j) = 0 then some none else none
    | _ => none
  | .ireturn => match st with
    | [.inl x] => if rk (tRt j) = 1 ∨ (rk (tRt j) = 2 ∧ (x = 0 ∨ x = 1)) ∨ (rk (tRt j) = 3 ∧ 0 ≤ x ∧ x < 65536) ∨ (rk (tRt j) = 6 ∧ x = 0) then some (some (vI x)) else none
    | _ => none
  | .lreturn => match st with
    | [.inr (.inl x)] => if rk (tRt j) = 4 then some (some (vL x)) else none
    | _ => none
  | .areturn => match st with
    | [.inr (.inr (some a))] => if rk (tRt j) = 5 then some (some (vR a)) else none
    | _ => none
  | _ => none
/-- behind 'new' of an exception: dup, its constructor, athrow -/
def thrOk (j pc x : Nat) : Bool :=
  (match decode (tBc j) (pc + 3) with
    | .ok (.dup, 1) => true
    | _ => false) &&
  (match decode (tBc j) (pc + 4) with
    | .ok (.invokespecial k, 3) => tLy (tOw j) k == some x
    | _ => false) &&
  (match decode (tBc j) (pc + 7) with
    | .ok (.athrow, 1) => true
    | _ => false)
/-- a call: the method, its arguments, what is left of the stack -/
def cK (i : Instr) (y : Nat) : Bool := match i with
  | .invokevirtual _ => tSt y == 0
  | .invokespecial _ => tSt y == 2 || y == 500
  | .invokestatic _ => tSt y == 1 || y == 501
  | _ => false
def iK : Instr → Option Nat
  | .invokevirtual k => some k
  | .invokespecial k => some k
  | .invokestatic k => some k
  | _ => none
def cl (P : Pg) (j : Nat) (i : Instr) (st : List Vl) : Option (Nat × (List Vl × List Vl)) := match iK i with
  | some k => match pLm P (pOw P j) k with
    | some (y, n) => if n ≤ st.length ∧ cK i y = true then some (y, ((st.take n).reverse, st.drop n)) else none
    | none => none
  | none => none
/-- the receiver is an object of the method's class (a constructor's: any object; a text's: the signs) -/
def rcv (P : Pg) (u : Mm) (y : Nat) (as : List Vl) : Bool := if tSt y = 1 then true else match as with
  | .inr (.inr (some b)) :: _ => if tSt y = 2 then true else if tOw y = 12 then b == pSg P else match mS u b with
    | some (k, _) => k == 100 + tOw y
    | none => false
  | _ => false
def ent1 : List Vl → Ls
  | [] => []
  | v :: vs => if isLg (some v) = true then some v :: none :: ent1 vs else some v :: ent1 vs
def ent (P : Pg) (y : Nat) (as : List Vl) : Ls := ent1 as ++ List.replicate (pMx P y - (ent1 as).length) none
def cpy (f g : Nat → Int) (sp dp n : Nat) : Nat → Int := fun k => if dp ≤ k ∧ k < dp + n then f (sp + (k - dp)) else g k
def sgn4 (c : Int) : Int := if c = 62 then 0 else if c = 60 then 1 else if c = 94 then 2 else if c = 63 then 3 else -1
def sgnC (k : Int) : Int := if k = 0 then 62 else if k = 1 then 60 else if k = 2 then 94 else 63
/-- what stands ready: 1 Math.min, 2 Math.max, 3 Integer.compare, 4 arraycopy, 5 Object.<init> -/
def bi (P : Pg) (k : Nat) (as : List Vl) (u : Mm) : Option (Option Vl × Mm) := match k with
  | 1 => match as with
    | [.inl x, .inl y] => some (some (vI (if x ≤ y then x else y)), u)
    | _ => none
  | 2 => match as with
    | [.inl x, .inl y] => some (some (vI (if x ≤ y then y else x)), u)
    | _ => none
  | 3 => match as with
    | [.inl x, .inl y] => some (some (vI (if x < y then -1 else if x = y then 0 else 1)), u)
    | _ => none
  | 4 => match as with
    | [.inr (.inr (some a)), .inl sp, .inr (.inr (some b)), .inl dp, .inl n] => match mS u a, mS u b with
      | some (k, la), some (k', lb) => if k = k' ∧ k < 2 ∧ a ≠ b ∧ 0 ≤ sp ∧ 0 ≤ dp ∧ 0 ≤ n ∧ sp + n ≤ (la : Int) ∧ dp + n ≤ (lb : Int) then
          some (none, sI u (fun c => if c = b then cpy (mI u a) (mI u b) sp.toNat dp.toNat n.toNat else mI u c)) else none
      | _, _ => none
    | _ => none
  | 5 => match as with
    | [.inr (.inr (some _))] => some (none, u)
    | _ => none
  | _ => none
def hnd (pc x : Nat) : List (Nat × (Nat × (Nat × Nat))) → Option Nat
  | [] => none
  | (a, (b, (h, e))) :: t => if a ≤ pc ∧ pc < b ∧ e = x then some h else hnd pc x t
/-- a new exception, thrown -/
def thrF (P : Pg) (j pc : Nat) (i : Instr) (st : List Vl) (u : Mm) : Option (Rs × Mm) := match i with
  | .new k => match pLx P (pOw P j) k with
    | some (x, m) => if pHs P j = [] ∧ thrOk j pc x = true ∧ pLc P (pOw P j) k = none ∧ (st.map cat).sum ≤ 8 then some (.inr (x, mT u), mHole u m) else none
    | none => none
  | _ => none
/-- in the methods of texts: the signs' own fields and bytes; in the law: the script -/
def sps (P : Pg) (j : Nat) (i : Instr) (st : List Vl) : Option (List Vl) := if tOw j < 12 ∧ j ≠ 178 then none else match i with
  | .i2b => kI1 (fun x => (Int32.ofInt x).toInt8.toInt32.toInt) st
  | .getstatic k => if tOw j = 12 ∧ k = 38 then some (vI 1 :: st) else if tOw j = 12 ∧ k = 1053 then some (vF (pFm P) :: st) else none
  | .getfield k => match st with
    | .inr (.inr (some a)) :: r => if a = pSg P ∧ tOw j = 12 then (if k = 9 then some (vR (pSv P) :: r) else if k = 15 then some (vI 0 :: r) else none) else none
    | _ => none
  | .arraylength => match st with
    | .inr (.inr (some a)) :: r => if a = pSv P then some (vI 4 :: r) else if a = pB P then some (vI (pLn P) :: r) else none
    | _ => none
  | .iaload => match st with
    | .inl x :: .inr (.inr (some a)) :: r => if a = pB P ∧ 0 ≤ x ∧ x < (pLn P : Int) then some (vI (pX P x.toNat) :: r) else none
    | _ => none
  | .baload => match st with
    | .inl x :: .inr (.inr (some a)) :: r => if a = pSv P ∧ 0 ≤ x ∧ x < 4 then some (vI (sgnC x) :: r) else none
    | _ => none
  | _ => none
/-- the length of an instruction, as it is met here -/
def iln (i : Instr) (n : Nat) : Bool := match i with
  | .bipush _ => n == 2
  | .sipush _ => n == 3
  | .ldc _ => n == 2
  | .ldc2_w _ => n == 3
  | .iload _ => n == 2
  | .lload _ => n == 2
  | .aload _ => n == 2
  | .istore _ => n == 2
  | .lstore _ => n == 2
  | .astore _ => n == 2
  | .iinc _ _ => n == 3
  | .goto _ => n == 3
  | .ifCond _ _ => n == 3
  | .if_icmp _ _ => n == 3
  | .tableswitch _ _ _ _ => true
  | .lookupswitch _ _ => true
  | .getfield _ => n == 3
  | .getstatic _ => n == 3
  | .putfield _ => n == 3
  | .invokevirtual _ => n == 3
  | .invokespecial _ => n == 3
  | .invokestatic _ => n == 3
  | .new _ => n == 3
  | .newarray _ => n == 2
  | .anewarray _ => n == 3
  | _ => n == 1
/-- a run by f instructions (each call counts its own), calls at most d deep -/
def fm (P : Pg) : Nat → Nat → Nat → Nat → Ls → List Vl → Mm → Option (Rs × Mm)
  | 0, _, _, _, _, _, _ => none
  | f + 1, d, j, pc, ls, st, u => match decode (pBc P j) pc with
    | .error _ => none
    | .ok (i, n) => if iln i n = true then match stp P j i n pc ls st u with
      | some ((pc', (ls', st')), u') => fm P f d j pc' ls' st' u'
      | none => match rt j i st with
        | some r => some (.inl r, u)
        | none => match cl P j i st with
          | some (y, (as, rest)) =>
            if (rest.map cat).sum ≤ 8 then match bi P (pKd P y) as u with
              | some (v, u') => fm P f d j (pc + n) ls (v.toList ++ rest) u'
              | none => match d with
                | 0 => none
                | d' + 1 => if (ent1 as).length ≤ pMx P y ∧ pKd P y = 0 ∧ rcv P u y as = true then match fm P f d' y 0 (ent P y as) [] u with
                  | some (.inl v, u') => fm P f (d' + 1) j (pc + n) ls (v.toList ++ rest) u'
                  | some (.inr x, u') => match hnd pc x.1 (pHs P j) with
                    | some h => fm P f (d' + 1) j h ls [vR x.2] u'
                    | none => if pHs P j = [] then some (.inr x, u') else none
                  | none => none
                  else none
            else none
          | none => match thrF P j pc i st u with
            | some r => some r
            | none => match sps P j i st with
              | some st' => fm P f d j (pc + n) ls st' u
              | none => none
      else none
end
section
/-! More steps, more depth: the same result. Then the rules. -/
theorem fm_up (P : Pg) : ∀ (f d j pc : Nat) (ls : Ls) (st : List Vl) (u : Mm) (r : Rs × Mm), fm P f d j pc ls st u = some r → fm P (f + 1) d j pc ls st u = some r := by
  intro f
  induction f with
  | zero => intro d j pc ls st u r h; rw [fm] at h; cases h
  | succ f ih =>
    intro d j pc ls st u r h
    rw [fm] at h ⊢
    cases hd : decode (pBc P j) pc with
    | error e => simp only [hd] at h; cases h
    | ok q =>
      obtain ⟨i, n⟩ := q
      simp only [hd] at h ⊢
      by_cases hl : iln i n = true
      case neg => rw [if_neg hl] at h; cases h
      rw [if_pos hl] at h ⊢
      cases hs : stp P j i n pc ls st u with
      | some q =>
        obtain ⟨⟨pc', ls', st'⟩, u'⟩ := q
        simp only [hs] at h ⊢
        exact ih _ _ _ _ _ _ _ h
      | none =>
        simp only [hs] at h ⊢
        cases hr : rt j i st with
        | some r' => simp only [hr] at h ⊢; exact h
        | none =>
          simp only [hr] at h ⊢
          cases hc : cl P j i st with
          | none =>
            simp only [hc] at h ⊢
            cases ht : thrF P j pc i st u with
            | some r1 => simp only [ht] at h ⊢; exact h
            | none =>
              simp only [ht] at h ⊢
              cases hp : sps P j i st with
              | none => simp only [hp] at h; cases h
              | some st1 => simp only [hp] at h ⊢; exact ih _ _ _ _ _ _ _ h
          | some q =>
            obtain ⟨y, as, rest⟩ := q
            simp only [hc] at h ⊢
            by_cases hw : (rest.map cat).sum ≤ 8
            · rw [if_pos hw] at h ⊢
              cases hb : bi P (pKd P y) as u with
              | some q =>
                obtain ⟨v, u'⟩ := q
                simp only [hb] at h ⊢
                exact ih _ _ _ _ _ _ _ h
              | none =>
                simp only [hb] at h ⊢
                cases d with
                | zero => cases h
                | succ d' =>
                  by_cases he : (ent1 as).length ≤ pMx P y ∧ pKd P y = 0 ∧ rcv P u y as = true
                  · simp only [if_pos he] at h ⊢
                    cases hf : fm P f d' y 0 (ent P y as) [] u with
                    | none => simp only [hf] at h; cases h
                    | some q =>
                      rw [ih _ _ _ _ _ _ _ hf]
                      obtain ⟨o, u'⟩ := q
                      simp only [hf] at h
                      cases o with
                      | inl v => exact ih _ _ _ _ _ _ _ h
                      | inr x =>
                        simp only at h ⊢
                        cases hh : hnd pc x.1 (pHs P j) with
                        | none => simp only [hh] at h ⊢; exact h
                        | some t => simp only [hh] at h ⊢; exact ih _ _ _ _ _ _ _ h
                  · simp only [if_neg he] at h; cases h
            · rw [if_neg hw] at h; cases h
theorem fm_dp (P : Pg) : ∀ (f d j pc : Nat) (ls : Ls) (st : List Vl) (u : Mm) (r : Rs × Mm), fm P f d j pc ls st u = some r → fm P f (d + 1) j pc ls st u = some r := by
  intro f
  induction f with
  | zero => intro d j pc ls st u r h; rw [fm] at h; cases h
  | succ f ih =>
    intro d j pc ls st u r h
    rw [fm] at h ⊢
    cases hd : decode (pBc P j) pc with
    | error e => simp only [hd] at h; cases h
    | ok q =>
      obtain ⟨i, n⟩ := q
      simp only [hd] at h ⊢
      by_cases hl : iln i n = true
      case neg => rw [if_neg hl] at h; cases h
      rw [if_pos hl] at h ⊢
      cases hs : stp P j i n pc ls st u with
      | some q =>
        obtain ⟨⟨pc', ls', st'⟩, u'⟩ := q
        simp only [hs] at h ⊢
        exact ih _ _ _ _ _ _ _ h
      | none =>
        simp only [hs] at h ⊢
        cases hr : rt j i st with
        | some r' => simp only [hr] at h ⊢; exact h
        | none =>
          simp only [hr] at h ⊢
          cases hc : cl P j i st with
          | none =>
            simp only [hc] at h ⊢
            cases ht : thrF P j pc i st u with
            | some r1 => simp only [ht] at h ⊢; exact h
            | none =>
              simp only [ht] at h ⊢
              cases hp : sps P j i st with
              | none => simp only [hp] at h; cases h
              | some st1 => simp only [hp] at h ⊢; exact ih _ _ _ _ _ _ _ h
          | some q =>
            obtain ⟨y, as, rest⟩ := q
            simp only [hc] at h ⊢
            by_cases hw : (rest.map cat).sum ≤ 8
            · rw [if_pos hw] at h ⊢
              cases hb : bi P (pKd P y) as u with
              | some q =>
                obtain ⟨v, u'⟩ := q
                simp only [hb] at h ⊢
                exact ih _ _ _ _ _ _ _ h
              | none =>
                simp only [hb] at h ⊢
                cases d with
                | zero => cases h
                | succ d' =>
                  by_cases he : (ent1 as).length ≤ pMx P y ∧ pKd P y = 0 ∧ rcv P u y as = true
                  · simp only [if_pos he] at h ⊢
                    cases hf : fm P f d' y 0 (ent P y as) [] u with
                    | none => simp only [hf] at h; cases h
                    | some q =>
                      rw [ih _ _ _ _ _ _ _ hf]
                      obtain ⟨o, u'⟩ := q
                      simp only [hf] at h
                      cases o with
                      | inl v => exact ih _ _ _ _ _ _ _ h
                      | inr x =>
                        simp only at h ⊢
                        cases hh : hnd pc x.1 (pHs P j) with
                        | none => simp only [hh] at h ⊢; exact h
                        | some t => simp only [hh] at h ⊢; exact ih _ _ _ _ _ _ _ h
                  · simp only [if_neg he] at h; cases h
            · rw [if_neg hw] at h; cases h
theorem fm_ups {P : Pg} {f f' d j pc : Nat} {ls : Ls} {st : List Vl} {u : Mm} {r : Rs × Mm} (hf : f ≤ f') (h : fm P f d j pc ls st u = some r) : fm P f' d j pc ls st u = some r := by
  induction hf with
  | refl => exact h
  | step _ ih => exact fm_up _ _ _ _ _ _ _ _ _ ih
theorem fm_dps {P : Pg} {f d d' j pc : Nat} {ls : Ls} {st : List Vl} {u : Mm} {r : Rs × Mm} (hd : d ≤ d') (h : fm P f d j pc ls st u = some r) : fm P f d' j pc ls st u = some r := by
  induction hd with
  | refl => exact h
  | step _ ih => exact fm_dp _ _ _ _ _ _ _ _ _ ih
/-- from here the run comes to its end, with Q of the result and the memory -/
def Ef (P : Pg) (d j pc : Nat) (ls : Ls) (st : List Vl) (u : Mm) (Q : Rs → Mm → Prop) : Prop := ∃ (f : Nat) (r : Rs) (u' : Mm), fm P f d j pc ls st u = some (r, u') ∧ Q r u'
/-- a method called -/
def Ec (P : Pg) (d y : Nat) (as : List Vl) (u : Mm) (Q : Rs → Mm → Prop) : Prop := Ef P d y 0 (ent P y as) [] u Q
section R
variable {P : Pg} {d d' j pc n : Nat} {ls : Ls} {st : List Vl} {u : Mm} {Q Q' : Rs → Mm → Prop} {i : Instr}
theorem Ef.imp (h : Ef P d j pc ls st u Q) (hq : ∀ r u', Q r u' → Q' r u') : Ef P d j pc ls st u Q' := by
  obtain ⟨f, r, u', h1, h2⟩ := h
  exact ⟨f, r, u', h1, hq _ _ h2⟩
theorem Ef.deep (hd : d ≤ d') (h : Ef P d j pc ls st u Q) : Ef P d' j pc ls st u Q := by
  obtain ⟨f, r, u', h1, h2⟩ := h
  exact ⟨f, r, u', fm_dps hd h1, h2⟩
theorem Ec.imp {y : Nat} {as : List Vl} (h : Ec P d y as u Q) (hq : ∀ r u', Q r u' → Q' r u') : Ec P d y as u Q' := Ef.imp h hq
theorem Ec.deep {y : Nat} {as : List Vl} (hd : d ≤ d') (h : Ec P d y as u Q) : Ec P d' y as u Q := Ef.deep hd h
theorem Ef.go {pc' : Nat} {ls' : Ls} {st' : List Vl} {u' : Mm} (hd : decode (pBc P j) pc = .ok (i, n)) (hn : iln i n = true) (hs : stp P j i n pc ls st u = some ((pc', (ls', st')), u')) (k : Ef P d j pc' ls' st' u' Q) : Ef P d j pc ls st u Q := by
  obtain ⟨f, r, u1, h, q⟩ := k
  refine ⟨f + 1, r, u1, ?_, q⟩
  rw [fm]
  simp only [hd, if_pos hn, hs]
  exact h
theorem Ef.ret {r : Option Vl} (hd : decode (pBc P j) pc = .ok (i, n)) (hn : iln i n = true) (hs : stp P j i n pc ls st u = none) (hr : rt j i st = some r) (k : Q (.inl r) u) : Ef P d j pc ls st u Q := by
  refine ⟨1, .inl r, u, ?_, k⟩
  rw [fm]
  simp only [hd, if_pos hn, hs, hr]
/-- a call of a method -/
theorem Ef.call {y : Nat} {as rest : List Vl} (hd : decode (pBc P j) pc = .ok (i, n)) (hn : iln i n = true) (hs : stp P j i n pc ls st u = none) (hr : rt j i st = none) (hc : cl P j i st = some (y, (as, rest))) (hw : (rest.map cat).sum ≤ 8) (hk : pKd P y = 0) (hm : (ent1 as).length ≤ pMx P y) (hv : rcv P u y as = true)
    (k : Ec P d y as u (fun r u' => match r with
      | .inl v => Ef P (d + 1) j (pc + n) ls (v.toList ++ rest) u' Q
      | .inr x => match hnd pc x.1 (pHs P j) with
        | some h => Ef P (d + 1) j h ls [vR x.2] u' Q
        | none => pHs P j = [] ∧ Q (.inr x) u')) : Ef P (d + 1) j pc ls st u Q := by
  obtain ⟨f, r, u1, h, q⟩ := k
  have hb : bi P (pKd P y) as u = none := by rw [hk]; rfl
  cases r with
  | inl v =>
    obtain ⟨f2, r2, u2, h2, q2⟩ := q
    refine ⟨max f f2 + 1, r2, u2, ?_, q2⟩
    rw [fm]
    simp only [hd, if_pos hn, hs, hr, hc, if_pos hw, hb, if_pos (show (ent1 as).length ≤ pMx P y ∧ pKd P y = 0 ∧ rcv P u y as = true from ⟨hm, hk, hv⟩)]
    rw [fm_ups (Nat.le_max_left f f2) h]
    exact fm_ups (Nat.le_max_right f f2) h2
  | inr x =>
    simp only at q
    cases hh : hnd pc x.1 (pHs P j) with
    | none =>
      simp only [hh] at q
      refine ⟨f + 1, .inr x, u1, ?_, q.2⟩
      rw [fm]
      simp only [hd, if_pos hn, hs, hr, hc, if_pos hw, hb, if_pos (show (ent1 as).length ≤ pMx P y ∧ pKd P y = 0 ∧ rcv P u y as = true from ⟨hm, hk, hv⟩)]
      rw [h]
      simp only [hh, if_pos q.1]
    | some t =>
      simp only [hh] at q
      obtain ⟨f2, r2, u2, h2, q2⟩ := q
      refine ⟨max f f2 + 1, r2, u2, ?_, q2⟩
      rw [fm]
      simp only [hd, if_pos hn, hs, hr, hc, if_pos hw, hb, if_pos (show (ent1 as).length ≤ pMx P y ∧ pKd P y = 0 ∧ rcv P u y as = true from ⟨hm, hk, hv⟩)]
      rw [fm_ups (Nat.le_max_left f f2) h]
      simp only [hh]
      exact fm_ups (Nat.le_max_right f f2) h2
/-- a call of what stands ready -/
theorem Ef.bi {y : Nat} {as rest : List Vl} {v : Option Vl} {u' : Mm} (hd : decode (pBc P j) pc = .ok (i, n)) (hn : iln i n = true) (hs : stp P j i n pc ls st u = none) (hr : rt j i st = none) (hc : cl P j i st = some (y, (as, rest))) (hw : (rest.map cat).sum ≤ 8) (hb : bi P (pKd P y) as u = some (v, u'))
    (k : Ef P d j (pc + n) ls (v.toList ++ rest) u' Q) : Ef P d j pc ls st u Q := by
  obtain ⟨f, r, u1, h, q⟩ := k
  refine ⟨f + 1, r, u1, ?_, q⟩
  rw [fm]
  simp only [hd, if_pos hn, hs, hr, hc, if_pos hw, hb]
  exact h
/-- a new exception thrown -/
theorem Ef.thr {k x m : Nat} (hd : decode (pBc P j) pc = .ok (.new k, 3)) (hl : pLc P (pOw P j) k = none) (hx : pLx P (pOw P j) k = some (x, m)) (hh : pHs P j = []) (ht : thrOk j pc x = true) (hw : (st.map cat).sum ≤ 8) (q : Q (.inr (x, mT u)) (mHole u m)) : Ef P d j pc ls st u Q := by
  refine ⟨1, .inr (x, mT u), mHole u m, ?_, q⟩
  rw [fm]
  simp only [hd, if_pos (show iln (.new k) 3 = true from rfl), show stp P j (.new k) 3 pc ls st u = none by simp only [stp, hl], show rt j (.new k) st = none from rfl, show cl P j (.new k) st = none from rfl,
    show thrF P j pc (.new k) st u = some (.inr (x, mT u), mHole u m) by simp only [thrF, hx, if_pos (show pHs P j = [] ∧ thrOk j pc x = true ∧ pLc P (pOw P j) k = none ∧ (st.map cat).sum ≤ 8 from ⟨hh, ht, hl, hw⟩)]]
/-- in a text's method -/
theorem Ef.sp {st' : List Vl} (hd : decode (pBc P j) pc = .ok (i, n)) (hn : iln i n = true) (hs : stp P j i n pc ls st u = none) (hr : rt j i st = none) (hc : cl P j i st = none) (ht : thrF P j pc i st u = none) (hp : sps P j i st = some st')
    (k : Ef P d j (pc + n) ls st' u Q) : Ef P d j pc ls st u Q := by
  obtain ⟨f, r, u1, h, q⟩ := k
  refine ⟨f + 1, r, u1, ?_, q⟩
  rw [fm]
  simp only [hd, if_pos hn, hs, hr, hc, ht, hp]
  exact h
end R
end
section
/-! The rules, an instruction each. -/
theorem inR_of {x : Int} (h1 : -2147483648 ≤ x) (h2 : x ≤ 2147483647) : inR x := ⟨h1, h2⟩
theorem tgt_of {pc t : Nat} {off : Int} (h : (pc : Int) + off = (t : Int)) : tgt pc off = some t := by
  unfold tgt
  rw [h, if_pos (Int.natCast_nonneg t), Int.toNat_natCast]
theorem tk_r {α : Type} {as rest : List α} {b : α} : (as.reverse ++ b :: rest).take (as.length + 1) = as.reverse ++ [b] := by
  have e : as.reverse ++ b :: rest = (as.reverse ++ [b]) ++ rest := by simp
  rw [e]
  exact List.take_left' (by simp)
theorem dr_r {α : Type} {as rest : List α} {b : α} : (as.reverse ++ b :: rest).drop (as.length + 1) = rest := by
  have e : as.reverse ++ b :: rest = (as.reverse ++ [b]) ++ rest := by simp
  rw [e]
  exact List.drop_left' (by simp)
section O
variable {P : Pg} {d j pc : Nat} {ls ls' : Ls} {st : List Vl} {u : Mm} {Q : Rs → Mm → Prop}
theorem ef_iconst {x : Int} (hd : decode (pBc P j) pc = .ok (.iconst x, 1)) (hx : wr x = x) (k : Ef P d j (pc + 1) ls (vI x :: st) u Q) : Ef P d j pc ls st u Q := Ef.go hd rfl (by simp only [stp, goS, hx]) k
theorem ef_bipush {x : Int} (hd : decode (pBc P j) pc = .ok (.bipush x, 2)) (hx : (Int8.ofInt x).toInt32.toInt = x) (k : Ef P d j (pc + 2) ls (vI x :: st) u Q) : Ef P d j pc ls st u Q := Ef.go hd rfl (by simp only [stp, goS, hx]) k
theorem ef_sipush {x : Int} (hd : decode (pBc P j) pc = .ok (.sipush x, 3)) (hx : (Int16.ofInt x).toInt32.toInt = x) (k : Ef P d j (pc + 3) ls (vI x :: st) u Q) : Ef P d j pc ls st u Q := Ef.go hd rfl (by simp only [stp, goS, hx]) k
theorem ef_lconst {x : Fin 2} (hd : decode (pBc P j) pc = .ok (.lconst x, 1))  (k : Ef P d j (pc + 1) ls (vL (Int64.ofNat x) :: st) u Q) : Ef P d j pc ls st u Q := Ef.go hd rfl rfl k
theorem ef_ldcS {k0 z : Nat} (hd : decode (pBc P j) pc = .ok (.ldc k0, 2)) (hl : pLs P (pOw P j) k0 = some z) (k : Ef P d j (pc + 2) ls (vR (pSg P) :: st) u Q) : Ef P d j pc ls st u Q := Ef.go hd rfl (by simp only [stp, goS, hl]) k
theorem ef_ldc2 {k0 : Nat} {x : Int64} (hd : decode (pBc P j) pc = .ok (.ldc2_w k0, 3)) (hl : pLl P (pOw P j) k0 = some x) (k : Ef P d j (pc + 3) ls (vL x :: st) u Q) : Ef P d j pc ls st u Q := Ef.go hd rfl (by simp only [stp, goS, hl]) k
theorem ef_iload {x : Nat} {y : Int} (hd : decode (pBc P j) pc = .ok (.iload x, 2)) (hl : ls.getD x none = some (vI y)) (k : Ef P d j (pc + 2) ls (vI y :: st) u Q) : Ef P d j pc ls st u Q := Ef.go hd rfl (by simp only [stp, goS, kLd, hl, vty, if_true]) k
theorem ef_iload_n {x : Fin 4} {y : Int} (hd : decode (pBc P j) pc = .ok (.iload_n x, 1)) (hl : ls.getD x.val none = some (vI y)) (k : Ef P d j (pc + 1) ls (vI y :: st) u Q) : Ef P d j pc ls st u Q := Ef.go hd rfl (by simp only [stp, goS, kLd, hl, vty, if_true]) k
theorem ef_istore {x : Nat} {y : Int} (hd : decode (pBc P j) pc = .ok (.istore x, 2)) (hl : lPut ls x (vI y) = some ls') (k : Ef P d j (pc + 2) ls' st u Q) : Ef P d j pc ls (vI y :: st) u Q := Ef.go hd rfl (by simp only [stp, kSt, goL, hl, vty, if_true]) k
theorem ef_istore_n {x : Fin 4} {y : Int} (hd : decode (pBc P j) pc = .ok (.istore_n x, 1)) (hl : lPut ls x.val (vI y) = some ls') (k : Ef P d j (pc + 1) ls' st u Q) : Ef P d j pc ls (vI y :: st) u Q := Ef.go hd rfl (by simp only [stp, kSt, goL, hl, vty, if_true]) k
theorem ef_lload {x : Nat} {y : Int64} (hd : decode (pBc P j) pc = .ok (.lload x, 2)) (hl : ls.getD x none = some (vL y)) (k : Ef P d j (pc + 2) ls (vL y :: st) u Q) : Ef P d j pc ls st u Q := Ef.go hd rfl (by simp only [stp, goS, kLd, hl, vty, if_true]) k
theorem ef_lload_n {x : Fin 4} {y : Int64} (hd : decode (pBc P j) pc = .ok (.lload_n x, 1)) (hl : ls.getD x.val none = some (vL y)) (k : Ef P d j (pc + 1) ls (vL y :: st) u Q) : Ef P d j pc ls st u Q := Ef.go hd rfl (by simp only [stp, goS, kLd, hl, vty, if_true]) k
theorem ef_lstore {x : Nat} {y : Int64} (hd : decode (pBc P j) pc = .ok (.lstore x, 2)) (hl : lPut ls x (vL y) = some ls') (k : Ef P d j (pc + 2) ls' st u Q) : Ef P d j pc ls (vL y :: st) u Q := Ef.go hd rfl (by simp only [stp, kSt, goL, hl, vty, if_true]) k
theorem ef_lstore_n {x : Fin 4} {y : Int64} (hd : decode (pBc P j) pc = .ok (.lstore_n x, 1)) (hl : lPut ls x.val (vL y) = some ls') (k : Ef P d j (pc + 1) ls' st u Q) : Ef P d j pc ls (vL y :: st) u Q := Ef.go hd rfl (by simp only [stp, kSt, goL, hl, vty, if_true]) k
theorem ef_aload {x : Nat} {y : Option Nat} (hd : decode (pBc P j) pc = .ok (.aload x, 2)) (hl : ls.getD x none = some (vF y)) (k : Ef P d j (pc + 2) ls (vF y :: st) u Q) : Ef P d j pc ls st u Q := Ef.go hd rfl (by simp only [stp, goS, kLd, hl, vty, if_true]) k
theorem ef_aload_n {x : Fin 4} {y : Option Nat} (hd : decode (pBc P j) pc = .ok (.aload_n x, 1)) (hl : ls.getD x.val none = some (vF y)) (k : Ef P d j (pc + 1) ls (vF y :: st) u Q) : Ef P d j pc ls st u Q := Ef.go hd rfl (by simp only [stp, goS, kLd, hl, vty, if_true]) k
theorem ef_astore {x : Nat} {y : Option Nat} (hd : decode (pBc P j) pc = .ok (.astore x, 2)) (hl : lPut ls x (vF y) = some ls') (k : Ef P d j (pc + 2) ls' st u Q) : Ef P d j pc ls (vF y :: st) u Q := Ef.go hd rfl (by simp only [stp, kSt, goL, hl, vty, if_true]) k
theorem ef_astore_n {x : Fin 4} {y : Option Nat} (hd : decode (pBc P j) pc = .ok (.astore_n x, 1)) (hl : lPut ls x.val (vF y) = some ls') (k : Ef P d j (pc + 1) ls' st u Q) : Ef P d j pc ls (vF y :: st) u Q := Ef.go hd rfl (by simp only [stp, kSt, goL, hl, vty, if_true]) k
theorem ef_iinc {i : Nat} {c x z : Int} (hd : decode (pBc P j) pc = .ok (.iinc i c, 3)) (hl : ls.getD i none = some (vI x)) (hc : wr c = c) (hz : x + c = z) (hr : inR z) (hp : lPut ls i (vI z) = some ls') (k : Ef P d j (pc + 3) ls' st u Q) : Ef P d j pc ls st u Q := Ef.go hd rfl (by simp only [stp, hl, hc, hz, wr_in hr, goL, hp]) k
theorem ef_iadd {x y z : Int} (hd : decode (pBc P j) pc = .ok (.iadd, 1)) (hz : x + y = z) (hr : inR z) (k : Ef P d j (pc + 1) ls (vI z :: st) u Q) : Ef P d j pc ls (vI y :: vI x :: st) u Q := Ef.go hd rfl (by simp only [stp, goS, kI2, hz, wr_in hr]) k
theorem ef_isub {x y z : Int} (hd : decode (pBc P j) pc = .ok (.isub, 1)) (hz : x - y = z) (hr : inR z) (k : Ef P d j (pc + 1) ls (vI z :: st) u Q) : Ef P d j pc ls (vI y :: vI x :: st) u Q := Ef.go hd rfl (by simp only [stp, goS, kI2, hz, wr_in hr]) k
theorem ef_imul {x y z : Int} (hd : decode (pBc P j) pc = .ok (.imul, 1)) (hz : x * y = z) (hr : inR z) (k : Ef P d j (pc + 1) ls (vI z :: st) u Q) : Ef P d j pc ls (vI y :: vI x :: st) u Q := Ef.go hd rfl (by simp only [stp, goS, kI2, hz, wr_in hr]) k
theorem ef_iand {x y z : Int} (hd : decode (pBc P j) pc = .ok (.iand, 1)) (hz : bI (fun x y => x &&& y) x y = z) (k : Ef P d j (pc + 1) ls (vI z :: st) u Q) : Ef P d j pc ls (vI y :: vI x :: st) u Q := Ef.go hd rfl (by simp only [stp, goS, kI2, hz]) k
theorem ef_ior {x y z : Int} (hd : decode (pBc P j) pc = .ok (.ior, 1)) (hz : bI (fun x y => x ||| y) x y = z) (k : Ef P d j (pc + 1) ls (vI z :: st) u Q) : Ef P d j pc ls (vI y :: vI x :: st) u Q := Ef.go hd rfl (by simp only [stp, goS, kI2, hz]) k
theorem ef_ixor {x y z : Int} (hd : decode (pBc P j) pc = .ok (.ixor, 1)) (hz : bI (fun x y => x ^^^ y) x y = z) (k : Ef P d j (pc + 1) ls (vI z :: st) u Q) : Ef P d j pc ls (vI y :: vI x :: st) u Q := Ef.go hd rfl (by simp only [stp, goS, kI2, hz]) k
theorem ef_ishl {x y z : Int} (hd : decode (pBc P j) pc = .ok (.ishl, 1)) (hz : bI (fun x y => x <<< (y &&& 31)) x y = z) (k : Ef P d j (pc + 1) ls (vI z :: st) u Q) : Ef P d j pc ls (vI y :: vI x :: st) u Q := Ef.go hd rfl (by simp only [stp, goS, kI2, hz]) k
theorem ef_ishr {x y z : Int} (hd : decode (pBc P j) pc = .ok (.ishr, 1)) (hz : bI (fun x y => x >>> (y &&& 31)) x y = z) (k : Ef P d j (pc + 1) ls (vI z :: st) u Q) : Ef P d j pc ls (vI y :: vI x :: st) u Q := Ef.go hd rfl (by simp only [stp, goS, kI2, hz]) k
theorem ef_i2c {x z : Int} (hd : decode (pBc P j) pc = .ok (.i2c, 1)) (hz : x % 65536 = z) (k : Ef P d j (pc + 1) ls (vI z :: st) u Q) : Ef P d j pc ls (vI x :: st) u Q := Ef.go hd rfl (by simp only [stp, goS, kI1, hz]) k
theorem ef_i2l {x : Int} (hd : decode (pBc P j) pc = .ok (.i2l, 1))  (k : Ef P d j (pc + 1) ls (vL (Int32.ofInt x).toInt64 :: st) u Q) : Ef P d j pc ls (vI x :: st) u Q := Ef.go hd rfl rfl k
theorem ef_l2i {x : Int64} (hd : decode (pBc P j) pc = .ok (.l2i, 1))  (k : Ef P d j (pc + 1) ls (vI x.toInt32.toInt :: st) u Q) : Ef P d j pc ls (vL x :: st) u Q := Ef.go hd rfl rfl k
theorem ef_land {x y : Int64} (hd : decode (pBc P j) pc = .ok (.land, 1))  (k : Ef P d j (pc + 1) ls (vL (x &&& y) :: st) u Q) : Ef P d j pc ls (vL y :: vL x :: st) u Q := Ef.go hd rfl rfl k
theorem ef_lor {x y : Int64} (hd : decode (pBc P j) pc = .ok (.lor, 1))  (k : Ef P d j (pc + 1) ls (vL (x ||| y) :: st) u Q) : Ef P d j pc ls (vL y :: vL x :: st) u Q := Ef.go hd rfl rfl k
theorem ef_lshl {x : Int64} {y : Int} (hd : decode (pBc P j) pc = .ok (.lshl, 1))  (k : Ef P d j (pc + 1) ls (vL (x <<< ((Int32.ofInt y).toInt64 &&& 63)) :: st) u Q) : Ef P d j pc ls (vI y :: vL x :: st) u Q := Ef.go hd rfl rfl k
theorem ef_lshr {x : Int64} {y : Int} (hd : decode (pBc P j) pc = .ok (.lshr, 1))  (k : Ef P d j (pc + 1) ls (vL (x >>> ((Int32.ofInt y).toInt64 &&& 63)) :: st) u Q) : Ef P d j pc ls (vI y :: vL x :: st) u Q := Ef.go hd rfl rfl k
theorem ef_lcmp {x y : Int64} (hd : decode (pBc P j) pc = .ok (.lcmp, 1))  (k : Ef P d j (pc + 1) ls (vI (lg_cmp x y).toInt :: st) u Q) : Ef P d j pc ls (vL y :: vL x :: st) u Q := Ef.go hd rfl rfl k
theorem ef_dup {v : Vl} (hd : decode (pBc P j) pc = .ok (.dup, 1)) (hc : cat v = 1) (k : Ef P d j (pc + 1) ls (v :: v :: st) u Q) : Ef P d j pc ls (v :: st) u Q := Ef.go hd rfl (by simp only [stp, goS, kDup, if_pos hc]) k
theorem ef_dup_x1 {v w : Vl} (hd : decode (pBc P j) pc = .ok (.dup_x1, 1)) (hc : cat v = 1) (hw : cat w = 1) (k : Ef P d j (pc + 1) ls (v :: w :: v :: st) u Q) : Ef P d j pc ls (v :: w :: st) u Q := Ef.go hd rfl (by simp only [stp, goS, kDx1, if_pos (And.intro hc hw)]) k
theorem ef_dup_x2 {v w x : Vl} (hd : decode (pBc P j) pc = .ok (.dup_x2, 1)) (hc : cat v = 1) (hw : cat w = 1) (hx : cat x = 1) (k : Ef P d j (pc + 1) ls (v :: w :: x :: v :: st) u Q) : Ef P d j pc ls (v :: w :: x :: st) u Q := Ef.go hd rfl (by simp only [stp, goS, kDx2, if_pos (And.intro hc (And.intro hw hx))]) k
theorem ef_dup2 {v w : Vl} (hd : decode (pBc P j) pc = .ok (.dup2, 1)) (hc : cat v = 1) (hw : cat w = 1) (k : Ef P d j (pc + 1) ls (v :: w :: v :: w :: st) u Q) : Ef P d j pc ls (v :: w :: st) u Q := Ef.go hd rfl (by simp only [stp, goS, kD2, if_pos (And.intro hc hw)]) k
theorem ef_pop {v : Vl} (hd : decode (pBc P j) pc = .ok (.pop, 1)) (hc : cat v = 1) (k : Ef P d j (pc + 1) ls st u Q) : Ef P d j pc ls (v :: st) u Q := Ef.go hd rfl (by simp only [stp, goS, kPop, if_pos hc]) k
theorem ef_goto {off : Int} {t : Nat} (hd : decode (pBc P j) pc = .ok (.goto off, 3)) (ht : (pc : Int) + off = (t : Int)) (k : Ef P d j t ls st u Q) : Ef P d j pc ls st u Q := Ef.go hd rfl (by simp only [stp, goP, tgt_of ht]) k
theorem ef_if_eq {x : Int} {off : Int} {t : Nat} (hd : decode (pBc P j) pc = .ok (.ifCond .eq off, 3)) (ht : (pc : Int) + off = (t : Int)) (kt : x = 0 → Ef P d j t ls st u Q) (kf : ¬ x = 0 → Ef P d j (pc + 3) ls st u Q) : Ef P d j pc ls (vI x :: st) u Q := by
  by_cases h : cmpI .eq x 0 = true
  · exact Ef.go hd rfl (by simp only [stp, goP, tgt_of ht, Option.map_some, if_pos h]) (kt (by simpa [cmpI] using h))
  · exact Ef.go hd rfl (by simp only [stp, goP, tgt_of ht, Option.map_some, if_neg h]) (kf (by simp [cmpI] at h; omega))
theorem ef_if_eqT {x : Int} {off : Int} {t : Nat} (hd : decode (pBc P j) pc = .ok (.ifCond .eq off, 3)) (ht : (pc : Int) + off = (t : Int)) (h : x = 0) (kt : Ef P d j t ls st u Q) : Ef P d j pc ls (vI x :: st) u Q := ef_if_eq hd ht (fun _ => kt) (fun h' => absurd h (by omega))
theorem ef_if_eqF {x : Int} {off : Int} {t : Nat} (hd : decode (pBc P j) pc = .ok (.ifCond .eq off, 3)) (ht : (pc : Int) + off = (t : Int)) (h : ¬ x = 0) (kf : Ef P d j (pc + 3) ls st u Q) : Ef P d j pc ls (vI x :: st) u Q := ef_if_eq hd ht (fun h' => absurd h' (by omega)) (fun _ => kf)
theorem ef_icmp_eq {x y : Int} {off : Int} {t : Nat} (hd : decode (pBc P j) pc = .ok (.if_icmp .eq off, 3)) (ht : (pc : Int) + off = (t : Int)) (kt : x = y → Ef P d j t ls st u Q) (kf : ¬ x = y → Ef P d j (pc + 3) ls st u Q) : Ef P d j pc ls (vI y :: vI x :: st) u Q := by
  by_cases h : cmpI .eq x y = true
  · exact Ef.go hd rfl (by simp only [stp, goP, tgt_of ht, Option.map_some, if_pos h]) (kt (by simpa [cmpI] using h))
  · exact Ef.go hd rfl (by simp only [stp, goP, tgt_of ht, Option.map_some, if_neg h]) (kf (by simp [cmpI] at h; omega))
theorem ef_icmp_eqT {x y : Int} {off : Int} {t : Nat} (hd : decode (pBc P j) pc = .ok (.if_icmp .eq off, 3)) (ht : (pc : Int) + off = (t : Int)) (h : x = y) (kt : Ef P d j t ls st u Q) : Ef P d j pc ls (vI y :: vI x :: st) u Q := ef_icmp_eq hd ht (fun _ => kt) (fun h' => absurd h (by omega))
theorem ef_icmp_eqF {x y : Int} {off : Int} {t : Nat} (hd : decode (pBc P j) pc = .ok (.if_icmp .eq off, 3)) (ht : (pc : Int) + off = (t : Int)) (h : ¬ x = y) (kf : Ef P d j (pc + 3) ls st u Q) : Ef P d j pc ls (vI y :: vI x :: st) u Q := ef_icmp_eq hd ht (fun h' => absurd h' (by omega)) (fun _ => kf)
theorem ef_if_ne {x : Int} {off : Int} {t : Nat} (hd : decode (pBc P j) pc = .ok (.ifCond .ne off, 3)) (ht : (pc : Int) + off = (t : Int)) (kt : ¬ x = 0 → Ef P d j t ls st u Q) (kf : x = 0 → Ef P d j (pc + 3) ls st u Q) : Ef P d j pc ls (vI x :: st) u Q := by
  by_cases h : cmpI .ne x 0 = true
  · exact Ef.go hd rfl (by simp only [stp, goP, tgt_of ht, Option.map_some, if_pos h]) (kt (by simpa [cmpI] using h))
  · exact Ef.go hd rfl (by simp only [stp, goP, tgt_of ht, Option.map_some, if_neg h]) (kf (by simp [cmpI] at h; omega))
theorem ef_if_neT {x : Int} {off : Int} {t : Nat} (hd : decode (pBc P j) pc = .ok (.ifCond .ne off, 3)) (ht : (pc : Int) + off = (t : Int)) (h : ¬ x = 0) (kt : Ef P d j t ls st u Q) : Ef P d j pc ls (vI x :: st) u Q := ef_if_ne hd ht (fun _ => kt) (fun h' => absurd h (by omega))
theorem ef_if_neF {x : Int} {off : Int} {t : Nat} (hd : decode (pBc P j) pc = .ok (.ifCond .ne off, 3)) (ht : (pc : Int) + off = (t : Int)) (h : x = 0) (kf : Ef P d j (pc + 3) ls st u Q) : Ef P d j pc ls (vI x :: st) u Q := ef_if_ne hd ht (fun h' => absurd h' (by omega)) (fun _ => kf)
theorem ef_icmp_ne {x y : Int} {off : Int} {t : Nat} (hd : decode (pBc P j) pc = .ok (.if_icmp .ne off, 3)) (ht : (pc : Int) + off = (t : Int)) (kt : ¬ x = y → Ef P d j t ls st u Q) (kf : x = y → Ef P d j (pc + 3) ls st u Q) : Ef P d j pc ls (vI y :: vI x :: st) u Q := by
  by_cases h : cmpI .ne x y = true
  · exact Ef.go hd rfl (by simp only [stp, goP, tgt_of ht, Option.map_some, if_pos h]) (kt (by simpa [cmpI] using h))
  · exact Ef.go hd rfl (by simp only [stp, goP, tgt_of ht, Option.map_some, if_neg h]) (kf (by simp [cmpI] at h; omega))
theorem ef_icmp_neT {x y : Int} {off : Int} {t : Nat} (hd : decode (pBc P j) pc = .ok (.if_icmp .ne off, 3)) (ht : (pc : Int) + off = (t : Int)) (h : ¬ x = y) (kt : Ef P d j t ls st u Q) : Ef P d j pc ls (vI y :: vI x :: st) u Q := ef_icmp_ne hd ht (fun _ => kt) (fun h' => absurd h (by omega))
theorem ef_icmp_neF {x y : Int} {off : Int} {t : Nat} (hd : decode (pBc P j) pc = .ok (.if_icmp .ne off, 3)) (ht : (pc : Int) + off = (t : Int)) (h : x = y) (kf : Ef P d j (pc + 3) ls st u Q) : Ef P d j pc ls (vI y :: vI x :: st) u Q := ef_icmp_ne hd ht (fun h' => absurd h' (by omega)) (fun _ => kf)
theorem ef_if_lt {x : Int} {off : Int} {t : Nat} (hd : decode (pBc P j) pc = .ok (.ifCond .lt off, 3)) (ht : (pc : Int) + off = (t : Int)) (kt : x < 0 → Ef P d j t ls st u Q) (kf : 0 ≤ x → Ef P d j (pc + 3) ls st u Q) : Ef P d j pc ls (vI x :: st) u Q := by
  by_cases h : cmpI .lt x 0 = true
  · exact Ef.go hd rfl (by simp only [stp, goP, tgt_of ht, Option.map_some, if_pos h]) (kt (by simpa [cmpI] using h))
  · exact Ef.go hd rfl (by simp only [stp, goP, tgt_of ht, Option.map_some, if_neg h]) (kf (by simp [cmpI] at h; omega))
theorem ef_if_ltT {x : Int} {off : Int} {t : Nat} (hd : decode (pBc P j) pc = .ok (.ifCond .lt off, 3)) (ht : (pc : Int) + off = (t : Int)) (h : x < 0) (kt : Ef P d j t ls st u Q) : Ef P d j pc ls (vI x :: st) u Q := ef_if_lt hd ht (fun _ => kt) (fun h' => absurd h (by omega))
theorem ef_if_ltF {x : Int} {off : Int} {t : Nat} (hd : decode (pBc P j) pc = .ok (.ifCond .lt off, 3)) (ht : (pc : Int) + off = (t : Int)) (h : 0 ≤ x) (kf : Ef P d j (pc + 3) ls st u Q) : Ef P d j pc ls (vI x :: st) u Q := ef_if_lt hd ht (fun h' => absurd h' (by omega)) (fun _ => kf)
theorem ef_icmp_lt {x y : Int} {off : Int} {t : Nat} (hd : decode (pBc P j) pc = .ok (.if_icmp .lt off, 3)) (ht : (pc : Int) + off = (t : Int)) (kt : x < y → Ef P d j t ls st u Q) (kf : y ≤ x → Ef P d j (pc + 3) ls st u Q) : Ef P d j pc ls (vI y :: vI x :: st) u Q := by
  by_cases h : cmpI .lt x y = true
  · exact Ef.go hd rfl (by simp only [stp, goP, tgt_of ht, Option.map_some, if_pos h]) (kt (by simpa [cmpI] using h))
  · exact Ef.go hd rfl (by simp only [stp, goP, tgt_of ht, Option.map_some, if_neg h]) (kf (by simp [cmpI] at h; omega))
theorem ef_icmp_ltT {x y : Int} {off : Int} {t : Nat} (hd : decode (pBc P j) pc = .ok (.if_icmp .lt off, 3)) (ht : (pc : Int) + off = (t : Int)) (h : x < y) (kt : Ef P d j t ls st u Q) : Ef P d j pc ls (vI y :: vI x :: st) u Q := ef_icmp_lt hd ht (fun _ => kt) (fun h' => absurd h (by omega))
theorem ef_icmp_ltF {x y : Int} {off : Int} {t : Nat} (hd : decode (pBc P j) pc = .ok (.if_icmp .lt off, 3)) (ht : (pc : Int) + off = (t : Int)) (h : y ≤ x) (kf : Ef P d j (pc + 3) ls st u Q) : Ef P d j pc ls (vI y :: vI x :: st) u Q := ef_icmp_lt hd ht (fun h' => absurd h' (by omega)) (fun _ => kf)
theorem ef_if_ge {x : Int} {off : Int} {t : Nat} (hd : decode (pBc P j) pc = .ok (.ifCond .ge off, 3)) (ht : (pc : Int) + off = (t : Int)) (kt : 0 ≤ x → Ef P d j t ls st u Q) (kf : x < 0 → Ef P d j (pc + 3) ls st u Q) : Ef P d j pc ls (vI x :: st) u Q := by
  by_cases h : cmpI .ge x 0 = true
  · exact Ef.go hd rfl (by simp only [stp, goP, tgt_of ht, Option.map_some, if_pos h]) (kt (by simpa [cmpI] using h))
  · exact Ef.go hd rfl (by simp only [stp, goP, tgt_of ht, Option.map_some, if_neg h]) (kf (by simp [cmpI] at h; omega))
theorem ef_if_geT {x : Int} {off : Int} {t : Nat} (hd : decode (pBc P j) pc = .ok (.ifCond .ge off, 3)) (ht : (pc : Int) + off = (t : Int)) (h : 0 ≤ x) (kt : Ef P d j t ls st u Q) : Ef P d j pc ls (vI x :: st) u Q := ef_if_ge hd ht (fun _ => kt) (fun h' => absurd h (by omega))
theorem ef_if_geF {x : Int} {off : Int} {t : Nat} (hd : decode (pBc P j) pc = .ok (.ifCond .ge off, 3)) (ht : (pc : Int) + off = (t : Int)) (h : x < 0) (kf : Ef P d j (pc + 3) ls st u Q) : Ef P d j pc ls (vI x :: st) u Q := ef_if_ge hd ht (fun h' => absurd h' (by omega)) (fun _ => kf)
theorem ef_icmp_ge {x y : Int} {off : Int} {t : Nat} (hd : decode (pBc P j) pc = .ok (.if_icmp .ge off, 3)) (ht : (pc : Int) + off = (t : Int)) (kt : y ≤ x → Ef P d j t ls st u Q) (kf : x < y → Ef P d j (pc + 3) ls st u Q) : Ef P d j pc ls (vI y :: vI x :: st) u Q := by
  by_cases h : cmpI .ge x y = true
  · exact Ef.go hd rfl (by simp only [stp, goP, tgt_of ht, Option.map_some, if_pos h]) (kt (by simpa [cmpI] using h))
  · exact Ef.go hd rfl (by simp only [stp, goP, tgt_of ht, Option.map_some, if_neg h]) (kf (by simp [cmpI] at h; omega))
theorem ef_icmp_geT {x y : Int} {off : Int} {t : Nat} (hd : decode (pBc P j) pc = .ok (.if_icmp .ge off, 3)) (ht : (pc : Int) + off = (t : Int)) (h : y ≤ x) (kt : Ef P d j t ls st u Q) : Ef P d j pc ls (vI y :: vI x :: st) u Q := ef_icmp_ge hd ht (fun _ => kt) (fun h' => absurd h (by omega))
theorem ef_icmp_geF {x y : Int} {off : Int} {t : Nat} (hd : decode (pBc P j) pc = .ok (.if_icmp .ge off, 3)) (ht : (pc : Int) + off = (t : Int)) (h : x < y) (kf : Ef P d j (pc + 3) ls st u Q) : Ef P d j pc ls (vI y :: vI x :: st) u Q := ef_icmp_ge hd ht (fun h' => absurd h' (by omega)) (fun _ => kf)
theorem ef_if_gt {x : Int} {off : Int} {t : Nat} (hd : decode (pBc P j) pc = .ok (.ifCond .gt off, 3)) (ht : (pc : Int) + off = (t : Int)) (kt : 0 < x → Ef P d j t ls st u Q) (kf : x ≤ 0 → Ef P d j (pc + 3) ls st u Q) : Ef P d j pc ls (vI x :: st) u Q := by
  by_cases h : cmpI .gt x 0 = true
  · exact Ef.go hd rfl (by simp only [stp, goP, tgt_of ht, Option.map_some, if_pos h]) (kt (by simpa [cmpI] using h))
  · exact Ef.go hd rfl (by simp only [stp, goP, tgt_of ht, Option.map_some, if_neg h]) (kf (by simp [cmpI] at h; omega))
theorem ef_if_gtT {x : Int} {off : Int} {t : Nat} (hd : decode (pBc P j) pc = .ok (.ifCond .gt off, 3)) (ht : (pc : Int) + off = (t : Int)) (h : 0 < x) (kt : Ef P d j t ls st u Q) : Ef P d j pc ls (vI x :: st) u Q := ef_if_gt hd ht (fun _ => kt) (fun h' => absurd h (by omega))
theorem ef_if_gtF {x : Int} {off : Int} {t : Nat} (hd : decode (pBc P j) pc = .ok (.ifCond .gt off, 3)) (ht : (pc : Int) + off = (t : Int)) (h : x ≤ 0) (kf : Ef P d j (pc + 3) ls st u Q) : Ef P d j pc ls (vI x :: st) u Q := ef_if_gt hd ht (fun h' => absurd h' (by omega)) (fun _ => kf)
theorem ef_icmp_gt {x y : Int} {off : Int} {t : Nat} (hd : decode (pBc P j) pc = .ok (.if_icmp .gt off, 3)) (ht : (pc : Int) + off = (t : Int)) (kt : y < x → Ef P d j t ls st u Q) (kf : x ≤ y → Ef P d j (pc + 3) ls st u Q) : Ef P d j pc ls (vI y :: vI x :: st) u Q := by
  by_cases h : cmpI .gt x y = true
  · exact Ef.go hd rfl (by simp only [stp, goP, tgt_of ht, Option.map_some, if_pos h]) (kt (by simpa [cmpI] using h))
  · exact Ef.go hd rfl (by simp only [stp, goP, tgt_of ht, Option.map_some, if_neg h]) (kf (by simp [cmpI] at h; omega))
theorem ef_icmp_gtT {x y : Int} {off : Int} {t : Nat} (hd : decode (pBc P j) pc = .ok (.if_icmp .gt off, 3)) (ht : (pc : Int) + off = (t : Int)) (h : y < x) (kt : Ef P d j t ls st u Q) : Ef P d j pc ls (vI y :: vI x :: st) u Q := ef_icmp_gt hd ht (fun _ => kt) (fun h' => absurd h (by omega))
theorem ef_icmp_gtF {x y : Int} {off : Int} {t : Nat} (hd : decode (pBc P j) pc = .ok (.if_icmp .gt off, 3)) (ht : (pc : Int) + off = (t : Int)) (h : x ≤ y) (kf : Ef P d j (pc + 3) ls st u Q) : Ef P d j pc ls (vI y :: vI x :: st) u Q := ef_icmp_gt hd ht (fun h' => absurd h' (by omega)) (fun _ => kf)
theorem ef_if_le {x : Int} {off : Int} {t : Nat} (hd : decode (pBc P j) pc = .ok (.ifCond .le off, 3)) (ht : (pc : Int) + off = (t : Int)) (kt : x ≤ 0 → Ef P d j t ls st u Q) (kf : 0 < x → Ef P d j (pc + 3) ls st u Q) : Ef P d j pc ls (vI x :: st) u Q := by
  by_cases h : cmpI .le x 0 = true
  · exact Ef.go hd rfl (by simp only [stp, goP, tgt_of ht, Option.map_some, if_pos h]) (kt (by simpa [cmpI] using h))
  · exact Ef.go hd rfl (by simp only [stp, goP, tgt_of ht, Option.map_some, if_neg h]) (kf (by simp [cmpI] at h; omega))
theorem ef_if_leT {x : Int} {off : Int} {t : Nat} (hd : decode (pBc P j) pc = .ok (.ifCond .le off, 3)) (ht : (pc : Int) + off = (t : Int)) (h : x ≤ 0) (kt : Ef P d j t ls st u Q) : Ef P d j pc ls (vI x :: st) u Q := ef_if_le hd ht (fun _ => kt) (fun h' => absurd h (by omega))
theorem ef_if_leF {x : Int} {off : Int} {t : Nat} (hd : decode (pBc P j) pc = .ok (.ifCond .le off, 3)) (ht : (pc : Int) + off = (t : Int)) (h : 0 < x) (kf : Ef P d j (pc + 3) ls st u Q) : Ef P d j pc ls (vI x :: st) u Q := ef_if_le hd ht (fun h' => absurd h' (by omega)) (fun _ => kf)
theorem ef_icmp_le {x y : Int} {off : Int} {t : Nat} (hd : decode (pBc P j) pc = .ok (.if_icmp .le off, 3)) (ht : (pc : Int) + off = (t : Int)) (kt : x ≤ y → Ef P d j t ls st u Q) (kf : y < x → Ef P d j (pc + 3) ls st u Q) : Ef P d j pc ls (vI y :: vI x :: st) u Q := by
  by_cases h : cmpI .le x y = true
  · exact Ef.go hd rfl (by simp only [stp, goP, tgt_of ht, Option.map_some, if_pos h]) (kt (by simpa [cmpI] using h))
  · exact Ef.go hd rfl (by simp only [stp, goP, tgt_of ht, Option.map_some, if_neg h]) (kf (by simp [cmpI] at h; omega))
theorem ef_icmp_leT {x y : Int} {off : Int} {t : Nat} (hd : decode (pBc P j) pc = .ok (.if_icmp .le off, 3)) (ht : (pc : Int) + off = (t : Int)) (h : x ≤ y) (kt : Ef P d j t ls st u Q) : Ef P d j pc ls (vI y :: vI x :: st) u Q := ef_icmp_le hd ht (fun _ => kt) (fun h' => absurd h (by omega))
theorem ef_icmp_leF {x y : Int} {off : Int} {t : Nat} (hd : decode (pBc P j) pc = .ok (.if_icmp .le off, 3)) (ht : (pc : Int) + off = (t : Int)) (h : y < x) (kf : Ef P d j (pc + 3) ls st u Q) : Ef P d j pc ls (vI y :: vI x :: st) u Q := ef_icmp_le hd ht (fun h' => absurd h' (by omega)) (fun _ => kf)
theorem ef_table {df lo hi x off : Int} {offs : Array Int} {n t : Nat} (hd : decode (pBc P j) pc = .ok (.tableswitch df lo hi offs, n)) (hs : tsw df lo hi offs x = some off) (ht : (pc : Int) + off = (t : Int)) (k : Ef P d j t ls st u Q) : Ef P d j pc ls (vI x :: st) u Q := Ef.go hd rfl (by simp only [stp, goP, hs, Option.bind_some, tgt_of ht]) k
theorem ef_lookup {df x off : Int} {ps : Array (Int × Int)} {n t : Nat} (hd : decode (pBc P j) pc = .ok (.lookupswitch df ps, n)) (hp : (ps.toList.zip (ps.toList.drop 1)).all (fun (a, next) => a.1 < next.1) = true) (hs : Op.lookupswitch.offset ps.toList df x = off) (ht : (pc : Int) + off = (t : Int)) (k : Ef P d j t ls st u Q) : Ef P d j pc ls (vI x :: st) u Q := Ef.go hd rfl (by simp only [stp, goP, if_pos hp, hs, tgt_of ht]) k
theorem ef_iald {a n i : Nat} {x : Int} (hd : decode (pBc P j) pc = .ok (.iaload, 1)) (hs : mS u a = some (0, n)) (hx : x = (i : Int)) (hi : i < n) (k : Ef P d j (pc + 1) ls (vI (mI u a i) :: st) u Q) : Ef P d j pc ls (vI x :: vR a :: st) u Q := by
  subst hx
  exact Ef.go hd rfl (by simp [stp, goS, kEl, hs, hi]) k
theorem ef_cald {a n i : Nat} {x : Int} (hd : decode (pBc P j) pc = .ok (.caload, 1)) (hs : mS u a = some (1, n)) (hx : x = (i : Int)) (hi : i < n) (k : Ef P d j (pc + 1) ls (vI (mI u a i) :: st) u Q) : Ef P d j pc ls (vI x :: vR a :: st) u Q := by
  subst hx
  exact Ef.go hd rfl (by simp [stp, goS, kEl, hs, hi]) k
theorem ef_bald {a n i : Nat} {x : Int} (hd : decode (pBc P j) pc = .ok (.baload, 1)) (hs : mS u a = some (2, n)) (hx : x = (i : Int)) (hi : i < n) (k : Ef P d j (pc + 1) ls (vI (mI u a i) :: st) u Q) : Ef P d j pc ls (vI x :: vR a :: st) u Q := by
  subst hx
  exact Ef.go hd rfl (by simp [stp, goS, kEl, hs, hi]) k
theorem ef_lald {a n i : Nat} {x : Int} (hd : decode (pBc P j) pc = .ok (.laload, 1)) (hs : mS u a = some (3, n)) (hx : x = (i : Int)) (hi : i < n) (k : Ef P d j (pc + 1) ls (vL (mL u a i) :: st) u Q) : Ef P d j pc ls (vI x :: vR a :: st) u Q := by
  subst hx
  exact Ef.go hd rfl (by simp [stp, goS, kEl, hs, hi]) k
theorem ef_aald {a c n i : Nat} {x : Int} (hd : decode (pBc P j) pc = .ok (.aaload, 1)) (hs : mS u a = some (4 + c, n)) (hc : c < 96) (hx : x = (i : Int)) (hi : i < n) (k : Ef P d j (pc + 1) ls (vF (mF u a i) :: st) u Q) : Ef P d j pc ls (vI x :: vR a :: st) u Q := by
  subst hx
  exact Ef.go hd rfl (by simp [stp, goS, kEl, hs, hi, show 4 + c < 100 by omega, show ¬ 4 + c < 3 by omega, show ¬ 4 + c = 3 by omega]) k
theorem ef_iast {a n i : Nat} {x v w : Int} (hd : decode (pBc P j) pc = .ok (.iastore, 1)) (hs : mS u a = some (0, n)) (hx : x = (i : Int)) (hi : i < n) (hv : v = w) (k : Ef P d j (pc + 1) ls st (sI u (u2 (mI u) a i w)) Q) : Ef P d j pc ls (vI v :: vI x :: vR a :: st) u Q := by
  subst hx; subst hv
  exact Ef.go hd rfl (by simp [stp, kEs, hs, hi]) k
theorem ef_cast {a n i : Nat} {x v w : Int} (hd : decode (pBc P j) pc = .ok (.castore, 1)) (hs : mS u a = some (1, n)) (hx : x = (i : Int)) (hi : i < n) (hv : v % 65536 = w) (k : Ef P d j (pc + 1) ls st (sI u (u2 (mI u) a i w)) Q) : Ef P d j pc ls (vI v :: vI x :: vR a :: st) u Q := by
  subst hx; subst hv
  exact Ef.go hd rfl (by simp [stp, kEs, hs, hi]) k
theorem ef_bast {a n i : Nat} {x v w : Int} (hd : decode (pBc P j) pc = .ok (.bastore, 1)) (hs : mS u a = some (2, n)) (hx : x = (i : Int)) (hi : i < n) (hv : v % 2 = w) (k : Ef P d j (pc + 1) ls st (sI u (u2 (mI u) a i w)) Q) : Ef P d j pc ls (vI v :: vI x :: vR a :: st) u Q := by
  subst hx; subst hv
  exact Ef.go hd rfl (by simp [stp, kEs, hs, hi]) k
theorem ef_last {a n i : Nat} {x : Int} {v : Int64} (hd : decode (pBc P j) pc = .ok (.lastore, 1)) (hs : mS u a = some (3, n)) (hx : x = (i : Int)) (hi : i < n) (k : Ef P d j (pc + 1) ls st (sL u (u2 (mL u) a i v)) Q) : Ef P d j pc ls (vL v :: vI x :: vR a :: st) u Q := by
  subst hx
  exact Ef.go hd rfl (by simp [stp, kLs, hs, hi]) k
theorem ef_aast {a b c n m i : Nat} {x : Int} (hd : decode (pBc P j) pc = .ok (.aastore, 1)) (hs : mS u a = some (4 + c, n)) (hb : mS u b = some (100 + c, m)) (hc : c < 96) (hx : x = (i : Int)) (hi : i < n) (k : Ef P d j (pc + 1) ls st (sF u (u2 (mF u) a i (some b))) Q) : Ef P d j pc ls (vR b :: vI x :: vR a :: st) u Q := by
  subst hx
  exact Ef.go hd rfl (by simp [stp, kAs, hs, hb, hi, show 4 + c < 100 by omega, show 100 + c = 96 + (4 + c) by omega]) k
theorem ef_alen {a k0 n : Nat} (hd : decode (pBc P j) pc = .ok (.arraylength, 1)) (hs : mS u a = some (k0, n)) (hk : k0 < 100) (k : Ef P d j (pc + 1) ls (vI n :: st) u Q) : Ef P d j pc ls (vR a :: st) u Q := Ef.go hd rfl (by simp only [stp, goS, kLen, hs, if_pos hk]) k
theorem ef_getI {k0 a c f n : Nat} (hd : decode (pBc P j) pc = .ok (.getfield k0, 3)) (hl : pLf P (pOw P j) k0 = some (c, (f, 0))) (hs : mS u a = some (100 + c, n)) (hf : f < n) (k : Ef P d j (pc + 3) ls (vI (mI u a f) :: st) u Q) : Ef P d j pc ls (vR a :: st) u Q := Ef.go hd rfl (by simp [stp, goS, kGet, hl, hs, hf]) k
theorem ef_getL {k0 a c f n : Nat} (hd : decode (pBc P j) pc = .ok (.getfield k0, 3)) (hl : pLf P (pOw P j) k0 = some (c, (f, 1))) (hs : mS u a = some (100 + c, n)) (hf : f < n) (k : Ef P d j (pc + 3) ls (vL (mL u a f) :: st) u Q) : Ef P d j pc ls (vR a :: st) u Q := Ef.go hd rfl (by simp [stp, goS, kGet, hl, hs, hf]) k
theorem ef_getZ {k0 a c f n : Nat} (hd : decode (pBc P j) pc = .ok (.getfield k0, 3)) (hl : pLf P (pOw P j) k0 = some (c, (f, 3))) (hs : mS u a = some (100 + c, n)) (hf : f < n) (k : Ef P d j (pc + 3) ls (vI (mI u a f) :: st) u Q) : Ef P d j pc ls (vR a :: st) u Q := Ef.go hd rfl (by simp [stp, goS, kGet, hl, hs, hf]) k
theorem ef_getR {k0 a c f n : Nat} {r : Option Nat} (hd : decode (pBc P j) pc = .ok (.getfield k0, 3)) (hl : pLf P (pOw P j) k0 = some (c, (f, 2))) (hs : mS u a = some (100 + c, n)) (hf : f < n) (hr : mF u a f = r) (k : Ef P d j (pc + 3) ls (vF r :: st) u Q) : Ef P d j pc ls (vR a :: st) u Q := Ef.go hd rfl (by simp [stp, goS, kGet, hl, hs, hf, hr]) k
theorem ef_putI {k0 a c f n : Nat} {x : Int} (hd : decode (pBc P j) pc = .ok (.putfield k0, 3)) (hl : tPf j k0 = some (c, (f, 0))) (hs : mS u a = some (100 + c, n)) (hf : f < n) (k : Ef P d j (pc + 3) ls st (sI u (u2 (mI u) a f x)) Q) : Ef P d j pc ls (vI x :: vR a :: st) u Q := Ef.go hd rfl (by simp [stp, kPut, hl, hs, hf]) k
theorem ef_putZ {k0 a c f n : Nat} {x : Int} (hd : decode (pBc P j) pc = .ok (.putfield k0, 3)) (hl : tPf j k0 = some (c, (f, 3))) (hs : mS u a = some (100 + c, n)) (hf : f < n) (hx : x = 0 ∨ x = 1) (k : Ef P d j (pc + 3) ls st (sI u (u2 (mI u) a f x)) Q) : Ef P d j pc ls (vI x :: vR a :: st) u Q := Ef.go hd rfl (by simp [stp, kPut, hl, hs, hf, hx]) k
theorem ef_putR {k0 a c f n : Nat} {r : Option Nat} (hd : decode (pBc P j) pc = .ok (.putfield k0, 3)) (hl : tPf j k0 = some (c, (f, 2))) (hs : mS u a = some (100 + c, n)) (hf : f < n) (k : Ef P d j (pc + 3) ls st (sF u (u2 (mF u) a f r)) Q) : Ef P d j pc ls (vF r :: vR a :: st) u Q := Ef.go hd rfl (by simp [stp, kPut, hl, hs, hf]) k
theorem ef_new {k0 c m : Nat} (hd : decode (pBc P j) pc = .ok (.new k0, 3)) (hl : pLc P (pOw P j) k0 = some (c, m)) (k : Ef P d j (pc + 3) ls (vR (mT u) :: st) (mNew u (100 + c) m) Q) : Ef P d j pc ls st u Q := Ef.go hd rfl (by simp only [stp, hl]) k
theorem ef_newa {t : ArrayType} {k0 n : Nat} {x : Int} (hd : decode (pBc P j) pc = .ok (.newarray t, 2)) (ht : aKd t = some k0) (hx : x = (n : Int)) (hn : n < 65536) (k : Ef P d j (pc + 2) ls (vR (mT u) :: st) (mNew u k0 n) Q) : Ef P d j pc ls (vI x :: st) u Q := by
  subst hx
  exact Ef.go hd rfl (by simp [stp, ht, kNa, show (n : Int) < 65536 by omega]) k
theorem ef_newr {k1 c n : Nat} {x : Int} (hd : decode (pBc P j) pc = .ok (.anewarray k1, 3)) (ht : pLa P (pOw P j) k1 = some c) (hx : x = (n : Int)) (hn : n < 65536) (k : Ef P d j (pc + 3) ls (vR (mT u) :: st) (mNew u (4 + c) n) Q) : Ef P d j pc ls (vI x :: st) u Q := by
  subst hx
  exact Ef.go hd rfl (by simp [stp, ht, kNa, show (n : Int) < 65536 by omega]) k
theorem ef_iret {x : Int} (hd : decode (pBc P j) pc = .ok (.ireturn, 1)) (hk : rk (tRt j) = 1) (k : Q (.inl (some (vI x))) u) : Ef P d j pc ls [vI x] u Q := Ef.ret hd rfl rfl (by simp only [rt, hk, true_or, if_true]) k
theorem ef_zret {x : Int} (hd : decode (pBc P j) pc = .ok (.ireturn, 1)) (hk : rk (tRt j) = 2) (hx : x = 0 ∨ x = 1) (k : Q (.inl (some (vI x))) u) : Ef P d j pc ls [vI x] u Q := Ef.ret hd rfl rfl (by simp only [rt, hk, hx, and_self, true_or, or_true, if_true]) k
theorem ef_cret {x : Int} (hd : decode (pBc P j) pc = .ok (.ireturn, 1)) (hk : rk (tRt j) = 3) (h0 : 0 ≤ x) (h1 : x < 65536) (k : Q (.inl (some (vI x))) u) : Ef P d j pc ls [vI x] u Q := Ef.ret hd rfl rfl (by simp [rt, hk, h0, h1]) k
theorem ef_bret (hd : decode (pBc P j) pc = .ok (.ireturn, 1)) (hk : rk (tRt j) = 6) (k : Q (.inl (some (vI 0))) u) : Ef P d j pc ls [vI 0] u Q := Ef.ret hd rfl rfl (by simp [rt, hk]) k
theorem ef_lret {x : Int64} (hd : decode (pBc P j) pc = .ok (.lreturn, 1)) (hk : rk (tRt j) = 4) (k : Q (.inl (some (vL x))) u) : Ef P d j pc ls [vL x] u Q := Ef.ret hd rfl rfl (by simp only [rt, hk, if_true]) k
theorem ef_aret {a : Nat} (hd : decode (pBc P j) pc = .ok (.areturn, 1)) (hk : rk (tRt j) = 5) (k : Q (.inl (some (vR a))) u) : Ef P d j pc ls [vR a] u Q := Ef.ret hd rfl rfl (by simp only [rt, hk, if_true]) k
theorem ef_vret (hd : decode (pBc P j) pc = .ok (.return_, 1)) (hk : rk (tRt j) = 0) (k : Q (.inl none) u) : Ef P d j pc ls [] u Q := Ef.ret hd rfl rfl (by simp only [rt, hk, if_true]) k
theorem ef_callV {k0 y m : Nat} {as rest : List Vl} {b c0 n0 : Nat} (hd : decode (pBc P j) pc = .ok (.invokevirtual k0, 3)) (hl : pLm P (pOw P j) k0 = some (y, m)) (ha : st = as.reverse ++ vR b :: rest) (hm : as.length + 1 = m) (hb : mS u b = some (100 + c0, n0)) (ho : tOw y = c0) (h0 : tSt y = 0) (h12 : c0 ≠ 12) (hw : (rest.map cat).sum ≤ 8) (hk : pKd P y = 0) (hx : (ent1 (vR b :: as)).length ≤ pMx P y)
    (k : Ec P d y (vR b :: as) u (fun r u' => match r with
      | .inl v => Ef P (d + 1) j (pc + 3) ls (v.toList ++ rest) u' Q
      | .inr x => match hnd pc x.1 (pHs P j) with
        | some h => Ef P (d + 1) j h ls [vR x.2] u' Q
        | none => pHs P j = [] ∧ Q (.inr x) u')) : Ef P (d + 1) j pc ls st u Q :=
  Ef.call hd rfl rfl rfl (by
    subst ha; subst hm
    simp [cl, iK, hl, cK, h0, tk_r, dr_r]) hw hk hx (by simp [rcv, h0, hb, ho, h12]) k
theorem ef_biV {k0 y m : Nat} {as rest : List Vl} {v : Option Vl} {u' : Mm} (hd : decode (pBc P j) pc = .ok (.invokevirtual k0, 3)) (hl : pLm P (pOw P j) k0 = some (y, m)) (ha : st = as.reverse ++ rest) (hm : as.length = m) (hc : cK (.invokevirtual k0) y = true) (hw : (rest.map cat).sum ≤ 8) (hb : bi P (pKd P y) as u = some (v, u'))
    (k : Ef P d j (pc + 3) ls (v.toList ++ rest) u' Q) : Ef P d j pc ls st u Q :=
  Ef.bi hd rfl rfl rfl (by
    subst ha; subst hm
    simp [cl, iK, hl, hc]) hw hb k
theorem ef_callI {k0 y m : Nat} {as rest : List Vl} {b : Nat} (hd : decode (pBc P j) pc = .ok (.invokespecial k0, 3)) (hl : pLm P (pOw P j) k0 = some (y, m)) (ha : st = as.reverse ++ vR b :: rest) (hm : as.length + 1 = m) (h0 : tSt y = 2) (hw : (rest.map cat).sum ≤ 8) (hk : pKd P y = 0) (hx : (ent1 (vR b :: as)).length ≤ pMx P y)
    (k : Ec P d y (vR b :: as) u (fun r u' => match r with
      | .inl v => Ef P (d + 1) j (pc + 3) ls (v.toList ++ rest) u' Q
      | .inr x => match hnd pc x.1 (pHs P j) with
        | some h => Ef P (d + 1) j h ls [vR x.2] u' Q
        | none => pHs P j = [] ∧ Q (.inr x) u')) : Ef P (d + 1) j pc ls st u Q :=
  Ef.call hd rfl rfl rfl (by
    subst ha; subst hm
    simp [cl, iK, hl, cK, h0, tk_r, dr_r]) hw hk hx (by simp [rcv, h0]) k
theorem ef_biI {k0 y m : Nat} {as rest : List Vl} {v : Option Vl} {u' : Mm} (hd : decode (pBc P j) pc = .ok (.invokespecial k0, 3)) (hl : pLm P (pOw P j) k0 = some (y, m)) (ha : st = as.reverse ++ rest) (hm : as.length = m) (hc : cK (.invokespecial k0) y = true) (hw : (rest.map cat).sum ≤ 8) (hb : bi P (pKd P y) as u = some (v, u'))
    (k : Ef P d j (pc + 3) ls (v.toList ++ rest) u' Q) : Ef P d j pc ls st u Q :=
  Ef.bi hd rfl rfl rfl (by
    subst ha; subst hm
    simp [cl, iK, hl, hc]) hw hb k
theorem ef_callS {k0 y m : Nat} {as rest : List Vl} (hd : decode (pBc P j) pc = .ok (.invokestatic k0, 3)) (hl : pLm P (pOw P j) k0 = some (y, m)) (ha : st = as.reverse ++ rest) (hm : as.length = m) (h0 : tSt y = 1) (hw : (rest.map cat).sum ≤ 8) (hk : pKd P y = 0) (hx : (ent1 as).length ≤ pMx P y)
    (k : Ec P d y as u (fun r u' => match r with
      | .inl v => Ef P (d + 1) j (pc + 3) ls (v.toList ++ rest) u' Q
      | .inr x => match hnd pc x.1 (pHs P j) with
        | some h => Ef P (d + 1) j h ls [vR x.2] u' Q
        | none => pHs P j = [] ∧ Q (.inr x) u')) : Ef P (d + 1) j pc ls st u Q :=
  Ef.call hd rfl rfl rfl (by
    subst ha; subst hm
    simp [cl, iK, hl, cK, h0, tk_r, dr_r]) hw hk hx (by simp [rcv, h0]) k
theorem ef_biS {k0 y m : Nat} {as rest : List Vl} {v : Option Vl} {u' : Mm} (hd : decode (pBc P j) pc = .ok (.invokestatic k0, 3)) (hl : pLm P (pOw P j) k0 = some (y, m)) (ha : st = as.reverse ++ rest) (hm : as.length = m) (hc : cK (.invokestatic k0) y = true) (hw : (rest.map cat).sum ≤ 8) (hb : bi P (pKd P y) as u = some (v, u'))
    (k : Ef P d j (pc + 3) ls (v.toList ++ rest) u' Q) : Ef P d j pc ls st u Q :=
  Ef.bi hd rfl rfl rfl (by
    subst ha; subst hm
    simp [cl, iK, hl, hc]) hw hb k
end O
end
section
/-! The rules that touch the memory, over ints g laid on a memory u. -/
theorem mS_sI (u : Mm) (g : Nat → Nat → Int) : mS (sI u g) = mS u := rfl
theorem mF_sI (u : Mm) (g : Nat → Nat → Int) : mF (sI u g) = mF u := rfl
theorem mL_sI (u : Mm) (g : Nat → Nat → Int) : mL (sI u g) = mL u := rfl
theorem mI_sI (u : Mm) (g : Nat → Nat → Int) : mI (sI u g) = g := rfl
theorem sI_sI (u : Mm) (g h : Nat → Nat → Int) : sI (sI u g) h = sI u h := rfl
theorem sI_mI (u : Mm) : sI u (mI u) = u := rfl
section G
variable {P : Pg} {d j pc : Nat} {ls ls' : Ls} {st : List Vl} {u : Mm} {g : Nat → Nat → Int} {Q : Rs → Mm → Prop}
theorem eg_iald {a n i : Nat} {x : Int} (hd : decode (pBc P j) pc = .ok (.iaload, 1)) (hs : mS u a = some (0, n)) (hx : x = (i : Int)) (hi : i < n) (k : Ef P d j (pc + 1) ls (vI (g a i) :: st) (sI u g) Q) : Ef P d j pc ls (vI x :: vR a :: st) (sI u g) Q := ef_iald (u := sI u g) hd hs hx hi k
theorem eg_cald {a n i : Nat} {x : Int} (hd : decode (pBc P j) pc = .ok (.caload, 1)) (hs : mS u a = some (1, n)) (hx : x = (i : Int)) (hi : i < n) (k : Ef P d j (pc + 1) ls (vI (g a i) :: st) (sI u g) Q) : Ef P d j pc ls (vI x :: vR a :: st) (sI u g) Q := ef_cald (u := sI u g) hd hs hx hi k
theorem eg_bald {a n i : Nat} {x : Int} (hd : decode (pBc P j) pc = .ok (.baload, 1)) (hs : mS u a = some (2, n)) (hx : x = (i : Int)) (hi : i < n) (k : Ef P d j (pc + 1) ls (vI (g a i) :: st) (sI u g) Q) : Ef P d j pc ls (vI x :: vR a :: st) (sI u g) Q := ef_bald (u := sI u g) hd hs hx hi k
theorem eg_lald {a n i : Nat} {x : Int} (hd : decode (pBc P j) pc = .ok (.laload, 1)) (hs : mS u a = some (3, n)) (hx : x = (i : Int)) (hi : i < n) (k : Ef P d j (pc + 1) ls (vL (mL u a i) :: st) (sI u g) Q) : Ef P d j pc ls (vI x :: vR a :: st) (sI u g) Q := ef_lald (u := sI u g) hd hs hx hi k
theorem eg_aald {a c n i : Nat} {x : Int} {r : Option Nat} (hd : decode (pBc P j) pc = .ok (.aaload, 1)) (hs : mS u a = some (4 + c, n)) (hc : c < 96) (hx : x = (i : Int)) (hi : i < n) (hr : mF u a i = r) (k : Ef P d j (pc + 1) ls (vF r :: st) (sI u g) Q) : Ef P d j pc ls (vI x :: vR a :: st) (sI u g) Q := by
  subst hr
  exact ef_aald (u := sI u g) hd hs hc hx hi k
theorem eg_iast {a n i : Nat} {x v w : Int} (hd : decode (pBc P j) pc = .ok (.iastore, 1)) (hs : mS u a = some (0, n)) (hx : x = (i : Int)) (hi : i < n) (hv : v = w) (k : Ef P d j (pc + 1) ls st (sI u (u2 g a i w)) Q) : Ef P d j pc ls (vI v :: vI x :: vR a :: st) (sI u g) Q := ef_iast (u := sI u g) hd hs hx hi hv k
theorem eg_cast {a n i : Nat} {x v w : Int} (hd : decode (pBc P j) pc = .ok (.castore, 1)) (hs : mS u a = some (1, n)) (hx : x = (i : Int)) (hi : i < n) (hv : v % 65536 = w) (k : Ef P d j (pc + 1) ls st (sI u (u2 g a i w)) Q) : Ef P d j pc ls (vI v :: vI x :: vR a :: st) (sI u g) Q := ef_cast (u := sI u g) hd hs hx hi hv k
theorem eg_bast {a n i : Nat} {x v w : Int} (hd : decode (pBc P j) pc = .ok (.bastore, 1)) (hs : mS u a = some (2, n)) (hx : x = (i : Int)) (hi : i < n) (hv : v % 2 = w) (k : Ef P d j (pc + 1) ls st (sI u (u2 g a i w)) Q) : Ef P d j pc ls (vI v :: vI x :: vR a :: st) (sI u g) Q := ef_bast (u := sI u g) hd hs hx hi hv k
theorem eg_alen {a k0 n : Nat} (hd : decode (pBc P j) pc = .ok (.arraylength, 1)) (hs : mS u a = some (k0, n)) (hk : k0 < 100) (k : Ef P d j (pc + 1) ls (vI n :: st) (sI u g) Q) : Ef P d j pc ls (vR a :: st) (sI u g) Q := ef_alen (u := sI u g) hd hs hk k
theorem eg_getI {k0 a c f n : Nat} (hd : decode (pBc P j) pc = .ok (.getfield k0, 3)) (hl : pLf P (pOw P j) k0 = some (c, (f, 0))) (hs : mS u a = some (100 + c, n)) (hf : f < n) (k : Ef P d j (pc + 3) ls (vI (g a f) :: st) (sI u g) Q) : Ef P d j pc ls (vR a :: st) (sI u g) Q := ef_getI (u := sI u g) hd hl hs hf k
theorem eg_getL {k0 a c f n : Nat} (hd : decode (pBc P j) pc = .ok (.getfield k0, 3)) (hl : pLf P (pOw P j) k0 = some (c, (f, 1))) (hs : mS u a = some (100 + c, n)) (hf : f < n) (k : Ef P d j (pc + 3) ls (vL (mL u a f) :: st) (sI u g) Q) : Ef P d j pc ls (vR a :: st) (sI u g) Q := ef_getL (u := sI u g) hd hl hs hf k
theorem eg_getZ {k0 a c f n : Nat} (hd : decode (pBc P j) pc = .ok (.getfield k0, 3)) (hl : pLf P (pOw P j) k0 = some (c, (f, 3))) (hs : mS u a = some (100 + c, n)) (hf : f < n) (k : Ef P d j (pc + 3) ls (vI (g a f) :: st) (sI u g) Q) : Ef P d j pc ls (vR a :: st) (sI u g) Q := ef_getZ (u := sI u g) hd hl hs hf k
theorem eg_getR {k0 a c f n : Nat} {r : Option Nat} (hd : decode (pBc P j) pc = .ok (.getfield k0, 3)) (hl : pLf P (pOw P j) k0 = some (c, (f, 2))) (hs : mS u a = some (100 + c, n)) (hf : f < n) (hr : mF u a f = r) (k : Ef P d j (pc + 3) ls (vF r :: st) (sI u g) Q) : Ef P d j pc ls (vR a :: st) (sI u g) Q := ef_getR (u := sI u g) hd hl hs hf hr k
theorem eg_putI {k0 a c f n : Nat} {x : Int} (hd : decode (pBc P j) pc = .ok (.putfield k0, 3)) (hl : tPf j k0 = some (c, (f, 0))) (hs : mS u a = some (100 + c, n)) (hf : f < n) (k : Ef P d j (pc + 3) ls st (sI u (u2 g a f x)) Q) : Ef P d j pc ls (vI x :: vR a :: st) (sI u g) Q := ef_putI (u := sI u g) hd hl hs hf k
theorem eg_putZ {k0 a c f n : Nat} {x : Int} (hd : decode (pBc P j) pc = .ok (.putfield k0, 3)) (hl : tPf j k0 = some (c, (f, 3))) (hs : mS u a = some (100 + c, n)) (hf : f < n) (hx : x = 0 ∨ x = 1) (k : Ef P d j (pc + 3) ls st (sI u (u2 g a f x)) Q) : Ef P d j pc ls (vI x :: vR a :: st) (sI u g) Q := ef_putZ (u := sI u g) hd hl hs hf hx k
end G
end
section
/-! The small machine against the JVM's: values, locals, the heap. -/
def tv : Vl → Value
  | .inl x => .int (Int32.ofInt x)
  | .inr (.inl x) => .long x
  | .inr (.inr r) => va_rf r
def vok : Vl → Prop
  | .inl x => inR x
  | _ => True
theorem tv_cat (v : Vl) : (tv v).category = cat v := by
  rcases v with x | x | r
  · rfl
  · rfl
  · cases r <;> rfl
theorem tv_cats (l : List Vl) : ((l.map tv).map fun v => v.category).sum = (l.map cat).sum := by
  rw [List.map_map]
  congr 1
  exact List.map_congr_left fun v _ => tv_cat v
theorem wr_inR (x : Int) : inR (wr x) := by
  unfold wr inR
  have h1 := Int32.le_toInt (Int32.ofInt x)
  have h2 := Int32.toInt_lt (Int32.ofInt x)
  omega
theorem ofI_wr (x : Int) : Int32.ofInt (wr x) = Int32.ofInt x := by
  unfold wr
  exact Int32.ofInt_toInt _
theorem ofI_t (x : Int32) : Int32.ofInt x.toInt = x := Int32.ofInt_toInt _
theorem i32_inR (x : Int32) : inR x.toInt := by
  unfold inR
  have h1 := Int32.le_toInt x
  have h2 := Int32.toInt_lt x
  omega
theorem toI {x : Int} (h : inR x) : (Int32.ofInt x).toInt = x := wr_in h
theorem ofI_lt {x y : Int} (hx : inR x) (hy : inR y) : Int32.ofInt x < Int32.ofInt y ↔ x < y := by rw [Int32.lt_iff_toInt_lt, toI hx, toI hy]
theorem ofI_le {x y : Int} (hx : inR x) (hy : inR y) : Int32.ofInt x ≤ Int32.ofInt y ↔ x ≤ y := by rw [Int32.le_iff_toInt_le, toI hx, toI hy]
theorem ofI_eq {x y : Int} (hx : inR x) (hy : inR y) : Int32.ofInt x = Int32.ofInt y ↔ x = y := ⟨fun h => by rw [← toI hx, h, toI hy], fun h => by rw [h]⟩
theorem ofI_0 : Int32.ofInt 0 = 0 := by decide
theorem inR_0 : inR 0 := ⟨by decide, by decide⟩
theorem ofI_nat (n : Nat) : Int32.ofInt (n : Int) = Int32.ofNat n := rfl
theorem ofI_clamp {x : Int} (h : inR x) (h0 : 0 ≤ x) : (Int32.ofInt x).toNatClampNeg = x.toNat := by
  rw [← Int32.toNat_toInt, toI h]
theorem ofI_in {x : Int} {n : Nat} (h : inR x) (h0 : 0 ≤ x) (hn : x < (n : Int)) : ¬ (Int32.ofInt x < 0 ∨ n ≤ (Int32.ofInt x).toNatClampNeg) := by
  rw [ofI_clamp h h0, ← ofI_0, ofI_lt h inR_0]
  omega
/-- the locals -/
def LR (a : Array Slot) (n : Nat) (ls : Ls) : Prop := ls.length = n ∧ a.size = n ∧ lv_wf a ∧ (∀ (i : Nat) (v : Vl), ls.getD i none = some v → a[i]? = some (.val (tv v))) ∧ ∀ (i : Nat) (v : Vl), ls.getD i none = some v → vok v
def lvl (ls : Ls) : List (Nat × Value) := (List.range ls.length).filterMap fun i => (ls.getD i none).map fun v => (i, tv v)
theorem gD_lt {ls : Ls} {i : Nat} {v : Vl} (h : ls.getD i none = some v) : i < ls.length := by
  rw [List.getD_eq_getElem?_getD] at h
  cases h2 : ls[i]? with
  | none => rw [h2] at h; cases h
  | some w => exact (List.getElem?_eq_some_iff.mp h2).1
theorem lvl_mem {ls : Ls} {i : Nat} {w : Value} : (i, w) ∈ lvl ls ↔ ∃ v, ls.getD i none = some v ∧ w = tv v := by
  unfold lvl
  rw [List.mem_filterMap]
  constructor
  · rintro ⟨k, -, hk⟩
    cases hv : ls.getD k none with
    | none => rw [hv] at hk; cases hk
    | some v =>
      rw [hv] at hk
      simp only [Option.map_some, Option.some.injEq, Prod.mk.injEq] at hk
      obtain ⟨rfl, rfl⟩ := hk
      exact ⟨v, hv, rfl⟩
  · rintro ⟨v, hv, rfl⟩
    exact ⟨i, List.mem_range.mpr (gD_lt hv), by rw [hv]; rfl⟩
theorem LR.has {a : Array Slot} {n : Nat} {ls : Ls} (h : LR a n ls) : lv_has a n (lvl ls) := by
  refine ⟨h.2.1, h.2.2.1, fun q hq => ?_⟩
  obtain ⟨i, w⟩ := q
  obtain ⟨v, hv, rfl⟩ := lvl_mem.mp hq
  exact h.2.2.2.1 i v hv
theorem gD_set {ls : Ls} {i k : Nat} {x : Option Vl} : (ls.set i x).getD k none = if k = i ∧ i < ls.length then x else ls.getD k none := by
  rw [List.getD_eq_getElem?_getD, List.getD_eq_getElem?_getD, List.getElem?_set]
  by_cases h : i = k
  · subst h
    by_cases h2 : i < ls.length
    · simp [h2]
    · simp [h2, List.getElem?_eq_none (Nat.le_of_not_lt h2)]
  · rw [if_neg h, if_neg (fun q => h q.1.symm)]
theorem lClr_gD {ls : Ls} {i k : Nat} : (lClr ls i).getD k none = if k + 1 = i ∧ isLg (ls.getD k none) = true then none else ls.getD k none := by
  unfold lClr
  cases i with
  | zero => simp
  | succ m =>
    simp only
    by_cases h : isLg (ls.getD m none) = true
    · rw [if_pos h, gD_set]
      by_cases hk : k = m
      · subst hk
        by_cases hl : k < ls.length
        · rw [if_pos ⟨rfl, hl⟩, if_pos ⟨rfl, h⟩]
        · have : ls.getD k none = none := by rw [List.getD_eq_getElem?_getD, List.getElem?_eq_none (Nat.le_of_not_lt hl)]; rfl
          rw [this] at h
          cases h
      · rw [if_neg (fun q => hk q.1), if_neg (fun q => hk (by omega))]
    · rw [if_neg h]
      by_cases hk : k + 1 = m + 1 ∧ isLg (ls.getD k none) = true
      · have : k = m := by omega
        subst this
        exact absurd hk.2 h
      · rw [if_neg hk]
theorem lClr_len {ls : Ls} {i : Nat} : (lClr ls i).length = ls.length := by
  unfold lClr
  cases i with
  | zero => rfl
  | succ m =>
    simp only
    split
    · exact List.length_set
    · rfl
theorem isLg_cat {v : Vl} : isLg (some v) = true ↔ cat v = 2 := by
  unfold cat
  by_cases h : isLg (some v) = true
  · simp [h]
  · simp [h]
theorem cat_1 {v : Vl} (h : ¬ isLg (some v) = true) : cat v = 1 := by unfold cat; rw [if_neg h]
/-- a store of one slot -/
theorem LR.put1 {a : Array Slot} {n i : Nat} {ls ls' : Ls} {v : Vl} (h : LR a n ls) (hv : ¬ isLg (some v) = true) (ho : vok v) (hp : lPut ls i v = some ls') :
    i < n ∧ ∀ a' : Array Slot, lv_has a' n ((i, tv v) :: (lvl ls).filter (fun q => !(q.1 == i) && !(q.1 + 1 == i && q.2.category == 2))) → LR a' n ls' := by
  unfold lPut at hp
  rw [if_neg hv] at hp
  by_cases hi : i < ls.length
  · rw [if_pos hi] at hp
    cases hp
    have key : ∀ (k : Nat) (w : Vl), ((lClr ls i).set i (some v)).getD k none = some w → (k = i ∧ w = v) ∨ (k ≠ i ∧ ls.getD k none = some w ∧ ¬ (k + 1 = i ∧ cat w = 2)) := by
      intro k w hw
      rw [gD_set, lClr_len] at hw
      by_cases hk : k = i ∧ i < ls.length
      · rw [if_pos hk] at hw
        cases hw
        exact Or.inl ⟨hk.1, rfl⟩
      · rw [if_neg hk, lClr_gD] at hw
        have hk' : k ≠ i := fun q => hk ⟨q, hi⟩
        by_cases hc : k + 1 = i ∧ isLg (ls.getD k none) = true
        · rw [if_pos hc] at hw; cases hw
        · rw [if_neg hc] at hw
          exact Or.inr ⟨hk', hw, fun q => hc ⟨q.1, by rw [hw]; exact isLg_cat.mpr q.2⟩⟩
    refine ⟨by rw [← h.1]; exact hi, fun a' ha => ⟨by rw [List.length_set, lClr_len]; exact h.1, ha.1, ha.2.1, fun k w hw => ?_, fun k w hw => ?_⟩⟩
    · rcases key k w hw with ⟨rfl, rfl⟩ | ⟨h1, h2, h3⟩
      · exact ha.2.2 (k, tv w) List.mem_cons_self
      · refine ha.2.2 (k, tv w) (List.mem_cons_of_mem _ (List.mem_filter.mpr ⟨lvl_mem.mpr ⟨w, h2, rfl⟩, ?_⟩))
        simp only [tv_cat, Bool.and_eq_true, Bool.not_eq_true', beq_eq_false_iff_ne, Bool.and_eq_false_iff]
        refine ⟨h1, ?_⟩
        by_cases hk : k + 1 = i
        · exact Or.inr (fun q => h3 ⟨hk, q⟩)
        · exact Or.inl hk
    · rcases key k w hw with ⟨rfl, rfl⟩ | ⟨-, h2, -⟩
      · exact ho
      · exact h.2.2.2.2 k w h2
  · rw [if_neg hi] at hp; cases hp
/-- a store of a long -/
theorem LR.put2 {a : Array Slot} {n i : Nat} {ls ls' : Ls} {v : Vl} (h : LR a n ls) (hv : isLg (some v) = true) (ho : vok v) (hp : lPut ls i v = some ls') :
    i + 1 < n ∧ ∀ a' : Array Slot, lv_has a' n ((i, tv v) :: (lvl ls).filter (fun q => !(q.1 == i) && (!(q.1 == i + 1) && !(q.1 + 1 == i && q.2.category == 2)))) → LR a' n ls' := by
  unfold lPut at hp
  rw [if_pos hv] at hp
  by_cases hi : i + 1 < ls.length
  · rw [if_pos hi] at hp
    cases hp
    have key : ∀ (k : Nat) (w : Vl), (((lClr ls i).set i (some v)).set (i + 1) none).getD k none = some w → (k = i ∧ w = v) ∨ (k ≠ i ∧ k ≠ i + 1 ∧ ls.getD k none = some w ∧ ¬ (k + 1 = i ∧ cat w = 2)) := by
      intro k w hw
      rw [gD_set, List.length_set, lClr_len] at hw
      by_cases hk1 : k = i + 1 ∧ i + 1 < ls.length
      · rw [if_pos hk1] at hw; cases hw
      · rw [if_neg hk1, gD_set, lClr_len] at hw
        have hk1' : k ≠ i + 1 := fun q => hk1 ⟨q, hi⟩
        by_cases hk : k = i ∧ i < ls.length
        · rw [if_pos hk] at hw
          cases hw
          exact Or.inl ⟨hk.1, rfl⟩
        · rw [if_neg hk, lClr_gD] at hw
          have hk' : k ≠ i := fun q => hk ⟨q, by omega⟩
          by_cases hc : k + 1 = i ∧ isLg (ls.getD k none) = true
          · rw [if_pos hc] at hw; cases hw
          · rw [if_neg hc] at hw
            exact Or.inr ⟨hk', hk1', hw, fun q => hc ⟨q.1, by rw [hw]; exact isLg_cat.mpr q.2⟩⟩
    refine ⟨by rw [← h.1]; exact hi, fun a' ha => ⟨by rw [List.length_set, List.length_set, lClr_len]; exact h.1, ha.1, ha.2.1, fun k w hw => ?_, fun k w hw => ?_⟩⟩
    · rcases key k w hw with ⟨rfl, rfl⟩ | ⟨h1, h1', h2, h3⟩
      · exact ha.2.2 (k, tv w) List.mem_cons_self
      · refine ha.2.2 (k, tv w) (List.mem_cons_of_mem _ (List.mem_filter.mpr ⟨lvl_mem.mpr ⟨w, h2, rfl⟩, ?_⟩))
        simp only [tv_cat, Bool.and_eq_true, Bool.not_eq_true', beq_eq_false_iff_ne, Bool.and_eq_false_iff]
        refine ⟨h1, h1', ?_⟩
        by_cases hk : k + 1 = i
        · exact Or.inr (fun q => h3 ⟨hk, q⟩)
        · exact Or.inl hk
    · rcases key k w hw with ⟨rfl, rfl⟩ | ⟨-, -, h2, -⟩
      · exact ho
      · exact h.2.2.2.2 k w h2
  · rw [if_neg hi] at hp; cases hp
end
section
/-! Instructions that leave the heap alone: the small machine's step is the JVM's. Written by wip/whole/gen/mk21.py. -/
theorem goS_some {n pc pc' : Nat} {ls ls' : Ls} {u u' : Mm} {o : Option (List Vl)} {st' : List Vl} (h : goS n pc ls u o = some ((pc', (ls', st')), u')) : o = some st' ∧ pc' = pc + n ∧ ls' = ls ∧ u' = u := by
  cases o with
  | none => cases h
  | some q => cases h; exact ⟨rfl, rfl, rfl, rfl⟩
theorem goL_some {n pc pc' : Nat} {ls' : Ls} {st st' : List Vl} {u u' : Mm} {o : Option Ls} (h : goL n pc st u o = some ((pc', (ls', st')), u')) : o = some ls' ∧ pc' = pc + n ∧ st' = st ∧ u' = u := by
  cases o with
  | none => cases h
  | some q => cases h; exact ⟨rfl, rfl, rfl, rfl⟩
theorem goP_some {pc' : Nat} {ls ls' : Ls} {st st' : List Vl} {u u' : Mm} {o : Option Nat} (h : goP ls st u o = some ((pc', (ls', st')), u')) : o = some pc' ∧ ls' = ls ∧ st' = st ∧ u' = u := by
  cases o with
  | none => cases h
  | some q => cases h; exact ⟨rfl, rfl, rfl, rfl⟩
theorem tgt_some {pc t : Nat} {off : Int} (h : tgt pc off = some t) : (pc : Int) + off = (t : Int) := by
  unfold tgt at h
  split at h
  · cases h; omega
  · cases h
theorem kI2_some {f : Int → Int → Int} {st st' : List Vl} (h : kI2 f st = some st') : ∃ x y r, st = vI y :: vI x :: r ∧ st' = vI (f x y) :: r := by
  unfold kI2 at h
  split at h
  · cases h; exact ⟨_, _, _, rfl, rfl⟩
  · cases h
theorem kL2_some {f : Int64 → Int64 → Int64} {st st' : List Vl} (h : kL2 f st = some st') : ∃ x y r, st = vL y :: vL x :: r ∧ st' = vL (f x y) :: r := by
  unfold kL2 at h
  split at h
  · cases h; exact ⟨_, _, _, rfl, rfl⟩
  · cases h
theorem kLI_some {f : Int64 → Int32 → Int64} {st st' : List Vl} (h : kLI f st = some st') : ∃ x y r, st = vI y :: vL x :: r ∧ st' = vL (f x (Int32.ofInt y)) :: r := by
  unfold kLI at h
  split at h
  · cases h; exact ⟨_, _, _, rfl, rfl⟩
  · cases h
theorem kLc_some {st st' : List Vl} (h : kLc st = some st') : ∃ x y r, st = vL y :: vL x :: r ∧ st' = vI (lg_cmp x y).toInt :: r := by
  unfold kLc at h
  split at h
  · cases h; exact ⟨_, _, _, rfl, rfl⟩
  · cases h
theorem kI1_some {f : Int → Int} {st st' : List Vl} (h : kI1 f st = some st') : ∃ x r, st = vI x :: r ∧ st' = vI (f x) :: r := by
  unfold kI1 at h
  split at h
  · cases h; exact ⟨_, _, rfl, rfl⟩
  · cases h
theorem kIL_some {st st' : List Vl} (h : kIL st = some st') : ∃ x r, st = vI x :: r ∧ st' = vL (Int32.ofInt x).toInt64 :: r := by
  unfold kIL at h
  split at h
  · cases h; exact ⟨_, _, rfl, rfl⟩
  · cases h
theorem kLi_some {st st' : List Vl} (h : kLi st = some st') : ∃ x r, st = vL x :: r ∧ st' = vI x.toInt32.toInt :: r := by
  unfold kLi at h
  split at h
  · cases h; exact ⟨_, _, rfl, rfl⟩
  · cases h
theorem kLd_some {t i : Nat} {ls : Ls} {st st' : List Vl} (h : kLd t ls i st = some st') : ∃ v, ls.getD i none = some v ∧ vty v = t ∧ st' = v :: st := by
  unfold kLd at h
  cases hv : ls.getD i none with
  | none => rw [hv] at h; cases h
  | some v =>
    rw [hv] at h
    simp only at h
    by_cases ht : vty v = t
    · rw [if_pos ht] at h; cases h; exact ⟨v, rfl, ht, rfl⟩
    · rw [if_neg ht] at h; cases h
theorem kSt_some {t i n pc pc' : Nat} {ls ls' : Ls} {st st' : List Vl} {u u' : Mm} (h : kSt t ls i n pc u st = some ((pc', (ls', st')), u')) : ∃ v, st = v :: st' ∧ vty v = t ∧ lPut ls i v = some ls' ∧ pc' = pc + n ∧ u' = u := by
  unfold kSt at h
  split at h
  · rename_i v r
    by_cases ht : vty v = t
    · rw [if_pos ht] at h
      obtain ⟨h1, h2, h3, h4⟩ := goL_some h
      subst h3
      exact ⟨v, rfl, ht, h1, h2, h4⟩
    · rw [if_neg ht] at h; cases h
  · cases h
theorem vty_0 {v : Vl} (h : vty v = 0) : ∃ x, v = vI x := by
  rcases v with x | x | x
  · exact ⟨x, rfl⟩
  · cases h
  · cases h
theorem vty_1 {v : Vl} (h : vty v = 1) : ∃ x, v = vL x := by
  rcases v with x | x | x
  · cases h
  · exact ⟨x, rfl⟩
  · cases h
theorem vty_2 {v : Vl} (h : vty v = 2) : ∃ x, v = vF x := by
  rcases v with x | x | x
  · cases h
  · cases h
  · exact ⟨x, rfl⟩
theorem kDup_some {st st' : List Vl} (h : kDup st = some st') : ∃ v r, st = v :: r ∧ cat v = 1 ∧ st' = v :: v :: r := by
  unfold kDup at h
  split at h
  · split at h
    · cases h; exact ⟨_, _, rfl, by assumption, rfl⟩
    · cases h
  · cases h
theorem kPop_some {st st' : List Vl} (h : kPop st = some st') : ∃ v, st = v :: st' ∧ cat v = 1 := by
  unfold kPop at h
  split at h
  · split at h
    · cases h; exact ⟨_, rfl, by assumption⟩
    · cases h
  · cases h
theorem kDx1_some {st st' : List Vl} (h : kDx1 st = some st') : ∃ v w r, st = v :: w :: r ∧ cat v = 1 ∧ cat w = 1 ∧ st' = v :: w :: v :: r := by
  unfold kDx1 at h
  split at h
  · split at h
    · rename_i hc; cases h; exact ⟨_, _, _, rfl, hc.1, hc.2, rfl⟩
    · cases h
  · cases h
theorem kDx2_some {st st' : List Vl} (h : kDx2 st = some st') : ∃ v w x r, st = v :: w :: x :: r ∧ cat v = 1 ∧ cat w = 1 ∧ cat x = 1 ∧ st' = v :: w :: x :: v :: r := by
  unfold kDx2 at h
  split at h
  · split at h
    · rename_i hc; cases h; exact ⟨_, _, _, _, rfl, hc.1, hc.2.1, hc.2.2, rfl⟩
    · cases h
  · cases h
theorem kD2_some {st st' : List Vl} (h : kD2 st = some st') : ∃ v w r, st = v :: w :: r ∧ cat v = 1 ∧ cat w = 1 ∧ st' = v :: w :: v :: w :: r := by
  unfold kD2 at h
  split at h
  · split at h
    · rename_i hc; cases h; exact ⟨_, _, _, rfl, hc.1, hc.2, rfl⟩
    · cases h
  · cases h
theorem tc_1 {v : Vl} (h : cat v = 1) : (tv v).category = 1 := by rw [tv_cat, h]
section SX
variable {p : Program} {l : Launch} {e : Env} {R : Room} {s : State} {m : MethodId} {args : Array Value} {below : List Frame} {meth : Method} {c : Code} {cc : ByteArray}
/-- a step that leaves the memory, and the JVM's heap, alone -/
def Sx (p : Program) (l : Launch) (e : Env) (R : Room) (s : State) (m : MethodId) (args : Array Value) (below : List Frame) (meth : Method) (c : Code) (nL pc : Nat) (a : Array Slot) (st : List Vl) (u : Mm) (pc' : Nat) (ls' : Ls) (st' : List Vl) (u' : Mm) : Prop :=
  u' = u ∧ (∀ v ∈ st', vok v) ∧ ∀ (H : Heap) (locs : List Loc) (cells slots : Nat) (Q : State → Prop), (∀ a', LR a' nL ls' → W p l e R s m args below meth c H locs cells slots Q (F0 m pc' a' (st'.map tv))) → W p l e R s m args below meth c H locs cells slots Q (F0 m pc a (st.map tv))
variable {P : Pg} {j n pc pc' nL : Nat} {a : Array Slot} {ls ls' : Ls} {st st' : List Vl} {u u' : Mm} (hx : p.tables.exec = Jvm.exec) (hb : c.code = cc) (hL : LR a nL ls) (hst : ∀ v ∈ st, vok v)
theorem sx_iconst {x : Int} (hx : p.tables.exec = Jvm.exec) (hb : c.code = cc) (hL : LR a nL ls) (hst : ∀ v ∈ st, vok v) (hd : decode cc pc = .ok (.iconst x, 1)) (hs : stp P j (.iconst x) 1 pc ls st u = some ((pc', (ls', st')), u')) : Sx p l e R s m args below meth c nL pc a st u pc' ls' st' u' := by
  simp only [stp] at hs
  obtain ⟨h1, rfl, rfl, rfl⟩ := goS_some hs
  cases h1
  refine ⟨rfl, List.forall_mem_cons.mpr ⟨wr_inR x, hst⟩, fun H locs cells slots Q k => lv_iconst hx hb hd rfl ?_⟩
  have := k a hL
  simpa only [List.map_cons, tv, ofI_wr] using this
theorem sx_bipush {x : Int} (hx : p.tables.exec = Jvm.exec) (hb : c.code = cc) (hL : LR a nL ls) (hst : ∀ v ∈ st, vok v) (hd : decode cc pc = .ok (.bipush x, 2)) (hs : stp P j (.bipush x) 2 pc ls st u = some ((pc', (ls', st')), u')) : Sx p l e R s m args below meth c nL pc a st u pc' ls' st' u' := by
  simp only [stp] at hs
  obtain ⟨h1, rfl, rfl, rfl⟩ := goS_some hs
  cases h1
  refine ⟨rfl, List.forall_mem_cons.mpr ⟨i32_inR _, hst⟩, fun H locs cells slots Q k => lv_bipush hx hb hd rfl ?_⟩
  have := k a hL
  simpa only [List.map_cons, tv, ofI_t] using this
theorem sx_sipush {x : Int} (hx : p.tables.exec = Jvm.exec) (hb : c.code = cc) (hL : LR a nL ls) (hst : ∀ v ∈ st, vok v) (hd : decode cc pc = .ok (.sipush x, 3)) (hs : stp P j (.sipush x) 3 pc ls st u = some ((pc', (ls', st')), u')) : Sx p l e R s m args below meth c nL pc a st u pc' ls' st' u' := by
  simp only [stp] at hs
  obtain ⟨h1, rfl, rfl, rfl⟩ := goS_some hs
  cases h1
  refine ⟨rfl, List.forall_mem_cons.mpr ⟨i32_inR _, hst⟩, fun H locs cells slots Q k => lv_sipush hx hb hd rfl ?_⟩
  have := k a hL
  simpa only [List.map_cons, tv, ofI_t] using this
theorem sx_lconst {x : Fin 2} (hx : p.tables.exec = Jvm.exec) (hb : c.code = cc) (hL : LR a nL ls) (hst : ∀ v ∈ st, vok v) (hd : decode cc pc = .ok (.lconst x, 1)) (hs : stp P j (.lconst x) 1 pc ls st u = some ((pc', (ls', st')), u')) : Sx p l e R s m args below meth c nL pc a st u pc' ls' st' u' := by
  simp only [stp] at hs
  obtain ⟨h1, rfl, rfl, rfl⟩ := goS_some hs
  cases h1
  exact ⟨rfl, List.forall_mem_cons.mpr ⟨trivial, hst⟩, fun H locs cells slots Q k => lv_lconst hx hb hd rfl (k a hL)⟩
theorem sx_iload {x : Nat} (hx : p.tables.exec = Jvm.exec) (hb : c.code = cc) (hL : LR a nL ls) (hst : ∀ v ∈ st, vok v) (hd : decode cc pc = .ok (.iload x, 2)) (hs : stp P j (.iload x) 2 pc ls st u = some ((pc', (ls', st')), u')) : Sx p l e R s m args below meth c nL pc a st u pc' ls' st' u' := by
  obtain ⟨h1, rfl, rfl, rfl⟩ := goS_some hs
  obtain ⟨v, h2, h3, rfl⟩ := kLd_some h1
  obtain ⟨y, rfl⟩ := vty_0 h3
  exact ⟨rfl, List.forall_mem_cons.mpr ⟨hL.2.2.2.2 _ _ h2, hst⟩, fun H locs cells slots Q k => lv_iload hx hb hd (hL.2.2.2.1 _ _ h2) (k a hL)⟩
theorem sx_iload_n {x : Fin 4} (hx : p.tables.exec = Jvm.exec) (hb : c.code = cc) (hL : LR a nL ls) (hst : ∀ v ∈ st, vok v) (hd : decode cc pc = .ok (.iload_n x, 1)) (hs : stp P j (.iload_n x) 1 pc ls st u = some ((pc', (ls', st')), u')) : Sx p l e R s m args below meth c nL pc a st u pc' ls' st' u' := by
  obtain ⟨h1, rfl, rfl, rfl⟩ := goS_some hs
  obtain ⟨v, h2, h3, rfl⟩ := kLd_some h1
  obtain ⟨y, rfl⟩ := vty_0 h3
  exact ⟨rfl, List.forall_mem_cons.mpr ⟨hL.2.2.2.2 _ _ h2, hst⟩, fun H locs cells slots Q k => lv_iload_n hx hb hd rfl (hL.2.2.2.1 _ _ h2) (k a hL)⟩
theorem sx_lload {x : Nat} (hx : p.tables.exec = Jvm.exec) (hb : c.code = cc) (hL : LR a nL ls) (hst : ∀ v ∈ st, vok v) (hd : decode cc pc = .ok (.lload x, 2)) (hs : stp P j (.lload x) 2 pc ls st u = some ((pc', (ls', st')), u')) : Sx p l e R s m args below meth c nL pc a st u pc' ls' st' u' := by
  obtain ⟨h1, rfl, rfl, rfl⟩ := goS_some hs
  obtain ⟨v, h2, h3, rfl⟩ := kLd_some h1
  obtain ⟨y, rfl⟩ := vty_1 h3
  exact ⟨rfl, List.forall_mem_cons.mpr ⟨hL.2.2.2.2 _ _ h2, hst⟩, fun H locs cells slots Q k => lv_lload hx hb hd (hL.2.2.2.1 _ _ h2) (k a hL)⟩
theorem sx_lload_n {x : Fin 4} (hx : p.tables.exec = Jvm.exec) (hb : c.code = cc) (hL : LR a nL ls) (hst : ∀ v ∈ st, vok v) (hd : decode cc pc = .ok (.lload_n x, 1)) (hs : stp P j (.lload_n x) 1 pc ls st u = some ((pc', (ls', st')), u')) : Sx p l e R s m args below meth c nL pc a st u pc' ls' st' u' := by
  obtain ⟨h1, rfl, rfl, rfl⟩ := goS_some hs
  obtain ⟨v, h2, h3, rfl⟩ := kLd_some h1
  obtain ⟨y, rfl⟩ := vty_1 h3
  exact ⟨rfl, List.forall_mem_cons.mpr ⟨hL.2.2.2.2 _ _ h2, hst⟩, fun H locs cells slots Q k => lv_lload_n hx hb hd rfl (hL.2.2.2.1 _ _ h2) (k a hL)⟩
theorem sx_aload {x : Nat} (hx : p.tables.exec = Jvm.exec) (hb : c.code = cc) (hL : LR a nL ls) (hst : ∀ v ∈ st, vok v) (hd : decode cc pc = .ok (.aload x, 2)) (hs : stp P j (.aload x) 2 pc ls st u = some ((pc', (ls', st')), u')) : Sx p l e R s m args below meth c nL pc a st u pc' ls' st' u' := by
  obtain ⟨h1, rfl, rfl, rfl⟩ := goS_some hs
  obtain ⟨v, h2, h3, rfl⟩ := kLd_some h1
  obtain ⟨y, rfl⟩ := vty_2 h3
  refine ⟨rfl, List.forall_mem_cons.mpr ⟨hL.2.2.2.2 _ _ h2, hst⟩, fun H locs cells slots Q k => ?_⟩
  cases y with
  | none => exact lv_aloadN hx hb hd (hL.2.2.2.1 _ _ h2) (k a hL)
  | some y => exact lv_aload hx hb hd (hL.2.2.2.1 _ _ h2) (k a hL)
theorem sx_aload_n {x : Fin 4} (hx : p.tables.exec = Jvm.exec) (hb : c.code = cc) (hL : LR a nL ls) (hst : ∀ v ∈ st, vok v) (hd : decode cc pc = .ok (.aload_n x, 1)) (hs : stp P j (.aload_n x) 1 pc ls st u = some ((pc', (ls', st')), u')) : Sx p l e R s m args below meth c nL pc a st u pc' ls' st' u' := by
  obtain ⟨h1, rfl, rfl, rfl⟩ := goS_some hs
  obtain ⟨v, h2, h3, rfl⟩ := kLd_some h1
  obtain ⟨y, rfl⟩ := vty_2 h3
  refine ⟨rfl, List.forall_mem_cons.mpr ⟨hL.2.2.2.2 _ _ h2, hst⟩, fun H locs cells slots Q k => ?_⟩
  cases y with
  | none => exact lv_aload_nN hx hb hd rfl (hL.2.2.2.1 _ _ h2) (k a hL)
  | some y => exact lv_aload_n hx hb hd rfl (hL.2.2.2.1 _ _ h2) (k a hL)
theorem sx_istore {x : Nat} (hx : p.tables.exec = Jvm.exec) (hb : c.code = cc) (hL : LR a nL ls) (hst : ∀ v ∈ st, vok v) (hd : decode cc pc = .ok (.istore x, 2)) (hs : stp P j (.istore x) 2 pc ls st u = some ((pc', (ls', st')), u')) : Sx p l e R s m args below meth c nL pc a st u pc' ls' st' u' := by
  obtain ⟨v, rfl, h3, h4, rfl, rfl⟩ := kSt_some hs
  obtain ⟨y, rfl⟩ := vty_0 h3
  obtain ⟨h5, h6⟩ := hL.put1 (by simp [isLg]) (hst _ List.mem_cons_self) h4
  exact ⟨rfl, fun v hv => hst v (List.mem_cons_of_mem _ hv), fun H locs cells slots Q k => lv_istore hx hb hd hL.has h5 rfl (fun a' h => k a' (h6 a' h))⟩
theorem sx_istore_n {x : Fin 4} (hx : p.tables.exec = Jvm.exec) (hb : c.code = cc) (hL : LR a nL ls) (hst : ∀ v ∈ st, vok v) (hd : decode cc pc = .ok (.istore_n x, 1)) (hs : stp P j (.istore_n x) 1 pc ls st u = some ((pc', (ls', st')), u')) : Sx p l e R s m args below meth c nL pc a st u pc' ls' st' u' := by
  obtain ⟨v, rfl, h3, h4, rfl, rfl⟩ := kSt_some hs
  obtain ⟨y, rfl⟩ := vty_0 h3
  obtain ⟨h5, h6⟩ := hL.put1 (by simp [isLg]) (hst _ List.mem_cons_self) h4
  exact ⟨rfl, fun v hv => hst v (List.mem_cons_of_mem _ hv), fun H locs cells slots Q k => lv_istore_n hx hb hd rfl hL.has h5 rfl (fun a' h => k a' (h6 a' h))⟩
theorem sx_lstore {x : Nat} (hx : p.tables.exec = Jvm.exec) (hb : c.code = cc) (hL : LR a nL ls) (hst : ∀ v ∈ st, vok v) (hd : decode cc pc = .ok (.lstore x, 2)) (hs : stp P j (.lstore x) 2 pc ls st u = some ((pc', (ls', st')), u')) : Sx p l e R s m args below meth c nL pc a st u pc' ls' st' u' := by
  obtain ⟨v, rfl, h3, h4, rfl, rfl⟩ := kSt_some hs
  obtain ⟨y, rfl⟩ := vty_1 h3
  obtain ⟨h5, h6⟩ := hL.put2 rfl (hst _ List.mem_cons_self) h4
  exact ⟨rfl, fun v hv => hst v (List.mem_cons_of_mem _ hv), fun H locs cells slots Q k => lv_lstore hx hb hd hL.has h5 rfl (fun a' h => k a' (h6 a' h))⟩
theorem sx_lstore_n {x : Fin 4} (hx : p.tables.exec = Jvm.exec) (hb : c.code = cc) (hL : LR a nL ls) (hst : ∀ v ∈ st, vok v) (hd : decode cc pc = .ok (.lstore_n x, 1)) (hs : stp P j (.lstore_n x) 1 pc ls st u = some ((pc', (ls', st')), u')) : Sx p l e R s m args below meth c nL pc a st u pc' ls' st' u' := by
  obtain ⟨v, rfl, h3, h4, rfl, rfl⟩ := kSt_some hs
  obtain ⟨y, rfl⟩ := vty_1 h3
  obtain ⟨h5, h6⟩ := hL.put2 rfl (hst _ List.mem_cons_self) h4
  exact ⟨rfl, fun v hv => hst v (List.mem_cons_of_mem _ hv), fun H locs cells slots Q k => lv_lstore_n hx hb hd rfl hL.has h5 rfl (fun a' h => k a' (h6 a' h))⟩
theorem sx_astore {x : Nat} (hx : p.tables.exec = Jvm.exec) (hb : c.code = cc) (hL : LR a nL ls) (hst : ∀ v ∈ st, vok v) (hd : decode cc pc = .ok (.astore x, 2)) (hs : stp P j (.astore x) 2 pc ls st u = some ((pc', (ls', st')), u')) : Sx p l e R s m args below meth c nL pc a st u pc' ls' st' u' := by
  obtain ⟨v, rfl, h3, h4, rfl, rfl⟩ := kSt_some hs
  obtain ⟨y, rfl⟩ := vty_2 h3
  obtain ⟨h5, h6⟩ := hL.put1 (by simp [isLg]) (hst _ List.mem_cons_self) h4
  refine ⟨rfl, fun v hv => hst v (List.mem_cons_of_mem _ hv), fun H locs cells slots Q k => ?_⟩
  cases y with
  | none => exact lv_astoreN hx hb hd hL.has h5 rfl (fun a' h => k a' (h6 a' h))
  | some y => exact lv_astore hx hb hd hL.has h5 rfl (fun a' h => k a' (h6 a' h))
theorem sx_astore_n {x : Fin 4} (hx : p.tables.exec = Jvm.exec) (hb : c.code = cc) (hL : LR a nL ls) (hst : ∀ v ∈ st, vok v) (hd : decode cc pc = .ok (.astore_n x, 1)) (hs : stp P j (.astore_n x) 1 pc ls st u = some ((pc', (ls', st')), u')) : Sx p l e R s m args below meth c nL pc a st u pc' ls' st' u' := by
  obtain ⟨v, rfl, h3, h4, rfl, rfl⟩ := kSt_some hs
  obtain ⟨y, rfl⟩ := vty_2 h3
  obtain ⟨h5, h6⟩ := hL.put1 (by simp [isLg]) (hst _ List.mem_cons_self) h4
  refine ⟨rfl, fun v hv => hst v (List.mem_cons_of_mem _ hv), fun H locs cells slots Q k => ?_⟩
  cases y with
  | none => exact lv_astore_nN hx hb hd rfl hL.has h5 rfl (fun a' h => k a' (h6 a' h))
  | some y => exact lv_astore_n hx hb hd rfl hL.has h5 rfl (fun a' h => k a' (h6 a' h))
theorem sx_iinc {i : Nat} {x : Int} (hx : p.tables.exec = Jvm.exec) (hb : c.code = cc) (hL : LR a nL ls) (hst : ∀ v ∈ st, vok v) (hd : decode cc pc = .ok (.iinc i x, 3)) (hs : stp P j (.iinc i x) 3 pc ls st u = some ((pc', (ls', st')), u')) : Sx p l e R s m args below meth c nL pc a st u pc' ls' st' u' := by
  simp only [stp] at hs
  split at hs
  · rename_i y hy
    obtain ⟨h1, rfl, rfl, rfl⟩ := goL_some hs
    obtain ⟨h5, h6⟩ := hL.put1 (v := vI (wr (y + wr x))) (by simp [isLg]) (wr_inR _) h1
    obtain ⟨k0, hk0⟩ := List.getElem?_of_mem (lvl_mem.mpr ⟨_, hy, rfl⟩)
    refine ⟨rfl, hst, fun H locs cells slots Q k => lv_iinc hx hb hd hL.has hk0 rfl h5 rfl (fun a' h => k a' (h6 a' ?_))⟩
    have e1 : tv (vI (wr (y + wr x))) = Value.int (Int32.ofInt y + Int32.ofInt x) := by
      show Value.int _ = _
      rw [ofI_wr, Int32.ofInt_add, ofI_wr]
    rw [e1]
    exact h
  · cases hs
theorem sx_iadd  (hx : p.tables.exec = Jvm.exec) (hb : c.code = cc) (hL : LR a nL ls) (hst : ∀ v ∈ st, vok v) (hd : decode cc pc = .ok (.iadd, 1)) (hs : stp P j (.iadd) 1 pc ls st u = some ((pc', (ls', st')), u')) : Sx p l e R s m args below meth c nL pc a st u pc' ls' st' u' := by
  obtain ⟨h1, rfl, rfl, rfl⟩ := goS_some hs
  obtain ⟨x, y, r, rfl, rfl⟩ := kI2_some h1
  refine ⟨rfl, List.forall_mem_cons.mpr ⟨wr_inR _, fun v hv => hst v (List.mem_cons_of_mem _ (List.mem_cons_of_mem _ hv))⟩, fun H locs cells slots Q k => lv_iadd hx hb hd ?_⟩
  have := k a hL
  simpa only [List.map_cons, tv, ofI_wr, Int32.ofInt_add] using this
theorem sx_isub  (hx : p.tables.exec = Jvm.exec) (hb : c.code = cc) (hL : LR a nL ls) (hst : ∀ v ∈ st, vok v) (hd : decode cc pc = .ok (.isub, 1)) (hs : stp P j (.isub) 1 pc ls st u = some ((pc', (ls', st')), u')) : Sx p l e R s m args below meth c nL pc a st u pc' ls' st' u' := by
  obtain ⟨h1, rfl, rfl, rfl⟩ := goS_some hs
  obtain ⟨x, y, r, rfl, rfl⟩ := kI2_some h1
  refine ⟨rfl, List.forall_mem_cons.mpr ⟨wr_inR _, fun v hv => hst v (List.mem_cons_of_mem _ (List.mem_cons_of_mem _ hv))⟩, fun H locs cells slots Q k => lv_isub hx hb hd ?_⟩
  have := k a hL
  simpa only [List.map_cons, tv, ofI_wr, Int32.ofInt_sub] using this
theorem sx_imul  (hx : p.tables.exec = Jvm.exec) (hb : c.code = cc) (hL : LR a nL ls) (hst : ∀ v ∈ st, vok v) (hd : decode cc pc = .ok (.imul, 1)) (hs : stp P j (.imul) 1 pc ls st u = some ((pc', (ls', st')), u')) : Sx p l e R s m args below meth c nL pc a st u pc' ls' st' u' := by
  obtain ⟨h1, rfl, rfl, rfl⟩ := goS_some hs
  obtain ⟨x, y, r, rfl, rfl⟩ := kI2_some h1
  refine ⟨rfl, List.forall_mem_cons.mpr ⟨wr_inR _, fun v hv => hst v (List.mem_cons_of_mem _ (List.mem_cons_of_mem _ hv))⟩, fun H locs cells slots Q k => lv_imul hx hb hd ?_⟩
  have := k a hL
  simpa only [List.map_cons, tv, ofI_wr, Int32.ofInt_mul] using this
theorem sx_iand  (hx : p.tables.exec = Jvm.exec) (hb : c.code = cc) (hL : LR a nL ls) (hst : ∀ v ∈ st, vok v) (hd : decode cc pc = .ok (.iand, 1)) (hs : stp P j (.iand) 1 pc ls st u = some ((pc', (ls', st')), u')) : Sx p l e R s m args below meth c nL pc a st u pc' ls' st' u' := by
  obtain ⟨h1, rfl, rfl, rfl⟩ := goS_some hs
  obtain ⟨x, y, r, rfl, rfl⟩ := kI2_some h1
  refine ⟨rfl, List.forall_mem_cons.mpr ⟨i32_inR _, fun v hv => hst v (List.mem_cons_of_mem _ (List.mem_cons_of_mem _ hv))⟩, fun H locs cells slots Q k => lv_iand hx hb hd ?_⟩
  have := k a hL
  simpa only [List.map_cons, tv, bI, ofI_t] using this
theorem sx_ior  (hx : p.tables.exec = Jvm.exec) (hb : c.code = cc) (hL : LR a nL ls) (hst : ∀ v ∈ st, vok v) (hd : decode cc pc = .ok (.ior, 1)) (hs : stp P j (.ior) 1 pc ls st u = some ((pc', (ls', st')), u')) : Sx p l e R s m args below meth c nL pc a st u pc' ls' st' u' := by
  obtain ⟨h1, rfl, rfl, rfl⟩ := goS_some hs
  obtain ⟨x, y, r, rfl, rfl⟩ := kI2_some h1
  refine ⟨rfl, List.forall_mem_cons.mpr ⟨i32_inR _, fun v hv => hst v (List.mem_cons_of_mem _ (List.mem_cons_of_mem _ hv))⟩, fun H locs cells slots Q k => lv_ior hx hb hd ?_⟩
  have := k a hL
  simpa only [List.map_cons, tv, bI, ofI_t] using this
theorem sx_ixor  (hx : p.tables.exec = Jvm.exec) (hb : c.code = cc) (hL : LR a nL ls) (hst : ∀ v ∈ st, vok v) (hd : decode cc pc = .ok (.ixor, 1)) (hs : stp P j (.ixor) 1 pc ls st u = some ((pc', (ls', st')), u')) : Sx p l e R s m args below meth c nL pc a st u pc' ls' st' u' := by
  obtain ⟨h1, rfl, rfl, rfl⟩ := goS_some hs
  obtain ⟨x, y, r, rfl, rfl⟩ := kI2_some h1
  refine ⟨rfl, List.forall_mem_cons.mpr ⟨i32_inR _, fun v hv => hst v (List.mem_cons_of_mem _ (List.mem_cons_of_mem _ hv))⟩, fun H locs cells slots Q k => lv_ixor hx hb hd ?_⟩
  have := k a hL
  simpa only [List.map_cons, tv, bI, ofI_t] using this
theorem sx_ishl  (hx : p.tables.exec = Jvm.exec) (hb : c.code = cc) (hL : LR a nL ls) (hst : ∀ v ∈ st, vok v) (hd : decode cc pc = .ok (.ishl, 1)) (hs : stp P j (.ishl) 1 pc ls st u = some ((pc', (ls', st')), u')) : Sx p l e R s m args below meth c nL pc a st u pc' ls' st' u' := by
  obtain ⟨h1, rfl, rfl, rfl⟩ := goS_some hs
  obtain ⟨x, y, r, rfl, rfl⟩ := kI2_some h1
  refine ⟨rfl, List.forall_mem_cons.mpr ⟨i32_inR _, fun v hv => hst v (List.mem_cons_of_mem _ (List.mem_cons_of_mem _ hv))⟩, fun H locs cells slots Q k => lv_ishl hx hb hd ?_⟩
  have := k a hL
  simpa only [List.map_cons, tv, bI, ofI_t] using this
theorem sx_ishr  (hx : p.tables.exec = Jvm.exec) (hb : c.code = cc) (hL : LR a nL ls) (hst : ∀ v ∈ st, vok v) (hd : decode cc pc = .ok (.ishr, 1)) (hs : stp P j (.ishr) 1 pc ls st u = some ((pc', (ls', st')), u')) : Sx p l e R s m args below meth c nL pc a st u pc' ls' st' u' := by
  obtain ⟨h1, rfl, rfl, rfl⟩ := goS_some hs
  obtain ⟨x, y, r, rfl, rfl⟩ := kI2_some h1
  refine ⟨rfl, List.forall_mem_cons.mpr ⟨i32_inR _, fun v hv => hst v (List.mem_cons_of_mem _ (List.mem_cons_of_mem _ hv))⟩, fun H locs cells slots Q k => lv_ishr hx hb hd ?_⟩
  have := k a hL
  simpa only [List.map_cons, tv, bI, ofI_t] using this
theorem ofI_char {x : Int} (h : inR x) : ((Int32.ofInt x).toUInt32 % 65536).toInt32 = Int32.ofInt (x % 65536) := by
  have h1 : 0 ≤ x % 65536 := Int.emod_nonneg _ (by decide)
  have h2 : x % 65536 < 65536 := Int.emod_lt_of_pos _ (by decide)
  rw [pk_char]
  have h3 : (Int32.ofInt x).toBitVec.toNat % 65536 = (x % 65536).toNat := by
    have e1 : ((Int32.ofInt x).toBitVec.toNat : Int) = x % 4294967296 := by
      have : (Int32.ofInt x).toBitVec = BitVec.ofInt 32 x := rfl
      rw [this, BitVec.toNat_ofInt]
      omega
    omega
  rw [h3]
  show Int32.ofNat _ = _
  rw [← ofI_nat, Int.toNat_of_nonneg h1]
theorem sx_i2c  (hx : p.tables.exec = Jvm.exec) (hb : c.code = cc) (hL : LR a nL ls) (hst : ∀ v ∈ st, vok v) (hd : decode cc pc = .ok (.i2c, 1)) (hs : stp P j (.i2c) 1 pc ls st u = some ((pc', (ls', st')), u')) : Sx p l e R s m args below meth c nL pc a st u pc' ls' st' u' := by
  obtain ⟨h1, rfl, rfl, rfl⟩ := goS_some hs
  obtain ⟨x, r, rfl, rfl⟩ := kI1_some h1
  have hx1 : inR x := hst _ List.mem_cons_self
  refine ⟨rfl, List.forall_mem_cons.mpr ⟨?_, fun v hv => hst v (List.mem_cons_of_mem _ hv)⟩, fun H locs cells slots Q k => lv_i2c hx hb hd (ofI_char hx1) (k a hL)⟩
  have h1 : 0 ≤ x % 65536 := Int.emod_nonneg _ (by decide)
  have h2 : x % 65536 < 65536 := Int.emod_lt_of_pos _ (by decide)
  exact ⟨by omega, by omega⟩
theorem sx_i2l  (hx : p.tables.exec = Jvm.exec) (hb : c.code = cc) (hL : LR a nL ls) (hst : ∀ v ∈ st, vok v) (hd : decode cc pc = .ok (.i2l, 1)) (hs : stp P j (.i2l) 1 pc ls st u = some ((pc', (ls', st')), u')) : Sx p l e R s m args below meth c nL pc a st u pc' ls' st' u' := by
  obtain ⟨h1, rfl, rfl, rfl⟩ := goS_some hs
  obtain ⟨x, r, rfl, rfl⟩ := kIL_some h1
  exact ⟨rfl, List.forall_mem_cons.mpr ⟨trivial, fun v hv => hst v (List.mem_cons_of_mem _ hv)⟩, fun H locs cells slots Q k => lv_i2l hx hb hd rfl (k a hL)⟩
theorem sx_l2i  (hx : p.tables.exec = Jvm.exec) (hb : c.code = cc) (hL : LR a nL ls) (hst : ∀ v ∈ st, vok v) (hd : decode cc pc = .ok (.l2i, 1)) (hs : stp P j (.l2i) 1 pc ls st u = some ((pc', (ls', st')), u')) : Sx p l e R s m args below meth c nL pc a st u pc' ls' st' u' := by
  obtain ⟨h1, rfl, rfl, rfl⟩ := goS_some hs
  obtain ⟨x, r, rfl, rfl⟩ := kLi_some h1
  refine ⟨rfl, List.forall_mem_cons.mpr ⟨i32_inR _, fun v hv => hst v (List.mem_cons_of_mem _ hv)⟩, fun H locs cells slots Q k => lv_l2i hx hb hd rfl ?_⟩
  have := k a hL
  simpa only [List.map_cons, tv, ofI_t] using this
theorem sx_land  (hx : p.tables.exec = Jvm.exec) (hb : c.code = cc) (hL : LR a nL ls) (hst : ∀ v ∈ st, vok v) (hd : decode cc pc = .ok (.land, 1)) (hs : stp P j (.land) 1 pc ls st u = some ((pc', (ls', st')), u')) : Sx p l e R s m args below meth c nL pc a st u pc' ls' st' u' := by
  obtain ⟨h1, rfl, rfl, rfl⟩ := goS_some hs
  obtain ⟨x, y, r, rfl, rfl⟩ := kL2_some h1
  exact ⟨rfl, List.forall_mem_cons.mpr ⟨trivial, fun v hv => hst v (List.mem_cons_of_mem _ (List.mem_cons_of_mem _ hv))⟩, fun H locs cells slots Q k => lv_land hx hb hd (k a hL)⟩
theorem sx_lor  (hx : p.tables.exec = Jvm.exec) (hb : c.code = cc) (hL : LR a nL ls) (hst : ∀ v ∈ st, vok v) (hd : decode cc pc = .ok (.lor, 1)) (hs : stp P j (.lor) 1 pc ls st u = some ((pc', (ls', st')), u')) : Sx p l e R s m args below meth c nL pc a st u pc' ls' st' u' := by
  obtain ⟨h1, rfl, rfl, rfl⟩ := goS_some hs
  obtain ⟨x, y, r, rfl, rfl⟩ := kL2_some h1
  exact ⟨rfl, List.forall_mem_cons.mpr ⟨trivial, fun v hv => hst v (List.mem_cons_of_mem _ (List.mem_cons_of_mem _ hv))⟩, fun H locs cells slots Q k => lv_lor hx hb hd (k a hL)⟩
theorem sx_lshl  (hx : p.tables.exec = Jvm.exec) (hb : c.code = cc) (hL : LR a nL ls) (hst : ∀ v ∈ st, vok v) (hd : decode cc pc = .ok (.lshl, 1)) (hs : stp P j (.lshl) 1 pc ls st u = some ((pc', (ls', st')), u')) : Sx p l e R s m args below meth c nL pc a st u pc' ls' st' u' := by
  obtain ⟨h1, rfl, rfl, rfl⟩ := goS_some hs
  obtain ⟨x, y, r, rfl, rfl⟩ := kLI_some h1
  exact ⟨rfl, List.forall_mem_cons.mpr ⟨trivial, fun v hv => hst v (List.mem_cons_of_mem _ (List.mem_cons_of_mem _ hv))⟩, fun H locs cells slots Q k => lv_lshl hx hb hd rfl (k a hL)⟩
theorem sx_lshr  (hx : p.tables.exec = Jvm.exec) (hb : c.code = cc) (hL : LR a nL ls) (hst : ∀ v ∈ st, vok v) (hd : decode cc pc = .ok (.lshr, 1)) (hs : stp P j (.lshr) 1 pc ls st u = some ((pc', (ls', st')), u')) : Sx p l e R s m args below meth c nL pc a st u pc' ls' st' u' := by
  obtain ⟨h1, rfl, rfl, rfl⟩ := goS_some hs
  obtain ⟨x, y, r, rfl, rfl⟩ := kLI_some h1
  exact ⟨rfl, List.forall_mem_cons.mpr ⟨trivial, fun v hv => hst v (List.mem_cons_of_mem _ (List.mem_cons_of_mem _ hv))⟩, fun H locs cells slots Q k => lv_lshr hx hb hd rfl (k a hL)⟩
theorem sx_lcmp  (hx : p.tables.exec = Jvm.exec) (hb : c.code = cc) (hL : LR a nL ls) (hst : ∀ v ∈ st, vok v) (hd : decode cc pc = .ok (.lcmp, 1)) (hs : stp P j (.lcmp) 1 pc ls st u = some ((pc', (ls', st')), u')) : Sx p l e R s m args below meth c nL pc a st u pc' ls' st' u' := by
  obtain ⟨h1, rfl, rfl, rfl⟩ := goS_some hs
  obtain ⟨x, y, r, rfl, rfl⟩ := kLc_some h1
  refine ⟨rfl, List.forall_mem_cons.mpr ⟨i32_inR _, fun v hv => hst v (List.mem_cons_of_mem _ (List.mem_cons_of_mem _ hv))⟩, fun H locs cells slots Q k => W.lcmp hx hb hd ?_⟩
  have := k a hL
  simpa only [List.map_cons, tv, ofI_t] using this
theorem sx_dup  (hx : p.tables.exec = Jvm.exec) (hb : c.code = cc) (hL : LR a nL ls) (hst : ∀ v ∈ st, vok v) (hd : decode cc pc = .ok (.dup, 1)) (hs : stp P j (.dup) 1 pc ls st u = some ((pc', (ls', st')), u')) : Sx p l e R s m args below meth c nL pc a st u pc' ls' st' u' := by
  obtain ⟨h1, rfl, rfl, rfl⟩ := goS_some hs
  obtain ⟨v, r, rfl, hc, rfl⟩ := kDup_some h1
  exact ⟨rfl, List.forall_mem_cons.mpr ⟨hst _ List.mem_cons_self, hst⟩, fun H locs cells slots Q k => lv_dup hx hb hd (tc_1 hc) (k a hL)⟩
theorem sx_pop  (hx : p.tables.exec = Jvm.exec) (hb : c.code = cc) (hL : LR a nL ls) (hst : ∀ v ∈ st, vok v) (hd : decode cc pc = .ok (.pop, 1)) (hs : stp P j (.pop) 1 pc ls st u = some ((pc', (ls', st')), u')) : Sx p l e R s m args below meth c nL pc a st u pc' ls' st' u' := by
  obtain ⟨h1, rfl, rfl, rfl⟩ := goS_some hs
  obtain ⟨v, rfl, hc⟩ := kPop_some h1
  exact ⟨rfl, fun v hv => hst v (List.mem_cons_of_mem _ hv), fun H locs cells slots Q k => lv_pop hx hb hd (tc_1 hc) (k a hL)⟩
theorem sx_dup_x1  (hx : p.tables.exec = Jvm.exec) (hb : c.code = cc) (hL : LR a nL ls) (hst : ∀ v ∈ st, vok v) (hd : decode cc pc = .ok (.dup_x1, 1)) (hs : stp P j (.dup_x1) 1 pc ls st u = some ((pc', (ls', st')), u')) : Sx p l e R s m args below meth c nL pc a st u pc' ls' st' u' := by
  obtain ⟨h1, rfl, rfl, rfl⟩ := goS_some hs
  obtain ⟨v, w, r, rfl, hc, hw, rfl⟩ := kDx1_some h1
  refine ⟨rfl, fun z hz => hst z ?_, fun H locs cells slots Q k => lv_dup_x1 hx hb hd (tc_1 hc) (tc_1 hw) (k a hL)⟩
  simp only [List.mem_cons] at hz ⊢
  rcases hz with h | h | h | h <;> simp [h]
theorem sx_dup_x2  (hx : p.tables.exec = Jvm.exec) (hb : c.code = cc) (hL : LR a nL ls) (hst : ∀ v ∈ st, vok v) (hd : decode cc pc = .ok (.dup_x2, 1)) (hs : stp P j (.dup_x2) 1 pc ls st u = some ((pc', (ls', st')), u')) : Sx p l e R s m args below meth c nL pc a st u pc' ls' st' u' := by
  obtain ⟨h1, rfl, rfl, rfl⟩ := goS_some hs
  obtain ⟨v, w, x, r, rfl, hc, hw, hy, rfl⟩ := kDx2_some h1
  refine ⟨rfl, fun z hz => hst z ?_, fun H locs cells slots Q k => lv_dup_x2 hx hb hd (tc_1 hc) (tc_1 hw) (tc_1 hy) (k a hL)⟩
  simp only [List.mem_cons] at hz ⊢
  rcases hz with h | h | h | h | h <;> simp [h]
theorem sx_dup2  (hx : p.tables.exec = Jvm.exec) (hb : c.code = cc) (hL : LR a nL ls) (hst : ∀ v ∈ st, vok v) (hd : decode cc pc = .ok (.dup2, 1)) (hs : stp P j (.dup2) 1 pc ls st u = some ((pc', (ls', st')), u')) : Sx p l e R s m args below meth c nL pc a st u pc' ls' st' u' := by
  obtain ⟨h1, rfl, rfl, rfl⟩ := goS_some hs
  obtain ⟨v, w, r, rfl, hc, hw, rfl⟩ := kD2_some h1
  refine ⟨rfl, fun z hz => hst z ?_, fun H locs cells slots Q k => lv_dup2_11 hx hb hd (tc_1 hc) (tc_1 hw) (k a hL)⟩
  simp only [List.mem_cons] at hz ⊢
  rcases hz with h | h | h | h | h <;> simp [h]
theorem sx_goto {off : Int} (hx : p.tables.exec = Jvm.exec) (hb : c.code = cc) (hL : LR a nL ls) (hst : ∀ v ∈ st, vok v) (hd : decode cc pc = .ok (.goto off, 3)) (hs : stp P j (.goto off) 3 pc ls st u = some ((pc', (ls', st')), u')) : Sx p l e R s m args below meth c nL pc a st u pc' ls' st' u' := by
  obtain ⟨h1, rfl, rfl, rfl⟩ := goP_some hs
  exact ⟨rfl, hst, fun H locs cells slots Q k => lv_goto hx hb hd (tgt_some h1) (k a hL)⟩
theorem sx_icmp_eq {off : Int} (hx : p.tables.exec = Jvm.exec) (hb : c.code = cc) (hL : LR a nL ls) (hst : ∀ v ∈ st, vok v) (hd : decode cc pc = .ok (.if_icmp .eq off, 3)) (hs : stp P j (.if_icmp .eq off) 3 pc ls st u = some ((pc', (ls', st')), u')) : Sx p l e R s m args below meth c nL pc a st u pc' ls' st' u' := by
  simp only [stp] at hs
  split at hs
  · rename_i y x r
    have hy1 : inR y := hst _ List.mem_cons_self
    have hx1 : inR x := hst _ (List.mem_cons_of_mem _ List.mem_cons_self)
    have hr : ∀ v ∈ r, vok v := fun v hv => hst v (List.mem_cons_of_mem _ (List.mem_cons_of_mem _ hv))
    obtain ⟨h1, rfl, rfl, rfl⟩ := goP_some hs
    obtain ⟨t, h2, h3⟩ := Option.map_eq_some_iff.mp h1
    refine ⟨rfl, hr, fun H locs cells slots Q k => lv_icmp_eq hx hb hd (tgt_some h2) (fun h => ?_) (fun h => ?_)⟩
    · have hc : cmpI .eq x y = true := by
        simp only [cmpI, ofI_eq hx1 hy1] at h ⊢; simpa using h
      rw [if_pos hc] at h3
      subst h3
      exact k a hL
    · have hc : ¬ cmpI .eq x y = true := by
        simp only [cmpI, ofI_eq hx1 hy1] at h ⊢; simpa using h
      rw [if_neg hc] at h3
      subst h3
      exact k a hL
  · cases hs
theorem sx_if_eq {off : Int} (hx : p.tables.exec = Jvm.exec) (hb : c.code = cc) (hL : LR a nL ls) (hst : ∀ v ∈ st, vok v) (hd : decode cc pc = .ok (.ifCond .eq off, 3)) (hs : stp P j (.ifCond .eq off) 3 pc ls st u = some ((pc', (ls', st')), u')) : Sx p l e R s m args below meth c nL pc a st u pc' ls' st' u' := by
  simp only [stp] at hs
  split at hs
  · rename_i x r
    have hx1 : inR x := hst _ List.mem_cons_self
    have hy1 : inR 0 := inR_0
    have hr : ∀ v ∈ r, vok v := fun v hv => hst v (List.mem_cons_of_mem _ hv)
    obtain ⟨h1, rfl, rfl, rfl⟩ := goP_some hs
    obtain ⟨t, h2, h3⟩ := Option.map_eq_some_iff.mp h1
    refine ⟨rfl, hr, fun H locs cells slots Q k => lv_if_eq hx hb hd (tgt_some h2) (fun h => ?_) (fun h => ?_)⟩
    · have hc : cmpI .eq x 0 = true := by
        rw [← ofI_0] at h; simp only [cmpI, ofI_eq hx1 hy1] at h ⊢; simpa using h
      rw [if_pos hc] at h3
      subst h3
      exact k a hL
    · have hc : ¬ cmpI .eq x 0 = true := by
        rw [← ofI_0] at h; simp only [cmpI, ofI_eq hx1 hy1] at h ⊢; simpa using h
      rw [if_neg hc] at h3
      subst h3
      exact k a hL
  · cases hs
theorem sx_icmp_ne {off : Int} (hx : p.tables.exec = Jvm.exec) (hb : c.code = cc) (hL : LR a nL ls) (hst : ∀ v ∈ st, vok v) (hd : decode cc pc = .ok (.if_icmp .ne off, 3)) (hs : stp P j (.if_icmp .ne off) 3 pc ls st u = some ((pc', (ls', st')), u')) : Sx p l e R s m args below meth c nL pc a st u pc' ls' st' u' := by
  simp only [stp] at hs
  split at hs
  · rename_i y x r
    have hy1 : inR y := hst _ List.mem_cons_self
    have hx1 : inR x := hst _ (List.mem_cons_of_mem _ List.mem_cons_self)
    have hr : ∀ v ∈ r, vok v := fun v hv => hst v (List.mem_cons_of_mem _ (List.mem_cons_of_mem _ hv))
    obtain ⟨h1, rfl, rfl, rfl⟩ := goP_some hs
    obtain ⟨t, h2, h3⟩ := Option.map_eq_some_iff.mp h1
    refine ⟨rfl, hr, fun H locs cells slots Q k => lv_icmp_ne hx hb hd (tgt_some h2) (fun h => ?_) (fun h => ?_)⟩
    · have hc : cmpI .ne x y = true := by
        simp only [cmpI, ofI_eq hx1 hy1] at h ⊢; simpa using h
      rw [if_pos hc] at h3
      subst h3
      exact k a hL
    · have hc : ¬ cmpI .ne x y = true := by
        simp only [cmpI, ofI_eq hx1 hy1] at h ⊢; simpa using h
      rw [if_neg hc] at h3
      subst h3
      exact k a hL
  · cases hs
theorem sx_if_ne {off : Int} (hx : p.tables.exec = Jvm.exec) (hb : c.code = cc) (hL : LR a nL ls) (hst : ∀ v ∈ st, vok v) (hd : decode cc pc = .ok (.ifCond .ne off, 3)) (hs : stp P j (.ifCond .ne off) 3 pc ls st u = some ((pc', (ls', st')), u')) : Sx p l e R s m args below meth c nL pc a st u pc' ls' st' u' := by
  simp only [stp] at hs
  split at hs
  · rename_i x r
    have hx1 : inR x := hst _ List.mem_cons_self
    have hy1 : inR 0 := inR_0
    have hr : ∀ v ∈ r, vok v := fun v hv => hst v (List.mem_cons_of_mem _ hv)
    obtain ⟨h1, rfl, rfl, rfl⟩ := goP_some hs
    obtain ⟨t, h2, h3⟩ := Option.map_eq_some_iff.mp h1
    refine ⟨rfl, hr, fun H locs cells slots Q k => lv_if_ne hx hb hd (tgt_some h2) (fun h => ?_) (fun h => ?_)⟩
    · have hc : cmpI .ne x 0 = true := by
        rw [← ofI_0] at h; simp only [cmpI, ofI_eq hx1 hy1] at h ⊢; simpa using h
      rw [if_pos hc] at h3
      subst h3
      exact k a hL
    · have hc : ¬ cmpI .ne x 0 = true := by
        rw [← ofI_0] at h; simp only [cmpI, ofI_eq hx1 hy1] at h ⊢; simpa using h
      rw [if_neg hc] at h3
      subst h3
      exact k a hL
  · cases hs
theorem sx_icmp_lt {off : Int} (hx : p.tables.exec = Jvm.exec) (hb : c.code = cc) (hL : LR a nL ls) (hst : ∀ v ∈ st, vok v) (hd : decode cc pc = .ok (.if_icmp .lt off, 3)) (hs : stp P j (.if_icmp .lt off) 3 pc ls st u = some ((pc', (ls', st')), u')) : Sx p l e R s m args below meth c nL pc a st u pc' ls' st' u' := by
  simp only [stp] at hs
  split at hs
  · rename_i y x r
    have hy1 : inR y := hst _ List.mem_cons_self
    have hx1 : inR x := hst _ (List.mem_cons_of_mem _ List.mem_cons_self)
    have hr : ∀ v ∈ r, vok v := fun v hv => hst v (List.mem_cons_of_mem _ (List.mem_cons_of_mem _ hv))
    obtain ⟨h1, rfl, rfl, rfl⟩ := goP_some hs
    obtain ⟨t, h2, h3⟩ := Option.map_eq_some_iff.mp h1
    refine ⟨rfl, hr, fun H locs cells slots Q k => lv_icmp_lt hx hb hd (tgt_some h2) (fun h => ?_) (fun h => ?_)⟩
    · have hc : cmpI .lt x y = true := by
        simp only [cmpI, ofI_lt hx1 hy1] at h ⊢; simpa using h
      rw [if_pos hc] at h3
      subst h3
      exact k a hL
    · have hc : ¬ cmpI .lt x y = true := by
        simp only [cmpI, ofI_lt hx1 hy1] at h ⊢; simpa using h
      rw [if_neg hc] at h3
      subst h3
      exact k a hL
  · cases hs
theorem sx_if_lt {off : Int} (hx : p.tables.exec = Jvm.exec) (hb : c.code = cc) (hL : LR a nL ls) (hst : ∀ v ∈ st, vok v) (hd : decode cc pc = .ok (.ifCond .lt off, 3)) (hs : stp P j (.ifCond .lt off) 3 pc ls st u = some ((pc', (ls', st')), u')) : Sx p l e R s m args below meth c nL pc a st u pc' ls' st' u' := by
  simp only [stp] at hs
  split at hs
  · rename_i x r
    have hx1 : inR x := hst _ List.mem_cons_self
    have hy1 : inR 0 := inR_0
    have hr : ∀ v ∈ r, vok v := fun v hv => hst v (List.mem_cons_of_mem _ hv)
    obtain ⟨h1, rfl, rfl, rfl⟩ := goP_some hs
    obtain ⟨t, h2, h3⟩ := Option.map_eq_some_iff.mp h1
    refine ⟨rfl, hr, fun H locs cells slots Q k => lv_if_lt hx hb hd (tgt_some h2) (fun h => ?_) (fun h => ?_)⟩
    · have hc : cmpI .lt x 0 = true := by
        rw [← ofI_0] at h; simp only [cmpI, ofI_lt hx1 hy1] at h ⊢; simpa using h
      rw [if_pos hc] at h3
      subst h3
      exact k a hL
    · have hc : ¬ cmpI .lt x 0 = true := by
        rw [← ofI_0] at h; simp only [cmpI, ofI_lt hx1 hy1] at h ⊢; simpa using h
      rw [if_neg hc] at h3
      subst h3
      exact k a hL
  · cases hs
theorem sx_icmp_ge {off : Int} (hx : p.tables.exec = Jvm.exec) (hb : c.code = cc) (hL : LR a nL ls) (hst : ∀ v ∈ st, vok v) (hd : decode cc pc = .ok (.if_icmp .ge off, 3)) (hs : stp P j (.if_icmp .ge off) 3 pc ls st u = some ((pc', (ls', st')), u')) : Sx p l e R s m args below meth c nL pc a st u pc' ls' st' u' := by
  simp only [stp] at hs
  split at hs
  · rename_i y x r
    have hy1 : inR y := hst _ List.mem_cons_self
    have hx1 : inR x := hst _ (List.mem_cons_of_mem _ List.mem_cons_self)
    have hr : ∀ v ∈ r, vok v := fun v hv => hst v (List.mem_cons_of_mem _ (List.mem_cons_of_mem _ hv))
    obtain ⟨h1, rfl, rfl, rfl⟩ := goP_some hs
    obtain ⟨t, h2, h3⟩ := Option.map_eq_some_iff.mp h1
    refine ⟨rfl, hr, fun H locs cells slots Q k => lv_icmp_ge hx hb hd (tgt_some h2) (fun h => ?_) (fun h => ?_)⟩
    · have hc : cmpI .ge x y = true := by
        simp only [cmpI, ofI_le hy1 hx1] at h ⊢; simpa using h
      rw [if_pos hc] at h3
      subst h3
      exact k a hL
    · have hc : ¬ cmpI .ge x y = true := by
        simp only [cmpI, ofI_le hy1 hx1] at h ⊢; simpa using h
      rw [if_neg hc] at h3
      subst h3
      exact k a hL
  · cases hs
theorem sx_if_ge {off : Int} (hx : p.tables.exec = Jvm.exec) (hb : c.code = cc) (hL : LR a nL ls) (hst : ∀ v ∈ st, vok v) (hd : decode cc pc = .ok (.ifCond .ge off, 3)) (hs : stp P j (.ifCond .ge off) 3 pc ls st u = some ((pc', (ls', st')), u')) : Sx p l e R s m args below meth c nL pc a st u pc' ls' st' u' := by
  simp only [stp] at hs
  split at hs
  · rename_i x r
    have hx1 : inR x := hst _ List.mem_cons_self
    have hy1 : inR 0 := inR_0
    have hr : ∀ v ∈ r, vok v := fun v hv => hst v (List.mem_cons_of_mem _ hv)
    obtain ⟨h1, rfl, rfl, rfl⟩ := goP_some hs
    obtain ⟨t, h2, h3⟩ := Option.map_eq_some_iff.mp h1
    refine ⟨rfl, hr, fun H locs cells slots Q k => lv_if_ge hx hb hd (tgt_some h2) (fun h => ?_) (fun h => ?_)⟩
    · have hc : cmpI .ge x 0 = true := by
        rw [← ofI_0] at h; simp only [cmpI, ofI_le hy1 hx1] at h ⊢; simpa using h
      rw [if_pos hc] at h3
      subst h3
      exact k a hL
    · have hc : ¬ cmpI .ge x 0 = true := by
        rw [← ofI_0] at h; simp only [cmpI, ofI_le hy1 hx1] at h ⊢; simpa using h
      rw [if_neg hc] at h3
      subst h3
      exact k a hL
  · cases hs
theorem sx_icmp_gt {off : Int} (hx : p.tables.exec = Jvm.exec) (hb : c.code = cc) (hL : LR a nL ls) (hst : ∀ v ∈ st, vok v) (hd : decode cc pc = .ok (.if_icmp .gt off, 3)) (hs : stp P j (.if_icmp .gt off) 3 pc ls st u = some ((pc', (ls', st')), u')) : Sx p l e R s m args below meth c nL pc a st u pc' ls' st' u' := by
  simp only [stp] at hs
  split at hs
  · rename_i y x r
    have hy1 : inR y := hst _ List.mem_cons_self
    have hx1 : inR x := hst _ (List.mem_cons_of_mem _ List.mem_cons_self)
    have hr : ∀ v ∈ r, vok v := fun v hv => hst v (List.mem_cons_of_mem _ (List.mem_cons_of_mem _ hv))
    obtain ⟨h1, rfl, rfl, rfl⟩ := goP_some hs
    obtain ⟨t, h2, h3⟩ := Option.map_eq_some_iff.mp h1
    refine ⟨rfl, hr, fun H locs cells slots Q k => lv_icmp_gt hx hb hd (tgt_some h2) (fun h => ?_) (fun h => ?_)⟩
    · have hc : cmpI .gt x y = true := by
        simp only [cmpI, ofI_lt hy1 hx1] at h ⊢; simpa using h
      rw [if_pos hc] at h3
      subst h3
      exact k a hL
    · have hc : ¬ cmpI .gt x y = true := by
        simp only [cmpI, ofI_lt hy1 hx1] at h ⊢; simpa using h
      rw [if_neg hc] at h3
      subst h3
      exact k a hL
  · cases hs
theorem sx_if_gt {off : Int} (hx : p.tables.exec = Jvm.exec) (hb : c.code = cc) (hL : LR a nL ls) (hst : ∀ v ∈ st, vok v) (hd : decode cc pc = .ok (.ifCond .gt off, 3)) (hs : stp P j (.ifCond .gt off) 3 pc ls st u = some ((pc', (ls', st')), u')) : Sx p l e R s m args below meth c nL pc a st u pc' ls' st' u' := by
  simp only [stp] at hs
  split at hs
  · rename_i x r
    have hx1 : inR x := hst _ List.mem_cons_self
    have hy1 : inR 0 := inR_0
    have hr : ∀ v ∈ r, vok v := fun v hv => hst v (List.mem_cons_of_mem _ hv)
    obtain ⟨h1, rfl, rfl, rfl⟩ := goP_some hs
    obtain ⟨t, h2, h3⟩ := Option.map_eq_some_iff.mp h1
    refine ⟨rfl, hr, fun H locs cells slots Q k => lv_if_gt hx hb hd (tgt_some h2) (fun h => ?_) (fun h => ?_)⟩
    · have hc : cmpI .gt x 0 = true := by
        rw [← ofI_0] at h; simp only [cmpI, ofI_lt hy1 hx1] at h ⊢; simpa using h
      rw [if_pos hc] at h3
      subst h3
      exact k a hL
    · have hc : ¬ cmpI .gt x 0 = true := by
        rw [← ofI_0] at h; simp only [cmpI, ofI_lt hy1 hx1] at h ⊢; simpa using h
      rw [if_neg hc] at h3
      subst h3
      exact k a hL
  · cases hs
theorem sx_icmp_le {off : Int} (hx : p.tables.exec = Jvm.exec) (hb : c.code = cc) (hL : LR a nL ls) (hst : ∀ v ∈ st, vok v) (hd : decode cc pc = .ok (.if_icmp .le off, 3)) (hs : stp P j (.if_icmp .le off) 3 pc ls st u = some ((pc', (ls', st')), u')) : Sx p l e R s m args below meth c nL pc a st u pc' ls' st' u' := by
  simp only [stp] at hs
  split at hs
  · rename_i y x r
    have hy1 : inR y := hst _ List.mem_cons_self
    have hx1 : inR x := hst _ (List.mem_cons_of_mem _ List.mem_cons_self)
    have hr : ∀ v ∈ r, vok v := fun v hv => hst v (List.mem_cons_of_mem _ (List.mem_cons_of_mem _ hv))
    obtain ⟨h1, rfl, rfl, rfl⟩ := goP_some hs
    obtain ⟨t, h2, h3⟩ := Option.map_eq_some_iff.mp h1
    refine ⟨rfl, hr, fun H locs cells slots Q k => lv_icmp_le hx hb hd (tgt_some h2) (fun h => ?_) (fun h => ?_)⟩
    · have hc : cmpI .le x y = true := by
        simp only [cmpI, ofI_le hx1 hy1] at h ⊢; simpa using h
      rw [if_pos hc] at h3
      subst h3
      exact k a hL
    · have hc : ¬ cmpI .le x y = true := by
        simp only [cmpI, ofI_le hx1 hy1] at h ⊢; simpa using h
      rw [if_neg hc] at h3
      subst h3
      exact k a hL
  · cases hs
theorem sx_if_le {off : Int} (hx : p.tables.exec = Jvm.exec) (hb : c.code = cc) (hL : LR a nL ls) (hst : ∀ v ∈ st, vok v) (hd : decode cc pc = .ok (.ifCond .le off, 3)) (hs : stp P j (.ifCond .le off) 3 pc ls st u = some ((pc', (ls', st')), u')) : Sx p l e R s m args below meth c nL pc a st u pc' ls' st' u' := by
  simp only [stp] at hs
  split at hs
  · rename_i x r
    have hx1 : inR x := hst _ List.mem_cons_self
    have hy1 : inR 0 := inR_0
    have hr : ∀ v ∈ r, vok v := fun v hv => hst v (List.mem_cons_of_mem _ hv)
    obtain ⟨h1, rfl, rfl, rfl⟩ := goP_some hs
    obtain ⟨t, h2, h3⟩ := Option.map_eq_some_iff.mp h1
    refine ⟨rfl, hr, fun H locs cells slots Q k => lv_if_le hx hb hd (tgt_some h2) (fun h => ?_) (fun h => ?_)⟩
    · have hc : cmpI .le x 0 = true := by
        rw [← ofI_0] at h; simp only [cmpI, ofI_le hx1 hy1] at h ⊢; simpa using h
      rw [if_pos hc] at h3
      subst h3
      exact k a hL
    · have hc : ¬ cmpI .le x 0 = true := by
        rw [← ofI_0] at h; simp only [cmpI, ofI_le hx1 hy1] at h ⊢; simpa using h
      rw [if_neg hc] at h3
      subst h3
      exact k a hL
  · cases hs
theorem sx_table {df lo hi : Int} {offs : Array Int} (hx : p.tables.exec = Jvm.exec) (hb : c.code = cc) (hL : LR a nL ls) (hst : ∀ v ∈ st, vok v) (hd : decode cc pc = .ok (.tableswitch df lo hi offs, n)) (hs : stp P j (.tableswitch df lo hi offs) n pc ls st u = some ((pc', (ls', st')), u')) : Sx p l e R s m args below meth c nL pc a st u pc' ls' st' u' := by
  simp only [stp] at hs
  split at hs
  · rename_i x r
    have hx1 : inR x := hst _ List.mem_cons_self
    obtain ⟨h1, rfl, rfl, rfl⟩ := goP_some hs
    obtain ⟨off, h2, h3⟩ := Option.bind_eq_some_iff.mp h1
    refine ⟨rfl, fun v hv => hst v (List.mem_cons_of_mem _ hv), fun H locs cells slots Q k => ?_⟩
    unfold tsw at h2
    by_cases hc : x < lo ∨ hi < x
    · rw [if_pos hc] at h2
      cases h2
      exact lv_tableOut hx hb hd (by rw [toI hx1]; exact hc) (tgt_some h3) (k a hL)
    · rw [if_neg hc] at h2
      exact lv_tableIn hx hb hd (by rw [toI hx1]; exact fun q => hc (Or.inl q)) (by rw [toI hx1]; exact fun q => hc (Or.inr q)) (by rw [toI hx1]; exact h2) (tgt_some h3) (k a hL)
  · cases hs
theorem sx_lookup {df : Int} {ps : Array (Int × Int)} (hx : p.tables.exec = Jvm.exec) (hb : c.code = cc) (hL : LR a nL ls) (hst : ∀ v ∈ st, vok v) (hd : decode cc pc = .ok (.lookupswitch df ps, n)) (hs : stp P j (.lookupswitch df ps) n pc ls st u = some ((pc', (ls', st')), u')) : Sx p l e R s m args below meth c nL pc a st u pc' ls' st' u' := by
  simp only [stp] at hs
  split at hs
  · rename_i x r
    have hx1 : inR x := hst _ List.mem_cons_self
    split at hs
    · rename_i hp
      obtain ⟨h1, rfl, rfl, rfl⟩ := goP_some hs
      exact ⟨rfl, fun v hv => hst v (List.mem_cons_of_mem _ hv), fun H locs cells slots Q k => lv_lookup hx hb hd hp (by rw [toI hx1]) (tgt_some h1) (k a hL)⟩
    · cases hs
  · cases hs
end SX
end
section
/-! What is known of the tables at every state of the run: words, classes, arrays' classes, the text of the signs. -/
def kW (w : Cond) : Bool := match w with
  | .fieldLinkNest .. => true
  | .methodLinkNest .. => true
  | .castable .. => true
  | .declares .. => true
  | w => goodWord w
theorem kW_warm {s U : State} {w : Cond} (hk : kW w = true) (hW : s.WarmedH U.vm) (h : w.before #[] s = true) (A : Array Value) : w.before A U = true := by
  cases w
  case fieldLinkNest => exact va_Nw.use rfl (va_Nw.warmF hW h)
  case methodLinkNest => exact va_Nw.use rfl (va_Nw.warmM hW h)
  case castable => exact va_Nw.use rfl (va_Nw.warmC hW h)
  case declares => exact va_tabs rfl (rfl : (s.setVm U.vm).vm = U.vm) (Cond.faceAtom_setVm hW.alike _ rfl h)
  all_goals exact word_at hW (good_of_word hk) h
def SK (D : va_G) (dA : Nat → ClassId) (P : Pg) (s : State) : Prop :=
  (∀ w ∈ lw_tbl, kW w = true → w.before #[] s = true) ∧ va_K D clT [] s ∧ (∀ k, okK k → ArrOfT s (dA k) (aT k) ∧ va_RA s (dA k) (aT k)) ∧ va_AO (cNm 2) s ∧ va_AO (cNm 4) s ∧
  vk_R "MovingBoxes$Term" 84 "><^?" (pSg P) s ∧ vk_R "MovingBoxes$Teller" 125 "><^?" (pSg P) s
section SKs
variable {D : va_G} {dA : Nat → ClassId} {P : Pg} {s U : State}
theorem SK.warm (h : SK D dA P s) (hW : s.WarmedH U.vm) : SK D dA P U :=
  ⟨fun w hw hk => kW_warm hk hW (h.1 w hw hk) _, va_K.moved hW.alike h.2.1, fun k hk => ⟨arrOfT_moved hW.alike (h.2.2.1 k hk).1, (h.2.2.1 k hk).2.moved hW.alike⟩, h.2.2.2.1.moved hW.alike, h.2.2.2.2.1.moved hW.alike, h.2.2.2.2.2.1.warm hW, h.2.2.2.2.2.2.warm hW⟩
theorem SK.w (h : SK D dA P s) {w : Cond} (hw : w ∈ lw_tbl) (hk : kW w = true) (A : Array Value) : w.before A s = true := kW_warm hk (State.WarmedH.refl s) (h.1 w hw hk) A
theorem SK.kn (h : SK D dA P s) {c : Nat} (hc : c < 9) : u_Kn s (cNm c) (cTb c) (cNf c) (D.1 c) (D.2 c) := h.2.1.1 c _ (clT_at hc)
theorem SK.lays (h : SK D dA P s) {c k : Nat} (hc : c < 9) (hk : k < cNf c) (A : Array Value) :
    (Cond.lays (cNm c) (cTb c k).1 (cTb c k).2.1 (cTb c k).2.2.1).before A s = true ∨ (Cond.laysFinal (cNm c) (cTb c k).1 (cTb c k).2.1 (cTb c k).2.2.1).before A s = true := by
  have hm := lay_in hc _ (u_in_lay (C := cNm c) (T := cTb c) hk)
  unfold u_lay at hm
  split at hm
  · exact Or.inr (h.w hm rfl A)
  · exact Or.inl (h.w hm rfl A)
theorem SK.apart (h : SK D dA P s) {c : Nat} (hc : c < 9) : ∀ x y, x < cNf c → y < cNf c → x ≠ y → (D.2 c) x ≠ (D.2 c) y := by
  intro x y hx hy hne
  obtain ⟨hS, -⟩ := h.kn hc
  obtain ⟨_, _, _, fa, hia, ea⟩ := hS x hx
  obtain ⟨_, _, _, fb, hib, eb⟩ := hS y hy
  rw [← ea, ← eb]
  refine u_apart (h.lays hc hx #[]) (h.lays hc hy #[]) hia hib ?_
  rw [(State.fieldFound?_type hia (cTy_ok c hc x hx)).1, (State.fieldFound?_type hib (cTy_ok c hc y hy)).1]
  exact cNm_ne c hc x hx y hy hne
end SKs
/-- the heap against the memory -/
def svA (u : Mm) (k a i : Nat) : Value := if k < 3 then .int (Int32.ofInt (mI u a i)) else if k = 3 then .long (mL u a i) else va_rf (mF u a i)
def svF (u : Mm) (t a i : Nat) : Value := if t = 1 then .long (mL u a i) else if t = 2 then va_rf (mF u a i) else .int (Int32.ofInt (mI u a i))
def HR (D : va_G) (dA : Nat → ClassId) (h : Nat) (H0 : Heap) (u : Mm) (H : Heap) : Prop :=
  H.size = mT u ∧ h ≤ mT u ∧ (∀ q, q < h → H[q]? = H0[q]?) ∧ (∀ a q, mS u a = some q → h ≤ a ∧ a < mT u) ∧
  (∀ a k n, mS u a = some (k, n) → k < 100 → (okK k ∧ n < 65536) ∧ H[a]? = some (arrV (dA k) n (svA u k a))) ∧
  (∀ a c n, mS u a = some (100 + c, n) → c < 9 ∧ n = cNf c ∧ t_OB a (D.1 c) n (D.2 c) H (fun k => svF u (tyF c k) a k)) ∧ (∀ a i, inR (mI u a i)) ∧ (∀ a n, mS u a = some (1, n) → ∀ i, 0 ≤ mI u a i ∧ mI u a i < 65536) ∧ ∀ (a : Nat) (cell : Cell), h ≤ a → H[a]? = some cell → cell.vm.isStatics = false
section HRs
variable {D : va_G} {dA : Nat → ClassId} {h a : Nat} {H0 H H' : Heap} {u u' : Mm}
theorem HR.upd (R : HR D dA h H0 u H) (hS : mS u' = mS u) (hT : mT u' = mT u) (hrow : ∀ b, b ≠ a → mI u' b = mI u b ∧ mL u' b = mL u b ∧ mF u' b = mF u b) (ha : h ≤ a) (hsz : H'.size = H.size) (hoff : ∀ q, q ≠ a → H'[q]? = H[q]?) (hr : ∀ i, inR (mI u' a i)) (hch : ∀ n, mS u a = some (1, n) → ∀ i, 0 ≤ mI u' a i ∧ mI u' a i < 65536) (hns : ∀ cell : Cell, H'[a]? = some cell → cell.vm.isStatics = false)
    (hA : ∀ k n, mS u a = some (k, n) → k < 100 → H'[a]? = some (arrV (dA k) n (svA u' k a))) (hO : ∀ c n, mS u a = some (100 + c, n) → t_OB a (D.1 c) n (D.2 c) H' (fun k => svF u' (tyF c k) a k)) : HR D dA h H0 u' H' := by
  obtain ⟨r1, r2, r3, r4, r5, r6, r7, r8, r9⟩ := R
  refine ⟨by rw [hsz, hT]; exact r1, by rw [hT]; exact r2, fun q hq => by rw [hoff q (by omega)]; exact r3 q hq, fun b q hb => by rw [hT]; rw [hS] at hb; exact r4 b q hb, fun b k n hb hk => ?_, fun b c n hb => ?_, fun b i => ?_, fun b n hb i => ?_, fun b cell hb hc => ?_⟩
  · rw [hS] at hb
    refine ⟨(r5 b k n hb hk).1, ?_⟩
    by_cases e : b = a
    · subst e; exact hA k n hb hk
    · rw [hoff b e, (r5 b k n hb hk).2]
      obtain ⟨e1, e2, e3⟩ := hrow b e
      have : svA u' k b = svA u k b := by funext i; simp only [svA, e1, e2, e3]
      rw [this]
  · rw [hS] at hb
    refine ⟨(r6 b c n hb).1, (r6 b c n hb).2.1, ?_⟩
    by_cases e : b = a
    · subst e; exact hO c n hb
    · obtain ⟨e1, e2, e3⟩ := hrow b e
      have : (fun k => svF u' (tyF c k) b k) = (fun k => svF u (tyF c k) b k) := by funext i; simp only [svF, e1, e2, e3]
      rw [this]
      exact (r6 b c n hb).2.2.kept (hoff b e)
  · by_cases e : b = a
    · subst e; exact hr i
    · rw [(hrow b e).1]; exact r7 b i
  · rw [hS] at hb
    by_cases e : b = a
    · subst e; exact hch n hb i
    · rw [(hrow b e).1]; exact r8 b n hb i
  · by_cases e : b = a
    · subst e; exact hns cell hc
    · rw [hoff b e] at hc; exact r9 b cell hb hc
theorem ns_of {k0 n0 : Nat} {v : Mm} (hm : mS u a = some (k0, n0)) (hA : ∀ k n, mS u a = some (k, n) → k < 100 → H'[a]? = some (arrV (dA k) n (svA v k a))) (hO : ∀ c n, mS u a = some (100 + c, n) → t_OB a (D.1 c) n (D.2 c) H' (fun k => svF v (tyF c k) a k)) : ∀ cell : Cell, H'[a]? = some cell → cell.vm.isStatics = false := by
  intro cell hc
  by_cases hk : k0 < 100
  · have := (hA k0 n0 hm hk).symm.trans hc
    cases this
    rfl
  · obtain ⟨c, rfl⟩ : ∃ c, k0 = 100 + c := ⟨k0 - 100, by omega⟩
    obtain ⟨cell', h1, -, h3, -⟩ := hO c n0 hm
    cases h1.symm.trans hc
    rw [h3]
    rfl
theorem HR.wI (R : HR D dA h H0 u H) {i k0 n0 : Nat} (hm : mS u a = some (k0, n0)) {x : Int} (hx : inR x) (hch : ∀ n, mS u a = some (1, n) → 0 ≤ x ∧ x < 65536) (ha : h ≤ a) (hsz : H'.size = H.size) (hoff : ∀ q, q ≠ a → H'[q]? = H[q]?)
    (hA : ∀ k n, mS u a = some (k, n) → k < 100 → H'[a]? = some (arrV (dA k) n (svA (sI u (u2 (mI u) a i x)) k a))) (hO : ∀ c n, mS u a = some (100 + c, n) → t_OB a (D.1 c) n (D.2 c) H' (fun k => svF (sI u (u2 (mI u) a i x)) (tyF c k) a k)) : HR D dA h H0 (sI u (u2 (mI u) a i x)) H' := by
  refine R.upd (u' := sI u (u2 (mI u) a i x)) (a := a) rfl rfl (fun b hb => ⟨u2_ne hb, rfl, rfl⟩) ha hsz hoff (fun k => ?_) (fun n hn k => ?_) (ns_of hm hA hO) hA hO
  · show inR (u2 (mI u) a i x a k)
    rw [u2_eq]
    unfold u1
    split
    · exact hx
    · exact R.2.2.2.2.2.2.1 a k
  · show 0 ≤ u2 (mI u) a i x a k ∧ u2 (mI u) a i x a k < 65536
    rw [u2_eq]
    unfold u1
    split
    · exact hch n hn
    · exact R.2.2.2.2.2.2.2.1 a n hn k
theorem HR.wL (R : HR D dA h H0 u H) {i k0 n0 : Nat} (hm : mS u a = some (k0, n0)) {x : Int64} (ha : h ≤ a) (hsz : H'.size = H.size) (hoff : ∀ q, q ≠ a → H'[q]? = H[q]?)
    (hA : ∀ k n, mS u a = some (k, n) → k < 100 → H'[a]? = some (arrV (dA k) n (svA (sL u (u2 (mL u) a i x)) k a))) (hO : ∀ c n, mS u a = some (100 + c, n) → t_OB a (D.1 c) n (D.2 c) H' (fun k => svF (sL u (u2 (mL u) a i x)) (tyF c k) a k)) : HR D dA h H0 (sL u (u2 (mL u) a i x)) H' :=
  R.upd (u' := sL u (u2 (mL u) a i x)) (a := a) rfl rfl (fun b hb => ⟨rfl, u2_ne hb, rfl⟩) ha hsz hoff (fun k => R.2.2.2.2.2.2.1 a k) (fun n hn k => R.2.2.2.2.2.2.2.1 a n hn k) (ns_of hm hA hO) hA hO
theorem HR.wF (R : HR D dA h H0 u H) {i k0 n0 : Nat} (hm : mS u a = some (k0, n0)) {x : Option Nat} (ha : h ≤ a) (hsz : H'.size = H.size) (hoff : ∀ q, q ≠ a → H'[q]? = H[q]?)
    (hA : ∀ k n, mS u a = some (k, n) → k < 100 → H'[a]? = some (arrV (dA k) n (svA (sF u (u2 (mF u) a i x)) k a))) (hO : ∀ c n, mS u a = some (100 + c, n) → t_OB a (D.1 c) n (D.2 c) H' (fun k => svF (sF u (u2 (mF u) a i x)) (tyF c k) a k)) : HR D dA h H0 (sF u (u2 (mF u) a i x)) H' :=
  R.upd (u' := sF u (u2 (mF u) a i x)) (a := a) rfl rfl (fun b hb => ⟨rfl, rfl, u2_ne hb⟩) ha hsz hoff (fun k => R.2.2.2.2.2.2.1 a k) (fun n hn k => R.2.2.2.2.2.2.2.1 a n hn k) (ns_of hm hA hO) hA hO
/-- a new cell -/
theorem HR.new (R : HR D dA h H0 u H) {k n : Nat} (hz : H'.size = H.size + 1) (hk : ∀ q, q < H.size → H'[q]? = H[q]?)
    (hA : k < 100 → (okK k ∧ n < 65536) ∧ H'[H.size]? = some (arrV (dA k) n (svA (mNew u k n) k (mT u)))) (hO : ∀ c, k = 100 + c → c < 9 ∧ n = cNf c ∧ t_OB (mT u) (D.1 c) n (D.2 c) H' (fun i => svF (mNew u k n) (tyF c i) (mT u) i)) : HR D dA h H0 (mNew u k n) H' := by
  obtain ⟨r1, r2, r3, r4, r5, r6, r7, r8, r9⟩ := R
  have row : ∀ b, b ≠ mT u → mI (mNew u k n) b = mI u b ∧ mL (mNew u k n) b = mL u b ∧ mF (mNew u k n) b = mF u b := fun b hb => ⟨if_neg hb, if_neg hb, if_neg hb⟩
  have shp : ∀ b, b ≠ mT u → mS (mNew u k n) b = mS u b := fun b hb => if_neg hb
  have shpT : mS (mNew u k n) (mT u) = some (k, n) := if_pos rfl
  refine ⟨by rw [hz, r1]; rfl, Nat.le_succ_of_le r2, fun q hq => by rw [hk q (by omega)]; exact r3 q hq, fun b q hb => ?_, fun b k' n' hb hk' => ?_, fun b c n' hb => ?_, fun b i => ?_, fun b n' hb i => ?_, fun b cell hb hc => ?_⟩
  · show h ≤ b ∧ b < mT u + 1
    by_cases e : b = mT u
    · omega
    · rw [shp b e] at hb
      have := r4 b q hb
      omega
  · by_cases e : b = mT u
    · subst e
      rw [shpT] at hb
      cases hb
      have := hA hk'
      rw [r1] at this
      exact this
    · rw [shp b e] at hb
      refine ⟨(r5 b k' n' hb hk').1, ?_⟩
      have hb4 := r4 b _ hb
      rw [hk b (by omega), (r5 b k' n' hb hk').2]
      obtain ⟨e1, e2, e3⟩ := row b e
      have : svA (mNew u k n) k' b = svA u k' b := by funext i; simp only [svA, e1, e2, e3]
      rw [this]
  · by_cases e : b = mT u
    · subst e
      rw [shpT] at hb
      cases hb
      exact hO c rfl
    · rw [shp b e] at hb
      have hb4 := r4 b _ hb
      refine ⟨(r6 b c n' hb).1, (r6 b c n' hb).2.1, ?_⟩
      obtain ⟨e1, e2, e3⟩ := row b e
      have : (fun i => svF (mNew u k n) (tyF c i) b i) = (fun i => svF u (tyF c i) b i) := by funext i; simp only [svF, e1, e2, e3]
      rw [this]
      exact (r6 b c n' hb).2.2.kept (hk b (by omega))
  · by_cases e : b = mT u
    · subst e
      show inR ((if mT u = mT u then (fun _ => (0 : Int)) else mI u (mT u)) i)
      rw [if_pos rfl]
      exact inR_0
    · rw [(row b e).1]; exact r7 b i
  · by_cases e : b = mT u
    · subst e
      show 0 ≤ (if mT u = mT u then (fun _ => (0 : Int)) else mI u (mT u)) i ∧ (if mT u = mT u then (fun _ => (0 : Int)) else mI u (mT u)) i < 65536
      rw [if_pos rfl]
      exact ⟨by decide, by decide⟩
    · rw [shp b e] at hb
      rw [(row b e).1]; exact r8 b n' hb i
  · by_cases e : b = mT u
    · subst e
      by_cases hk1 : k < 100
      · have h1 := (hA hk1).2
        rw [r1, hc] at h1
        cases h1
        rfl
      · obtain ⟨c0, rfl⟩ : ∃ c, k = 100 + c := ⟨k - 100, by omega⟩
        obtain ⟨-, -, cell', h1, -, h3, -⟩ := hO c0 rfl
        cases h1.symm.trans hc
        rw [h3]
        rfl
    · have hb2 : b < H'.size := (Array.getElem?_eq_some_iff.mp hc).1
      rw [hk b (by omega)] at hc
      exact r9 b cell hb hc
/-- a new cell that the memory does not look into -/
theorem HR.hole (R : HR D dA h H0 u H) {n : Nat} (hz : H'.size = H.size + 1) (hk : ∀ q, q < H.size → H'[q]? = H[q]?) (hns : ∀ cell : Cell, H'[H.size]? = some cell → cell.vm.isStatics = false) : HR D dA h H0 (mHole u n) H' := by
  obtain ⟨r1, r2, r3, r4, r5, r6, r7, r8, r9⟩ := R
  have shp : ∀ b, b ≠ mT u → mS (mHole u n) b = mS u b := fun b hb => if_neg hb
  have shpT : mS (mHole u n) (mT u) = none := if_pos rfl
  have old : ∀ b q, mS (mHole u n) b = some q → b ≠ mT u ∧ mS u b = some q := fun b q hb => by
    by_cases e : b = mT u
    · subst e; rw [shpT] at hb; cases hb
    · rw [shp b e] at hb; exact ⟨e, hb⟩
  refine ⟨by rw [hz, r1]; rfl, Nat.le_succ_of_le r2, fun q hq => by rw [hk q (by omega)]; exact r3 q hq, fun b q hb => ?_, fun b k' n' hb hk' => ?_, fun b c n' hb => ?_, fun b i => r7 b i, fun b n' hb i => r8 b n' (old b _ hb).2 i, fun b cell hb hc => ?_⟩
  · obtain ⟨-, h2⟩ := old b q hb
    have := r4 b q h2
    show h ≤ b ∧ b < mT u + 1
    omega
  · obtain ⟨-, h2⟩ := old b _ hb
    have hb4 := r4 b _ h2
    refine ⟨(r5 b k' n' h2 hk').1, ?_⟩
    rw [hk b (by omega)]
    exact (r5 b k' n' h2 hk').2
  · obtain ⟨-, h2⟩ := old b _ hb
    have hb4 := r4 b _ h2
    exact ⟨(r6 b c n' h2).1, (r6 b c n' h2).2.1, (r6 b c n' h2).2.2.kept (hk b (by omega))⟩
  · have hb2 : b < H'.size := (Array.getElem?_eq_some_iff.mp hc).1
    by_cases e : b = H.size
    · subst e; exact hns cell hc
    · rw [hk b (by omega)] at hc
      exact r9 b cell hb hc
end HRs
end
section
/-! Instructions that read or write the heap. Written by wip/whole/gen/mk23.py. -/
theorem kEl_some {u : Mm} {ok : Nat → Bool} {st st' : List Vl} (h : kEl u ok st = some st') : ∃ (x : Int) (a : Nat) (r : List Vl) (k n : Nat), st = vI x :: vR a :: r ∧ mS u a = some (k, n) ∧ ok k = true ∧ k < 100 ∧ 0 ≤ x ∧ x < (n : Int) ∧
    st' = (if k < 3 then vI (mI u a x.toNat) else if k = 3 then vL (mL u a x.toNat) else vF (mF u a x.toNat)) :: r := by
  unfold kEl at h
  split at h
  · rename_i x a r
    cases hm : mS u a with
    | none => rw [hm] at h; cases h
    | some q =>
      obtain ⟨k, n⟩ := q
      rw [hm] at h
      simp only at h
      split at h
      · rename_i hc
        cases h
        exact ⟨x, a, r, k, n, rfl, hm, hc.1, hc.2.1, hc.2.2.1, hc.2.2.2, rfl⟩
      · cases h
  · cases h
theorem kEs_some {n pc pc' kd : Nat} {ls ls' : Ls} {u u' : Mm} {f : Int → Int} {st st' : List Vl} (h : kEs n pc ls u kd f st = some ((pc', (ls', st')), u')) : ∃ (v x : Int) (a m : Nat), st = vI v :: vI x :: vR a :: st' ∧ mS u a = some (kd, m) ∧ 0 ≤ x ∧ x < (m : Int) ∧ pc' = pc + n ∧ ls' = ls ∧ u' = sI u (u2 (mI u) a x.toNat (f v)) := by
  unfold kEs at h
  split at h
  · rename_i v x a r
    cases hm : mS u a with
    | none => rw [hm] at h; cases h
    | some q =>
      obtain ⟨k, m⟩ := q
      rw [hm] at h
      simp only at h
      split at h
      · rename_i hc
        cases h
        obtain ⟨rfl, h1, h2⟩ := hc
        exact ⟨v, x, a, m, rfl, hm, h1, h2, rfl, rfl, rfl⟩
      · cases h
  · cases h
theorem kLs_some {n pc pc' : Nat} {ls ls' : Ls} {u u' : Mm} {st st' : List Vl} (h : kLs n pc ls u st = some ((pc', (ls', st')), u')) : ∃ (v : Int64) (x : Int) (a m : Nat), st = vL v :: vI x :: vR a :: st' ∧ mS u a = some (3, m) ∧ 0 ≤ x ∧ x < (m : Int) ∧ pc' = pc + n ∧ ls' = ls ∧ u' = sL u (u2 (mL u) a x.toNat v) := by
  unfold kLs at h
  split at h
  · rename_i v x a r
    cases hm : mS u a with
    | none => rw [hm] at h; cases h
    | some q =>
      obtain ⟨k, m⟩ := q
      rw [hm] at h
      simp only at h
      split at h
      · rename_i hc
        cases h
        obtain ⟨rfl, h1, h2⟩ := hc
        exact ⟨v, x, a, m, rfl, hm, h1, h2, rfl, rfl, rfl⟩
      · cases h
  · cases h
theorem kAs_some {n pc pc' : Nat} {ls ls' : Ls} {u u' : Mm} {st st' : List Vl} (h : kAs n pc ls u st = some ((pc', (ls', st')), u')) : ∃ (b : Nat) (x : Int) (a c m mb : Nat), st = vR b :: vI x :: vR a :: st' ∧ mS u a = some (4 + c, m) ∧ 4 + c < 100 ∧ mS u b = some (100 + c, mb) ∧ 0 ≤ x ∧ x < (m : Int) ∧ pc' = pc + n ∧ ls' = ls ∧ u' = sF u (u2 (mF u) a x.toNat (some b)) := by
  unfold kAs at h
  split at h
  · rename_i b x a r
    cases hm : mS u a with
    | none => rw [hm] at h; cases h
    | some q =>
      obtain ⟨k, m⟩ := q
      cases hb : mS u b with
      | none => rw [hm, hb] at h; cases h
      | some q =>
        obtain ⟨kb, mb⟩ := q
        rw [hm, hb] at h
        simp only at h
        split at h
        · rename_i hc
          cases h
          obtain ⟨h1, h2, h3, h4, h5⟩ := hc
          obtain ⟨c, rfl⟩ : ∃ c, k = 4 + c := ⟨k - 4, by omega⟩
          refine ⟨b, x, a, c, m, mb, rfl, hm, h2, ?_, h4, h5, rfl, rfl, rfl⟩
          rw [hb, h3]
          congr 2
          omega
        · cases h
  · cases h
theorem kLen_some {u : Mm} {st st' : List Vl} (h : kLen u st = some st') : ∃ (a : Nat) (r : List Vl) (k n : Nat), st = vR a :: r ∧ mS u a = some (k, n) ∧ k < 100 ∧ st' = vI n :: r := by
  unfold kLen at h
  split at h
  · rename_i a r
    cases hm : mS u a with
    | none => rw [hm] at h; cases h
    | some q =>
      obtain ⟨k, n⟩ := q
      rw [hm] at h
      simp only at h
      split at h
      · rename_i hc; cases h; exact ⟨a, r, k, n, rfl, hm, hc, rfl⟩
      · cases h
  · cases h
theorem kGet_some {u : Mm} {o : Option (Nat × (Nat × Nat))} {st st' : List Vl} (h : kGet u o st = some st') : ∃ (a : Nat) (r : List Vl) (c k t n : Nat), st = vR a :: r ∧ o = some (c, (k, t)) ∧ mS u a = some (100 + c, n) ∧ k < n ∧ st' = (if t = 1 then vL (mL u a k) else if t = 2 then vF (mF u a k) else vI (mI u a k)) :: r := by
  unfold kGet at h
  split at h
  · rename_i a r
    cases o with
    | none => cases h
    | some q =>
      obtain ⟨c, k, t⟩ := q
      cases hm : mS u a with
      | none => rw [hm] at h; cases h
      | some q =>
        obtain ⟨kd, n⟩ := q
        rw [hm] at h
        simp only at h
        split at h
        · rename_i hc
          cases h
          obtain ⟨rfl, h2⟩ := hc
          exact ⟨a, r, c, k, t, n, rfl, rfl, hm, h2, rfl⟩
        · cases h
  · cases h
theorem kPut_some {n pc pc' : Nat} {ls ls' : Ls} {u u' : Mm} {o : Option (Nat × (Nat × Nat))} {st st' : List Vl} (h : kPut n pc ls u o st = some ((pc', (ls', st')), u')) :
    (∃ (x : Int) (a c k t m : Nat), st = vI x :: vR a :: st' ∧ o = some (c, (k, t)) ∧ mS u a = some (100 + c, m) ∧ k < m ∧ (t = 0 ∨ (t = 3 ∧ (x = 0 ∨ x = 1))) ∧ pc' = pc + n ∧ ls' = ls ∧ u' = sI u (u2 (mI u) a k x)) ∨
    (∃ (r : Option Nat) (a c k m : Nat), st = vF r :: vR a :: st' ∧ o = some (c, (k, 2)) ∧ mS u a = some (100 + c, m) ∧ k < m ∧ pc' = pc + n ∧ ls' = ls ∧ u' = sF u (u2 (mF u) a k r)) := by
  unfold kPut at h
  split at h
  · rename_i x a r
    cases o with
    | none => cases h
    | some q =>
      obtain ⟨c, k, t⟩ := q
      cases hm : mS u a with
      | none => rw [hm] at h; cases h
      | some q =>
        obtain ⟨kd, m⟩ := q
        rw [hm] at h
        simp only at h
        split at h
        · rename_i hc
          cases h
          obtain ⟨rfl, h2, h3⟩ := hc
          exact Or.inl ⟨x, a, c, k, t, m, rfl, rfl, hm, h2, h3, rfl, rfl, rfl⟩
        · cases h
  · rename_i r a rr
    cases o with
    | none => cases h
    | some q =>
      obtain ⟨c, k, t⟩ := q
      cases hm : mS u a with
      | none => rw [hm] at h; cases h
      | some q =>
        obtain ⟨kd, m⟩ := q
        rw [hm] at h
        simp only at h
        split at h
        · rename_i hc
          cases h
          obtain ⟨rfl, h2, rfl⟩ := hc
          exact Or.inr ⟨r, a, c, k, m, rfl, rfl, hm, h2, rfl, rfl, rfl⟩
        · cases h
  · cases h
theorem kNa_some {n pc pc' k : Nat} {ls ls' : Ls} {u u' : Mm} {st st' : List Vl} (h : kNa n pc ls u k st = some ((pc', (ls', st')), u')) : ∃ (x : Int) (r : List Vl), st = vI x :: r ∧ 0 ≤ x ∧ x < 65536 ∧ pc' = pc + n ∧ ls' = ls ∧ st' = vR (mT u) :: r ∧ u' = mNew u k x.toNat := by
  unfold kNa at h
  split at h
  · rename_i x r
    split at h
    · rename_i hc; cases h; exact ⟨x, r, rfl, hc.1, hc.2, rfl, rfl, rfl, rfl⟩
    · cases h
  · cases h
theorem tPf_some {j k c f t : Nat} (h : tPf j k = some (c, (f, t))) : tLf (tOw j) k = some (c, (f, t)) ∧ (tFin c f = 0 ∨ (tIni j = 1 ∧ tOw j = c)) := by
  unfold tPf at h
  split at h
  · split at h
    · rename_i hl hc; cases h; exact ⟨hl, hc⟩
    · cases h
  · cases h
theorem tFin_ok : ∀ c, c < 9 → ∀ k, k < cNf c → ((cTb c k).2.2.2 = true ↔ tFin c k = 1) ∧ (tFin c k = 0 ∨ tFin c k = 1) := by decide +kernel
theorem cTy_code : ∀ c, c < 9 → ∀ k, k < cNf c → (tyF c k = 0 → cTy c k = .int) ∧ (tyF c k = 3 → cTy c k = .boolean) ∧ (tyF c k = 1 → cTy c k = .long) ∧ (tyF c k = 2 → (cTy c k).isReference = true) := by decide +kernel
theorem updV_sv {u u' : Mm} {k a i : Nat} {v : Value} (hv : svA u' k a i = v) (ho : ∀ q, q ≠ i → svA u' k a q = svA u k a q) : updV (svA u k a) i v = svA u' k a := by
  funext q
  unfold updV
  split
  · rename_i e; rw [e]; exact hv.symm
  · rename_i e; exact (ho q e).symm
section SG
variable {p : Program} {l : Launch} {e : Env} {R : Room} {s : State} {m : MethodId} {args : Array Value} {below : List Frame} {meth : Method} {c : Code} {cc : ByteArray}
variable {D : va_G} {dA : Nat → ClassId} {h0 : Nat} {H0 : Heap}
/-- a step of the small machine is the JVM's -/
def Sg (p : Program) (l : Launch) (e : Env) (R : Room) (s : State) (m : MethodId) (args : Array Value) (below : List Frame) (meth : Method) (c : Code) (D : va_G) (dA : Nat → ClassId) (h0 : Nat) (H0 : Heap) (nL pc : Nat) (a : Array Slot) (st : List Vl) (u : Mm) (pc' : Nat) (ls' : Ls) (st' : List Vl) (u' : Mm) : Prop :=
  mT u ≤ mT u' ∧ mU u ≤ mU u' ∧ ∀ (H : Heap) (locs : List Loc) (cells slots : Nat) (Q : State → Prop), HR D dA h0 H0 u H → (∀ q ∈ locs, h0 ≤ q.base) → cells + (mT u' - mT u) ≤ R.cells → slots + (mU u' - mU u) ≤ R.slots →
    (∀ (a' : Array Slot) (H' : Heap) (locs' : List Loc), LR a' nL ls' → HR D dA h0 H0 u' H' → (∀ v ∈ st', vok v) → (∀ q ∈ locs', h0 ≤ q.base) → W p l e R s m args below meth c H' locs' (cells + (mT u' - mT u)) (slots + (mU u' - mU u)) Q (F0 m pc' a' (st'.map tv))) →
    W p l e R s m args below meth c H locs cells slots Q (F0 m pc a (st.map tv))
variable {P : Pg} {j n pc pc' nL : Nat} {a : Array Slot} {ls ls' : Ls} {st st' : List Vl} {u u' : Mm}
theorem Sx.g (h : Sx p l e R s m args below meth c nL pc a st u pc' ls' st' u') : Sg p l e R s m args below meth c D dA h0 H0 nL pc a st u pc' ls' st' u' := by
  obtain ⟨rfl, hv, k⟩ := h
  refine ⟨Nat.le_refl _, Nat.le_refl _, fun H locs cells slots Q hR hl _ _ kk => k H locs cells slots Q fun a' ha => ?_⟩
  have := kk a' H locs ha hR hv hl
  simpa only [Nat.sub_self, Nat.add_zero] using this
theorem w_00 {H : Heap} {locs : List Loc} {cells slots x y : Nat} {Q : State → Prop} {g : JFrame} (k : W p l e R s m args below meth c H locs (cells + (x - x)) (slots + (y - y)) Q g) : W p l e R s m args below meth c H locs cells slots Q g := by
  rw [Nat.sub_self, Nat.sub_self, Nat.add_zero, Nat.add_zero] at k
  exact k
theorem loc_app {locs : List Loc} {b k : Nat} (hl : ∀ q ∈ locs, h0 ≤ q.base) (hb : h0 ≤ b) : ∀ q ∈ locs ++ [⟨b, k⟩], h0 ≤ q.base := by
  intro q hq
  rcases List.mem_append.mp hq with h | h
  · exact hl q h
  · rw [List.mem_singleton.mp h]; exact hb
theorem sg_iaload  (hx : p.tables.exec = Jvm.exec) (hb : c.code = cc) (hK : SK D dA P s) (hL : LR a nL ls) (hst : ∀ v ∈ st, vok v) (hd : decode cc pc = .ok (.iaload, 1)) (hs : stp P j (.iaload) 1 pc ls st u = some ((pc', (ls', st')), u')) : Sg p l e R s m args below meth c D dA h0 H0 nL pc a st u pc' ls' st' u' := by
  obtain ⟨h1, rfl, rfl, rfl⟩ := goS_some hs
  obtain ⟨x, b, r, k, n, rfl, hm, hok, hk, hx0, hxn, rfl⟩ := kEl_some h1
  have hk0 : k = 0 := by simpa using hok
  subst hk0
  have hxr : inR x := hst _ List.mem_cons_self
  refine ⟨Nat.le_refl _, Nat.le_refl _, fun H locs cells slots Q hR hl _ _ kk => ?_⟩
  obtain ⟨⟨ho, h65⟩, hc⟩ := hR.2.2.2.2.1 b _ _ hm hk
  refine W.iald (v := tv (vI (mI u' b x.toNat))) hx hb hc ((hK.2.2.1 _ ho).1 _ _) (fun q => by cases q) (by rw [arrV_size]; exact ofI_in hxr hx0 hxn) ?_ rfl rfl hd ?_
  · rw [ofI_clamp hxr hx0, arrV_read _ _ (by omega)]
    rfl
  · exact w_00 (x := mT u') (y := mU u') (kk a H locs hL hR (List.forall_mem_cons.mpr ⟨hR.2.2.2.2.2.2.1 b x.toNat, fun v hv => hst v (List.mem_cons_of_mem _ (List.mem_cons_of_mem _ hv))⟩) hl)
theorem sg_caload  (hx : p.tables.exec = Jvm.exec) (hb : c.code = cc) (hK : SK D dA P s) (hL : LR a nL ls) (hst : ∀ v ∈ st, vok v) (hd : decode cc pc = .ok (.caload, 1)) (hs : stp P j (.caload) 1 pc ls st u = some ((pc', (ls', st')), u')) : Sg p l e R s m args below meth c D dA h0 H0 nL pc a st u pc' ls' st' u' := by
  obtain ⟨h1, rfl, rfl, rfl⟩ := goS_some hs
  obtain ⟨x, b, r, k, n, rfl, hm, hok, hk, hx0, hxn, rfl⟩ := kEl_some h1
  have hk0 : k = 1 := by simpa using hok
  subst hk0
  have hxr : inR x := hst _ List.mem_cons_self
  refine ⟨Nat.le_refl _, Nat.le_refl _, fun H locs cells slots Q hR hl _ _ kk => ?_⟩
  obtain ⟨⟨ho, h65⟩, hc⟩ := hR.2.2.2.2.1 b _ _ hm hk
  refine W.cald (v := tv (vI (mI u' b x.toNat))) hx hb hc ((hK.2.2.1 _ ho).1 _ _) (fun q => by cases q) (by rw [arrV_size]; exact ofI_in hxr hx0 hxn) ?_ rfl rfl hd ?_
  · rw [ofI_clamp hxr hx0, arrV_read _ _ (by omega)]
    rfl
  · exact w_00 (x := mT u') (y := mU u') (kk a H locs hL hR (List.forall_mem_cons.mpr ⟨hR.2.2.2.2.2.2.1 b x.toNat, fun v hv => hst v (List.mem_cons_of_mem _ (List.mem_cons_of_mem _ hv))⟩) hl)
theorem sg_baload  (hx : p.tables.exec = Jvm.exec) (hb : c.code = cc) (hK : SK D dA P s) (hL : LR a nL ls) (hst : ∀ v ∈ st, vok v) (hd : decode cc pc = .ok (.baload, 1)) (hs : stp P j (.baload) 1 pc ls st u = some ((pc', (ls', st')), u')) : Sg p l e R s m args below meth c D dA h0 H0 nL pc a st u pc' ls' st' u' := by
  obtain ⟨h1, rfl, rfl, rfl⟩ := goS_some hs
  obtain ⟨x, b, r, k, n, rfl, hm, hok, hk, hx0, hxn, rfl⟩ := kEl_some h1
  have hk0 : k = 2 := by simpa using hok
  subst hk0
  have hxr : inR x := hst _ List.mem_cons_self
  refine ⟨Nat.le_refl _, Nat.le_refl _, fun H locs cells slots Q hR hl _ _ kk => ?_⟩
  obtain ⟨⟨ho, h65⟩, hc⟩ := hR.2.2.2.2.1 b _ _ hm hk
  refine W.zald (v := tv (vI (mI u' b x.toNat))) hx hb hc ((hK.2.2.1 _ ho).1 _ _) (fun q => by cases q) (by rw [arrV_size]; exact ofI_in hxr hx0 hxn) ?_ rfl rfl hd ?_
  · rw [ofI_clamp hxr hx0, arrV_read _ _ (by omega)]
    rfl
  · exact w_00 (x := mT u') (y := mU u') (kk a H locs hL hR (List.forall_mem_cons.mpr ⟨hR.2.2.2.2.2.2.1 b x.toNat, fun v hv => hst v (List.mem_cons_of_mem _ (List.mem_cons_of_mem _ hv))⟩) hl)
theorem sg_laload  (hx : p.tables.exec = Jvm.exec) (hb : c.code = cc) (hK : SK D dA P s) (hL : LR a nL ls) (hst : ∀ v ∈ st, vok v) (hd : decode cc pc = .ok (.laload, 1)) (hs : stp P j (.laload) 1 pc ls st u = some ((pc', (ls', st')), u')) : Sg p l e R s m args below meth c D dA h0 H0 nL pc a st u pc' ls' st' u' := by
  obtain ⟨h1, rfl, rfl, rfl⟩ := goS_some hs
  obtain ⟨x, b, r, k, n, rfl, hm, hok, hk, hx0, hxn, rfl⟩ := kEl_some h1
  have hk0 : k = 3 := by simpa using hok
  subst hk0
  have hxr : inR x := hst _ List.mem_cons_self
  refine ⟨Nat.le_refl _, Nat.le_refl _, fun H locs cells slots Q hR hl _ _ kk => ?_⟩
  obtain ⟨⟨ho, h65⟩, hc⟩ := hR.2.2.2.2.1 b _ _ hm hk
  refine W.lald (v := tv (vL (mL u' b x.toNat))) hx hb hc ((hK.2.2.1 _ ho).1 _ _) (fun q => by cases q) (by rw [arrV_size]; exact ofI_in hxr hx0 hxn) ?_ rfl rfl hd ?_
  · rw [ofI_clamp hxr hx0, arrV_read _ _ (by omega)]
    rfl
  · exact w_00 (x := mT u') (y := mU u') (kk a H locs hL hR (List.forall_mem_cons.mpr ⟨trivial, fun v hv => hst v (List.mem_cons_of_mem _ (List.mem_cons_of_mem _ hv))⟩) hl)
theorem sg_aaload  (hx : p.tables.exec = Jvm.exec) (hb : c.code = cc) (hK : SK D dA P s) (hL : LR a nL ls) (hst : ∀ v ∈ st, vok v) (hd : decode cc pc = .ok (.aaload, 1)) (hs : stp P j (.aaload) 1 pc ls st u = some ((pc', (ls', st')), u')) : Sg p l e R s m args below meth c D dA h0 H0 nL pc a st u pc' ls' st' u' := by
  obtain ⟨h1, rfl, rfl, rfl⟩ := goS_some hs
  obtain ⟨x, b, r, k, n, rfl, hm, hok, hk, hx0, hxn, rfl⟩ := kEl_some h1
  have hk0 : 4 ≤ k := by simpa using hok
  obtain ⟨c0, rfl⟩ : ∃ c0, k = c0 + 4 := ⟨k - 4, by omega⟩
  have hxr : inR x := hst _ List.mem_cons_self
  refine ⟨Nat.le_refl _, Nat.le_refl _, fun H locs cells slots Q hR hl _ _ kk => ?_⟩
  obtain ⟨⟨ho, h65⟩, hc⟩ := hR.2.2.2.2.1 b _ _ hm hk
  have e1 : (if c0 + 4 < 3 then vI (mI u' b x.toNat) else if c0 + 4 = 3 then vL (mL u' b x.toNat) else vF (mF u' b x.toNat)) = vF (mF u' b x.toNat) := by
    rw [if_neg (by omega), if_neg (by omega)]
  rw [e1] at kk
  refine W.aald (v := tv (vF (mF u' b x.toNat))) (ty := aT (c0 + 4)) hx hb hc ((hK.2.2.1 _ ho).1 _ _) rfl (fun q => by cases q) (by rw [arrV_size]; exact ofI_in hxr hx0 hxn) ?_ rfl rfl hd ?_
  · rw [ofI_clamp hxr hx0, arrV_read _ _ (by omega)]
    show some (svA u' (c0 + 4) b x.toNat) = _
    unfold svA
    rw [if_neg (by omega), if_neg (by omega)]
    rfl
  · exact w_00 (x := mT u') (y := mU u') (kk a H locs hL hR (List.forall_mem_cons.mpr ⟨trivial, fun v hv => hst v (List.mem_cons_of_mem _ (List.mem_cons_of_mem _ hv))⟩) hl)
theorem nar_char {v : Int} (h : inR v) : narrow .char (.int (Int32.ofInt v)) = .int (Int32.ofInt (v % 65536)) := by
  have e := vp_nar_char (Int32.ofInt v)
  unfold vp_nar at e
  have e2 : narrow .char (.int (Int32.ofInt v)) = .int ((Int32.ofInt v).toUInt32.toUInt16.toUInt32.toInt32) := rfl
  have e3 : (Int32.ofInt v).toUInt32.toUInt16.toUInt32.toInt32 = ((Int32.ofInt v).toUInt32 % 65536).toInt32 := by
    have : (Int32.ofInt v).toUInt32.toUInt16.toUInt32 = (Int32.ofInt v).toUInt32 % 65536 := by
      apply UInt32.toNat_inj.mp
      simp
    rw [this]
  rw [e2, e3, ofI_char h]
theorem inR_mod {v k : Int} (h0 : 0 < k) (h : k ≤ 65536) : inR (v % k) := by
  have h1 : 0 ≤ v % k := Int.emod_nonneg _ (by omega)
  have h2 : v % k < k := Int.emod_lt_of_pos _ h0
  exact ⟨by omega, by omega⟩
theorem nar_bool {v : Int} (h : inR v) : narrow .boolean (.int (Int32.ofInt v)) = .int (Int32.ofInt (v % 2)) := by
  have e2 : narrow .boolean (.int (Int32.ofInt v)) = .int (Int32.ofInt v &&& 1) := rfl
  rw [e2]
  congr 1
  have h1 := pk_and (Int32.ofInt v) (m := 1) 1 (by decide)
  rw [h1]
  have e1 : ((Int32.ofInt v).toBitVec.toNat : Int) = v % 4294967296 := by
    have : (Int32.ofInt v).toBitVec = BitVec.ofInt 32 v := rfl
    rw [this, BitVec.toNat_ofInt]
    omega
  show Int32.ofNat _ = _
  rw [← ofI_nat]
  congr 1
  omega
theorem sg_iastore  (hx : p.tables.exec = Jvm.exec) (hb : c.code = cc) (hK : SK D dA P s) (hL : LR a nL ls) (hst : ∀ v ∈ st, vok v) (hd : decode cc pc = .ok (.iastore, 1)) (hs : stp P j (.iastore) 1 pc ls st u = some ((pc', (ls', st')), u')) : Sg p l e R s m args below meth c D dA h0 H0 nL pc a st u pc' ls' st' u' := by
  obtain ⟨v, x, b, m0, rfl, hm, hx0, hxn, rfl, rfl, rfl⟩ := kEs_some hs
  have hvr : inR v := hst _ List.mem_cons_self
  have hxr : inR x := hst _ (List.mem_cons_of_mem _ List.mem_cons_self)
  refine ⟨Nat.le_refl _, Nat.le_refl _, fun H locs cells slots Q hR hl _ _ kk => ?_⟩
  obtain ⟨⟨ho, h65⟩, hc⟩ := hR.2.2.2.2.1 b _ _ hm (by decide)
  have hb0 := (hR.2.2.2.1 b _ hm).1
  refine W.iast hx hb hc ((hK.2.2.1 _ ho).1 _ _) (fun q => by cases q) (by rw [arrV_size]; exact ofI_in hxr hx0 hxn) rfl rfl hd fun H' e1 e2 e3 => ?_
  rw [ofI_clamp hxr hx0, arrV_store] at e1
  have hR' : HR D dA h0 H0 (sI u (u2 (mI u) b x.toNat v)) H' := by
    refine hR.wI hm hvr (fun n hn => by rw [hm] at hn; simp at hn) hb0 e2 e3 (fun k n hk hk2 => ?_) (fun c n hk => ?_)
    · rw [hm] at hk
      cases hk
      rw [e1]
      congr 2
      exact updV_sv (u' := sI u (u2 (mI u) b x.toNat v)) (by show Value.int (Int32.ofInt (u2 (mI u) b x.toNat v b x.toNat)) = _; rw [u2_at]) (fun q hq => by show Value.int (Int32.ofInt (u2 (mI u) b x.toNat v b q)) = _; rw [u2_ni hq]; rfl)
    · rw [hm] at hk
      exact absurd (congrArg (fun q => q.map Prod.fst) hk) (by simp; omega)
  exact w_00 (x := mT u) (y := mU u) (kk a H' _ hL hR' (fun v hv => hst v (List.mem_cons_of_mem _ (List.mem_cons_of_mem _ (List.mem_cons_of_mem _ hv)))) (loc_app (k := (Int32.ofInt x).toNatClampNeg) hl hb0))
theorem sg_castore  (hx : p.tables.exec = Jvm.exec) (hb : c.code = cc) (hK : SK D dA P s) (hL : LR a nL ls) (hst : ∀ v ∈ st, vok v) (hd : decode cc pc = .ok (.castore, 1)) (hs : stp P j (.castore) 1 pc ls st u = some ((pc', (ls', st')), u')) : Sg p l e R s m args below meth c D dA h0 H0 nL pc a st u pc' ls' st' u' := by
  obtain ⟨v, x, b, m0, rfl, hm, hx0, hxn, rfl, rfl, rfl⟩ := kEs_some hs
  have hvr : inR v := hst _ List.mem_cons_self
  have hxr : inR x := hst _ (List.mem_cons_of_mem _ List.mem_cons_self)
  refine ⟨Nat.le_refl _, Nat.le_refl _, fun H locs cells slots Q hR hl _ _ kk => ?_⟩
  obtain ⟨⟨ho, h65⟩, hc⟩ := hR.2.2.2.2.1 b _ _ hm (by decide)
  have hb0 := (hR.2.2.2.1 b _ hm).1
  refine W.cast hx hb hc ((hK.2.2.1 _ ho).1 _ _) (fun q => by cases q) (by rw [arrV_size]; exact ofI_in hxr hx0 hxn) rfl rfl hd fun H' e1 e2 e3 => ?_
  rw [nar_char hvr] at e1
  rw [ofI_clamp hxr hx0, arrV_store] at e1
  have hR' : HR D dA h0 H0 (sI u (u2 (mI u) b x.toNat (v % 65536))) H' := by
    refine hR.wI hm (inR_mod (by decide) (by decide)) (fun n hn => ⟨Int.emod_nonneg _ (by decide), Int.emod_lt_of_pos _ (by decide)⟩) hb0 e2 e3 (fun k n hk hk2 => ?_) (fun c n hk => ?_)
    · rw [hm] at hk
      cases hk
      rw [e1]
      congr 2
      exact updV_sv (u' := sI u (u2 (mI u) b x.toNat (v % 65536))) (by show Value.int (Int32.ofInt (u2 (mI u) b x.toNat (v % 65536) b x.toNat)) = _; rw [u2_at]) (fun q hq => by show Value.int (Int32.ofInt (u2 (mI u) b x.toNat (v % 65536) b q)) = _; rw [u2_ni hq]; rfl)
    · rw [hm] at hk
      exact absurd (congrArg (fun q => q.map Prod.fst) hk) (by simp; omega)
  exact w_00 (x := mT u) (y := mU u) (kk a H' _ hL hR' (fun v hv => hst v (List.mem_cons_of_mem _ (List.mem_cons_of_mem _ (List.mem_cons_of_mem _ hv)))) (loc_app (k := (Int32.ofInt x).toNatClampNeg) hl hb0))
theorem sg_bastore  (hx : p.tables.exec = Jvm.exec) (hb : c.code = cc) (hK : SK D dA P s) (hL : LR a nL ls) (hst : ∀ v ∈ st, vok v) (hd : decode cc pc = .ok (.bastore, 1)) (hs : stp P j (.bastore) 1 pc ls st u = some ((pc', (ls', st')), u')) : Sg p l e R s m args below meth c D dA h0 H0 nL pc a st u pc' ls' st' u' := by
  obtain ⟨v, x, b, m0, rfl, hm, hx0, hxn, rfl, rfl, rfl⟩ := kEs_some hs
  have hvr : inR v := hst _ List.mem_cons_self
  have hxr : inR x := hst _ (List.mem_cons_of_mem _ List.mem_cons_self)
  refine ⟨Nat.le_refl _, Nat.le_refl _, fun H locs cells slots Q hR hl _ _ kk => ?_⟩
  obtain ⟨⟨ho, h65⟩, hc⟩ := hR.2.2.2.2.1 b _ _ hm (by decide)
  have hb0 := (hR.2.2.2.1 b _ hm).1
  refine W.zast hx hb hc ((hK.2.2.1 _ ho).1 _ _) (fun q => by cases q) (by rw [arrV_size]; exact ofI_in hxr hx0 hxn) rfl rfl hd fun H' e1 e2 e3 => ?_
  rw [nar_bool hvr] at e1
  rw [ofI_clamp hxr hx0, arrV_store] at e1
  have hR' : HR D dA h0 H0 (sI u (u2 (mI u) b x.toNat (v % 2))) H' := by
    refine hR.wI hm (inR_mod (by decide) (by decide)) (fun n hn => by rw [hm] at hn; simp at hn) hb0 e2 e3 (fun k n hk hk2 => ?_) (fun c n hk => ?_)
    · rw [hm] at hk
      cases hk
      rw [e1]
      congr 2
      exact updV_sv (u' := sI u (u2 (mI u) b x.toNat (v % 2))) (by show Value.int (Int32.ofInt (u2 (mI u) b x.toNat (v % 2) b x.toNat)) = _; rw [u2_at]) (fun q hq => by show Value.int (Int32.ofInt (u2 (mI u) b x.toNat (v % 2) b q)) = _; rw [u2_ni hq]; rfl)
    · rw [hm] at hk
      exact absurd (congrArg (fun q => q.map Prod.fst) hk) (by simp; omega)
  exact w_00 (x := mT u) (y := mU u) (kk a H' _ hL hR' (fun v hv => hst v (List.mem_cons_of_mem _ (List.mem_cons_of_mem _ (List.mem_cons_of_mem _ hv)))) (loc_app (k := (Int32.ofInt x).toNatClampNeg) hl hb0))
theorem sg_lastore  (hx : p.tables.exec = Jvm.exec) (hb : c.code = cc) (hK : SK D dA P s) (hL : LR a nL ls) (hst : ∀ v ∈ st, vok v) (hd : decode cc pc = .ok (.lastore, 1)) (hs : stp P j (.lastore) 1 pc ls st u = some ((pc', (ls', st')), u')) : Sg p l e R s m args below meth c D dA h0 H0 nL pc a st u pc' ls' st' u' := by
  obtain ⟨v, x, b, m0, rfl, hm, hx0, hxn, rfl, rfl, rfl⟩ := kLs_some hs
  have hxr : inR x := hst _ (List.mem_cons_of_mem _ List.mem_cons_self)
  refine ⟨Nat.le_refl _, Nat.le_refl _, fun H locs cells slots Q hR hl _ _ kk => ?_⟩
  obtain ⟨⟨ho, h65⟩, hc⟩ := hR.2.2.2.2.1 b _ _ hm (by decide)
  have hb0 := (hR.2.2.2.1 b _ hm).1
  refine W.last hx hb hc ((hK.2.2.1 _ ho).1 _ _) (fun q => by cases q) (by rw [arrV_size]; exact ofI_in hxr hx0 hxn) rfl rfl hd fun H' e1 e2 e3 => ?_
  rw [ofI_clamp hxr hx0, arrV_store] at e1
  have hR' : HR D dA h0 H0 (sL u (u2 (mL u) b x.toNat v)) H' := by
    refine hR.wL hm hb0 e2 e3 (fun k n hk hk2 => ?_) (fun c n hk => ?_)
    · rw [hm] at hk
      cases hk
      rw [e1]
      congr 2
      exact updV_sv (u' := sL u (u2 (mL u) b x.toNat v)) (by show Value.long (u2 (mL u) b x.toNat v b x.toNat) = _; rw [u2_at]) (fun q hq => by show Value.long (u2 (mL u) b x.toNat v b q) = _; rw [u2_ni hq]; rfl)
    · rw [hm] at hk
      exact absurd (congrArg (fun q => q.map Prod.fst) hk) (by simp; omega)
  exact w_00 (x := mT u) (y := mU u) (kk a H' _ hL hR' (fun v hv => hst v (List.mem_cons_of_mem _ (List.mem_cons_of_mem _ (List.mem_cons_of_mem _ hv)))) (loc_app (k := (Int32.ofInt x).toNatClampNeg) hl hb0))
theorem sg_aastore  (hx : p.tables.exec = Jvm.exec) (hb : c.code = cc) (hK : SK D dA P s) (hL : LR a nL ls) (hst : ∀ v ∈ st, vok v) (hd : decode cc pc = .ok (.aastore, 1)) (hs : stp P j (.aastore) 1 pc ls st u = some ((pc', (ls', st')), u')) : Sg p l e R s m args below meth c D dA h0 H0 nL pc a st u pc' ls' st' u' := by
  obtain ⟨v, x, b, c0, m0, mb, rfl, hm, hc1, hmb, hx0, hxn, rfl, rfl, rfl⟩ := kAs_some hs
  have hxr : inR x := hst _ (List.mem_cons_of_mem _ List.mem_cons_self)
  refine ⟨Nat.le_refl _, Nat.le_refl _, fun H locs cells slots Q hR hl _ _ kk => ?_⟩
  obtain ⟨⟨ho, h65⟩, hc⟩ := hR.2.2.2.2.1 b _ _ hm hc1
  have hb0 := (hR.2.2.2.1 b _ hm).1
  obtain ⟨hc9, -, cell, g1, g2, g3, -⟩ := hR.2.2.2.2.2.1 v _ _ hmb
  obtain ⟨-, hfc, kC, hkC, hkind⟩ := hK.kn hc9
  have hra := (hK.2.2.1 _ ho).2
  have hae : aT (4 + c0) = .object (cNm c0) := by rw [Nat.add_comm]; rfl
  rw [hae] at hra
  obtain ⟨kA, comp, a1, a2, a3, -⟩ := hra
  have hcomp : comp = D.1 c0 := Option.some.inj (a3.symm.trans hfc)
  subst hcomp
  refine W.aast hx hb hc (fun q => by intro h; cases h) (fun q => by cases q) a1 a2 rfl hkC (by rw [arrV_size, ofI_clamp hxr hx0]; exact ⟨by rw [← ofI_0, ofI_lt hxr inR_0]; omega, by omega⟩) g1 (fun q => by rw [g3]; intro h; cases h) (by rw [g2]; exact hkC) (by rw [g2]; exact va_assign ⟨hfc, kC, hkC, hkind⟩) rfl rfl hd fun H' e1 e2 e3 => ?_
  rw [ofI_clamp hxr hx0, arrV_store] at e1
  have hR' : HR D dA h0 H0 (sF u (u2 (mF u) b x.toNat (some v))) H' := by
    refine hR.wF hm hb0 e2 e3 (fun k n hk hk2 => ?_) (fun c n hk => ?_)
    · rw [hm] at hk
      cases hk
      rw [e1]
      congr 2
      have n1 : ¬ 4 + c0 < 3 := by omega
      have n2 : ¬ 4 + c0 = 3 := by omega
      exact updV_sv (u' := sF u (u2 (mF u) b x.toNat (some v))) (by simp only [svA, if_neg n1, if_neg n2]; show va_rf (u2 (mF u) b x.toNat (some v) b x.toNat) = _; rw [u2_at]; rfl) (fun q hq => by simp only [svA, if_neg n1, if_neg n2]; show va_rf (u2 (mF u) b x.toNat (some v) b q) = _; rw [u2_ni hq])
    · rw [hm] at hk
      exact absurd (congrArg (fun q => q.map Prod.fst) hk) (by simp; omega)
  exact w_00 (x := mT u) (y := mU u) (kk a H' _ hL hR' (fun v hv => hst v (List.mem_cons_of_mem _ (List.mem_cons_of_mem _ (List.mem_cons_of_mem _ hv)))) (loc_app (k := (Int32.ofInt x).toNatClampNeg) hl hb0))
theorem sg_arraylength  (hx : p.tables.exec = Jvm.exec) (hb : c.code = cc) (hK : SK D dA P s) (hL : LR a nL ls) (hst : ∀ v ∈ st, vok v) (hd : decode cc pc = .ok (.arraylength, 1)) (hs : stp P j (.arraylength) 1 pc ls st u = some ((pc', (ls', st')), u')) : Sg p l e R s m args below meth c D dA h0 H0 nL pc a st u pc' ls' st' u' := by
  obtain ⟨h1, rfl, rfl, rfl⟩ := goS_some hs
  obtain ⟨b, r, k, n, rfl, hm, hk, rfl⟩ := kLen_some h1
  refine ⟨Nat.le_refl _, Nat.le_refl _, fun H locs cells slots Q hR hl _ _ kk => ?_⟩
  obtain ⟨⟨ho, h65⟩, hc⟩ := hR.2.2.2.2.1 b _ _ hm hk
  refine W.alen (n := Int32.ofNat n) hx hb hc ((hK.2.2.1 _ ho).1 _ _) (by rw [arrV_size] <;> rfl) rfl rfl hd ?_
  exact w_00 (x := mT u') (y := mU u') (kk a H locs hL hR (List.forall_mem_cons.mpr ⟨(show inR (n : Int) from ⟨by omega, by omega⟩), fun v hv => hst v (List.mem_cons_of_mem _ hv)⟩) hl)
theorem svF_2 {u : Mm} {a i : Nat} : svF u 2 a i = va_rf (mF u a i) := rfl
theorem svF_1 {u : Mm} {a i : Nat} : svF u 1 a i = .long (mL u a i) := rfl
theorem svF_o {u : Mm} {t a i : Nat} (h1 : t ≠ 1) (h2 : t ≠ 2) : svF u t a i = .int (Int32.ofInt (mI u a i)) := by unfold svF; rw [if_neg h1, if_neg h2]
theorem svF_tv {u : Mm} {t a i : Nat} : svF u t a i = tv (if t = 1 then vL (mL u a i) else if t = 2 then vF (mF u a i) else vI (mI u a i)) := by
  unfold svF
  split
  · rfl
  · split <;> rfl
theorem sg_getfield {k0 : Nat} (hx : p.tables.exec = Jvm.exec) (hb : c.code = cc) (hK : SK D dA P s) (hL : LR a nL ls) (hst : ∀ v ∈ st, vok v) (hown : s.vm.findClass (cNm (tOw j)) = some m.cls) (hd : decode cc pc = .ok (.getfield k0, 3)) (hs : stp P j (.getfield k0) 3 pc ls st u = some ((pc', (ls', st')), u')) : Sg p l e R s m args below meth c D dA h0 H0 nL pc a st u pc' ls' st' u' := by
  obtain ⟨h1, rfl, rfl, rfl⟩ := goS_some hs
  obtain ⟨b, r, c0, k, t, n, rfl, hl, hm, hk, rfl⟩ := kGet_some h1
  refine ⟨Nat.le_refl _, Nat.le_refl _, fun H locs cells slots Q hR hlc _ _ kk => ?_⟩
  obtain ⟨hc9, rfl, cell, g1, g2, g3, g4⟩ := hR.2.2.2.2.2.1 b _ _ hm
  obtain ⟨-, hkn, hty, hw⟩ := lf_ok hl
  obtain ⟨hS, hfc, kC, hkC, hkind⟩ := hK.kn hc9
  obtain ⟨cf, kf, fi, f, hi, hsl⟩ := hS k hk
  have hst0 := (u_facts hfc hkC (hK.lays hc9 hk args) hi).1
  have hi2 : s.fieldFound? (cNm c0) (cTb c0 k).2.1 (cTb c0 k).2.2.1 = some (cf, kf, fi, f) := by rw [← cOwn c0 hc9 k hk]; exact hi
  have hv : cell.slots[f.slot]? = some (tv (if t = 1 then vL (mL u' b k) else if t = 2 then vF (mF u' b k) else vI (mI u' b k))) := by
    rw [hsl, g4 k hk]
    show some (svF u' (tyF c0 k) b k) = _
    rw [hty]
    congr 1
    exact svF_tv
  have hvok : vok (if t = 1 then vL (mL u' b k) else if t = 2 then vF (mF u' b k) else vI (mI u' b k)) := by
    split
    · trivial
    · split
      · trivial
      · exact hR.2.2.2.2.2.2.1 b k
  have K := w_00 (x := mT u') (y := mU u') (kk a H locs hL hR (List.forall_mem_cons.mpr ⟨hvok, fun v hv => hst v (List.mem_cons_of_mem _ hv)⟩) hlc)
  rcases hw with hw | hw
  · exact va_Wgetf hx hb hown (hK.w hw rfl args) hi2 hst0 g1 (by rw [g3]; exact fun h => by cases h) hv rfl rfl hd K
  · exact W.getf hx hb hown (hK.w hw rfl args) hi2 hst0 g1 (by rw [g3]; exact fun h => by cases h) hv rfl rfl hd K
theorem updV_svF {u u' : Mm} {c0 k a : Nat} {v : Value} (hv : svF u' (tyF c0 k) a k = v) (ho : ∀ q, q ≠ k → svF u' (tyF c0 q) a q = svF u (tyF c0 q) a q) : ∀ q, updV (fun q => svF u (tyF c0 q) a q) k v q = svF u' (tyF c0 q) a q := by
  intro q
  unfold updV
  split
  · rename_i e; rw [e]; exact hv.symm
  · rename_i e; exact (ho q e).symm
theorem fit_bool {x : Int} (h : x = 0 ∨ x = 1) : narrow .boolean (.int (Int32.ofInt x)) = .int (Int32.ofInt x) ∧ fits .boolean (.int (Int32.ofInt x)) = true := by
  rcases h with rfl | rfl <;> exact ⟨by decide, by decide⟩
theorem fit_ref {ty : FieldType} (h : ty.isReference = true) (r : Option Nat) : narrow ty (va_rf r) = va_rf r ∧ fits ty (va_rf r) = true := by
  cases ty <;> simp [FieldType.isReference] at h <;> cases r <;> exact ⟨rfl, rfl⟩
/-- a store into a field: the machine's side of it -/
theorem sg_store {k0 c0 k b : Nat} {cell : Cell} {v : Value} {H : Heap} {locs : List Loc} {cells slots : Nat} {Q : State → Prop} {st : List Value} {ss : Array Slot} (hx : p.tables.exec = Jvm.exec) (hb : c.code = cc) (hK : SK D dA P s) (hown : s.vm.findClass (cNm (tOw j)) = some m.cls) (hini : tIni j = 1 → meth.name = "<init>")
    {t : Nat} (hl : tPf j k0 = some (c0, (k, t))) (g1 : H[b]? = some cell) (g2 : cell.cls = D.1 c0) (g3 : cell.vm = .none) {V : Nat → Value} (g4 : ∀ q, q < cNf c0 → cell.slots[D.2 c0 q]? = some (V q)) (hn : narrow (cTy c0 k) v = v) (hf : fits (cTy c0 k) v = true) (hd : decode cc pc = .ok (.putfield k0, 3))
    (kk : ∀ (H' : Heap) (z : Nat), H'.size = H.size → (∀ q, q ≠ b → H'[q]? = H[q]?) → t_OB b (D.1 c0) (cNf c0) (D.2 c0) H' (updV V k v) → W p l e R s m args below meth c H' (locs ++ [⟨b, z⟩]) cells slots Q (F0 m (pc + 3) ss st)) :
    W p l e R s m args below meth c H locs cells slots Q (F0 m pc ss (v :: .ref b :: st)) := by
  obtain ⟨hl, hfin⟩ := tPf_some hl
  obtain ⟨hc9, hk, hty, hw⟩ := lf_ok hl
  obtain ⟨hS, hfc, kC, hkC, hkind⟩ := hK.kn hc9
  obtain ⟨cf, kf, fi, f, hi, hsl⟩ := hS k hk
  have hst0 := (u_facts hfc hkC (hK.lays hc9 hk args) hi).1
  have hi2 : s.fieldFound? (cNm c0) (cTb c0 k).2.1 (cTb c0 k).2.2.1 = some (cf, kf, fi, f) := by rw [← cOwn c0 hc9 k hk]; exact hi
  have hm := lay_in hc9 _ (u_in_lay (C := cNm c0) (T := cTb c0) hk)
  unfold u_lay at hm
  have hend : ∀ H' : Heap, H'[b]? = some (cell.setSlot f.slot v) → H'.size = H.size → (∀ q, q ≠ b → H'[q]? = H[q]?) → W p l e R s m args below meth c H' (locs ++ [⟨b, f.slot⟩]) cells slots Q (F0 m (pc + 3) ss st) := by
    intro H' e1 e2 e3
    rw [hsl] at e1
    exact kk H' f.slot e2 e3 ⟨_, e1, g2, g3, t_set g4 (hK.apart hc9) hk v⟩
  have hlt : f.slot < cell.slots.size := by rw [hsl]; exact k2_hasslot (g4 k hk)
  by_cases hF : (cTb c0 k).2.2.2 = true
  · rw [if_pos hF] at hm
    have hlay := hK.w hm rfl args
    have h6 := u_fits hfc hkC hkind (Or.inr hlay) hi (cTy_ok c0 hc9 k hk) hn hf
    have h1 := ((tFin_ok c0 hc9 k hk).1.mp hF)
    rcases hfin with h0 | ⟨hi1, ho⟩
    · omega
    · have hcf : m.cls = cf := by
        obtain ⟨_, _, c', _, _, _, -, -, hf', -, -, -, hown2, -⟩ := Cond.laysFinal_spec hlay
        have e1 : c' = cf := by have := hi.symm.trans hf'; simp at this; exact this.1.symm
        rw [cOwn c0 hc9 k hk, ← ho] at hown2
        rw [← e1]; exact Option.some.inj (hown.symm.trans hown2)
      rcases hw with hw | hw
      · exact va_Wputf hx hb hown (hK.w hw rfl args) hi2 hst0 (Or.inr ⟨hcf, hini hi1⟩) g1 (by rw [g3]; exact fun h => by cases h) hlt h6.1 (by rw [g2, g3]; exact h6.2) rfl rfl hd (hend _ (by rw [Array.getElem?_setIfInBounds]; simp [(Array.getElem?_eq_some_iff.mp g1).1]) (by simp) (fun q hq => Array.getElem?_setIfInBounds_ne (Ne.symm hq)))
      · exact W.putFinK hx hb hown (hK.w hw rfl args) hi2 hst0 hcf (hini hi1) (by rw [g2]; exact h6) g1 g3 hlt rfl rfl hd hend
  · rw [if_neg hF] at hm
    have hlay := hK.w hm rfl args
    have h6 := u_store hfc hkC hkind hlay hi (cTy_ok c0 hc9 k hk) hn hf
    rcases hw with hw | hw
    · exact va_WputK hx hb hown (hK.w hw rfl args) hi2 hst0 (by rw [g2]; exact h6) g1 g3 hlt rfl rfl hd hend
    · exact W.putK hx hb (f := f) ⟨hown, hK.w hw rfl args, ⟨_, _, _, hi2⟩, hst0⟩ (by rw [g2]; exact h6) g1 g3 hlt rfl rfl hd hend
theorem sg_putfield {k0 : Nat} (hx : p.tables.exec = Jvm.exec) (hb : c.code = cc) (hK : SK D dA P s) (hL : LR a nL ls) (hst : ∀ v ∈ st, vok v) (hown : s.vm.findClass (cNm (tOw j)) = some m.cls) (hini : tIni j = 1 → meth.name = "<init>") (hd : decode cc pc = .ok (.putfield k0, 3)) (hs : stp P j (.putfield k0) 3 pc ls st u = some ((pc', (ls', st')), u')) : Sg p l e R s m args below meth c D dA h0 H0 nL pc a st u pc' ls' st' u' := by
  rcases kPut_some hs with ⟨x, b, c0, k, t, n, rfl, hl, hm, hk, ht, rfl, rfl, rfl⟩ | ⟨x, b, c0, k, n, rfl, hl, hm, hk, rfl, rfl, rfl⟩
  · have hxr : inR x := hst _ List.mem_cons_self
    refine ⟨Nat.le_refl _, Nat.le_refl _, fun H locs cells slots Q hR hlc _ _ kk => ?_⟩
    have hb0 := (hR.2.2.2.1 b _ hm).1
    obtain ⟨hc9, rfl, cell, g1, g2, g3, g4⟩ := hR.2.2.2.2.2.1 b _ _ hm
    obtain ⟨-, -, hty, -⟩ := lf_ok (tPf_some hl).1
    have hcd := cTy_code c0 hc9 k hk
    have hnf : narrow (cTy c0 k) (tv (vI x)) = tv (vI x) ∧ fits (cTy c0 k) (tv (vI x)) = true := by
      rcases ht with rfl | ⟨rfl, h01⟩
      · rw [hcd.1 hty]; exact ⟨rfl, rfl⟩
      · rw [hcd.2.1 hty]; exact fit_bool h01
    have hto : tyF c0 k ≠ 1 ∧ tyF c0 k ≠ 2 := by rw [hty]; rcases ht with rfl | ⟨rfl, -⟩ <;> decide
    refine sg_store hx hb hK hown hini hl g1 g2 g3 g4 hnf.1 hnf.2 hd fun H' z e2 e3 e4 => ?_
    have hR' : HR D dA h0 H0 (sI u (u2 (mI u) b k x)) H' := by
      refine hR.wI hm hxr (fun n' hn' => by rw [hm] at hn'; simp at hn'; omega) hb0 e2 e3 (fun k' n' hk' hk2 => ?_) (fun c' n' hk' => ?_)
      · rw [hm] at hk'
        have := congrArg (fun q => q.map Prod.fst) hk'
        simp at this
        omega
      · rw [hm] at hk'
        have e5 : c' = c0 ∧ n' = cNf c0 := by simp at hk'; omega
        obtain ⟨rfl, rfl⟩ := e5
        refine e4.to (fun q _ => updV_svF (u' := sI u (u2 (mI u) b k x)) ?_ (fun q hq => ?_) q)
        · rw [svF_o hto.1 hto.2]
          show Value.int (Int32.ofInt (u2 (mI u) b k x b k)) = _
          rw [u2_at]
          rfl
        · simp only [svF]
          show (if _ then _ else if _ then _ else Value.int (Int32.ofInt (u2 (mI u) b k x b q))) = _
          rw [u2_ni hq]
          rfl
    exact w_00 (x := mT u) (y := mU u) (kk a H' _ hL hR' (fun v hv => hst v (List.mem_cons_of_mem _ (List.mem_cons_of_mem _ hv))) (loc_app hlc hb0))
  · refine ⟨Nat.le_refl _, Nat.le_refl _, fun H locs cells slots Q hR hlc _ _ kk => ?_⟩
    have hb0 := (hR.2.2.2.1 b _ hm).1
    obtain ⟨hc9, rfl, cell, g1, g2, g3, g4⟩ := hR.2.2.2.2.2.1 b _ _ hm
    obtain ⟨-, -, hty, -⟩ := lf_ok (tPf_some hl).1
    have hnf := fit_ref ((cTy_code c0 hc9 k hk).2.2.2 hty) x
    refine sg_store hx hb hK hown hini hl g1 g2 g3 g4 hnf.1 hnf.2 hd fun H' z e2 e3 e4 => ?_
    have hR' : HR D dA h0 H0 (sF u (u2 (mF u) b k x)) H' := by
      refine hR.wF hm hb0 e2 e3 (fun k' n' hk' hk2 => ?_) (fun c' n' hk' => ?_)
      · rw [hm] at hk'
        have := congrArg (fun q => q.map Prod.fst) hk'
        simp at this
        omega
      · rw [hm] at hk'
        have e5 : c' = c0 ∧ n' = cNf c0 := by simp at hk'; omega
        obtain ⟨rfl, rfl⟩ := e5
        refine e4.to (fun q _ => updV_svF (u' := sF u (u2 (mF u) b k x)) ?_ (fun q hq => ?_) q)
        · rw [hty]
          show va_rf (u2 (mF u) b k x b k) = _
          rw [u2_at]
          rfl
        · simp only [svF]
          show (if _ then _ else if _ then va_rf (u2 (mF u) b k x b q) else _) = _
          rw [u2_ni hq]
          rfl
    exact w_00 (x := mT u) (y := mU u) (kk a H' _ hL hR' (fun v hv => hst v (List.mem_cons_of_mem _ (List.mem_cons_of_mem _ hv))) (loc_app hlc hb0))
theorem new_svA {u : Mm} {k n i : Nat} : svA (mNew u k n) k (mT u) i = if k < 3 then .int 0 else if k = 3 then .long 0 else .null := by
  unfold svA
  have e1 : mI (mNew u k n) (mT u) = fun _ => 0 := if_pos rfl
  have e2 : mL (mNew u k n) (mT u) = fun _ => 0 := if_pos rfl
  have e3 : mF (mNew u k n) (mT u) = fun _ => none := if_pos rfl
  rw [e1, e2, e3]
  rfl
theorem new_svF {u : Mm} {k n t i : Nat} : svF (mNew u k n) t (mT u) i = if t = 1 then .long 0 else if t = 2 then .null else .int 0 := by
  unfold svF
  have e1 : mI (mNew u k n) (mT u) = fun _ => 0 := if_pos rfl
  have e2 : mL (mNew u k n) (mT u) = fun _ => 0 := if_pos rfl
  have e3 : mF (mNew u k n) (mT u) = fun _ => none := if_pos rfl
  rw [e1, e2, e3]
  rfl
theorem dflt_F : ∀ c, c < 9 → ∀ k, k < cNf c → defaultValue (cTy c k) = (if tyF c k = 1 then .long 0 else if tyF c k = 2 then .null else .int 0) := by decide +kernel
theorem sg_new {k0 : Nat} (hx : p.tables.exec = Jvm.exec) (hb : c.code = cc) (hK : SK D dA P s) (hL : LR a nL ls) (hst : ∀ v ∈ st, vok v) (hown : s.vm.findClass (cNm (tOw j)) = some m.cls) (hd : decode cc pc = .ok (.new k0, 3)) (hs : stp P j (.new k0) 3 pc ls st u = some ((pc', (ls', st')), u')) : Sg p l e R s m args below meth c D dA h0 H0 nL pc a st u pc' ls' st' u' := by
  simp only [stp] at hs
  cases hlc : pLc P (pOw P j) k0 with
  | none => rw [hlc] at hs; cases hs
  | some q =>
    obtain ⟨c0, n⟩ := q
    rw [hlc] at hs
    cases hs
    obtain ⟨hc9, rfl, hw⟩ := lc_ok hlc
    have d1 : mT (mNew u (100 + c0) (cNf c0)) - mT u = 1 := by show mT u + 1 - mT u = 1; omega
    have d2 : mU (mNew u (100 + c0) (cNf c0)) - mU u = cNf c0 := by show mU u + cNf c0 - mU u = _; omega
    refine ⟨Nat.le_succ _, Nat.le_add_right _ _, fun H locs cells slots Q hR hlc h1 h2 kk => ?_⟩
    rw [d1] at h1 kk
    rw [d2] at h2 kk
    obtain ⟨hS, hfc, -⟩ := hK.kn hc9
    refine W.newcK hx hb hown (hK.w hw rfl args) (hK.w (tm (ins_ok c0 hc9)) rfl args) (hK.w (tm (ini_ok c0 (by omega))) rfl args) rfl hd h1 h2 hfc hR.1 fun H' kC hkC e1 e2 e3 => ?_
    refine kk a H' locs hL (hR.new (by rw [e2, hR.1]) (fun q hq => e3 q (by rw [← hR.1]; exact hq)) (fun h => absurd h (by omega)) (fun c' hc' => ?_)) (List.forall_mem_cons.mpr ⟨trivial, hst⟩) hlc
    have : c' = c0 := by omega
    subst this
    refine ⟨hc9, rfl, ?_⟩
    refine ⟨_, e1, rfl, rfl, fun q hq => ?_⟩
    obtain ⟨cf, kf, fi, fd, hi, he⟩ := hS q hq
    have h3 := (u_facts hfc hkC (hK.lays hc9 hq args) hi).2.2
    rw [(State.fieldFound?_type hi (cTy_ok c' hc9 q hq)).2] at h3
    rw [← he]
    show _ = some (svF (mNew u (100 + c') (cNf c')) (tyF c' q) (mT u) q)
    rw [new_svF, ← dflt_F c' hc9 q hq]
    exact k2_blank h3
theorem sg_newarray {t : ArrayType} (hx : p.tables.exec = Jvm.exec) (hb : c.code = cc) (hK : SK D dA P s) (hL : LR a nL ls) (hst : ∀ v ∈ st, vok v) (hd : decode cc pc = .ok (.newarray t, 2)) (hs : stp P j (.newarray t) 2 pc ls st u = some ((pc', (ls', st')), u')) : Sg p l e R s m args below meth c D dA h0 H0 nL pc a st u pc' ls' st' u' := by
  simp only [stp] at hs
  cases hlc : aKd t with
  | none => rw [hlc] at hs; cases hs
  | some k =>
    rw [hlc] at hs
    obtain ⟨x, r, rfl, hx0, hx1, rfl, rfl, rfl, rfl⟩ := kNa_some hs
    have hxr : inR x := hst _ List.mem_cons_self
    have hk4 : k < 4 ∧ newarray.typeOf t = aT k ∧ defaultValue (aT k) = (if k < 3 then .int 0 else if k = 3 then .long 0 else .null) ∧ componentBytes (aT k) ≤ 8 := by
      cases t <;> cases hlc <;> decide
    obtain ⟨hk4, hty, hdv, hcb⟩ := hk4
    have d1 : mT (mNew u k x.toNat) - mT u = 1 := by show mT u + 1 - mT u = 1; omega
    have d2 : mU (mNew u k x.toNat) - mU u = x.toNat := by show mU u + x.toNat - mU u = _; omega
    refine ⟨Nat.le_succ _, Nat.le_add_right _ _, fun H locs cells slots Q hR hlc h1 h2 kk => ?_⟩
    rw [d1] at h1 kk
    rw [d2] at h2 kk
    have ho : okK k := Or.inl hk4
    refine va_newaK hx hb (by rw [hty]; exact hK.w (tm (ar_ok k hk4)) (by rcases k with _ | _ | _ | _ | k <;> first | rfl | omega) args) rfl hd rfl (by rw [← ofI_0, ofI_lt hxr inR_0]; omega) (ofI_clamp hxr hx0) (by rw [hty]; exact Nat.le_trans (Nat.mul_le_mul (show x.toNat ≤ 65536 by omega) hcb) (by decide)) h1 h2 hR.1 fun H' cA e1 e2 e3 _ e5 => ?_
    have hcA : cA = dA k := by
      have hra := (hK.2.2.1 k ho).2
      rw [hty] at e5
      have : s.vm.findClass ("[" ++ (aT k).toString) = some (dA k) := by
        rcases k with _ | _ | _ | _ | k <;> first | exact hra | omega
      exact Option.some.inj (e5.symm.trans this)
    subst hcA
    refine kk a H' locs hL (hR.new (by rw [e2, hR.1]) (fun q hq => e3 q (by rw [← hR.1]; exact hq)) (fun _ => ⟨⟨ho, by omega⟩, ?_⟩) (fun c' hc' => by omega)) (List.forall_mem_cons.mpr ⟨trivial, fun v hv => hst v (List.mem_cons_of_mem _ hv)⟩) hlc
    rw [hR.1, e1]
    congr 2
    funext i
    rw [new_svA, hty, hdv]
theorem aRA {c0 : Nat} (hK : SK D dA P s) (ho : okK (4 + c0)) : ∃ (kA : Class) (comp : ClassId), s.vm.classes[dA (4 + c0)]? = some kA ∧ kA.kind = .array comp (.object (cNm c0)) ∧ s.vm.findClass (cNm c0) = some comp ∧ s.vm.findClass ("[" ++ (FieldType.object (cNm c0)).toString) = some (dA (4 + c0)) := by
  have hra := (hK.2.2.1 _ ho).2
  have hae : aT (4 + c0) = .object (cNm c0) := by rw [Nat.add_comm]; rfl
  rw [hae] at hra
  exact hra
theorem sg_anewarray {k0 : Nat} (hx : p.tables.exec = Jvm.exec) (hb : c.code = cc) (hK : SK D dA P s) (hL : LR a nL ls) (hst : ∀ v ∈ st, vok v) (hown : s.vm.findClass (cNm (tOw j)) = some m.cls) (hd : decode cc pc = .ok (.anewarray k0, 3)) (hs : stp P j (.anewarray k0) 3 pc ls st u = some ((pc', (ls', st')), u')) : Sg p l e R s m args below meth c D dA h0 H0 nL pc a st u pc' ls' st' u' := by
  simp only [stp] at hs
  cases hla : pLa P (pOw P j) k0 with
  | none => rw [hla] at hs; cases hs
  | some c0 =>
    rw [hla] at hs
    obtain ⟨x, r, rfl, hx0, hx1, rfl, rfl, rfl, rfl⟩ := kNa_some hs
    have hxr : inR x := hst _ List.mem_cons_self
    obtain ⟨hc24, hw, -⟩ := la_ok hla
    have ho : okK (4 + c0) := by unfold okK; omega
    have hao : va_AO (cNm c0) s := by
      rcases hc24 with rfl | rfl
      · exact hK.2.2.2.1
      · exact hK.2.2.2.2.1
    have d1 : mT (mNew u (4 + c0) x.toNat) - mT u = 1 := by show mT u + 1 - mT u = 1; omega
    have d2 : mU (mNew u (4 + c0) x.toNat) - mU u = x.toNat := by show mU u + x.toNat - mU u = _; omega
    refine ⟨Nat.le_succ _, Nat.le_add_right _ _, fun H locs cells slots Q hR hlc h1 h2 kk => ?_⟩
    rw [d1] at h1 kk
    rw [d2] at h2 kk
    have hcl : (Int32.ofInt x).toNatClampNeg = x.toNat := ofI_clamp hxr hx0
    refine W.anew hx hb hown (hK.w hw rfl args) (va_AO.use hao) rfl hd rfl (by rw [← ofI_0, ofI_lt hxr inR_0]; omega) (by rw [hcl]; omega) h1 (by rw [hcl]; exact h2) fun cA kA comp f1 f2 f3 f4 => ?_
    rw [hcl]
    obtain ⟨kA', comp', -, -, -, e4⟩ := aRA hK ho
    have hcA : cA = dA (4 + c0) := Option.some.inj (f1.symm.trans e4)
    subst hcA
    generalize hH1 : H.push ({ cls := dA (4 + c0), slots := Array.replicate x.toNat .null, vm := .none } : Cell) = H1
    have z1 : H1.size = H.size + 1 := by rw [← hH1, Array.size_push]
    have e1 : H1[H.size]? = some (arrV (dA (4 + c0)) x.toNat (fun _ => .null)) := by rw [← hH1, Array.getElem?_push_size, ← arrV_new]
    have o1 : ∀ q : Nat, q < H.size → H1[q]? = H[q]? := fun q hq => by rw [← hH1, Array.getElem?_push, if_neg (Nat.ne_of_lt hq)]
    have K := kk a H1 locs hL (hR.new z1 o1 (fun _ => ⟨⟨ho, by omega⟩, ?_⟩) (fun c' hc' => by omega)) (List.forall_mem_cons.mpr ⟨trivial, fun v hv => hst v (List.mem_cons_of_mem _ hv)⟩) hlc
    · rw [← hR.1] at K
      exact K
    · rw [e1]
      congr 2
      funext i
      rw [new_svA, if_neg (by omega), if_neg (by omega)]
theorem sg_ldc2 {k0 : Nat} (hx : p.tables.exec = Jvm.exec) (hb : c.code = cc) (hK : SK D dA P s) (hL : LR a nL ls) (hst : ∀ v ∈ st, vok v) (hown : s.vm.findClass (cNm (tOw j)) = some m.cls) (hd : decode cc pc = .ok (.ldc2_w k0, 3)) (hs : stp P j (.ldc2_w k0) 3 pc ls st u = some ((pc', (ls', st')), u')) : Sg p l e R s m args below meth c D dA h0 H0 nL pc a st u pc' ls' st' u' := by
  simp only [stp] at hs
  cases hla : pLl P (pOw P j) k0 with
  | none => rw [hla] at hs; cases hs
  | some v =>
    rw [hla] at hs
    cases hs
    refine ⟨Nat.le_refl _, Nat.le_refl _, fun H locs cells slots Q hR hlc _ _ kk => lv_ldc2 hx hb hown (hK.w (ll_ok hla) rfl args) hd ?_⟩
    exact w_00 (x := mT u) (y := mU u) (kk a H locs hL hR (List.forall_mem_cons.mpr ⟨trivial, hst⟩) hlc)
theorem ls_ok {o k z : Nat} (h : tLs o k = some z) : (o = 6 ∧ k = 84) ∨ (o = 5 ∧ k = 125) := by
  have := lk2_mem h
  simp [tLsL] at this
  omega
theorem sg_ldc {k0 : Nat} (hx : p.tables.exec = Jvm.exec) (hb : c.code = cc) (hK : SK D dA P s) (hL : LR a nL ls) (hst : ∀ v ∈ st, vok v) (hown : s.vm.findClass (cNm (tOw j)) = some m.cls) (hd : decode cc pc = .ok (.ldc k0, 2)) (hs : stp P j (.ldc k0) 2 pc ls st u = some ((pc', (ls', st')), u')) : Sg p l e R s m args below meth c D dA h0 H0 nL pc a st u pc' ls' st' u' := by
  simp only [stp] at hs
  cases hla : pLs P (pOw P j) k0 with
  | none => rw [hla] at hs; cases hs
  | some z =>
    rw [hla] at hs
    cases hs
    refine ⟨Nat.le_refl _, Nat.le_refl _, fun H locs cells slots Q hR hlc _ _ kk => ?_⟩
    have K := w_00 (x := mT u) (y := mU u) (kk a H locs hL hR (List.forall_mem_cons.mpr ⟨trivial, hst⟩) hlc)
    rcases ls_ok hla with ⟨h1, rfl⟩ | ⟨h1, rfl⟩
    · have hown' : s.vm.findClass "MovingBoxes$Term" = some m.cls := by
        have : cNm (tOw j) = "MovingBoxes$Term" := by rw [show tOw j = 6 from h1]; rfl
        rw [← this]; exact hown
      exact va_ldcS hx hb hown' hK.2.2.2.2.2.1 hd K
    · have hown' : s.vm.findClass "MovingBoxes$Teller" = some m.cls := by
        have : cNm (tOw j) = "MovingBoxes$Teller" := by rw [show tOw j = 5 from h1]; rfl
        rw [← this]; exact hown
      exact va_ldcS hx hb hown' hK.2.2.2.2.2.2 hd K
end SG
end
section
/-! Every step of the small machine is the JVM's. Written by wip/whole/gen/mk24.py. -/
theorem stp_g {p : Program} {l : Launch} {e : Env} {R : Room} {s : State} {m : MethodId} {args : Array Value} {below : List Frame} {meth : Method} {c : Code} {cc : ByteArray} {D : va_G} {dA : Nat → ClassId} {h0 : Nat} {H0 : Heap} {P : Pg} {j n pc pc' nL : Nat} {a : Array Slot} {ls ls' : Ls} {st st' : List Vl} {u u' : Mm} {i : Instr}
    (hx : p.tables.exec = Jvm.exec) (hb : c.code = cc) (hK : SK D dA P s) (hown : s.vm.findClass (cNm (tOw j)) = some m.cls) (hini : tIni j = 1 → meth.name = "<init>") (hL : LR a nL ls) (hst : ∀ v ∈ st, vok v)
    (hd : decode cc pc = .ok (i, n)) (hn : iln i n = true) (hs : stp P j i n pc ls st u = some ((pc', (ls', st')), u')) : Sg p l e R s m args below meth c D dA h0 H0 nL pc a st u pc' ls' st' u' := by
  cases i
  case lconst x =>
    have e1 : n = 1 := by simpa [iln] using hn
    subst e1
    exact (sx_lconst hx hb hL hst hd hs).g
  case iconst x =>
    have e1 : n = 1 := by simpa [iln] using hn
    subst e1
    exact (sx_iconst hx hb hL hst hd hs).g
  case iload_n x =>
    have e1 : n = 1 := by simpa [iln] using hn
    subst e1
    exact (sx_iload_n hx hb hL hst hd hs).g
  case lload_n x =>
    have e1 : n = 1 := by simpa [iln] using hn
    subst e1
    exact (sx_lload_n hx hb hL hst hd hs).g
  case aload_n x =>
    have e1 : n = 1 := by simpa [iln] using hn
    subst e1
    exact (sx_aload_n hx hb hL hst hd hs).g
  case istore_n x =>
    have e1 : n = 1 := by simpa [iln] using hn
    subst e1
    exact (sx_istore_n hx hb hL hst hd hs).g
  case lstore_n x =>
    have e1 : n = 1 := by simpa [iln] using hn
    subst e1
    exact (sx_lstore_n hx hb hL hst hd hs).g
  case astore_n x =>
    have e1 : n = 1 := by simpa [iln] using hn
    subst e1
    exact (sx_astore_n hx hb hL hst hd hs).g
  case iadd =>
    have e1 : n = 1 := by simpa [iln] using hn
    subst e1
    exact (sx_iadd hx hb hL hst hd hs).g
  case isub =>
    have e1 : n = 1 := by simpa [iln] using hn
    subst e1
    exact (sx_isub hx hb hL hst hd hs).g
  case imul =>
    have e1 : n = 1 := by simpa [iln] using hn
    subst e1
    exact (sx_imul hx hb hL hst hd hs).g
  case iand =>
    have e1 : n = 1 := by simpa [iln] using hn
    subst e1
    exact (sx_iand hx hb hL hst hd hs).g
  case ior =>
    have e1 : n = 1 := by simpa [iln] using hn
    subst e1
    exact (sx_ior hx hb hL hst hd hs).g
  case ixor =>
    have e1 : n = 1 := by simpa [iln] using hn
    subst e1
    exact (sx_ixor hx hb hL hst hd hs).g
  case ishl =>
    have e1 : n = 1 := by simpa [iln] using hn
    subst e1
    exact (sx_ishl hx hb hL hst hd hs).g
  case ishr =>
    have e1 : n = 1 := by simpa [iln] using hn
    subst e1
    exact (sx_ishr hx hb hL hst hd hs).g
  case i2c =>
    have e1 : n = 1 := by simpa [iln] using hn
    subst e1
    exact (sx_i2c hx hb hL hst hd hs).g
  case i2l =>
    have e1 : n = 1 := by simpa [iln] using hn
    subst e1
    exact (sx_i2l hx hb hL hst hd hs).g
  case l2i =>
    have e1 : n = 1 := by simpa [iln] using hn
    subst e1
    exact (sx_l2i hx hb hL hst hd hs).g
  case land =>
    have e1 : n = 1 := by simpa [iln] using hn
    subst e1
    exact (sx_land hx hb hL hst hd hs).g
  case lor =>
    have e1 : n = 1 := by simpa [iln] using hn
    subst e1
    exact (sx_lor hx hb hL hst hd hs).g
  case lshl =>
    have e1 : n = 1 := by simpa [iln] using hn
    subst e1
    exact (sx_lshl hx hb hL hst hd hs).g
  case lshr =>
    have e1 : n = 1 := by simpa [iln] using hn
    subst e1
    exact (sx_lshr hx hb hL hst hd hs).g
  case lcmp =>
    have e1 : n = 1 := by simpa [iln] using hn
    subst e1
    exact (sx_lcmp hx hb hL hst hd hs).g
  case dup =>
    have e1 : n = 1 := by simpa [iln] using hn
    subst e1
    exact (sx_dup hx hb hL hst hd hs).g
  case dup_x1 =>
    have e1 : n = 1 := by simpa [iln] using hn
    subst e1
    exact (sx_dup_x1 hx hb hL hst hd hs).g
  case dup_x2 =>
    have e1 : n = 1 := by simpa [iln] using hn
    subst e1
    exact (sx_dup_x2 hx hb hL hst hd hs).g
  case dup2 =>
    have e1 : n = 1 := by simpa [iln] using hn
    subst e1
    exact (sx_dup2 hx hb hL hst hd hs).g
  case pop =>
    have e1 : n = 1 := by simpa [iln] using hn
    subst e1
    exact (sx_pop hx hb hL hst hd hs).g
  case bipush x =>
    have e1 : n = 2 := by simpa [iln] using hn
    subst e1
    exact (sx_bipush hx hb hL hst hd hs).g
  case iload x =>
    have e1 : n = 2 := by simpa [iln] using hn
    subst e1
    exact (sx_iload hx hb hL hst hd hs).g
  case lload x =>
    have e1 : n = 2 := by simpa [iln] using hn
    subst e1
    exact (sx_lload hx hb hL hst hd hs).g
  case aload x =>
    have e1 : n = 2 := by simpa [iln] using hn
    subst e1
    exact (sx_aload hx hb hL hst hd hs).g
  case istore x =>
    have e1 : n = 2 := by simpa [iln] using hn
    subst e1
    exact (sx_istore hx hb hL hst hd hs).g
  case lstore x =>
    have e1 : n = 2 := by simpa [iln] using hn
    subst e1
    exact (sx_lstore hx hb hL hst hd hs).g
  case astore x =>
    have e1 : n = 2 := by simpa [iln] using hn
    subst e1
    exact (sx_astore hx hb hL hst hd hs).g
  case sipush x =>
    have e1 : n = 3 := by simpa [iln] using hn
    subst e1
    exact (sx_sipush hx hb hL hst hd hs).g
  case iinc x y =>
    have e1 : n = 3 := by simpa [iln] using hn
    subst e1
    exact (sx_iinc hx hb hL hst hd hs).g
  case goto x =>
    have e1 : n = 3 := by simpa [iln] using hn
    subst e1
    exact (sx_goto hx hb hL hst hd hs).g
  case ifCond cd off =>
    have e1 : n = 3 := by simpa [iln] using hn
    subst e1
    cases cd
    · exact (sx_if_eq hx hb hL hst hd hs).g
    · exact (sx_if_ne hx hb hL hst hd hs).g
    · exact (sx_if_lt hx hb hL hst hd hs).g
    · exact (sx_if_ge hx hb hL hst hd hs).g
    · exact (sx_if_gt hx hb hL hst hd hs).g
    · exact (sx_if_le hx hb hL hst hd hs).g
  case if_icmp cd off =>
    have e1 : n = 3 := by simpa [iln] using hn
    subst e1
    cases cd
    · exact (sx_icmp_eq hx hb hL hst hd hs).g
    · exact (sx_icmp_ne hx hb hL hst hd hs).g
    · exact (sx_icmp_lt hx hb hL hst hd hs).g
    · exact (sx_icmp_ge hx hb hL hst hd hs).g
    · exact (sx_icmp_gt hx hb hL hst hd hs).g
    · exact (sx_icmp_le hx hb hL hst hd hs).g
  case tableswitch => exact (sx_table hx hb hL hst hd hs).g
  case lookupswitch => exact (sx_lookup hx hb hL hst hd hs).g
  case iaload =>
    have e1 : n = 1 := by simpa [iln] using hn
    subst e1
    exact sg_iaload hx hb hK hL hst hd hs
  case caload =>
    have e1 : n = 1 := by simpa [iln] using hn
    subst e1
    exact sg_caload hx hb hK hL hst hd hs
  case baload =>
    have e1 : n = 1 := by simpa [iln] using hn
    subst e1
    exact sg_baload hx hb hK hL hst hd hs
  case laload =>
    have e1 : n = 1 := by simpa [iln] using hn
    subst e1
    exact sg_laload hx hb hK hL hst hd hs
  case aaload =>
    have e1 : n = 1 := by simpa [iln] using hn
    subst e1
    exact sg_aaload hx hb hK hL hst hd hs
  case iastore =>
    have e1 : n = 1 := by simpa [iln] using hn
    subst e1
    exact sg_iastore hx hb hK hL hst hd hs
  case castore =>
    have e1 : n = 1 := by simpa [iln] using hn
    subst e1
    exact sg_castore hx hb hK hL hst hd hs
  case bastore =>
    have e1 : n = 1 := by simpa [iln] using hn
    subst e1
    exact sg_bastore hx hb hK hL hst hd hs
  case lastore =>
    have e1 : n = 1 := by simpa [iln] using hn
    subst e1
    exact sg_lastore hx hb hK hL hst hd hs
  case aastore =>
    have e1 : n = 1 := by simpa [iln] using hn
    subst e1
    exact sg_aastore hx hb hK hL hst hd hs
  case arraylength =>
    have e1 : n = 1 := by simpa [iln] using hn
    subst e1
    exact sg_arraylength hx hb hK hL hst hd hs
  case getfield x =>
    have e1 : n = 3 := by simpa [iln] using hn
    subst e1
    exact sg_getfield hx hb hK hL hst hown hd hs
  case putfield x =>
    have e1 : n = 3 := by simpa [iln] using hn
    subst e1
    exact sg_putfield hx hb hK hL hst hown hini hd hs
  case new x =>
    have e1 : n = 3 := by simpa [iln] using hn
    subst e1
    exact sg_new hx hb hK hL hst hown hd hs
  case newarray x =>
    have e1 : n = 2 := by simpa [iln] using hn
    subst e1
    exact sg_newarray hx hb hK hL hst hd hs
  case anewarray x =>
    have e1 : n = 3 := by simpa [iln] using hn
    subst e1
    exact sg_anewarray hx hb hK hL hst hown hd hs
  case ldc x =>
    have e1 : n = 2 := by simpa [iln] using hn
    subst e1
    exact sg_ldc hx hb hK hL hst hown hd hs
  case ldc2_w x =>
    have e1 : n = 3 := by simpa [iln] using hn
    subst e1
    exact sg_ldc2 hx hb hK hL hst hown hd hs
  all_goals exact absurd hs (by simp [stp])
end
section
/-! A call: what the callee's contract gives its caller, whether it returns or throws. -/
/-- what a callee's end carries: the tables warmer, nothing moved but the slots L and at most k new cells of n slots -/
def FE (first t : State) (L : List Loc) (k n : Nat) : Prop := first.WarmedH t.vm ∧ first.sameButNew ({ t with vm := first.vm } : State) L k n
section CX
variable {p : Program} {l : Launch} {e : Env} {R : Room} {s : State} {m : MethodId} {args : Array Value} {below : List Frame} {meth : Method} {c : Code}
theorem callX {U : State} {locs : List Loc} {cells slots : Nat} (X : Stand p l e R s m args below meth c U locs cells slots) {y : MethodName} {ws : List Cond} {rm : Room} {Pm : Array Value → State → Prop} {Qc : Array Value → State → Outcome → State → Prop} {fr : Addr → Prop}
    (hM : MetFree l y (headSpec ws rm) Pm (fun _ _ _ _ _ => True) (fun a st o t => Qc a st o t ∧ ∃ L, FE st t L rm.cells rm.slots ∧ ∀ q ∈ L, fr q.base))
    {g : JFrame} (hg : g.method = m) (hsize : g.locals.size = c.maxLocals) {ig : Instr} {len : Nat} (hdg : decode c.code g.pc = .ok (ig, len)) {Wd : Nat} (hW : 2 * g.monitorRoom + (g.stack.map fun v => v.category).sum ≤ Wd)
    {mk : MethodId} {methY : Method} {cY : Code} {a : Array Value} (hn : U.methodNamed? y = some mk) (hmY : U.vm.method? mk = some methY) (hcY : methY.code = some cY)
    (hframes : rm.frames + 1 ≤ R.frames) (hlocals : Wd + (cY.maxLocals + 11) + rm.locals ≤ R.locals) (hcells : cells + rm.cells ≤ R.cells) (hslots : slots + rm.slots ≤ R.slots)
    (hpre : ∀ w ∈ ws, w.before a U = true) (hini : (Cond.initialized y.cls).before a U = true) (hP : Pm a (U.calling g mk a)) :
    ∃ (o : Outcome) (t : State) (L : List Loc), Qc a (U.calling g mk a) o t ∧ (∀ q ∈ L, fr q.base) ∧
      Stand p l e R s m args below meth c (({ U with heap := t.heap, slotsUsed := t.slotsUsed } : State).setVm t.vm) (locs ++ L) (cells + rm.cells) (slots + rm.slots) ∧
      Steps p.tables e below (doInvoke e (U.setTop g) [] mk a).1 (match o with
        | .returned v => (({ U with heap := t.heap, slotsUsed := t.slotsUsed } : State).setVm t.vm).setTop { g with pc := g.pc + len, stack := v.toList ++ g.stack }
        | .threw x => ((({ U with heap := t.heap, slotsUsed := t.slotsUsed } : State).setVm t.vm).setTop g).pushFrame (.throwing x)) := by
  obtain ⟨kY, hkY, -⟩ := className_of_methodNamed hn
  have hinitY : kY.init = .initialized := Cond.initialized_spec (findClass_of_methodNamed hn) hkY hini
  have h : At U g.method c below := by rw [hg]; exact X.here
  have happ : (headSpec ws rm).appliesLoose y e.platform (U.calling g mk a) = true :=
    Spec.appliesLoose_calling (g := g) h hdg hn hkY hinitY
      (X.room_calling (g := g) (R' := rm) hsize hmY hcY hframes (by omega) hcells hslots) (atoms_intro hpre)
  obtain ⟨mid, hmid⟩ := h.above
  have hfr : (U.setTop g).frames = (.java g :: mid) ++ below := by rw [State.frames_setTop' g h.top, hmid]; rfl
  obtain ⟨o, s₂, hsteps, -, hend, hq⟩ := Steps.callFree hM p X.admits X.cas X.clock (acts := []) hfr happ hP trivial
  have hq1 : Qc a (U.calling g mk a) o s₂ ∧ ∃ L, FE (U.calling g mk a) s₂ L rm.cells rm.slots ∧ ∀ q ∈ L, fr q.base := hq
  obtain ⟨hq, L, ⟨hW₂, e2, q2, q3, q4, q5, q6⟩, hL⟩ := hq1
  rw [State.frames_setTop' g h.top] at hend
  have e3 : s₂ = ({ (U.calling g mk a).setFrames s₂.frames with heap := s₂.heap, slotsUsed := s₂.slotsUsed } : State).setVm s₂.vm := by
    have h9 : s₂ = ({ s₂ with vm := (U.calling g mk a).vm } : State).setVm s₂.vm := rfl
    rw [e2] at h9
    exact h9
  have hW' : U.WarmedH s₂.vm := hW₂
  obtain ⟨g₀, hg0⟩ := Option.isSome_iff_exists.mp h.top
  obtain ⟨r, hr⟩ := State.topJava?_eq_some.mp hg0
  have hsame : U.sameButNew ({ U with heap := s₂.heap, slotsUsed := s₂.slotsUsed } : State) L rm.cells rm.slots := by
    refine ⟨?_, q2, q3, q4, q5, q6⟩
    obtain ⟨t, ht, -⟩ := State.frames_cons hr
    show ({ U with heap := s₂.heap, slotsUsed := s₂.slotsUsed } : State) = { U.setFrames U.frames with heap := s₂.heap, slotsUsed := s₂.slotsUsed }
    rw [State.setFrames_self ht]
  refine ⟨o, s₂, L, hq, hL, ⟨X.admits, X.cas, X.clock, X.frames, X.room, X.hears, X.method, X.code, (X.here.setHeapUsed s₂.heap s₂.slotsUsed).setVm hW'.alike, X.tail, State.WarmedH.trans X.warmed hW', X.limits, X.bytes, X.same.trans (hsame.setVm s.vm)⟩, ?_⟩
  have hr' : (({ U with heap := s₂.heap, slotsUsed := s₂.slotsUsed } : State).setVm s₂.vm).frames = .java g₀ :: r := hr
  cases o with
  | returned v =>
    obtain ⟨c₂, i₂, len₂, hc₂, hd₂, hf₂⟩ := hend
    have hcc : c₂ = c := by
      have h1 : s₂.code? g.method = U.code? g.method := by
        rw [State.code?_eq, State.code?_eq, hW'.alike.method?]
      exact Option.some.inj (hc₂.symm.trans (h1.trans h.code))
    subst hcc
    have hlen : len₂ = len := by rw [hdg] at hd₂; cases hd₂; rfl
    subst hlen
    have hs₂ : s₂ = (({ U with heap := s₂.heap, slotsUsed := s₂.slotsUsed } : State).setVm s₂.vm).setTop { g with pc := g.pc + len₂, stack := v.toList ++ g.stack } := by
      refine e3.trans ?_
      rw [hf₂, State.calling_eq h.top, State.setFrames_setFrames, State.setTop_of_frames _ hr', hr]
      rfl
    show Steps p.tables e below _ ((({ U with heap := s₂.heap, slotsUsed := s₂.slotsUsed } : State).setVm s₂.vm).setTop { g with pc := g.pc + len₂, stack := v.toList ++ g.stack })
    rw [← hs₂]
    exact hsteps
  | threw x =>
    have hf₂ : s₂.frames = .throwing x :: .java g :: U.frames.tail := hend
    have hs₂ : s₂ = ((({ U with heap := s₂.heap, slotsUsed := s₂.slotsUsed } : State).setVm s₂.vm).setTop g).pushFrame (.throwing x) := by
      refine e3.trans ?_
      rw [hf₂, State.calling_eq h.top, State.setFrames_setFrames, State.pushFrame, State.frames_setTop _ hr', State.setTop_of_frames _ hr', State.setFrames_setFrames, hr]
      rfl
    show Steps p.tables e below _ (((({ U with heap := s₂.heap, slotsUsed := s₂.slotsUsed } : State).setVm s₂.vm).setTop g).pushFrame (.throwing x))
    rw [← hs₂]
    exact hsteps
theorem W.mono {H : Heap} {locs : List Loc} {cells slots : Nat} {Q Q' : State → Prop} {g : JFrame} (k : W p l e R s m args below meth c H locs cells slots Q g) (h : ∀ t, Q t → Q' t) : W p l e R s m args below meth c H locs cells slots Q' g := by
  intro T hT X
  obtain ⟨t, a, b⟩ := k T hT X
  exact ⟨t, a, h t b⟩
end CX
end
section
/-! A method's entry; its ends; what is known where it stands. -/
theorem ent_lv : ∀ (as : List Vl) (off i : Nat) (v : Vl), (ent1 as).getD i none = some v → (off + i, tv v) ∈ lv_args off (as.map tv) := by
  intro as
  induction as with
  | nil => intro off i v h; simp [ent1] at h
  | cons a t ih =>
    intro off i v h
    unfold ent1 at h
    rw [List.map_cons]
    unfold lv_args
    by_cases hl : isLg (some a) = true
    · rw [if_pos hl] at h
      rw [if_pos (by rw [tv_cat]; exact isLg_cat.mp hl)]
      rcases i with _ | _ | i
      · simp at h
        subst h
        exact List.mem_cons_self
      · simp at h
      · refine List.mem_cons_of_mem _ ?_
        have := ih (off + 2) i v (by simpa using h)
        rw [show off + (i + 1 + 1) = off + 2 + i by omega]
        exact this
    · rw [if_neg hl] at h
      rw [if_neg (by rw [tv_cat, cat_1 hl]; decide)]
      rcases i with _ | i
      · simp at h
        subst h
        exact List.mem_cons_self
      · refine List.mem_cons_of_mem _ ?_
        have := ih (off + 1) i v (by simpa using h)
        rw [show off + (i + 1) = off + 1 + i by omega]
        exact this
theorem ent_ok : ∀ (as : List Vl) (i : Nat) (v : Vl), (ent1 as).getD i none = some v → v ∈ as := by
  intro as
  induction as with
  | nil => intro i v h; simp [ent1] at h
  | cons a t ih =>
    intro i v h
    unfold ent1 at h
    by_cases hl : isLg (some a) = true
    · rw [if_pos hl] at h
      rcases i with _ | _ | i
      · simp at h
        subst h
        exact List.mem_cons_self
      · simp at h
      · exact List.mem_cons_of_mem _ (ih i v (by simpa using h))
    · rw [if_neg hl] at h
      rcases i with _ | i
      · simp at h
        subst h
        exact List.mem_cons_self
      · exact List.mem_cons_of_mem _ (ih i v (by simpa using h))
theorem ent_len (as : List Vl) : (lg_sl (as.map tv)).length = (ent1 as).length := by
  induction as with
  | nil => rfl
  | cons a t ih =>
    unfold ent1
    rw [List.map_cons]
    have e : lg_sl (tv a :: t.map tv) = (if (tv a).category = 2 then [Slot.val (tv a), Slot.second] else [Slot.val (tv a)]) ++ lg_sl (t.map tv) := by simp [lg_sl]
    rw [e]
    by_cases hl : isLg (some a) = true
    · rw [if_pos hl, if_pos (by rw [tv_cat]; exact isLg_cat.mp hl)]
      simp [ih]
    · rw [if_neg hl, if_neg (by rw [tv_cat, cat_1 hl]; decide)]
      simp [ih]
theorem ent_gD {P : Pg} {y i : Nat} {as : List Vl} {v : Vl} (h : (ent P y as).getD i none = some v) : (ent1 as).getD i none = some v := by
  unfold ent at h
  rw [List.getD_eq_getElem?_getD] at h ⊢
  by_cases hi : i < (ent1 as).length
  · rw [List.getElem?_append_left hi] at h
    exact h
  · rw [List.getElem?_append_right (by omega), List.getElem?_replicate] at h
    split at h <;> simp at h
theorem ent_LR {P : Pg} {y : Nat} {as : List Vl} (hl : (ent1 as).length ≤ tMx y) (hv : ∀ v ∈ as, vok v) :
    LR ((lg_sl (as.map tv) ++ List.replicate (tMx y - (lg_sl (as.map tv)).length) Slot.unset).toArray) (tMx y) (ent P y as) := by
  have h := lv_entry (as.map tv) (n := tMx y) (by rw [ent_len]; exact hl)
  refine ⟨?_, h.1, h.2.1, fun i v hi => ?_, fun i v hi => hv v (ent_ok as i v (ent_gD hi))⟩
  · unfold ent
    rw [List.length_append, List.length_replicate]
    show (ent1 as).length + (tMx y - (ent1 as).length) = tMx y
    omega
  · have := h.2.2 (i, tv v) (by have := ent_lv as 0 i v (ent_gD hi); simpa using this)
    exact this
/-- where a method stands -/
def Cx (D : va_G) (dA : Nat → ClassId) (P : Pg) (p : Program) (s : State) (m : MethodId) (meth : Method) (c : Code) (j : Nat) : Prop :=
  p.tables.exec = Jvm.exec ∧ c.code = tBc j ∧ c.maxLocals = tMx j ∧ meth.sig.returnType = tRt j ∧ meth.locks = false ∧ s.vm.findClass (cNm (tOw j)) = some m.cls ∧ (tIni j = 1 → meth.name = "<init>") ∧ SK D dA P s ∧
  c.exceptionTable.toList.map (fun h => (h.startPc, h.endPc, h.handlerPc, h.catchType)) = hdL j
/-- an outcome -/
def Oc (dX : Nat → ClassId) (r : Rs) (o : Outcome) (t : State) : Prop := match r with
  | .inl v => o = .returned (v.map tv) ∧ ∀ w ∈ v.toList, vok w
  | .inr x => o = .threw x.2 ∧ x.1 < 5 ∧ ∃ cell : Cell, t.heap[x.2]? = some cell ∧ cell.cls = dX x.1 ∧ cell.vm = .none
def Fin (dX : Nat → ClassId) (D : va_G) (dA : Nat → ClassId) (h0 : Nat) (H0 : Heap) (s : State) (below : List Frame) (r : Rs) (u' : Mm) (mc ms : Nat) : State → Prop := fun t =>
  ∃ (o : Outcome) (L : List Loc), t.status = .running ∧ Ended t below o ∧ (Oc dX r o t ∧ HR D dA h0 H0 u' t.heap) ∧ FE s t L mc ms ∧ ∀ q ∈ L, h0 ≤ q.base
section FX
variable {p : Program} {l : Launch} {e : Env} {R : Room} {s : State} {m : MethodId} {args : Array Value} {below : List Frame} {meth : Method} {c : Code}
variable {dX : Nat → ClassId} {D : va_G} {dA : Nat → ClassId} {h0 : Nat} {H0 : Heap} {u : Mm} {H : Heap} {locs : List Loc} {cells slots : Nat}
theorem fin_of {v : Option Vl} {g : JFrame} (hv : ∀ w ∈ v.toList, vok w) (hR : HR D dA h0 H0 u H) (k : W p l e R s m args below meth c H locs cells slots (MQ below (fun _ _ o t => o = .returned (v.map tv) ∧ t.heap = H) args s cells slots (fun q => h0 ≤ q)) g) :
    W p l e R s m args below meth c H locs cells slots (Fin dX D dA h0 H0 s below (.inl v) u cells slots) g := by
  refine k.mono fun t ht => ?_
  obtain ⟨o, h1, h2, ⟨h3, h4⟩, L, ⟨h5, h6, h7⟩, h8⟩ := ht
  exact ⟨o, L, h1, h2, ⟨⟨h3, hv⟩, by rw [h4]; exact hR⟩, ⟨h6, h7⟩, h8⟩
theorem rk_ty {t : Option FieldType} : (rk t = 0 → t = none) ∧ (rk t = 1 → t = some .int) ∧ (rk t = 2 → t = some .boolean) ∧ (rk t = 3 → t = some .char) ∧ (rk t = 4 → t = some .long) ∧ (rk t = 5 → (∃ n, t = some (.object n)) ∨ ∃ a, t = some (.array a)) ∧ (rk t = 6 → t = some .byte) := by
  refine ⟨fun h => ?_, fun h => ?_, fun h => ?_, fun h => ?_, fun h => ?_, fun h => ?_, fun h => ?_⟩ <;> (rcases t with _ | t) <;> (try cases t) <;> first | rfl | (exact Or.inl ⟨_, rfl⟩) | (exact Or.inr ⟨_, rfl⟩) | (simp [rk] at h)
theorem rt_ok {j : Nat} {i : Instr} {st : List Vl} {r : Option Vl} (hr : rt j i st = some r) (hst : ∀ v ∈ st, vok v) : ∀ w ∈ r.toList, vok w := by
  cases i <;> simp only [rt] at hr <;> (try cases hr)
  all_goals (split at hr)
  all_goals (first | (cases hr; done) | (split at hr))
  all_goals (first | (cases hr; intro w hw; simp at hw; try (subst hw); first | trivial | exact hst _ List.mem_cons_self) | cases hr)
/-- a method's end -/
theorem fin_ret {P : Pg} {j n pc : Nat} {i : Instr} {st : List Vl} {a : Array Slot} {r : Option Vl} (C : Cx D dA P p s m meth c j) (hd : decode (tBc j) pc = .ok (i, n)) (hn : iln i n = true) (hr : rt j i st = some r) (hR : HR D dA h0 H0 u H) (hl : ∀ q ∈ locs, h0 ≤ q.base) (hst : ∀ v ∈ st, vok v) :
    W p l e R s m args below meth c H locs cells slots (Fin dX D dA h0 H0 s below (.inl r) u cells slots) (F0 m pc a (st.map tv)) := by
  obtain ⟨hx, hb, -, hret, hlocks, -⟩ := C
  refine fin_of (rt_ok hr hst) hR ?_
  cases i
  case return_ =>
    have e1 : n = 1 := by simpa [iln] using hn
    subst e1
    unfold rt at hr
    simp only at hr
    split at hr
    · split at hr
      · rename_i hk
        cases hr
        exact W.vret hx hb (hret.trans (rk_ty.1 hk)) (fun t ht _ => ⟨rfl, ht⟩) hl hd hlocks
      · cases hr
    · cases hr
  case ireturn =>
    have e1 : n = 1 := by simpa [iln] using hn
    subst e1
    unfold rt at hr
    simp only at hr
    split at hr
    · rename_i x
      have hxr : inR x := hst _ List.mem_cons_self
      split at hr
      · rename_i hk
        cases hr
        rcases hk with hk | ⟨hk, h01⟩ | ⟨hk, h01⟩ | ⟨hk, h01⟩
        · exact W.iret hx hb (hret.trans (rk_ty.2.1 hk)) (fun t ht _ => ⟨rfl, ht⟩) hl hd hlocks
        · exact W.zret hx hb (hret.trans (rk_ty.2.2.1 hk)) (fit_bool h01).1 (fun t ht _ => ⟨rfl, ht⟩) hl hd hlocks
        · exact W.zret hx hb (hret.trans (rk_ty.2.2.2.1 hk)) (by rw [nar_char hxr, Int.emod_eq_of_lt h01.1 h01.2]) (fun t ht _ => ⟨rfl, ht⟩) hl hd hlocks
        · subst h01
          exact W.zret hx hb (hret.trans (rk_ty.2.2.2.2.2.2 hk)) (by decide) (fun t ht _ => ⟨rfl, ht⟩) hl hd hlocks
      · cases hr
    · cases hr
  case lreturn =>
    have e1 : n = 1 := by simpa [iln] using hn
    subst e1
    unfold rt at hr
    simp only at hr
    split at hr
    · split at hr
      · rename_i hk
        cases hr
        exact W.lret hx hb (hret.trans (rk_ty.2.2.2.2.1 hk)) (fun t ht _ => ⟨rfl, ht⟩) hl hd hlocks
      · cases hr
    · cases hr
  case areturn =>
    have e1 : n = 1 := by simpa [iln] using hn
    subst e1
    unfold rt at hr
    simp only at hr
    split at hr
    · rename_i b
      split at hr
      · rename_i hk
        cases hr
        rcases rk_ty.2.2.2.2.2.1 hk with ⟨nm, he⟩ | ⟨ty, he⟩
        · exact W.aret hx hb (hret.trans he) (Or.inl ⟨_, rfl⟩) (Or.inr ⟨b, rfl⟩) (fun t ht _ => ⟨rfl, ht⟩) hl hd hlocks
        · exact W.aret hx hb (hret.trans he) (Or.inr ⟨_, rfl⟩) (Or.inr ⟨b, rfl⟩) (fun t ht _ => ⟨rfl, ht⟩) hl hd hlocks
      · cases hr
    · cases hr
  all_goals (simp [rt] at hr)
end FX
end
section
/-! A call's entry. The memory only grows. -/
theorem cd_spec {j : Nat} {A : Array Value} {s : State} (h : (cdW j).before A s = true) : ∃ m meth c, s.methodNamed? (yN j) = some m ∧ s.vm.method? m = some meth ∧ meth.code = some c ∧ c.code = tBc j ∧ c.maxLocals = tMx j ∧ meth.sig.returnType = tRt j ∧ meth.locks = false ∧ parseMethodDescriptor (yN j).desc = some meth.sig ∧
    c.exceptionTable.toList.map (fun h => (h.startPc, h.endPc, h.handlerPc, h.catchType)) = hdL j := by
  unfold cdW at h
  split at h
  · rename_i he
    obtain ⟨mk, hnamed⟩ := Cond.code_named h
    obtain ⟨meth, c, h1, h2, h3, h4, h5, h6, h7, h8⟩ := Cond.code_spec hnamed h
    refine ⟨mk, meth, c, hnamed, h1, h2, h3, h4, h5, h6, h8, ?_⟩
    rw [he]
    have : c.exceptionTable.toList = [] := by simpa using h7
    rw [this]
    rfl
  · rename_i hd tl he
    obtain ⟨m, meth, c, h1, h2, h3, h4, h5, h6, h7, h8, h9⟩ := Cond.codeWith_spec h
    exact ⟨m, meth, c, h1, h2, h3, h4, h5, h7, h8, h9, by rw [he]; exact h6⟩
theorem cd_kW (j : Nat) : kW (cdW j) = true := by
  unfold cdW
  split <;> rfl
theorem cl_some {P : Pg} {j y : Nat} {i : Instr} {st as rest : List Vl} (h : cl P j i st = some (y, (as, rest))) : ∃ k, iK i = some k ∧ tLm (tOw j) k = some (y, as.length) ∧ cK i y = true ∧ st = as.reverse ++ rest := by
  unfold cl at h
  cases hk : iK i with
  | none => rw [hk] at h; cases h
  | some k =>
    rw [hk] at h
    simp only at h
    cases hm : pLm P (pOw P j) k with
    | none => rw [hm] at h; cases h
    | some q =>
      obtain ⟨y', n⟩ := q
      rw [hm] at h
      simp only at h
      split at h
      · rename_i hc
        cases h
        refine ⟨k, rfl, ?_, hc.2, ?_⟩
        · rw [List.length_reverse, List.length_take, Nat.min_eq_left hc.1]
          exact hm
        · rw [List.reverse_reverse, List.take_append_drop]
      · cases h
theorem rcv_spec {P : Pg} {u : Mm} {y : Nat} {as : List Vl} (h : rcv P u y as = true) (h1 : tSt y ≠ 1) : ∃ b t, as = vR b :: t ∧ (tSt y ≠ 2 → (tOw y = 12 ∧ b = pSg P) ∨ (tOw y ≠ 12 ∧ ∃ n, mS u b = some (100 + tOw y, n))) := by
  unfold rcv at h
  rw [if_neg h1] at h
  split at h
  · rename_i b t
    refine ⟨b, t, rfl, fun h2 => ?_⟩
    rw [if_neg h2] at h
    by_cases h12 : tOw y = 12
    · rw [if_pos h12] at h
      exact Or.inl ⟨h12, by simpa using h⟩
    · rw [if_neg h12] at h
      split at h
      · rename_i k n hm
        have : k = 100 + tOw y := by simpa using h
        subst this
        exact Or.inr ⟨h12, n, hm⟩
      · cases h
  · cases h
theorem init_plain : ∀ j, j < 178 → tSt j = 2 → hdL j = [] ∧ rk (tRt j) = 0 := by decide +kernel
theorem nm_p : ∀ j, j < 178 → plainFor (yN j) = true := by
  have h : ∀ j, j < 178 → tOw j < 10 ∨ j = 163 ∨ j = 164 ∨ j = 165 ∨ j = 166 ∨ j = 167 ∨ j = 168 ∨ j = 169 ∨ j = 170 ∨ j = 171 ∨ j = 172 ∨ j = 173 ∨ j = 174 ∨ j = 175 ∨ j = 176 ∨ j = 177 := by decide +kernel
  intro j hj
  rcases h j hj with h1 | rfl | rfl | rfl | rfl | rfl | rfl | rfl | rfl | rfl | rfl | rfl | rfl | rfl | rfl | rfl
  · exact plainFor_of_name (nm_3 j hj h1)
  · exact nm_3_163
  · exact nm_3_164
  · exact nm_3_165
  · exact nm_3_166
  · exact nm_3_167
  · exact nm_3_168
  · exact nm_3_169
  · exact nm_3_170
  · exact nm_3_171
  · exact nm_3_172
  · exact nm_3_173
  · exact nm_3_174
  · exact nm_3_175
  · exact nm_3_176
  · exact nm_3_177
theorem tKd_lt {y : Nat} (h : tKd y = 0) : y < 500 := by
  unfold tKd at h
  split at h
  · assumption
  · split at h
    · cases h
    · split at h <;> cases h
section EN
variable {p : Program} {l : Launch} {e : Env} {R : Room} {s : State} {m : MethodId} {args : Array Value} {below : List Frame} {meth : Method} {c : Code} {T : State} {locs : List Loc} {cells slots : Nat}
variable {D : va_G} {dA : Nat → ClassId} {P : Pg} {h0 : Nat} {H0 : Heap} {u : Mm}
theorem enter_ok (X : Stand p l e R s m args below meth c T locs cells slots) {j y n pc : Nat} {i : Instr} {a : Array Slot} {st as rest : List Vl} (C : Cx D dA P p s m meth c j) (hd : decode (tBc j) pc = .ok (i, n)) (hn : iln i n = true) (hcl : cl P j i st = some (y, (as, rest))) (hy : y < 178) (hrc : rcv P u y as = true) (hR : HR D dA h0 H0 u T.heap) (hStr : ∃ cell : Cell, T.heap[pSg P]? = some cell ∧ (∀ k, cell.vm ≠ .statics k) ∧ s.vm.findClass (cNm 12) = some cell.cls) :
    ∃ (vm₁ : Vm) (mk : MethodId) (methY : Method) (cY : Code), Stand p l e R s m args below meth c (T.setVm vm₁) locs cells slots ∧ s.methodNamed? (yN y) = some mk ∧ s.vm.method? mk = some methY ∧ methY.code = some cY ∧ cY.maxLocals = tMx y ∧
      ∀ target, Steps p.tables e below (doInvoke e ((T.setVm vm₁).setTop (F0 m pc a (rest.map tv))) [] mk (as.map tv).toArray).1 target → Steps p.tables e below (T.setTop (F0 m pc a (st.map tv))) target := by
  obtain ⟨hx, hb, -, -, -, hown, -, hK, -⟩ := C
  obtain ⟨k, hik, hlm, hck, rfl⟩ := cl_some hcl
  obtain ⟨hyn, hw⟩ := lm_ok hlm
  have hlen : as.length = tNa y + (if tSt y = 1 then 0 else 1) := by
    rcases hyn with h | h
    · omega
    · exact h.2
  have hcode := hK.w (code_ok y hy) (cd_kW y) args
  obtain ⟨mk, methY, cY, g1, g2, g3, g4, g5, g6, g7, g8, g9⟩ := cd_spec hcode
  have hsig : methY.sig.parameters.length = tNa y := by
    have := nm_2 y hy
    rw [g8] at this
    simpa using this
  have hy2 := nm_1 y hy
  have hini : (Cond.initialized (yN y).cls).before args s = true := by
    rw [nm_5 y hy]
    exact hK.w (tm (ini_ok (tOw y) (nm_6 y hy).1)) rfl args
  obtain ⟨kP, hkP, -⟩ := className_of_methodNamed g1
  have hinitP : kP.init = .initialized := Cond.initialized_spec (findClass_of_methodNamed g1) hkP hini
  have hst3 := (nm_6 y hy).2
  have e3 : n = 3 := by cases i <;> first | (simp [iK] at hik; done) | (simpa [iln] using hn)
  subst e3
  rw [← hb] at hd
  rcases (show tSt y = 1 ∨ tSt y = 0 ∨ tSt y = 2 by omega) with h1 | h1 | h1
  · -- static
    rw [if_pos h1] at hlen
    have hi : i = .invokestatic k := by
      cases i <;> simp [iK] at hik <;> subst hik <;> simp [cK, h1] at hck <;> first | rfl | omega
    subst hi
    have hstatic : methY.isStatic = true := Cond.static_spec g1 g2 (hK.w (tm ((si_ok y hy).1 h1)) rfl args)
    have hstack : (F0 m pc a ((as.reverse ++ rest).map tv)).stack = (as.map tv).reverse ++ rest.map tv := by
      show (as.reverse ++ rest).map tv = _
      rw [List.map_append, List.map_reverse]
    have hlen2 : (as.map tv).length = methY.sig.parameters.length := by rw [List.length_map, hsig, hlen, Nat.add_zero]
    rcases hw with hw | hw
    · obtain ⟨vm₁, X₁, hstep₁⟩ := X.invokestaticNest hx hown (hK.w hw rfl args) g1 g2 hstatic hkP hinitP hy2 (g := F0 m pc a ((as.reverse ++ rest).map tv)) rfl (argsL := as.map tv) (rest := rest.map tv) hlen2 hstack hd
      exact ⟨vm₁, mk, methY, cY, X₁, g1, g2, g3, g5, fun target h => hstep₁ _ fun acts => by rw [doInvoke_state]; exact h⟩
    · obtain ⟨vm₁, X₁, hstep₁⟩ := X.invokestatic hx hown (hK.w hw rfl args) g1 g2 hstatic hkP hinitP hy2 (g := F0 m pc a ((as.reverse ++ rest).map tv)) rfl (argsL := as.map tv) (rest := rest.map tv) hlen2 hstack hd
      exact ⟨vm₁, mk, methY, cY, X₁, g1, g2, g3, g5, fun target h => hstep₁ _ fun acts => by rw [doInvoke_state]; exact h⟩
  · -- virtual
    rw [if_neg (by omega)] at hlen
    have hi : i = .invokevirtual k := by
      cases i <;> simp [iK] at hik <;> subst hik <;> simp [cK, h1] at hck <;> first | rfl | omega
    subst hi
    obtain ⟨b, t, rfl, hsh⟩ := rcv_spec hrc (by omega)
    have hcc : ∃ cell : Cell, T.heap[b]? = some cell ∧ (∀ k, cell.vm ≠ .statics k) ∧ s.vm.findClass (cNm (tOw y)) = some cell.cls := by
      rcases hsh (by omega) with ⟨h12, rfl⟩ | ⟨-, nb, hnb⟩
      · rw [h12]; exact hStr
      · obtain ⟨hc9, -, cell, q1, q2, q3, -⟩ := hR.2.2.2.2.2.1 b _ _ hnb
        exact ⟨cell, q1, (fun z h => by rw [q3] at h; cases h), by rw [q2]; exact (hK.kn hc9).2.1⟩
    obtain ⟨cell, q1, q3, q2⟩ := hcc
    have hinst := hK.w (tm ((si_ok y hy).2.1 (by omega))) rfl args
    obtain ⟨mk', methM, hnamed, hmethM, hstM, habM⟩ := Cond.instanceMethod_spec hinst
    cases g1.symm.trans hnamed
    cases g2.symm.trans hmethM
    have hsel := hK.w (List.mem_of_getElem? ((si_ok y hy).2.2 h1)) rfl args
    have hcls : s.vm.findClass (yN y).cls = some cell.cls := by rw [nm_5 y hy]; exact q2
    obtain ⟨c2, r2, m2, p1, p2, p3, p4, kQ, hkQ, hkQi⟩ := Cond.selects_spec hsel
    cases hcls.symm.trans p1
    cases (State.methodFound?_of_named hnamed hy2).symm.trans p2
    cases hnamed.symm.trans p3
    have hselP : selectMethod e.platform s.vm cell.cls mk = .method mk := by rw [Launch.admits_selectMethod X.admits]; exact p4
    have hstack : (F0 m pc a (((vR b :: t).reverse ++ rest).map tv)).stack = (t.map tv).reverse ++ .ref b :: rest.map tv := by
      show ((vR b :: t).reverse ++ rest).map tv = _
      simp [List.map_append, List.map_reverse]
      rfl
    have hlen2 : (t.map tv).length = methY.sig.parameters.length := by rw [List.length_map, hsig]; simp at hlen; omega
    rcases hw with hw | hw
    · obtain ⟨vm₁, X₁, hstep₁⟩ := X.invokevirtualNest hx hown (hK.w hw rfl args) g1 g2 hstM hkQ hkQi hy2 (a := b) (cell := cell) q1 q3 hselP g2 habM hkQ hkQi (g := F0 m pc a (((vR b :: t).reverse ++ rest).map tv)) rfl (argsL := t.map tv) (rest := rest.map tv) hlen2 hstack hd
      exact ⟨vm₁, mk, methY, cY, X₁, g1, g2, g3, g5, fun target h => hstep₁ _ fun acts => by rw [doInvoke_state]; exact h⟩
    · obtain ⟨vm₁, X₁, hstep₁⟩ := X.invokevirtual hx hown (hK.w hw rfl args) g1 g2 hstM hkQ hkQi hy2 (a := b) (cell := cell) q1 q3 hselP g2 habM hkQ hkQi (g := F0 m pc a (((vR b :: t).reverse ++ rest).map tv)) rfl (argsL := t.map tv) (rest := rest.map tv) hlen2 hstack hd
      exact ⟨vm₁, mk, methY, cY, X₁, g1, g2, g3, g5, fun target h => hstep₁ _ fun acts => by rw [doInvoke_state]; exact h⟩
  · -- a constructor
    rw [if_neg (by omega)] at hlen
    have hi : i = .invokespecial k := by
      cases i <;> simp [iK] at hik <;> subst hik <;> simp [cK, h1] at hck <;> first | rfl | omega
    subst hi
    obtain ⟨b, t, rfl, -⟩ := rcv_spec hrc (by omega)
    have hinst := hK.w (tm ((si_ok y hy).2.1 (by omega))) rfl args
    obtain ⟨hhd, hrk⟩ := init_plain y hy h1
    have hcode2 : (Cond.code (yN y) (tBc y) (tMx y) none).before args s = true := by
      unfold cdW at hcode
      rw [hhd] at hcode
      simp only at hcode
      rw [rk_ty.1 hrk] at hcode
      exact hcode
    have hstack : (F0 m pc a (((vR b :: t).reverse ++ rest).map tv)).stack = (t.map tv).reverse ++ .ref b :: rest.map tv := by
      show ((vR b :: t).reverse ++ rest).map tv = _
      simp [List.map_append, List.map_reverse]
      rfl
    have hlen2 : ∀ sig, parseMethodDescriptor (yN y).desc = some sig → (t.map tv).length = sig.parameters.length := by
      intro sig hs
      rw [g8] at hs
      cases hs
      rw [List.length_map, hsig]; simp at hlen; omega
    have hpl : e.platform.magicAccessors = ({} : Platform).magicAccessors := by rw [X.admits.platform]
    have hnm := (nm_4 y hy).1 h1
    rcases hw with hw | hw
    · obtain ⟨mk', methM, cM, kQ, vm₁, hnamed, hmethM, hcodeM, -, hlocalsM, -, hkQ, -, hW₁, hstep₁⟩ := Steps.initColdArgsNest (e := e) X.here hx X.warmed hpl hown hnm hy2 (hK.w hw rfl args) hinst hcode2 (f := F0 m pc a (((vR b :: t).reverse ++ rest).map tv)) rfl hlen2 hstack hd
      cases g1.symm.trans hnamed
      exact ⟨vm₁, mk, methY, cY, X.noted hW₁, g1, g2, g3, g5, fun target h => hstep₁ _ fun acts => by rw [doInvoke_state]; exact h⟩
    · obtain ⟨mk', methM, cM, kQ, vm₁, hnamed, hmethM, hcodeM, -, hlocalsM, -, hkQ, -, hW₁, hstep₁⟩ := Steps.initColdArgs (e := e) X.here hx X.warmed hpl hown hnm hy2 (hK.w hw rfl args) hinst hcode2 (f := F0 m pc a (((vR b :: t).reverse ++ rest).map tv)) rfl hlen2 hstack hd
      cases g1.symm.trans hnamed
      exact ⟨vm₁, mk, methY, cY, X.noted hW₁, g1, g2, g3, g5, fun target h => hstep₁ _ fun acts => by rw [doInvoke_state]; exact h⟩
end EN
end
section
/-! The memory only grows. Written by wip/whole/gen/mk28.py. -/
theorem stp_mono {P : Pg} {j n pc pc' : Nat} {i : Instr} {ls ls' : Ls} {st st' : List Vl} {u u' : Mm} (hs : stp P j i n pc ls st u = some ((pc', (ls', st')), u')) : mT u ≤ mT u' ∧ mU u ≤ mU u' := by
  have same : u' = u → mT u ≤ mT u' ∧ mU u ≤ mU u' := fun h => by rw [h]; exact ⟨Nat.le_refl _, Nat.le_refl _⟩
  cases i
  case iadd => simp only [stp] at hs; exact same (goS_some hs).2.2.2
  case isub => simp only [stp] at hs; exact same (goS_some hs).2.2.2
  case imul => simp only [stp] at hs; exact same (goS_some hs).2.2.2
  case iand => simp only [stp] at hs; exact same (goS_some hs).2.2.2
  case ior => simp only [stp] at hs; exact same (goS_some hs).2.2.2
  case ixor => simp only [stp] at hs; exact same (goS_some hs).2.2.2
  case ishl => simp only [stp] at hs; exact same (goS_some hs).2.2.2
  case ishr => simp only [stp] at hs; exact same (goS_some hs).2.2.2
  case i2c => simp only [stp] at hs; exact same (goS_some hs).2.2.2
  case i2l => simp only [stp] at hs; exact same (goS_some hs).2.2.2
  case l2i => simp only [stp] at hs; exact same (goS_some hs).2.2.2
  case land => simp only [stp] at hs; exact same (goS_some hs).2.2.2
  case lor => simp only [stp] at hs; exact same (goS_some hs).2.2.2
  case lshl => simp only [stp] at hs; exact same (goS_some hs).2.2.2
  case lshr => simp only [stp] at hs; exact same (goS_some hs).2.2.2
  case lcmp => simp only [stp] at hs; exact same (goS_some hs).2.2.2
  case dup => simp only [stp] at hs; exact same (goS_some hs).2.2.2
  case dup_x1 => simp only [stp] at hs; exact same (goS_some hs).2.2.2
  case dup_x2 => simp only [stp] at hs; exact same (goS_some hs).2.2.2
  case dup2 => simp only [stp] at hs; exact same (goS_some hs).2.2.2
  case pop => simp only [stp] at hs; exact same (goS_some hs).2.2.2
  case iload => simp only [stp] at hs; exact same (goS_some hs).2.2.2
  case lload => simp only [stp] at hs; exact same (goS_some hs).2.2.2
  case aload => simp only [stp] at hs; exact same (goS_some hs).2.2.2
  case iload_n => simp only [stp] at hs; exact same (goS_some hs).2.2.2
  case lload_n => simp only [stp] at hs; exact same (goS_some hs).2.2.2
  case aload_n => simp only [stp] at hs; exact same (goS_some hs).2.2.2
  case iconst => simp only [stp] at hs; exact same (goS_some hs).2.2.2
  case bipush => simp only [stp] at hs; exact same (goS_some hs).2.2.2
  case sipush => simp only [stp] at hs; exact same (goS_some hs).2.2.2
  case lconst => simp only [stp] at hs; exact same (goS_some hs).2.2.2
  case iaload => simp only [stp] at hs; exact same (goS_some hs).2.2.2
  case caload => simp only [stp] at hs; exact same (goS_some hs).2.2.2
  case baload => simp only [stp] at hs; exact same (goS_some hs).2.2.2
  case laload => simp only [stp] at hs; exact same (goS_some hs).2.2.2
  case aaload => simp only [stp] at hs; exact same (goS_some hs).2.2.2
  case arraylength => simp only [stp] at hs; exact same (goS_some hs).2.2.2
  case getfield => simp only [stp] at hs; exact same (goS_some hs).2.2.2
  case istore => obtain ⟨-, -, -, -, -, h⟩ := kSt_some hs; exact same h
  case lstore => obtain ⟨-, -, -, -, -, h⟩ := kSt_some hs; exact same h
  case astore => obtain ⟨-, -, -, -, -, h⟩ := kSt_some hs; exact same h
  case istore_n => obtain ⟨-, -, -, -, -, h⟩ := kSt_some hs; exact same h
  case lstore_n => obtain ⟨-, -, -, -, -, h⟩ := kSt_some hs; exact same h
  case astore_n => obtain ⟨-, -, -, -, -, h⟩ := kSt_some hs; exact same h
  case goto => simp only [stp] at hs; exact same (goP_some hs).2.2.2
  case ifCond =>
    simp only [stp] at hs
    split at hs
    · exact same (goP_some hs).2.2.2
    · cases hs
  case if_icmp =>
    simp only [stp] at hs
    split at hs
    · exact same (goP_some hs).2.2.2
    · cases hs
  case tableswitch =>
    simp only [stp] at hs
    split at hs
    · exact same (goP_some hs).2.2.2
    · cases hs
  case lookupswitch =>
    simp only [stp] at hs
    split at hs
    · split at hs
      · exact same (goP_some hs).2.2.2
      · cases hs
    · cases hs
  case iinc =>
    simp only [stp] at hs
    split at hs
    · exact same (goL_some hs).2.2.2
    · cases hs
  case ldc =>
    simp only [stp] at hs
    split at hs
    · exact same (goS_some hs).2.2.2
    · cases hs
  case ldc2_w =>
    simp only [stp] at hs
    split at hs
    · exact same (goS_some hs).2.2.2
    · cases hs
  case iastore => obtain ⟨_, _, _, _, -, -, -, -, -, -, rfl⟩ := kEs_some hs; exact ⟨Nat.le_refl _, Nat.le_refl _⟩
  case castore => obtain ⟨_, _, _, _, -, -, -, -, -, -, rfl⟩ := kEs_some hs; exact ⟨Nat.le_refl _, Nat.le_refl _⟩
  case bastore => obtain ⟨_, _, _, _, -, -, -, -, -, -, rfl⟩ := kEs_some hs; exact ⟨Nat.le_refl _, Nat.le_refl _⟩
  case lastore => obtain ⟨_, _, _, _, -, -, -, -, -, -, rfl⟩ := kLs_some hs; exact ⟨Nat.le_refl _, Nat.le_refl _⟩
  case aastore => obtain ⟨_, _, _, _, _, _, -, -, -, -, -, -, -, -, rfl⟩ := kAs_some hs; exact ⟨Nat.le_refl _, Nat.le_refl _⟩
  case putfield =>
    rcases kPut_some hs with ⟨_, _, _, _, _, _, -, -, -, -, -, -, -, rfl⟩ | ⟨_, _, _, _, _, -, -, -, -, -, -, rfl⟩
    · exact ⟨Nat.le_refl _, Nat.le_refl _⟩
    · exact ⟨Nat.le_refl _, Nat.le_refl _⟩
  case new =>
    simp only [stp] at hs
    split at hs
    · cases hs; exact ⟨Nat.le_succ _, Nat.le_add_right _ _⟩
    · cases hs
  case newarray =>
    simp only [stp] at hs
    split at hs
    · obtain ⟨_, _, -, -, -, -, -, -, rfl⟩ := kNa_some hs; exact ⟨Nat.le_succ _, Nat.le_add_right _ _⟩
    · cases hs
  case anewarray =>
    simp only [stp] at hs
    split at hs
    · obtain ⟨_, _, -, -, -, -, -, -, rfl⟩ := kNa_some hs; exact ⟨Nat.le_succ _, Nat.le_add_right _ _⟩
    · cases hs
  all_goals exact absurd hs (by simp [stp])
theorem bi_mono {P : Pg} {k : Nat} {as : List Vl} {u u' : Mm} {v : Option Vl} (h : bi P k as u = some (v, u')) : mT u' = mT u ∧ mU u' = mU u := by
  unfold bi at h
  repeat' split at h
  all_goals first | (cases h; exact ⟨rfl, rfl⟩) | (cases h)
theorem thr_mono {P : Pg} {j pc : Nat} {i : Instr} {st : List Vl} {u : Mm} {r : Rs} {u' : Mm} (h : thrF P j pc i st u = some (r, u')) : mT u ≤ mT u' ∧ mU u ≤ mU u' := by
  cases i <;> simp only [thrF] at h <;> first | (cases h; done) | skip
  split at h
  · split at h
    · cases h; exact ⟨Nat.le_succ _, Nat.le_add_right _ _⟩
    · cases h
  · cases h
theorem fm_mono (P : Pg) : ∀ (f d j pc : Nat) (ls : Ls) (st : List Vl) (u : Mm) (r : Rs) (u' : Mm), fm P f d j pc ls st u = some (r, u') → mT u ≤ mT u' ∧ mU u ≤ mU u' := by
  intro f
  induction f with
  | zero => intro d j pc ls st u r u' h; rw [fm] at h; cases h
  | succ f ih =>
    intro d j pc ls st u r u' h
    rw [fm] at h
    cases hd : decode (pBc P j) pc with
    | error e => simp only [hd] at h; cases h
    | ok q =>
      obtain ⟨i, n⟩ := q
      simp only [hd] at h
      by_cases hl : iln i n = true
      case neg => rw [if_neg hl] at h; cases h
      rw [if_pos hl] at h
      cases hs : stp P j i n pc ls st u with
      | some q =>
        obtain ⟨⟨pc1, ls1, st1⟩, u1⟩ := q
        simp only [hs] at h
        have h1 := stp_mono hs
        have h2 := ih _ _ _ _ _ _ _ _ h
        omega
      | none =>
        simp only [hs] at h
        cases hr : rt j i st with
        | some r' => simp only [hr] at h; cases h; exact ⟨Nat.le_refl _, Nat.le_refl _⟩
        | none =>
          simp only [hr] at h
          cases hc : cl P j i st with
          | none =>
            simp only [hc] at h
            cases ht : thrF P j pc i st u with
            | some r1 =>
              simp only [ht] at h
              cases h
              exact thr_mono ht
            | none =>
              simp only [ht] at h
              cases hp : sps P j i st with
              | none => simp only [hp] at h; cases h
              | some st1 => simp only [hp] at h; exact ih _ _ _ _ _ _ _ _ h
          | some q =>
            obtain ⟨y, as, rest⟩ := q
            simp only [hc] at h
            by_cases hw : (rest.map cat).sum ≤ 8
            · rw [if_pos hw] at h
              cases hb : bi P (pKd P y) as u with
              | some q =>
                obtain ⟨v, u1⟩ := q
                simp only [hb] at h
                have h1 := bi_mono hb
                have h2 := ih _ _ _ _ _ _ _ _ h
                omega
              | none =>
                simp only [hb] at h
                cases d with
                | zero => cases h
                | succ d' =>
                  by_cases he : (ent1 as).length ≤ pMx P y ∧ pKd P y = 0 ∧ rcv P u y as = true
                  · simp only [if_pos he] at h
                    cases hf : fm P f d' y 0 (ent P y as) [] u with
                    | none => simp only [hf] at h; cases h
                    | some q =>
                      obtain ⟨o, u1⟩ := q
                      simp only [hf] at h
                      have h1 := ih _ _ _ _ _ _ _ _ hf
                      cases o with
                      | inl v =>
                        have h2 := ih _ _ _ _ _ _ _ _ h
                        omega
                      | inr x =>
                        simp only at h
                        cases hh : hnd pc x.1 (pHs P j) with
                        | none =>
                          simp only [hh] at h
                          split at h
                          · cases h; exact h1
                          · cases h
                        | some t =>
                          simp only [hh] at h
                          have h2 := ih _ _ _ _ _ _ _ _ h
                          omega
                  · simp only [if_neg he] at h; cases h
            · rw [if_neg hw] at h; cases h
end
section
/-! A run of the small machine is the JVM's: by induction on its length. What is ready, what throws and what catches comes as three hypotheses. -/
section MAIN
/-- what stands ready (kinds of bi) -/
def ReadyS (l : Launch) (D : va_G) (dA : Nat → ClassId) (P : Pg) (h0 : Nat) (H0 : Heap) (X : State → Prop) : Prop :=
  ∀ (p : Program) (e : Env) (R : Room) (s : State) (m : MethodId) (args : Array Value) (below : List Frame) (meth : Method) (c : Code) (j y n pc : Nat) (i : Instr) (a : Array Slot) (ls : Ls) (st as rest : List Vl) (u u' : Mm) (v : Option Vl),
    Cx D dA P p s m meth c j → X s → 12 ≤ R.frames → 600 ≤ R.locals → decode (tBc j) pc = .ok (i, n) → iln i n = true → cl P j i st = some (y, (as, rest)) → (rest.map cat).sum ≤ 8 → bi P (tKd y) as u = some (v, u') → LR a (tMx j) ls → (∀ v ∈ st, vok v) →
    Sg p l e R s m args below meth c D dA h0 H0 (tMx j) pc a st u (pc + n) ls (v.toList ++ rest) u'
def ThrowS (l : Launch) (dX : Nat → ClassId) (D : va_G) (dA : Nat → ClassId) (P : Pg) (h0 : Nat) (H0 : Heap) (X : State → Prop) : Prop :=
  ∀ (p : Program) (e : Env) (R : Room) (s : State) (m : MethodId) (args : Array Value) (below : List Frame) (meth : Method) (c : Code) (j pc k x n : Nat) (a : Array Slot) (ls : Ls) (st : List Vl) (u : Mm) (H : Heap) (locs : List Loc) (cells slots : Nat),
    Cx D dA P p s m meth c j → X s → j < 179 → 12 ≤ R.frames → 600 ≤ R.locals → decode (tBc j) pc = .ok (.new k, 3) → tLx (tOw j) k = some (x, n) → tHs j = [] → thrOk j pc x = true → LR a (tMx j) ls → HR D dA h0 H0 u H → (∀ q ∈ locs, h0 ≤ q.base) → (st.map cat).sum ≤ 8 → cells + 1 ≤ R.cells → slots + n ≤ R.slots →
    W p l e R s m args below meth c H locs cells slots (Fin dX D dA h0 H0 s below (.inr (x, mT u)) (mHole u n) (cells + 1) (slots + n)) (F0 m pc a (st.map tv))
def CatchS (l : Launch) (dX : Nat → ClassId) (D : va_G) (dA : Nat → ClassId) (P : Pg) (h0 : Nat) (H0 : Heap) (X : State → Prop) : Prop :=
  ∀ (p : Program) (e : Env) (R : Room) (s : State) (m : MethodId) (args : Array Value) (below : List Frame) (meth : Method) (c : Code) (T : State) (locs : List Loc) (cells slots j pc hp : Nat) (x : Nat × Nat) (a : Array Slot) (rest : List Value) (u : Mm),
    Stand p l e R s m args below meth c T locs cells slots → Cx D dA P p s m meth c j → X s → j < 179 → HR D dA h0 H0 u T.heap → hnd pc x.1 (tHs j) = some hp → x.1 < 5 → (∃ cell : Cell, T.heap[x.2]? = some cell ∧ cell.cls = dX x.1 ∧ cell.vm = .none) →
    ∃ vm' : Vm, Stand p l e R s m args below meth c (T.setVm vm') locs cells slots ∧ ∀ target, Steps p.tables e below ((T.setVm vm').setTop (F0 m hp a [.ref x.2])) target → Steps p.tables e below ((T.setTop (F0 m pc a rest)).pushFrame (.throwing x.2)) target
/-- in the methods of texts -/
def SpecS (l : Launch) (D : va_G) (dA : Nat → ClassId) (P : Pg) (h0 : Nat) (H0 : Heap) (X : State → Prop) : Prop :=
  ∀ (p : Program) (e : Env) (R : Room) (s : State) (m : MethodId) (args : Array Value) (below : List Frame) (meth : Method) (c : Code) (j n pc : Nat) (i : Instr) (a : Array Slot) (ls : Ls) (st st' : List Vl) (u : Mm),
    Cx D dA P p s m meth c j → X s → decode (tBc j) pc = .ok (i, n) → iln i n = true → sps P j i st = some st' → LR a (tMx j) ls → (∀ v ∈ st, vok v) →
    Sg p l e R s m args below meth c D dA h0 H0 (tMx j) pc a st u (pc + n) ls st' u
/-- the text of the signs is a text -/
def TextS (P : Pg) (h0 : Nat) (H0 : Heap) (X : State → Prop) : Prop := ∀ s : State, X s → pSg P < h0 ∧ ∃ cell : Cell, H0[pSg P]? = some cell ∧ (∀ k, cell.vm ≠ .statics k) ∧ s.vm.findClass (cNm 12) = some cell.cls
theorem hs_hd : ∀ j, j < 179 → tHs j = [] → hdL j = [] := by decide +kernel
variable {l : Launch} {dX : Nat → ClassId} {D : va_G} {dA : Nat → ClassId} {P : Pg} {h0 : Nat} {H0 : Heap} {X : State → Prop}
/-- a method called: its contract, out of its run -/
theorem met_of {d y : Nat} {as : List Vl} {u u1 : Mm} {o : Rs} (hy : y < 178) (he : (ent1 as).length ≤ tMx y) (hva : ∀ v ∈ as, vok v)
    (ih : ∀ (p : Program) (e : Env) (R : Room) (s : State) (m : MethodId) (args : Array Value) (below : List Frame) (meth : Method) (c : Code) (a : Array Slot), Cx D dA P p s m meth c y → X s → LR a (tMx y) (ent P y as) → d + 12 ≤ R.frames → 60 * d + 600 ≤ R.locals →
      ∀ (H : Heap) (locs : List Loc) (cells slots : Nat), HR D dA h0 H0 u H → (∀ q ∈ locs, h0 ≤ q.base) → cells + (mT u1 - mT u) ≤ R.cells → slots + (mU u1 - mU u) ≤ R.slots →
        W p l e R s m args below meth c H locs cells slots (Fin dX D dA h0 H0 s below o u1 (cells + (mT u1 - mT u)) (slots + (mU u1 - mU u))) (F0 m 0 a [])) :
    MetFree l (yN y) (headSpec [cdW y] { frames := d + 12, cells := mT u1 - mT u, slots := mU u1 - mU u, locals := 60 * d + 600 }) (fun av st => av = (as.map tv).toArray ∧ SK D dA P st ∧ X st ∧ HR D dA h0 H0 u st.heap) (fun _ _ _ _ _ => True)
      (fun _ st oc t => (Oc dX o oc t ∧ HR D dA h0 H0 u1 t.heap) ∧ ∃ L, FE st t L (mT u1 - mT u) (mU u1 - mU u) ∧ ∀ q ∈ L, h0 ≤ q.base) := by
  refine MetFree.of_bodySF (code := tBc y) (maxLocals := tMx y) (ret := tRt y) (nm_p y hy) ?_ ?_
  · intro args s m h hn
    obtain ⟨mk, meth, c, g1, g2, g3, g4, g5, g6, g7, -, -⟩ := cd_spec (atoms_spec (ws := [cdW y]) h _ List.mem_cons_self)
    cases g1.symm.trans hn
    exact ⟨meth, c, g2, g3, g4, g5, g6, g7⟩
  · intro p e s m args below meth c s₁ B hml hP _
    obtain ⟨rfl, hK, hX, hR⟩ := hP
    obtain ⟨mk, meth', c', g1, g2, g3, g4, g5, g6, g7, -, g9⟩ := cd_spec (atoms_spec (ws := [cdW y]) B.pre _ List.mem_cons_self)
    cases g1.symm.trans B.named
    cases g2.symm.trans B.method
    have X₀ := Stand.of_body B
    cases g3.symm.trans X₀.code
    have C : Cx D dA P p s m meth c y := ⟨B.exec, B.bytes, hml, B.returns, B.notSynchronized, by rw [← nm_5 y hy]; exact findClass_of_methodNamed B.named, fun h => by rw [(name_of_methodNamed B.named B.method).1]; exact (nm_4 y hy).2 h, hK, g9⟩
    have K := ih p e (headSpec [cdW y] { frames := d + 12, cells := mT u1 - mT u, slots := mU u1 - mU u, locals := 60 * d + 600 }).room s m (as.map tv).toArray below meth c _ C hX (ent_LR he hva) (Nat.le_refl _) (Nat.le_refl _) s.heap [] 0 0 hR (fun q hq => by cases hq) (by rw [Nat.zero_add]; exact Nat.le_refl _) (by rw [Nat.zero_add]; exact Nat.le_refl _)
    have hh0 : s₁.heap = s.heap := by rw [B.state]; rfl
    rw [lg_entry_eq]
    obtain ⟨t, a1, oc, L, b1, b2, b3, b4, b5⟩ := K s₁ hh0 X₀
    rw [Nat.zero_add, Nat.zero_add] at b4
    exact ⟨t, oc, a1, b1, b2, b3, L, b4, b5⟩
set_option maxRecDepth 100000 in
set_option maxHeartbeats 4000000 in
theorem fm_W (hXw : ∀ (s U : State) (u : Mm), s.WarmedH U.vm → HR D dA h0 H0 u U.heap → X s → X U) (HB : ReadyS l D dA P h0 H0 X) (HT : ThrowS l dX D dA P h0 H0 X) (HC : CatchS l dX D dA P h0 H0 X) (HSp : SpecS l D dA P h0 H0 X) (HTx : TextS P h0 H0 X) :
    ∀ (f d j pc : Nat) (ls : Ls) (st : List Vl) (u : Mm) (r : Rs) (u' : Mm), fm P f d j pc ls st u = some (r, u') → j < 179 →
      ∀ (p : Program) (e : Env) (R : Room) (s : State) (m : MethodId) (args : Array Value) (below : List Frame) (meth : Method) (c : Code) (a : Array Slot), Cx D dA P p s m meth c j → X s → LR a (tMx j) ls → (∀ v ∈ st, vok v) → d + 12 ≤ R.frames → 60 * d + 600 ≤ R.locals →
      ∀ (H : Heap) (locs : List Loc) (cells slots : Nat), HR D dA h0 H0 u H → (∀ q ∈ locs, h0 ≤ q.base) → cells + (mT u' - mT u) ≤ R.cells → slots + (mU u' - mU u) ≤ R.slots →
        W p l e R s m args below meth c H locs cells slots (Fin dX D dA h0 H0 s below r u' (cells + (mT u' - mT u)) (slots + (mU u' - mU u))) (F0 m pc a (st.map tv)) := by
  intro f
  induction f with
  | zero => intro d j pc ls st u r u' h; rw [fm] at h; cases h
  | succ f ih =>
    intro d j pc ls st u r u' h hj p e R s m args below meth c a C hX hL hst hF hLo H locs cells slots hR hlc hce hsl
    have hC := C
    obtain ⟨hx, hb, hml, hret, hlocks, hown, hini, hK, hxt⟩ := hC
    rw [fm] at h
    cases hd : decode (pBc P j) pc with
    | error er => simp only [hd] at h; cases h
    | ok q =>
      obtain ⟨i, n⟩ := q
      simp only [hd] at h
      by_cases hn : iln i n = true
      case neg => rw [if_neg hn] at h; cases h
      rw [if_pos hn] at h
      cases hs : stp P j i n pc ls st u with
      | some q =>
        obtain ⟨⟨pc1, ls1, st1⟩, u1⟩ := q
        simp only [hs] at h
        have m1 := stp_mono hs
        have m2 := fm_mono P _ _ _ _ _ _ _ _ _ h
        obtain ⟨-, -, G⟩ := stp_g (l := l) (e := e) (R := R) (args := args) (below := below) (D := D) (dA := dA) (h0 := h0) (H0 := H0) hx hb hK hown hini hL hst hd hn hs
        refine G H locs cells slots _ hR hlc (by omega) (by omega) fun a' H' locs' hL' hR' hst' hlc' => ?_
        have K := ih d j pc1 ls1 st1 u1 r u' h hj p e R s m args below meth c a' C hX hL' hst' hF hLo H' locs' (cells + (mT u1 - mT u)) (slots + (mU u1 - mU u)) hR' hlc' (by omega) (by omega)
        have e1 : cells + (mT u1 - mT u) + (mT u' - mT u1) = cells + (mT u' - mT u) := by omega
        have e2 : slots + (mU u1 - mU u) + (mU u' - mU u1) = slots + (mU u' - mU u) := by omega
        rw [e1, e2] at K
        exact K
      | none =>
        simp only [hs] at h
        cases hr : rt j i st with
        | some r' =>
          simp only [hr] at h
          cases h
          rw [Nat.sub_self, Nat.sub_self, Nat.add_zero, Nat.add_zero]
          exact fin_ret C hd hn hr hR hlc hst
        | none =>
          simp only [hr] at h
          cases hc : cl P j i st with
          | none =>
            simp only [hc] at h
            cases hth : thrF P j pc i st u with
            | some r1 =>
              simp only [hth] at h
              cases h
              cases i <;> simp only [thrF] at hth <;> first | (cases hth; done) | skip
              rename_i k
              cases hx1 : pLx P (pOw P j) k with
              | none => simp only [hx1] at hth; cases hth
              | some q =>
                obtain ⟨x, mm⟩ := q
                simp only [hx1] at hth
                by_cases hh : pHs P j = [] ∧ thrOk j pc x = true ∧ pLc P (pOw P j) k = none ∧ (st.map cat).sum ≤ 8
                · rw [if_pos hh] at hth
                  cases hth
                  have e3 : n = 3 := by simpa [iln] using hn
                  subst e3
                  have d1 : mT (mHole u mm) - mT u = 1 := by show mT u + 1 - mT u = 1; omega
                  have d2 : mU (mHole u mm) - mU u = mm := by show mU u + mm - mU u = mm; omega
                  rw [d1] at hce ⊢
                  rw [d2] at hsl ⊢
                  exact HT p e R s m args below meth c j pc k x mm a ls st u H locs cells slots C hX hj (by omega) (by omega) hd hx1 hh.1 hh.2.1 hL hR hlc hh.2.2.2 hce hsl
                · rw [if_neg hh] at hth; cases hth
            | none =>
              simp only [hth] at h
              cases hsp : sps P j i st with
              | none => simp only [hsp] at h; cases h
              | some st1 =>
                simp only [hsp] at h
                obtain ⟨-, -, G⟩ := HSp p e R s m args below meth c j n pc i a ls st st1 u C hX hd hn hsp hL hst
                refine G H locs cells slots _ hR hlc (by omega) (by omega) fun a' H' locs' hL' hR' hst' hlc' => ?_
                have K := ih d j (pc + n) ls st1 u r u' h hj p e R s m args below meth c a' C hX hL' hst' hF hLo H' locs' (cells + (mT u - mT u)) (slots + (mU u - mU u)) hR' hlc' (by omega) (by omega)
                have e1 : cells + (mT u - mT u) + (mT u' - mT u) = cells + (mT u' - mT u) := by omega
                have e2 : slots + (mU u - mU u) + (mU u' - mU u) = slots + (mU u' - mU u) := by omega
                rw [e1, e2] at K
                exact K
          | some q =>
            obtain ⟨y, as, rest⟩ := q
            simp only [hc] at h
            have hstr : st = as.reverse ++ rest := (cl_some hc).choose_spec.2.2.2
            have hva : ∀ v ∈ as, vok v := fun v hv => hst v (by rw [hstr]; exact List.mem_append_left _ (List.mem_reverse.mpr hv))
            have hvr : ∀ v ∈ rest, vok v := fun v hv => hst v (by rw [hstr]; exact List.mem_append_right _ hv)
            by_cases hw : (rest.map cat).sum ≤ 8
            · rw [if_pos hw] at h
              cases hbi : bi P (pKd P y) as u with
              | some q =>
                obtain ⟨v, u1⟩ := q
                simp only [hbi] at h
                have m1 := bi_mono hbi
                have m2 := fm_mono P _ _ _ _ _ _ _ _ _ h
                obtain ⟨-, -, G⟩ := HB p e R s m args below meth c j y n pc i a ls st as rest u u1 v C hX (by omega) (by omega) hd hn hc hw hbi hL hst
                refine G H locs cells slots _ hR hlc (by omega) (by omega) fun a' H' locs' hL' hR' hst' hlc' => ?_
                have K := ih d j (pc + n) ls (v.toList ++ rest) u1 r u' h hj p e R s m args below meth c a' C hX hL' hst' hF hLo H' locs' (cells + (mT u1 - mT u)) (slots + (mU u1 - mU u)) hR' hlc' (by omega) (by omega)
                have e1 : cells + (mT u1 - mT u) + (mT u' - mT u1) = cells + (mT u' - mT u) := by omega
                have e2 : slots + (mU u1 - mU u) + (mU u' - mU u1) = slots + (mU u' - mU u) := by omega
                rw [e1, e2] at K
                exact K
              | none =>
                simp only [hbi] at h
                cases d with
                | zero => cases h
                | succ d' =>
                  by_cases he : (ent1 as).length ≤ pMx P y ∧ pKd P y = 0 ∧ rcv P u y as = true
                  · simp only [if_pos he] at h
                    cases hf : fm P f d' y 0 (ent P y as) [] u with
                    | none => simp only [hf] at h; cases h
                    | some q =>
                      obtain ⟨o, u1⟩ := q
                      simp only [hf] at h
                      have m1 := fm_mono P _ _ _ _ _ _ _ _ _ hf
                      have hy : y < 178 := by
                        obtain ⟨k, -, hlm, -, -⟩ := cl_some hc
                        rcases (lm_ok hlm).1 with h5 | h5
                        · have := tKd_lt he.2.1; omega
                        · exact h5.1
                      have hM := met_of (l := l) (dX := dX) (D := D) (dA := dA) (P := P) (h0 := h0) (H0 := H0) (X := X) (d := d') (u := u) (u1 := u1) (o := o) hy he.1 hva
                        (fun p e R s m args below meth c a C hX hL hF hLo H locs cells slots hR hl h1 h2 => ih d' y 0 (ent P y as) [] u o u1 hf (by omega) p e R s m args below meth c a C hX hL (fun v hv => by cases hv) hF hLo H locs cells slots hR hl h1 h2)
                      intro T hT XT
                      obtain ⟨vm₁, mk, methY, cY, X₁, g1, g2, g3, g5, hgo⟩ := enter_ok (a := a) XT C hd hn hc hy he.2.2 (by rw [hT]; exact hR) (by
                        obtain ⟨t1, cell, t2, t3⟩ := HTx s hX
                        exact ⟨cell, by rw [hT, hR.2.2.1 _ t1]; exact t2, t3⟩)
                      have hmx := tMx_le y (by omega)
                      have m2 : mT u1 ≤ mT u' ∧ mU u1 ≤ mU u' := by
                        cases o with
                        | inl v => exact fm_mono P _ _ _ _ _ _ _ _ _ h
                        | inr x =>
                          simp only at h
                          cases hh : hnd pc x.1 (pHs P j) with
                          | none =>
                            simp only [hh] at h
                            split at h
                            · cases h; exact ⟨Nat.le_refl _, Nat.le_refl _⟩
                            · cases h
                          | some t => simp only [hh] at h; exact fm_mono P _ _ _ _ _ _ _ _ _ h
                      obtain ⟨oc, t, L, hq, hLq, X₂, hst2⟩ := callX X₁ hM (g := F0 m pc a (rest.map tv)) rfl (by rw [hml]; exact hL.2.1) (ig := i) (len := n) (by rw [hb]; exact hd) (Wd := 8) (lv_room (by rw [tv_cats]; exact hw)) (a := (as.map tv).toArray) (X₁.named g1) (by rw [X₁.warmed.alike.method?]; exact g2) g3
                        (by show d' + 12 + 1 ≤ R.frames; omega) (by show 8 + (cY.maxLocals + 11) + (60 * d' + 600) ≤ R.locals; omega) (by show cells + (mT u1 - mT u) ≤ R.cells; omega) (by show slots + (mU u1 - mU u) ≤ R.slots; omega)
                        (fun w hw' => by rw [List.mem_singleton.mp hw']; exact (hK.warm X₁.warmed).w (code_ok y hy) (cd_kW y) _) (by rw [nm_5 y hy]; exact (hK.warm X₁.warmed).w (tm (ini_ok (tOw y) (nm_6 y hy).1)) rfl _)
                        ⟨rfl, hK.warm X₁.warmed, hXw s _ u X₁.warmed (by show HR D dA h0 H0 u T.heap; rw [hT]; exact hR) hX, by show HR D dA h0 H0 u T.heap; rw [hT]; exact hR⟩
                      obtain ⟨hoc, hR1⟩ := hq
                      have hlc2 : ∀ q ∈ locs ++ L, h0 ≤ q.base := fun q hq => by
                        rcases List.mem_append.mp hq with h9 | h9
                        · exact hlc q h9
                        · exact hLq q h9
                      have e1 : cells + (mT u1 - mT u) + (mT u' - mT u1) = cells + (mT u' - mT u) := by omega
                      have e2 : slots + (mU u1 - mU u) + (mU u' - mU u1) = slots + (mU u' - mU u) := by omega
                      cases o with
                      | inl v =>
                        obtain ⟨hoc', hvv⟩ := hoc
                        subst hoc'
                        have K := ih (d' + 1) j (pc + n) ls (v.toList ++ rest) u1 r u' h hj p e R s m args below meth c a C hX hL (fun w hw' => by
                          rcases List.mem_append.mp hw' with h9 | h9
                          · exact hvv w h9
                          · exact hvr w h9) hF hLo _ (locs ++ L) (cells + (mT u1 - mT u)) (slots + (mU u1 - mU u)) hR1 hlc2 (by omega) (by omega)
                        rw [e1, e2] at K
                        obtain ⟨t2, a1, b1⟩ := K _ (by rfl) X₂
                        refine ⟨t2, hgo _ (hst2.trans ?_), b1⟩
                        have ev : (F0 m (pc + n) a ((v.toList ++ rest).map tv)) = { (F0 m pc a (rest.map tv)) with pc := (F0 m pc a (rest.map tv)).pc + n, stack := (v.map tv).toList ++ (F0 m pc a (rest.map tv)).stack } := by
                          show F0 m (pc + n) a _ = F0 m (pc + n) a _
                          rw [List.map_append]
                          cases v <;> rfl
                        rw [ev] at a1
                        exact a1
                      | inr x =>
                        simp only at h
                        obtain ⟨hoc', hx5, hcell⟩ := hoc
                        subst hoc'
                        cases hh : hnd pc x.1 (pHs P j) with
                        | none =>
                          simp only [hh] at h
                          split at h
                          · rename_i hnil
                            cases h
                            obtain ⟨w1, w2, w3, w4, w5⟩ := X₂.leaveThrown x.2 (g := F0 m pc a (rest.map tv)) rfl rfl rfl (by
                              have : c.exceptionTable.toList = [] := by
                                have h9 := hxt
                                rw [hs_hd j hj hnil] at h9
                                simpa using h9
                              rw [this]
                              intro z hz
                              cases hz) hlocks
                            refine ⟨_, hgo _ (hst2.trans w1), .threw x.2, locs ++ L, w2, w3, ⟨⟨rfl, hx5, hcell⟩, hR1⟩, ⟨w4, w5⟩, hlc2⟩
                          · cases h
                        | some hp =>
                          simp only [hh] at h
                          obtain ⟨vm', X₃, hgo3⟩ := HC p e R s m args below meth c _ (locs ++ L) _ _ j pc hp x a (rest.map tv) u1 X₂ C hX hj hR1 hh hx5 hcell
                          have K := ih (d' + 1) j hp ls [vR x.2] u1 r u' h hj p e R s m args below meth c a C hX hL (fun w hw' => by rw [List.mem_singleton.mp hw']; trivial) hF hLo _ (locs ++ L) (cells + (mT u1 - mT u)) (slots + (mU u1 - mU u)) hR1 hlc2 (by omega) (by omega)
                          rw [e1, e2] at K
                          obtain ⟨t2, a1, b1⟩ := K _ (by rfl) X₃
                          exact ⟨t2, hgo _ (hst2.trans (hgo3 _ a1)), b1⟩
                  · simp only [if_neg he] at h; cases h
            · rw [if_neg hw] at h; cases h
end MAIN
end
section
/-! The exceptions: their words; a new one is made and thrown. Written by wip/whole/gen/mk31.py. -/
def eN : Nat → String := fun x => match x with
  | 0 => "java/lang/IllegalArgumentException"
  | 1 => "java/lang/IllegalStateException"
  | 2 => "java/lang/UnsupportedOperationException"
  | 3 => "java/lang/IndexOutOfBoundsException"
  | _ => "java/util/NoSuchElementException"
def eUp : List String := ["java/lang/RuntimeException", "java/lang/Exception"]
/-- what is asked of the tables for an exception, but the statics -/
def eAt (x : Nat) : List Cond := Bundle.throwableAtoms ++ Bundle.chain0Atoms (eN x) eUp ++
  [.instantiable (eN x) 6, .castable (eN x) (eN x), .selects (eN x) Bundle.tFill0 Bundle.tFill0, .selects (eN x) Bundle.tFill Bundle.tFill,
   .lays (eN x) Bundle.tN "cause" "Ljava/lang/Throwable;", .lays (eN x) Bundle.tN "stackTrace" Bundle.steD, .lays (eN x) Bundle.tN "suppressedExceptions" Bundle.listD, .lays (eN x) Bundle.tN "detailMessage" "Ljava/lang/String;",
   .fieldLink Bundle.tN 198 Bundle.tN "backtrace" "Ljava/lang/Object;", .lays Bundle.tN Bundle.tN "backtrace" "Ljava/lang/Object;", .lays (eN x) Bundle.tN "backtrace" "Ljava/lang/Object;", .initialized (eN x)]
def eCo : Cond → Bool
  | .code .. => true
  | .codeSync .. => true
  | _ => false
def eLs : Cond → Bool
  | .laysStatic .. => true
  | _ => false
theorem e_rest : ∀ x, x < 5 → ((eAt x).filter (fun w => !eCo w)).all (fun w => decide (w ∈ tables_1) && (kW w || eLs w)) = true := by decide +kernel
theorem ec_t_fill : Cond.codeSync Bundle.tFill LibCode.Throwable.Fill.code 1 (some (.object Bundle.tN)) ∈ lw_tbl := ts_2 (List.mem_of_getElem? (i := 130) rfl)
theorem ec_t_init : Cond.code Bundle.tInit0 LibCode.Throwable.Init0.code 1 none ∈ lw_tbl := ts_2 (List.mem_of_getElem? (i := 117) rfl)
theorem ec_o_init : Cond.code Bundle.oInit ⟨#[0xb1]⟩ 1 none ∈ lw_tbl := ts_1 (List.mem_of_getElem? (i := 33) rfl)
theorem ec_i_IllegalArgumentException : Cond.code (Bundle.init0 "java/lang/IllegalArgumentException") Bundle.five 1 none ∈ lw_tbl := ts_2 (List.mem_of_getElem? (i := 138) rfl)
theorem ec_i_IllegalStateException : Cond.code (Bundle.init0 "java/lang/IllegalStateException") Bundle.five 1 none ∈ lw_tbl := ts_2 (List.mem_of_getElem? (i := 169) rfl)
theorem ec_i_UnsupportedOperationException : Cond.code (Bundle.init0 "java/lang/UnsupportedOperationException") Bundle.five 1 none ∈ lw_tbl := ts_3 (List.mem_of_getElem? (i := 202) rfl)
theorem ec_i_IndexOutOfBoundsException : Cond.code (Bundle.init0 "java/lang/IndexOutOfBoundsException") Bundle.five 1 none ∈ lw_tbl := ts_4 (List.mem_of_getElem? (i := 33) rfl)
theorem ec_i_NoSuchElementException : Cond.code (Bundle.init0 "java/util/NoSuchElementException") Bundle.five 1 none ∈ lw_tbl := ts_4 (List.mem_of_getElem? (i := 148) rfl)
theorem ec_i_RuntimeException : Cond.code (Bundle.init0 "java/lang/RuntimeException") Bundle.five 1 none ∈ lw_tbl := ts_2 (List.mem_of_getElem? (i := 141) rfl)
theorem ec_i_Exception : Cond.code (Bundle.init0 "java/lang/Exception") Bundle.five 1 none ∈ lw_tbl := ts_2 (List.mem_of_getElem? (i := 144) rfl)
theorem e_cl0 : (eAt 0).filter eCo = [Cond.codeSync Bundle.tFill LibCode.Throwable.Fill.code 1 (some (.object Bundle.tN)), Cond.code Bundle.tInit0 LibCode.Throwable.Init0.code 1 none, Cond.code Bundle.oInit ⟨#[0xb1]⟩ 1 none, Cond.code (Bundle.init0 "java/lang/IllegalArgumentException") Bundle.five 1 none, Cond.code (Bundle.init0 "java/lang/RuntimeException") Bundle.five 1 none, Cond.code (Bundle.init0 "java/lang/Exception") Bundle.five 1 none] := rfl
theorem e_cl1 : (eAt 1).filter eCo = [Cond.codeSync Bundle.tFill LibCode.Throwable.Fill.code 1 (some (.object Bundle.tN)), Cond.code Bundle.tInit0 LibCode.Throwable.Init0.code 1 none, Cond.code Bundle.oInit ⟨#[0xb1]⟩ 1 none, Cond.code (Bundle.init0 "java/lang/IllegalStateException") Bundle.five 1 none, Cond.code (Bundle.init0 "java/lang/RuntimeException") Bundle.five 1 none, Cond.code (Bundle.init0 "java/lang/Exception") Bundle.five 1 none] := rfl
theorem e_cl2 : (eAt 2).filter eCo = [Cond.codeSync Bundle.tFill LibCode.Throwable.Fill.code 1 (some (.object Bundle.tN)), Cond.code Bundle.tInit0 LibCode.Throwable.Init0.code 1 none, Cond.code Bundle.oInit ⟨#[0xb1]⟩ 1 none, Cond.code (Bundle.init0 "java/lang/UnsupportedOperationException") Bundle.five 1 none, Cond.code (Bundle.init0 "java/lang/RuntimeException") Bundle.five 1 none, Cond.code (Bundle.init0 "java/lang/Exception") Bundle.five 1 none] := rfl
theorem e_cl3 : (eAt 3).filter eCo = [Cond.codeSync Bundle.tFill LibCode.Throwable.Fill.code 1 (some (.object Bundle.tN)), Cond.code Bundle.tInit0 LibCode.Throwable.Init0.code 1 none, Cond.code Bundle.oInit ⟨#[0xb1]⟩ 1 none, Cond.code (Bundle.init0 "java/lang/IndexOutOfBoundsException") Bundle.five 1 none, Cond.code (Bundle.init0 "java/lang/RuntimeException") Bundle.five 1 none, Cond.code (Bundle.init0 "java/lang/Exception") Bundle.five 1 none] := rfl
theorem e_cl4 : (eAt 4).filter eCo = [Cond.codeSync Bundle.tFill LibCode.Throwable.Fill.code 1 (some (.object Bundle.tN)), Cond.code Bundle.tInit0 LibCode.Throwable.Init0.code 1 none, Cond.code Bundle.oInit ⟨#[0xb1]⟩ 1 none, Cond.code (Bundle.init0 "java/util/NoSuchElementException") Bundle.five 1 none, Cond.code (Bundle.init0 "java/lang/RuntimeException") Bundle.five 1 none, Cond.code (Bundle.init0 "java/lang/Exception") Bundle.five 1 none] := rfl
theorem e_code : ∀ x, x < 5 → ∀ w ∈ eAt x, eCo w = true → w ∈ lw_tbl := by
  intro x hx w hw hc
  have h := List.mem_filter.mpr ⟨hw, hc⟩
  have hx' : x = 0 ∨ x = 1 ∨ x = 2 ∨ x = 3 ∨ x = 4 := by omega
  rcases hx' with rfl | rfl | rfl | rfl | rfl
  · rw [e_cl0] at h
    simp only [List.mem_cons, List.not_mem_nil, or_false] at h
    rcases h with rfl | rfl | rfl | rfl | rfl | rfl
    · exact ec_t_fill
    · exact ec_t_init
    · exact ec_o_init
    · exact ec_i_IllegalArgumentException
    · exact ec_i_RuntimeException
    · exact ec_i_Exception
  · rw [e_cl1] at h
    simp only [List.mem_cons, List.not_mem_nil, or_false] at h
    rcases h with rfl | rfl | rfl | rfl | rfl | rfl
    · exact ec_t_fill
    · exact ec_t_init
    · exact ec_o_init
    · exact ec_i_IllegalStateException
    · exact ec_i_RuntimeException
    · exact ec_i_Exception
  · rw [e_cl2] at h
    simp only [List.mem_cons, List.not_mem_nil, or_false] at h
    rcases h with rfl | rfl | rfl | rfl | rfl | rfl
    · exact ec_t_fill
    · exact ec_t_init
    · exact ec_o_init
    · exact ec_i_UnsupportedOperationException
    · exact ec_i_RuntimeException
    · exact ec_i_Exception
  · rw [e_cl3] at h
    simp only [List.mem_cons, List.not_mem_nil, or_false] at h
    rcases h with rfl | rfl | rfl | rfl | rfl | rfl
    · exact ec_t_fill
    · exact ec_t_init
    · exact ec_o_init
    · exact ec_i_IndexOutOfBoundsException
    · exact ec_i_RuntimeException
    · exact ec_i_Exception
  · rw [e_cl4] at h
    simp only [List.mem_cons, List.not_mem_nil, or_false] at h
    rcases h with rfl | rfl | rfl | rfl | rfl | rfl
    · exact ec_t_fill
    · exact ec_t_init
    · exact ec_o_init
    · exact ec_i_NoSuchElementException
    · exact ec_i_RuntimeException
    · exact ec_i_Exception
theorem e_in {x : Nat} (hx : x < 5) {w : Cond} (hw : w ∈ eAt x) : w ∈ lw_tbl ∧ (kW w = true ∨ eLs w = true) := by
  by_cases hc : eCo w = true
  · refine ⟨e_code x hx w hw hc, Or.inl ?_⟩
    cases w <;> first | rfl | (simp [eCo] at hc)
  · have h := List.all_eq_true.mp (e_rest x hx) w (List.mem_filter.mpr ⟨hw, by simpa using hc⟩)
    simp only [Bool.and_eq_true, Bool.or_eq_true, decide_eq_true_eq] at h
    exact ⟨List.mem_append_right _ h.1, h.2⟩
/-- what is kept of the law's start at every state -/
def Xs (s0 : State) (s : State) : Prop := s0.WarmedH s.vm ∧ (∀ q, q < s0.heap.size → s.heap[q]? = s0.heap[q]?) ∧ ∀ (a : Nat) (cell : Cell), s0.heap.size ≤ a → s.heap[a]? = some cell → cell.vm.isStatics = false
theorem Xs.step {s0 s U : State} {D : va_G} {dA : Nat → ClassId} {u : Mm} (hW : s.WarmedH U.vm) (hR : HR D dA s0.heap.size s0.heap u U.heap) (h : Xs s0 s) : Xs s0 U :=
  ⟨State.WarmedH.trans h.1 hW, hR.2.2.1, hR.2.2.2.2.2.2.2.2⟩
theorem ls_at {s0 s : State} {O f d : String} {A A' : Array Value} (hX : Xs s0 s) (h : (Cond.laysStatic O f d).before A s0 = true) : (Cond.laysStatic O f d).before A' s = true := by
  obtain ⟨c, k, i, fd, a, cell, hc, hf, hst, hsta, hcell, hiss, hcls, hlt, hty⟩ := Cond.laysStatic_spec h
  obtain ⟨k', hf1, he⟩ := State.fieldFound?_setVm hX.1.alike hf
  have hf' : s.fieldFound? O f d = some (c, k', i, fd) := hf1
  have hc' : s.vm.findClass O = some c := by rw [hX.1.alike.findClass]; exact hc
  have hcell' : s.heap[a]? = some cell := by rw [hX.2.1 a (Array.getElem?_eq_some_iff.mp hcell).1]; exact hcell
  have hsta' : k'.statics = some a := by rw [he]; exact hsta
  have hty' : k'.staticTypes[fd.slot]? = some fd.type := by rw [he]; exact hty
  simp [Cond.before, Cond.holds, Cond.value, hc', hf', hst, hsta', hcell', hiss, hcls, hlt, hty']
theorem rf_at {s0 s : State} {O f d : String} {A A' : Array Value} (hX : Xs s0 s) (h : (Cond.laysStatic O f d).before A s0 = true) (hr : (Cond.isRef (.static O f d)).before A s0 = true) : (Cond.isRef (.static O f d)).before A' s = true := by
  obtain ⟨c, k, i, fd, a, cell, hc, hf, hst, hsta, hcell, hiss, hcls, hlt, hty⟩ := Cond.laysStatic_spec h
  obtain ⟨v, hv⟩ := Cond.staticRefV hf hst hsta hcell hiss hr
  obtain ⟨k', hf1, he⟩ := State.fieldFound?_setVm hX.1.alike hf
  have hf' : s.fieldFound? O f d = some (c, k', i, fd) := hf1
  have hcell' : s.heap[a]? = some cell := by rw [hX.2.1 a (Array.getElem?_eq_some_iff.mp hcell).1]; exact hcell
  have hsta' : k'.statics = some a := by rw [he]; exact hsta
  have e1 : (Term.static O f d).eval A' s none [] s = some v.v := by
    simp [Term.eval, State.fieldNamed?, hf', hst, hsta', hcell', hiss, hv]
  obtain ⟨w, hw⟩ := v
  cases w <;> simp [Value.isRef] at hw <;> simp [Cond.before, Cond.holds, Cond.value, e1]
end
section
/-! A new exception made and thrown: the heap behind it, cell by cell. -/
section TX
variable {p : Program} {l : Launch} {e : Env} {R : Room} {s : State} {m₀ : MethodId} {args : Array Value} {below : List Frame} {meth : Method} {c : Code} {V : State} {locs : List Loc} {cells slots : Nat}
set_option maxHeartbeats 4000000 in
set_option maxRecDepth 100000 in
theorem thrX (X : Stand p l e R s m₀ args below meth c V locs cells slots) (hexec : p.tables.exec = Jvm.exec) (htr : e.platform.stackTraces = false) {own : String} {x ic : Nat} (hx5 : x < 5)
    (hown : s.vm.findClass own = some m₀.cls) (hfit : Bundle.fit (eN x) = true) (hup : ∀ n ∈ eUp, Bundle.fit n = true)
    (h : ∀ a ∈ eAt x, a.before args s = true) (hml : (Cond.methodLink own ic (Bundle.init0 (eN x))).before args s = true)
    (hrU : (Cond.isRef (.static Bundle.tN "UNASSIGNED_STACK" Bundle.steD)).before args s = true) (hrS : (Cond.isRef (.static Bundle.tN "SUPPRESSED_SENTINEL" Bundle.listD)).before args s = true)
    (hlocs : ∀ x ∈ locs, ∀ cell, s.heap[x.base]? = some cell → cell.vm.isStatics = false)
    {a : Addr} {cX : ClassId} {kX : Class} (hfoundX : s.vm.findClass (eN x) = some cX) (hkX : s.vm.classes[cX]? = some kX) (hcell : V.heap[a]? = some (freshCell cX kX)) (hnew : s.heap.size ≤ a)
    {g : JFrame} (hg : g.method = m₀) (hsize : g.locals.size = c.maxLocals) (hlocked : g.locked = none) (hentered : g.entered = []) {rest : List Value} (hstack : g.stack = .ref a :: .ref a :: rest)
    (hd6 : decode c.code g.pc = .ok (.invokespecial ic, 3)) (hd9 : decode c.code (g.pc + 3) = .ok (.athrow, 1)) (hout : ∀ x ∈ c.exceptionTable.toList, covers x (g.pc + 3) = false)
    (hRframes : 6 ≤ R.frames) (hRlocals : 2 * g.monitorRoom + ((Value.ref a :: rest).map fun v => v.category).sum + 80 ≤ R.locals) (hlocks : meth.locks = false) :
    ∃ (U : State) (ce : Cell) (L : List Loc), Steps p.tables e below (V.setTop g) U ∧ U.status = .running ∧ Ended U below (.threw a) ∧ s.WarmedH U.vm ∧ s.sameButNew ({ U with vm := s.vm } : State) (locs ++ L) cells slots ∧
      (∀ q ∈ L, q.base = a) ∧ U.heap[a]? = some ce ∧ ce.cls = cX ∧ ce.vm = .none ∧ U.heap.size = V.heap.size ∧ ∀ q, q ≠ a → U.heap[q]? = V.heap[q]? := by
  have howns : e.platform.frameOwnsMonitors = true := by rw [X.admits.platform]
  have hfin : e.platform.finalization = false := by rw [X.admits.platform]
  have hpl : e.platform.magicAccessors = ({} : Platform).magicAccessors := by rw [X.admits.platform]
  obtain ⟨T, Z, L, LZ, Y⟩ := ThrowableC.of_atoms (args := args) howns hfin hpl (fun w hw => h w (by simp [eAt, hw]))
  obtain ⟨P1, Ps, hlen, L1, hL, hP1m, hlink1, hlink⟩ := Bundle.chain0 (args := args) hpl Y.init0 eUp (eN x) hfit hup (fun w hw => h w (by simp [eAt, hw]))
  have hfound : s.vm.findClass (eN x) = some P1.m.cls := findClass_of_methodNamed hP1m
  cases Option.some.inj (hfoundX.symm.trans hfound)
  obtain ⟨c1, kX', hc1, hk, hord, -, -, hn6⟩ := Cond.instantiable_spec (h (.instantiable (eN x) 6) (by simp [eAt]))
  cases Option.some.inj (hc1.symm.trans hfound)
  cases Option.some.inj (hkX.symm.trans hk)
  have hsel0 : selectMethod e.platform s.vm P1.m.cls T.fill0 = .method T.fill0 := by
    obtain ⟨c2, r2, m2, q1, q2, q3, q4, -⟩ := Cond.selects_spec (h (.selects (eN x) Bundle.tFill0 Bundle.tFill0) (by simp [eAt]))
    cases Option.some.inj (q1.symm.trans hfound)
    cases Option.some.inj (q2.symm.trans (State.methodFound?_of_named Y.fill0 (by decide)))
    cases Option.some.inj (q3.symm.trans Y.fill0)
    rw [Launch.admits_selectMethod X.admits]; exact q4
  have hselF : selectMethod e.platform s.vm P1.m.cls T.fill = .method T.fill := by
    obtain ⟨c2, r2, m2, q1, q2, q3, q4, -⟩ := Cond.selects_spec (h (.selects (eN x) Bundle.tFill Bundle.tFill) (by simp [eAt]))
    cases Option.some.inj (q1.symm.trans hfound)
    cases Option.some.inj (q2.symm.trans (State.methodFound?_of_named Y.fill (by decide)))
    cases Option.some.inj (q3.symm.trans Y.fill)
    rw [Launch.admits_selectMethod X.admits]; exact q4
  obtain ⟨cellS0, hcS0, hiss⟩ := Y.statics
  obtain ⟨u0, hu0⟩ := Cond.staticRefV Y.unassigned L.unassignedStatic L.statics hcS0 hiss hrU
  obtain ⟨sen, hsen⟩ := Cond.staticRefV Y.sentinel L.sentinelStatic L.statics hcS0 hiss hrS
  obtain ⟨ci198, i198, fB, hk198, hg198, ha198, hsB, -, hnB, htB, hffB⟩ := Cond.ownField (t := .object "java/lang/Object") Y.found L.cls (by decide +kernel) (h (.fieldLink Bundle.tN 198 Bundle.tN "backtrace" "Ljava/lang/Object;") (by simp [eAt])) (h (.lays Bundle.tN Bundle.tN "backtrace" "Ljava/lang/Object;") (by simp [eAt])) e.platform hpl
  obtain ⟨cellS, hcS', heS, -, hkeep⟩ := X.same.2.2.2.2.2 T.aS cellS0 hcS0
  have hcellS : V.heap[T.aS]? = some cellS := hcS'
  have hout' : ∀ i, (⟨T.aS, i⟩ : Loc) ∉ locs := fun i hmem => by
    have h9 := hlocs _ hmem cellS0 hcS0
    rw [hiss] at h9; cases h9
  have hknownS : cellS.vm ≠ .unknown := by
    rw [heS]; intro hu
    rw [show cellS0.vm = .unknown from hu] at hiss
    cases hiss
  have hneS : T.aS ≠ a := Nat.ne_of_lt (Nat.lt_of_lt_of_le (Array.getElem?_eq_some_iff.mp hcS0).1 hnew)
  obtain ⟨tyC, dC, hdC, hdnC⟩ := Cond.laysAt hfound hk Y.cause (h (.lays (eN x) Bundle.tN "cause" "Ljava/lang/Throwable;") (by simp [eAt]))
  obtain ⟨tyS, dS, hdS, hdnS⟩ := Cond.laysAt hfound hk Y.stack (h (.lays (eN x) Bundle.tN "stackTrace" Bundle.steD) (by simp [eAt]))
  obtain ⟨tyP, dP, hdP, hdnP⟩ := Cond.laysAt hfound hk Y.supp (h (.lays (eN x) Bundle.tN "suppressedExceptions" Bundle.listD) (by simp [eAt]))
  obtain ⟨tyB, dB, hdB, hdnB⟩ := Cond.laysAt hfound hk hffB (h (.lays (eN x) Bundle.tN "backtrace" "Ljava/lang/Object;") (by simp [eAt]))
  have bC := Cond.laysApart hdB hdC hdnB hdnC (by rw [hnB, Y.causeName]; decide)
  have bS := Cond.laysApart hdB hdS hdnB hdnS (by rw [hnB, Y.stackName]; decide)
  have bP := Cond.laysApart hdB hdP hdnB hdnP (by rw [hnB, Y.suppName]; decide)
  have hskip : SkipFacts T e.platform s (fun u => u) u0 ((preparedCellV T.toThrowableT (freshCell P1.m.cls kX) a u0 sen).withEntry V.cur) :=
    ⟨{ ci198 := ci198, i198 := i198, fBack := fB }, ⟨hk198, hg198, ha198, hsB⟩, by
      have h9 := fresh_default (c := P1.m.cls) tyB
      rw [htB] at h9
      simpa [preparedCellV, Cell.setSlot, Cell.withEntry, Array.getElem?_setIfInBounds, bC, bS, bP, bC.symm, bS.symm, bP.symm, defaultValue] using h9, fun _ _ => rfl⟩
  obtain ⟨tm, methC, cdC, kC, vm₁, hnC, -, -, -, -, -, -, -, hW₁, st1⟩ := Steps.initCold (tb := p.tables) (e := e) (below := below) (s := s) (U := V) X.here hexec X.warmed hpl hown (t := Bundle.init0 (eN x)) rfl rfl (Bundle.fit_spec hfit).2
    hml (h (.instanceMethod (Bundle.init0 (eN x))) (by simp [eAt, eUp, Bundle.chain0Atoms, Bundle.passAtoms])) (bytes := Bundle.five) (maxL := 1) (h (.code (Bundle.init0 (eN x)) Bundle.five 1 none) (by simp [eAt, eUp, Bundle.chain0Atoms, Bundle.passAtoms]))
    (f := g) hg (a := a) (rest := .ref a :: rest) hstack hd6
  cases Option.some.inj (hnC.symm.trans hP1m)
  have X₁ := X.noted hW₁
  obtain ⟨vm₂, X₂, st2⟩ := X₁.ctorPlainOffV hexec (g := { g with stack := .ref a :: rest }) hg hsize T L Z LZ (P1 :: Ps)
    (fun P hP => by rcases List.mem_cons.mp hP with rfl | hP; exact L1; exact hL P hP) ⟨hlink1, hlink⟩ (u0 := u0) (sen := sen) (self := a) (cell := freshCell P1.m.cls kX) (cellS := cellS)
    hcell (fun _ => by simp) (by simp) rfl rfl hsel0 hselF hcellS hneS hknownS (by rw [hkeep _ (hout' _)]; exact hu0) (by rw [hkeep _ (hout' _)]; exact hsen)
    (Takes.of_laid hk hord tyC (by rw [Y.causeType]; rfl)) (Takes.of_laid hk hord tyS (by rw [Y.stackType]; exact fits_refV_array _ u0)) (Takes.of_laid hk hord tyP (by rw [Y.suppType]; exact fits_refV_object _ sen)) Y.objLocals hskip htr [] hd6
    (by simp only [List.length_cons, hlen]; simp [eUp]; omega) (by simp only [List.length_cons, hlen]; simp only [eUp, List.length_cons, List.length_nil]; exact Nat.le_trans (by omega) hRlocals)
  obtain ⟨hwalk, hrun, hended, hWU, hsame⟩ := X₂.athrowLeaves hexec (g := { g with stack := .ref a :: rest, pc := g.pc + 3 }) hg hlocked hentered hout (a := a) (rest := rest) rfl hd9 hlocks
  have hlt : a < ((V.setVm vm₁).setVm vm₂).heap.size := (Array.getElem?_eq_some_iff.mp hcell).1
  have hU := heapAt_setCell_self (s := (V.setVm vm₁).setVm vm₂) ((preparedCellV T.toThrowableT (freshCell P1.m.cls kX) a u0 sen).setSlot T.fStack.slot u0.v) hlt
  refine ⟨_, _, _, st1 _ (fun acts => ?_), hrun, hended, hWU, hsame, fun q hq => ?_, hU, rfl, rfl, ?_, fun q hq => ?_⟩
  · rw [doInvoke_state]
    exact st2 _ hwalk
  · simp only [List.mem_cons, List.not_mem_nil, or_false] at hq
    rcases hq with rfl | rfl | rfl | rfl <;> rfl
  · show (((V.setVm vm₁).setVm vm₂).setCell a _).heap.size = _
    rw [size_setCell]
    rfl
  · show (((V.setVm vm₁).setVm vm₂).setCell a _).heap[q]? = _
    show (V.heap.setIfInBounds a _)[q]? = _
    exact Array.getElem?_setIfInBounds_ne (Ne.symm hq)
end TX
end
section
/-! The machine's throw is the small machine's. Written by wip/whole/gen/mk33.py. -/
def lxP : List Nat := [333, 398, 441, 451, 671, 742, 857]
def lyP : List Nat := [376, 407, 442, 452, 680, 751, 866]
def lxC (q : (Nat × (Nat × (Nat × Nat))) × Nat) : Bool := decide (q.1.2.2.1 < 5) && (q.1.2.2.2 == 6) && decide (tables_1[q.2]? = some (.classLink (cNm q.1.1) q.1.2.1 (eN q.1.2.2.1)))
theorem lx_all : (tLxL.zip lxP).all lxC = true := by decide +kernel
theorem lx_ok {o k x n : Nat} (h : tLx o k = some (x, n)) : x < 5 ∧ n = 6 ∧ Cond.classLink (cNm o) k (eN x) ∈ lw_tbl := by
  obtain ⟨y, hy⟩ := zip_all lx_all rfl (lk2_mem h)
  simp only [lxC, Bool.and_eq_true, decide_eq_true_eq, beq_iff_eq] at hy
  exact ⟨hy.1.1, hy.1.2, tm hy.2⟩
def lyC (q : (Nat × (Nat × Nat)) × Nat) : Bool := decide (tables_1[q.2]? = some (.methodLink (cNm q.1.1) q.1.2.1 (Bundle.init0 (eN q.1.2.2))))
theorem ly_all : (tLyL.zip lyP).all lyC = true := by decide +kernel
theorem ly_ok {o k x : Nat} (h : tLy o k = some x) : Cond.methodLink (cNm o) k (Bundle.init0 (eN x)) ∈ lw_tbl := by
  obtain ⟨y, hy⟩ := zip_all ly_all rfl (lk2_mem h)
  simp only [lyC, decide_eq_true_eq] at hy
  exact tm hy
theorem e_fit : ∀ x, x < 5 → Bundle.fit (eN x) = true := by decide +kernel
theorem e_up : ∀ n ∈ eUp, Bundle.fit n = true := by decide +kernel
theorem thrOk_spec {j pc x : Nat} (h : thrOk j pc x = true) : decode (tBc j) (pc + 3) = .ok (.dup, 1) ∧ (∃ k, decode (tBc j) (pc + 4) = .ok (.invokespecial k, 3) ∧ tLy (tOw j) k = some x) ∧ decode (tBc j) (pc + 7) = .ok (.athrow, 1) := by
  unfold thrOk at h
  rw [Bool.and_eq_true, Bool.and_eq_true] at h
  obtain ⟨⟨h1, h2⟩, h3⟩ := h
  refine ⟨?_, ?_, ?_⟩
  · split at h1
    · rename_i h9
      exact h9
    · cases h1
  · split at h2
    · rename_i k hk
      exact ⟨k, hk, by simpa using h2⟩
    · cases h2
  · split at h3
    · rename_i h9
      exact h9
    · cases h3
/-- what is known of the start for the exceptions -/
def E0 (dX : Nat → ClassId) (s0 : State) : Prop := (∀ w ∈ lw_tbl, eLs w = true → w.before #[] s0 = true) ∧ (Cond.isRef (.static Bundle.tN "UNASSIGNED_STACK" Bundle.steD)).before #[] s0 = true ∧ (Cond.isRef (.static Bundle.tN "SUPPRESSED_SENTINEL" Bundle.listD)).before #[] s0 = true ∧ (∀ x, x < 5 → ClassAt s0 (eN x) (dX x)) ∧ ∀ x y, x < 5 → y < 5 → x ≠ y → s0.vm.assignable (dX x) (dX y) = false
theorem lsU : Cond.laysStatic Bundle.tN "UNASSIGNED_STACK" Bundle.steD ∈ lw_tbl := tm (i := 360) (by decide +kernel)
theorem lsS : Cond.laysStatic Bundle.tN "SUPPRESSED_SENTINEL" Bundle.listD ∈ lw_tbl := tm (i := 362) (by decide +kernel)
theorem e_at {D : va_G} {dA : Nat → ClassId} {P : Pg} {dX : Nat → ClassId} {s0 s : State} {x : Nat} (hx : x < 5) (hE : E0 dX s0) (hX : Xs s0 s) (hK : SK D dA P s) (A : Array Value) : ∀ w ∈ eAt x, w.before A s = true := by
  intro w hw
  obtain ⟨h1, h2⟩ := e_in hx hw
  rcases h2 with h2 | h2
  · exact hK.w h1 h2 A
  · have h3 := hE.1 w h1 h2
    cases w <;> simp [eLs] at h2
    exact ls_at hX h3
set_option maxHeartbeats 4000000 in
theorem throw_ok {l : Launch} {dX : Nat → ClassId} {D : va_G} {dA : Nat → ClassId} {P : Pg} {s0 : State} (htr : ∀ e : Env, l.admits e → e.platform.stackTraces = false) (hE : E0 dX s0) : ThrowS l dX D dA P s0.heap.size s0.heap (Xs s0) := by
  intro p e R s m args below meth c j pc k x n a ls st u H locs cells slots C hX hj hF hLo hd hlx hh ht hL hR hlc hw hce hsl
  have hC := C
  obtain ⟨hx, hb, hml, -, hlocks, hown, -, hK, hxt⟩ := hC
  obtain ⟨hx5, rfl, hcl⟩ := lx_ok hlx
  obtain ⟨hd3, ⟨k2, hd4, hly⟩, hd7⟩ := thrOk_spec ht
  have hCA := classAt_moved hX.1.alike (hE.2.2.2.1 x hx5)
  obtain ⟨hfc, kX, hkX, hord⟩ := hCA
  have hats := e_at hx5 hE hX hK args
  have hins : (Cond.instantiable (eN x) 6).before args s = true := hats _ (by simp [eAt])
  have hini : (Cond.initialized (eN x)).before args s = true := hats _ (by simp [eAt])
  intro T0 hT0 X0
  have hsz : s.heap.size ≤ mT u := by rw [← hR.1, ← hT0]; exact X0.same.2.1
  refine (W.newcK hx hb hown (hK.w hcl rfl args) hins hini rfl hd hce hsl hfc hR.1 fun H' kC hkC e1 e2 e3 => ?_ : W p l e R s m args below meth c H locs cells slots _ (F0 m pc a (st.map tv))) T0 hT0 X0
  refine lv_dup hx hb hd3 rfl ?_
  intro T hT XT
  have hcell : T.heap[mT u]? = some (freshCell (dX x) kC) := by rw [hT]; exact e1
  obtain ⟨U, ce, L, st1, run1, end1, wm, same, hLb, hce1, hcls, hvm, hsz1, hoff⟩ := thrX XT hx (htr e XT.admits) hx5 hown (e_fit x hx5) e_up hats (hK.w (ly_ok hly) rfl args)
    (rf_at hX (hE.1 _ lsU rfl) hE.2.1) (rf_at hX (hE.1 _ lsS rfl) hE.2.2.1) (fun q hq cell hcell => hX.2.2 q.base cell (hlc q hq) hcell) hfc hkC hcell hsz
    (g := F0 m (pc + 4) a (.ref (mT u) :: .ref (mT u) :: st.map tv)) rfl (by rw [hml]; exact hL.2.1) rfl rfl (rest := st.map tv) rfl (by rw [hb]; exact hd4) (by rw [hb]; exact hd7)
    (by
      have h9 : c.exceptionTable.toList = [] := by
        have h8 := hxt
        rw [hs_hd j hj hh] at h8
        simpa using h8
      rw [h9]
      intro z hz
      cases hz) (by omega) (by
      show 2 * 0 + _ + 80 ≤ R.locals
      rw [List.map_cons, List.sum_cons, tv_cats]
      have : (Value.ref (mT u)).category = 1 := rfl
      omega) hlocks
  have hHs : H.size = mT u := hR.1
  have hTs : T.heap.size = mT u + 1 := by rw [hT]; exact e2
  refine ⟨U, st1, .threw (mT u), locs ++ L, run1, end1, ⟨⟨rfl, hx5, ce, hce1, hcls, hvm⟩, ?_⟩, ⟨wm, same⟩, fun q hq => ?_⟩
  · refine hR.hole (by rw [hsz1, hTs, hHs]) (fun q hq => ?_) (fun cell hc => ?_)
    · have hq2 : q < mT u := by rw [← hHs]; exact hq
      rw [hoff q (Nat.ne_of_lt hq2), hT]
      exact e3 q hq2
    · rw [hHs, hce1] at hc
      cases hc
      rw [hvm]
      rfl
  · rcases List.mem_append.mp hq with h9 | h9
    · exact hlc q h9
    · rw [hLb q h9]
      exact hR.2.1
end
section
/-! An exception caught: the rows of the table one behind another, each class looked up as it comes. -/
def hdC (j : Nat) : Bool := ((hdL j).length == (tHs j).length) && ((hdL j).zip (tHs j)).all fun q => (q.1.1 == q.2.1) && (q.1.2.1 == q.2.2.1) && (q.1.2.2.1 == q.2.2.2.1) && (q.1.2.2.2 != 0) && decide (q.2.2.2.2 < 5) && decide (Cond.classLink "MovingBoxesLaw" q.1.2.2.2 (eN q.2.2.2.2) ∈ tables_1)
theorem hd_all : ∀ j, j < 179 → hdC j = true := by decide +kernel
theorem hs_law : ∀ j, j < 179 → tHs j ≠ [] → tOw j = 9 := by decide +kernel
def al (s : State) : List ExceptionTableEntry → List (Nat × (Nat × (Nat × Nat))) → Prop
  | [], [] => True
  | y :: t, r :: hs => (y.startPc = r.1 ∧ y.endPc = r.2.1 ∧ y.handlerPc = r.2.2.1 ∧ y.catchType ≠ 0 ∧ r.2.2.2 < 5 ∧ (Cond.classLink "MovingBoxesLaw" y.catchType (eN r.2.2.2)).before #[] s = true) ∧ al s t hs
  | _, _ => False
theorem al_of {D : va_G} {dA : Nat → ClassId} {P : Pg} {s : State} (hK : SK D dA P s) : ∀ (t : List ExceptionTableEntry) (hd : List (Nat × Nat × Nat × Nat)) (hs : List (Nat × (Nat × (Nat × Nat)))), t.map (fun h => (h.startPc, h.endPc, h.handlerPc, h.catchType)) = hd → hd.length = hs.length →
    (hd.zip hs).all (fun q => (q.1.1 == q.2.1) && (q.1.2.1 == q.2.2.1) && (q.1.2.2.1 == q.2.2.2.1) && (q.1.2.2.2 != 0) && decide (q.2.2.2.2 < 5) && decide (Cond.classLink "MovingBoxesLaw" q.1.2.2.2 (eN q.2.2.2.2) ∈ tables_1)) = true → al s t hs := by
  intro t
  induction t with
  | nil =>
    intro hd hs h1 h2 h3
    subst h1
    cases hs with
    | nil => trivial
    | cons r hs => simp at h2
  | cons y t ih =>
    intro hd hs h1 h2 h3
    subst h1
    cases hs with
    | nil => simp at h2
    | cons r hs =>
      rw [List.map_cons, List.zip_cons_cons, List.all_cons, Bool.and_eq_true] at h3
      refine ⟨?_, ih _ hs rfl (by simpa using h2) h3.2⟩
      have h4 := h3.1
      simp only [Bool.and_eq_true, beq_iff_eq, bne_iff_ne, decide_eq_true_eq] at h4
      obtain ⟨⟨⟨⟨⟨a1, a2⟩, a3⟩, a4⟩, a5⟩, a6⟩ := h4
      exact ⟨a1, a2, a3, a4, a5, hK.w (List.mem_append_right _ a6) rfl _⟩
section CT
theorem goC {e : Env} {s : State} {f : JFrame} {a : Addr} {cell : Cell} {dX : Nat → ClassId} {x : Nat} (hpl : e.platform.magicAccessors = ({} : Platform).magicAccessors) (hown : s.vm.findClass "MovingBoxesLaw" = some f.method.cls) (hobj : ∀ k, cell.vm ≠ .statics k) (hx5 : x < 5) (hcx : cell.cls = dX x)
    (hCA : ∀ y, y < 5 → ClassAt s (eN y) (dX y)) (hno : ∀ y, y < 5 → x ≠ y → s.vm.assignable (dX x) (dX y) = false) :
    ∀ (t : List ExceptionTableEntry) (hs : List (Nat × (Nat × (Nat × Nat)))) (hp : Nat) (V : State), al s t hs → hnd f.pc x hs = some hp → s.WarmedH V.vm → V.heap[a]? = some cell →
      ∃ vm', s.WarmedH vm' ∧ ∀ (Q : Handler → Pre) (E : CtlPost) (d : Bool) (acts : List Action), wp (findHandler.go f a t) Q E e d acts V ↔ Q (.found hp) d acts (V.setVm vm') := by
  intro t
  induction t with
  | nil =>
    intro hs hp V hal hh hW hcell
    cases hs with
    | nil => cases hh
    | cons r hs => exact hal.elim
  | cons y t ih =>
    intro hs hp V hal hh hW hcell
    cases hs with
    | nil => exact hal.elim
    | cons r hs =>
      obtain ⟨a0, b0, h1, ek⟩ := r
      obtain ⟨⟨e1, e2, e3, h0, he5, hlk⟩, hal⟩ := hal
      simp only at e1 e2 e3 he5 hlk
      unfold hnd at hh
      by_cases hcov : a0 ≤ f.pc ∧ f.pc < b0
      · have hc1 : (decide (y.startPc ≤ f.pc) && decide (f.pc < y.endPc)) = true := by rw [e1, e2]; simp [hcov]
        obtain ⟨c', hc', hcl⟩ := Cond.classLink_spec hown hlk e.platform hpl
        have hcc : c' = dX ek := Option.some.inj (hc'.symm.trans (hCA ek he5).1)
        subst hcc
        obtain ⟨dk, _, _, kt, hd, _, _, _, _, hkt, _, hopen⟩ := hcl.here
        have hcl₀ := hW.classLinks hcl
        have hW' : s.WarmedH (V.vm.noted f.method.cls y.catchType (.cls (dX ek))) := hW.noted hd hopen (State.rightAt_cls hcl)
        obtain ⟨ha, ht⟩ := (resolveClass_links e.toSetting hcl₀).op (op := VmOp.resolveClass f.method.cls y.catchType) rfl
        have hal2 : V.vm.Alike (V.vm.noted f.method.cls y.catchType (.cls (dX ek))) := (Vm.Alike.refl V.vm).noted _ _ _
        obtain ⟨-, kx, hkx, -⟩ := hCA x hx5
        obtain ⟨k1, hk1, -⟩ := hW'.alike.2.2 _ _ hkx
        obtain ⟨k2, hk2, -⟩ := hW'.alike.2.2 _ _ hkt
        rw [← hcx] at hk1
        by_cases hek : ek = x
        · subst hek
          rw [if_pos ⟨hcov.1, hcov.2, rfl⟩] at hh
          cases hh
          have hfit : (V.vm.noted f.method.cls y.catchType (.cls (dX ek))).assignable cell.cls (dX ek) = true := by
            rw [hW'.alike.assignable, hcx]
            exact va_assign (hCA ek he5)
          refine ⟨_, hW', fun Q E d acts => ?_⟩
          simp [findHandler.go, hc1, h0, ha, ht, hcell, hobj, hk1, hk2, hfit, VmOp.dirties, VmOp.acts, e3]
        · rw [if_neg (fun q => hek q.2.2)] at hh
          have hfit : (V.vm.noted f.method.cls y.catchType (.cls (dX ek))).assignable cell.cls (dX ek) = false := by
            rw [hW'.alike.assignable, hcx]
            exact hno ek he5 (fun q => hek q.symm)
          obtain ⟨vm', hW2, hq⟩ := ih hs hp (V.setVm (V.vm.noted f.method.cls y.catchType (.cls (dX ek)))) hal hh hW' hcell
          refine ⟨vm', hW2, fun Q E d acts => ?_⟩
          have h9 := hq Q E d acts
          rw [← (show (V.setVm (V.vm.noted f.method.cls y.catchType (.cls (dX ek)))).setVm vm' = V.setVm vm' from rfl)]
          rw [← h9]
          simp [findHandler.go, hc1, h0, ha, ht, hcell, hobj, hk1, hk2, hfit, VmOp.dirties, VmOp.acts]
      · rw [if_neg (fun q => hcov ⟨q.1, q.2.1⟩)] at hh
        have hc1 : covers y f.pc = false := by
          simp only [covers, e1, e2]
          rw [Bool.and_eq_false_iff]
          by_cases h5 : a0 ≤ f.pc
          · exact Or.inr (by simpa using fun q => hcov ⟨h5, q⟩)
          · exact Or.inl (by simpa using h5)
        obtain ⟨vm', hW2, hq⟩ := ih hs hp V hal hh hW hcell
        refine ⟨vm', hW2, fun Q E d acts => ?_⟩
        rw [Jvm.W.findHandler_go_skip hc1]
        exact hq Q E d acts
theorem catch_ok {l : Launch} {dX : Nat → ClassId} {D : va_G} {dA : Nat → ClassId} {P : Pg} {s0 : State} (hE : E0 dX s0) : CatchS l dX D dA P s0.heap.size s0.heap (Xs s0) := by
  intro p e R s m args below meth c T locs cells slots j pc hp x a rest u X C hX hj hR hh hx5 hcl
  obtain ⟨cell, hcell, hcls, hvm⟩ := hcl
  obtain ⟨hx, hb, hml, -, hlocks, hown, -, hK, hxt⟩ := C
  have hne : tHs j ≠ [] := by
    intro h
    rw [h] at hh
    cases hh
  have hcd := hd_all j hj
  unfold hdC at hcd
  rw [Bool.and_eq_true] at hcd
  have hal := al_of hK c.exceptionTable.toList (hdL j) (tHs j) hxt (by simpa using hcd.1) hcd.2
  have hown' : s.vm.findClass "MovingBoxesLaw" = some m.cls := by
    have h9 : cNm (tOw j) = "MovingBoxesLaw" := by rw [hs_law j hj hne]; rfl
    rw [← h9]; exact hown
  have hpl : e.platform.magicAccessors = ({} : Platform).magicAccessors := by rw [X.admits.platform]
  obtain ⟨vm', hW', hq⟩ := goC (e := e) (s := s) (f := F0 m pc a rest) (a := x.2) (cell := cell) (dX := dX) (x := x.1) hpl hown' (fun k h => by rw [hvm] at h; cases h) hx5 hcls (fun y hy => classAt_moved hX.1.alike (hE.2.2.2.1 y hy)) (fun y hy hne => by rw [hX.1.alike.assignable]; exact hE.2.2.2.2 x.1 y hx5 hy hne)
    c.exceptionTable.toList (tHs j) hp ((T.setTop (F0 m pc a rest)).pushFrame (.throwing x.2)) hal hh X.warmed hcell
  refine ⟨vm', X.noted hW', fun target hrest => ?_⟩
  have hfind : ∀ (Q : Handler → Pre) (E : CtlPost) (d : Bool) (acts : List Action), wp (findHandler (F0 m pc a rest) x.2) Q E e d acts ((T.setTop (F0 m pc a rest)).pushFrame (.throwing x.2)) ↔ Q (.found hp) d acts (((T.setTop (F0 m pc a rest)).pushFrame (.throwing x.2)).setVm vm') := by
    intro Q E d acts
    rw [Jvm.W.findHandler_eq (s := (T.setTop (F0 m pc a rest)).pushFrame (.throwing x.2)) (f := F0 m pc a rest) X.method' X.code]
    exact hq Q E d acts
  have h := X.here
  have hhere : At T (F0 m pc a rest).method c below := h
  obtain ⟨hgo, hw⟩ := hhere.throwing x.2
  refine Steps.head hgo hw ?_
  have hstep : (stepThrowing e ((T.setTop (F0 m pc a rest)).pushFrame (.throwing x.2)) x.2 (.java (F0 m pc a rest) :: T.frames.tail)).1 = (((T.setTop (F0 m pc a rest)).pushFrame (.throwing x.2)).setVm vm').setFrames (.java { (F0 m pc a rest) with pc := hp, stack := [.ref x.2] } :: T.frames.tail) := by
    simp only [stepThrowing, searchFrame, vmDo]
    generalize hr : Sem.go _ e false [] ((T.setTop (F0 m pc a rest)).pushFrame (.throwing x.2)) = res
    obtain ⟨as, rfl, ha⟩ := Sem.eq_ok_of hr (a := Handler.found hp) (s' := ((T.setTop (F0 m pc a rest)).pushFrame (.throwing x.2)).setVm vm') (acts' := []) (by simp [hfind _ _ _ _])
    rfl
  rw [stepThread_throwing (frames_entered h.top _), hstep]
  obtain ⟨g₀, hg⟩ := Option.isSome_iff_exists.mp h.top
  obtain ⟨r, hr⟩ := State.topJava?_eq_some.mp hg
  have hr' : (T.setVm vm').frames = .java g₀ :: r := hr
  rw [State.setTop_of_frames _ hr'] at hrest
  have e1 : ((T.setTop (F0 m pc a rest)).pushFrame (.throwing x.2)).setVm vm' = (T.setVm vm').setFrames (.throwing x.2 :: (T.setTop (F0 m pc a rest)).frames) := by
    rw [State.setTop_of_frames _ hr]
    rw [State.pushFrame, State.setFrames_setFrames]
    rfl
  rw [e1, State.setFrames_setFrames, hr, List.tail_cons]
  exact hrest
end CT
end
section
/-! What stands ready: Object's constructor, arraycopy. -/
theorem lm_nn : (tLmL.zip lmP).all (fun q => lmC q && (decide (q.1.2.2.1 < 500) || !q.2.2)) = true := by decide +kernel
theorem lm_bi {o k j n : Nat} (h : tLm o k = some (j, n)) (hj : 500 ≤ j) : Cond.methodLink (cNm o) k (yN j) ∈ lw_tbl := by
  obtain ⟨y, hy⟩ := zip_all lm_nn rfl (lk2_mem h)
  simp only [lmC, Bool.and_eq_true, Bool.or_eq_true, decide_eq_true_eq, Bool.not_eq_true'] at hy
  obtain ⟨⟨-, h4⟩, h5⟩ := hy
  have h6 : y.2 = false := by
    rcases h5 with h5 | h5
    · omega
    · exact h5
  rw [if_neg (by rw [h6]; decide)] at h4
  exact tm (of_decide_eq_true h4)
theorem w_nat : Cond.native arraycopyName ∈ lw_tbl := tm (i := 664) (by decide +kernel)
theorem w_sta : Cond.static arraycopyName ∈ lw_tbl := tm (i := 663) (by decide +kernel)
theorem w_sys : Cond.initialized "java/lang/System" ∈ lw_tbl := tm (i := 21) (by decide +kernel)
theorem w_obj : Cond.instanceMethod Lib.objectInit ∈ lw_tbl := tm (i := 32) (by decide +kernel)
section RD
variable {p : Program} {l : Launch} {e : Env} {R : Room} {s : State} {m : MethodId} {args : Array Value} {below : List Frame} {meth : Method} {c : Code} {H : Heap} {locs : List Loc} {cells slots : Nat} {Q : State → Prop}
theorem w_copy {cc : ByteArray} {pc : Nat} {ls : Array Slot} {rest : List Value} (hexec : p.tables.exec = Jvm.exec) (hb : c.code = cc) (hml : c.maxLocals = ls.size) {own : String} {index : Nat} (hown : s.vm.findClass own = some m.cls) (hlink : (Cond.methodLink own index arraycopyName).before args s = true) (hnat : (Cond.native arraycopyName).before args s = true) (hstat : (Cond.static arraycopyName).before args s = true) (hini : (Cond.initialized "java/lang/System").before args s = true)
    {a0 a : Nat} {cA : ClassId} {n0 n1 : Nat} {f g : Nat → Int32} {ty : FieldType} (hc0 : H[a0]? = some (arrV cA n0 (fun j => .int (f j)))) (hc1 : H[a]? = some (arrV cA n1 (fun j => .int (g j)))) (hAr : ArrOfT s cA ty) (hprim : refKind ty = false)
    {sp dp n : Int32} (h1 : ¬ sp < 0) (h2 : ¬ dp < 0) (h3 : ¬ n < 0) (h4 : sp.toNatClampNeg + n.toNatClampNeg ≤ n0) (h5 : dp.toNatClampNeg + n.toNatClampNeg ≤ n1) (hfit : ∀ i, i < n.toNatClampNeg → fits ty (.int (f (sp.toNatClampNeg + i))) = true)
    (hframes : 1 ≤ R.frames) (hlocals : (rest.map fun v => v.category).sum + (nativeFrameWords "java/lang/System" "arraycopy" 5 + 11) ≤ R.locals) (hdg : decode cc pc = .ok (.invokestatic index, 3))
    (kk : ∀ (H1 : Heap) (L : List Loc), H1[a]? = some (arrV cA n1 (fun j => .int (va_cpy f g sp.toNatClampNeg dp.toNatClampNeg n.toNatClampNeg j))) → H1.size = H.size → (∀ q, q ≠ a → H1[q]? = H[q]?) → (∀ q ∈ L, q.base = a) → W p l e R s m args below meth c H1 (locs ++ L) cells slots Q (F0 m (pc + 3) ls rest)) : W p l e R s m args below meth c H locs cells slots Q (F0 m pc ls (.int n :: .int dp :: .ref a :: .int sp :: .ref a0 :: rest)) := by
  have nn : ∀ z : Int32, ¬ z < 0 → z.toInt = (z.toNatClampNeg : Int) := by
    intro z hz
    have hz0 : (0 : Int) ≤ z.toInt := by
      have := Int32.not_lt.mp hz
      simpa using Int32.le_iff_toInt_le.mp this
    show z.toInt = ((z.toInt.toNat : Nat) : Int)
    omega
  intro T hT X
  obtain ⟨-, k0, hk0, cm0, hkk0⟩ := hAr n0 (fun j => .int (f j))
  obtain ⟨-, k1, hk1, cm1, hkk1⟩ := hAr n1 (fun j => .int (g j))
  obtain ⟨vm', X', step⟩ := X.arraycopy hexec hown hlink hnat hstat hini (src := a0) (dst := a) (cs := arrV cA n0 (fun j => .int (f j))) (cd := arrV cA n1 (fun j => .int (g j))) (srcPos := sp) (destPos := dp) (n := n) (by rw [hT]; exact hc0) (by rw [hT]; exact hc1)
    (fun _ h => by cases h) (fun _ h => by cases h) (fun h => by cases h) (fun h => by cases h) hk0 hk1 hkk0 hkk1 (by simp [hprim]) h1 h2 h3
    (by rw [nn sp h1, nn n h3, arrV_size]; omega)
    (by rw [nn dp h2, nn n h3, arrV_size]; omega)
    (fun vm₁ _ i hi => by
      have e1 : (arrV cA n0 (fun j => .int (f j))).slots.getD (sp.toNatClampNeg + i) .null = .int (f (sp.toNatClampNeg + i)) := by
        rw [Array.getD_eq_getD_getElem?, arrV_read _ _ (by omega)]
        rfl
      refine ⟨?_, ?_⟩
      · rw [e1]
        exact hfit i hi
      · rw [e1]
        exact trivial)
    (g := F0 m pc ls (.int n :: .int dp :: .ref a :: .int sp :: .ref a0 :: rest)) rfl (by rw [hml]) (rest := rest) rfl (by rw [hb]; exact hdg) hframes (by show 2 * 0 + _ + _ ≤ _; omega)
  have e1 : copied (arrV cA n0 (fun j => .int (f j))) (arrV cA n1 (fun j => .int (g j))) sp dp n = arrV cA n1 (fun j => .int (va_cpy f g sp.toNatClampNeg dp.toNatClampNeg n.toNatClampNeg j)) := va_copied (fun z => .int z) cA cA f g h4
  rw [e1] at X' step
  have hl : a < H.size := (Array.getElem?_eq_some_iff.mp hc1).1
  have hheap : ((T.setVm vm').setCell a (arrV cA n1 (fun j => .int (va_cpy f g sp.toNatClampNeg dp.toNatClampNeg n.toNatClampNeg j)))).heap = H.setIfInBounds a (arrV cA n1 (fun j => .int (va_cpy f g sp.toNatClampNeg dp.toNatClampNeg n.toNatClampNeg j))) := by rw [← hT]; rfl
  obtain ⟨t, a1, b1⟩ := kk _ _ (show (H.setIfInBounds a _)[a]? = some _ by simp [Array.getElem?_setIfInBounds, hl]) (by simp) (fun q hq => by simp [Array.getElem?_setIfInBounds, Ne.symm hq]) (fun q hq => by
      obtain ⟨z, -, hz⟩ := List.mem_map.mp hq
      rw [← hz]) _ hheap X'
  exact ⟨t, step t a1, b1⟩
end RD
theorem kd_cases {y : Nat} {P : Pg} {as : List Vl} {u u' : Mm} {v : Option Vl} (h : bi P (tKd y) as u = some (v, u')) : (y = 500 ∧ ∃ b, as = [vR b] ∧ v = none ∧ u' = u) ∨ (y = 501 ∧ bi P 4 as u = some (v, u')) := by
  unfold tKd at h
  split at h
  · simp [bi] at h
  · split at h
    · rename_i h5
      refine Or.inl ⟨h5, ?_⟩
      simp only [bi] at h
      split at h
      · cases h; exact ⟨_, rfl, rfl, rfl⟩
      · cases h
    · split at h
      · rename_i h5
        exact Or.inr ⟨h5, h⟩
      · simp [bi] at h
set_option maxRecDepth 100000 in
set_option maxHeartbeats 4000000 in
theorem ready_ok {l : Launch} {D : va_G} {dA : Nat → ClassId} {P : Pg} {h0 : Nat} {H0 : Heap} {X : State → Prop} : ReadyS l D dA P h0 H0 X := by
  intro p e R s m args below meth c j y n pc i a ls st as rest u u' v C hX hF hLo hd hn hcl hw hbi hL hst
  have hC := C
  obtain ⟨hx, hb, hml, hret, hlocks, hown, hini, hK, hxt⟩ := hC
  obtain ⟨k, hik, hlm, hck, rfl⟩ := cl_some hcl
  have e3 : n = 3 := by cases i <;> first | (simp [iK] at hik; done) | (simpa [iln] using hn)
  subst e3
  rcases kd_cases hbi with ⟨rfl, b, rfl, rfl, rfl⟩ | ⟨rfl, hb4⟩
  · have hi : i = .invokespecial k := by
      cases i <;> simp [iK] at hik <;> subst hik <;> first | rfl | exact absurd (show false = true from hck) (by decide)
    subst hi
    refine ⟨Nat.le_refl _, Nat.le_refl _, fun H locs cells slots Q hR hlc _ _ kk => ?_⟩
    have K := w_00 (x := mT u') (y := mU u') (kk a H locs hL hR (fun w hw' => hst w (List.mem_append_right _ hw')) hlc)
    refine W.objInit hx hb hown (hK.w (lm_bi hlm (Nat.le_refl _)) rfl args) (hK.w w_obj rfl args) (hK.w ec_o_init rfl args) (g := F0 m pc a (([vR b].reverse ++ rest).map tv)) rfl (by rw [hml]; exact hL.2.1) (a := b) (rest := rest.map tv) rfl hd (by omega) ?_ K
    show 2 * 0 + ((rest.map tv).map fun v => v.category).sum + 12 ≤ R.locals
    rw [tv_cats]
    omega
  · have hi : i = .invokestatic k := by
      cases i <;> simp [iK] at hik <;> subst hik <;> first | rfl | exact absurd (show false = true from hck) (by decide)
    subst hi
    simp only [bi] at hb4
    split at hb4
    · rename_i a0 sp b dp cn
      cases hm0 : mS u a0 with
      | none => simp only [hm0] at hb4; cases hb4
      | some q0 =>
        obtain ⟨k0, la⟩ := q0
        cases hm1 : mS u b with
        | none => simp only [hm0, hm1] at hb4; cases hb4
        | some q1 =>
          obtain ⟨k1, lb⟩ := q1
          simp only [hm0, hm1] at hb4
          split at hb4
          · rename_i hcc
            cases hb4
            obtain ⟨rfl, hk2, hne, hsp, hdp, hcn, hle0, hle1⟩ := hcc
            have hr : ∀ z : Int, vI z ∈ [vR a0, vI sp, vR b, vI dp, vI cn] → inR z := fun z hz => hst (vI z) (List.mem_append_left _ (List.mem_reverse.mpr hz))
            have hrs : inR sp := hr sp (by simp)
            have hrd : inR dp := hr dp (by simp)
            have hrn : inR cn := hr cn (by simp)
            refine ⟨Nat.le_refl _, Nat.le_refl _, fun H locs cells slots Q hR hlc _ _ kk => ?_⟩
            obtain ⟨⟨ho, -⟩, hc0⟩ := hR.2.2.2.2.1 a0 _ _ hm0 (by omega)
            obtain ⟨-, hc1⟩ := hR.2.2.2.2.1 b _ _ hm1 (by omega)
            have hsv : ∀ q, svA u k0 q = fun j => Value.int (Int32.ofInt (mI u q j)) := fun q => by
              funext z
              unfold svA
              rw [if_pos (by omega)]
            rw [hsv] at hc0 hc1
            have c1 : (Int32.ofInt sp).toNatClampNeg = sp.toNat := ofI_clamp hrs hsp
            have c2 : (Int32.ofInt dp).toNatClampNeg = dp.toNat := ofI_clamp hrd hdp
            have c3 : (Int32.ofInt cn).toNatClampNeg = cn.toNat := ofI_clamp hrn hcn
            have hb0 := (hR.2.2.2.1 b _ hm1).1
            refine w_copy (rest := rest.map tv) hx hb (by rw [hml]; exact hL.2.1.symm) hown (hK.w (lm_bi hlm (by decide)) rfl args) (hK.w w_nat rfl args) (hK.w w_sta rfl args) (hK.w w_sys rfl args) hc0 hc1 (hK.2.2.1 _ ho).1 (by
                rcases (show k0 = 0 ∨ k0 = 1 by omega) with rfl | rfl <;> rfl)
              (by rw [← ofI_0, ofI_lt hrs inR_0]; omega) (by rw [← ofI_0, ofI_lt hrd inR_0]; omega) (by rw [← ofI_0, ofI_lt hrn inR_0]; omega) (by rw [c1, c3]; omega) (by rw [c2, c3]; omega) (fun q hq => ?_) (by omega) ?_ hd fun H1 L e1 e2 e3 e4 => ?_
            · rcases (show k0 = 0 ∨ k0 = 1 by omega) with rfl | rfl
              · rfl
              · obtain ⟨w1, w2⟩ := hR.2.2.2.2.2.2.2.1 a0 la hm0 ((Int32.ofInt sp).toNatClampNeg + q)
                have h9 := (pk_charN (q := (mI u a0 ((Int32.ofInt sp).toNatClampNeg + q)).toNat) (by omega)).2
                have h8 : nI (mI u a0 ((Int32.ofInt sp).toNatClampNeg + q)).toNat = Int32.ofInt (mI u a0 ((Int32.ofInt sp).toNatClampNeg + q)) := by
                  show Int32.ofNat _ = _
                  rw [← ofI_nat, Int.toNat_of_nonneg w1]
                rw [h8] at h9
                exact h9
            · rw [tv_cats]
              have h7 : nativeFrameWords "java/lang/System" "arraycopy" 5 ≤ 500 := by decide +kernel
              omega
            · rw [c1, c2, c3] at e1
              have hR' : HR D dA h0 H0 (sI u (fun c => if c = b then cpy (mI u a0) (mI u b) sp.toNat dp.toNat cn.toNat else mI u c)) H1 := by
                have hrow : mI (sI u (fun c => if c = b then cpy (mI u a0) (mI u b) sp.toNat dp.toNat cn.toNat else mI u c)) b = cpy (mI u a0) (mI u b) sp.toNat dp.toNat cn.toNat := if_pos rfl
                have hA' : ∀ k n, mS u b = some (k, n) → k < 100 → H1[b]? = some (arrV (dA k) n (svA (sI u (fun c => if c = b then cpy (mI u a0) (mI u b) sp.toNat dp.toNat cn.toNat else mI u c)) k b)) := by
                  intro k' n' hk' _
                  rw [hm1] at hk'
                  cases hk'
                  rw [e1]
                  refine congrArg some (congrArg (arrV (dA k0) lb) ?_)
                  funext z
                  unfold svA
                  rw [if_pos (by omega), hrow]
                  unfold va_cpy cpy
                  split <;> rfl
                have hO' : ∀ c n, mS u b = some (100 + c, n) → t_OB b (D.1 c) n (D.2 c) H1 (fun k => svF (sI u (fun c => if c = b then cpy (mI u a0) (mI u b) sp.toNat dp.toNat cn.toNat else mI u c)) (tyF c k) b k) := by
                  intro c' n' hk'
                  rw [hm1] at hk'
                  have := congrArg (fun q => q.map Prod.fst) hk'
                  simp at this
                  omega
                refine hR.upd (u' := sI u (fun c => if c = b then cpy (mI u a0) (mI u b) sp.toNat dp.toNat cn.toNat else mI u c)) (a := b) rfl rfl (fun q hq => ⟨if_neg hq, rfl, rfl⟩) hb0 e2 e3 (fun z => ?_) (fun n' hn' z => ?_) (ns_of hm1 hA' hO') hA' hO'
                · rw [hrow]
                  unfold cpy
                  split
                  · exact hR.2.2.2.2.2.2.1 a0 _
                  · exact hR.2.2.2.2.2.2.1 b _
                · rw [hm1] at hn'
                  cases hn'
                  rw [hrow]
                  unfold cpy
                  split
                  · exact hR.2.2.2.2.2.2.2.1 a0 _ hm0 _
                  · exact hR.2.2.2.2.2.2.2.1 b _ hm1 _
              exact w_00 (x := mT u) (y := mU u) (kk a H1 _ hL hR' (fun w hw' => hst w (List.mem_append_right _ hw')) (fun q hq => by
                rcases List.mem_append.mp hq with h9 | h9
                · exact hlc q h9
                · rw [e4 q h9]; exact hb0))
          · cases hb4
    · cases hb4
end
section
/-! The methods of texts, over the signs alone. -/
theorem wt_9 : Cond.fieldLink "java/lang/String" 9 "java/lang/String" "value" "[B" ∈ lw_tbl := tm (i := 1382) (by decide +kernel)
theorem wt_15 : Cond.fieldLink "java/lang/String" 15 "java/lang/String" "coder" "B" ∈ lw_tbl := tm (i := 1381) (by decide +kernel)
theorem wt_38 : Cond.fieldLink "java/lang/String" 38 "java/lang/String" "COMPACT_STRINGS" "Z" ∈ lw_tbl := tm (i := 492) (by decide +kernel)
theorem wt_1053 : Cond.fieldLink "java/lang/String" 1053 "jdk/internal/util/Preconditions" "SIOOBE_FORMATTER" "Ljava/util/function/BiFunction;" ∈ lw_tbl := tm (i := 535) (by decide +kernel)
/-- what is known of the signs at the start -/
def T0 (P : Pg) (s0 : State) : Prop :=
  va_O "java/lang/String" (pSg P) (fun q => s0.heap.size ≤ q) s0 s0.heap ∧ va_OF "java/lang/String" "coder" "B" (.int 0) (pSg P) (fun q => s0.heap.size ≤ q) s0 s0.heap ∧ va_OF "java/lang/String" "value" "[B" (.ref (pSv P)) (pSg P) (fun q => s0.heap.size ≤ q) s0 s0.heap ∧
  va_T .byte (pSv P) 4 (fun j => .int (Int32.ofInt (sgnC j))) (fun q => s0.heap.size ≤ q) s0 s0.heap ∧ va_Z "java/lang/String" "COMPACT_STRINGS" "Z" (.int 1) (fun q => s0.heap.size ≤ q) s0 s0.heap ∧
  va_Z "jdk/internal/util/Preconditions" "SIOOBE_FORMATTER" "Ljava/util/function/BiFunction;" (va_rf (pFm P)) (fun q => s0.heap.size ≤ q) s0 s0.heap ∧
  (pLn P < 65536 ∧ pB P < s0.heap.size ∧ ∃ xs : Nat → Int32, (∀ i, pX P i = (xs i).toInt) ∧ va_X (pB P) (pLn P) xs s0 s0.heap)
theorem text_ok {P : Pg} {s0 : State} (h : T0 P s0) : TextS P s0.heap.size s0.heap (Xs s0) := by
  intro s hX
  obtain ⟨cell, h1, h2, h3, h4⟩ := va_O.moved hX.1.alike h.1
  exact ⟨Nat.lt_of_not_le h4, cell, h1, VmData.ne_statics_of h2, h3⟩
theorem sgnC_in (k : Int) : inR (sgnC k) := by
  unfold sgnC
  repeat' split
  all_goals exact ⟨by decide, by decide⟩
theorem spec_ok {l : Launch} {D : va_G} {dA : Nat → ClassId} {P : Pg} {s0 : State} (hT : T0 P s0) : SpecS l D dA P s0.heap.size s0.heap (Xs s0) := by
  intro p e R s m args below meth c j n pc i a ls st st' u C hX hd hn hsp hL hst
  obtain ⟨hx, hb, hml, hret, hlocks, hown, hini, hK, hxt⟩ := C
  unfold sps at hsp
  by_cases h12 : tOw j < 12 ∧ j ≠ 178
  · rw [if_pos h12] at hsp; cases hsp
  rw [if_neg h12] at hsp
  have ho12 : tOw j = 12 → s.vm.findClass "java/lang/String" = some m.cls := fun h => by
    have h9 : cNm (tOw j) = "java/lang/String" := by rw [h]; rfl
    rw [← h9]; exact hown
  cases i
  case i2b =>
    have e1 : n = 1 := by simpa [iln] using hn
    subst e1
    simp only at hsp
    obtain ⟨x, r, rfl, rfl⟩ := kI1_some hsp
    refine Sx.g ⟨rfl, List.forall_mem_cons.mpr ⟨i32_inR _, fun v hv => hst v (List.mem_cons_of_mem _ hv)⟩, fun H locs cells slots Q k => lv_i2b hx hb hd rfl ?_⟩
    have := k a hL
    simpa only [List.map_cons, tv, ofI_t] using this
  case getstatic k =>
    have e1 : n = 3 := by simpa [iln] using hn
    subst e1
    simp only at hsp
    split at hsp
    · rename_i hc
      cases hsp
      obtain ⟨hc1, rfl⟩ := hc
      refine ⟨Nat.le_refl _, Nat.le_refl _, fun H locs cells slots Q hR hlc _ _ kk => ?_⟩
      have K := w_00 (x := mT u) (y := mU u) (kk a H locs hL hR (List.forall_mem_cons.mpr ⟨(show inR 1 from ⟨by decide, by decide⟩), hst⟩) hlc)
      obtain ⟨cf, kf, fi, f, b, cell, h1, h2, h3, h4, h5, h6, h7, h8⟩ := va_Z.moved hX.1.alike hT.2.2.2.2.1
      exact W.gets hx hb (ho12 hc1) (hK.w wt_38 rfl args) h1 h2 h3 h4 (by rw [hR.2.2.1 b (Nat.lt_of_not_le h8)]; exact h5) (fun e => by rw [e] at h6; cases h6) h7 rfl hd K
    · split at hsp
      · rename_i hc
        cases hsp
        obtain ⟨hc1, rfl⟩ := hc
        refine ⟨Nat.le_refl _, Nat.le_refl _, fun H locs cells slots Q hR hlc _ _ kk => ?_⟩
        have K := w_00 (x := mT u) (y := mU u) (kk a H locs hL hR (List.forall_mem_cons.mpr ⟨trivial, hst⟩) hlc)
        obtain ⟨cf, kf, fi, f, b, cell, h1, h2, h3, h4, h5, h6, h7, h8⟩ := va_Z.moved hX.1.alike hT.2.2.2.2.2.1
        exact W.gets hx hb (ho12 hc1) (hK.w wt_1053 rfl args) h1 h2 h3 h4 (by rw [hR.2.2.1 b (Nat.lt_of_not_le h8)]; exact h5) (fun e => by rw [e] at h6; cases h6) h7 rfl hd K
      · cases hsp
  case getfield k =>
    have e1 : n = 3 := by simpa [iln] using hn
    subst e1
    simp only at hsp
    split at hsp
    · rename_i b r
      split at hsp
      · rename_i hc
        obtain ⟨rfl, hc1⟩ := hc
        split at hsp
        · rename_i hk
          subst hk
          cases hsp
          refine ⟨Nat.le_refl _, Nat.le_refl _, fun H locs cells slots Q hR hlc _ _ kk => ?_⟩
          have K := w_00 (x := mT u) (y := mU u) (kk a H locs hL hR (List.forall_mem_cons.mpr ⟨trivial, fun v hv => hst v (List.mem_cons_of_mem _ hv)⟩) hlc)
          obtain ⟨cf, kf, fi, f, cell, h1, h2, h3, h4, h5, h6⟩ := va_OF.moved hX.1.alike hT.2.2.1
          exact W.getf hx hb (ho12 hc1) (hK.w wt_9 rfl args) h1 h2 (by rw [hR.2.2.1 _ (Nat.lt_of_not_le h6)]; exact h3) h4 h5 rfl rfl hd K
        · split at hsp
          · rename_i hk
            subst hk
            cases hsp
            refine ⟨Nat.le_refl _, Nat.le_refl _, fun H locs cells slots Q hR hlc _ _ kk => ?_⟩
            have K := w_00 (x := mT u) (y := mU u) (kk a H locs hL hR (List.forall_mem_cons.mpr ⟨inR_0, fun v hv => hst v (List.mem_cons_of_mem _ hv)⟩) hlc)
            obtain ⟨cf, kf, fi, f, cell, h1, h2, h3, h4, h5, h6⟩ := va_OF.moved hX.1.alike hT.2.1
            exact W.getf hx hb (ho12 hc1) (hK.w wt_15 rfl args) h1 h2 (by rw [hR.2.2.1 _ (Nat.lt_of_not_le h6)]; exact h3) h4 h5 rfl rfl hd K
          · cases hsp
      · cases hsp
    · cases hsp
  case arraylength =>
    have e1 : n = 1 := by simpa [iln] using hn
    subst e1
    simp only at hsp
    split at hsp
    · rename_i b r
      split at hsp
      · rename_i hc
        subst hc
        cases hsp
        refine ⟨Nat.le_refl _, Nat.le_refl _, fun H locs cells slots Q hR hlc _ _ kk => ?_⟩
        have K := w_00 (x := mT u) (y := mU u) (kk a H locs hL hR (List.forall_mem_cons.mpr ⟨(show inR 4 from ⟨by decide, by decide⟩), fun v hv => hst v (List.mem_cons_of_mem _ hv)⟩) hlc)
        obtain ⟨cell, h1, h2, h3, h4, h5, h6, h7⟩ := va_T.moved hX.1.alike hT.2.2.2.1
        exact W.alen (n := Int32.ofNat 4) hx hb (by rw [hR.2.2.1 _ (Nat.lt_of_not_le h7)]; exact h1) h2 h5 rfl rfl hd K
      · split at hsp
        · rename_i hc
          subst hc
          cases hsp
          obtain ⟨hl6, hbl, xs, hxs, hXX⟩ := hT.2.2.2.2.2.2
          refine ⟨Nat.le_refl _, Nat.le_refl _, fun H locs cells slots Q hR hlc _ _ kk => ?_⟩
          have K := w_00 (x := mT u) (y := mU u) (kk a H locs hL hR (List.forall_mem_cons.mpr ⟨(show inR (pLn P : Int) from ⟨by omega, by omega⟩), fun v hv => hst v (List.mem_cons_of_mem _ hv)⟩) hlc)
          obtain ⟨scr, h1, h2, h3, h4, h5⟩ := va_X.moved hX.1.alike hXX
          exact W.alen (n := Int32.ofNat (pLn P)) hx hb (by rw [hR.2.2.1 _ hbl]; exact h1) h2 (by rw [h4] <;> rfl) rfl rfl hd K
        · cases hsp
    · cases hsp
  case iaload =>
    have e1 : n = 1 := by simpa [iln] using hn
    subst e1
    simp only at hsp
    split at hsp
    · rename_i x b r
      split at hsp
      · rename_i hc
        obtain ⟨rfl, hx0, hxl⟩ := hc
        cases hsp
        obtain ⟨hl6, hbl, xs, hxs, hXX⟩ := hT.2.2.2.2.2.2
        have hxr : inR x := hst _ List.mem_cons_self
        refine ⟨Nat.le_refl _, Nat.le_refl _, fun H locs cells slots Q hR hlc _ _ kk => ?_⟩
        have K := w_00 (x := mT u) (y := mU u) (kk a H locs hL hR (List.forall_mem_cons.mpr ⟨(show inR (pX P x.toNat) by rw [hxs]; exact i32_inR _), fun v hv => hst v (List.mem_cons_of_mem _ (List.mem_cons_of_mem _ hv))⟩) hlc)
        obtain ⟨scr, h1, h2, h3, h4, h5⟩ := va_X.moved hX.1.alike hXX
        refine W.iald (v := tv (vI (pX P x.toNat))) hx hb (by rw [hR.2.2.1 _ hbl]; exact h1) h2 h3 (by rw [h4]; exact ofI_in hxr hx0 hxl) ?_ rfl rfl hd K
        rw [ofI_clamp hxr hx0, h5 _ (by omega), hxs]
        show _ = some (Value.int (Int32.ofInt (xs x.toNat).toInt))
        rw [ofI_t]
      · cases hsp
    · cases hsp
  case baload =>
    have e1 : n = 1 := by simpa [iln] using hn
    subst e1
    simp only at hsp
    split at hsp
    · rename_i x b r
      split at hsp
      · rename_i hc
        obtain ⟨rfl, hx0, hx4⟩ := hc
        cases hsp
        have hxr : inR x := hst _ List.mem_cons_self
        refine ⟨Nat.le_refl _, Nat.le_refl _, fun H locs cells slots Q hR hlc _ _ kk => ?_⟩
        have K := w_00 (x := mT u) (y := mU u) (kk a H locs hL hR (List.forall_mem_cons.mpr ⟨(sgnC_in x : inR _), fun v hv => hst v (List.mem_cons_of_mem _ (List.mem_cons_of_mem _ hv))⟩) hlc)
        obtain ⟨cell, h1, h2, h3, h4, h5, h6, h7⟩ := va_T.moved hX.1.alike hT.2.2.2.1
        refine W.bald (v := tv (vI (sgnC x))) hx hb (by rw [hR.2.2.1 _ (Nat.lt_of_not_le h7)]; exact h1) h2 h3 ?_ ?_ rfl rfl hd K
        · have h9 := ofI_in (n := 4) hxr hx0 (by omega)
          intro q
          rcases q with q | q
          · exact h9 (Or.inl q)
          · exact h9 (Or.inr (Nat.le_trans h4 q))
        · rw [ofI_clamp hxr hx0, h6 _ (by omega)]
          show some (Value.int (Int32.ofInt (sgnC (x.toNat : Int)))) = _
          rw [Int.toNat_of_nonneg hx0]
          rfl
      · cases hsp
    · cases hsp
  all_goals (simp at hsp)
end
section
/-! The law's start: all that was taken as known is there. -/
theorem kW_any {s : State} {w : Cond} (hk : kW w = true) {A : Array Value} (h : w.before A s = true) (A' : Array Value) : w.before A' s = true := by
  cases w
  case fieldLinkNest => exact va_tabs rfl rfl h
  case methodLinkNest => exact va_tabs rfl rfl h
  case castable => exact va_tabs rfl rfl h
  case declares => exact va_tabs rfl rfl h
  all_goals exact word_at (State.WarmedH.refl s) (good_of_word hk) h
theorem Xs_rf (s : State) : Xs s s := ⟨State.WarmedH.refl s, fun _ _ => rfl, fun a cell ha hc => absurd (Array.getElem?_eq_some_iff.mp hc).1 (by omega)⟩
theorem st_1 : Cond.stringRef "MovingBoxes$Term" 84 "><^?" ∈ lw_tbl := tm (i := 479) (by decide +kernel)
theorem st_2 : Cond.stringRef "MovingBoxes$Teller" 125 "><^?" ∈ lw_tbl := tm (i := 632) (by decide +kernel)
theorem st_3 : Cond.laysStatic "java/lang/String" "COMPACT_STRINGS" "Z" ∈ lw_tbl := tm (i := 493) (by decide +kernel)
theorem st_4 : Cond.laysStatic "jdk/internal/util/Preconditions" "SIOOBE_FORMATTER" "Ljava/util/function/BiFunction;" ∈ lw_tbl := tm (i := 536) (by decide +kernel)
theorem st_5 : Cond.initialized "java/lang/String" ∈ lw_tbl := tm (i := 15) (by decide +kernel)
theorem st_6 : Cond.initialized "jdk/internal/util/Preconditions" ∈ lw_tbl := tm (i := 19) (by decide +kernel)
theorem no_cast : ∀ x, x < 5 → ∀ y, y < 5 → x ≠ y → Cond.not (.castable (eN x) (eN y)) ∈ flatC (Jvm.Cond.and given_1 narrow_1) := by decide +kernel
theorem sgn_b : ∀ j : Nat, j < 4 → (([62, 60, 94, 63] : List Int32).getD j 0) = Int32.ofInt (sgnC j) := by decide +kernel
set_option maxRecDepth 100000 in
set_option maxHeartbeats 4000000 in
theorem start_ok {s : State} {b L : Nat} {xs : Nat → Int32} (hts : ∀ w ∈ lw_tbl, w.before #[Value.ref b] s = true) (hX : va_X b L xs s s.heap) (hbl : b < s.heap.size) (hL : L ≤ 2048) (hn : (Jvm.Cond.and given_1 narrow_1).before #[Value.ref b] s = true) :
    ∃ (D : va_G) (dA dX : Nat → ClassId) (P : Pg), SK D dA P s ∧ E0 dX s ∧ T0 P s ∧ pB P = b ∧ pLn P = L ∧ ∀ i, pX P i = (xs i).toInt := by
  have hs := flat_of_before _ hn
  have hA : ∀ a : Nat, a < s.heap.size → ¬ (fun q => s.heap.size ≤ q) a := fun a h => Nat.not_le.mpr h
  have hk : ∀ w ∈ lw_tbl, kW w = true → w.before #[] s = true := fun w hw hk => kW_any hk (hts w hw) _
  -- classes
  have hD : ∀ c : Nat, ∃ q : ClassId × (Nat → Nat), c < 9 → u_Kn s (cNm c) (cTb c) (cNf c) q.1 q.2 := by
    intro c
    by_cases hc : c < 9
    · obtain ⟨cC, iS, h⟩ := u_known (ws := lw_tbl) (args := #[Value.ref b]) hts (lay_in hc) (hts _ (tm (ins_ok c hc)))
      exact ⟨(cC, iS), fun _ => h⟩
    · exact ⟨(0, fun _ => 0), fun h => absurd h hc⟩
  obtain ⟨dq, hdq⟩ := Classical.axiomOfChoice hD
  -- arrays' classes
  have hAr : ∀ k : Nat, ∃ cA : ClassId, okK k → ArrOfT s cA (aT k) ∧ va_RA s cA (aT k) := by
    intro k
    by_cases hk4 : k < 4
    · obtain ⟨cA, kA, comp, h1, h2, h3⟩ := Cond.arrayClass_spec (hts _ (tm (ar_ok k hk4)))
      refine ⟨cA, fun _ => ⟨fun n z => ⟨fun q h => (by cases h), kA, h2, comp, h3⟩, ?_⟩⟩
      rcases k with _ | _ | _ | _ | k <;> first | exact h1 | omega
    · by_cases hk6 : k = 6
      · subst hk6
        obtain ⟨comp, cA, kA, h1, h2, h3, h4, h5⟩ := Cond.arrayOver_spec (hts _ ao_2)
        exact ⟨cA, fun _ => ⟨fun n z => ⟨fun q h => (by cases h), kA, h3, comp, h4⟩, kA, comp, h3, h4, h1, h5⟩⟩
      · by_cases hk8 : k = 8
        · subst hk8
          obtain ⟨comp, cA, kA, h1, h2, h3, h4, h5⟩ := Cond.arrayOver_spec (hts _ ao_4)
          exact ⟨cA, fun _ => ⟨fun n z => ⟨fun q h => (by cases h), kA, h3, comp, h4⟩, kA, comp, h3, h4, h1, h5⟩⟩
        · exact ⟨0, fun h => by unfold okK at h; omega⟩
  obtain ⟨dA, hdA⟩ := Classical.axiomOfChoice hAr
  -- exceptions' classes
  have hXc : ∀ x : Nat, ∃ cX : ClassId, x < 5 → ClassAt s (eN x) cX := by
    intro x
    by_cases hx : x < 5
    · obtain ⟨cC, kC, h1, h2, h3, -⟩ := Cond.instantiable_spec (hts _ (e_in hx (w := .instantiable (eN x) 6) (by simp [eAt])).1)
      exact ⟨cC, fun _ => ⟨h1, kC, h2, h3⟩⟩
    · exact ⟨0, fun h => absurd h hx⟩
  obtain ⟨dX, hdX⟩ := Classical.axiomOfChoice hXc
  -- the signs
  obtain ⟨adK, adV, hS, hev⟩ := vk_Sof (args := #[Value.ref b]) (s := s) (N := 1) (tm := fun _ => .string "MovingBoxes$Term" 84) (len := [4]) (byt := [[62, 60, 94, 63]]) (A := fun q => s.heap.size ≤ q)
    (fun i hi => by rcases (show i = 0 by omega) with rfl; decide) (fun i hi => hs _ (by decide +kernel)) (fun i hi => hs _ (by decide +kernel)) (fun i hi => hs _ (by decide +kernel)) (fun i hi => by rcases (show i = 0 by omega) with rfl; exact hs _ (by decide +kernel))
    (fun i hi j hj => by
      rcases (show i = 0 by omega) with rfl
      rcases (show j = 0 ∨ j = 1 ∨ j = 2 ∨ j = 3 by have : j < 4 := hj; omega) with rfl | rfl | rfl | rfl <;> exact hs _ (by decide +kernel))
    (fun i j hi hj hne => by omega) hA
  obtain ⟨hO, hCo, hVa, hTb⟩ := hS.1 0 (by omega)
  have hev0 : (Term.string "MovingBoxes$Term" 84).eval #[Value.ref b] s none [] s = some (.ref (adK 0)) := hev 0 (by omega)
  have hev1 : (Term.string "MovingBoxes$Teller" 125).eval #[Value.ref b] s none [] s = some (.ref (adK 0)) := by
    have h9 := hs (.eq (.string "MovingBoxes$Term" 84) (.string "MovingBoxes$Teller" 125)) (by decide +kernel)
    obtain ⟨w, h1, h2⟩ := Cond.eq_one (show (Cond.eq (.string "MovingBoxes$Term" 84) (.string "MovingBoxes$Teller" 125)).holds #[Value.ref b] s none s [] = true from h9)
    cases hev0.symm.trans h1
    exact h2
  -- the JDK's statics
  have hZ1 := va_Zof (A := fun q => s.heap.size ≤ q) (hts _ st_3) (hts _ st_5) (va_eqi (hs (.eq (.static "java/lang/String" "COMPACT_STRINGS" "Z") (.int 1)) (by decide +kernel))) hA
  obtain ⟨c4, k4, i4, f4, a4, cell4, hc4, hi4, hst4, ha4, hcell4, hs4, -, -, -⟩ := Cond.laysStatic_spec (hts _ st_4)
  obtain ⟨u4, hu4⟩ := Cond.staticRefV hi4 hst4 ha4 hcell4 hs4 (hs (.isRef (.static "jdk/internal/util/Preconditions" "SIOOBE_FORMATTER" "Ljava/util/function/BiFunction;")) (by decide +kernel))
  obtain ⟨r4, hr4⟩ : ∃ r : Option Nat, u4.v = va_rf r := by
    obtain ⟨v, hv⟩ := u4
    cases v <;> simp [Value.isRef] at hv
    · exact ⟨none, rfl⟩
    · exact ⟨some _, rfl⟩
  have hZ2 : va_Z "jdk/internal/util/Preconditions" "SIOOBE_FORMATTER" "Ljava/util/function/BiFunction;" (va_rf r4) (fun q => s.heap.size ≤ q) s s.heap :=
    ⟨c4, k4, i4, f4, a4, cell4, hi4, hst4, Cond.initialized_spec hc4 (State.fieldFound?_spec hi4).1 (hts _ st_6), ha4, hcell4, hs4, by rw [hu4, hr4], hA _ (Array.getElem?_eq_some_iff.mp hcell4).1⟩
  refine ⟨(fun c => (dq c).1, fun c => (dq c).2), dA, dX, (adK 0, (adV 0, (r4, (b, (L, fun i => (xs i).toInt))))), ?_, ?_, ?_, rfl, rfl, fun i => rfl⟩
  · refine ⟨hk, ⟨fun c q hq => ?_, fun k q hq => by cases hq⟩, hdA, va_AO.of (hts _ ao_2), va_AO.of (hts _ ao_4), vk_R.of (hts _ st_1) hev0, vk_R.of (hts _ st_2) hev1⟩
    have hc : c < 9 := by
      have := (List.getElem?_eq_some_iff.mp hq).1
      simpa [clT] using this
    rw [clT_at hc] at hq
    cases hq
    exact hdq c hc
  · refine ⟨fun w hw hl => ?_, rf_at (Xs_rf s) (hts _ lsU) (hs _ (by decide +kernel)), rf_at (Xs_rf s) (hts _ lsS) (hs _ (by decide +kernel)), hdX, fun x y hx hy hne => ?_⟩
    · have h9 := hts w hw
      cases w <;> simp [eLs] at hl
      exact ls_at (Xs_rf s) h9
    · have h9 := hs _ (no_cast x hx y hy hne)
      have hv := Cond.holds_not_iff.mp (show (Cond.not (.castable (eN x) (eN y))).holds #[Value.ref b] s none s [] = true from h9)
      simp only [Cond.value, (hdX x hx).1, (hdX y hy).1] at hv
      exact Option.some.inj hv
  · refine ⟨hO, hCo, hVa, ?_, hZ1, hZ2, by show L < 65536; omega, hbl, xs, fun i => rfl, hX⟩
    obtain ⟨cell, h1, h2, h3, h4, h5, h6, h7⟩ := hTb
    exact ⟨cell, h1, h2, h3, h4, h5, fun j hj => by
      rw [h6 j hj]
      show some (Value.int (([62, 60, 94, 63] : List Int32).getD j 0)) = some (Value.int (Int32.ofInt (sgnC (j : Int))))
      rw [sgn_b j hj], h7⟩
end
section
/-! THE CLAIM OUT OF ONE WALK OF THE LAW'S BODY. Your part is whole_start (and what it stands on); all else here is the same for every law, but numbers. -/
def R_law : String := "MovingBoxesLaw"
def lw_P (b : Addr) (xs : List Int32) (args : Array Value) (s : State) : Prop := args = #[.ref b] ∧ s.IntsAt b xs ∧ xs.length ≤ 2048 ∧ (Jvm.Cond.and given_1 narrow_1).before args s = true
def lw_Q (_ : Array Value) (s : State) (o : Outcome) (t : State) : Prop := o = .returned (some (.int 1)) ∧ Framed s o t [] 601024 7293034
def lw_Z (below : List Frame) (a : Array Value) (s : State) : State → Prop := fun t => ∃ o, t.status = .running ∧ Ended t below o ∧ lw_Q a s o t
/-- what holds at the law's entry: the machine, the code, the tables' words (any of lw_tbl by 'hts w (by decide +kernel)'), the script of L ints xs at the cell b, what the Statement gives of the start (any of its parts by flat_of_before) -/
def lw_At (p : Program) (s : State) (m : MethodId) (meth : Method) (c : Code) (b L : Nat) (xs : Nat → Int32) : Prop :=
  p.tables.exec = Jvm.exec ∧ c.code = code ∧ meth.sig.returnType = ret ∧ c.maxLocals = 7 ∧ s.vm.findClass R_law = some m.cls ∧ (∀ w ∈ lw_tbl, w.before #[Value.ref b] s = true) ∧ va_X b L xs s s.heap ∧ b < s.heap.size ∧ meth.locks = false ∧ (Jvm.Cond.and given_1 narrow_1).before #[Value.ref b] s = true ∧ c.exceptionTable.toList = []
/-- the memory at the start -/
def u0 (h : Nat) : Mm := (fun _ _ => 0, (fun _ _ => 0, (fun _ _ => none, (fun _ => none, (h, 0)))))
theorem u0_HR {D : va_G} {dA : Nat → ClassId} (H0 : Heap) : HR D dA H0.size H0 (u0 H0.size) H0 :=
  ⟨rfl, Nat.le_refl _, fun _ _ => rfl, (fun a q h => by cases h), (fun a k n h => by cases h), (fun a c n h => by cases h), (fun _ _ => inR_0), (fun a n h => by cases h), fun a cell ha hc => absurd (Array.getElem?_eq_some_iff.mp hc).1 (by omega)⟩
/-- what is left: the law's run, in the small machine -/
def LawRun : Prop := ∀ (P : Pg) (h : Nat), pLn P ≤ 2048 → (∀ i, inR (pX P i)) → pB P < h → pSg P < h → pSv P < h →
  ∃ d, d ≤ 1000 ∧ Ef P d 178 0 (ent P 178 [vR (pB P)]) [] (u0 h) (fun r u' => r = .inl (some (vI 1)) ∧ mT u' ≤ h + 601024 ∧ mU u' ≤ 7293034)
set_option maxRecDepth 100000 in
set_option maxHeartbeats 4000000 in
theorem whole_start (HL : LawRun) {p : Program} {e : Env} {s : State} {m : MethodId} {below : List Frame} {meth : Method} {c : Code} (l : Launch) (htr : ∀ e : Env, l.admits e → e.platform.stackTraces = false) {b L : Nat} {xs : Nat → Int32} (hL : L ≤ 2048) (C0 : lw_At p s m meth c b L xs) : W p l e room_1 s m #[Value.ref b] below meth c s.heap [] 0 0 (lw_Z below #[Value.ref b] s) (entryFrame m ([Value.ref b] : List Value).toArray 7) := by
  obtain ⟨hx, hb, hr, hml, hown, hts, hX, hbl, hlocks, hn, hxt⟩ := C0
  obtain ⟨D, dA, dX, P, hK, hE, hT, hPb, hPl, hPx⟩ := start_ok hts hX hbl hL hn
  have hsg : pSg P < s.heap.size := by
    obtain ⟨cell, h1, -⟩ := hT.1
    exact (Array.getElem?_eq_some_iff.mp h1).1
  have hsv : pSv P < s.heap.size := by
    obtain ⟨cell, h1, -⟩ := hT.2.2.2.1
    exact (Array.getElem?_eq_some_iff.mp h1).1
  obtain ⟨d, hd, f, r, u', hf, rfl, hc, hsl⟩ := HL P s.heap.size (by rw [hPl]; exact hL) (fun i => by rw [hPx]; exact i32_inR _) (by rw [hPb]; exact hbl) hsg hsv
  have C : Cx D dA P p s m meth c 178 := ⟨hx, hb, hml, hr, hlocks, hown, (fun h => absurd h (by decide)), hK, by rw [hxt]; rfl⟩
  have hm := fm_mono P _ _ _ _ _ _ _ _ _ hf
  have hLR : LR ((lg_sl ([vR (pB P)].map tv) ++ List.replicate (tMx 178 - (lg_sl ([vR (pB P)].map tv)).length) Slot.unset).toArray) (tMx 178) (ent P 178 [vR (pB P)]) := ent_LR (show 1 ≤ tMx 178 by decide) (fun v hv => by rw [List.mem_singleton.mp hv]; trivial)
  have K := fm_W (l := l) (dX := dX) (D := D) (dA := dA) (P := P) (h0 := s.heap.size) (H0 := s.heap) (X := Xs s) (fun s1 U u hW hR h => Xs.step hW hR h) ready_ok (throw_ok htr hE) (catch_ok hE) (spec_ok hT) (text_ok hT)
    f d 178 0 _ [] (u0 s.heap.size) _ u' hf (by decide) p e room_1 s m #[Value.ref b] below meth c _ C (Xs_rf s) hLR (fun v hv => by cases hv) (by show d + 12 ≤ 2048; omega) (by show 60 * d + 600 ≤ 84000; omega)
    s.heap [] 0 0 (u0_HR s.heap) (fun q hq => by cases hq) (by show 0 + (mT u' - s.heap.size) ≤ 601024; omega) (by show 0 + (mU u' - 0) ≤ 7293034; omega)
  rw [hPb] at K
  rw [lg_entry_eq]
  refine W.mono K fun t ht => ?_
  obtain ⟨o, Lq, h1, h2, ⟨⟨h3, -⟩, -⟩, ⟨h5, h6⟩, h7⟩ := ht
  refine ⟨o, h1, h2, h3, ⟨⟨_, h3⟩, h5, h6.weaken (fun y hy hlt => absurd hlt (Nat.not_lt.mpr (h7 y hy))) (by show 0 + (mT u' - s.heap.size) ≤ 601024; omega) (by show 0 + (mU u' - 0) ≤ 7293034; omega)⟩⟩
set_option maxHeartbeats 4000000 in
theorem lw_walk (HL : LawRun) (l : Launch) (htr : ∀ e : Env, l.admits e → e.platform.stackTraces = false) (b : Addr) (xs : List Int32) : MetFree l x (headSpec (Jvm.Cond.code x code maxLocals ret :: tables_1) room_1) (lw_P b xs) (fun _ _ _ _ _ => True) lw_Q := by
  refine MetFree.of_bodyS (code := code) (maxLocals := maxLocals) (ret := ret) (by decide) ?_ ?_
  · intro args s m h hn
    obtain ⟨meth, c, h1, h2, h3, h4, h5, h6, -, -⟩ := Cond.code_spec hn (atoms_spec (ws := Jvm.Cond.code x code maxLocals ret :: tables_1) h _ List.mem_cons_self)
    exact ⟨meth, c, h1, h2, h3, h4, h5, h6⟩
  · intro p e s m args below meth c s₁ B hml0 hP _
    obtain ⟨rfl, hx, hbd, hgv⟩ := hP
    obtain ⟨scr, harrAt, hlist, hof, hsmall⟩ := hx
    obtain ⟨hcb, hkn, -, -⟩ := State.arrayAt?_spec harrAt
    have hown : s.vm.findClass R_law = some m.cls := findClass_of_methodNamed B.named
    have hts0 : ∀ c ∈ (Jvm.Cond.code x code maxLocals ret :: tables_1), c.before #[Value.ref b] s = true := atoms_spec (ws := Jvm.Cond.code x code maxLocals ret :: tables_1) B.pre
    have hts : ∀ w ∈ lw_tbl, w.before #[Value.ref b] s = true := k2_hts_sels lw_privs (fun w hw => hts0 w (List.mem_cons_of_mem _ hw)) lw_privs_ok
    have hml : c.maxLocals = 7 := B.maxLocals_eq (hts0 _ List.mem_cons_self)
    have X₀ : Stand p l e room_1 s m #[Value.ref b] below meth c s₁ [] 0 0 := Stand.of_body B
    have hh0 : s₁.heap = s.heap := by rw [B.state]; rfl
    have hsz : scr.slots.size = xs.length := by rw [← Array.length_toList, hlist, List.length_map]
    have hval : ∀ j : Nat, j < xs.length → scr.slots[j]? = some (.int (xs.getD j 0)) := fun j hj => by
      rw [← Array.getElem?_toList, hlist]
      simp [hj]
    have hbl : b < s.heap.size := (Array.getElem?_eq_some_iff.mp hcb).1
    have hX : va_X b xs.length (fun j => xs.getD j 0) s s.heap := ⟨scr, hcb, hof, hkn, hsz, hval⟩
    have K : W p l e room_1 s m #[Value.ref b] below meth c s₁.heap [] 0 0 (lw_Z below #[Value.ref b] s) (entryFrame m ([Value.ref b] : List Value).toArray 7) := by
      rw [hh0]
      exact whole_start HL l htr hbd ⟨B.exec, B.bytes, B.returns, hml, hown, hts, hX, hbl, B.notSynchronized, hgv, by
        have h9 := BodyLoose.noHandlers B (hts0 _ List.mem_cons_self)
        simpa using h9⟩
    obtain ⟨t, a1, o, b1, b2, b3⟩ := K s₁ rfl X₀
    exact ⟨t, o, a1, b1, b2, b3⟩
theorem lw_pre_spec {args : Array Value} {s : State} (h : (Jvm.Cond.and given_1 narrow_1).before args s = true) (hr : rest_1_c.before args s = true) : ∃ (b : Addr) (xs : List Int32), lw_P b xs args s := by
  have hs := flat_of_before _ h
  have hq := flat_of_before _ hr
  have hc : (Cond.count 1).before args s = true := hs _ (by decide +kernel)
  have harr : (Cond.arrayOf (.arg 0) .int).before args s = true := hs _ (by decide +kernel)
  have hle : (Cond.le (.length (.arg 0)) (.int 2048)).before args s = true := hs _ (by decide +kernel)
  have hlen : (Cond.isInt (.length (.arg 0))).before args s = true := hq _ (by decide +kernel)
  have hall : (Cond.all (.arg 0) (.isInt (.elem (.arg 0) (.index 0)))).before args s = true := hq _ (by decide +kernel)
  obtain ⟨b, xs, hb, hx⟩ := State.ints_of_pre rfl harr hlen hall
  have hsm : xs.length < 2 ^ 31 := hx.choose_spec.2.2.2
  have hev : (Term.length (.arg 0)).eval args s none [] s = some (.int xs.length.toInt32) := hx.length_eval hb
  have hv := Cond.le_ints hev (show (Term.int 2048).eval args s none [] s = some (.int 2048) from rfl)
  have hd : xs.length.toInt32 ≤ 2048 := by
    simpa [Cond.before, Cond.holds, hv] using hle
  have hN : xs.length ≤ 2048 := (Int32.ofNat_le_ofNat hsm (by decide)).mp (show Int32.ofNat xs.length ≤ Int32.ofNat 2048 from hd)
  exact ⟨b, xs, Cond.one_arg hc (show args[0]? = some (.ref b) from hb), hx, hN, h⟩
theorem lw_comes (HL : LawRun) (l : Launch) (htr : ∀ e : Env, l.admits e → e.platform.stackTraces = false) : Comes l x (Jvm.Cond.code x code maxLocals ret :: tables_1) room_1 (fun tb e args s => Calls_1 tb e args s ∧ rest_1 tb e args s ∧ Pre_1 tb e args s)
    (fun _ _ args s o t => lw_Q args s o t) := by
  intro p e ha hc hk s m args below hf hfit hheap happ hpre
  obtain ⟨b, xs, hP⟩ := lw_pre_spec hpre.2.2 hpre.2.1
  obtain ⟨k, o, h1, h2, h3, hQ⟩ := lw_walk HL l htr b xs p e ha hc hk s m args below hf ((Spec.applies_iff_loose hf).mp happ).1 hP trivial
  exact ⟨k, o, h1, h2, h3, hQ⟩
theorem lw_frame {s t : State} {o : Outcome} {args : Array Value} (h : Framed s o t [] 601024 7293034) :
    Framed s o t (fieldLocs frame_1_writes args s ++ arrayLocs frame_1_arrays args s ++ staticLocs frame_1_statics s) 601024 7293034 := h
theorem lw_limb (HL : LawRun) (L : Cond) (hL : ∀ (args : Array Value) (s t : State), L.after args s (.returned (some (.int 1))) t = true) :
    ArmFor flags0 classFile x code maxLocals ret World_1 tables_1 room_1 Calls_1 rest_1 Pre_1
      (fun tb e a s o t => postC L tb e a s o t ∧ Framed s o t (fieldLocs frame_1_writes a s ++ arrayLocs frame_1_arrays a s ++ staticLocs frame_1_statics s) 601024 7293034) := by
  intro l hfl _ _ p e ha hc hk s m args below hf hfit hheap happ hpre
  obtain ⟨k, o, h1, h2, h3, rfl, hF⟩ := lw_comes HL l (fun e he => Launch.traces_off hfl he) p e ha hc hk s m args below hf hfit hheap happ hpre
  exact ⟨k, _, h1, h2, h3, hL args s _, lw_frame hF⟩
theorem i_vc_of (HL : LawRun) : Claimed_1_1 ∧ Claimed_1_2 := ⟨lw_limb HL limb_1_1 (fun args s t => by simp [limb_1_1, Cond.after, Cond.holds, Cond.value]), lw_limb HL limb_1_2 (fun args s t => Cond.after_iff.mpr (by
  first | (rw [show limb_1_2 = Cond.eq .result (.int 1) from rfl, Cond.eq_ints (x := 1) (y := 1) rfl rfl]; simp; done) | (simp [limb_1_2, Cond.value, Term.eval]; done)))⟩
end
