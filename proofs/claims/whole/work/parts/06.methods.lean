/-! The methods: names, kinds, the words of their code and of their calls. Written by wip/whole/gen/mk06.py. -/
def yN : Nat → MethodName := fun j => match j with
  | 0 => ⟨"MovingBoxes", "<init>", "()V"⟩
  | 1 => ⟨"MovingBoxes", "erase", "()I"⟩
  | 2 => ⟨"MovingBoxes", "redexes", "()I"⟩
  | 3 => ⟨"MovingBoxes", "write", "(JI)I"⟩
  | 4 => ⟨"MovingBoxes", "areCharacters", "(JI)Z"⟩
  | 5 => ⟨"MovingBoxes", "byteOf", "(JI)I"⟩
  | 6 => ⟨"MovingBoxes", "read", "()I"⟩
  | 7 => ⟨"MovingBoxes", "meant", "(CI)I"⟩
  | 8 => ⟨"MovingBoxes", "bind", "(CII)I"⟩
  | 9 => ⟨"MovingBoxes", "goOn", "()V"⟩
  | 10 => ⟨"MovingBoxes", "redex", "(II)I"⟩
  | 11 => ⟨"MovingBoxes", "take", "(I)I"⟩
  | 12 => ⟨"MovingBoxes", "stepped", "(I)Z"⟩
  | 13 => ⟨"MovingBoxes", "fair", "(I)I"⟩
  | 14 => ⟨"MovingBoxes", "count", "(I)I"⟩
  | 15 => ⟨"MovingBoxes", "letter", "(I)I"⟩
  | 16 => ⟨"MovingBoxes", "keep", "(I)I"⟩
  | 17 => ⟨"MovingBoxes", "isSlot", "(I)Z"⟩
  | 18 => ⟨"MovingBoxes", "equal", "(I)Z"⟩
  | 19 => ⟨"MovingBoxes", "shows", "(II)Z"⟩
  | 20 => ⟨"MovingBoxes", "isName", "(I)Z"⟩
  | 21 => ⟨"MovingBoxes", "explore", "(III)I"⟩
  | 22 => ⟨"MovingBoxes", "explored", "(I)I"⟩
  | 23 => ⟨"MovingBoxes$Explorer", "<init>", "()V"⟩
  | 24 => ⟨"MovingBoxes$Explorer", "forget", "()V"⟩
  | 25 => ⟨"MovingBoxes$Explorer", "goOver", "(LMovingBoxes$State;ILMovingBoxes$Term;LMovingBoxes$Teller;)V"⟩
  | 26 => ⟨"MovingBoxes$Explorer", "isNew", "(LMovingBoxes$State;)Z"⟩
  | 27 => ⟨"MovingBoxes$Explorer", "lookFor", "(II)V"⟩
  | 28 => ⟨"MovingBoxes$Explorer", "farthest", "()I"⟩
  | 29 => ⟨"MovingBoxes$Line", "<init>", "()V"⟩
  | 30 => ⟨"MovingBoxes$Line", "set", "([CI)V"⟩
  | 31 => ⟨"MovingBoxes$Line", "isSame", "(LMovingBoxes$Line;)Z"⟩
  | 32 => ⟨"MovingBoxes$Redexes", "<init>", "()V"⟩
  | 33 => ⟨"MovingBoxes$Redexes", "clear", "()V"⟩
  | 34 => ⟨"MovingBoxes$Redexes", "find", "(LMovingBoxes$State;LMovingBoxes$Term;)V"⟩
  | 35 => ⟨"MovingBoxes$Redexes", "findBeside", "(LMovingBoxes$State;I)V"⟩
  | 36 => ⟨"MovingBoxes$Redexes", "add", "(III)V"⟩
  | 37 => ⟨"MovingBoxes$Redexes", "findAround", "(LMovingBoxes$State;I)V"⟩
  | 38 => ⟨"MovingBoxes$Redexes", "findInside", "(LMovingBoxes$State;I)V"⟩
  | 39 => ⟨"MovingBoxes$Redexes", "findMessages", "(LMovingBoxes$State;I)V"⟩
  | 40 => ⟨"MovingBoxes$Redexes", "date", "(LMovingBoxes$Redexes;I)V"⟩
  | 41 => ⟨"MovingBoxes$Redexes", "compare", "(III)I"⟩
  | 42 => ⟨"MovingBoxes$Redexes", "has", "(I)Z"⟩
  | 43 => ⟨"MovingBoxes$Redexes", "oldest", "()I"⟩
  | 44 => ⟨"MovingBoxes$State", "<init>", "()V"⟩
  | 45 => ⟨"MovingBoxes$State", "clear", "()V"⟩
  | 46 => ⟨"MovingBoxes$State", "begin", "(LMovingBoxes$Term;)Z"⟩
  | 47 => ⟨"MovingBoxes$State", "run", "(LMovingBoxes$Term;IIIII)V"⟩
  | 48 => ⟨"MovingBoxes$State", "sort", "(I)LMovingBoxes$Things;"⟩
  | 49 => ⟨"MovingBoxes$State", "follow", "(LMovingBoxes$State;LMovingBoxes$Redexes;ILMovingBoxes$Term;)Z"⟩
  | 50 => ⟨"MovingBoxes$State", "copy", "(LMovingBoxes$State;)V"⟩
  | 51 => ⟨"MovingBoxes$State", "react", "(LMovingBoxes$Term;II)V"⟩
  | 52 => ⟨"MovingBoxes$State", "move", "(II)V"⟩
  | 53 => ⟨"MovingBoxes$State", "placeOf", "(I)I"⟩
  | 54 => ⟨"MovingBoxes$State", "dissolve", "(II)V"⟩
  | 55 => ⟨"MovingBoxes$State", "receive", "(I)I"⟩
  | 56 => ⟨"MovingBoxes$State", "hasShape", "(II)Z"⟩
  | 57 => ⟨"MovingBoxes$Teller", "<init>", "()V"⟩
  | 58 => ⟨"MovingBoxes$Teller", "tell", "(LMovingBoxes$State;LMovingBoxes$Term;)Z"⟩
  | 59 => ⟨"MovingBoxes$Teller", "tellPlace", "(LMovingBoxes$State;LMovingBoxes$Term;II)V"⟩
  | 60 => ⟨"MovingBoxes$Teller", "put", "(C)V"⟩
  | 61 => ⟨"MovingBoxes$Teller", "addPiece", "(II)V"⟩
  | 62 => ⟨"MovingBoxes$Teller", "isBefore", "(IIII)Z"⟩
  | 63 => ⟨"MovingBoxes$Teller", "tellNode", "(LMovingBoxes$Term;III)V"⟩
  | 64 => ⟨"MovingBoxes$Teller", "putHead", "(LMovingBoxes$Term;II)V"⟩
  | 65 => ⟨"MovingBoxes$Teller", "putName", "(CI)V"⟩
  | 66 => ⟨"MovingBoxes$Teller", "join", "(IIZ)V"⟩
  | 67 => ⟨"MovingBoxes$Teller", "copyOrdered", "(IZ)V"⟩
  | 68 => ⟨"MovingBoxes$Term", "<init>", "()V"⟩
  | 69 => ⟨"MovingBoxes$Term", "parse", "([CI)V"⟩
  | 70 => ⟨"MovingBoxes$Term", "parseProcess", "(II)V"⟩
  | 71 => ⟨"MovingBoxes$Term", "parsePart", "(II)V"⟩
  | 72 => ⟨"MovingBoxes$Term", "peek", "()C"⟩
  | 73 => ⟨"MovingBoxes$Term", "skip", "(C)V"⟩
  | 74 => ⟨"MovingBoxes$Term", "parseMessage", "(I)V"⟩
  | 75 => ⟨"MovingBoxes$Term", "addNode", "(IZ)I"⟩
  | 76 => ⟨"MovingBoxes$Term", "parseName", "(I)C"⟩
  | 77 => ⟨"MovingBoxes$Term", "isLetter", "(C)Z"⟩
  | 78 => ⟨"MovingBoxes$Term", "bitOf", "(C)I"⟩
  | 79 => ⟨"MovingBoxes$Term", "parsePlace", "(II)V"⟩
  | 80 => ⟨"MovingBoxes$Term", "parseGuard", "(II)V"⟩
  | 81 => ⟨"MovingBoxes$Term", "parseLetter", "()C"⟩
  | 82 => ⟨"MovingBoxes$Term", "after", "(I)I"⟩
  | 83 => ⟨"MovingBoxes$Things", "<init>", "(I)V"⟩
  | 84 => ⟨"MovingBoxes$Things", "add", "(IIIII)Z"⟩
  | 85 => ⟨"MovingBoxes$Things", "indexOf", "(I)I"⟩
  | 86 => ⟨"MovingBoxes$Things", "copy", "(LMovingBoxes$Things;)V"⟩
  | 87 => ⟨"MovingBoxes$Things", "remove", "(I)V"⟩
  | 88 => ⟨"MovingBoxes$Things", "moveAll", "(II)V"⟩
  | 89 => ⟨"MovingBoxesModel", "<init>", "()V"⟩
  | 90 => ⟨"MovingBoxesModel", "alone", "()V"⟩
  | 91 => ⟨"MovingBoxesModel", "thrown", "()I"⟩
  | 92 => ⟨"MovingBoxesModel", "write", "(JI)I"⟩
  | 93 => ⟨"MovingBoxesModel", "within", "(III)Z"⟩
  | 94 => ⟨"MovingBoxesModel", "fail", "(I)I"⟩
  | 95 => ⟨"MovingBoxesModel", "erase", "()I"⟩
  | 96 => ⟨"MovingBoxesModel", "read", "()I"⟩
  | 97 => ⟨"MovingBoxesModel", "parse", "()V"⟩
  | 98 => ⟨"MovingBoxesModel", "push", "(III)V"⟩
  | 99 => ⟨"MovingBoxesModel", "part", "()Z"⟩
  | 100 => ⟨"MovingBoxesModel", "wrong", "(I)V"⟩
  | 101 => ⟨"MovingBoxesModel", "here", "()I"⟩
  | 102 => ⟨"MovingBoxesModel", "node", "(IZ)I"⟩
  | 103 => ⟨"MovingBoxesModel", "named", "()I"⟩
  | 104 => ⟨"MovingBoxesModel", "guardKind", "(I)I"⟩
  | 105 => ⟨"MovingBoxesModel", "guard", "(Z)V"⟩
  | 106 => ⟨"MovingBoxesModel", "expect", "(I)V"⟩
  | 107 => ⟨"MovingBoxesModel", "behind", "()Z"⟩
  | 108 => ⟨"MovingBoxesModel", "run", "(III)V"⟩
  | 109 => ⟨"MovingBoxesModel", "resolved", "(II)I"⟩
  | 110 => ⟨"MovingBoxesModel", "makePlace", "(II)I"⟩
  | 111 => ⟨"MovingBoxesModel", "makeMessage", "(II)V"⟩
  | 112 => ⟨"MovingBoxesModel", "makeGuard", "(III)V"⟩
  | 113 => ⟨"MovingBoxesModel", "describe", "()V"⟩
  | 114 => ⟨"MovingBoxesModel", "frame", "(IIII)V"⟩
  | 115 => ⟨"MovingBoxesModel", "placeStep", "(I)V"⟩
  | 116 => ⟨"MovingBoxesModel", "begin", "()V"⟩
  | 117 => ⟨"MovingBoxesModel", "letterOf", "(I)V"⟩
  | 118 => ⟨"MovingBoxesModel", "character", "(I)V"⟩
  | 119 => ⟨"MovingBoxesModel", "head", "()V"⟩
  | 120 => ⟨"MovingBoxesModel", "guardText", "(III)V"⟩
  | 121 => ⟨"MovingBoxesModel", "nameText", "(III)V"⟩
  | 122 => ⟨"MovingBoxesModel", "simple", "(III)V"⟩
  | 123 => ⟨"MovingBoxesModel", "join", "(II)V"⟩
  | 124 => ⟨"MovingBoxesModel", "before", "(II)Z"⟩
  | 125 => ⟨"MovingBoxesModel", "copied", "(II)I"⟩
  | 126 => ⟨"MovingBoxesModel", "partStep", "(I)V"⟩
  | 127 => ⟨"MovingBoxesModel", "settle", "()V"⟩
  | 128 => ⟨"MovingBoxesModel", "otherNumber", "(I)I"⟩
  | 129 => ⟨"MovingBoxesModel", "isRedex", "(II)Z"⟩
  | 130 => ⟨"MovingBoxesModel", "redexes", "()I"⟩
  | 131 => ⟨"MovingBoxesModel", "search", "(I)I"⟩
  | 132 => ⟨"MovingBoxesModel", "guardBehind", "(I)I"⟩
  | 133 => ⟨"MovingBoxesModel", "otherBehind", "(I)I"⟩
  | 134 => ⟨"MovingBoxesModel", "redex", "(II)I"⟩
  | 135 => ⟨"MovingBoxesModel", "take", "(I)I"⟩
  | 136 => ⟨"MovingBoxesModel", "step", "()Z"⟩
  | 137 => ⟨"MovingBoxesModel", "save", "(I)V"⟩
  | 138 => ⟨"MovingBoxesModel", "make", "()V"⟩
  | 139 => ⟨"MovingBoxesModel", "load", "(I)V"⟩
  | 140 => ⟨"MovingBoxesModel", "fair", "(I)I"⟩
  | 141 => ⟨"MovingBoxesModel", "count", "(I)I"⟩
  | 142 => ⟨"MovingBoxesModel", "letter", "(I)I"⟩
  | 143 => ⟨"MovingBoxesModel", "keep", "(I)I"⟩
  | 144 => ⟨"MovingBoxesModel", "eight", "(I)J"⟩
  | 145 => ⟨"MovingBoxesModel", "equal", "(I)Z"⟩
  | 146 => ⟨"MovingBoxesModel", "shows", "(II)Z"⟩
  | 147 => ⟨"MovingBoxesModel", "shape", "(II)Z"⟩
  | 148 => ⟨"MovingBoxesModel", "explore", "(III)I"⟩
  | 149 => ⟨"MovingBoxesModel", "find", "(III)V"⟩
  | 150 => ⟨"MovingBoxesModel", "explored", "(I)I"⟩
  | 151 => ⟨"MovingBoxesLaw", "write", "(LMovingBoxes;JI[J)I"⟩
  | 152 => ⟨"MovingBoxesLaw", "read", "(LMovingBoxes;[J)I"⟩
  | 153 => ⟨"MovingBoxesLaw", "redex", "(LMovingBoxes;II[J)I"⟩
  | 154 => ⟨"MovingBoxesLaw", "take", "(LMovingBoxes;I[J)I"⟩
  | 155 => ⟨"MovingBoxesLaw", "fair", "(LMovingBoxes;I[J)I"⟩
  | 156 => ⟨"MovingBoxesLaw", "count", "(LMovingBoxes;I[J)I"⟩
  | 157 => ⟨"MovingBoxesLaw", "letter", "(LMovingBoxes;I[J)I"⟩
  | 158 => ⟨"MovingBoxesLaw", "keep", "(LMovingBoxes;I[J)I"⟩
  | 159 => ⟨"MovingBoxesLaw", "equal", "(LMovingBoxes;I[J)I"⟩
  | 160 => ⟨"MovingBoxesLaw", "shows", "(LMovingBoxes;II[J)I"⟩
  | 161 => ⟨"MovingBoxesLaw", "explore", "(LMovingBoxes;III[J)I"⟩
  | 162 => ⟨"MovingBoxesLaw", "explored", "(LMovingBoxes;I[J)I"⟩
  | 163 => ⟨"java/lang/Math", "max", "(II)I"⟩
  | 164 => ⟨"java/lang/Math", "min", "(II)I"⟩
  | 165 => ⟨"java/lang/Integer", "compare", "(II)I"⟩
  | 166 => ⟨"java/lang/String", "indexOf", "(I)I"⟩
  | 167 => ⟨"java/lang/String", "indexOf", "(II)I"⟩
  | 168 => ⟨"java/lang/String", "isLatin1", "()Z"⟩
  | 169 => ⟨"java/lang/String", "length", "()I"⟩
  | 170 => ⟨"java/lang/String", "coder", "()B"⟩
  | 171 => ⟨"java/lang/String", "charAt", "(I)C"⟩
  | 172 => ⟨"java/lang/String", "checkIndex", "(II)V"⟩
  | 173 => ⟨"java/lang/StringLatin1", "indexOf", "([BIII)I"⟩
  | 174 => ⟨"java/lang/StringLatin1", "canEncode", "(I)Z"⟩
  | 175 => ⟨"java/lang/StringLatin1", "indexOfChar", "([BIII)I"⟩
  | 176 => ⟨"java/lang/StringLatin1", "charAt", "([BI)C"⟩
  | 177 => ⟨"jdk/internal/util/Preconditions", "checkIndex", "(IILjava/util/function/BiFunction;)I"⟩
  | 500 => ⟨"java/lang/Object", "<init>", "()V"⟩
  | 501 => ⟨"java/lang/System", "arraycopy", "(Ljava/lang/Object;ILjava/lang/Object;II)V"⟩
  | _ => x
def tStL : List Nat := [2, 0, 0, 0, 1, 1, 0, 1, 1, 0, 0, 0, 0, 0, 0, 0, 0, 1, 0, 0, 1, 0, 0, 2, 0, 0, 0, 0, 0, 2, 0, 0, 2, 0, 0, 0, 0, 0, 0, 0, 0, 0, 0, 0, 2, 0, 0, 0, 0, 0, 0, 0, 0, 0, 0, 0, 0, 2, 0, 0, 0, 0, 0, 0, 0, 0, 0, 0, 2, 0, 0, 0, 0, 0, 0, 0, 0, 1, 1, 0, 0, 0, 0, 2, 0, 0, 0, 0, 0, 2, 0, 0, 0, 1, 0, 0, 0, 0, 0, 0, 0, 0, 0, 0, 1, 0, 0, 0, 0, 0, 0, 0, 0, 0, 0, 0, 0, 0, 0, 0, 0, 0, 0, 0, 0, 0, 0, 0, 0, 0, 0, 0, 0, 0, 0, 0, 0, 0, 0, 0, 0, 0, 0, 0, 0, 0, 0, 0, 0, 0, 0, 1, 1, 1, 1, 1, 1, 1, 1, 1, 1, 1, 1, 1, 1, 1, 0, 0, 0, 0, 0, 0, 1, 1, 1, 1, 1, 1]
def tSt (j : Nat) : Nat := tStL.getD j 9
def tNaL : List Nat := [0, 0, 0, 2, 2, 2, 0, 2, 3, 0, 2, 1, 1, 1, 1, 1, 1, 1, 1, 2, 1, 3, 1, 0, 0, 4, 1, 2, 0, 0, 2, 1, 0, 0, 2, 2, 3, 2, 2, 2, 2, 3, 1, 0, 0, 0, 1, 6, 1, 4, 1, 3, 2, 1, 2, 1, 2, 0, 2, 4, 1, 2, 4, 4, 3, 2, 3, 2, 0, 2, 2, 2, 0, 1, 1, 2, 1, 1, 1, 2, 2, 0, 1, 1, 5, 1, 1, 1, 2, 0, 0, 0, 2, 3, 1, 0, 0, 0, 3, 0, 1, 0, 2, 0, 1, 1, 1, 0, 3, 2, 2, 2, 3, 0, 4, 1, 0, 1, 1, 0, 3, 3, 3, 2, 2, 2, 1, 0, 1, 2, 0, 1, 1, 1, 2, 1, 0, 1, 0, 1, 1, 1, 1, 1, 1, 1, 2, 2, 3, 3, 1, 4, 2, 4, 3, 3, 3, 3, 3, 3, 4, 5, 3, 2, 2, 2, 1, 2, 0, 0, 0, 1, 2, 4, 1, 4, 2, 3]
def tNa (j : Nat) : Nat := tNaL.getD j 0
def hdL : Nat → List (Nat × Nat × Nat × Nat) := fun j => match j with
  | 151 => [(0, 11, 14, 13), (0, 11, 18, 15)]
  | 152 => [(0, 8, 11, 13), (0, 8, 14, 15), (0, 8, 17, 21)]
  | 153 => [(0, 10, 13, 27)]
  | 154 => [(0, 9, 12, 27), (0, 9, 15, 21)]
  | 155 => [(0, 9, 12, 13), (0, 9, 15, 21)]
  | 156 => [(0, 9, 12, 27)]
  | 157 => [(0, 9, 12, 27)]
  | 158 => [(0, 9, 12, 27)]
  | 159 => [(0, 16, 19, 27), (0, 16, 22, 49)]
  | 160 => [(0, 17, 20, 13)]
  | 161 => [(0, 12, 15, 13)]
  | 162 => [(0, 9, 12, 27)]
  | _ => []
def cdW (j : Nat) : Cond := match hdL j with
  | [] => .code (yN j) (tBc j) (tMx j) (tRt j)
  | h :: t => .codeWith (yN j) (tBc j) (tMx j) (tRt j) (h :: t)
theorem ts_1 {w : Cond} (h : w ∈ tables_1_1) : w ∈ lw_tbl := List.mem_append_right _ (List.mem_append_left _ h)
theorem ts_2 {w : Cond} (h : w ∈ tables_1_2) : w ∈ lw_tbl := List.mem_append_right _ (List.mem_append_right _ (List.mem_append_left _ h))
theorem ts_3 {w : Cond} (h : w ∈ tables_1_3) : w ∈ lw_tbl := List.mem_append_right _ (List.mem_append_right _ (List.mem_append_right _ (List.mem_append_left _ h)))
theorem ts_4 {w : Cond} (h : w ∈ tables_1_4) : w ∈ lw_tbl := List.mem_append_right _ (List.mem_append_right _ (List.mem_append_right _ (List.mem_append_right _ (List.mem_append_left _ h))))
theorem ts_5 {w : Cond} (h : w ∈ tables_1_5) : w ∈ lw_tbl := List.mem_append_right _ (List.mem_append_right _ (List.mem_append_right _ (List.mem_append_right _ (List.mem_append_right _ (List.mem_append_left _ h)))))
theorem ts_6 {w : Cond} (h : w ∈ tables_1_6) : w ∈ lw_tbl := List.mem_append_right _ (List.mem_append_right _ (List.mem_append_right _ (List.mem_append_right _ (List.mem_append_right _ (List.mem_append_right _ h)))))
theorem cm_0 : cdW 0 ∈ lw_tbl := ts_1 (List.mem_of_getElem? (i := 30) rfl)
theorem cm_1 : cdW 1 ∈ lw_tbl := ts_2 (List.mem_of_getElem? (i := 73) rfl)
theorem cm_2 : cdW 2 ∈ lw_tbl := ts_2 (List.mem_of_getElem? (i := 77) rfl)
theorem cm_3 : cdW 3 ∈ lw_tbl := ts_2 (List.mem_of_getElem? (i := 86) rfl)
theorem cm_4 : cdW 4 ∈ lw_tbl := ts_2 (List.mem_of_getElem? (i := 89) rfl)
theorem cm_5 : cdW 5 ∈ lw_tbl := ts_2 (List.mem_of_getElem? (i := 92) rfl)
theorem cm_6 : cdW 6 ∈ lw_tbl := ts_2 (List.mem_of_getElem? (i := 180) rfl)
theorem cm_7 : cdW 7 ∈ lw_tbl := ts_3 (List.mem_of_getElem? (i := 101) rfl)
theorem cm_8 : cdW 8 ∈ lw_tbl := ts_3 (List.mem_of_getElem? (i := 142) rfl)
theorem cm_9 : cdW 9 ∈ lw_tbl := ts_3 (List.mem_of_getElem? (i := 210) rfl)
theorem cm_10 : cdW 10 ∈ lw_tbl := ts_4 (List.mem_of_getElem? (i := 17) rfl)
theorem cm_11 : cdW 11 ∈ lw_tbl := ts_4 (List.mem_of_getElem? (i := 43) rfl)
theorem cm_12 : cdW 12 ∈ lw_tbl := ts_4 (List.mem_of_getElem? (i := 47) rfl)
theorem cm_13 : cdW 13 ∈ lw_tbl := ts_4 (List.mem_of_getElem? (i := 99) rfl)
theorem cm_14 : cdW 14 ∈ lw_tbl := ts_4 (List.mem_of_getElem? (i := 110) rfl)
theorem cm_15 : cdW 15 ∈ lw_tbl := ts_4 (List.mem_of_getElem? (i := 117) rfl)
theorem cm_16 : cdW 16 ∈ lw_tbl := ts_4 (List.mem_of_getElem? (i := 124) rfl)
theorem cm_17 : cdW 17 ∈ lw_tbl := ts_4 (List.mem_of_getElem? (i := 127) rfl)
theorem cm_18 : cdW 18 ∈ lw_tbl := ts_4 (List.mem_of_getElem? (i := 136) rfl)
theorem cm_19 : cdW 19 ∈ lw_tbl := ts_4 (List.mem_of_getElem? (i := 162) rfl)
theorem cm_20 : cdW 20 ∈ lw_tbl := ts_4 (List.mem_of_getElem? (i := 165) rfl)
theorem cm_21 : cdW 21 ∈ lw_tbl := ts_4 (List.mem_of_getElem? (i := 176) rfl)
theorem cm_22 : cdW 22 ∈ lw_tbl := ts_4 (List.mem_of_getElem? (i := 202) rfl)
theorem cm_23 : cdW 23 ∈ lw_tbl := ts_1 (List.mem_of_getElem? (i := 238) rfl)
theorem cm_24 : cdW 24 ∈ lw_tbl := ts_2 (List.mem_of_getElem? (i := 188) rfl)
theorem cm_25 : cdW 25 ∈ lw_tbl := ts_4 (List.mem_of_getElem? (i := 180) rfl)
theorem cm_26 : cdW 26 ∈ lw_tbl := ts_4 (List.mem_of_getElem? (i := 189) rfl)
theorem cm_27 : cdW 27 ∈ lw_tbl := ts_4 (List.mem_of_getElem? (i := 194) rfl)
theorem cm_28 : cdW 28 ∈ lw_tbl := ts_4 (List.mem_of_getElem? (i := 206) rfl)
theorem cm_29 : cdW 29 ∈ lw_tbl := ts_1 (List.mem_of_getElem? (i := 157) rfl)
theorem cm_30 : cdW 30 ∈ lw_tbl := ts_3 (List.mem_of_getElem? (i := 188) rfl)
theorem cm_31 : cdW 31 ∈ lw_tbl := ts_4 (List.mem_of_getElem? (i := 155) rfl)
theorem cm_32 : cdW 32 ∈ lw_tbl := ts_1 (List.mem_of_getElem? (i := 206) rfl)
theorem cm_33 : cdW 33 ∈ lw_tbl := ts_2 (List.mem_of_getElem? (i := 184) rfl)
theorem cm_34 : cdW 34 ∈ lw_tbl := ts_3 (List.mem_of_getElem? (i := 214) rfl)
theorem cm_35 : cdW 35 ∈ lw_tbl := ts_3 (List.mem_of_getElem? (i := 218) rfl)
theorem cm_36 : cdW 36 ∈ lw_tbl := ts_3 (List.mem_of_getElem? (i := 226) rfl)
theorem cm_37 : cdW 37 ∈ lw_tbl := ts_3 (List.mem_of_getElem? (i := 230) rfl)
theorem cm_38 : cdW 38 ∈ lw_tbl := ts_3 (List.mem_of_getElem? (i := 234) rfl)
theorem cm_39 : cdW 39 ∈ lw_tbl := ts_3 (List.mem_of_getElem? (i := 238) rfl)
theorem cm_40 : cdW 40 ∈ lw_tbl := ts_4 (List.mem_of_getElem? (i := 2) rfl)
theorem cm_41 : cdW 41 ∈ lw_tbl := ts_4 (List.mem_of_getElem? (i := 6) rfl)
theorem cm_42 : cdW 42 ∈ lw_tbl := ts_4 (List.mem_of_getElem? (i := 21) rfl)
theorem cm_43 : cdW 43 ∈ lw_tbl := ts_4 (List.mem_of_getElem? (i := 103) rfl)
theorem cm_44 : cdW 44 ∈ lw_tbl := ts_1 (List.mem_of_getElem? (i := 109) rfl)
theorem cm_45 : cdW 45 ∈ lw_tbl := ts_2 (List.mem_of_getElem? (i := 35) rfl)
theorem cm_46 : cdW 46 ∈ lw_tbl := ts_3 (List.mem_of_getElem? (i := 93) rfl)
theorem cm_47 : cdW 47 ∈ lw_tbl := ts_3 (List.mem_of_getElem? (i := 98) rfl)
theorem cm_48 : cdW 48 ∈ lw_tbl := ts_3 (List.mem_of_getElem? (i := 105) rfl)
theorem cm_49 : cdW 49 ∈ lw_tbl := ts_4 (List.mem_of_getElem? (i := 51) rfl)
theorem cm_50 : cdW 50 ∈ lw_tbl := ts_4 (List.mem_of_getElem? (i := 55) rfl)
theorem cm_51 : cdW 51 ∈ lw_tbl := ts_4 (List.mem_of_getElem? (i := 67) rfl)
theorem cm_52 : cdW 52 ∈ lw_tbl := ts_4 (List.mem_of_getElem? (i := 75) rfl)
theorem cm_53 : cdW 53 ∈ lw_tbl := ts_4 (List.mem_of_getElem? (i := 79) rfl)
theorem cm_54 : cdW 54 ∈ lw_tbl := ts_4 (List.mem_of_getElem? (i := 83) rfl)
theorem cm_55 : cdW 55 ∈ lw_tbl := ts_4 (List.mem_of_getElem? (i := 91) rfl)
theorem cm_56 : cdW 56 ∈ lw_tbl := ts_4 (List.mem_of_getElem? (i := 169) rfl)
theorem cm_57 : cdW 57 ∈ lw_tbl := ts_1 (List.mem_of_getElem? (i := 81) rfl)
theorem cm_58 : cdW 58 ∈ lw_tbl := ts_3 (List.mem_of_getElem? (i := 118) rfl)
theorem cm_59 : cdW 59 ∈ lw_tbl := ts_3 (List.mem_of_getElem? (i := 122) rfl)
theorem cm_60 : cdW 60 ∈ lw_tbl := ts_3 (List.mem_of_getElem? (i := 126) rfl)
theorem cm_61 : cdW 61 ∈ lw_tbl := ts_3 (List.mem_of_getElem? (i := 130) rfl)
theorem cm_62 : cdW 62 ∈ lw_tbl := ts_3 (List.mem_of_getElem? (i := 134) rfl)
theorem cm_63 : cdW 63 ∈ lw_tbl := ts_3 (List.mem_of_getElem? (i := 139) rfl)
theorem cm_64 : cdW 64 ∈ lw_tbl := ts_3 (List.mem_of_getElem? (i := 146) rfl)
theorem cm_65 : cdW 65 ∈ lw_tbl := ts_3 (List.mem_of_getElem? (i := 150) rfl)
theorem cm_66 : cdW 66 ∈ lw_tbl := ts_3 (List.mem_of_getElem? (i := 177) rfl)
theorem cm_67 : cdW 67 ∈ lw_tbl := ts_3 (List.mem_of_getElem? (i := 181) rfl)
theorem cm_68 : cdW 68 ∈ lw_tbl := ts_1 (List.mem_of_getElem? (i := 38) rfl)
theorem cm_69 : cdW 69 ∈ lw_tbl := ts_2 (List.mem_of_getElem? (i := 192) rfl)
theorem cm_70 : cdW 70 ∈ lw_tbl := ts_2 (List.mem_of_getElem? (i := 196) rfl)
theorem cm_71 : cdW 71 ∈ lw_tbl := ts_2 (List.mem_of_getElem? (i := 200) rfl)
theorem cm_72 : cdW 72 ∈ lw_tbl := ts_2 (List.mem_of_getElem? (i := 206) rfl)
theorem cm_73 : cdW 73 ∈ lw_tbl := ts_2 (List.mem_of_getElem? (i := 210) rfl)
theorem cm_74 : cdW 74 ∈ lw_tbl := ts_2 (List.mem_of_getElem? (i := 216) rfl)
theorem cm_75 : cdW 75 ∈ lw_tbl := ts_2 (List.mem_of_getElem? (i := 220) rfl)
theorem cm_76 : cdW 76 ∈ lw_tbl := ts_2 (List.mem_of_getElem? (i := 224) rfl)
theorem cm_77 : cdW 77 ∈ lw_tbl := ts_2 (List.mem_of_getElem? (i := 227) rfl)
theorem cm_78 : cdW 78 ∈ lw_tbl := ts_2 (List.mem_of_getElem? (i := 230) rfl)
theorem cm_79 : cdW 79 ∈ lw_tbl := ts_2 (List.mem_of_getElem? (i := 234) rfl)
theorem cm_80 : cdW 80 ∈ lw_tbl := ts_2 (List.mem_of_getElem? (i := 238) rfl)
theorem cm_81 : cdW 81 ∈ lw_tbl := ts_3 (List.mem_of_getElem? (i := 89) rfl)
theorem cm_82 : cdW 82 ∈ lw_tbl := ts_3 (List.mem_of_getElem? (i := 113) rfl)
theorem cm_83 : cdW 83 ∈ lw_tbl := ts_1 (List.mem_of_getElem? (i := 115) rfl)
theorem cm_84 : cdW 84 ∈ lw_tbl := ts_3 (List.mem_of_getElem? (i := 109) rfl)
theorem cm_85 : cdW 85 ∈ lw_tbl := ts_3 (List.mem_of_getElem? (i := 222) rfl)
theorem cm_86 : cdW 86 ∈ lw_tbl := ts_4 (List.mem_of_getElem? (i := 59) rfl)
theorem cm_87 : cdW 87 ∈ lw_tbl := ts_4 (List.mem_of_getElem? (i := 71) rfl)
theorem cm_88 : cdW 88 ∈ lw_tbl := ts_4 (List.mem_of_getElem? (i := 87) rfl)
theorem cm_89 : cdW 89 ∈ lw_tbl := ts_4 (List.mem_of_getElem? (i := 211) rfl)
theorem cm_90 : cdW 90 ∈ lw_tbl := ts_4 (List.mem_of_getElem? (i := 216) rfl)
theorem cm_91 : cdW 91 ∈ lw_tbl := ts_5 (List.mem_of_getElem? (i := 183) rfl)
theorem cm_92 : cdW 92 ∈ lw_tbl := ts_5 (List.mem_of_getElem? (i := 187) rfl)
theorem cm_93 : cdW 93 ∈ lw_tbl := ts_5 (List.mem_of_getElem? (i := 190) rfl)
theorem cm_94 : cdW 94 ∈ lw_tbl := ts_5 (List.mem_of_getElem? (i := 194) rfl)
theorem cm_95 : cdW 95 ∈ lw_tbl := ts_5 (List.mem_of_getElem? (i := 199) rfl)
theorem cm_96 : cdW 96 ∈ lw_tbl := ts_5 (List.mem_of_getElem? (i := 203) rfl)
theorem cm_97 : cdW 97 ∈ lw_tbl := ts_5 (List.mem_of_getElem? (i := 207) rfl)
theorem cm_98 : cdW 98 ∈ lw_tbl := ts_5 (List.mem_of_getElem? (i := 211) rfl)
theorem cm_99 : cdW 99 ∈ lw_tbl := ts_5 (List.mem_of_getElem? (i := 215) rfl)
theorem cm_100 : cdW 100 ∈ lw_tbl := ts_5 (List.mem_of_getElem? (i := 219) rfl)
theorem cm_101 : cdW 101 ∈ lw_tbl := ts_5 (List.mem_of_getElem? (i := 223) rfl)
theorem cm_102 : cdW 102 ∈ lw_tbl := ts_5 (List.mem_of_getElem? (i := 227) rfl)
theorem cm_103 : cdW 103 ∈ lw_tbl := ts_5 (List.mem_of_getElem? (i := 231) rfl)
theorem cm_104 : cdW 104 ∈ lw_tbl := ts_5 (List.mem_of_getElem? (i := 234) rfl)
theorem cm_105 : cdW 105 ∈ lw_tbl := ts_5 (List.mem_of_getElem? (i := 238) rfl)
theorem cm_106 : cdW 106 ∈ lw_tbl := ts_6 (List.mem_of_getElem? (i := 2) rfl)
theorem cm_107 : cdW 107 ∈ lw_tbl := ts_6 (List.mem_of_getElem? (i := 6) rfl)
theorem cm_108 : cdW 108 ∈ lw_tbl := ts_6 (List.mem_of_getElem? (i := 10) rfl)
theorem cm_109 : cdW 109 ∈ lw_tbl := ts_6 (List.mem_of_getElem? (i := 14) rfl)
theorem cm_110 : cdW 110 ∈ lw_tbl := ts_6 (List.mem_of_getElem? (i := 18) rfl)
theorem cm_111 : cdW 111 ∈ lw_tbl := ts_6 (List.mem_of_getElem? (i := 22) rfl)
theorem cm_112 : cdW 112 ∈ lw_tbl := ts_6 (List.mem_of_getElem? (i := 26) rfl)
theorem cm_113 : cdW 113 ∈ lw_tbl := ts_6 (List.mem_of_getElem? (i := 30) rfl)
theorem cm_114 : cdW 114 ∈ lw_tbl := ts_6 (List.mem_of_getElem? (i := 34) rfl)
theorem cm_115 : cdW 115 ∈ lw_tbl := ts_6 (List.mem_of_getElem? (i := 38) rfl)
theorem cm_116 : cdW 116 ∈ lw_tbl := ts_6 (List.mem_of_getElem? (i := 42) rfl)
theorem cm_117 : cdW 117 ∈ lw_tbl := ts_6 (List.mem_of_getElem? (i := 46) rfl)
theorem cm_118 : cdW 118 ∈ lw_tbl := ts_6 (List.mem_of_getElem? (i := 50) rfl)
theorem cm_119 : cdW 119 ∈ lw_tbl := ts_6 (List.mem_of_getElem? (i := 54) rfl)
theorem cm_120 : cdW 120 ∈ lw_tbl := ts_6 (List.mem_of_getElem? (i := 58) rfl)
theorem cm_121 : cdW 121 ∈ lw_tbl := ts_6 (List.mem_of_getElem? (i := 62) rfl)
theorem cm_122 : cdW 122 ∈ lw_tbl := ts_6 (List.mem_of_getElem? (i := 66) rfl)
theorem cm_123 : cdW 123 ∈ lw_tbl := ts_6 (List.mem_of_getElem? (i := 70) rfl)
theorem cm_124 : cdW 124 ∈ lw_tbl := ts_6 (List.mem_of_getElem? (i := 74) rfl)
theorem cm_125 : cdW 125 ∈ lw_tbl := ts_6 (List.mem_of_getElem? (i := 78) rfl)
theorem cm_126 : cdW 126 ∈ lw_tbl := ts_6 (List.mem_of_getElem? (i := 82) rfl)
theorem cm_127 : cdW 127 ∈ lw_tbl := ts_6 (List.mem_of_getElem? (i := 86) rfl)
theorem cm_128 : cdW 128 ∈ lw_tbl := ts_6 (List.mem_of_getElem? (i := 90) rfl)
theorem cm_129 : cdW 129 ∈ lw_tbl := ts_6 (List.mem_of_getElem? (i := 94) rfl)
theorem cm_130 : cdW 130 ∈ lw_tbl := ts_6 (List.mem_of_getElem? (i := 98) rfl)
theorem cm_131 : cdW 131 ∈ lw_tbl := ts_6 (List.mem_of_getElem? (i := 102) rfl)
theorem cm_132 : cdW 132 ∈ lw_tbl := ts_6 (List.mem_of_getElem? (i := 106) rfl)
theorem cm_133 : cdW 133 ∈ lw_tbl := ts_6 (List.mem_of_getElem? (i := 110) rfl)
theorem cm_134 : cdW 134 ∈ lw_tbl := ts_6 (List.mem_of_getElem? (i := 114) rfl)
theorem cm_135 : cdW 135 ∈ lw_tbl := ts_6 (List.mem_of_getElem? (i := 118) rfl)
theorem cm_136 : cdW 136 ∈ lw_tbl := ts_6 (List.mem_of_getElem? (i := 122) rfl)
theorem cm_137 : cdW 137 ∈ lw_tbl := ts_6 (List.mem_of_getElem? (i := 126) rfl)
theorem cm_138 : cdW 138 ∈ lw_tbl := ts_6 (List.mem_of_getElem? (i := 130) rfl)
theorem cm_139 : cdW 139 ∈ lw_tbl := ts_6 (List.mem_of_getElem? (i := 134) rfl)
theorem cm_140 : cdW 140 ∈ lw_tbl := ts_6 (List.mem_of_getElem? (i := 138) rfl)
theorem cm_141 : cdW 141 ∈ lw_tbl := ts_6 (List.mem_of_getElem? (i := 142) rfl)
theorem cm_142 : cdW 142 ∈ lw_tbl := ts_6 (List.mem_of_getElem? (i := 146) rfl)
theorem cm_143 : cdW 143 ∈ lw_tbl := ts_6 (List.mem_of_getElem? (i := 150) rfl)
theorem cm_144 : cdW 144 ∈ lw_tbl := ts_6 (List.mem_of_getElem? (i := 154) rfl)
theorem cm_145 : cdW 145 ∈ lw_tbl := ts_6 (List.mem_of_getElem? (i := 158) rfl)
theorem cm_146 : cdW 146 ∈ lw_tbl := ts_6 (List.mem_of_getElem? (i := 162) rfl)
theorem cm_147 : cdW 147 ∈ lw_tbl := ts_6 (List.mem_of_getElem? (i := 166) rfl)
theorem cm_148 : cdW 148 ∈ lw_tbl := ts_6 (List.mem_of_getElem? (i := 170) rfl)
theorem cm_149 : cdW 149 ∈ lw_tbl := ts_6 (List.mem_of_getElem? (i := 174) rfl)
theorem cm_150 : cdW 150 ∈ lw_tbl := ts_6 (List.mem_of_getElem? (i := 178) rfl)
theorem cm_151 : cdW 151 ∈ lw_tbl := ts_2 (List.mem_of_getElem? (i := 80) rfl)
theorem cm_152 : cdW 152 ∈ lw_tbl := ts_2 (List.mem_of_getElem? (i := 175) rfl)
theorem cm_153 : cdW 153 ∈ lw_tbl := ts_4 (List.mem_of_getElem? (i := 12) rfl)
theorem cm_154 : cdW 154 ∈ lw_tbl := ts_4 (List.mem_of_getElem? (i := 39) rfl)
theorem cm_155 : cdW 155 ∈ lw_tbl := ts_4 (List.mem_of_getElem? (i := 95) rfl)
theorem cm_156 : cdW 156 ∈ lw_tbl := ts_4 (List.mem_of_getElem? (i := 106) rfl)
theorem cm_157 : cdW 157 ∈ lw_tbl := ts_4 (List.mem_of_getElem? (i := 113) rfl)
theorem cm_158 : cdW 158 ∈ lw_tbl := ts_4 (List.mem_of_getElem? (i := 120) rfl)
theorem cm_159 : cdW 159 ∈ lw_tbl := ts_4 (List.mem_of_getElem? (i := 131) rfl)
theorem cm_160 : cdW 160 ∈ lw_tbl := ts_4 (List.mem_of_getElem? (i := 158) rfl)
theorem cm_161 : cdW 161 ∈ lw_tbl := ts_4 (List.mem_of_getElem? (i := 172) rfl)
theorem cm_162 : cdW 162 ∈ lw_tbl := ts_4 (List.mem_of_getElem? (i := 198) rfl)
theorem cm_163 : cdW 163 ∈ lw_tbl := ts_3 (List.mem_of_getElem? (i := 30) rfl)
theorem cm_164 : cdW 164 ∈ lw_tbl := ts_3 (List.mem_of_getElem? (i := 33) rfl)
theorem cm_165 : cdW 165 ∈ lw_tbl := ts_4 (List.mem_of_getElem? (i := 9) rfl)
theorem cm_166 : cdW 166 ∈ lw_tbl := ts_3 (List.mem_of_getElem? (i := 3) rfl)
theorem cm_167 : cdW 167 ∈ lw_tbl := ts_3 (List.mem_of_getElem? (i := 7) rfl)
theorem cm_168 : cdW 168 ∈ lw_tbl := ts_3 (List.mem_of_getElem? (i := 11) rfl)
theorem cm_169 : cdW 169 ∈ lw_tbl := ts_3 (List.mem_of_getElem? (i := 17) rfl)
theorem cm_170 : cdW 170 ∈ lw_tbl := ts_3 (List.mem_of_getElem? (i := 21) rfl)
theorem cm_171 : cdW 171 ∈ lw_tbl := ts_3 (List.mem_of_getElem? (i := 156) rfl)
theorem cm_172 : cdW 172 ∈ lw_tbl := ts_3 (List.mem_of_getElem? (i := 162) rfl)
theorem cm_173 : cdW 173 ∈ lw_tbl := ts_3 (List.mem_of_getElem? (i := 24) rfl)
theorem cm_174 : cdW 174 ∈ lw_tbl := ts_3 (List.mem_of_getElem? (i := 27) rfl)
theorem cm_175 : cdW 175 ∈ lw_tbl := ts_3 (List.mem_of_getElem? (i := 36) rfl)
theorem cm_176 : cdW 176 ∈ lw_tbl := ts_3 (List.mem_of_getElem? (i := 159) rfl)
theorem cm_177 : cdW 177 ∈ lw_tbl := ts_3 (List.mem_of_getElem? (i := 165) rfl)
