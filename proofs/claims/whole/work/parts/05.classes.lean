/-! The classes, their fields; the words that the links stand for, by their places. Written by wip/whole/gen/mk05.py. -/
def cNm : Nat → String := fun c => match c with
  | 0 => "MovingBoxes"
  | 1 => "MovingBoxes$Explorer"
  | 2 => "MovingBoxes$Line"
  | 3 => "MovingBoxes$Redexes"
  | 4 => "MovingBoxes$State"
  | 5 => "MovingBoxes$Teller"
  | 6 => "MovingBoxes$Term"
  | 7 => "MovingBoxes$Things"
  | 8 => "MovingBoxesModel"
  | 9 => "MovingBoxesLaw"
  | 10 => "java/lang/Math"
  | 11 => "java/lang/Integer"
  | 12 => "java/lang/String"
  | 13 => "java/lang/StringLatin1"
  | _ => "jdk/internal/util/Preconditions"
def cNf (c : Nat) : Nat := [11, 7, 2, 5, 6, 7, 8, 6, 67].getD c 0
def cTb0 : u_T := fun k => match k with
  | 0 => ("MovingBoxes", "written", "[C", true)
  | 1 => ("MovingBoxes", "writtenLength", "I", false)
  | 2 => ("MovingBoxes", "term", "LMovingBoxes$Term;", true)
  | 3 => ("MovingBoxes", "teller", "LMovingBoxes$Teller;", true)
  | 4 => ("MovingBoxes", "state", "LMovingBoxes$State;", false)
  | 5 => ("MovingBoxes", "spare", "LMovingBoxes$State;", false)
  | 6 => ("MovingBoxes", "present", "LMovingBoxes$Redexes;", false)
  | 7 => ("MovingBoxes", "past", "LMovingBoxes$Redexes;", false)
  | 8 => ("MovingBoxes", "steps", "I", false)
  | 9 => ("MovingBoxes", "kept", "[LMovingBoxes$Line;", true)
  | _ => ("MovingBoxes", "explorer", "LMovingBoxes$Explorer;", true)
def cTy0 : Nat → FieldType := fun k => match k with
  | 0 => .array .char
  | 1 => .int
  | 2 => .object "MovingBoxes$Term"
  | 3 => .object "MovingBoxes$Teller"
  | 4 => .object "MovingBoxes$State"
  | 5 => .object "MovingBoxes$State"
  | 6 => .object "MovingBoxes$Redexes"
  | 7 => .object "MovingBoxes$Redexes"
  | 8 => .int
  | 9 => .array (.object "MovingBoxes$Line")
  | _ => .object "MovingBoxes$Explorer"
def cTb1 : u_T := fun k => match k with
  | 0 => ("MovingBoxes$Explorer", "found", "[LMovingBoxes$State;", true)
  | 1 => ("MovingBoxes$Explorer", "distance", "[I", true)
  | 2 => ("MovingBoxes$Explorer", "redexes", "LMovingBoxes$Redexes;", true)
  | 3 => ("MovingBoxes$Explorer", "size", "I", false)
  | 4 => ("MovingBoxes$Explorer", "isComplete", "Z", false)
  | 5 => ("MovingBoxes$Explorer", "stuck", "I", false)
  | _ => ("MovingBoxes$Explorer", "nearest", "I", false)
def cTy1 : Nat → FieldType := fun k => match k with
  | 0 => .array (.object "MovingBoxes$State")
  | 1 => .array .int
  | 2 => .object "MovingBoxes$Redexes"
  | 3 => .int
  | 4 => .boolean
  | 5 => .int
  | _ => .int
def cTb2 : u_T := fun k => match k with
  | 0 => ("MovingBoxes$Line", "letters", "[C", true)
  | _ => ("MovingBoxes$Line", "length", "I", false)
def cTy2 : Nat → FieldType := fun k => match k with
  | 0 => .array .char
  | _ => .int
def cTb3 : u_T := fun k => match k with
  | 0 => ("MovingBoxes$Redexes", "kind", "[I", true)
  | 1 => ("MovingBoxes$Redexes", "guard", "[I", true)
  | 2 => ("MovingBoxes$Redexes", "other", "[I", true)
  | 3 => ("MovingBoxes$Redexes", "since", "[I", true)
  | _ => ("MovingBoxes$Redexes", "size", "I", false)
def cTy3 : Nat → FieldType := fun k => match k with
  | 0 => .array .int
  | 1 => .array .int
  | 2 => .array .int
  | 3 => .array .int
  | _ => .int
def cTb4 : u_T := fun k => match k with
  | 0 => ("MovingBoxes$State", "places", "LMovingBoxes$Things;", true)
  | 1 => ("MovingBoxes$State", "guards", "LMovingBoxes$Things;", true)
  | 2 => ("MovingBoxes$State", "messages", "LMovingBoxes$Things;", true)
  | 3 => ("MovingBoxes$State", "text", "LMovingBoxes$Line;", true)
  | 4 => ("MovingBoxes$State", "nextNumber", "I", false)
  | _ => ("MovingBoxes$State", "isTooMuch", "Z", false)
def cTy4 : Nat → FieldType := fun k => match k with
  | 0 => .object "MovingBoxes$Things"
  | 1 => .object "MovingBoxes$Things"
  | 2 => .object "MovingBoxes$Things"
  | 3 => .object "MovingBoxes$Line"
  | 4 => .int
  | _ => .boolean
def cTb5 : u_T := fun k => match k with
  | 0 => ("MovingBoxes$Teller", "letters", "[C", true)
  | 1 => ("MovingBoxes$Teller", "ordered", "[C", true)
  | 2 => ("MovingBoxes$Teller", "length", "I", false)
  | 3 => ("MovingBoxes$Teller", "begin", "[I", true)
  | 4 => ("MovingBoxes$Teller", "end", "[I", true)
  | 5 => ("MovingBoxes$Teller", "pieces", "I", false)
  | _ => ("MovingBoxes$Teller", "isTooLong", "Z", false)
def cTy5 : Nat → FieldType := fun k => match k with
  | 0 => .array .char
  | 1 => .array .char
  | 2 => .int
  | 3 => .array .int
  | 4 => .array .int
  | 5 => .int
  | _ => .boolean
def cTb6 : u_T := fun k => match k with
  | 0 => ("MovingBoxes$Term", "kind", "[I", true)
  | 1 => ("MovingBoxes$Term", "name", "[C", true)
  | 2 => ("MovingBoxes$Term", "isReplica", "[Z", true)
  | 3 => ("MovingBoxes$Term", "end", "[I", true)
  | 4 => ("MovingBoxes$Term", "size", "I", false)
  | 5 => ("MovingBoxes$Term", "letters", "[C", true)
  | 6 => ("MovingBoxes$Term", "length", "I", false)
  | _ => ("MovingBoxes$Term", "at", "I", false)
def cTy6 : Nat → FieldType := fun k => match k with
  | 0 => .array .int
  | 1 => .array .char
  | 2 => .array .boolean
  | 3 => .array .int
  | 4 => .int
  | 5 => .array .char
  | 6 => .int
  | _ => .int
def cTb7 : u_T := fun k => match k with
  | 0 => ("MovingBoxes$Things", "number", "[I", true)
  | 1 => ("MovingBoxes$Things", "in", "[I", true)
  | 2 => ("MovingBoxes$Things", "name", "[I", true)
  | 3 => ("MovingBoxes$Things", "node", "[I", true)
  | 4 => ("MovingBoxes$Things", "meanings", "[I", true)
  | _ => ("MovingBoxes$Things", "size", "I", false)
def cTy7 : Nat → FieldType := fun k => match k with
  | 0 => .array .int
  | 1 => .array .int
  | 2 => .array .int
  | 3 => .array .int
  | 4 => .array .int
  | _ => .int
def cTb8 : u_T := fun k => match k with
  | 0 => ("MovingBoxesModel", "thrown", "I", false)
  | 1 => ("MovingBoxesModel", "bad", "I", false)
  | 2 => ("MovingBoxesModel", "length", "I", false)
  | 3 => ("MovingBoxesModel", "text", "[I", true)
  | 4 => ("MovingBoxesModel", "nodes", "I", false)
  | 5 => ("MovingBoxesModel", "chars", "I", false)
  | 6 => ("MovingBoxesModel", "at", "I", false)
  | 7 => ("MovingBoxesModel", "plain", "[I", true)
  | 8 => ("MovingBoxesModel", "kind", "[I", true)
  | 9 => ("MovingBoxesModel", "replica", "[Z", true)
  | 10 => ("MovingBoxesModel", "name", "[I", true)
  | 11 => ("MovingBoxesModel", "first", "[I", true)
  | 12 => ("MovingBoxesModel", "last", "[I", true)
  | 13 => ("MovingBoxesModel", "next", "[I", true)
  | 14 => ("MovingBoxesModel", "open", "I", false)
  | 15 => ("MovingBoxesModel", "sort", "[I", true)
  | 16 => ("MovingBoxesModel", "owner", "[I", true)
  | 17 => ("MovingBoxesModel", "bound", "[I", true)
  | 18 => ("MovingBoxesModel", "placeNumber", "[I", true)
  | 19 => ("MovingBoxesModel", "placeName", "[I", true)
  | 20 => ("MovingBoxesModel", "inside", "[I", true)
  | 21 => ("MovingBoxesModel", "guardNumber", "[I", true)
  | 22 => ("MovingBoxesModel", "guardNode", "[I", true)
  | 23 => ("MovingBoxesModel", "guardAt", "[I", true)
  | 24 => ("MovingBoxesModel", "meaning", "[I", true)
  | 25 => ("MovingBoxesModel", "messageNumber", "[I", true)
  | 26 => ("MovingBoxesModel", "messageName", "[I", true)
  | 27 => ("MovingBoxesModel", "messageAt", "[I", true)
  | 28 => ("MovingBoxesModel", "number", "I", false)
  | 29 => ("MovingBoxesModel", "steps", "I", false)
  | 30 => ("MovingBoxesModel", "full", "Z", false)
  | 31 => ("MovingBoxesModel", "came", "[I", true)
  | 32 => ("MovingBoxesModel", "whoGuard", "[I", true)
  | 33 => ("MovingBoxesModel", "whoOther", "[I", true)
  | 34 => ("MovingBoxesModel", "runs", "I", false)
  | 35 => ("MovingBoxesModel", "runNode", "[I", true)
  | 36 => ("MovingBoxesModel", "runPlace", "[I", true)
  | 37 => ("MovingBoxesModel", "used", "I", false)
  | 38 => ("MovingBoxesModel", "strings", "I", false)
  | 39 => ("MovingBoxesModel", "frames", "I", false)
  | 40 => ("MovingBoxesModel", "pool", "[I", true)
  | 41 => ("MovingBoxesModel", "from", "[I", true)
  | 42 => ("MovingBoxesModel", "size", "[I", true)
  | 43 => ("MovingBoxesModel", "frameKind", "[I", true)
  | 44 => ("MovingBoxesModel", "frameThing", "[I", true)
  | 45 => ("MovingBoxesModel", "frameNext", "[I", true)
  | 46 => ("MovingBoxesModel", "frameBase", "[I", true)
  | 47 => ("MovingBoxesModel", "frameMask", "[I", true)
  | 48 => ("MovingBoxesModel", "guardOf", "I", false)
  | 49 => ("MovingBoxesModel", "stateSize", "I", false)
  | 50 => ("MovingBoxesModel", "keptSize", "[I", true)
  | 51 => ("MovingBoxesModel", "kept", "[J", true)
  | 52 => ("MovingBoxesModel", "found", "I", false)
  | 53 => ("MovingBoxesModel", "gone", "I", false)
  | 54 => ("MovingBoxesModel", "still", "I", false)
  | 55 => ("MovingBoxesModel", "shown", "I", false)
  | 56 => ("MovingBoxesModel", "greatest", "I", false)
  | 57 => ("MovingBoxesModel", "explored", "Z", false)
  | 58 => ("MovingBoxesModel", "everything", "Z", false)
  | 59 => ("MovingBoxesModel", "states", "[I", true)
  | 60 => ("MovingBoxesModel", "stateSizes", "[I", true)
  | 61 => ("MovingBoxesModel", "stateTexts", "[J", true)
  | 62 => ("MovingBoxesModel", "distances", "[I", true)
  | 63 => ("MovingBoxesModel", "put", "[I", true)
  | 64 => ("MovingBoxesModel", "heads", "[I", true)
  | 65 => ("MovingBoxesModel", "redexGuard", "I", false)
  | _ => ("MovingBoxesModel", "redexOther", "I", false)
def cTy8 : Nat → FieldType := fun k => match k with
  | 0 => .int
  | 1 => .int
  | 2 => .int
  | 3 => .array .int
  | 4 => .int
  | 5 => .int
  | 6 => .int
  | 7 => .array .int
  | 8 => .array .int
  | 9 => .array .boolean
  | 10 => .array .int
  | 11 => .array .int
  | 12 => .array .int
  | 13 => .array .int
  | 14 => .int
  | 15 => .array .int
  | 16 => .array .int
  | 17 => .array .int
  | 18 => .array .int
  | 19 => .array .int
  | 20 => .array .int
  | 21 => .array .int
  | 22 => .array .int
  | 23 => .array .int
  | 24 => .array .int
  | 25 => .array .int
  | 26 => .array .int
  | 27 => .array .int
  | 28 => .int
  | 29 => .int
  | 30 => .boolean
  | 31 => .array .int
  | 32 => .array .int
  | 33 => .array .int
  | 34 => .int
  | 35 => .array .int
  | 36 => .array .int
  | 37 => .int
  | 38 => .int
  | 39 => .int
  | 40 => .array .int
  | 41 => .array .int
  | 42 => .array .int
  | 43 => .array .int
  | 44 => .array .int
  | 45 => .array .int
  | 46 => .array .int
  | 47 => .array .int
  | 48 => .int
  | 49 => .int
  | 50 => .array .int
  | 51 => .array .long
  | 52 => .int
  | 53 => .int
  | 54 => .int
  | 55 => .int
  | 56 => .int
  | 57 => .boolean
  | 58 => .boolean
  | 59 => .array .int
  | 60 => .array .int
  | 61 => .array .long
  | 62 => .array .int
  | 63 => .array .int
  | 64 => .array .int
  | 65 => .int
  | _ => .int
def cTb : Nat → u_T := fun c => match c with
  | 0 => cTb0
  | 1 => cTb1
  | 2 => cTb2
  | 3 => cTb3
  | 4 => cTb4
  | 5 => cTb5
  | 6 => cTb6
  | 7 => cTb7
  | _ => cTb8
def cTy : Nat → Nat → FieldType := fun c => match c with
  | 0 => cTy0
  | 1 => cTy1
  | 2 => cTy2
  | 3 => cTy3
  | 4 => cTy4
  | 5 => cTy5
  | 6 => cTy6
  | 7 => cTy7
  | _ => cTy8
def tyFL : List (List Nat) := [[2, 0, 2, 2, 2, 2, 2, 2, 0, 2, 2], [2, 2, 2, 0, 3, 0, 0], [2, 0], [2, 2, 2, 2, 0], [2, 2, 2, 2, 0, 3], [2, 2, 0, 2, 2, 0, 3], [2, 2, 2, 2, 0, 2, 0, 0], [2, 2, 2, 2, 2, 0], [0, 0, 0, 2, 0, 0, 0, 2, 2, 2, 2, 2, 2, 2, 0, 2, 2, 2, 2, 2, 2, 2, 2, 2, 2, 2, 2, 2, 0, 0, 3, 2, 2, 2, 0, 2, 2, 0, 0, 0, 2, 2, 2, 2, 2, 2, 2, 2, 0, 0, 2, 2, 0, 0, 0, 0, 0, 3, 3, 2, 2, 2, 2, 2, 2, 0, 0]]
def tyF (c k : Nat) : Nat := (tyFL.getD c []).getD k 0
def clT : List vw_C := (List.range 9).map fun c => (cNm c, cTb c, cNf c)
theorem clT_at {c : Nat} (h : c < 9) : clT[c]? = some (cNm c, cTb c, cNf c) := by
  unfold clT
  rw [List.getElem?_map, List.getElem?_range h]
  rfl
theorem tm {i : Nat} {w : Cond} (h : tables_1[i]? = some w) : w ∈ lw_tbl := List.mem_append_right _ (List.mem_of_getElem? h)
theorem lk2_mem {α : Type} : ∀ {l : List (Nat × (Nat × α))} {a b : Nat} {v : α}, lk2 l a b = some v → (a, (b, v)) ∈ l := by
  intro l
  induction l with
  | nil => intro a b v h; cases h
  | cons q t ih =>
    intro a b v h
    obtain ⟨x, y, w⟩ := q
    unfold lk2 at h
    split at h
    · rename_i hc
      cases h
      rw [hc.1, hc.2]
      exact List.mem_cons_self
    · exact List.mem_cons_of_mem _ (ih h)
theorem zip_all {α β : Type} {l : List α} {r : List β} {f : α × β → Bool} (h : (l.zip r).all f = true) (hl : l.length = r.length) {x : α} (hx : x ∈ l) : ∃ y, f (x, y) = true := by
  obtain ⟨i, hi⟩ := List.getElem?_of_mem hx
  have hlt : i < l.length := (List.getElem?_eq_some_iff.mp hi).1
  have h2 : (l.zip r)[i]? = some (x, r[i]'(hl ▸ hlt)) := by
    rw [List.getElem?_zip_eq_some]
    exact ⟨hi, List.getElem?_eq_getElem _⟩
  exact ⟨_, List.all_eq_true.mp h _ (List.mem_of_getElem? h2)⟩
def layP : List (List Nat) := [[287, 289, 291, 293, 295, 297, 299, 301, 303, 305, 307], [256, 258, 260, 262, 264, 266, 268], [165, 167], [221, 223, 225, 227, 229], [189, 191, 193, 195, 197, 199], [90, 92, 94, 96, 98, 100, 102], [57, 59, 61, 63, 65, 67, 69, 71], [140, 142, 144, 146, 148, 150], [1004, 1006, 1008, 1010, 1012, 1014, 1016, 1018, 1020, 1022, 1024, 1026, 1028, 1030, 1032, 1034, 1036, 1038, 1040, 1042, 1044, 1046, 1048, 1050, 1052, 1054, 1056, 1058, 1060, 1062, 1064, 1066, 1068, 1070, 1072, 1074, 1076, 1078, 1080, 1082, 1084, 1086, 1088, 1090, 1092, 1094, 1096, 1098, 1100, 1102, 1104, 1106, 1108, 1110, 1112, 1114, 1116, 1118, 1120, 1122, 1124, 1126, 1128, 1130, 1132, 1134, 1136]]
theorem lay_ok : ∀ c, c < 9 → ∀ k, k < cNf c → tables_1[(layP.getD c []).getD k 0]? = some (u_lay (cNm c) (cTb c) k) := by decide +kernel
theorem lay_in {c : Nat} (h : c < 9) : ∀ w ∈ u_ws (cNm c) (cTb c) (cNf c), w ∈ lw_tbl := by
  intro w hw
  obtain ⟨k, hk, rfl⟩ := List.mem_map.mp hw
  exact tm (lay_ok c h k (List.mem_range.mp hk))
theorem cTy_ok : ∀ c, c < 9 → ∀ k, k < cNf c → parseFieldDescriptor (cTb c k).2.2.1 = some (cTy c k) := by decide +kernel
theorem cNm_ne : ∀ c, c < 9 → ∀ a, a < cNf c → ∀ b, b < cNf c → a ≠ b → (cTb c a).2.1 ≠ (cTb c b).2.1 := by decide +kernel
theorem cOwn : ∀ c, c < 9 → ∀ k, k < cNf c → (cTb c k).1 = cNm c := by decide +kernel
def iniP : List Nat := [1, 8, 6, 7, 4, 3, 2, 5, 9, 0, 17, 23, 15, 16, 19]
def insP : List Nat := [27, 235, 154, 203, 106, 78, 35, 112, 928]
theorem ini_ok : ∀ c, c < 15 → tables_1[iniP.getD c 0]? = some (.initialized (cNm c)) := by decide +kernel
theorem ins_ok : ∀ c, c < 9 → tables_1[insP.getD c 0]? = some (.instantiable (cNm c) (cNf c)) := by decide +kernel
def lfP : List (Nat × Bool) := [(276, false), (278, false), (279, false), (280, false), (281, false), (282, false), (283, false), (285, false), (286, false), (277, false), (284, false), (53, true), (220, true), (209, true), (212, true), (215, true), (217, true), (173, true), (139, true), (177, true), (181, true), (187, true), (185, true), (164, true), (161, true), (249, true), (251, true), (253, true), (255, true), (245, false), (246, false), (247, false), (254, false), (248, false), (250, false), (252, false), (219, true), (184, true), (159, false), (162, false), (208, false), (210, false), (213, false), (216, false), (218, false), (176, true), (138, true), (42, true), (130, true), (172, true), (122, true), (126, true), (119, true), (180, true), (170, false), (174, false), (178, false), (182, false), (136, true), (186, false), (188, false), (160, true), (163, true), (52, true), (211, true), (214, true), (131, true), (123, true), (134, true), (49, true), (43, true), (46, true), (127, true), (83, false), (84, false), (86, false), (87, false), (85, false), (88, false), (89, false), (183, true), (171, true), (137, true), (121, true), (125, true), (118, true), (175, true), (129, true), (133, true), (179, true), (41, true), (45, true), (48, true), (40, false), (44, false), (47, false), (50, false), (54, false), (55, false), (51, false), (56, false), (117, false), (120, false), (124, false), (128, false), (132, false), (135, false), (940, false), (944, false), (945, false), (946, false), (947, false), (948, false), (949, false), (950, false), (952, false), (953, false), (954, false), (955, false), (956, false), (957, false), (958, false), (959, false), (960, false), (961, false), (962, false), (963, false), (964, false), (968, false), (969, false), (970, false), (972, false), (973, false), (977, false), (978, false), (979, false), (980, false), (981, false), (982, false), (983, false), (984, false), (987, false), (988, false), (996, false), (997, false), (998, false), (999, false), (1000, false), (1001, false), (937, false), (938, false), (939, false), (943, false), (942, false), (941, false), (951, false), (965, false), (966, false), (967, false), (986, false), (971, false), (974, false), (976, false), (975, false), (985, false), (1002, false), (1003, false), (994, false), (989, false), (993, false), (992, false), (990, false), (991, false), (995, false)]
def lfC (q : (Nat × (Nat × (Nat × (Nat × Nat)))) × (Nat × Bool)) : Bool :=
  decide (q.1.2.2.1 < 9) && decide (q.1.2.2.2.1 < cNf q.1.2.2.1) && (tyF q.1.2.2.1 q.1.2.2.2.1 == q.1.2.2.2.2) &&
  (if q.2.2 = true then decide (tables_1[q.2.1]? = some (.fieldLinkNest (cNm q.1.1) q.1.2.1 (cNm q.1.2.2.1) (cTb q.1.2.2.1 q.1.2.2.2.1).2.1 (cTb q.1.2.2.1 q.1.2.2.2.1).2.2.1 "MovingBoxes"))
   else decide (tables_1[q.2.1]? = some (.fieldLink (cNm q.1.1) q.1.2.1 (cNm q.1.2.2.1) (cTb q.1.2.2.1 q.1.2.2.2.1).2.1 (cTb q.1.2.2.1 q.1.2.2.2.1).2.2.1)))
theorem lf_all : (tLfL.zip lfP).all lfC = true := by decide +kernel
theorem lf_ok {o k c f t : Nat} (h : tLf o k = some (c, (f, t))) : c < 9 ∧ f < cNf c ∧ tyF c f = t ∧
    (Cond.fieldLinkNest (cNm o) k (cNm c) (cTb c f).2.1 (cTb c f).2.2.1 "MovingBoxes" ∈ lw_tbl ∨ Cond.fieldLink (cNm o) k (cNm c) (cTb c f).2.1 (cTb c f).2.2.1 ∈ lw_tbl) := by
  obtain ⟨y, hy⟩ := zip_all lf_all rfl (lk2_mem h)
  simp only [lfC, Bool.and_eq_true, decide_eq_true_eq, beq_iff_eq] at hy
  obtain ⟨⟨⟨h1, h2⟩, h3⟩, h4⟩ := hy
  refine ⟨h1, h2, h3, ?_⟩
  split at h4
  · exact Or.inl (tm (of_decide_eq_true h4))
  · exact Or.inr (tm (of_decide_eq_true h4))
def lcP : List Nat := [26, 34, 77, 105, 111, 153, 202, 232, 234, 240, 242, 927]
def lcC (q : (Nat × (Nat × (Nat × Nat))) × Nat) : Bool := decide (q.1.2.2.1 < 9) && (q.1.2.2.2 == cNf q.1.2.2.1) && decide (tables_1[q.2]? = some (.classLink (cNm q.1.1) q.1.2.1 (cNm q.1.2.2.1)))
theorem lc_all : (tLcL.zip lcP).all lcC = true := by decide +kernel
theorem lc_ok {o k c n : Nat} (h : tLc o k = some (c, n)) : c < 9 ∧ n = cNf c ∧ Cond.classLink (cNm o) k (cNm c) ∈ lw_tbl := by
  obtain ⟨y, hy⟩ := zip_all lc_all rfl (lk2_mem h)
  simp only [lcC, Bool.and_eq_true, decide_eq_true_eq, beq_iff_eq] at hy
  exact ⟨hy.1.1, hy.1.2, tm hy.2⟩
def laP : List (Nat × Nat) := [(232, 233), (240, 241)]
def laC (q : (Nat × (Nat × Nat)) × (Nat × Nat)) : Bool := (q.1.2.2 == 2 || q.1.2.2 == 4) && decide (tables_1[q.2.1]? = some (.classLink (cNm q.1.1) q.1.2.1 (cNm q.1.2.2))) && decide (tables_1[q.2.2]? = some (.arrayOver (.object (cNm q.1.2.2))))
theorem la_all : (tLaL.zip laP).all laC = true := by decide +kernel
theorem la_ok {o k c : Nat} (h : tLa o k = some c) : (c = 2 ∨ c = 4) ∧ Cond.classLink (cNm o) k (cNm c) ∈ lw_tbl ∧ Cond.arrayOver (.object (cNm c)) ∈ lw_tbl := by
  obtain ⟨y, hy⟩ := zip_all la_all rfl (lk2_mem h)
  simp only [laC, Bool.and_eq_true, Bool.or_eq_true, decide_eq_true_eq, beq_iff_eq] at hy
  exact ⟨hy.1.1, tm hy.1.2, tm hy.2⟩
def llP : List Nat := [1155, 1379]
def llC (q : (Nat × (Nat × Int64)) × Nat) : Bool := decide (tables_1[q.2]? = some (.constantLong (cNm q.1.1) q.1.2.1 q.1.2.2))
theorem ll_all : (tLlL.zip llP).all llC = true := by decide +kernel
theorem ll_ok {o k : Nat} {v : Int64} (h : tLl o k = some v) : Cond.constantLong (cNm o) k v ∈ lw_tbl := by
  obtain ⟨y, hy⟩ := zip_all ll_all rfl (lk2_mem h)
  simp only [llC, decide_eq_true_eq] at hy
  exact tm hy
def aT : Nat → FieldType := fun k => match k with
  | 0 => .int
  | 1 => .char
  | 2 => .boolean
  | 3 => .long
  | k + 4 => .object (cNm k)
def okK (k : Nat) : Prop := k < 4 ∨ k = 6 ∨ k = 8
def arP : List Nat := [75, 74, 76, 1139]
theorem ar_ok : ∀ k, k < 4 → tables_1[arP.getD k 0]? = some (.arrayClass (aT k)) := by decide +kernel
theorem ao_2 : Cond.arrayOver (.object (cNm 2)) ∈ lw_tbl := tm (i := 233) (by decide +kernel)
theorem ao_4 : Cond.arrayOver (.object (cNm 4)) ∈ lw_tbl := tm (i := 241) (by decide +kernel)
