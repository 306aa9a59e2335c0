/-! The words of the methods and of their calls, gathered. Written by wip/whole/gen/mk06.py. -/
theorem code_ok : ∀ j, j < 178 → cdW j ∈ lw_tbl := fun j h => match j, h with
  | 0, _ => cm_0
  | 1, _ => cm_1
  | 2, _ => cm_2
  | 3, _ => cm_3
  | 4, _ => cm_4
  | 5, _ => cm_5
  | 6, _ => cm_6
  | 7, _ => cm_7
  | 8, _ => cm_8
  | 9, _ => cm_9
  | 10, _ => cm_10
  | 11, _ => cm_11
  | 12, _ => cm_12
  | 13, _ => cm_13
  | 14, _ => cm_14
  | 15, _ => cm_15
  | 16, _ => cm_16
  | 17, _ => cm_17
  | 18, _ => cm_18
  | 19, _ => cm_19
  | 20, _ => cm_20
  | 21, _ => cm_21
  | 22, _ => cm_22
  | 23, _ => cm_23
  | 24, _ => cm_24
  | 25, _ => cm_25
  | 26, _ => cm_26
  | 27, _ => cm_27
  | 28, _ => cm_28
  | 29, _ => cm_29
  | 30, _ => cm_30
  | 31, _ => cm_31
  | 32, _ => cm_32
  | 33, _ => cm_33
  | 34, _ => cm_34
  | 35, _ => cm_35
  | 36, _ => cm_36
  | 37, _ => cm_37
  | 38, _ => cm_38
  | 39, _ => cm_39
  | 40, _ => cm_40
  | 41, _ => cm_41
  | 42, _ => cm_42
  | 43, _ => cm_43
  | 44, _ => cm_44
  | 45, _ => cm_45
  | 46, _ => cm_46
  | 47, _ => cm_47
  | 48, _ => cm_48
  | 49, _ => cm_49
  | 50, _ => cm_50
  | 51, _ => cm_51
  | 52, _ => cm_52
  | 53, _ => cm_53
  | 54, _ => cm_54
  | 55, _ => cm_55
  | 56, _ => cm_56
  | 57, _ => cm_57
  | 58, _ => cm_58
  | 59, _ => cm_59
  | 60, _ => cm_60
  | 61, _ => cm_61
  | 62, _ => cm_62
  | 63, _ => cm_63
  | 64, _ => cm_64
  | 65, _ => cm_65
  | 66, _ => cm_66
  | 67, _ => cm_67
  | 68, _ => cm_68
  | 69, _ => cm_69
  | 70, _ => cm_70
  | 71, _ => cm_71
  | 72, _ => cm_72
  | 73, _ => cm_73
  | 74, _ => cm_74
  | 75, _ => cm_75
  | 76, _ => cm_76
  | 77, _ => cm_77
  | 78, _ => cm_78
  | 79, _ => cm_79
  | 80, _ => cm_80
  | 81, _ => cm_81
  | 82, _ => cm_82
  | 83, _ => cm_83
  | 84, _ => cm_84
  | 85, _ => cm_85
  | 86, _ => cm_86
  | 87, _ => cm_87
  | 88, _ => cm_88
  | 89, _ => cm_89
  | 90, _ => cm_90
  | 91, _ => cm_91
  | 92, _ => cm_92
  | 93, _ => cm_93
  | 94, _ => cm_94
  | 95, _ => cm_95
  | 96, _ => cm_96
  | 97, _ => cm_97
  | 98, _ => cm_98
  | 99, _ => cm_99
  | 100, _ => cm_100
  | 101, _ => cm_101
  | 102, _ => cm_102
  | 103, _ => cm_103
  | 104, _ => cm_104
  | 105, _ => cm_105
  | 106, _ => cm_106
  | 107, _ => cm_107
  | 108, _ => cm_108
  | 109, _ => cm_109
  | 110, _ => cm_110
  | 111, _ => cm_111
  | 112, _ => cm_112
  | 113, _ => cm_113
  | 114, _ => cm_114
  | 115, _ => cm_115
  | 116, _ => cm_116
  | 117, _ => cm_117
  | 118, _ => cm_118
  | 119, _ => cm_119
  | 120, _ => cm_120
  | 121, _ => cm_121
  | 122, _ => cm_122
  | 123, _ => cm_123
  | 124, _ => cm_124
  | 125, _ => cm_125
  | 126, _ => cm_126
  | 127, _ => cm_127
  | 128, _ => cm_128
  | 129, _ => cm_129
  | 130, _ => cm_130
  | 131, _ => cm_131
  | 132, _ => cm_132
  | 133, _ => cm_133
  | 134, _ => cm_134
  | 135, _ => cm_135
  | 136, _ => cm_136
  | 137, _ => cm_137
  | 138, _ => cm_138
  | 139, _ => cm_139
  | 140, _ => cm_140
  | 141, _ => cm_141
  | 142, _ => cm_142
  | 143, _ => cm_143
  | 144, _ => cm_144
  | 145, _ => cm_145
  | 146, _ => cm_146
  | 147, _ => cm_147
  | 148, _ => cm_148
  | 149, _ => cm_149
  | 150, _ => cm_150
  | 151, _ => cm_151
  | 152, _ => cm_152
  | 153, _ => cm_153
  | 154, _ => cm_154
  | 155, _ => cm_155
  | 156, _ => cm_156
  | 157, _ => cm_157
  | 158, _ => cm_158
  | 159, _ => cm_159
  | 160, _ => cm_160
  | 161, _ => cm_161
  | 162, _ => cm_162
  | 163, _ => cm_163
  | 164, _ => cm_164
  | 165, _ => cm_165
  | 166, _ => cm_166
  | 167, _ => cm_167
  | 168, _ => cm_168
  | 169, _ => cm_169
  | 170, _ => cm_170
  | 171, _ => cm_171
  | 172, _ => cm_172
  | 173, _ => cm_173
  | 174, _ => cm_174
  | 175, _ => cm_175
  | 176, _ => cm_176
  | 177, _ => cm_177
  | n + 178, h => absurd h (by omega)
def siP : List (Nat × Nat) := [(29, 0), (311, 392), (315, 396), (324, 405), (328, 0), (331, 0), (418, 499), (580, 0), (621, 0), (689, 22), (735, 816), (761, 842), (766, 29), (817, 898), (828, 909), (835, 916), (842, 923), (846, 0), (854, 935), (880, 961), (884, 0), (894, 975), (920, 1001), (237, 0), (426, 507), (898, 979), (908, 35), (912, 993), (924, 1005), (156, 0), (666, 747), (873, 954), (205, 0), (422, 503), (692, 773), (697, 23), (705, 24), (709, 25), (713, 26), (717, 27), (720, 801), (725, 28), (739, 820), (821, 902), (108, 0), (273, 354), (571, 652), (577, 11), (584, 12), (769, 850), (773, 854), (786, 30), (794, 31), (798, 32), (802, 33), (810, 34), (887, 968), (80, 0), (596, 677), (601, 13), (605, 14), (609, 15), (613, 16), (618, 17), (625, 18), (629, 19), (656, 20), (660, 21), (37, 0), (430, 511), (435, 1), (439, 2), (445, 3), (449, 4), (455, 5), (459, 6), (463, 7), (466, 0), (469, 0), (473, 8), (477, 9), (568, 10), (591, 672), (114, 0), (587, 668), (700, 781), (777, 858), (789, 870), (805, 886), (930, 0), (935, 36), (1141, 1222), (1145, 1226), (1149, 0), (1153, 37), (1157, 1238), (1161, 1242), (1166, 38), (1170, 39), (1174, 40), (1178, 41), (1182, 42), (1186, 43), (1190, 44), (1193, 0), (1197, 45), (1201, 46), (1205, 47), (1209, 48), (1213, 49), (1217, 50), (1221, 51), (1225, 52), (1229, 53), (1233, 54), (1237, 55), (1241, 56), (1245, 57), (1249, 58), (1253, 59), (1257, 60), (1261, 61), (1265, 62), (1269, 63), (1273, 64), (1277, 65), (1281, 66), (1285, 67), (1289, 68), (1293, 69), (1296, 1377), (1301, 70), (1305, 71), (1309, 72), (1312, 1393), (1316, 1397), (1321, 73), (1325, 74), (1329, 75), (1333, 76), (1336, 1417), (1340, 1421), (1344, 1425), (1348, 1429), (1353, 77), (1356, 1437), (1360, 1441), (1365, 78), (1368, 1449), (1373, 79), (1376, 1457), (319, 0), (414, 0), (731, 0), (758, 0), (814, 0), (825, 0), (832, 0), (839, 0), (850, 0), (877, 0), (891, 0), (917, 0), (509, 0), (512, 0), (728, 0), (481, 562), (485, 566), (489, 570), (495, 576), (499, 580), (634, 715), (641, 0), (503, 0), (506, 0), (515, 0), (638, 0), (644, 0)]
theorem si_ok : ∀ j, j < 178 → (tSt j = 1 → tables_1[(siP.getD j (0, 0)).1]? = some (.static (yN j))) ∧ (tSt j ≠ 1 → tables_1[(siP.getD j (0, 0)).1]? = some (.instanceMethod (yN j))) ∧ (tSt j = 0 → lw_tbl[(siP.getD j (0, 0)).2]? = some (.selects (yN j).cls (yN j) (yN j))) := by decide +kernel
theorem nm_1 : ∀ j, j < 178 → (yN j).cls ≠ "java/lang/invoke/MethodHandle" ∧ (yN j).cls ≠ "java/lang/invoke/VarHandle" := by decide +kernel
theorem nm_3 : ∀ j, j < 178 → tOw j < 10 → plainName (yN j).cls = true := by decide +kernel
theorem nm_3_163 : plainFor (yN 163) = true := by decide +kernel
theorem nm_3_164 : plainFor (yN 164) = true := by decide +kernel
theorem nm_3_165 : plainFor (yN 165) = true := by decide +kernel
theorem nm_3_166 : plainFor (yN 166) = true := by decide +kernel
theorem nm_3_167 : plainFor (yN 167) = true := by decide +kernel
theorem nm_3_168 : plainFor (yN 168) = true := by decide +kernel
theorem nm_3_169 : plainFor (yN 169) = true := by decide +kernel
theorem nm_3_170 : plainFor (yN 170) = true := by decide +kernel
theorem nm_3_171 : plainFor (yN 171) = true := by decide +kernel
theorem nm_3_172 : plainFor (yN 172) = true := by decide +kernel
theorem nm_3_173 : plainFor (yN 173) = true := by decide +kernel
theorem nm_3_174 : plainFor (yN 174) = true := by decide +kernel
theorem nm_3_175 : plainFor (yN 175) = true := by decide +kernel
theorem nm_3_176 : plainFor (yN 176) = true := by decide +kernel
theorem nm_3_177 : plainFor (yN 177) = true := by decide +kernel
theorem nm_4 : ∀ j, j < 178 → (tSt j = 2 → (yN j).name = "<init>") ∧ (tIni j = 1 → (yN j).name = "<init>") := by decide +kernel
theorem nm_5 : ∀ j, j < 178 → (yN j).cls = cNm (tOw j) := by decide +kernel
theorem nm_6 : ∀ j, j < 178 → tOw j < 15 ∧ tSt j < 3 := by decide +kernel
theorem nm_2 : ∀ j, j < 178 → (parseMethodDescriptor (yN j).desc).map (fun d => d.parameters.length) = some (tNa j) := by decide +kernel
theorem tMx_le : ∀ j, j < 179 → tMx j ≤ 30 := by decide +kernel
def lmP : List (Nat × Bool) := [(31, false), (36, true), (79, true), (107, true), (204, true), (236, false), (271, true), (272, false), (327, false), (330, false), (421, false), (425, false), (429, false), (570, false), (595, false), (687, false), (738, false), (764, false), (820, false), (845, false), (848, false), (872, false), (883, false), (886, false), (897, false), (911, false), (923, false), (768, false), (691, false), (719, false), (239, false), (243, true), (244, true), (901, false), (902, false), (903, false), (904, false), (905, false), (906, false), (910, false), (915, false), (158, false), (669, false), (670, false), (207, false), (695, false), (707, false), (711, false), (715, false), (699, false), (703, false), (723, false), (727, false), (110, false), (113, false), (155, true), (776, false), (782, false), (574, false), (575, false), (772, false), (783, false), (784, false), (788, false), (792, false), (796, false), (800, false), (808, false), (812, true), (590, false), (804, false), (579, true), (582, false), (586, false), (82, false), (599, false), (665, false), (603, false), (607, false), (616, false), (654, false), (620, true), (623, false), (653, false), (627, false), (633, false), (631, true), (611, false), (615, false), (658, false), (662, false), (39, false), (594, false), (433, false), (437, false), (443, false), (447, false), (453, false), (471, false), (475, false), (457, false), (461, false), (480, false), (566, false), (468, false), (465, false), (116, false), (780, false), (781, false), (932, false), (933, false), (1148, false), (1151, false), (1176, false), (1180, false), (1192, false), (1184, false), (1188, false), (1199, false), (1168, false), (1195, false), (1172, false), (1203, false), (1211, false), (1215, false), (1219, false), (1223, false), (1247, false), (1271, false), (1275, false), (1239, false), (1243, false), (1259, false), (1251, false), (1231, false), (1255, false), (1263, false), (1267, false), (1235, false), (1279, false), (1287, false), (1303, false), (1307, false), (1291, false), (1207, false), (1227, false), (1164, false), (1283, false), (1323, false), (1327, false), (1331, false), (1299, false), (1319, false), (1351, false), (1363, false), (1371, false), (323, false), (417, false), (734, false), (760, false), (816, false), (827, false), (834, false), (841, false), (853, false), (879, false), (893, false), (919, false), (28, false), (929, false), (318, false), (1144, false), (1140, false), (310, false), (1156, false), (413, false), (1160, false), (314, false), (1295, false), (730, false), (1311, false), (757, false), (1315, false), (813, false), (1335, false), (824, false), (1339, false), (831, false), (1343, false), (838, false), (1347, false), (849, false), (1355, false), (876, false), (1359, false), (890, false), (1367, false), (916, false), (1375, false), (498, false), (488, false), (637, false), (494, false), (484, false), (502, false), (643, false), (640, false), (511, false), (505, false), (508, false), (514, false)]
def lmC (q : (Nat × (Nat × (Nat × Nat))) × (Nat × Bool)) : Bool :=
  (decide (500 ≤ q.1.2.2.1 ∧ q.1.2.2.1 < 502) || (decide (q.1.2.2.1 < 178) && (q.1.2.2.2 == tNa q.1.2.2.1 + (if tSt q.1.2.2.1 = 1 then 0 else 1)))) &&
  (if q.2.2 = true then decide (tables_1[q.2.1]? = some (.methodLinkNest (cNm q.1.1) q.1.2.1 (yN q.1.2.2.1) "MovingBoxes")) else decide (tables_1[q.2.1]? = some (.methodLink (cNm q.1.1) q.1.2.1 (yN q.1.2.2.1))))
theorem lm_all : (tLmL.zip lmP).all lmC = true := by decide +kernel
theorem lm_ok {o k j n : Nat} (h : tLm o k = some (j, n)) : ((500 ≤ j ∧ j < 502) ∨ (j < 178 ∧ n = tNa j + (if tSt j = 1 then 0 else 1))) ∧ (Cond.methodLinkNest (cNm o) k (yN j) "MovingBoxes" ∈ lw_tbl ∨ Cond.methodLink (cNm o) k (yN j) ∈ lw_tbl) := by
  obtain ⟨y, hy⟩ := zip_all lm_all rfl (lk2_mem h)
  simp only [lmC, Bool.and_eq_true, Bool.or_eq_true, decide_eq_true_eq, beq_iff_eq] at hy
  refine ⟨hy.1, ?_⟩
  have h4 := hy.2
  split at h4
  · exact Or.inl (tm (of_decide_eq_true h4))
  · exact Or.inr (tm (of_decide_eq_true h4))
