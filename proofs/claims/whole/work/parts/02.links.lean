/-! Rows of the tables, each by computation; and the rows that decode each instruction. Written by wip/whole/gen/mktab.py. -/
theorem lf_0_9 : tLf 0 9 = some (0, (0, 2)) := by decide +kernel
theorem lf_0_16 : tLf 0 16 = some (0, (2, 2)) := by decide +kernel
theorem lf_0_23 : tLf 0 23 = some (0, (3, 2)) := by decide +kernel
theorem lf_0_30 : tLf 0 30 = some (0, (4, 2)) := by decide +kernel
theorem lf_0_34 : tLf 0 34 = some (0, (5, 2)) := by decide +kernel
theorem lf_0_40 : tLf 0 40 = some (0, (6, 2)) := by decide +kernel
theorem lf_0_44 : tLf 0 44 = some (0, (7, 2)) := by decide +kernel
theorem lf_0_49 : tLf 0 49 = some (0, (9, 2)) := by decide +kernel
theorem lf_0_56 : tLf 0 56 = some (0, (10, 2)) := by decide +kernel
theorem lf_0_71 : tLf 0 71 = some (0, (1, 0)) := by decide +kernel
theorem lf_0_83 : tLf 0 83 = some (0, (8, 0)) := by decide +kernel
theorem lf_0_107 : tLf 0 107 = some (6, (4, 0)) := by decide +kernel
theorem lf_0_110 : tLf 0 110 = some (3, (4, 0)) := by decide +kernel
theorem lf_0_118 : tLf 0 118 = some (3, (0, 2)) := by decide +kernel
theorem lf_0_122 : tLf 0 122 = some (3, (1, 2)) := by decide +kernel
theorem lf_0_125 : tLf 0 125 = some (3, (2, 2)) := by decide +kernel
theorem lf_0_128 : tLf 0 128 = some (3, (3, 2)) := by decide +kernel
theorem lf_0_138 : tLf 0 138 = some (4, (0, 2)) := by decide +kernel
theorem lf_0_142 : tLf 0 142 = some (7, (5, 0)) := by decide +kernel
theorem lf_0_145 : tLf 0 145 = some (4, (1, 2)) := by decide +kernel
theorem lf_0_148 : tLf 0 148 = some (4, (2, 2)) := by decide +kernel
theorem lf_0_151 : tLf 0 151 = some (4, (4, 0)) := by decide +kernel
theorem lf_0_154 : tLf 0 154 = some (4, (3, 2)) := by decide +kernel
theorem lf_0_158 : tLf 0 158 = some (2, (1, 0)) := by decide +kernel
theorem lf_0_161 : tLf 0 161 = some (2, (0, 2)) := by decide +kernel
theorem lf_0_192 : tLf 0 192 = some (1, (3, 0)) := by decide +kernel
theorem lf_0_193 : tLf 0 193 = some (1, (4, 3)) := by decide +kernel
theorem lf_0_197 : tLf 0 197 = some (1, (5, 0)) := by decide +kernel
theorem lf_0_200 : tLf 0 200 = some (1, (6, 0)) := by decide +kernel
theorem lf_1_11 : tLf 1 11 = some (1, (0, 2)) := by decide +kernel
theorem lf_1_17 : tLf 1 17 = some (1, (1, 2)) := by decide +kernel
theorem lf_1_24 : tLf 1 24 = some (1, (2, 2)) := by decide +kernel
theorem lf_1_28 : tLf 1 28 = some (1, (6, 0)) := by decide +kernel
theorem lf_1_33 : tLf 1 33 = some (1, (3, 0)) := by decide +kernel
theorem lf_1_36 : tLf 1 36 = some (1, (4, 3)) := by decide +kernel
theorem lf_1_40 : tLf 1 40 = some (1, (5, 0)) := by decide +kernel
theorem lf_1_54 : tLf 1 54 = some (3, (4, 0)) := by decide +kernel
theorem lf_1_69 : tLf 1 69 = some (4, (3, 2)) := by decide +kernel
theorem lf_2_9 : tLf 2 9 = some (2, (0, 2)) := by decide +kernel
theorem lf_2_21 : tLf 2 21 = some (2, (1, 0)) := by decide +kernel
theorem lf_3_9 : tLf 3 9 = some (3, (0, 2)) := by decide +kernel
theorem lf_3_15 : tLf 3 15 = some (3, (1, 2)) := by decide +kernel
theorem lf_3_18 : tLf 3 18 = some (3, (2, 2)) := by decide +kernel
theorem lf_3_21 : tLf 3 21 = some (3, (3, 2)) := by decide +kernel
theorem lf_3_24 : tLf 3 24 = some (3, (4, 0)) := by decide +kernel
theorem lf_3_28 : tLf 3 28 = some (4, (1, 2)) := by decide +kernel
theorem lf_3_34 : tLf 3 34 = some (7, (5, 0)) := by decide +kernel
theorem lf_3_37 : tLf 3 37 = some (6, (0, 2)) := by decide +kernel
theorem lf_3_40 : tLf 3 40 = some (7, (3, 2)) := by decide +kernel
theorem lf_3_56 : tLf 3 56 = some (4, (0, 2)) := by decide +kernel
theorem lf_3_59 : tLf 3 59 = some (7, (1, 2)) := by decide +kernel
theorem lf_3_66 : tLf 3 66 = some (7, (2, 2)) := by decide +kernel
theorem lf_3_69 : tLf 3 69 = some (7, (0, 2)) := by decide +kernel
theorem lf_3_76 : tLf 3 76 = some (4, (2, 2)) := by decide +kernel
theorem lf_4_14 : tLf 4 14 = some (4, (0, 2)) := by decide +kernel
theorem lf_4_20 : tLf 4 20 = some (4, (1, 2)) := by decide +kernel
theorem lf_4_23 : tLf 4 23 = some (4, (2, 2)) := by decide +kernel
theorem lf_4_29 : tLf 4 29 = some (4, (3, 2)) := by decide +kernel
theorem lf_4_33 : tLf 4 33 = some (7, (5, 0)) := by decide +kernel
theorem lf_4_37 : tLf 4 37 = some (4, (4, 0)) := by decide +kernel
theorem lf_4_40 : tLf 4 40 = some (4, (5, 3)) := by decide +kernel
theorem lf_4_44 : tLf 4 44 = some (2, (0, 2)) := by decide +kernel
theorem lf_4_48 : tLf 4 48 = some (2, (1, 0)) := by decide +kernel
theorem lf_4_62 : tLf 4 62 = some (6, (4, 0)) := by decide +kernel
theorem lf_4_72 : tLf 4 72 = some (3, (1, 2)) := by decide +kernel
theorem lf_4_82 : tLf 4 82 = some (3, (2, 2)) := by decide +kernel
theorem lf_4_89 : tLf 4 89 = some (7, (3, 2)) := by decide +kernel
theorem lf_4_92 : tLf 4 92 = some (7, (1, 2)) := by decide +kernel
theorem lf_4_95 : tLf 4 95 = some (7, (4, 2)) := by decide +kernel
theorem lf_4_98 : tLf 4 98 = some (6, (2, 2)) := by decide +kernel
theorem lf_4_105 : tLf 4 105 = some (6, (0, 2)) := by decide +kernel
theorem lf_4_118 : tLf 4 118 = some (6, (1, 2)) := by decide +kernel
theorem lf_4_134 : tLf 4 134 = some (7, (2, 2)) := by decide +kernel
theorem lf_5_9 : tLf 5 9 = some (5, (0, 2)) := by decide +kernel
theorem lf_5_15 : tLf 5 15 = some (5, (1, 2)) := by decide +kernel
theorem lf_5_18 : tLf 5 18 = some (5, (3, 2)) := by decide +kernel
theorem lf_5_22 : tLf 5 22 = some (5, (4, 2)) := by decide +kernel
theorem lf_5_25 : tLf 5 25 = some (5, (2, 0)) := by decide +kernel
theorem lf_5_29 : tLf 5 29 = some (5, (5, 0)) := by decide +kernel
theorem lf_5_32 : tLf 5 32 = some (5, (6, 3)) := by decide +kernel
theorem lf_5_40 : tLf 5 40 = some (4, (3, 2)) := by decide +kernel
theorem lf_5_52 : tLf 5 52 = some (4, (0, 2)) := by decide +kernel
theorem lf_5_56 : tLf 5 56 = some (7, (5, 0)) := by decide +kernel
theorem lf_5_61 : tLf 5 61 = some (7, (1, 2)) := by decide +kernel
theorem lf_5_64 : tLf 5 64 = some (7, (2, 2)) := by decide +kernel
theorem lf_5_71 : tLf 5 71 = some (7, (0, 2)) := by decide +kernel
theorem lf_5_78 : tLf 5 78 = some (4, (1, 2)) := by decide +kernel
theorem lf_5_81 : tLf 5 81 = some (7, (3, 2)) := by decide +kernel
theorem lf_5_84 : tLf 5 84 = some (7, (4, 2)) := by decide +kernel
theorem lf_5_91 : tLf 5 91 = some (4, (2, 2)) := by decide +kernel
theorem lf_5_98 : tLf 5 98 = some (6, (0, 2)) := by decide +kernel
theorem lf_5_103 : tLf 5 103 = some (6, (1, 2)) := by decide +kernel
theorem lf_5_121 : tLf 5 121 = some (6, (2, 2)) := by decide +kernel
theorem lf_6_9 : tLf 6 9 = some (6, (0, 2)) := by decide +kernel
theorem lf_6_15 : tLf 6 15 = some (6, (1, 2)) := by decide +kernel
theorem lf_6_19 : tLf 6 19 = some (6, (2, 2)) := by decide +kernel
theorem lf_6_23 : tLf 6 23 = some (6, (3, 2)) := by decide +kernel
theorem lf_6_26 : tLf 6 26 = some (6, (5, 2)) := by decide +kernel
theorem lf_6_35 : tLf 6 35 = some (6, (6, 0)) := by decide +kernel
theorem lf_6_39 : tLf 6 39 = some (6, (4, 0)) := by decide +kernel
theorem lf_6_42 : tLf 6 42 = some (6, (7, 0)) := by decide +kernel
theorem lf_7_9 : tLf 7 9 = some (7, (0, 2)) := by decide +kernel
theorem lf_7_15 : tLf 7 15 = some (7, (1, 2)) := by decide +kernel
theorem lf_7_18 : tLf 7 18 = some (7, (2, 2)) := by decide +kernel
theorem lf_7_21 : tLf 7 21 = some (7, (3, 2)) := by decide +kernel
theorem lf_7_24 : tLf 7 24 = some (7, (4, 2)) := by decide +kernel
theorem lf_7_27 : tLf 7 27 = some (7, (5, 0)) := by decide +kernel
theorem lf_8_7 : tLf 8 7 = some (8, (3, 2)) := by decide +kernel
theorem lf_8_13 : tLf 8 13 = some (8, (7, 2)) := by decide +kernel
theorem lf_8_16 : tLf 8 16 = some (8, (8, 2)) := by decide +kernel
theorem lf_8_19 : tLf 8 19 = some (8, (9, 2)) := by decide +kernel
theorem lf_8_23 : tLf 8 23 = some (8, (10, 2)) := by decide +kernel
theorem lf_8_26 : tLf 8 26 = some (8, (11, 2)) := by decide +kernel
theorem lf_8_29 : tLf 8 29 = some (8, (12, 2)) := by decide +kernel
theorem lf_8_32 : tLf 8 32 = some (8, (13, 2)) := by decide +kernel
theorem lf_8_35 : tLf 8 35 = some (8, (15, 2)) := by decide +kernel
theorem lf_8_38 : tLf 8 38 = some (8, (16, 2)) := by decide +kernel
theorem lf_8_41 : tLf 8 41 = some (8, (17, 2)) := by decide +kernel
theorem lf_8_44 : tLf 8 44 = some (8, (18, 2)) := by decide +kernel
theorem lf_8_47 : tLf 8 47 = some (8, (19, 2)) := by decide +kernel
theorem lf_8_50 : tLf 8 50 = some (8, (20, 2)) := by decide +kernel
theorem lf_8_53 : tLf 8 53 = some (8, (21, 2)) := by decide +kernel
theorem lf_8_56 : tLf 8 56 = some (8, (22, 2)) := by decide +kernel
theorem lf_8_59 : tLf 8 59 = some (8, (23, 2)) := by decide +kernel
theorem lf_8_62 : tLf 8 62 = some (8, (24, 2)) := by decide +kernel
theorem lf_8_65 : tLf 8 65 = some (8, (25, 2)) := by decide +kernel
theorem lf_8_68 : tLf 8 68 = some (8, (26, 2)) := by decide +kernel
theorem lf_8_71 : tLf 8 71 = some (8, (27, 2)) := by decide +kernel
theorem lf_8_74 : tLf 8 74 = some (8, (31, 2)) := by decide +kernel
theorem lf_8_77 : tLf 8 77 = some (8, (32, 2)) := by decide +kernel
theorem lf_8_80 : tLf 8 80 = some (8, (33, 2)) := by decide +kernel
theorem lf_8_83 : tLf 8 83 = some (8, (35, 2)) := by decide +kernel
theorem lf_8_86 : tLf 8 86 = some (8, (36, 2)) := by decide +kernel
theorem lf_8_89 : tLf 8 89 = some (8, (40, 2)) := by decide +kernel
theorem lf_8_92 : tLf 8 92 = some (8, (41, 2)) := by decide +kernel
theorem lf_8_95 : tLf 8 95 = some (8, (42, 2)) := by decide +kernel
theorem lf_8_98 : tLf 8 98 = some (8, (43, 2)) := by decide +kernel
theorem lf_8_101 : tLf 8 101 = some (8, (44, 2)) := by decide +kernel
theorem lf_8_104 : tLf 8 104 = some (8, (45, 2)) := by decide +kernel
theorem lf_8_107 : tLf 8 107 = some (8, (46, 2)) := by decide +kernel
theorem lf_8_110 : tLf 8 110 = some (8, (47, 2)) := by decide +kernel
theorem lf_8_113 : tLf 8 113 = some (8, (50, 2)) := by decide +kernel
theorem lf_8_116 : tLf 8 116 = some (8, (51, 2)) := by decide +kernel
theorem lf_8_120 : tLf 8 120 = some (8, (59, 2)) := by decide +kernel
theorem lf_8_123 : tLf 8 123 = some (8, (60, 2)) := by decide +kernel
theorem lf_8_126 : tLf 8 126 = some (8, (61, 2)) := by decide +kernel
theorem lf_8_129 : tLf 8 129 = some (8, (62, 2)) := by decide +kernel
theorem lf_8_132 : tLf 8 132 = some (8, (63, 2)) := by decide +kernel
theorem lf_8_135 : tLf 8 135 = some (8, (64, 2)) := by decide +kernel
theorem lf_8_141 : tLf 8 141 = some (8, (0, 0)) := by decide +kernel
theorem lf_8_145 : tLf 8 145 = some (8, (1, 0)) := by decide +kernel
theorem lf_8_158 : tLf 8 158 = some (8, (2, 0)) := by decide +kernel
theorem lf_8_161 : tLf 8 161 = some (8, (6, 0)) := by decide +kernel
theorem lf_8_164 : tLf 8 164 = some (8, (5, 0)) := by decide +kernel
theorem lf_8_167 : tLf 8 167 = some (8, (4, 0)) := by decide +kernel
theorem lf_8_174 : tLf 8 174 = some (8, (14, 0)) := by decide +kernel
theorem lf_8_209 : tLf 8 209 = some (8, (28, 0)) := by decide +kernel
theorem lf_8_212 : tLf 8 212 = some (8, (29, 0)) := by decide +kernel
theorem lf_8_215 : tLf 8 215 = some (8, (30, 3)) := by decide +kernel
theorem lf_8_219 : tLf 8 219 = some (8, (49, 0)) := by decide +kernel
theorem lf_8_222 : tLf 8 222 = some (8, (34, 0)) := by decide +kernel
theorem lf_8_239 : tLf 8 239 = some (8, (37, 0)) := by decide +kernel
theorem lf_8_245 : tLf 8 245 = some (8, (39, 0)) := by decide +kernel
theorem lf_8_248 : tLf 8 248 = some (8, (38, 0)) := by decide +kernel
theorem lf_8_274 : tLf 8 274 = some (8, (48, 0)) := by decide +kernel
theorem lf_8_304 : tLf 8 304 = some (8, (65, 0)) := by decide +kernel
theorem lf_8_307 : tLf 8 307 = some (8, (66, 0)) := by decide +kernel
theorem lf_8_316 : tLf 8 316 = some (8, (57, 3)) := by decide +kernel
theorem lf_8_347 : tLf 8 347 = some (8, (52, 0)) := by decide +kernel
theorem lf_8_350 : tLf 8 350 = some (8, (56, 0)) := by decide +kernel
theorem lf_8_353 : tLf 8 353 = some (8, (55, 0)) := by decide +kernel
theorem lf_8_356 : tLf 8 356 = some (8, (53, 0)) := by decide +kernel
theorem lf_8_359 : tLf 8 359 = some (8, (54, 0)) := by decide +kernel
theorem lf_8_365 : tLf 8 365 = some (8, (58, 3)) := by decide +kernel
theorem pf_0_9 : tPf 0 9 = some (0, (0, 2)) := by decide +kernel
theorem pf_0_16 : tPf 0 16 = some (0, (2, 2)) := by decide +kernel
theorem pf_0_23 : tPf 0 23 = some (0, (3, 2)) := by decide +kernel
theorem pf_0_30 : tPf 0 30 = some (0, (4, 2)) := by decide +kernel
theorem pf_0_34 : tPf 0 34 = some (0, (5, 2)) := by decide +kernel
theorem pf_0_40 : tPf 0 40 = some (0, (6, 2)) := by decide +kernel
theorem pf_0_44 : tPf 0 44 = some (0, (7, 2)) := by decide +kernel
theorem pf_0_49 : tPf 0 49 = some (0, (9, 2)) := by decide +kernel
theorem pf_0_56 : tPf 0 56 = some (0, (10, 2)) := by decide +kernel
theorem pf_1_71 : tPf 1 71 = some (0, (1, 0)) := by decide +kernel
theorem pf_3_71 : tPf 3 71 = some (0, (1, 0)) := by decide +kernel
theorem pf_6_83 : tPf 6 83 = some (0, (8, 0)) := by decide +kernel
theorem pf_9_30 : tPf 9 30 = some (0, (4, 2)) := by decide +kernel
theorem pf_9_34 : tPf 9 34 = some (0, (5, 2)) := by decide +kernel
theorem pf_9_40 : tPf 9 40 = some (0, (6, 2)) := by decide +kernel
theorem pf_9_44 : tPf 9 44 = some (0, (7, 2)) := by decide +kernel
theorem pf_12_83 : tPf 12 83 = some (0, (8, 0)) := by decide +kernel
theorem pf_23_11 : tPf 23 11 = some (1, (0, 2)) := by decide +kernel
theorem pf_23_17 : tPf 23 17 = some (1, (1, 2)) := by decide +kernel
theorem pf_23_24 : tPf 23 24 = some (1, (2, 2)) := by decide +kernel
theorem pf_23_28 : tPf 23 28 = some (1, (6, 0)) := by decide +kernel
theorem pf_24_28 : tPf 24 28 = some (1, (6, 0)) := by decide +kernel
theorem pf_24_33 : tPf 24 33 = some (1, (3, 0)) := by decide +kernel
theorem pf_24_36 : tPf 24 36 = some (1, (4, 3)) := by decide +kernel
theorem pf_24_40 : tPf 24 40 = some (1, (5, 0)) := by decide +kernel
theorem pf_25_33 : tPf 25 33 = some (1, (3, 0)) := by decide +kernel
theorem pf_25_36 : tPf 25 36 = some (1, (4, 3)) := by decide +kernel
theorem pf_25_40 : tPf 25 40 = some (1, (5, 0)) := by decide +kernel
theorem pf_27_28 : tPf 27 28 = some (1, (6, 0)) := by decide +kernel
theorem pf_29_9 : tPf 29 9 = some (2, (0, 2)) := by decide +kernel
theorem pf_30_21 : tPf 30 21 = some (2, (1, 0)) := by decide +kernel
theorem pf_32_9 : tPf 32 9 = some (3, (0, 2)) := by decide +kernel
theorem pf_32_15 : tPf 32 15 = some (3, (1, 2)) := by decide +kernel
theorem pf_32_18 : tPf 32 18 = some (3, (2, 2)) := by decide +kernel
theorem pf_32_21 : tPf 32 21 = some (3, (3, 2)) := by decide +kernel
theorem pf_33_24 : tPf 33 24 = some (3, (4, 0)) := by decide +kernel
theorem pf_34_24 : tPf 34 24 = some (3, (4, 0)) := by decide +kernel
theorem pf_36_24 : tPf 36 24 = some (3, (4, 0)) := by decide +kernel
theorem pf_44_14 : tPf 44 14 = some (4, (0, 2)) := by decide +kernel
theorem pf_44_20 : tPf 44 20 = some (4, (1, 2)) := by decide +kernel
theorem pf_44_23 : tPf 44 23 = some (4, (2, 2)) := by decide +kernel
theorem pf_44_29 : tPf 44 29 = some (4, (3, 2)) := by decide +kernel
theorem pf_45_33 : tPf 45 33 = some (7, (5, 0)) := by decide +kernel
theorem pf_45_37 : tPf 45 37 = some (4, (4, 0)) := by decide +kernel
theorem pf_45_40 : tPf 45 40 = some (4, (5, 3)) := by decide +kernel
theorem pf_45_48 : tPf 45 48 = some (2, (1, 0)) := by decide +kernel
theorem pf_47_37 : tPf 47 37 = some (4, (4, 0)) := by decide +kernel
theorem pf_47_40 : tPf 47 40 = some (4, (5, 3)) := by decide +kernel
theorem pf_50_37 : tPf 50 37 = some (4, (4, 0)) := by decide +kernel
theorem pf_50_40 : tPf 50 40 = some (4, (5, 3)) := by decide +kernel
theorem pf_57_9 : tPf 57 9 = some (5, (0, 2)) := by decide +kernel
theorem pf_57_15 : tPf 57 15 = some (5, (1, 2)) := by decide +kernel
theorem pf_57_18 : tPf 57 18 = some (5, (3, 2)) := by decide +kernel
theorem pf_57_22 : tPf 57 22 = some (5, (4, 2)) := by decide +kernel
theorem pf_58_25 : tPf 58 25 = some (5, (2, 0)) := by decide +kernel
theorem pf_58_29 : tPf 58 29 = some (5, (5, 0)) := by decide +kernel
theorem pf_58_32 : tPf 58 32 = some (5, (6, 3)) := by decide +kernel
theorem pf_59_32 : tPf 59 32 = some (5, (6, 3)) := by decide +kernel
theorem pf_60_25 : tPf 60 25 = some (5, (2, 0)) := by decide +kernel
theorem pf_60_32 : tPf 60 32 = some (5, (6, 3)) := by decide +kernel
theorem pf_61_29 : tPf 61 29 = some (5, (5, 0)) := by decide +kernel
theorem pf_61_32 : tPf 61 32 = some (5, (6, 3)) := by decide +kernel
theorem pf_63_32 : tPf 63 32 = some (5, (6, 3)) := by decide +kernel
theorem pf_66_25 : tPf 66 25 = some (5, (2, 0)) := by decide +kernel
theorem pf_66_29 : tPf 66 29 = some (5, (5, 0)) := by decide +kernel
theorem pf_66_32 : tPf 66 32 = some (5, (6, 3)) := by decide +kernel
theorem pf_68_9 : tPf 68 9 = some (6, (0, 2)) := by decide +kernel
theorem pf_68_15 : tPf 68 15 = some (6, (1, 2)) := by decide +kernel
theorem pf_68_19 : tPf 68 19 = some (6, (2, 2)) := by decide +kernel
theorem pf_68_23 : tPf 68 23 = some (6, (3, 2)) := by decide +kernel
theorem pf_68_26 : tPf 68 26 = some (6, (5, 2)) := by decide +kernel
theorem pf_69_35 : tPf 69 35 = some (6, (6, 0)) := by decide +kernel
theorem pf_69_39 : tPf 69 39 = some (6, (4, 0)) := by decide +kernel
theorem pf_69_42 : tPf 69 42 = some (6, (7, 0)) := by decide +kernel
theorem pf_70_42 : tPf 70 42 = some (6, (7, 0)) := by decide +kernel
theorem pf_71_42 : tPf 71 42 = some (6, (7, 0)) := by decide +kernel
theorem pf_73_42 : tPf 73 42 = some (6, (7, 0)) := by decide +kernel
theorem pf_74_42 : tPf 74 42 = some (6, (7, 0)) := by decide +kernel
theorem pf_75_39 : tPf 75 39 = some (6, (4, 0)) := by decide +kernel
theorem pf_76_42 : tPf 76 42 = some (6, (7, 0)) := by decide +kernel
theorem pf_80_42 : tPf 80 42 = some (6, (7, 0)) := by decide +kernel
theorem pf_81_42 : tPf 81 42 = some (6, (7, 0)) := by decide +kernel
theorem pf_83_9 : tPf 83 9 = some (7, (0, 2)) := by decide +kernel
theorem pf_83_15 : tPf 83 15 = some (7, (1, 2)) := by decide +kernel
theorem pf_83_18 : tPf 83 18 = some (7, (2, 2)) := by decide +kernel
theorem pf_83_21 : tPf 83 21 = some (7, (3, 2)) := by decide +kernel
theorem pf_83_24 : tPf 83 24 = some (7, (4, 2)) := by decide +kernel
theorem pf_84_27 : tPf 84 27 = some (7, (5, 0)) := by decide +kernel
theorem pf_86_27 : tPf 86 27 = some (7, (5, 0)) := by decide +kernel
theorem pf_87_27 : tPf 87 27 = some (7, (5, 0)) := by decide +kernel
theorem pf_89_7 : tPf 89 7 = some (8, (3, 2)) := by decide +kernel
theorem pf_89_13 : tPf 89 13 = some (8, (7, 2)) := by decide +kernel
theorem pf_89_16 : tPf 89 16 = some (8, (8, 2)) := by decide +kernel
theorem pf_89_19 : tPf 89 19 = some (8, (9, 2)) := by decide +kernel
theorem pf_89_23 : tPf 89 23 = some (8, (10, 2)) := by decide +kernel
theorem pf_89_26 : tPf 89 26 = some (8, (11, 2)) := by decide +kernel
theorem pf_89_29 : tPf 89 29 = some (8, (12, 2)) := by decide +kernel
theorem pf_89_32 : tPf 89 32 = some (8, (13, 2)) := by decide +kernel
theorem pf_89_35 : tPf 89 35 = some (8, (15, 2)) := by decide +kernel
theorem pf_89_38 : tPf 89 38 = some (8, (16, 2)) := by decide +kernel
theorem pf_89_41 : tPf 89 41 = some (8, (17, 2)) := by decide +kernel
theorem pf_89_44 : tPf 89 44 = some (8, (18, 2)) := by decide +kernel
theorem pf_89_47 : tPf 89 47 = some (8, (19, 2)) := by decide +kernel
theorem pf_89_50 : tPf 89 50 = some (8, (20, 2)) := by decide +kernel
theorem pf_89_53 : tPf 89 53 = some (8, (21, 2)) := by decide +kernel
theorem pf_89_56 : tPf 89 56 = some (8, (22, 2)) := by decide +kernel
theorem pf_89_59 : tPf 89 59 = some (8, (23, 2)) := by decide +kernel
theorem pf_89_62 : tPf 89 62 = some (8, (24, 2)) := by decide +kernel
theorem pf_89_65 : tPf 89 65 = some (8, (25, 2)) := by decide +kernel
theorem pf_89_68 : tPf 89 68 = some (8, (26, 2)) := by decide +kernel
theorem pf_89_71 : tPf 89 71 = some (8, (27, 2)) := by decide +kernel
theorem pf_89_74 : tPf 89 74 = some (8, (31, 2)) := by decide +kernel
theorem pf_89_77 : tPf 89 77 = some (8, (32, 2)) := by decide +kernel
theorem pf_89_80 : tPf 89 80 = some (8, (33, 2)) := by decide +kernel
theorem pf_89_83 : tPf 89 83 = some (8, (35, 2)) := by decide +kernel
theorem pf_89_86 : tPf 89 86 = some (8, (36, 2)) := by decide +kernel
theorem pf_89_89 : tPf 89 89 = some (8, (40, 2)) := by decide +kernel
theorem pf_89_92 : tPf 89 92 = some (8, (41, 2)) := by decide +kernel
theorem pf_89_95 : tPf 89 95 = some (8, (42, 2)) := by decide +kernel
theorem pf_89_98 : tPf 89 98 = some (8, (43, 2)) := by decide +kernel
theorem pf_89_101 : tPf 89 101 = some (8, (44, 2)) := by decide +kernel
theorem pf_89_104 : tPf 89 104 = some (8, (45, 2)) := by decide +kernel
theorem pf_89_107 : tPf 89 107 = some (8, (46, 2)) := by decide +kernel
theorem pf_89_110 : tPf 89 110 = some (8, (47, 2)) := by decide +kernel
theorem pf_89_113 : tPf 89 113 = some (8, (50, 2)) := by decide +kernel
theorem pf_89_116 : tPf 89 116 = some (8, (51, 2)) := by decide +kernel
theorem pf_89_120 : tPf 89 120 = some (8, (59, 2)) := by decide +kernel
theorem pf_89_123 : tPf 89 123 = some (8, (60, 2)) := by decide +kernel
theorem pf_89_126 : tPf 89 126 = some (8, (61, 2)) := by decide +kernel
theorem pf_89_129 : tPf 89 129 = some (8, (62, 2)) := by decide +kernel
theorem pf_89_132 : tPf 89 132 = some (8, (63, 2)) := by decide +kernel
theorem pf_89_135 : tPf 89 135 = some (8, (64, 2)) := by decide +kernel
theorem pf_90_209 : tPf 90 209 = some (8, (28, 0)) := by decide +kernel
theorem pf_90_212 : tPf 90 212 = some (8, (29, 0)) := by decide +kernel
theorem pf_90_215 : tPf 90 215 = some (8, (30, 3)) := by decide +kernel
theorem pf_90_219 : tPf 90 219 = some (8, (49, 0)) := by decide +kernel
theorem pf_92_141 : tPf 92 141 = some (8, (0, 0)) := by decide +kernel
theorem pf_92_158 : tPf 92 158 = some (8, (2, 0)) := by decide +kernel
theorem pf_94_141 : tPf 94 141 = some (8, (0, 0)) := by decide +kernel
theorem pf_95_141 : tPf 95 141 = some (8, (0, 0)) := by decide +kernel
theorem pf_95_158 : tPf 95 158 = some (8, (2, 0)) := by decide +kernel
theorem pf_96_141 : tPf 96 141 = some (8, (0, 0)) := by decide +kernel
theorem pf_96_145 : tPf 96 145 = some (8, (1, 0)) := by decide +kernel
theorem pf_96_316 : tPf 96 316 = some (8, (57, 3)) := by decide +kernel
theorem pf_97_161 : tPf 97 161 = some (8, (6, 0)) := by decide +kernel
theorem pf_97_164 : tPf 97 164 = some (8, (5, 0)) := by decide +kernel
theorem pf_97_167 : tPf 97 167 = some (8, (4, 0)) := by decide +kernel
theorem pf_97_174 : tPf 97 174 = some (8, (14, 0)) := by decide +kernel
theorem pf_98_174 : tPf 98 174 = some (8, (14, 0)) := by decide +kernel
theorem pf_99_161 : tPf 99 161 = some (8, (6, 0)) := by decide +kernel
theorem pf_100_145 : tPf 100 145 = some (8, (1, 0)) := by decide +kernel
theorem pf_102_167 : tPf 102 167 = some (8, (4, 0)) := by decide +kernel
theorem pf_103_161 : tPf 103 161 = some (8, (6, 0)) := by decide +kernel
theorem pf_105_161 : tPf 105 161 = some (8, (6, 0)) := by decide +kernel
theorem pf_106_161 : tPf 106 161 = some (8, (6, 0)) := by decide +kernel
theorem pf_107_161 : tPf 107 161 = some (8, (6, 0)) := by decide +kernel
theorem pf_107_174 : tPf 107 174 = some (8, (14, 0)) := by decide +kernel
theorem pf_108_209 : tPf 108 209 = some (8, (28, 0)) := by decide +kernel
theorem pf_108_222 : tPf 108 222 = some (8, (34, 0)) := by decide +kernel
theorem pf_110_215 : tPf 110 215 = some (8, (30, 3)) := by decide +kernel
theorem pf_111_215 : tPf 111 215 = some (8, (30, 3)) := by decide +kernel
theorem pf_112_215 : tPf 112 215 = some (8, (30, 3)) := by decide +kernel
theorem pf_113_215 : tPf 113 215 = some (8, (30, 3)) := by decide +kernel
theorem pf_113_239 : tPf 113 239 = some (8, (37, 0)) := by decide +kernel
theorem pf_113_245 : tPf 113 245 = some (8, (39, 0)) := by decide +kernel
theorem pf_113_248 : tPf 113 248 = some (8, (38, 0)) := by decide +kernel
theorem pf_114_245 : tPf 114 245 = some (8, (39, 0)) := by decide +kernel
theorem pf_115_245 : tPf 115 245 = some (8, (39, 0)) := by decide +kernel
theorem pf_115_274 : tPf 115 274 = some (8, (48, 0)) := by decide +kernel
theorem pf_116_248 : tPf 116 248 = some (8, (38, 0)) := by decide +kernel
theorem pf_118_215 : tPf 118 215 = some (8, (30, 3)) := by decide +kernel
theorem pf_118_239 : tPf 118 239 = some (8, (37, 0)) := by decide +kernel
theorem pf_123_219 : tPf 123 219 = some (8, (49, 0)) := by decide +kernel
theorem pf_123_239 : tPf 123 239 = some (8, (37, 0)) := by decide +kernel
theorem pf_123_248 : tPf 123 248 = some (8, (38, 0)) := by decide +kernel
theorem pf_126_245 : tPf 126 245 = some (8, (39, 0)) := by decide +kernel
theorem pf_130_141 : tPf 130 141 = some (8, (0, 0)) := by decide +kernel
theorem pf_131_304 : tPf 131 304 = some (8, (65, 0)) := by decide +kernel
theorem pf_131_307 : tPf 131 307 = some (8, (66, 0)) := by decide +kernel
theorem pf_134_141 : tPf 134 141 = some (8, (0, 0)) := by decide +kernel
theorem pf_135_141 : tPf 135 141 = some (8, (0, 0)) := by decide +kernel
theorem pf_136_212 : tPf 136 212 = some (8, (29, 0)) := by decide +kernel
theorem pf_139_209 : tPf 139 209 = some (8, (28, 0)) := by decide +kernel
theorem pf_139_215 : tPf 139 215 = some (8, (30, 3)) := by decide +kernel
theorem pf_140_141 : tPf 140 141 = some (8, (0, 0)) := by decide +kernel
theorem pf_141_141 : tPf 141 141 = some (8, (0, 0)) := by decide +kernel
theorem pf_142_141 : tPf 142 141 = some (8, (0, 0)) := by decide +kernel
theorem pf_143_141 : tPf 143 141 = some (8, (0, 0)) := by decide +kernel
theorem pf_145_141 : tPf 145 141 = some (8, (0, 0)) := by decide +kernel
theorem pf_146_141 : tPf 146 141 = some (8, (0, 0)) := by decide +kernel
theorem pf_148_141 : tPf 148 141 = some (8, (0, 0)) := by decide +kernel
theorem pf_148_316 : tPf 148 316 = some (8, (57, 3)) := by decide +kernel
theorem pf_148_347 : tPf 148 347 = some (8, (52, 0)) := by decide +kernel
theorem pf_148_353 : tPf 148 353 = some (8, (55, 0)) := by decide +kernel
theorem pf_148_356 : tPf 148 356 = some (8, (53, 0)) := by decide +kernel
theorem pf_148_359 : tPf 148 359 = some (8, (54, 0)) := by decide +kernel
theorem pf_148_365 : tPf 148 365 = some (8, (58, 3)) := by decide +kernel
theorem pf_149_347 : tPf 149 347 = some (8, (52, 0)) := by decide +kernel
theorem pf_149_350 : tPf 149 350 = some (8, (56, 0)) := by decide +kernel
theorem pf_149_353 : tPf 149 353 = some (8, (55, 0)) := by decide +kernel
theorem pf_150_141 : tPf 150 141 = some (8, (0, 0)) := by decide +kernel
theorem lm_0_3 : tLm 0 3 = some (500, 1) := by decide +kernel
theorem lm_0_15 : tLm 0 15 = some (68, 1) := by decide +kernel
theorem lm_0_22 : tLm 0 22 = some (57, 1) := by decide +kernel
theorem lm_0_29 : tLm 0 29 = some (44, 1) := by decide +kernel
theorem lm_0_39 : tLm 0 39 = some (32, 1) := by decide +kernel
theorem lm_0_55 : tLm 0 55 = some (23, 1) := by decide +kernel
theorem lm_0_60 : tLm 0 60 = some (29, 1) := by decide +kernel
theorem lm_0_61 : tLm 0 61 = some (45, 1) := by decide +kernel
theorem lm_0_64 : tLm 0 64 = some (4, 2) := by decide +kernel
theorem lm_0_78 : tLm 0 78 = some (5, 2) := by decide +kernel
theorem lm_0_82 : tLm 0 82 = some (33, 1) := by decide +kernel
theorem lm_0_86 : tLm 0 86 = some (24, 1) := by decide +kernel
theorem lm_0_89 : tLm 0 89 = some (69, 3) := by decide +kernel
theorem lm_0_93 : tLm 0 93 = some (46, 2) := by decide +kernel
theorem lm_0_97 : tLm 0 97 = some (58, 3) := by decide +kernel
theorem lm_0_104 : tLm 0 104 = some (9, 1) := by decide +kernel
theorem lm_0_111 : tLm 0 111 = some (42, 2) := by decide +kernel
theorem lm_0_131 : tLm 0 131 = some (12, 2) := by decide +kernel
theorem lm_0_134 : tLm 0 134 = some (43, 1) := by decide +kernel
theorem lm_0_164 : tLm 0 164 = some (17, 1) := by decide +kernel
theorem lm_0_167 : tLm 0 167 = some (30, 3) := by decide +kernel
theorem lm_0_173 : tLm 0 173 = some (31, 2) := by decide +kernel
theorem lm_0_177 : tLm 0 177 = some (20, 1) := by decide +kernel
theorem lm_0_180 : tLm 0 180 = some (56, 3) := by decide +kernel
theorem lm_0_184 : tLm 0 184 = some (25, 5) := by decide +kernel
theorem lm_0_188 : tLm 0 188 = some (27, 3) := by decide +kernel
theorem lm_0_203 : tLm 0 203 = some (28, 1) := by decide +kernel
theorem lm_0_206 : tLm 0 206 = some (49, 5) := by decide +kernel
theorem lm_0_210 : tLm 0 210 = some (34, 3) := by decide +kernel
theorem lm_0_214 : tLm 0 214 = some (40, 3) := by decide +kernel
theorem lm_1_3 : tLm 1 3 = some (500, 1) := by decide +kernel
theorem lm_1_23 : tLm 1 23 = some (32, 1) := by decide +kernel
theorem lm_1_32 : tLm 1 32 = some (44, 1) := by decide +kernel
theorem lm_1_43 : tLm 1 43 = some (24, 1) := by decide +kernel
theorem lm_1_46 : tLm 1 46 = some (50, 2) := by decide +kernel
theorem lm_1_50 : tLm 1 50 = some (34, 3) := by decide +kernel
theorem lm_1_55 : tLm 1 55 = some (49, 5) := by decide +kernel
theorem lm_1_59 : tLm 1 59 = some (58, 3) := by decide +kernel
theorem lm_1_65 : tLm 1 65 = some (26, 2) := by decide +kernel
theorem lm_1_73 : tLm 1 73 = some (31, 2) := by decide +kernel
theorem lm_1_79 : tLm 1 79 = some (56, 3) := by decide +kernel
theorem lm_2_3 : tLm 2 3 = some (500, 1) := by decide +kernel
theorem lm_2_15 : tLm 2 15 = some (164, 2) := by decide +kernel
theorem lm_2_25 : tLm 2 25 = some (501, 5) := by decide +kernel
theorem lm_3_3 : tLm 3 3 = some (500, 1) := by decide +kernel
theorem lm_3_43 : tLm 3 43 = some (35, 3) := by decide +kernel
theorem lm_3_47 : tLm 3 47 = some (37, 3) := by decide +kernel
theorem lm_3_50 : tLm 3 50 = some (38, 3) := by decide +kernel
theorem lm_3_53 : tLm 3 53 = some (39, 3) := by decide +kernel
theorem lm_3_62 : tLm 3 62 = some (85, 2) := by decide +kernel
theorem lm_3_72 : tLm 3 72 = some (36, 4) := by decide +kernel
theorem lm_3_79 : tLm 3 79 = some (41, 4) := by decide +kernel
theorem lm_3_83 : tLm 3 83 = some (165, 2) := by decide +kernel
theorem lm_4_3 : tLm 4 3 = some (500, 1) := by decide +kernel
theorem lm_4_11 : tLm 4 11 = some (83, 2) := by decide +kernel
theorem lm_4_28 : tLm 4 28 = some (29, 1) := by decide +kernel
theorem lm_4_51 : tLm 4 51 = some (86, 2) := by decide +kernel
theorem lm_4_55 : tLm 4 55 = some (30, 3) := by decide +kernel
theorem lm_4_59 : tLm 4 59 = some (45, 1) := by decide +kernel
theorem lm_4_65 : tLm 4 65 = some (47, 7) := by decide +kernel
theorem lm_4_69 : tLm 4 69 = some (50, 2) := by decide +kernel
theorem lm_4_78 : tLm 4 78 = some (85, 2) := by decide +kernel
theorem lm_4_85 : tLm 4 85 = some (51, 4) := by decide +kernel
theorem lm_4_102 : tLm 4 102 = some (87, 2) := by decide +kernel
theorem lm_4_108 : tLm 4 108 = some (52, 3) := by decide +kernel
theorem lm_4_112 : tLm 4 112 = some (53, 2) := by decide +kernel
theorem lm_4_115 : tLm 4 115 = some (54, 3) := by decide +kernel
theorem lm_4_121 : tLm 4 121 = some (55, 2) := by decide +kernel
theorem lm_4_124 : tLm 4 124 = some (8, 3) := by decide +kernel
theorem lm_4_128 : tLm 4 128 = some (82, 2) := by decide +kernel
theorem lm_4_131 : tLm 4 131 = some (88, 3) := by decide +kernel
theorem lm_4_136 : tLm 4 136 = some (7, 2) := by decide +kernel
theorem lm_4_140 : tLm 4 140 = some (48, 2) := by decide +kernel
theorem lm_4_144 : tLm 4 144 = some (84, 6) := by decide +kernel
theorem lm_5_3 : tLm 5 3 = some (500, 1) := by decide +kernel
theorem lm_5_36 : tLm 5 36 = some (59, 5) := by decide +kernel
theorem lm_5_46 : tLm 5 46 = some (30, 3) := by decide +kernel
theorem lm_5_67 : tLm 5 67 = some (60, 2) := by decide +kernel
theorem lm_5_74 : tLm 5 74 = some (61, 3) := by decide +kernel
theorem lm_5_87 : tLm 5 87 = some (63, 5) := by decide +kernel
theorem lm_5_94 : tLm 5 94 = some (66, 4) := by decide +kernel
theorem lm_5_105 : tLm 5 105 = some (8, 3) := by decide +kernel
theorem lm_5_109 : tLm 5 109 = some (64, 4) := by decide +kernel
theorem lm_5_113 : tLm 5 113 = some (82, 2) := by decide +kernel
theorem lm_5_117 : tLm 5 117 = some (65, 3) := by decide +kernel
theorem lm_5_127 : tLm 5 127 = some (171, 2) := by decide +kernel
theorem lm_5_133 : tLm 5 133 = some (7, 2) := by decide +kernel
theorem lm_5_137 : tLm 5 137 = some (62, 5) := by decide +kernel
theorem lm_5_141 : tLm 5 141 = some (164, 2) := by decide +kernel
theorem lm_5_147 : tLm 5 147 = some (67, 3) := by decide +kernel
theorem lm_5_151 : tLm 5 151 = some (501, 5) := by decide +kernel
theorem lm_6_3 : tLm 6 3 = some (500, 1) := by decide +kernel
theorem lm_6_29 : tLm 6 29 = some (163, 2) := by decide +kernel
theorem lm_6_45 : tLm 6 45 = some (70, 3) := by decide +kernel
theorem lm_6_52 : tLm 6 52 = some (71, 3) := by decide +kernel
theorem lm_6_58 : tLm 6 58 = some (72, 1) := by decide +kernel
theorem lm_6_62 : tLm 6 62 = some (73, 2) := by decide +kernel
theorem lm_6_66 : tLm 6 66 = some (74, 2) := by decide +kernel
theorem lm_6_70 : tLm 6 70 = some (79, 3) := by decide +kernel
theorem lm_6_73 : tLm 6 73 = some (80, 3) := by decide +kernel
theorem lm_6_76 : tLm 6 76 = some (75, 3) := by decide +kernel
theorem lm_6_80 : tLm 6 80 = some (76, 2) := by decide +kernel
theorem lm_6_86 : tLm 6 86 = some (166, 2) := by decide +kernel
theorem lm_6_92 : tLm 6 92 = some (81, 1) := by decide +kernel
theorem lm_6_95 : tLm 6 95 = some (78, 1) := by decide +kernel
theorem lm_6_99 : tLm 6 99 = some (77, 1) := by decide +kernel
theorem lm_7_3 : tLm 7 3 = some (500, 1) := by decide +kernel
theorem lm_7_31 : tLm 7 31 = some (164, 2) := by decide +kernel
theorem lm_7_37 : tLm 7 37 = some (501, 5) := by decide +kernel
theorem lm_8_1 : tLm 8 1 = some (500, 1) := by decide +kernel
theorem lm_8_138 : tLm 8 138 = some (90, 1) := by decide +kernel
theorem lm_8_148 : tLm 8 148 = some (93, 3) := by decide +kernel
theorem lm_8_152 : tLm 8 152 = some (94, 2) := by decide +kernel
theorem lm_8_170 : tLm 8 170 = some (100, 2) := by decide +kernel
theorem lm_8_177 : tLm 8 177 = some (101, 1) := by decide +kernel
theorem lm_8_181 : tLm 8 181 = some (104, 1) := by decide +kernel
theorem lm_8_184 : tLm 8 184 = some (102, 3) := by decide +kernel
theorem lm_8_188 : tLm 8 188 = some (103, 1) := by decide +kernel
theorem lm_8_191 : tLm 8 191 = some (106, 2) := by decide +kernel
theorem lm_8_194 : tLm 8 194 = some (98, 4) := by decide +kernel
theorem lm_8_198 : tLm 8 198 = some (105, 2) := by decide +kernel
theorem lm_8_202 : tLm 8 202 = some (99, 1) := by decide +kernel
theorem lm_8_206 : tLm 8 206 = some (107, 1) := by decide +kernel
theorem lm_8_225 : tLm 8 225 = some (109, 3) := by decide +kernel
theorem lm_8_229 : tLm 8 229 = some (110, 3) := by decide +kernel
theorem lm_8_232 : tLm 8 232 = some (111, 3) := by decide +kernel
theorem lm_8_236 : tLm 8 236 = some (112, 4) := by decide +kernel
theorem lm_8_242 : tLm 8 242 = some (118, 2) := by decide +kernel
theorem lm_8_251 : tLm 8 251 = some (124, 3) := by decide +kernel
theorem lm_8_255 : tLm 8 255 = some (125, 3) := by decide +kernel
theorem lm_8_258 : tLm 8 258 = some (116, 1) := by decide +kernel
theorem lm_8_261 : tLm 8 261 = some (117, 2) := by decide +kernel
theorem lm_8_264 : tLm 8 264 = some (121, 4) := by decide +kernel
theorem lm_8_267 : tLm 8 267 = some (119, 1) := by decide +kernel
theorem lm_8_270 : tLm 8 270 = some (114, 5) := by decide +kernel
theorem lm_8_277 : tLm 8 277 = some (120, 4) := by decide +kernel
theorem lm_8_280 : tLm 8 280 = some (122, 4) := by decide +kernel
theorem lm_8_283 : tLm 8 283 = some (123, 3) := by decide +kernel
theorem lm_8_286 : tLm 8 286 = some (115, 2) := by decide +kernel
theorem lm_8_289 : tLm 8 289 = some (126, 2) := by decide +kernel
theorem lm_8_292 : tLm 8 292 = some (128, 2) := by decide +kernel
theorem lm_8_295 : tLm 8 295 = some (132, 2) := by decide +kernel
theorem lm_8_298 : tLm 8 298 = some (133, 2) := by decide +kernel
theorem lm_8_301 : tLm 8 301 = some (129, 3) := by decide +kernel
theorem lm_8_310 : tLm 8 310 = some (108, 4) := by decide +kernel
theorem lm_8_313 : tLm 8 313 = some (113, 1) := by decide +kernel
theorem lm_8_319 : tLm 8 319 = some (97, 1) := by decide +kernel
theorem lm_8_322 : tLm 8 322 = some (127, 1) := by decide +kernel
theorem lm_8_325 : tLm 8 325 = some (137, 2) := by decide +kernel
theorem lm_8_328 : tLm 8 328 = some (138, 1) := by decide +kernel
theorem lm_8_331 : tLm 8 331 = some (139, 2) := by decide +kernel
theorem lm_8_334 : tLm 8 334 = some (131, 2) := by decide +kernel
theorem lm_8_337 : tLm 8 337 = some (136, 1) := by decide +kernel
theorem lm_8_340 : tLm 8 340 = some (144, 2) := by decide +kernel
theorem lm_8_344 : tLm 8 344 = some (147, 3) := by decide +kernel
theorem lm_8_362 : tLm 8 362 = some (149, 4) := by decide +kernel
theorem lm_9_7 : tLm 9 7 = some (3, 3) := by decide +kernel
theorem lm_9_17 : tLm 9 17 = some (6, 1) := by decide +kernel
theorem lm_9_23 : tLm 9 23 = some (10, 3) := by decide +kernel
theorem lm_9_29 : tLm 9 29 = some (11, 2) := by decide +kernel
theorem lm_9_33 : tLm 9 33 = some (13, 2) := by decide +kernel
theorem lm_9_36 : tLm 9 36 = some (14, 2) := by decide +kernel
theorem lm_9_39 : tLm 9 39 = some (15, 2) := by decide +kernel
theorem lm_9_42 : tLm 9 42 = some (16, 2) := by decide +kernel
theorem lm_9_45 : tLm 9 45 = some (18, 2) := by decide +kernel
theorem lm_9_51 : tLm 9 51 = some (19, 3) := by decide +kernel
theorem lm_9_55 : tLm 9 55 = some (21, 4) := by decide +kernel
theorem lm_9_59 : tLm 9 59 = some (22, 2) := by decide +kernel
theorem lm_9_62 : tLm 9 62 = some (0, 1) := by decide +kernel
theorem lm_9_65 : tLm 9 65 = some (89, 1) := by decide +kernel
theorem lm_9_68 : tLm 9 68 = some (151, 4) := by decide +kernel
theorem lm_9_73 : tLm 9 73 = some (92, 3) := by decide +kernel
theorem lm_9_74 : tLm 9 74 = some (91, 1) := by decide +kernel
theorem lm_9_77 : tLm 9 77 = some (1, 1) := by decide +kernel
theorem lm_9_80 : tLm 9 80 = some (95, 1) := by decide +kernel
theorem lm_9_81 : tLm 9 81 = some (152, 2) := by decide +kernel
theorem lm_9_84 : tLm 9 84 = some (96, 1) := by decide +kernel
theorem lm_9_85 : tLm 9 85 = some (2, 1) := by decide +kernel
theorem lm_9_88 : tLm 9 88 = some (130, 1) := by decide +kernel
theorem lm_9_89 : tLm 9 89 = some (153, 4) := by decide +kernel
theorem lm_9_92 : tLm 9 92 = some (134, 3) := by decide +kernel
theorem lm_9_93 : tLm 9 93 = some (154, 3) := by decide +kernel
theorem lm_9_96 : tLm 9 96 = some (135, 2) := by decide +kernel
theorem lm_9_97 : tLm 9 97 = some (155, 3) := by decide +kernel
theorem lm_9_99 : tLm 9 99 = some (140, 2) := by decide +kernel
theorem lm_9_100 : tLm 9 100 = some (156, 3) := by decide +kernel
theorem lm_9_102 : tLm 9 102 = some (141, 2) := by decide +kernel
theorem lm_9_103 : tLm 9 103 = some (157, 3) := by decide +kernel
theorem lm_9_105 : tLm 9 105 = some (142, 2) := by decide +kernel
theorem lm_9_106 : tLm 9 106 = some (158, 3) := by decide +kernel
theorem lm_9_108 : tLm 9 108 = some (143, 2) := by decide +kernel
theorem lm_9_109 : tLm 9 109 = some (159, 3) := by decide +kernel
theorem lm_9_111 : tLm 9 111 = some (145, 2) := by decide +kernel
theorem lm_9_112 : tLm 9 112 = some (160, 4) := by decide +kernel
theorem lm_9_114 : tLm 9 114 = some (146, 3) := by decide +kernel
theorem lm_9_115 : tLm 9 115 = some (161, 5) := by decide +kernel
theorem lm_9_118 : tLm 9 118 = some (148, 4) := by decide +kernel
theorem lm_9_119 : tLm 9 119 = some (162, 3) := by decide +kernel
theorem lm_9_121 : tLm 9 121 = some (150, 2) := by decide +kernel
theorem lm_12_335 : tLm 12 335 = some (170, 1) := by decide +kernel
theorem lm_12_492 : tLm 12 492 = some (168, 1) := by decide +kernel
theorem lm_12_495 : tLm 12 495 = some (176, 2) := by decide +kernel
theorem lm_12_505 : tLm 12 505 = some (169, 1) := by decide +kernel
theorem lm_12_633 : tLm 12 633 = some (167, 3) := by decide +kernel
theorem lm_12_637 : tLm 12 637 = some (173, 4) := by decide +kernel
theorem lm_12_1059 : tLm 12 1059 = some (177, 3) := by decide +kernel
theorem lm_13_9 : tLm 13 9 = some (172, 2) := by decide +kernel
theorem lm_13_38 : tLm 13 38 = some (164, 2) := by decide +kernel
theorem lm_13_88 : tLm 13 88 = some (174, 1) := by decide +kernel
theorem lm_13_92 : tLm 13 92 = some (163, 2) := by decide +kernel
theorem lm_13_95 : tLm 13 95 = some (175, 4) := by decide +kernel
theorem lc_9_8 : tLc 9 8 = some (0, 11) := by decide +kernel
theorem lc_0_13 : tLc 0 13 = some (6, 8) := by decide +kernel
theorem lc_0_20 : tLc 0 20 = some (5, 7) := by decide +kernel
theorem lc_0_27 : tLc 0 27 = some (4, 6) := by decide +kernel
theorem lc_4_9 : tLc 4 9 = some (7, 6) := by decide +kernel
theorem lc_4_26 : tLc 4 26 = some (2, 2) := by decide +kernel
theorem lc_0_37 : tLc 0 37 = some (3, 5) := by decide +kernel
theorem lc_0_47 : tLc 0 47 = some (2, 2) := by decide +kernel
theorem lc_0_53 : tLc 0 53 = some (1, 7) := by decide +kernel
theorem lc_1_9 : tLc 1 9 = some (4, 6) := by decide +kernel
theorem lc_1_21 : tLc 1 21 = some (3, 5) := by decide +kernel
theorem lc_9_63 : tLc 9 63 = some (8, 67) := by decide +kernel
theorem lx_0_68 : tLx 0 68 = some (0, 6) := by decide +kernel
theorem lcn_0_68 : tLc 0 68 = none := by decide +kernel
theorem lx_0_75 : tLx 0 75 = some (1, 6) := by decide +kernel
theorem lcn_0_75 : tLc 0 75 = none := by decide +kernel
theorem lx_6_55 : tLx 6 55 = some (1, 6) := by decide +kernel
theorem lcn_6_55 : tLc 6 55 = none := by decide +kernel
theorem lx_6_49 : tLx 6 49 = some (0, 6) := by decide +kernel
theorem lcn_6_49 : tLc 6 49 = none := by decide +kernel
theorem lx_0_101 : tLx 0 101 = some (2, 6) := by decide +kernel
theorem lcn_0_101 : tLc 0 101 = none := by decide +kernel
theorem lx_0_115 : tLx 0 115 = some (3, 6) := by decide +kernel
theorem lcn_0_115 : tLc 0 115 = none := by decide +kernel
theorem lx_0_170 : tLx 0 170 = some (4, 6) := by decide +kernel
theorem lcn_0_170 : tLc 0 170 = none := by decide +kernel
