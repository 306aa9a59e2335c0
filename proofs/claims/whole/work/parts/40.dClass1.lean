/-! Rows that decode each instruction. Written by wip/whole/gen/mktab.py. -/
theorem d23_0 : decode (tBc 23) 0 = .ok (.aload_n 0, 1) := by decide +kernel
theorem d23_1 : decode (tBc 23) 1 = .ok (.invokespecial 3, 3) := by decide +kernel
theorem d23_4 : decode (tBc 23) 4 = .ok (.aload_n 0, 1) := by decide +kernel
theorem d23_5 : decode (tBc 23) 5 = .ok (.bipush 30, 2) := by decide +kernel
theorem d23_7 : decode (tBc 23) 7 = .ok (.anewarray 9, 3) := by decide +kernel
theorem d23_10 : decode (tBc 23) 10 = .ok (.putfield 11, 3) := by decide +kernel
theorem d23_13 : decode (tBc 23) 13 = .ok (.aload_n 0, 1) := by decide +kernel
theorem d23_14 : decode (tBc 23) 14 = .ok (.bipush 30, 2) := by decide +kernel
theorem d23_16 : decode (tBc 23) 16 = .ok (.newarray .int, 2) := by decide +kernel
theorem d23_18 : decode (tBc 23) 18 = .ok (.putfield 17, 3) := by decide +kernel
theorem d23_21 : decode (tBc 23) 21 = .ok (.aload_n 0, 1) := by decide +kernel
theorem d23_22 : decode (tBc 23) 22 = .ok (.new 21, 3) := by decide +kernel
theorem d23_25 : decode (tBc 23) 25 = .ok (.dup, 1) := by decide +kernel
theorem d23_26 : decode (tBc 23) 26 = .ok (.invokespecial 23, 3) := by decide +kernel
theorem d23_29 : decode (tBc 23) 29 = .ok (.putfield 24, 3) := by decide +kernel
theorem d23_32 : decode (tBc 23) 32 = .ok (.aload_n 0, 1) := by decide +kernel
theorem d23_33 : decode (tBc 23) 33 = .ok (.iconst (-1), 1) := by decide +kernel
theorem d23_34 : decode (tBc 23) 34 = .ok (.putfield 28, 3) := by decide +kernel
theorem d23_37 : decode (tBc 23) 37 = .ok (.iconst 0, 1) := by decide +kernel
theorem d23_38 : decode (tBc 23) 38 = .ok (.istore_n 1, 1) := by decide +kernel
theorem d23_39 : decode (tBc 23) 39 = .ok (.iload_n 1, 1) := by decide +kernel
theorem d23_40 : decode (tBc 23) 40 = .ok (.bipush 30, 2) := by decide +kernel
theorem d23_42 : decode (tBc 23) 42 = .ok (.if_icmp .ge 22, 3) := by decide +kernel
theorem d23_45 : decode (tBc 23) 45 = .ok (.aload_n 0, 1) := by decide +kernel
theorem d23_46 : decode (tBc 23) 46 = .ok (.getfield 11, 3) := by decide +kernel
theorem d23_49 : decode (tBc 23) 49 = .ok (.iload_n 1, 1) := by decide +kernel
theorem d23_50 : decode (tBc 23) 50 = .ok (.new 9, 3) := by decide +kernel
theorem d23_53 : decode (tBc 23) 53 = .ok (.dup, 1) := by decide +kernel
theorem d23_54 : decode (tBc 23) 54 = .ok (.invokespecial 32, 3) := by decide +kernel
theorem d23_57 : decode (tBc 23) 57 = .ok (.aastore, 1) := by decide +kernel
theorem d23_58 : decode (tBc 23) 58 = .ok (.iinc 1 1, 3) := by decide +kernel
theorem d23_61 : decode (tBc 23) 61 = .ok (.goto (-22), 3) := by decide +kernel
theorem d23_64 : decode (tBc 23) 64 = .ok (.return_, 1) := by decide +kernel
theorem d24_0 : decode (tBc 24) 0 = .ok (.aload_n 0, 1) := by decide +kernel
theorem d24_1 : decode (tBc 24) 1 = .ok (.iconst 0, 1) := by decide +kernel
theorem d24_2 : decode (tBc 24) 2 = .ok (.putfield 33, 3) := by decide +kernel
theorem d24_5 : decode (tBc 24) 5 = .ok (.aload_n 0, 1) := by decide +kernel
theorem d24_6 : decode (tBc 24) 6 = .ok (.iconst 0, 1) := by decide +kernel
theorem d24_7 : decode (tBc 24) 7 = .ok (.putfield 36, 3) := by decide +kernel
theorem d24_10 : decode (tBc 24) 10 = .ok (.aload_n 0, 1) := by decide +kernel
theorem d24_11 : decode (tBc 24) 11 = .ok (.iconst 0, 1) := by decide +kernel
theorem d24_12 : decode (tBc 24) 12 = .ok (.putfield 40, 3) := by decide +kernel
theorem d24_15 : decode (tBc 24) 15 = .ok (.aload_n 0, 1) := by decide +kernel
theorem d24_16 : decode (tBc 24) 16 = .ok (.iconst (-1), 1) := by decide +kernel
theorem d24_17 : decode (tBc 24) 17 = .ok (.putfield 28, 3) := by decide +kernel
theorem d24_20 : decode (tBc 24) 20 = .ok (.return_, 1) := by decide +kernel
theorem d25_0 : decode (tBc 25) 0 = .ok (.aload_n 0, 1) := by decide +kernel
theorem d25_1 : decode (tBc 25) 1 = .ok (.invokevirtual 43, 3) := by decide +kernel
theorem d25_4 : decode (tBc 25) 4 = .ok (.aload_n 0, 1) := by decide +kernel
theorem d25_5 : decode (tBc 25) 5 = .ok (.getfield 11, 3) := by decide +kernel
theorem d25_8 : decode (tBc 25) 8 = .ok (.iconst 0, 1) := by decide +kernel
theorem d25_9 : decode (tBc 25) 9 = .ok (.aaload, 1) := by decide +kernel
theorem d25_10 : decode (tBc 25) 10 = .ok (.aload_n 1, 1) := by decide +kernel
theorem d25_11 : decode (tBc 25) 11 = .ok (.invokevirtual 46, 3) := by decide +kernel
theorem d25_14 : decode (tBc 25) 14 = .ok (.aload_n 0, 1) := by decide +kernel
theorem d25_15 : decode (tBc 25) 15 = .ok (.getfield 17, 3) := by decide +kernel
theorem d25_18 : decode (tBc 25) 18 = .ok (.iconst 0, 1) := by decide +kernel
theorem d25_19 : decode (tBc 25) 19 = .ok (.iconst 0, 1) := by decide +kernel
theorem d25_20 : decode (tBc 25) 20 = .ok (.iastore, 1) := by decide +kernel
theorem d25_21 : decode (tBc 25) 21 = .ok (.aload_n 0, 1) := by decide +kernel
theorem d25_22 : decode (tBc 25) 22 = .ok (.iconst 1, 1) := by decide +kernel
theorem d25_23 : decode (tBc 25) 23 = .ok (.putfield 33, 3) := by decide +kernel
theorem d25_26 : decode (tBc 25) 26 = .ok (.iconst 0, 1) := by decide +kernel
theorem d25_27 : decode (tBc 25) 27 = .ok (.istore 5, 2) := by decide +kernel
theorem d25_29 : decode (tBc 25) 29 = .ok (.iload 5, 2) := by decide +kernel
theorem d25_31 : decode (tBc 25) 31 = .ok (.aload_n 0, 1) := by decide +kernel
theorem d25_32 : decode (tBc 25) 32 = .ok (.getfield 33, 3) := by decide +kernel
theorem d25_35 : decode (tBc 25) 35 = .ok (.if_icmp .ge 162, 3) := by decide +kernel
theorem d25_38 : decode (tBc 25) 38 = .ok (.aload_n 0, 1) := by decide +kernel
theorem d25_39 : decode (tBc 25) 39 = .ok (.getfield 33, 3) := by decide +kernel
theorem d25_42 : decode (tBc 25) 42 = .ok (.iload_n 2, 1) := by decide +kernel
theorem d25_43 : decode (tBc 25) 43 = .ok (.if_icmp .ge 154, 3) := by decide +kernel
theorem d25_46 : decode (tBc 25) 46 = .ok (.aload_n 0, 1) := by decide +kernel
theorem d25_47 : decode (tBc 25) 47 = .ok (.getfield 24, 3) := by decide +kernel
theorem d25_50 : decode (tBc 25) 50 = .ok (.aload_n 0, 1) := by decide +kernel
theorem d25_51 : decode (tBc 25) 51 = .ok (.getfield 11, 3) := by decide +kernel
theorem d25_54 : decode (tBc 25) 54 = .ok (.iload 5, 2) := by decide +kernel
theorem d25_56 : decode (tBc 25) 56 = .ok (.aaload, 1) := by decide +kernel
theorem d25_57 : decode (tBc 25) 57 = .ok (.aload_n 3, 1) := by decide +kernel
theorem d25_58 : decode (tBc 25) 58 = .ok (.invokevirtual 50, 3) := by decide +kernel
theorem d25_61 : decode (tBc 25) 61 = .ok (.aload_n 0, 1) := by decide +kernel
theorem d25_62 : decode (tBc 25) 62 = .ok (.getfield 24, 3) := by decide +kernel
theorem d25_65 : decode (tBc 25) 65 = .ok (.getfield 54, 3) := by decide +kernel
theorem d25_68 : decode (tBc 25) 68 = .ok (.ifCond .ne 13, 3) := by decide +kernel
theorem d25_71 : decode (tBc 25) 71 = .ok (.aload_n 0, 1) := by decide +kernel
theorem d25_72 : decode (tBc 25) 72 = .ok (.dup, 1) := by decide +kernel
theorem d25_73 : decode (tBc 25) 73 = .ok (.getfield 40, 3) := by decide +kernel
theorem d25_76 : decode (tBc 25) 76 = .ok (.iconst 1, 1) := by decide +kernel
theorem d25_77 : decode (tBc 25) 77 = .ok (.iadd, 1) := by decide +kernel
theorem d25_78 : decode (tBc 25) 78 = .ok (.putfield 40, 3) := by decide +kernel
theorem d25_81 : decode (tBc 25) 81 = .ok (.iconst 0, 1) := by decide +kernel
theorem d25_82 : decode (tBc 25) 82 = .ok (.istore 6, 2) := by decide +kernel
theorem d25_84 : decode (tBc 25) 84 = .ok (.iload 6, 2) := by decide +kernel
theorem d25_86 : decode (tBc 25) 86 = .ok (.aload_n 0, 1) := by decide +kernel
theorem d25_87 : decode (tBc 25) 87 = .ok (.getfield 24, 3) := by decide +kernel
theorem d25_90 : decode (tBc 25) 90 = .ok (.getfield 54, 3) := by decide +kernel
theorem d25_93 : decode (tBc 25) 93 = .ok (.if_icmp .ge 98, 3) := by decide +kernel
theorem d25_96 : decode (tBc 25) 96 = .ok (.aload_n 0, 1) := by decide +kernel
theorem d25_97 : decode (tBc 25) 97 = .ok (.getfield 33, 3) := by decide +kernel
theorem d25_100 : decode (tBc 25) 100 = .ok (.iload_n 2, 1) := by decide +kernel
theorem d25_101 : decode (tBc 25) 101 = .ok (.if_icmp .ge 90, 3) := by decide +kernel
theorem d25_104 : decode (tBc 25) 104 = .ok (.aload_n 0, 1) := by decide +kernel
theorem d25_105 : decode (tBc 25) 105 = .ok (.getfield 11, 3) := by decide +kernel
theorem d25_108 : decode (tBc 25) 108 = .ok (.aload_n 0, 1) := by decide +kernel
theorem d25_109 : decode (tBc 25) 109 = .ok (.getfield 33, 3) := by decide +kernel
theorem d25_112 : decode (tBc 25) 112 = .ok (.aaload, 1) := by decide +kernel
theorem d25_113 : decode (tBc 25) 113 = .ok (.astore 7, 2) := by decide +kernel
theorem d25_115 : decode (tBc 25) 115 = .ok (.aload 7, 2) := by decide +kernel
theorem d25_117 : decode (tBc 25) 117 = .ok (.aload_n 0, 1) := by decide +kernel
theorem d25_118 : decode (tBc 25) 118 = .ok (.getfield 11, 3) := by decide +kernel
theorem d25_121 : decode (tBc 25) 121 = .ok (.iload 5, 2) := by decide +kernel
theorem d25_123 : decode (tBc 25) 123 = .ok (.aaload, 1) := by decide +kernel
theorem d25_124 : decode (tBc 25) 124 = .ok (.aload_n 0, 1) := by decide +kernel
theorem d25_125 : decode (tBc 25) 125 = .ok (.getfield 24, 3) := by decide +kernel
theorem d25_128 : decode (tBc 25) 128 = .ok (.iload 6, 2) := by decide +kernel
theorem d25_130 : decode (tBc 25) 130 = .ok (.aload_n 3, 1) := by decide +kernel
theorem d25_131 : decode (tBc 25) 131 = .ok (.invokevirtual 55, 3) := by decide +kernel
theorem d25_134 : decode (tBc 25) 134 = .ok (.ifCond .eq 51, 3) := by decide +kernel
theorem d25_137 : decode (tBc 25) 137 = .ok (.aload 4, 2) := by decide +kernel
theorem d25_139 : decode (tBc 25) 139 = .ok (.aload 7, 2) := by decide +kernel
theorem d25_141 : decode (tBc 25) 141 = .ok (.aload_n 3, 1) := by decide +kernel
theorem d25_142 : decode (tBc 25) 142 = .ok (.invokevirtual 59, 3) := by decide +kernel
theorem d25_145 : decode (tBc 25) 145 = .ok (.ifCond .eq 40, 3) := by decide +kernel
theorem d25_148 : decode (tBc 25) 148 = .ok (.aload_n 0, 1) := by decide +kernel
theorem d25_149 : decode (tBc 25) 149 = .ok (.aload 7, 2) := by decide +kernel
theorem d25_151 : decode (tBc 25) 151 = .ok (.invokevirtual 65, 3) := by decide +kernel
theorem d25_154 : decode (tBc 25) 154 = .ok (.ifCond .eq 31, 3) := by decide +kernel
theorem d25_157 : decode (tBc 25) 157 = .ok (.aload_n 0, 1) := by decide +kernel
theorem d25_158 : decode (tBc 25) 158 = .ok (.getfield 17, 3) := by decide +kernel
theorem d25_161 : decode (tBc 25) 161 = .ok (.aload_n 0, 1) := by decide +kernel
theorem d25_162 : decode (tBc 25) 162 = .ok (.getfield 33, 3) := by decide +kernel
theorem d25_165 : decode (tBc 25) 165 = .ok (.aload_n 0, 1) := by decide +kernel
theorem d25_166 : decode (tBc 25) 166 = .ok (.getfield 17, 3) := by decide +kernel
theorem d25_169 : decode (tBc 25) 169 = .ok (.iload 5, 2) := by decide +kernel
theorem d25_171 : decode (tBc 25) 171 = .ok (.iaload, 1) := by decide +kernel
theorem d25_172 : decode (tBc 25) 172 = .ok (.iconst 1, 1) := by decide +kernel
theorem d25_173 : decode (tBc 25) 173 = .ok (.iadd, 1) := by decide +kernel
theorem d25_174 : decode (tBc 25) 174 = .ok (.iastore, 1) := by decide +kernel
theorem d25_175 : decode (tBc 25) 175 = .ok (.aload_n 0, 1) := by decide +kernel
theorem d25_176 : decode (tBc 25) 176 = .ok (.dup, 1) := by decide +kernel
theorem d25_177 : decode (tBc 25) 177 = .ok (.getfield 33, 3) := by decide +kernel
theorem d25_180 : decode (tBc 25) 180 = .ok (.iconst 1, 1) := by decide +kernel
theorem d25_181 : decode (tBc 25) 181 = .ok (.iadd, 1) := by decide +kernel
theorem d25_182 : decode (tBc 25) 182 = .ok (.putfield 33, 3) := by decide +kernel
theorem d25_185 : decode (tBc 25) 185 = .ok (.iinc 6 1, 3) := by decide +kernel
theorem d25_188 : decode (tBc 25) 188 = .ok (.goto (-104), 3) := by decide +kernel
theorem d25_191 : decode (tBc 25) 191 = .ok (.iinc 5 1, 3) := by decide +kernel
theorem d25_194 : decode (tBc 25) 194 = .ok (.goto (-165), 3) := by decide +kernel
theorem d25_197 : decode (tBc 25) 197 = .ok (.aload_n 0, 1) := by decide +kernel
theorem d25_198 : decode (tBc 25) 198 = .ok (.aload_n 0, 1) := by decide +kernel
theorem d25_199 : decode (tBc 25) 199 = .ok (.getfield 33, 3) := by decide +kernel
theorem d25_202 : decode (tBc 25) 202 = .ok (.iload_n 2, 1) := by decide +kernel
theorem d25_203 : decode (tBc 25) 203 = .ok (.if_icmp .ge 7, 3) := by decide +kernel
theorem d25_206 : decode (tBc 25) 206 = .ok (.iconst 1, 1) := by decide +kernel
theorem d25_207 : decode (tBc 25) 207 = .ok (.goto 4, 3) := by decide +kernel
theorem d25_210 : decode (tBc 25) 210 = .ok (.iconst 0, 1) := by decide +kernel
theorem d25_211 : decode (tBc 25) 211 = .ok (.putfield 36, 3) := by decide +kernel
theorem d25_214 : decode (tBc 25) 214 = .ok (.return_, 1) := by decide +kernel
theorem d26_0 : decode (tBc 26) 0 = .ok (.iconst 0, 1) := by decide +kernel
theorem d26_1 : decode (tBc 26) 1 = .ok (.istore_n 2, 1) := by decide +kernel
theorem d26_2 : decode (tBc 26) 2 = .ok (.iload_n 2, 1) := by decide +kernel
theorem d26_3 : decode (tBc 26) 3 = .ok (.aload_n 0, 1) := by decide +kernel
theorem d26_4 : decode (tBc 26) 4 = .ok (.getfield 33, 3) := by decide +kernel
theorem d26_7 : decode (tBc 26) 7 = .ok (.if_icmp .ge 30, 3) := by decide +kernel
theorem d26_10 : decode (tBc 26) 10 = .ok (.aload_n 0, 1) := by decide +kernel
theorem d26_11 : decode (tBc 26) 11 = .ok (.getfield 11, 3) := by decide +kernel
theorem d26_14 : decode (tBc 26) 14 = .ok (.iload_n 2, 1) := by decide +kernel
theorem d26_15 : decode (tBc 26) 15 = .ok (.aaload, 1) := by decide +kernel
theorem d26_16 : decode (tBc 26) 16 = .ok (.getfield 69, 3) := by decide +kernel
theorem d26_19 : decode (tBc 26) 19 = .ok (.aload_n 1, 1) := by decide +kernel
theorem d26_20 : decode (tBc 26) 20 = .ok (.getfield 69, 3) := by decide +kernel
theorem d26_23 : decode (tBc 26) 23 = .ok (.invokevirtual 73, 3) := by decide +kernel
theorem d26_26 : decode (tBc 26) 26 = .ok (.ifCond .eq 5, 3) := by decide +kernel
theorem d26_29 : decode (tBc 26) 29 = .ok (.iconst 0, 1) := by decide +kernel
theorem d26_30 : decode (tBc 26) 30 = .ok (.ireturn, 1) := by decide +kernel
theorem d26_31 : decode (tBc 26) 31 = .ok (.iinc 2 1, 3) := by decide +kernel
theorem d26_34 : decode (tBc 26) 34 = .ok (.goto (-32), 3) := by decide +kernel
theorem d26_37 : decode (tBc 26) 37 = .ok (.iconst 1, 1) := by decide +kernel
theorem d26_38 : decode (tBc 26) 38 = .ok (.ireturn, 1) := by decide +kernel
theorem d27_0 : decode (tBc 27) 0 = .ok (.aload_n 0, 1) := by decide +kernel
theorem d27_1 : decode (tBc 27) 1 = .ok (.iconst (-1), 1) := by decide +kernel
theorem d27_2 : decode (tBc 27) 2 = .ok (.putfield 28, 3) := by decide +kernel
theorem d27_5 : decode (tBc 27) 5 = .ok (.iconst 0, 1) := by decide +kernel
theorem d27_6 : decode (tBc 27) 6 = .ok (.istore_n 3, 1) := by decide +kernel
theorem d27_7 : decode (tBc 27) 7 = .ok (.iload_n 3, 1) := by decide +kernel
theorem d27_8 : decode (tBc 27) 8 = .ok (.aload_n 0, 1) := by decide +kernel
theorem d27_9 : decode (tBc 27) 9 = .ok (.getfield 33, 3) := by decide +kernel
theorem d27_12 : decode (tBc 27) 12 = .ok (.if_icmp .ge 41, 3) := by decide +kernel
theorem d27_15 : decode (tBc 27) 15 = .ok (.aload_n 0, 1) := by decide +kernel
theorem d27_16 : decode (tBc 27) 16 = .ok (.getfield 28, 3) := by decide +kernel
theorem d27_19 : decode (tBc 27) 19 = .ok (.iconst (-1), 1) := by decide +kernel
theorem d27_20 : decode (tBc 27) 20 = .ok (.if_icmp .ne 33, 3) := by decide +kernel
theorem d27_23 : decode (tBc 27) 23 = .ok (.aload_n 0, 1) := by decide +kernel
theorem d27_24 : decode (tBc 27) 24 = .ok (.getfield 11, 3) := by decide +kernel
theorem d27_27 : decode (tBc 27) 27 = .ok (.iload_n 3, 1) := by decide +kernel
theorem d27_28 : decode (tBc 27) 28 = .ok (.aaload, 1) := by decide +kernel
theorem d27_29 : decode (tBc 27) 29 = .ok (.iload_n 1, 1) := by decide +kernel
theorem d27_30 : decode (tBc 27) 30 = .ok (.iload_n 2, 1) := by decide +kernel
theorem d27_31 : decode (tBc 27) 31 = .ok (.invokevirtual 79, 3) := by decide +kernel
theorem d27_34 : decode (tBc 27) 34 = .ok (.ifCond .eq 13, 3) := by decide +kernel
theorem d27_37 : decode (tBc 27) 37 = .ok (.aload_n 0, 1) := by decide +kernel
theorem d27_38 : decode (tBc 27) 38 = .ok (.aload_n 0, 1) := by decide +kernel
theorem d27_39 : decode (tBc 27) 39 = .ok (.getfield 17, 3) := by decide +kernel
theorem d27_42 : decode (tBc 27) 42 = .ok (.iload_n 3, 1) := by decide +kernel
theorem d27_43 : decode (tBc 27) 43 = .ok (.iaload, 1) := by decide +kernel
theorem d27_44 : decode (tBc 27) 44 = .ok (.putfield 28, 3) := by decide +kernel
theorem d27_47 : decode (tBc 27) 47 = .ok (.iinc 3 1, 3) := by decide +kernel
theorem d27_50 : decode (tBc 27) 50 = .ok (.goto (-43), 3) := by decide +kernel
theorem d27_53 : decode (tBc 27) 53 = .ok (.return_, 1) := by decide +kernel
theorem d28_0 : decode (tBc 28) 0 = .ok (.aload_n 0, 1) := by decide +kernel
theorem d28_1 : decode (tBc 28) 1 = .ok (.getfield 33, 3) := by decide +kernel
theorem d28_4 : decode (tBc 28) 4 = .ok (.ifCond .ne 7, 3) := by decide +kernel
theorem d28_7 : decode (tBc 28) 7 = .ok (.iconst 0, 1) := by decide +kernel
theorem d28_8 : decode (tBc 28) 8 = .ok (.goto 14, 3) := by decide +kernel
theorem d28_11 : decode (tBc 28) 11 = .ok (.aload_n 0, 1) := by decide +kernel
theorem d28_12 : decode (tBc 28) 12 = .ok (.getfield 17, 3) := by decide +kernel
theorem d28_15 : decode (tBc 28) 15 = .ok (.aload_n 0, 1) := by decide +kernel
theorem d28_16 : decode (tBc 28) 16 = .ok (.getfield 33, 3) := by decide +kernel
theorem d28_19 : decode (tBc 28) 19 = .ok (.iconst 1, 1) := by decide +kernel
theorem d28_20 : decode (tBc 28) 20 = .ok (.isub, 1) := by decide +kernel
theorem d28_21 : decode (tBc 28) 21 = .ok (.iaload, 1) := by decide +kernel
theorem d28_22 : decode (tBc 28) 22 = .ok (.ireturn, 1) := by decide +kernel
theorem d29_0 : decode (tBc 29) 0 = .ok (.aload_n 0, 1) := by decide +kernel
theorem d29_1 : decode (tBc 29) 1 = .ok (.invokespecial 3, 3) := by decide +kernel
theorem d29_4 : decode (tBc 29) 4 = .ok (.aload_n 0, 1) := by decide +kernel
theorem d29_5 : decode (tBc 29) 5 = .ok (.sipush 240, 3) := by decide +kernel
theorem d29_8 : decode (tBc 29) 8 = .ok (.newarray .char, 2) := by decide +kernel
theorem d29_10 : decode (tBc 29) 10 = .ok (.putfield 9, 3) := by decide +kernel
theorem d29_13 : decode (tBc 29) 13 = .ok (.return_, 1) := by decide +kernel
theorem d30_0 : decode (tBc 30) 0 = .ok (.aload_n 0, 1) := by decide +kernel
theorem d30_1 : decode (tBc 30) 1 = .ok (.iload_n 2, 1) := by decide +kernel
theorem d30_2 : decode (tBc 30) 2 = .ok (.sipush 240, 3) := by decide +kernel
theorem d30_5 : decode (tBc 30) 5 = .ok (.invokestatic 15, 3) := by decide +kernel
theorem d30_8 : decode (tBc 30) 8 = .ok (.putfield 21, 3) := by decide +kernel
theorem d30_11 : decode (tBc 30) 11 = .ok (.aload_n 1, 1) := by decide +kernel
theorem d30_12 : decode (tBc 30) 12 = .ok (.iconst 0, 1) := by decide +kernel
theorem d30_13 : decode (tBc 30) 13 = .ok (.aload_n 0, 1) := by decide +kernel
theorem d30_14 : decode (tBc 30) 14 = .ok (.getfield 9, 3) := by decide +kernel
theorem d30_17 : decode (tBc 30) 17 = .ok (.iconst 0, 1) := by decide +kernel
theorem d30_18 : decode (tBc 30) 18 = .ok (.aload_n 0, 1) := by decide +kernel
theorem d30_19 : decode (tBc 30) 19 = .ok (.getfield 21, 3) := by decide +kernel
theorem d30_22 : decode (tBc 30) 22 = .ok (.invokestatic 25, 3) := by decide +kernel
theorem d30_25 : decode (tBc 30) 25 = .ok (.return_, 1) := by decide +kernel
theorem d31_0 : decode (tBc 31) 0 = .ok (.aload_n 0, 1) := by decide +kernel
theorem d31_1 : decode (tBc 31) 1 = .ok (.getfield 21, 3) := by decide +kernel
theorem d31_4 : decode (tBc 31) 4 = .ok (.aload_n 1, 1) := by decide +kernel
theorem d31_5 : decode (tBc 31) 5 = .ok (.getfield 21, 3) := by decide +kernel
theorem d31_8 : decode (tBc 31) 8 = .ok (.if_icmp .eq 5, 3) := by decide +kernel
theorem d31_11 : decode (tBc 31) 11 = .ok (.iconst 0, 1) := by decide +kernel
theorem d31_12 : decode (tBc 31) 12 = .ok (.ireturn, 1) := by decide +kernel
theorem d31_13 : decode (tBc 31) 13 = .ok (.iconst 0, 1) := by decide +kernel
theorem d31_14 : decode (tBc 31) 14 = .ok (.istore_n 2, 1) := by decide +kernel
theorem d31_15 : decode (tBc 31) 15 = .ok (.iload_n 2, 1) := by decide +kernel
theorem d31_16 : decode (tBc 31) 16 = .ok (.aload_n 0, 1) := by decide +kernel
theorem d31_17 : decode (tBc 31) 17 = .ok (.getfield 21, 3) := by decide +kernel
theorem d31_20 : decode (tBc 31) 20 = .ok (.if_icmp .ge 26, 3) := by decide +kernel
theorem d31_23 : decode (tBc 31) 23 = .ok (.aload_n 0, 1) := by decide +kernel
theorem d31_24 : decode (tBc 31) 24 = .ok (.getfield 9, 3) := by decide +kernel
theorem d31_27 : decode (tBc 31) 27 = .ok (.iload_n 2, 1) := by decide +kernel
theorem d31_28 : decode (tBc 31) 28 = .ok (.caload, 1) := by decide +kernel
theorem d31_29 : decode (tBc 31) 29 = .ok (.aload_n 1, 1) := by decide +kernel
theorem d31_30 : decode (tBc 31) 30 = .ok (.getfield 9, 3) := by decide +kernel
theorem d31_33 : decode (tBc 31) 33 = .ok (.iload_n 2, 1) := by decide +kernel
theorem d31_34 : decode (tBc 31) 34 = .ok (.caload, 1) := by decide +kernel
theorem d31_35 : decode (tBc 31) 35 = .ok (.if_icmp .eq 5, 3) := by decide +kernel
theorem d31_38 : decode (tBc 31) 38 = .ok (.iconst 0, 1) := by decide +kernel
theorem d31_39 : decode (tBc 31) 39 = .ok (.ireturn, 1) := by decide +kernel
theorem d31_40 : decode (tBc 31) 40 = .ok (.iinc 2 1, 3) := by decide +kernel
theorem d31_43 : decode (tBc 31) 43 = .ok (.goto (-28), 3) := by decide +kernel
theorem d31_46 : decode (tBc 31) 46 = .ok (.iconst 1, 1) := by decide +kernel
theorem d31_47 : decode (tBc 31) 47 = .ok (.ireturn, 1) := by decide +kernel
theorem d32_0 : decode (tBc 32) 0 = .ok (.aload_n 0, 1) := by decide +kernel
theorem d32_1 : decode (tBc 32) 1 = .ok (.invokespecial 3, 3) := by decide +kernel
theorem d32_4 : decode (tBc 32) 4 = .ok (.aload_n 0, 1) := by decide +kernel
theorem d32_5 : decode (tBc 32) 5 = .ok (.sipush 1200, 3) := by decide +kernel
theorem d32_8 : decode (tBc 32) 8 = .ok (.newarray .int, 2) := by decide +kernel
theorem d32_10 : decode (tBc 32) 10 = .ok (.putfield 9, 3) := by decide +kernel
theorem d32_13 : decode (tBc 32) 13 = .ok (.aload_n 0, 1) := by decide +kernel
theorem d32_14 : decode (tBc 32) 14 = .ok (.sipush 1200, 3) := by decide +kernel
theorem d32_17 : decode (tBc 32) 17 = .ok (.newarray .int, 2) := by decide +kernel
theorem d32_19 : decode (tBc 32) 19 = .ok (.putfield 15, 3) := by decide +kernel
theorem d32_22 : decode (tBc 32) 22 = .ok (.aload_n 0, 1) := by decide +kernel
theorem d32_23 : decode (tBc 32) 23 = .ok (.sipush 1200, 3) := by decide +kernel
theorem d32_26 : decode (tBc 32) 26 = .ok (.newarray .int, 2) := by decide +kernel
theorem d32_28 : decode (tBc 32) 28 = .ok (.putfield 18, 3) := by decide +kernel
theorem d32_31 : decode (tBc 32) 31 = .ok (.aload_n 0, 1) := by decide +kernel
theorem d32_32 : decode (tBc 32) 32 = .ok (.sipush 1200, 3) := by decide +kernel
theorem d32_35 : decode (tBc 32) 35 = .ok (.newarray .int, 2) := by decide +kernel
theorem d32_37 : decode (tBc 32) 37 = .ok (.putfield 21, 3) := by decide +kernel
theorem d32_40 : decode (tBc 32) 40 = .ok (.return_, 1) := by decide +kernel
theorem d33_0 : decode (tBc 33) 0 = .ok (.aload_n 0, 1) := by decide +kernel
theorem d33_1 : decode (tBc 33) 1 = .ok (.iconst 0, 1) := by decide +kernel
theorem d33_2 : decode (tBc 33) 2 = .ok (.putfield 24, 3) := by decide +kernel
theorem d33_5 : decode (tBc 33) 5 = .ok (.return_, 1) := by decide +kernel
theorem d34_0 : decode (tBc 34) 0 = .ok (.aload_n 0, 1) := by decide +kernel
theorem d34_1 : decode (tBc 34) 1 = .ok (.iconst 0, 1) := by decide +kernel
theorem d34_2 : decode (tBc 34) 2 = .ok (.putfield 24, 3) := by decide +kernel
theorem d34_5 : decode (tBc 34) 5 = .ok (.iconst 0, 1) := by decide +kernel
theorem d34_6 : decode (tBc 34) 6 = .ok (.istore_n 3, 1) := by decide +kernel
theorem d34_7 : decode (tBc 34) 7 = .ok (.iload_n 3, 1) := by decide +kernel
theorem d34_8 : decode (tBc 34) 8 = .ok (.aload_n 1, 1) := by decide +kernel
theorem d34_9 : decode (tBc 34) 9 = .ok (.getfield 28, 3) := by decide +kernel
theorem d34_12 : decode (tBc 34) 12 = .ok (.getfield 34, 3) := by decide +kernel
theorem d34_15 : decode (tBc 34) 15 = .ok (.if_icmp .ge 88, 3) := by decide +kernel
theorem d34_18 : decode (tBc 34) 18 = .ok (.aload_n 2, 1) := by decide +kernel
theorem d34_19 : decode (tBc 34) 19 = .ok (.getfield 37, 3) := by decide +kernel
theorem d34_22 : decode (tBc 34) 22 = .ok (.aload_n 1, 1) := by decide +kernel
theorem d34_23 : decode (tBc 34) 23 = .ok (.getfield 28, 3) := by decide +kernel
theorem d34_26 : decode (tBc 34) 26 = .ok (.getfield 40, 3) := by decide +kernel
theorem d34_29 : decode (tBc 34) 29 = .ok (.iload_n 3, 1) := by decide +kernel
theorem d34_30 : decode (tBc 34) 30 = .ok (.iaload, 1) := by decide +kernel
theorem d34_31 : decode (tBc 34) 31 = .ok (.iaload, 1) := by decide +kernel
theorem d34_32 : decode (tBc 34) 32 = .ok (.istore 4, 2) := by decide +kernel
theorem d34_34 : decode (tBc 34) 34 = .ok (.iload 4, 2) := by decide +kernel
theorem d34_36 : decode (tBc 34) 36 = .ok (.tableswitch 55 0 2 #[28, 37, 46], 28) := by decide +kernel
theorem d34_64 : decode (tBc 34) 64 = .ok (.aload_n 0, 1) := by decide +kernel
theorem d34_65 : decode (tBc 34) 65 = .ok (.aload_n 1, 1) := by decide +kernel
theorem d34_66 : decode (tBc 34) 66 = .ok (.iload_n 3, 1) := by decide +kernel
theorem d34_67 : decode (tBc 34) 67 = .ok (.invokevirtual 43, 3) := by decide +kernel
theorem d34_70 : decode (tBc 34) 70 = .ok (.goto 27, 3) := by decide +kernel
theorem d34_73 : decode (tBc 34) 73 = .ok (.aload_n 0, 1) := by decide +kernel
theorem d34_74 : decode (tBc 34) 74 = .ok (.aload_n 1, 1) := by decide +kernel
theorem d34_75 : decode (tBc 34) 75 = .ok (.iload_n 3, 1) := by decide +kernel
theorem d34_76 : decode (tBc 34) 76 = .ok (.invokevirtual 47, 3) := by decide +kernel
theorem d34_79 : decode (tBc 34) 79 = .ok (.goto 18, 3) := by decide +kernel
theorem d34_82 : decode (tBc 34) 82 = .ok (.aload_n 0, 1) := by decide +kernel
theorem d34_83 : decode (tBc 34) 83 = .ok (.aload_n 1, 1) := by decide +kernel
theorem d34_84 : decode (tBc 34) 84 = .ok (.iload_n 3, 1) := by decide +kernel
theorem d34_85 : decode (tBc 34) 85 = .ok (.invokevirtual 50, 3) := by decide +kernel
theorem d34_88 : decode (tBc 34) 88 = .ok (.goto 9, 3) := by decide +kernel
theorem d34_91 : decode (tBc 34) 91 = .ok (.aload_n 0, 1) := by decide +kernel
theorem d34_92 : decode (tBc 34) 92 = .ok (.aload_n 1, 1) := by decide +kernel
theorem d34_93 : decode (tBc 34) 93 = .ok (.iload_n 3, 1) := by decide +kernel
theorem d34_94 : decode (tBc 34) 94 = .ok (.invokevirtual 53, 3) := by decide +kernel
theorem d34_97 : decode (tBc 34) 97 = .ok (.iinc 3 1, 3) := by decide +kernel
theorem d34_100 : decode (tBc 34) 100 = .ok (.goto (-93), 3) := by decide +kernel
theorem d34_103 : decode (tBc 34) 103 = .ok (.return_, 1) := by decide +kernel
theorem d35_0 : decode (tBc 35) 0 = .ok (.aload_n 1, 1) := by decide +kernel
theorem d35_1 : decode (tBc 35) 1 = .ok (.getfield 56, 3) := by decide +kernel
theorem d35_4 : decode (tBc 35) 4 = .ok (.astore_n 3, 1) := by decide +kernel
theorem d35_5 : decode (tBc 35) 5 = .ok (.aload_n 3, 1) := by decide +kernel
theorem d35_6 : decode (tBc 35) 6 = .ok (.aload_n 1, 1) := by decide +kernel
theorem d35_7 : decode (tBc 35) 7 = .ok (.getfield 28, 3) := by decide +kernel
theorem d35_10 : decode (tBc 35) 10 = .ok (.getfield 59, 3) := by decide +kernel
theorem d35_13 : decode (tBc 35) 13 = .ok (.iload_n 2, 1) := by decide +kernel
theorem d35_14 : decode (tBc 35) 14 = .ok (.iaload, 1) := by decide +kernel
theorem d35_15 : decode (tBc 35) 15 = .ok (.invokevirtual 62, 3) := by decide +kernel
theorem d35_18 : decode (tBc 35) 18 = .ok (.istore 4, 2) := by decide +kernel
theorem d35_20 : decode (tBc 35) 20 = .ok (.iload 4, 2) := by decide +kernel
theorem d35_22 : decode (tBc 35) 22 = .ok (.ifCond .ge 4, 3) := by decide +kernel
theorem d35_25 : decode (tBc 35) 25 = .ok (.return_, 1) := by decide +kernel
theorem d35_26 : decode (tBc 35) 26 = .ok (.iconst 0, 1) := by decide +kernel
theorem d35_27 : decode (tBc 35) 27 = .ok (.istore 5, 2) := by decide +kernel
theorem d35_29 : decode (tBc 35) 29 = .ok (.iload 5, 2) := by decide +kernel
theorem d35_31 : decode (tBc 35) 31 = .ok (.aload_n 3, 1) := by decide +kernel
theorem d35_32 : decode (tBc 35) 32 = .ok (.getfield 34, 3) := by decide +kernel
theorem d35_35 : decode (tBc 35) 35 = .ok (.if_icmp .ge 73, 3) := by decide +kernel
theorem d35_38 : decode (tBc 35) 38 = .ok (.iload 5, 2) := by decide +kernel
theorem d35_40 : decode (tBc 35) 40 = .ok (.iload 4, 2) := by decide +kernel
theorem d35_42 : decode (tBc 35) 42 = .ok (.if_icmp .eq 60, 3) := by decide +kernel
theorem d35_45 : decode (tBc 35) 45 = .ok (.aload_n 3, 1) := by decide +kernel
theorem d35_46 : decode (tBc 35) 46 = .ok (.getfield 59, 3) := by decide +kernel
theorem d35_49 : decode (tBc 35) 49 = .ok (.iload 5, 2) := by decide +kernel
theorem d35_51 : decode (tBc 35) 51 = .ok (.iaload, 1) := by decide +kernel
theorem d35_52 : decode (tBc 35) 52 = .ok (.aload_n 3, 1) := by decide +kernel
theorem d35_53 : decode (tBc 35) 53 = .ok (.getfield 59, 3) := by decide +kernel
theorem d35_56 : decode (tBc 35) 56 = .ok (.iload 4, 2) := by decide +kernel
theorem d35_58 : decode (tBc 35) 58 = .ok (.iaload, 1) := by decide +kernel
theorem d35_59 : decode (tBc 35) 59 = .ok (.if_icmp .ne 43, 3) := by decide +kernel
theorem d35_62 : decode (tBc 35) 62 = .ok (.aload_n 3, 1) := by decide +kernel
theorem d35_63 : decode (tBc 35) 63 = .ok (.getfield 66, 3) := by decide +kernel
theorem d35_66 : decode (tBc 35) 66 = .ok (.iload 5, 2) := by decide +kernel
theorem d35_68 : decode (tBc 35) 68 = .ok (.iaload, 1) := by decide +kernel
theorem d35_69 : decode (tBc 35) 69 = .ok (.aload_n 1, 1) := by decide +kernel
theorem d35_70 : decode (tBc 35) 70 = .ok (.getfield 28, 3) := by decide +kernel
theorem d35_73 : decode (tBc 35) 73 = .ok (.getfield 66, 3) := by decide +kernel
theorem d35_76 : decode (tBc 35) 76 = .ok (.iload_n 2, 1) := by decide +kernel
theorem d35_77 : decode (tBc 35) 77 = .ok (.iaload, 1) := by decide +kernel
theorem d35_78 : decode (tBc 35) 78 = .ok (.if_icmp .ne 24, 3) := by decide +kernel
theorem d35_81 : decode (tBc 35) 81 = .ok (.aload_n 0, 1) := by decide +kernel
theorem d35_82 : decode (tBc 35) 82 = .ok (.iconst 0, 1) := by decide +kernel
theorem d35_83 : decode (tBc 35) 83 = .ok (.aload_n 1, 1) := by decide +kernel
theorem d35_84 : decode (tBc 35) 84 = .ok (.getfield 28, 3) := by decide +kernel
theorem d35_87 : decode (tBc 35) 87 = .ok (.getfield 69, 3) := by decide +kernel
theorem d35_90 : decode (tBc 35) 90 = .ok (.iload_n 2, 1) := by decide +kernel
theorem d35_91 : decode (tBc 35) 91 = .ok (.iaload, 1) := by decide +kernel
theorem d35_92 : decode (tBc 35) 92 = .ok (.aload_n 3, 1) := by decide +kernel
theorem d35_93 : decode (tBc 35) 93 = .ok (.getfield 69, 3) := by decide +kernel
theorem d35_96 : decode (tBc 35) 96 = .ok (.iload 5, 2) := by decide +kernel
theorem d35_98 : decode (tBc 35) 98 = .ok (.iaload, 1) := by decide +kernel
theorem d35_99 : decode (tBc 35) 99 = .ok (.invokevirtual 72, 3) := by decide +kernel
theorem d35_102 : decode (tBc 35) 102 = .ok (.iinc 5 1, 3) := by decide +kernel
theorem d35_105 : decode (tBc 35) 105 = .ok (.goto (-76), 3) := by decide +kernel
theorem d35_108 : decode (tBc 35) 108 = .ok (.return_, 1) := by decide +kernel
theorem d36_0 : decode (tBc 36) 0 = .ok (.aload_n 0, 1) := by decide +kernel
theorem d36_1 : decode (tBc 36) 1 = .ok (.getfield 24, 3) := by decide +kernel
theorem d36_4 : decode (tBc 36) 4 = .ok (.sipush 1200, 3) := by decide +kernel
theorem d36_7 : decode (tBc 36) 7 = .ok (.if_icmp .ge 43, 3) := by decide +kernel
theorem d36_10 : decode (tBc 36) 10 = .ok (.aload_n 0, 1) := by decide +kernel
theorem d36_11 : decode (tBc 36) 11 = .ok (.getfield 9, 3) := by decide +kernel
theorem d36_14 : decode (tBc 36) 14 = .ok (.aload_n 0, 1) := by decide +kernel
theorem d36_15 : decode (tBc 36) 15 = .ok (.getfield 24, 3) := by decide +kernel
theorem d36_18 : decode (tBc 36) 18 = .ok (.iload_n 1, 1) := by decide +kernel
theorem d36_19 : decode (tBc 36) 19 = .ok (.iastore, 1) := by decide +kernel
theorem d36_20 : decode (tBc 36) 20 = .ok (.aload_n 0, 1) := by decide +kernel
theorem d36_21 : decode (tBc 36) 21 = .ok (.getfield 15, 3) := by decide +kernel
theorem d36_24 : decode (tBc 36) 24 = .ok (.aload_n 0, 1) := by decide +kernel
theorem d36_25 : decode (tBc 36) 25 = .ok (.getfield 24, 3) := by decide +kernel
theorem d36_28 : decode (tBc 36) 28 = .ok (.iload_n 2, 1) := by decide +kernel
theorem d36_29 : decode (tBc 36) 29 = .ok (.iastore, 1) := by decide +kernel
theorem d36_30 : decode (tBc 36) 30 = .ok (.aload_n 0, 1) := by decide +kernel
theorem d36_31 : decode (tBc 36) 31 = .ok (.getfield 18, 3) := by decide +kernel
theorem d36_34 : decode (tBc 36) 34 = .ok (.aload_n 0, 1) := by decide +kernel
theorem d36_35 : decode (tBc 36) 35 = .ok (.getfield 24, 3) := by decide +kernel
theorem d36_38 : decode (tBc 36) 38 = .ok (.iload_n 3, 1) := by decide +kernel
theorem d36_39 : decode (tBc 36) 39 = .ok (.iastore, 1) := by decide +kernel
theorem d36_40 : decode (tBc 36) 40 = .ok (.aload_n 0, 1) := by decide +kernel
theorem d36_41 : decode (tBc 36) 41 = .ok (.dup, 1) := by decide +kernel
theorem d36_42 : decode (tBc 36) 42 = .ok (.getfield 24, 3) := by decide +kernel
theorem d36_45 : decode (tBc 36) 45 = .ok (.iconst 1, 1) := by decide +kernel
theorem d36_46 : decode (tBc 36) 46 = .ok (.iadd, 1) := by decide +kernel
theorem d36_47 : decode (tBc 36) 47 = .ok (.putfield 24, 3) := by decide +kernel
theorem d36_50 : decode (tBc 36) 50 = .ok (.return_, 1) := by decide +kernel
theorem d37_0 : decode (tBc 37) 0 = .ok (.aload_n 1, 1) := by decide +kernel
theorem d37_1 : decode (tBc 37) 1 = .ok (.getfield 56, 3) := by decide +kernel
theorem d37_4 : decode (tBc 37) 4 = .ok (.astore_n 3, 1) := by decide +kernel
theorem d37_5 : decode (tBc 37) 5 = .ok (.aload_n 3, 1) := by decide +kernel
theorem d37_6 : decode (tBc 37) 6 = .ok (.aload_n 1, 1) := by decide +kernel
theorem d37_7 : decode (tBc 37) 7 = .ok (.getfield 28, 3) := by decide +kernel
theorem d37_10 : decode (tBc 37) 10 = .ok (.getfield 59, 3) := by decide +kernel
theorem d37_13 : decode (tBc 37) 13 = .ok (.iload_n 2, 1) := by decide +kernel
theorem d37_14 : decode (tBc 37) 14 = .ok (.iaload, 1) := by decide +kernel
theorem d37_15 : decode (tBc 37) 15 = .ok (.invokevirtual 62, 3) := by decide +kernel
theorem d37_18 : decode (tBc 37) 18 = .ok (.istore 4, 2) := by decide +kernel
theorem d37_20 : decode (tBc 37) 20 = .ok (.iload 4, 2) := by decide +kernel
theorem d37_22 : decode (tBc 37) 22 = .ok (.ifCond .ge 7, 3) := by decide +kernel
theorem d37_25 : decode (tBc 37) 25 = .ok (.iconst (-1), 1) := by decide +kernel
theorem d37_26 : decode (tBc 37) 26 = .ok (.goto 14, 3) := by decide +kernel
theorem d37_29 : decode (tBc 37) 29 = .ok (.aload_n 3, 1) := by decide +kernel
theorem d37_30 : decode (tBc 37) 30 = .ok (.aload_n 3, 1) := by decide +kernel
theorem d37_31 : decode (tBc 37) 31 = .ok (.getfield 59, 3) := by decide +kernel
theorem d37_34 : decode (tBc 37) 34 = .ok (.iload 4, 2) := by decide +kernel
theorem d37_36 : decode (tBc 37) 36 = .ok (.iaload, 1) := by decide +kernel
theorem d37_37 : decode (tBc 37) 37 = .ok (.invokevirtual 62, 3) := by decide +kernel
theorem d37_40 : decode (tBc 37) 40 = .ok (.istore 5, 2) := by decide +kernel
theorem d37_42 : decode (tBc 37) 42 = .ok (.iload 5, 2) := by decide +kernel
theorem d37_44 : decode (tBc 37) 44 = .ok (.ifCond .lt 43, 3) := by decide +kernel
theorem d37_47 : decode (tBc 37) 47 = .ok (.aload_n 3, 1) := by decide +kernel
theorem d37_48 : decode (tBc 37) 48 = .ok (.getfield 66, 3) := by decide +kernel
theorem d37_51 : decode (tBc 37) 51 = .ok (.iload 5, 2) := by decide +kernel
theorem d37_53 : decode (tBc 37) 53 = .ok (.iaload, 1) := by decide +kernel
theorem d37_54 : decode (tBc 37) 54 = .ok (.aload_n 1, 1) := by decide +kernel
theorem d37_55 : decode (tBc 37) 55 = .ok (.getfield 28, 3) := by decide +kernel
theorem d37_58 : decode (tBc 37) 58 = .ok (.getfield 66, 3) := by decide +kernel
theorem d37_61 : decode (tBc 37) 61 = .ok (.iload_n 2, 1) := by decide +kernel
theorem d37_62 : decode (tBc 37) 62 = .ok (.iaload, 1) := by decide +kernel
theorem d37_63 : decode (tBc 37) 63 = .ok (.if_icmp .ne 24, 3) := by decide +kernel
theorem d37_66 : decode (tBc 37) 66 = .ok (.aload_n 0, 1) := by decide +kernel
theorem d37_67 : decode (tBc 37) 67 = .ok (.iconst 1, 1) := by decide +kernel
theorem d37_68 : decode (tBc 37) 68 = .ok (.aload_n 1, 1) := by decide +kernel
theorem d37_69 : decode (tBc 37) 69 = .ok (.getfield 28, 3) := by decide +kernel
theorem d37_72 : decode (tBc 37) 72 = .ok (.getfield 69, 3) := by decide +kernel
theorem d37_75 : decode (tBc 37) 75 = .ok (.iload_n 2, 1) := by decide +kernel
theorem d37_76 : decode (tBc 37) 76 = .ok (.iaload, 1) := by decide +kernel
theorem d37_77 : decode (tBc 37) 77 = .ok (.aload_n 3, 1) := by decide +kernel
theorem d37_78 : decode (tBc 37) 78 = .ok (.getfield 69, 3) := by decide +kernel
theorem d37_81 : decode (tBc 37) 81 = .ok (.iload 5, 2) := by decide +kernel
theorem d37_83 : decode (tBc 37) 83 = .ok (.iaload, 1) := by decide +kernel
theorem d37_84 : decode (tBc 37) 84 = .ok (.invokevirtual 72, 3) := by decide +kernel
theorem d37_87 : decode (tBc 37) 87 = .ok (.return_, 1) := by decide +kernel
theorem d38_0 : decode (tBc 38) 0 = .ok (.aload_n 1, 1) := by decide +kernel
theorem d38_1 : decode (tBc 38) 1 = .ok (.getfield 56, 3) := by decide +kernel
theorem d38_4 : decode (tBc 38) 4 = .ok (.astore_n 3, 1) := by decide +kernel
theorem d38_5 : decode (tBc 38) 5 = .ok (.iconst 0, 1) := by decide +kernel
theorem d38_6 : decode (tBc 38) 6 = .ok (.istore 4, 2) := by decide +kernel
theorem d38_8 : decode (tBc 38) 8 = .ok (.iload 4, 2) := by decide +kernel
theorem d38_10 : decode (tBc 38) 10 = .ok (.aload_n 3, 1) := by decide +kernel
theorem d38_11 : decode (tBc 38) 11 = .ok (.getfield 34, 3) := by decide +kernel
theorem d38_14 : decode (tBc 38) 14 = .ok (.if_icmp .ge 68, 3) := by decide +kernel
theorem d38_17 : decode (tBc 38) 17 = .ok (.aload_n 3, 1) := by decide +kernel
theorem d38_18 : decode (tBc 38) 18 = .ok (.getfield 59, 3) := by decide +kernel
theorem d38_21 : decode (tBc 38) 21 = .ok (.iload 4, 2) := by decide +kernel
theorem d38_23 : decode (tBc 38) 23 = .ok (.iaload, 1) := by decide +kernel
theorem d38_24 : decode (tBc 38) 24 = .ok (.aload_n 1, 1) := by decide +kernel
theorem d38_25 : decode (tBc 38) 25 = .ok (.getfield 28, 3) := by decide +kernel
theorem d38_28 : decode (tBc 38) 28 = .ok (.getfield 59, 3) := by decide +kernel
theorem d38_31 : decode (tBc 38) 31 = .ok (.iload_n 2, 1) := by decide +kernel
theorem d38_32 : decode (tBc 38) 32 = .ok (.iaload, 1) := by decide +kernel
theorem d38_33 : decode (tBc 38) 33 = .ok (.if_icmp .ne 43, 3) := by decide +kernel
theorem d38_36 : decode (tBc 38) 36 = .ok (.aload_n 3, 1) := by decide +kernel
theorem d38_37 : decode (tBc 38) 37 = .ok (.getfield 66, 3) := by decide +kernel
theorem d38_40 : decode (tBc 38) 40 = .ok (.iload 4, 2) := by decide +kernel
theorem d38_42 : decode (tBc 38) 42 = .ok (.iaload, 1) := by decide +kernel
theorem d38_43 : decode (tBc 38) 43 = .ok (.aload_n 1, 1) := by decide +kernel
theorem d38_44 : decode (tBc 38) 44 = .ok (.getfield 28, 3) := by decide +kernel
theorem d38_47 : decode (tBc 38) 47 = .ok (.getfield 66, 3) := by decide +kernel
theorem d38_50 : decode (tBc 38) 50 = .ok (.iload_n 2, 1) := by decide +kernel
theorem d38_51 : decode (tBc 38) 51 = .ok (.iaload, 1) := by decide +kernel
theorem d38_52 : decode (tBc 38) 52 = .ok (.if_icmp .ne 24, 3) := by decide +kernel
theorem d38_55 : decode (tBc 38) 55 = .ok (.aload_n 0, 1) := by decide +kernel
theorem d38_56 : decode (tBc 38) 56 = .ok (.iconst 2, 1) := by decide +kernel
theorem d38_57 : decode (tBc 38) 57 = .ok (.aload_n 1, 1) := by decide +kernel
theorem d38_58 : decode (tBc 38) 58 = .ok (.getfield 28, 3) := by decide +kernel
theorem d38_61 : decode (tBc 38) 61 = .ok (.getfield 69, 3) := by decide +kernel
theorem d38_64 : decode (tBc 38) 64 = .ok (.iload_n 2, 1) := by decide +kernel
theorem d38_65 : decode (tBc 38) 65 = .ok (.iaload, 1) := by decide +kernel
theorem d38_66 : decode (tBc 38) 66 = .ok (.aload_n 3, 1) := by decide +kernel
theorem d38_67 : decode (tBc 38) 67 = .ok (.getfield 69, 3) := by decide +kernel
theorem d38_70 : decode (tBc 38) 70 = .ok (.iload 4, 2) := by decide +kernel
theorem d38_72 : decode (tBc 38) 72 = .ok (.iaload, 1) := by decide +kernel
theorem d38_73 : decode (tBc 38) 73 = .ok (.invokevirtual 72, 3) := by decide +kernel
theorem d38_76 : decode (tBc 38) 76 = .ok (.iinc 4 1, 3) := by decide +kernel
theorem d38_79 : decode (tBc 38) 79 = .ok (.goto (-71), 3) := by decide +kernel
theorem d38_82 : decode (tBc 38) 82 = .ok (.return_, 1) := by decide +kernel
theorem d39_0 : decode (tBc 39) 0 = .ok (.aload_n 1, 1) := by decide +kernel
theorem d39_1 : decode (tBc 39) 1 = .ok (.getfield 76, 3) := by decide +kernel
theorem d39_4 : decode (tBc 39) 4 = .ok (.astore_n 3, 1) := by decide +kernel
theorem d39_5 : decode (tBc 39) 5 = .ok (.iconst 0, 1) := by decide +kernel
theorem d39_6 : decode (tBc 39) 6 = .ok (.istore 4, 2) := by decide +kernel
theorem d39_8 : decode (tBc 39) 8 = .ok (.iload 4, 2) := by decide +kernel
theorem d39_10 : decode (tBc 39) 10 = .ok (.aload_n 3, 1) := by decide +kernel
theorem d39_11 : decode (tBc 39) 11 = .ok (.getfield 34, 3) := by decide +kernel
theorem d39_14 : decode (tBc 39) 14 = .ok (.if_icmp .ge 49, 3) := by decide +kernel
theorem d39_17 : decode (tBc 39) 17 = .ok (.aload_n 3, 1) := by decide +kernel
theorem d39_18 : decode (tBc 39) 18 = .ok (.getfield 59, 3) := by decide +kernel
theorem d39_21 : decode (tBc 39) 21 = .ok (.iload 4, 2) := by decide +kernel
theorem d39_23 : decode (tBc 39) 23 = .ok (.iaload, 1) := by decide +kernel
theorem d39_24 : decode (tBc 39) 24 = .ok (.aload_n 1, 1) := by decide +kernel
theorem d39_25 : decode (tBc 39) 25 = .ok (.getfield 28, 3) := by decide +kernel
theorem d39_28 : decode (tBc 39) 28 = .ok (.getfield 59, 3) := by decide +kernel
theorem d39_31 : decode (tBc 39) 31 = .ok (.iload_n 2, 1) := by decide +kernel
theorem d39_32 : decode (tBc 39) 32 = .ok (.iaload, 1) := by decide +kernel
theorem d39_33 : decode (tBc 39) 33 = .ok (.if_icmp .ne 24, 3) := by decide +kernel
theorem d39_36 : decode (tBc 39) 36 = .ok (.aload_n 0, 1) := by decide +kernel
theorem d39_37 : decode (tBc 39) 37 = .ok (.iconst 3, 1) := by decide +kernel
theorem d39_38 : decode (tBc 39) 38 = .ok (.aload_n 1, 1) := by decide +kernel
theorem d39_39 : decode (tBc 39) 39 = .ok (.getfield 28, 3) := by decide +kernel
theorem d39_42 : decode (tBc 39) 42 = .ok (.getfield 69, 3) := by decide +kernel
theorem d39_45 : decode (tBc 39) 45 = .ok (.iload_n 2, 1) := by decide +kernel
theorem d39_46 : decode (tBc 39) 46 = .ok (.iaload, 1) := by decide +kernel
theorem d39_47 : decode (tBc 39) 47 = .ok (.aload_n 3, 1) := by decide +kernel
theorem d39_48 : decode (tBc 39) 48 = .ok (.getfield 69, 3) := by decide +kernel
theorem d39_51 : decode (tBc 39) 51 = .ok (.iload 4, 2) := by decide +kernel
theorem d39_53 : decode (tBc 39) 53 = .ok (.iaload, 1) := by decide +kernel
theorem d39_54 : decode (tBc 39) 54 = .ok (.invokevirtual 72, 3) := by decide +kernel
theorem d39_57 : decode (tBc 39) 57 = .ok (.iinc 4 1, 3) := by decide +kernel
theorem d39_60 : decode (tBc 39) 60 = .ok (.goto (-52), 3) := by decide +kernel
theorem d39_63 : decode (tBc 39) 63 = .ok (.return_, 1) := by decide +kernel
theorem d40_0 : decode (tBc 40) 0 = .ok (.iconst 0, 1) := by decide +kernel
theorem d40_1 : decode (tBc 40) 1 = .ok (.istore_n 3, 1) := by decide +kernel
theorem d40_2 : decode (tBc 40) 2 = .ok (.iconst 0, 1) := by decide +kernel
theorem d40_3 : decode (tBc 40) 3 = .ok (.istore 4, 2) := by decide +kernel
theorem d40_5 : decode (tBc 40) 5 = .ok (.iload 4, 2) := by decide +kernel
theorem d40_7 : decode (tBc 40) 7 = .ok (.aload_n 0, 1) := by decide +kernel
theorem d40_8 : decode (tBc 40) 8 = .ok (.getfield 24, 3) := by decide +kernel
theorem d40_11 : decode (tBc 40) 11 = .ok (.if_icmp .ge 104, 3) := by decide +kernel
theorem d40_14 : decode (tBc 40) 14 = .ok (.iload_n 3, 1) := by decide +kernel
theorem d40_15 : decode (tBc 40) 15 = .ok (.aload_n 1, 1) := by decide +kernel
theorem d40_16 : decode (tBc 40) 16 = .ok (.getfield 24, 3) := by decide +kernel
theorem d40_19 : decode (tBc 40) 19 = .ok (.if_icmp .ge 31, 3) := by decide +kernel
theorem d40_22 : decode (tBc 40) 22 = .ok (.aload_n 1, 1) := by decide +kernel
theorem d40_23 : decode (tBc 40) 23 = .ok (.iload_n 3, 1) := by decide +kernel
theorem d40_24 : decode (tBc 40) 24 = .ok (.aload_n 0, 1) := by decide +kernel
theorem d40_25 : decode (tBc 40) 25 = .ok (.getfield 15, 3) := by decide +kernel
theorem d40_28 : decode (tBc 40) 28 = .ok (.iload 4, 2) := by decide +kernel
theorem d40_30 : decode (tBc 40) 30 = .ok (.iaload, 1) := by decide +kernel
theorem d40_31 : decode (tBc 40) 31 = .ok (.aload_n 0, 1) := by decide +kernel
theorem d40_32 : decode (tBc 40) 32 = .ok (.getfield 18, 3) := by decide +kernel
theorem d40_35 : decode (tBc 40) 35 = .ok (.iload 4, 2) := by decide +kernel
theorem d40_37 : decode (tBc 40) 37 = .ok (.iaload, 1) := by decide +kernel
theorem d40_38 : decode (tBc 40) 38 = .ok (.invokevirtual 79, 3) := by decide +kernel
theorem d40_41 : decode (tBc 40) 41 = .ok (.ifCond .ge 9, 3) := by decide +kernel
theorem d40_44 : decode (tBc 40) 44 = .ok (.iinc 3 1, 3) := by decide +kernel
theorem d40_47 : decode (tBc 40) 47 = .ok (.goto (-33), 3) := by decide +kernel
theorem d40_50 : decode (tBc 40) 50 = .ok (.iload_n 3, 1) := by decide +kernel
theorem d40_51 : decode (tBc 40) 51 = .ok (.aload_n 1, 1) := by decide +kernel
theorem d40_52 : decode (tBc 40) 52 = .ok (.getfield 24, 3) := by decide +kernel
theorem d40_55 : decode (tBc 40) 55 = .ok (.if_icmp .ge 29, 3) := by decide +kernel
theorem d40_58 : decode (tBc 40) 58 = .ok (.aload_n 1, 1) := by decide +kernel
theorem d40_59 : decode (tBc 40) 59 = .ok (.iload_n 3, 1) := by decide +kernel
theorem d40_60 : decode (tBc 40) 60 = .ok (.aload_n 0, 1) := by decide +kernel
theorem d40_61 : decode (tBc 40) 61 = .ok (.getfield 15, 3) := by decide +kernel
theorem d40_64 : decode (tBc 40) 64 = .ok (.iload 4, 2) := by decide +kernel
theorem d40_66 : decode (tBc 40) 66 = .ok (.iaload, 1) := by decide +kernel
theorem d40_67 : decode (tBc 40) 67 = .ok (.aload_n 0, 1) := by decide +kernel
theorem d40_68 : decode (tBc 40) 68 = .ok (.getfield 18, 3) := by decide +kernel
theorem d40_71 : decode (tBc 40) 71 = .ok (.iload 4, 2) := by decide +kernel
theorem d40_73 : decode (tBc 40) 73 = .ok (.iaload, 1) := by decide +kernel
theorem d40_74 : decode (tBc 40) 74 = .ok (.invokevirtual 79, 3) := by decide +kernel
theorem d40_77 : decode (tBc 40) 77 = .ok (.ifCond .ne 7, 3) := by decide +kernel
theorem d40_80 : decode (tBc 40) 80 = .ok (.iconst 1, 1) := by decide +kernel
theorem d40_81 : decode (tBc 40) 81 = .ok (.goto 4, 3) := by decide +kernel
theorem d40_84 : decode (tBc 40) 84 = .ok (.iconst 0, 1) := by decide +kernel
theorem d40_85 : decode (tBc 40) 85 = .ok (.istore 5, 2) := by decide +kernel
theorem d40_87 : decode (tBc 40) 87 = .ok (.aload_n 0, 1) := by decide +kernel
theorem d40_88 : decode (tBc 40) 88 = .ok (.getfield 21, 3) := by decide +kernel
theorem d40_91 : decode (tBc 40) 91 = .ok (.iload 4, 2) := by decide +kernel
theorem d40_93 : decode (tBc 40) 93 = .ok (.iload 5, 2) := by decide +kernel
theorem d40_95 : decode (tBc 40) 95 = .ok (.ifCond .eq 12, 3) := by decide +kernel
theorem d40_98 : decode (tBc 40) 98 = .ok (.aload_n 1, 1) := by decide +kernel
theorem d40_99 : decode (tBc 40) 99 = .ok (.getfield 21, 3) := by decide +kernel
theorem d40_102 : decode (tBc 40) 102 = .ok (.iload_n 3, 1) := by decide +kernel
theorem d40_103 : decode (tBc 40) 103 = .ok (.iaload, 1) := by decide +kernel
theorem d40_104 : decode (tBc 40) 104 = .ok (.goto 4, 3) := by decide +kernel
theorem d40_107 : decode (tBc 40) 107 = .ok (.iload_n 2, 1) := by decide +kernel
theorem d40_108 : decode (tBc 40) 108 = .ok (.iastore, 1) := by decide +kernel
theorem d40_109 : decode (tBc 40) 109 = .ok (.iinc 4 1, 3) := by decide +kernel
theorem d40_112 : decode (tBc 40) 112 = .ok (.goto (-107), 3) := by decide +kernel
theorem d40_115 : decode (tBc 40) 115 = .ok (.return_, 1) := by decide +kernel
theorem d41_0 : decode (tBc 41) 0 = .ok (.aload_n 0, 1) := by decide +kernel
theorem d41_1 : decode (tBc 41) 1 = .ok (.getfield 15, 3) := by decide +kernel
theorem d41_4 : decode (tBc 41) 4 = .ok (.iload_n 1, 1) := by decide +kernel
theorem d41_5 : decode (tBc 41) 5 = .ok (.iaload, 1) := by decide +kernel
theorem d41_6 : decode (tBc 41) 6 = .ok (.iload_n 2, 1) := by decide +kernel
theorem d41_7 : decode (tBc 41) 7 = .ok (.if_icmp .eq 16, 3) := by decide +kernel
theorem d41_10 : decode (tBc 41) 10 = .ok (.aload_n 0, 1) := by decide +kernel
theorem d41_11 : decode (tBc 41) 11 = .ok (.getfield 15, 3) := by decide +kernel
theorem d41_14 : decode (tBc 41) 14 = .ok (.iload_n 1, 1) := by decide +kernel
theorem d41_15 : decode (tBc 41) 15 = .ok (.iaload, 1) := by decide +kernel
theorem d41_16 : decode (tBc 41) 16 = .ok (.iload_n 2, 1) := by decide +kernel
theorem d41_17 : decode (tBc 41) 17 = .ok (.invokestatic 83, 3) := by decide +kernel
theorem d41_20 : decode (tBc 41) 20 = .ok (.goto 13, 3) := by decide +kernel
theorem d41_23 : decode (tBc 41) 23 = .ok (.aload_n 0, 1) := by decide +kernel
theorem d41_24 : decode (tBc 41) 24 = .ok (.getfield 18, 3) := by decide +kernel
theorem d41_27 : decode (tBc 41) 27 = .ok (.iload_n 1, 1) := by decide +kernel
theorem d41_28 : decode (tBc 41) 28 = .ok (.iaload, 1) := by decide +kernel
theorem d41_29 : decode (tBc 41) 29 = .ok (.iload_n 3, 1) := by decide +kernel
theorem d41_30 : decode (tBc 41) 30 = .ok (.invokestatic 83, 3) := by decide +kernel
theorem d41_33 : decode (tBc 41) 33 = .ok (.ireturn, 1) := by decide +kernel
theorem d42_0 : decode (tBc 42) 0 = .ok (.iload_n 1, 1) := by decide +kernel
theorem d42_1 : decode (tBc 42) 1 = .ok (.ifCond .lt 15, 3) := by decide +kernel
theorem d42_4 : decode (tBc 42) 4 = .ok (.iload_n 1, 1) := by decide +kernel
theorem d42_5 : decode (tBc 42) 5 = .ok (.aload_n 0, 1) := by decide +kernel
theorem d42_6 : decode (tBc 42) 6 = .ok (.getfield 24, 3) := by decide +kernel
theorem d42_9 : decode (tBc 42) 9 = .ok (.if_icmp .ge 7, 3) := by decide +kernel
theorem d42_12 : decode (tBc 42) 12 = .ok (.iconst 1, 1) := by decide +kernel
theorem d42_13 : decode (tBc 42) 13 = .ok (.goto 4, 3) := by decide +kernel
theorem d42_16 : decode (tBc 42) 16 = .ok (.iconst 0, 1) := by decide +kernel
theorem d42_17 : decode (tBc 42) 17 = .ok (.ireturn, 1) := by decide +kernel
theorem d43_0 : decode (tBc 43) 0 = .ok (.iconst 0, 1) := by decide +kernel
theorem d43_1 : decode (tBc 43) 1 = .ok (.istore_n 1, 1) := by decide +kernel
theorem d43_2 : decode (tBc 43) 2 = .ok (.iconst 1, 1) := by decide +kernel
theorem d43_3 : decode (tBc 43) 3 = .ok (.istore_n 2, 1) := by decide +kernel
theorem d43_4 : decode (tBc 43) 4 = .ok (.iload_n 2, 1) := by decide +kernel
theorem d43_5 : decode (tBc 43) 5 = .ok (.aload_n 0, 1) := by decide +kernel
theorem d43_6 : decode (tBc 43) 6 = .ok (.getfield 24, 3) := by decide +kernel
theorem d43_9 : decode (tBc 43) 9 = .ok (.if_icmp .ge 26, 3) := by decide +kernel
theorem d43_12 : decode (tBc 43) 12 = .ok (.aload_n 0, 1) := by decide +kernel
theorem d43_13 : decode (tBc 43) 13 = .ok (.getfield 21, 3) := by decide +kernel
theorem d43_16 : decode (tBc 43) 16 = .ok (.iload_n 2, 1) := by decide +kernel
theorem d43_17 : decode (tBc 43) 17 = .ok (.iaload, 1) := by decide +kernel
theorem d43_18 : decode (tBc 43) 18 = .ok (.aload_n 0, 1) := by decide +kernel
theorem d43_19 : decode (tBc 43) 19 = .ok (.getfield 21, 3) := by decide +kernel
theorem d43_22 : decode (tBc 43) 22 = .ok (.iload_n 1, 1) := by decide +kernel
theorem d43_23 : decode (tBc 43) 23 = .ok (.iaload, 1) := by decide +kernel
theorem d43_24 : decode (tBc 43) 24 = .ok (.if_icmp .ge 5, 3) := by decide +kernel
theorem d43_27 : decode (tBc 43) 27 = .ok (.iload_n 2, 1) := by decide +kernel
theorem d43_28 : decode (tBc 43) 28 = .ok (.istore_n 1, 1) := by decide +kernel
theorem d43_29 : decode (tBc 43) 29 = .ok (.iinc 2 1, 3) := by decide +kernel
theorem d43_32 : decode (tBc 43) 32 = .ok (.goto (-28), 3) := by decide +kernel
theorem d43_35 : decode (tBc 43) 35 = .ok (.iload_n 1, 1) := by decide +kernel
theorem d43_36 : decode (tBc 43) 36 = .ok (.ireturn, 1) := by decide +kernel
theorem d44_0 : decode (tBc 44) 0 = .ok (.aload_n 0, 1) := by decide +kernel
theorem d44_1 : decode (tBc 44) 1 = .ok (.invokespecial 3, 3) := by decide +kernel
theorem d44_4 : decode (tBc 44) 4 = .ok (.aload_n 0, 1) := by decide +kernel
theorem d44_5 : decode (tBc 44) 5 = .ok (.new 9, 3) := by decide +kernel
theorem d44_8 : decode (tBc 44) 8 = .ok (.dup, 1) := by decide +kernel
theorem d44_9 : decode (tBc 44) 9 = .ok (.bipush 20, 2) := by decide +kernel
theorem d44_11 : decode (tBc 44) 11 = .ok (.invokespecial 11, 3) := by decide +kernel
theorem d44_14 : decode (tBc 44) 14 = .ok (.putfield 14, 3) := by decide +kernel
theorem d44_17 : decode (tBc 44) 17 = .ok (.aload_n 0, 1) := by decide +kernel
theorem d44_18 : decode (tBc 44) 18 = .ok (.new 9, 3) := by decide +kernel
theorem d44_21 : decode (tBc 44) 21 = .ok (.dup, 1) := by decide +kernel
theorem d44_22 : decode (tBc 44) 22 = .ok (.bipush 40, 2) := by decide +kernel
theorem d44_24 : decode (tBc 44) 24 = .ok (.invokespecial 11, 3) := by decide +kernel
theorem d44_27 : decode (tBc 44) 27 = .ok (.putfield 20, 3) := by decide +kernel
theorem d44_30 : decode (tBc 44) 30 = .ok (.aload_n 0, 1) := by decide +kernel
theorem d44_31 : decode (tBc 44) 31 = .ok (.new 9, 3) := by decide +kernel
theorem d44_34 : decode (tBc 44) 34 = .ok (.dup, 1) := by decide +kernel
theorem d44_35 : decode (tBc 44) 35 = .ok (.bipush 30, 2) := by decide +kernel
theorem d44_37 : decode (tBc 44) 37 = .ok (.invokespecial 11, 3) := by decide +kernel
theorem d44_40 : decode (tBc 44) 40 = .ok (.putfield 23, 3) := by decide +kernel
theorem d44_43 : decode (tBc 44) 43 = .ok (.aload_n 0, 1) := by decide +kernel
theorem d44_44 : decode (tBc 44) 44 = .ok (.new 26, 3) := by decide +kernel
theorem d44_47 : decode (tBc 44) 47 = .ok (.dup, 1) := by decide +kernel
theorem d44_48 : decode (tBc 44) 48 = .ok (.invokespecial 28, 3) := by decide +kernel
theorem d44_51 : decode (tBc 44) 51 = .ok (.putfield 29, 3) := by decide +kernel
theorem d44_54 : decode (tBc 44) 54 = .ok (.return_, 1) := by decide +kernel
theorem d45_0 : decode (tBc 45) 0 = .ok (.aload_n 0, 1) := by decide +kernel
theorem d45_1 : decode (tBc 45) 1 = .ok (.getfield 14, 3) := by decide +kernel
theorem d45_4 : decode (tBc 45) 4 = .ok (.iconst 0, 1) := by decide +kernel
theorem d45_5 : decode (tBc 45) 5 = .ok (.putfield 33, 3) := by decide +kernel
theorem d45_8 : decode (tBc 45) 8 = .ok (.aload_n 0, 1) := by decide +kernel
theorem d45_9 : decode (tBc 45) 9 = .ok (.getfield 20, 3) := by decide +kernel
theorem d45_12 : decode (tBc 45) 12 = .ok (.iconst 0, 1) := by decide +kernel
theorem d45_13 : decode (tBc 45) 13 = .ok (.putfield 33, 3) := by decide +kernel
theorem d45_16 : decode (tBc 45) 16 = .ok (.aload_n 0, 1) := by decide +kernel
theorem d45_17 : decode (tBc 45) 17 = .ok (.getfield 23, 3) := by decide +kernel
theorem d45_20 : decode (tBc 45) 20 = .ok (.iconst 0, 1) := by decide +kernel
theorem d45_21 : decode (tBc 45) 21 = .ok (.putfield 33, 3) := by decide +kernel
theorem d45_24 : decode (tBc 45) 24 = .ok (.aload_n 0, 1) := by decide +kernel
theorem d45_25 : decode (tBc 45) 25 = .ok (.iconst 0, 1) := by decide +kernel
theorem d45_26 : decode (tBc 45) 26 = .ok (.putfield 37, 3) := by decide +kernel
theorem d45_29 : decode (tBc 45) 29 = .ok (.aload_n 0, 1) := by decide +kernel
theorem d45_30 : decode (tBc 45) 30 = .ok (.iconst 0, 1) := by decide +kernel
theorem d45_31 : decode (tBc 45) 31 = .ok (.putfield 40, 3) := by decide +kernel
theorem d45_34 : decode (tBc 45) 34 = .ok (.aload_n 0, 1) := by decide +kernel
theorem d45_35 : decode (tBc 45) 35 = .ok (.getfield 29, 3) := by decide +kernel
theorem d45_38 : decode (tBc 45) 38 = .ok (.getfield 44, 3) := by decide +kernel
theorem d45_41 : decode (tBc 45) 41 = .ok (.iconst 0, 1) := by decide +kernel
theorem d45_42 : decode (tBc 45) 42 = .ok (.bipush 48, 2) := by decide +kernel
theorem d45_44 : decode (tBc 45) 44 = .ok (.castore, 1) := by decide +kernel
theorem d45_45 : decode (tBc 45) 45 = .ok (.aload_n 0, 1) := by decide +kernel
theorem d45_46 : decode (tBc 45) 46 = .ok (.getfield 29, 3) := by decide +kernel
theorem d45_49 : decode (tBc 45) 49 = .ok (.iconst 1, 1) := by decide +kernel
theorem d45_50 : decode (tBc 45) 50 = .ok (.putfield 48, 3) := by decide +kernel
theorem d45_53 : decode (tBc 45) 53 = .ok (.return_, 1) := by decide +kernel
theorem d46_0 : decode (tBc 46) 0 = .ok (.aload_n 0, 1) := by decide +kernel
theorem d46_1 : decode (tBc 46) 1 = .ok (.invokevirtual 59, 3) := by decide +kernel
theorem d46_4 : decode (tBc 46) 4 = .ok (.aload_n 0, 1) := by decide +kernel
theorem d46_5 : decode (tBc 46) 5 = .ok (.aload_n 1, 1) := by decide +kernel
theorem d46_6 : decode (tBc 46) 6 = .ok (.iconst 0, 1) := by decide +kernel
theorem d46_7 : decode (tBc 46) 7 = .ok (.aload_n 1, 1) := by decide +kernel
theorem d46_8 : decode (tBc 46) 8 = .ok (.getfield 62, 3) := by decide +kernel
theorem d46_11 : decode (tBc 46) 11 = .ok (.iconst (-1), 1) := by decide +kernel
theorem d46_12 : decode (tBc 46) 12 = .ok (.iconst 0, 1) := by decide +kernel
theorem d46_13 : decode (tBc 46) 13 = .ok (.iconst 1, 1) := by decide +kernel
theorem d46_14 : decode (tBc 46) 14 = .ok (.invokevirtual 65, 3) := by decide +kernel
theorem d46_17 : decode (tBc 46) 17 = .ok (.aload_n 0, 1) := by decide +kernel
theorem d46_18 : decode (tBc 46) 18 = .ok (.getfield 40, 3) := by decide +kernel
theorem d46_21 : decode (tBc 46) 21 = .ok (.ifCond .ne 7, 3) := by decide +kernel
theorem d46_24 : decode (tBc 46) 24 = .ok (.iconst 1, 1) := by decide +kernel
theorem d46_25 : decode (tBc 46) 25 = .ok (.goto 4, 3) := by decide +kernel
theorem d46_28 : decode (tBc 46) 28 = .ok (.iconst 0, 1) := by decide +kernel
theorem d46_29 : decode (tBc 46) 29 = .ok (.ireturn, 1) := by decide +kernel
theorem d47_0 : decode (tBc 47) 0 = .ok (.iload 6, 2) := by decide +kernel
theorem d47_2 : decode (tBc 47) 2 = .ok (.bipush 8, 2) := by decide +kernel
theorem d47_4 : decode (tBc 47) 4 = .ok (.if_icmp .le 9, 3) := by decide +kernel
theorem d47_7 : decode (tBc 47) 7 = .ok (.aload_n 0, 1) := by decide +kernel
theorem d47_8 : decode (tBc 47) 8 = .ok (.iconst 1, 1) := by decide +kernel
theorem d47_9 : decode (tBc 47) 9 = .ok (.putfield 40, 3) := by decide +kernel
theorem d47_12 : decode (tBc 47) 12 = .ok (.return_, 1) := by decide +kernel
theorem d47_13 : decode (tBc 47) 13 = .ok (.iload_n 2, 1) := by decide +kernel
theorem d47_14 : decode (tBc 47) 14 = .ok (.istore 7, 2) := by decide +kernel
theorem d47_16 : decode (tBc 47) 16 = .ok (.iload 7, 2) := by decide +kernel
theorem d47_18 : decode (tBc 47) 18 = .ok (.iload_n 3, 1) := by decide +kernel
theorem d47_19 : decode (tBc 47) 19 = .ok (.if_icmp .ge 125, 3) := by decide +kernel
theorem d47_22 : decode (tBc 47) 22 = .ok (.aload_n 0, 1) := by decide +kernel
theorem d47_23 : decode (tBc 47) 23 = .ok (.getfield 40, 3) := by decide +kernel
theorem d47_26 : decode (tBc 47) 26 = .ok (.ifCond .ne 118, 3) := by decide +kernel
theorem d47_29 : decode (tBc 47) 29 = .ok (.aload_n 0, 1) := by decide +kernel
theorem d47_30 : decode (tBc 47) 30 = .ok (.dup, 1) := by decide +kernel
theorem d47_31 : decode (tBc 47) 31 = .ok (.getfield 37, 3) := by decide +kernel
theorem d47_34 : decode (tBc 47) 34 = .ok (.dup_x1, 1) := by decide +kernel
theorem d47_35 : decode (tBc 47) 35 = .ok (.iconst 1, 1) := by decide +kernel
theorem d47_36 : decode (tBc 47) 36 = .ok (.iadd, 1) := by decide +kernel
theorem d47_37 : decode (tBc 47) 37 = .ok (.putfield 37, 3) := by decide +kernel
theorem d47_40 : decode (tBc 47) 40 = .ok (.istore 8, 2) := by decide +kernel
theorem d47_42 : decode (tBc 47) 42 = .ok (.aload_n 1, 1) := by decide +kernel
theorem d47_43 : decode (tBc 47) 43 = .ok (.getfield 118, 3) := by decide +kernel
theorem d47_46 : decode (tBc 47) 46 = .ok (.iload 7, 2) := by decide +kernel
theorem d47_48 : decode (tBc 47) 48 = .ok (.caload, 1) := by decide +kernel
theorem d47_49 : decode (tBc 47) 49 = .ok (.iload 5, 2) := by decide +kernel
theorem d47_51 : decode (tBc 47) 51 = .ok (.invokestatic 136, 3) := by decide +kernel
theorem d47_54 : decode (tBc 47) 54 = .ok (.istore 9, 2) := by decide +kernel
theorem d47_56 : decode (tBc 47) 56 = .ok (.aload_n 0, 1) := by decide +kernel
theorem d47_57 : decode (tBc 47) 57 = .ok (.aload_n 0, 1) := by decide +kernel
theorem d47_58 : decode (tBc 47) 58 = .ok (.aload_n 1, 1) := by decide +kernel
theorem d47_59 : decode (tBc 47) 59 = .ok (.getfield 105, 3) := by decide +kernel
theorem d47_62 : decode (tBc 47) 62 = .ok (.iload 7, 2) := by decide +kernel
theorem d47_64 : decode (tBc 47) 64 = .ok (.iaload, 1) := by decide +kernel
theorem d47_65 : decode (tBc 47) 65 = .ok (.invokevirtual 140, 3) := by decide +kernel
theorem d47_68 : decode (tBc 47) 68 = .ok (.iload 8, 2) := by decide +kernel
theorem d47_70 : decode (tBc 47) 70 = .ok (.iload 4, 2) := by decide +kernel
theorem d47_72 : decode (tBc 47) 72 = .ok (.iload 9, 2) := by decide +kernel
theorem d47_74 : decode (tBc 47) 74 = .ok (.iload 7, 2) := by decide +kernel
theorem d47_76 : decode (tBc 47) 76 = .ok (.iload 5, 2) := by decide +kernel
theorem d47_78 : decode (tBc 47) 78 = .ok (.invokevirtual 144, 3) := by decide +kernel
theorem d47_81 : decode (tBc 47) 81 = .ok (.ifCond .ne 7, 3) := by decide +kernel
theorem d47_84 : decode (tBc 47) 84 = .ok (.iconst 1, 1) := by decide +kernel
theorem d47_85 : decode (tBc 47) 85 = .ok (.goto 4, 3) := by decide +kernel
theorem d47_88 : decode (tBc 47) 88 = .ok (.iconst 0, 1) := by decide +kernel
theorem d47_89 : decode (tBc 47) 89 = .ok (.putfield 40, 3) := by decide +kernel
theorem d47_92 : decode (tBc 47) 92 = .ok (.aload_n 1, 1) := by decide +kernel
theorem d47_93 : decode (tBc 47) 93 = .ok (.getfield 105, 3) := by decide +kernel
theorem d47_96 : decode (tBc 47) 96 = .ok (.iload 7, 2) := by decide +kernel
theorem d47_98 : decode (tBc 47) 98 = .ok (.iaload, 1) := by decide +kernel
theorem d47_99 : decode (tBc 47) 99 = .ok (.iconst 4, 1) := by decide +kernel
theorem d47_100 : decode (tBc 47) 100 = .ok (.if_icmp .ne 33, 3) := by decide +kernel
theorem d47_103 : decode (tBc 47) 103 = .ok (.aload_n 0, 1) := by decide +kernel
theorem d47_104 : decode (tBc 47) 104 = .ok (.getfield 40, 3) := by decide +kernel
theorem d47_107 : decode (tBc 47) 107 = .ok (.ifCond .ne 26, 3) := by decide +kernel
theorem d47_110 : decode (tBc 47) 110 = .ok (.aload_n 0, 1) := by decide +kernel
theorem d47_111 : decode (tBc 47) 111 = .ok (.aload_n 1, 1) := by decide +kernel
theorem d47_112 : decode (tBc 47) 112 = .ok (.iload 7, 2) := by decide +kernel
theorem d47_114 : decode (tBc 47) 114 = .ok (.iconst 1, 1) := by decide +kernel
theorem d47_115 : decode (tBc 47) 115 = .ok (.iadd, 1) := by decide +kernel
theorem d47_116 : decode (tBc 47) 116 = .ok (.aload_n 1, 1) := by decide +kernel
theorem d47_117 : decode (tBc 47) 117 = .ok (.iload 7, 2) := by decide +kernel
theorem d47_119 : decode (tBc 47) 119 = .ok (.invokevirtual 128, 3) := by decide +kernel
theorem d47_122 : decode (tBc 47) 122 = .ok (.iload 8, 2) := by decide +kernel
theorem d47_124 : decode (tBc 47) 124 = .ok (.iload 5, 2) := by decide +kernel
theorem d47_126 : decode (tBc 47) 126 = .ok (.iload 6, 2) := by decide +kernel
theorem d47_128 : decode (tBc 47) 128 = .ok (.iconst 1, 1) := by decide +kernel
theorem d47_129 : decode (tBc 47) 129 = .ok (.iadd, 1) := by decide +kernel
theorem d47_130 : decode (tBc 47) 130 = .ok (.invokevirtual 65, 3) := by decide +kernel
theorem d47_133 : decode (tBc 47) 133 = .ok (.aload_n 1, 1) := by decide +kernel
theorem d47_134 : decode (tBc 47) 134 = .ok (.iload 7, 2) := by decide +kernel
theorem d47_136 : decode (tBc 47) 136 = .ok (.invokevirtual 128, 3) := by decide +kernel
theorem d47_139 : decode (tBc 47) 139 = .ok (.istore 7, 2) := by decide +kernel
theorem d47_141 : decode (tBc 47) 141 = .ok (.goto (-125), 3) := by decide +kernel
theorem d47_144 : decode (tBc 47) 144 = .ok (.return_, 1) := by decide +kernel
theorem d48_0 : decode (tBc 48) 0 = .ok (.iload_n 1, 1) := by decide +kernel
theorem d48_1 : decode (tBc 48) 1 = .ok (.lookupswitch 37 #[(4, 27), (5, 32)], 27) := by decide +kernel
theorem d48_28 : decode (tBc 48) 28 = .ok (.aload_n 0, 1) := by decide +kernel
theorem d48_29 : decode (tBc 48) 29 = .ok (.getfield 14, 3) := by decide +kernel
theorem d48_32 : decode (tBc 48) 32 = .ok (.areturn, 1) := by decide +kernel
theorem d48_33 : decode (tBc 48) 33 = .ok (.aload_n 0, 1) := by decide +kernel
theorem d48_34 : decode (tBc 48) 34 = .ok (.getfield 23, 3) := by decide +kernel
theorem d48_37 : decode (tBc 48) 37 = .ok (.areturn, 1) := by decide +kernel
theorem d48_38 : decode (tBc 48) 38 = .ok (.aload_n 0, 1) := by decide +kernel
theorem d48_39 : decode (tBc 48) 39 = .ok (.getfield 20, 3) := by decide +kernel
theorem d48_42 : decode (tBc 48) 42 = .ok (.areturn, 1) := by decide +kernel
theorem d49_0 : decode (tBc 49) 0 = .ok (.aload_n 0, 1) := by decide +kernel
theorem d49_1 : decode (tBc 49) 1 = .ok (.aload_n 1, 1) := by decide +kernel
theorem d49_2 : decode (tBc 49) 2 = .ok (.invokevirtual 69, 3) := by decide +kernel
theorem d49_5 : decode (tBc 49) 5 = .ok (.aload_n 0, 1) := by decide +kernel
theorem d49_6 : decode (tBc 49) 6 = .ok (.aload 4, 2) := by decide +kernel
theorem d49_8 : decode (tBc 49) 8 = .ok (.aload_n 0, 1) := by decide +kernel
theorem d49_9 : decode (tBc 49) 9 = .ok (.getfield 20, 3) := by decide +kernel
theorem d49_12 : decode (tBc 49) 12 = .ok (.aload_n 2, 1) := by decide +kernel
theorem d49_13 : decode (tBc 49) 13 = .ok (.getfield 72, 3) := by decide +kernel
theorem d49_16 : decode (tBc 49) 16 = .ok (.iload_n 3, 1) := by decide +kernel
theorem d49_17 : decode (tBc 49) 17 = .ok (.iaload, 1) := by decide +kernel
theorem d49_18 : decode (tBc 49) 18 = .ok (.invokevirtual 78, 3) := by decide +kernel
theorem d49_21 : decode (tBc 49) 21 = .ok (.aload_n 2, 1) := by decide +kernel
theorem d49_22 : decode (tBc 49) 22 = .ok (.getfield 82, 3) := by decide +kernel
theorem d49_25 : decode (tBc 49) 25 = .ok (.iload_n 3, 1) := by decide +kernel
theorem d49_26 : decode (tBc 49) 26 = .ok (.iaload, 1) := by decide +kernel
theorem d49_27 : decode (tBc 49) 27 = .ok (.invokevirtual 85, 3) := by decide +kernel
theorem d49_30 : decode (tBc 49) 30 = .ok (.aload_n 0, 1) := by decide +kernel
theorem d49_31 : decode (tBc 49) 31 = .ok (.getfield 40, 3) := by decide +kernel
theorem d49_34 : decode (tBc 49) 34 = .ok (.ifCond .ne 7, 3) := by decide +kernel
theorem d49_37 : decode (tBc 49) 37 = .ok (.iconst 1, 1) := by decide +kernel
theorem d49_38 : decode (tBc 49) 38 = .ok (.goto 4, 3) := by decide +kernel
theorem d49_41 : decode (tBc 49) 41 = .ok (.iconst 0, 1) := by decide +kernel
theorem d49_42 : decode (tBc 49) 42 = .ok (.ireturn, 1) := by decide +kernel
theorem d50_0 : decode (tBc 50) 0 = .ok (.aload_n 0, 1) := by decide +kernel
theorem d50_1 : decode (tBc 50) 1 = .ok (.getfield 14, 3) := by decide +kernel
theorem d50_4 : decode (tBc 50) 4 = .ok (.aload_n 1, 1) := by decide +kernel
theorem d50_5 : decode (tBc 50) 5 = .ok (.getfield 14, 3) := by decide +kernel
theorem d50_8 : decode (tBc 50) 8 = .ok (.invokevirtual 51, 3) := by decide +kernel
theorem d50_11 : decode (tBc 50) 11 = .ok (.aload_n 0, 1) := by decide +kernel
theorem d50_12 : decode (tBc 50) 12 = .ok (.getfield 20, 3) := by decide +kernel
theorem d50_15 : decode (tBc 50) 15 = .ok (.aload_n 1, 1) := by decide +kernel
theorem d50_16 : decode (tBc 50) 16 = .ok (.getfield 20, 3) := by decide +kernel
theorem d50_19 : decode (tBc 50) 19 = .ok (.invokevirtual 51, 3) := by decide +kernel
theorem d50_22 : decode (tBc 50) 22 = .ok (.aload_n 0, 1) := by decide +kernel
theorem d50_23 : decode (tBc 50) 23 = .ok (.getfield 23, 3) := by decide +kernel
theorem d50_26 : decode (tBc 50) 26 = .ok (.aload_n 1, 1) := by decide +kernel
theorem d50_27 : decode (tBc 50) 27 = .ok (.getfield 23, 3) := by decide +kernel
theorem d50_30 : decode (tBc 50) 30 = .ok (.invokevirtual 51, 3) := by decide +kernel
theorem d50_33 : decode (tBc 50) 33 = .ok (.aload_n 0, 1) := by decide +kernel
theorem d50_34 : decode (tBc 50) 34 = .ok (.getfield 29, 3) := by decide +kernel
theorem d50_37 : decode (tBc 50) 37 = .ok (.aload_n 1, 1) := by decide +kernel
theorem d50_38 : decode (tBc 50) 38 = .ok (.getfield 29, 3) := by decide +kernel
theorem d50_41 : decode (tBc 50) 41 = .ok (.getfield 44, 3) := by decide +kernel
theorem d50_44 : decode (tBc 50) 44 = .ok (.aload_n 1, 1) := by decide +kernel
theorem d50_45 : decode (tBc 50) 45 = .ok (.getfield 29, 3) := by decide +kernel
theorem d50_48 : decode (tBc 50) 48 = .ok (.getfield 48, 3) := by decide +kernel
theorem d50_51 : decode (tBc 50) 51 = .ok (.invokevirtual 55, 3) := by decide +kernel
theorem d50_54 : decode (tBc 50) 54 = .ok (.aload_n 0, 1) := by decide +kernel
theorem d50_55 : decode (tBc 50) 55 = .ok (.aload_n 1, 1) := by decide +kernel
theorem d50_56 : decode (tBc 50) 56 = .ok (.getfield 37, 3) := by decide +kernel
theorem d50_59 : decode (tBc 50) 59 = .ok (.putfield 37, 3) := by decide +kernel
theorem d50_62 : decode (tBc 50) 62 = .ok (.aload_n 0, 1) := by decide +kernel
theorem d50_63 : decode (tBc 50) 63 = .ok (.iconst 0, 1) := by decide +kernel
theorem d50_64 : decode (tBc 50) 64 = .ok (.putfield 40, 3) := by decide +kernel
theorem d50_67 : decode (tBc 50) 67 = .ok (.return_, 1) := by decide +kernel
theorem d51_0 : decode (tBc 51) 0 = .ok (.iload_n 2, 1) := by decide +kernel
theorem d51_1 : decode (tBc 51) 1 = .ok (.ifCond .ge 4, 3) := by decide +kernel
theorem d51_4 : decode (tBc 51) 4 = .ok (.return_, 1) := by decide +kernel
theorem d51_5 : decode (tBc 51) 5 = .ok (.aload_n 0, 1) := by decide +kernel
theorem d51_6 : decode (tBc 51) 6 = .ok (.getfield 20, 3) := by decide +kernel
theorem d51_9 : decode (tBc 51) 9 = .ok (.getfield 89, 3) := by decide +kernel
theorem d51_12 : decode (tBc 51) 12 = .ok (.iload_n 2, 1) := by decide +kernel
theorem d51_13 : decode (tBc 51) 13 = .ok (.iaload, 1) := by decide +kernel
theorem d51_14 : decode (tBc 51) 14 = .ok (.istore 4, 2) := by decide +kernel
theorem d51_16 : decode (tBc 51) 16 = .ok (.aload_n 0, 1) := by decide +kernel
theorem d51_17 : decode (tBc 51) 17 = .ok (.getfield 20, 3) := by decide +kernel
theorem d51_20 : decode (tBc 51) 20 = .ok (.getfield 92, 3) := by decide +kernel
theorem d51_23 : decode (tBc 51) 23 = .ok (.iload_n 2, 1) := by decide +kernel
theorem d51_24 : decode (tBc 51) 24 = .ok (.iaload, 1) := by decide +kernel
theorem d51_25 : decode (tBc 51) 25 = .ok (.istore 5, 2) := by decide +kernel
theorem d51_27 : decode (tBc 51) 27 = .ok (.aload_n 0, 1) := by decide +kernel
theorem d51_28 : decode (tBc 51) 28 = .ok (.getfield 20, 3) := by decide +kernel
theorem d51_31 : decode (tBc 51) 31 = .ok (.getfield 95, 3) := by decide +kernel
theorem d51_34 : decode (tBc 51) 34 = .ok (.iload_n 2, 1) := by decide +kernel
theorem d51_35 : decode (tBc 51) 35 = .ok (.iaload, 1) := by decide +kernel
theorem d51_36 : decode (tBc 51) 36 = .ok (.istore 6, 2) := by decide +kernel
theorem d51_38 : decode (tBc 51) 38 = .ok (.aload_n 1, 1) := by decide +kernel
theorem d51_39 : decode (tBc 51) 39 = .ok (.getfield 98, 3) := by decide +kernel
theorem d51_42 : decode (tBc 51) 42 = .ok (.iload 4, 2) := by decide +kernel
theorem d51_44 : decode (tBc 51) 44 = .ok (.baload, 1) := by decide +kernel
theorem d51_45 : decode (tBc 51) 45 = .ok (.ifCond .ne 11, 3) := by decide +kernel
theorem d51_48 : decode (tBc 51) 48 = .ok (.aload_n 0, 1) := by decide +kernel
theorem d51_49 : decode (tBc 51) 49 = .ok (.getfield 20, 3) := by decide +kernel
theorem d51_52 : decode (tBc 51) 52 = .ok (.iload_n 2, 1) := by decide +kernel
theorem d51_53 : decode (tBc 51) 53 = .ok (.invokevirtual 102, 3) := by decide +kernel
theorem d51_56 : decode (tBc 51) 56 = .ok (.aload_n 1, 1) := by decide +kernel
theorem d51_57 : decode (tBc 51) 57 = .ok (.getfield 105, 3) := by decide +kernel
theorem d51_60 : decode (tBc 51) 60 = .ok (.iload 4, 2) := by decide +kernel
theorem d51_62 : decode (tBc 51) 62 = .ok (.iaload, 1) := by decide +kernel
theorem d51_63 : decode (tBc 51) 63 = .ok (.tableswitch 59 0 2 #[25, 35, 49], 25) := by decide +kernel
theorem d51_88 : decode (tBc 51) 88 = .ok (.aload_n 0, 1) := by decide +kernel
theorem d51_89 : decode (tBc 51) 89 = .ok (.iload 5, 2) := by decide +kernel
theorem d51_91 : decode (tBc 51) 91 = .ok (.iload_n 3, 1) := by decide +kernel
theorem d51_92 : decode (tBc 51) 92 = .ok (.invokevirtual 108, 3) := by decide +kernel
theorem d51_95 : decode (tBc 51) 95 = .ok (.goto 46, 3) := by decide +kernel
theorem d51_98 : decode (tBc 51) 98 = .ok (.aload_n 0, 1) := by decide +kernel
theorem d51_99 : decode (tBc 51) 99 = .ok (.iload 5, 2) := by decide +kernel
theorem d51_101 : decode (tBc 51) 101 = .ok (.aload_n 0, 1) := by decide +kernel
theorem d51_102 : decode (tBc 51) 102 = .ok (.iload_n 3, 1) := by decide +kernel
theorem d51_103 : decode (tBc 51) 103 = .ok (.invokevirtual 112, 3) := by decide +kernel
theorem d51_106 : decode (tBc 51) 106 = .ok (.invokevirtual 108, 3) := by decide +kernel
theorem d51_109 : decode (tBc 51) 109 = .ok (.goto 32, 3) := by decide +kernel
theorem d51_112 : decode (tBc 51) 112 = .ok (.aload_n 0, 1) := by decide +kernel
theorem d51_113 : decode (tBc 51) 113 = .ok (.iload_n 3, 1) := by decide +kernel
theorem d51_114 : decode (tBc 51) 114 = .ok (.iload 5, 2) := by decide +kernel
theorem d51_116 : decode (tBc 51) 116 = .ok (.invokevirtual 115, 3) := by decide +kernel
theorem d51_119 : decode (tBc 51) 119 = .ok (.goto 22, 3) := by decide +kernel
theorem d51_122 : decode (tBc 51) 122 = .ok (.aload_n 1, 1) := by decide +kernel
theorem d51_123 : decode (tBc 51) 123 = .ok (.getfield 118, 3) := by decide +kernel
theorem d51_126 : decode (tBc 51) 126 = .ok (.iload 4, 2) := by decide +kernel
theorem d51_128 : decode (tBc 51) 128 = .ok (.caload, 1) := by decide +kernel
theorem d51_129 : decode (tBc 51) 129 = .ok (.aload_n 0, 1) := by decide +kernel
theorem d51_130 : decode (tBc 51) 130 = .ok (.iload_n 3, 1) := by decide +kernel
theorem d51_131 : decode (tBc 51) 131 = .ok (.invokevirtual 121, 3) := by decide +kernel
theorem d51_134 : decode (tBc 51) 134 = .ok (.iload 6, 2) := by decide +kernel
theorem d51_136 : decode (tBc 51) 136 = .ok (.invokestatic 124, 3) := by decide +kernel
theorem d51_139 : decode (tBc 51) 139 = .ok (.istore 6, 2) := by decide +kernel
theorem d51_141 : decode (tBc 51) 141 = .ok (.aload_n 0, 1) := by decide +kernel
theorem d51_142 : decode (tBc 51) 142 = .ok (.aload_n 1, 1) := by decide +kernel
theorem d51_143 : decode (tBc 51) 143 = .ok (.iload 4, 2) := by decide +kernel
theorem d51_145 : decode (tBc 51) 145 = .ok (.iconst 1, 1) := by decide +kernel
theorem d51_146 : decode (tBc 51) 146 = .ok (.iadd, 1) := by decide +kernel
theorem d51_147 : decode (tBc 51) 147 = .ok (.aload_n 1, 1) := by decide +kernel
theorem d51_148 : decode (tBc 51) 148 = .ok (.iload 4, 2) := by decide +kernel
theorem d51_150 : decode (tBc 51) 150 = .ok (.invokevirtual 128, 3) := by decide +kernel
theorem d51_153 : decode (tBc 51) 153 = .ok (.iload 5, 2) := by decide +kernel
theorem d51_155 : decode (tBc 51) 155 = .ok (.iload 6, 2) := by decide +kernel
theorem d51_157 : decode (tBc 51) 157 = .ok (.iconst 1, 1) := by decide +kernel
theorem d51_158 : decode (tBc 51) 158 = .ok (.invokevirtual 65, 3) := by decide +kernel
theorem d51_161 : decode (tBc 51) 161 = .ok (.return_, 1) := by decide +kernel
theorem d52_0 : decode (tBc 52) 0 = .ok (.aload_n 0, 1) := by decide +kernel
theorem d52_1 : decode (tBc 52) 1 = .ok (.getfield 14, 3) := by decide +kernel
theorem d52_4 : decode (tBc 52) 4 = .ok (.iload_n 1, 1) := by decide +kernel
theorem d52_5 : decode (tBc 52) 5 = .ok (.invokevirtual 78, 3) := by decide +kernel
theorem d52_8 : decode (tBc 52) 8 = .ok (.istore_n 3, 1) := by decide +kernel
theorem d52_9 : decode (tBc 52) 9 = .ok (.iload_n 3, 1) := by decide +kernel
theorem d52_10 : decode (tBc 52) 10 = .ok (.ifCond .lt 13, 3) := by decide +kernel
theorem d52_13 : decode (tBc 52) 13 = .ok (.aload_n 0, 1) := by decide +kernel
theorem d52_14 : decode (tBc 52) 14 = .ok (.getfield 14, 3) := by decide +kernel
theorem d52_17 : decode (tBc 52) 17 = .ok (.getfield 92, 3) := by decide +kernel
theorem d52_20 : decode (tBc 52) 20 = .ok (.iload_n 3, 1) := by decide +kernel
theorem d52_21 : decode (tBc 52) 21 = .ok (.iload_n 2, 1) := by decide +kernel
theorem d52_22 : decode (tBc 52) 22 = .ok (.iastore, 1) := by decide +kernel
theorem d52_23 : decode (tBc 52) 23 = .ok (.return_, 1) := by decide +kernel
theorem d53_0 : decode (tBc 53) 0 = .ok (.aload_n 0, 1) := by decide +kernel
theorem d53_1 : decode (tBc 53) 1 = .ok (.getfield 14, 3) := by decide +kernel
theorem d53_4 : decode (tBc 53) 4 = .ok (.iload_n 1, 1) := by decide +kernel
theorem d53_5 : decode (tBc 53) 5 = .ok (.invokevirtual 78, 3) := by decide +kernel
theorem d53_8 : decode (tBc 53) 8 = .ok (.istore_n 2, 1) := by decide +kernel
theorem d53_9 : decode (tBc 53) 9 = .ok (.iload_n 2, 1) := by decide +kernel
theorem d53_10 : decode (tBc 53) 10 = .ok (.ifCond .ge 7, 3) := by decide +kernel
theorem d53_13 : decode (tBc 53) 13 = .ok (.iconst (-1), 1) := by decide +kernel
theorem d53_14 : decode (tBc 53) 14 = .ok (.goto 12, 3) := by decide +kernel
theorem d53_17 : decode (tBc 53) 17 = .ok (.aload_n 0, 1) := by decide +kernel
theorem d53_18 : decode (tBc 53) 18 = .ok (.getfield 14, 3) := by decide +kernel
theorem d53_21 : decode (tBc 53) 21 = .ok (.getfield 92, 3) := by decide +kernel
theorem d53_24 : decode (tBc 53) 24 = .ok (.iload_n 2, 1) := by decide +kernel
theorem d53_25 : decode (tBc 53) 25 = .ok (.iaload, 1) := by decide +kernel
theorem d53_26 : decode (tBc 53) 26 = .ok (.ireturn, 1) := by decide +kernel
theorem d54_0 : decode (tBc 54) 0 = .ok (.aload_n 0, 1) := by decide +kernel
theorem d54_1 : decode (tBc 54) 1 = .ok (.getfield 14, 3) := by decide +kernel
theorem d54_4 : decode (tBc 54) 4 = .ok (.aload_n 0, 1) := by decide +kernel
theorem d54_5 : decode (tBc 54) 5 = .ok (.getfield 14, 3) := by decide +kernel
theorem d54_8 : decode (tBc 54) 8 = .ok (.iload_n 1, 1) := by decide +kernel
theorem d54_9 : decode (tBc 54) 9 = .ok (.invokevirtual 78, 3) := by decide +kernel
theorem d54_12 : decode (tBc 54) 12 = .ok (.invokevirtual 102, 3) := by decide +kernel
theorem d54_15 : decode (tBc 54) 15 = .ok (.aload_n 0, 1) := by decide +kernel
theorem d54_16 : decode (tBc 54) 16 = .ok (.getfield 14, 3) := by decide +kernel
theorem d54_19 : decode (tBc 54) 19 = .ok (.iload_n 1, 1) := by decide +kernel
theorem d54_20 : decode (tBc 54) 20 = .ok (.iload_n 2, 1) := by decide +kernel
theorem d54_21 : decode (tBc 54) 21 = .ok (.invokevirtual 131, 3) := by decide +kernel
theorem d54_24 : decode (tBc 54) 24 = .ok (.aload_n 0, 1) := by decide +kernel
theorem d54_25 : decode (tBc 54) 25 = .ok (.getfield 20, 3) := by decide +kernel
theorem d54_28 : decode (tBc 54) 28 = .ok (.iload_n 1, 1) := by decide +kernel
theorem d54_29 : decode (tBc 54) 29 = .ok (.iload_n 2, 1) := by decide +kernel
theorem d54_30 : decode (tBc 54) 30 = .ok (.invokevirtual 131, 3) := by decide +kernel
theorem d54_33 : decode (tBc 54) 33 = .ok (.aload_n 0, 1) := by decide +kernel
theorem d54_34 : decode (tBc 54) 34 = .ok (.getfield 23, 3) := by decide +kernel
theorem d54_37 : decode (tBc 54) 37 = .ok (.iload_n 1, 1) := by decide +kernel
theorem d54_38 : decode (tBc 54) 38 = .ok (.iload_n 2, 1) := by decide +kernel
theorem d54_39 : decode (tBc 54) 39 = .ok (.invokevirtual 131, 3) := by decide +kernel
theorem d54_42 : decode (tBc 54) 42 = .ok (.return_, 1) := by decide +kernel
theorem d55_0 : decode (tBc 55) 0 = .ok (.aload_n 0, 1) := by decide +kernel
theorem d55_1 : decode (tBc 55) 1 = .ok (.getfield 23, 3) := by decide +kernel
theorem d55_4 : decode (tBc 55) 4 = .ok (.iload_n 1, 1) := by decide +kernel
theorem d55_5 : decode (tBc 55) 5 = .ok (.invokevirtual 78, 3) := by decide +kernel
theorem d55_8 : decode (tBc 55) 8 = .ok (.istore_n 2, 1) := by decide +kernel
theorem d55_9 : decode (tBc 55) 9 = .ok (.iload_n 2, 1) := by decide +kernel
theorem d55_10 : decode (tBc 55) 10 = .ok (.ifCond .ge 5, 3) := by decide +kernel
theorem d55_13 : decode (tBc 55) 13 = .ok (.iconst (-1), 1) := by decide +kernel
theorem d55_14 : decode (tBc 55) 14 = .ok (.ireturn, 1) := by decide +kernel
theorem d55_15 : decode (tBc 55) 15 = .ok (.aload_n 0, 1) := by decide +kernel
theorem d55_16 : decode (tBc 55) 16 = .ok (.getfield 23, 3) := by decide +kernel
theorem d55_19 : decode (tBc 55) 19 = .ok (.getfield 134, 3) := by decide +kernel
theorem d55_22 : decode (tBc 55) 22 = .ok (.iload_n 2, 1) := by decide +kernel
theorem d55_23 : decode (tBc 55) 23 = .ok (.iaload, 1) := by decide +kernel
theorem d55_24 : decode (tBc 55) 24 = .ok (.istore_n 3, 1) := by decide +kernel
theorem d55_25 : decode (tBc 55) 25 = .ok (.aload_n 0, 1) := by decide +kernel
theorem d55_26 : decode (tBc 55) 26 = .ok (.getfield 23, 3) := by decide +kernel
theorem d55_29 : decode (tBc 55) 29 = .ok (.iload_n 2, 1) := by decide +kernel
theorem d55_30 : decode (tBc 55) 30 = .ok (.invokevirtual 102, 3) := by decide +kernel
theorem d55_33 : decode (tBc 55) 33 = .ok (.iload_n 3, 1) := by decide +kernel
theorem d55_34 : decode (tBc 55) 34 = .ok (.ireturn, 1) := by decide +kernel
theorem d56_0 : decode (tBc 56) 0 = .ok (.iconst 0, 1) := by decide +kernel
theorem d56_1 : decode (tBc 56) 1 = .ok (.istore_n 3, 1) := by decide +kernel
theorem d56_2 : decode (tBc 56) 2 = .ok (.iload_n 3, 1) := by decide +kernel
theorem d56_3 : decode (tBc 56) 3 = .ok (.aload_n 0, 1) := by decide +kernel
theorem d56_4 : decode (tBc 56) 4 = .ok (.getfield 14, 3) := by decide +kernel
theorem d56_7 : decode (tBc 56) 7 = .ok (.getfield 33, 3) := by decide +kernel
theorem d56_10 : decode (tBc 56) 10 = .ok (.if_icmp .ge 65, 3) := by decide +kernel
theorem d56_13 : decode (tBc 56) 13 = .ok (.aload_n 0, 1) := by decide +kernel
theorem d56_14 : decode (tBc 56) 14 = .ok (.getfield 14, 3) := by decide +kernel
theorem d56_17 : decode (tBc 56) 17 = .ok (.getfield 134, 3) := by decide +kernel
theorem d56_20 : decode (tBc 56) 20 = .ok (.iload_n 3, 1) := by decide +kernel
theorem d56_21 : decode (tBc 56) 21 = .ok (.iaload, 1) := by decide +kernel
theorem d56_22 : decode (tBc 56) 22 = .ok (.iload_n 2, 1) := by decide +kernel
theorem d56_23 : decode (tBc 56) 23 = .ok (.if_icmp .ne 22, 3) := by decide +kernel
theorem d56_26 : decode (tBc 56) 26 = .ok (.aload_n 0, 1) := by decide +kernel
theorem d56_27 : decode (tBc 56) 27 = .ok (.getfield 14, 3) := by decide +kernel
theorem d56_30 : decode (tBc 56) 30 = .ok (.aload_n 0, 1) := by decide +kernel
theorem d56_31 : decode (tBc 56) 31 = .ok (.getfield 14, 3) := by decide +kernel
theorem d56_34 : decode (tBc 56) 34 = .ok (.getfield 92, 3) := by decide +kernel
theorem d56_37 : decode (tBc 56) 37 = .ok (.iload_n 3, 1) := by decide +kernel
theorem d56_38 : decode (tBc 56) 38 = .ok (.iaload, 1) := by decide +kernel
theorem d56_39 : decode (tBc 56) 39 = .ok (.invokevirtual 78, 3) := by decide +kernel
theorem d56_42 : decode (tBc 56) 42 = .ok (.goto 4, 3) := by decide +kernel
theorem d56_45 : decode (tBc 56) 45 = .ok (.iconst (-1), 1) := by decide +kernel
theorem d56_46 : decode (tBc 56) 46 = .ok (.istore 4, 2) := by decide +kernel
theorem d56_48 : decode (tBc 56) 48 = .ok (.iload 4, 2) := by decide +kernel
theorem d56_50 : decode (tBc 56) 50 = .ok (.ifCond .lt 19, 3) := by decide +kernel
theorem d56_53 : decode (tBc 56) 53 = .ok (.aload_n 0, 1) := by decide +kernel
theorem d56_54 : decode (tBc 56) 54 = .ok (.getfield 14, 3) := by decide +kernel
theorem d56_57 : decode (tBc 56) 57 = .ok (.getfield 134, 3) := by decide +kernel
theorem d56_60 : decode (tBc 56) 60 = .ok (.iload 4, 2) := by decide +kernel
theorem d56_62 : decode (tBc 56) 62 = .ok (.iaload, 1) := by decide +kernel
theorem d56_63 : decode (tBc 56) 63 = .ok (.iload_n 1, 1) := by decide +kernel
theorem d56_64 : decode (tBc 56) 64 = .ok (.if_icmp .ne 5, 3) := by decide +kernel
theorem d56_67 : decode (tBc 56) 67 = .ok (.iconst 1, 1) := by decide +kernel
theorem d56_68 : decode (tBc 56) 68 = .ok (.ireturn, 1) := by decide +kernel
theorem d56_69 : decode (tBc 56) 69 = .ok (.iinc 3 1, 3) := by decide +kernel
theorem d56_72 : decode (tBc 56) 72 = .ok (.goto (-70), 3) := by decide +kernel
theorem d56_75 : decode (tBc 56) 75 = .ok (.iconst 0, 1) := by decide +kernel
theorem d56_76 : decode (tBc 56) 76 = .ok (.ireturn, 1) := by decide +kernel
