/-! Rows that decode each instruction. Written by wip/whole/gen/mktab.py. -/
theorem d120_0 : decode (tBc 120) 0 = .ok (.aload_n 0, 1) := by decide +kernel
theorem d120_1 : decode (tBc 120) 1 = .ok (.invokevirtual 258, 3) := by decide +kernel
theorem d120_4 : decode (tBc 120) 4 = .ok (.aload_n 0, 1) := by decide +kernel
theorem d120_5 : decode (tBc 120) 5 = .ok (.getfield 19, 3) := by decide +kernel
theorem d120_8 : decode (tBc 120) 8 = .ok (.iload_n 1, 1) := by decide +kernel
theorem d120_9 : decode (tBc 120) 9 = .ok (.baload, 1) := by decide +kernel
theorem d120_10 : decode (tBc 120) 10 = .ok (.ifCond .eq 9, 3) := by decide +kernel
theorem d120_13 : decode (tBc 120) 13 = .ok (.aload_n 0, 1) := by decide +kernel
theorem d120_14 : decode (tBc 120) 14 = .ok (.bipush 33, 2) := by decide +kernel
theorem d120_16 : decode (tBc 120) 16 = .ok (.invokevirtual 242, 3) := by decide +kernel
theorem d120_19 : decode (tBc 120) 19 = .ok (.aload_n 0, 1) := by decide +kernel
theorem d120_20 : decode (tBc 120) 20 = .ok (.aload_n 0, 1) := by decide +kernel
theorem d120_21 : decode (tBc 120) 21 = .ok (.getfield 16, 3) := by decide +kernel
theorem d120_24 : decode (tBc 120) 24 = .ok (.iload_n 1, 1) := by decide +kernel
theorem d120_25 : decode (tBc 120) 25 = .ok (.iaload, 1) := by decide +kernel
theorem d120_26 : decode (tBc 120) 26 = .ok (.iconst 2, 1) := by decide +kernel
theorem d120_27 : decode (tBc 120) 27 = .ok (.if_icmp .ne 8, 3) := by decide +kernel
theorem d120_30 : decode (tBc 120) 30 = .ok (.bipush 62, 2) := by decide +kernel
theorem d120_32 : decode (tBc 120) 32 = .ok (.goto 35, 3) := by decide +kernel
theorem d120_35 : decode (tBc 120) 35 = .ok (.aload_n 0, 1) := by decide +kernel
theorem d120_36 : decode (tBc 120) 36 = .ok (.getfield 16, 3) := by decide +kernel
theorem d120_39 : decode (tBc 120) 39 = .ok (.iload_n 1, 1) := by decide +kernel
theorem d120_40 : decode (tBc 120) 40 = .ok (.iaload, 1) := by decide +kernel
theorem d120_41 : decode (tBc 120) 41 = .ok (.iconst 3, 1) := by decide +kernel
theorem d120_42 : decode (tBc 120) 42 = .ok (.if_icmp .ne 8, 3) := by decide +kernel
theorem d120_45 : decode (tBc 120) 45 = .ok (.bipush 60, 2) := by decide +kernel
theorem d120_47 : decode (tBc 120) 47 = .ok (.goto 20, 3) := by decide +kernel
theorem d120_50 : decode (tBc 120) 50 = .ok (.aload_n 0, 1) := by decide +kernel
theorem d120_51 : decode (tBc 120) 51 = .ok (.getfield 16, 3) := by decide +kernel
theorem d120_54 : decode (tBc 120) 54 = .ok (.iload_n 1, 1) := by decide +kernel
theorem d120_55 : decode (tBc 120) 55 = .ok (.iaload, 1) := by decide +kernel
theorem d120_56 : decode (tBc 120) 56 = .ok (.iconst 4, 1) := by decide +kernel
theorem d120_57 : decode (tBc 120) 57 = .ok (.if_icmp .ne 8, 3) := by decide +kernel
theorem d120_60 : decode (tBc 120) 60 = .ok (.bipush 94, 2) := by decide +kernel
theorem d120_62 : decode (tBc 120) 62 = .ok (.goto 5, 3) := by decide +kernel
theorem d120_65 : decode (tBc 120) 65 = .ok (.bipush 63, 2) := by decide +kernel
theorem d120_67 : decode (tBc 120) 67 = .ok (.invokevirtual 242, 3) := by decide +kernel
theorem d120_70 : decode (tBc 120) 70 = .ok (.aload_n 0, 1) := by decide +kernel
theorem d120_71 : decode (tBc 120) 71 = .ok (.getfield 16, 3) := by decide +kernel
theorem d120_74 : decode (tBc 120) 74 = .ok (.iload_n 1, 1) := by decide +kernel
theorem d120_75 : decode (tBc 120) 75 = .ok (.iaload, 1) := by decide +kernel
theorem d120_76 : decode (tBc 120) 76 = .ok (.iconst 5, 1) := by decide +kernel
theorem d120_77 : decode (tBc 120) 77 = .ok (.if_icmp .ne 16, 3) := by decide +kernel
theorem d120_80 : decode (tBc 120) 80 = .ok (.aload_n 0, 1) := by decide +kernel
theorem d120_81 : decode (tBc 120) 81 = .ok (.aload_n 0, 1) := by decide +kernel
theorem d120_82 : decode (tBc 120) 82 = .ok (.getfield 23, 3) := by decide +kernel
theorem d120_85 : decode (tBc 120) 85 = .ok (.iload_n 1, 1) := by decide +kernel
theorem d120_86 : decode (tBc 120) 86 = .ok (.iaload, 1) := by decide +kernel
theorem d120_87 : decode (tBc 120) 87 = .ok (.invokevirtual 261, 3) := by decide +kernel
theorem d120_90 : decode (tBc 120) 90 = .ok (.goto 15, 3) := by decide +kernel
theorem d120_93 : decode (tBc 120) 93 = .ok (.aload_n 0, 1) := by decide +kernel
theorem d120_94 : decode (tBc 120) 94 = .ok (.aload_n 0, 1) := by decide +kernel
theorem d120_95 : decode (tBc 120) 95 = .ok (.getfield 23, 3) := by decide +kernel
theorem d120_98 : decode (tBc 120) 98 = .ok (.iload_n 1, 1) := by decide +kernel
theorem d120_99 : decode (tBc 120) 99 = .ok (.iaload, 1) := by decide +kernel
theorem d120_100 : decode (tBc 120) 100 = .ok (.iload_n 2, 1) := by decide +kernel
theorem d120_101 : decode (tBc 120) 101 = .ok (.iload_n 3, 1) := by decide +kernel
theorem d120_102 : decode (tBc 120) 102 = .ok (.invokevirtual 264, 3) := by decide +kernel
theorem d120_105 : decode (tBc 120) 105 = .ok (.aload_n 0, 1) := by decide +kernel
theorem d120_106 : decode (tBc 120) 106 = .ok (.bipush 46, 2) := by decide +kernel
theorem d120_108 : decode (tBc 120) 108 = .ok (.invokevirtual 242, 3) := by decide +kernel
theorem d120_111 : decode (tBc 120) 111 = .ok (.aload_n 0, 1) := by decide +kernel
theorem d120_112 : decode (tBc 120) 112 = .ok (.invokevirtual 267, 3) := by decide +kernel
theorem d120_115 : decode (tBc 120) 115 = .ok (.aload_n 0, 1) := by decide +kernel
theorem d120_116 : decode (tBc 120) 116 = .ok (.iconst 1, 1) := by decide +kernel
theorem d120_117 : decode (tBc 120) 117 = .ok (.iload_n 1, 1) := by decide +kernel
theorem d120_118 : decode (tBc 120) 118 = .ok (.aload_n 0, 1) := by decide +kernel
theorem d120_119 : decode (tBc 120) 119 = .ok (.getfield 26, 3) := by decide +kernel
theorem d120_122 : decode (tBc 120) 122 = .ok (.iload_n 1, 1) := by decide +kernel
theorem d120_123 : decode (tBc 120) 123 = .ok (.iaload, 1) := by decide +kernel
theorem d120_124 : decode (tBc 120) 124 = .ok (.aload_n 0, 1) := by decide +kernel
theorem d120_125 : decode (tBc 120) 125 = .ok (.getfield 16, 3) := by decide +kernel
theorem d120_128 : decode (tBc 120) 128 = .ok (.iload_n 1, 1) := by decide +kernel
theorem d120_129 : decode (tBc 120) 129 = .ok (.iaload, 1) := by decide +kernel
theorem d120_130 : decode (tBc 120) 130 = .ok (.iconst 5, 1) := by decide +kernel
theorem d120_131 : decode (tBc 120) 131 = .ok (.if_icmp .ne 19, 3) := by decide +kernel
theorem d120_134 : decode (tBc 120) 134 = .ok (.iload_n 3, 1) := by decide +kernel
theorem d120_135 : decode (tBc 120) 135 = .ok (.iconst 1, 1) := by decide +kernel
theorem d120_136 : decode (tBc 120) 136 = .ok (.aload_n 0, 1) := by decide +kernel
theorem d120_137 : decode (tBc 120) 137 = .ok (.getfield 23, 3) := by decide +kernel
theorem d120_140 : decode (tBc 120) 140 = .ok (.iload_n 1, 1) := by decide +kernel
theorem d120_141 : decode (tBc 120) 141 = .ok (.iaload, 1) := by decide +kernel
theorem d120_142 : decode (tBc 120) 142 = .ok (.bipush 6, 2) := by decide +kernel
theorem d120_144 : decode (tBc 120) 144 = .ok (.isub, 1) := by decide +kernel
theorem d120_145 : decode (tBc 120) 145 = .ok (.ishl, 1) := by decide +kernel
theorem d120_146 : decode (tBc 120) 146 = .ok (.ior, 1) := by decide +kernel
theorem d120_147 : decode (tBc 120) 147 = .ok (.goto 4, 3) := by decide +kernel
theorem d120_150 : decode (tBc 120) 150 = .ok (.iload_n 3, 1) := by decide +kernel
theorem d120_151 : decode (tBc 120) 151 = .ok (.invokevirtual 270, 3) := by decide +kernel
theorem d120_154 : decode (tBc 120) 154 = .ok (.return_, 1) := by decide +kernel
theorem d121_0 : decode (tBc 121) 0 = .ok (.iload_n 1, 1) := by decide +kernel
theorem d121_1 : decode (tBc 121) 1 = .ok (.iconst 5, 1) := by decide +kernel
theorem d121_2 : decode (tBc 121) 2 = .ok (.if_icmp .le 28, 3) := by decide +kernel
theorem d121_5 : decode (tBc 121) 5 = .ok (.iload_n 3, 1) := by decide +kernel
theorem d121_6 : decode (tBc 121) 6 = .ok (.iload_n 1, 1) := by decide +kernel
theorem d121_7 : decode (tBc 121) 7 = .ok (.bipush 6, 2) := by decide +kernel
theorem d121_9 : decode (tBc 121) 9 = .ok (.isub, 1) := by decide +kernel
theorem d121_10 : decode (tBc 121) 10 = .ok (.ishr, 1) := by decide +kernel
theorem d121_11 : decode (tBc 121) 11 = .ok (.iconst 1, 1) := by decide +kernel
theorem d121_12 : decode (tBc 121) 12 = .ok (.iand, 1) := by decide +kernel
theorem d121_13 : decode (tBc 121) 13 = .ok (.iconst 1, 1) := by decide +kernel
theorem d121_14 : decode (tBc 121) 14 = .ok (.if_icmp .eq 12, 3) := by decide +kernel
theorem d121_17 : decode (tBc 121) 17 = .ok (.aload_n 0, 1) := by decide +kernel
theorem d121_18 : decode (tBc 121) 18 = .ok (.iload_n 1, 1) := by decide +kernel
theorem d121_19 : decode (tBc 121) 19 = .ok (.iload_n 2, 1) := by decide +kernel
theorem d121_20 : decode (tBc 121) 20 = .ok (.invokevirtual 225, 3) := by decide +kernel
theorem d121_23 : decode (tBc 121) 23 = .ok (.ifCond .ge 7, 3) := by decide +kernel
theorem d121_26 : decode (tBc 121) 26 = .ok (.iconst 1, 1) := by decide +kernel
theorem d121_27 : decode (tBc 121) 27 = .ok (.goto 4, 3) := by decide +kernel
theorem d121_30 : decode (tBc 121) 30 = .ok (.iconst 0, 1) := by decide +kernel
theorem d121_31 : decode (tBc 121) 31 = .ok (.istore 4, 2) := by decide +kernel
theorem d121_33 : decode (tBc 121) 33 = .ok (.aload_n 0, 1) := by decide +kernel
theorem d121_34 : decode (tBc 121) 34 = .ok (.iload 4, 2) := by decide +kernel
theorem d121_36 : decode (tBc 121) 36 = .ok (.ifCond .eq 7, 3) := by decide +kernel
theorem d121_39 : decode (tBc 121) 39 = .ok (.iload_n 1, 1) := by decide +kernel
theorem d121_40 : decode (tBc 121) 40 = .ok (.goto 9, 3) := by decide +kernel
theorem d121_43 : decode (tBc 121) 43 = .ok (.aload_n 0, 1) := by decide +kernel
theorem d121_44 : decode (tBc 121) 44 = .ok (.iload_n 1, 1) := by decide +kernel
theorem d121_45 : decode (tBc 121) 45 = .ok (.iload_n 2, 1) := by decide +kernel
theorem d121_46 : decode (tBc 121) 46 = .ok (.invokevirtual 225, 3) := by decide +kernel
theorem d121_49 : decode (tBc 121) 49 = .ok (.invokevirtual 261, 3) := by decide +kernel
theorem d121_52 : decode (tBc 121) 52 = .ok (.return_, 1) := by decide +kernel
theorem d122_0 : decode (tBc 122) 0 = .ok (.aload_n 0, 1) := by decide +kernel
theorem d122_1 : decode (tBc 122) 1 = .ok (.invokevirtual 258, 3) := by decide +kernel
theorem d122_4 : decode (tBc 122) 4 = .ok (.aload_n 0, 1) := by decide +kernel
theorem d122_5 : decode (tBc 122) 5 = .ok (.bipush 39, 2) := by decide +kernel
theorem d122_7 : decode (tBc 122) 7 = .ok (.invokevirtual 242, 3) := by decide +kernel
theorem d122_10 : decode (tBc 122) 10 = .ok (.aload_n 0, 1) := by decide +kernel
theorem d122_11 : decode (tBc 122) 11 = .ok (.iload_n 1, 1) := by decide +kernel
theorem d122_12 : decode (tBc 122) 12 = .ok (.iload_n 2, 1) := by decide +kernel
theorem d122_13 : decode (tBc 122) 13 = .ok (.iload_n 3, 1) := by decide +kernel
theorem d122_14 : decode (tBc 122) 14 = .ok (.invokevirtual 264, 3) := by decide +kernel
theorem d122_17 : decode (tBc 122) 17 = .ok (.aload_n 0, 1) := by decide +kernel
theorem d122_18 : decode (tBc 122) 18 = .ok (.getfield 95, 3) := by decide +kernel
theorem d122_21 : decode (tBc 122) 21 = .ok (.aload_n 0, 1) := by decide +kernel
theorem d122_22 : decode (tBc 122) 22 = .ok (.getfield 248, 3) := by decide +kernel
theorem d122_25 : decode (tBc 122) 25 = .ok (.iconst 1, 1) := by decide +kernel
theorem d122_26 : decode (tBc 122) 26 = .ok (.isub, 1) := by decide +kernel
theorem d122_27 : decode (tBc 122) 27 = .ok (.aload_n 0, 1) := by decide +kernel
theorem d122_28 : decode (tBc 122) 28 = .ok (.getfield 239, 3) := by decide +kernel
theorem d122_31 : decode (tBc 122) 31 = .ok (.aload_n 0, 1) := by decide +kernel
theorem d122_32 : decode (tBc 122) 32 = .ok (.getfield 92, 3) := by decide +kernel
theorem d122_35 : decode (tBc 122) 35 = .ok (.aload_n 0, 1) := by decide +kernel
theorem d122_36 : decode (tBc 122) 36 = .ok (.getfield 248, 3) := by decide +kernel
theorem d122_39 : decode (tBc 122) 39 = .ok (.iconst 1, 1) := by decide +kernel
theorem d122_40 : decode (tBc 122) 40 = .ok (.isub, 1) := by decide +kernel
theorem d122_41 : decode (tBc 122) 41 = .ok (.iaload, 1) := by decide +kernel
theorem d122_42 : decode (tBc 122) 42 = .ok (.isub, 1) := by decide +kernel
theorem d122_43 : decode (tBc 122) 43 = .ok (.iastore, 1) := by decide +kernel
theorem d122_44 : decode (tBc 122) 44 = .ok (.return_, 1) := by decide +kernel
theorem d123_0 : decode (tBc 123) 0 = .ok (.aload_n 0, 1) := by decide +kernel
theorem d123_1 : decode (tBc 123) 1 = .ok (.getfield 248, 3) := by decide +kernel
theorem d123_4 : decode (tBc 123) 4 = .ok (.iload_n 1, 1) := by decide +kernel
theorem d123_5 : decode (tBc 123) 5 = .ok (.isub, 1) := by decide +kernel
theorem d123_6 : decode (tBc 123) 6 = .ok (.istore_n 3, 1) := by decide +kernel
theorem d123_7 : decode (tBc 123) 7 = .ok (.iload_n 1, 1) := by decide +kernel
theorem d123_8 : decode (tBc 123) 8 = .ok (.iconst 1, 1) := by decide +kernel
theorem d123_9 : decode (tBc 123) 9 = .ok (.iadd, 1) := by decide +kernel
theorem d123_10 : decode (tBc 123) 10 = .ok (.istore 4, 2) := by decide +kernel
theorem d123_12 : decode (tBc 123) 12 = .ok (.iload 4, 2) := by decide +kernel
theorem d123_14 : decode (tBc 123) 14 = .ok (.aload_n 0, 1) := by decide +kernel
theorem d123_15 : decode (tBc 123) 15 = .ok (.getfield 248, 3) := by decide +kernel
theorem d123_18 : decode (tBc 123) 18 = .ok (.if_icmp .ge 110, 3) := by decide +kernel
theorem d123_21 : decode (tBc 123) 21 = .ok (.iload 4, 2) := by decide +kernel
theorem d123_23 : decode (tBc 123) 23 = .ok (.istore 5, 2) := by decide +kernel
theorem d123_25 : decode (tBc 123) 25 = .ok (.iload 5, 2) := by decide +kernel
theorem d123_27 : decode (tBc 123) 27 = .ok (.iload_n 1, 1) := by decide +kernel
theorem d123_28 : decode (tBc 123) 28 = .ok (.if_icmp .le 94, 3) := by decide +kernel
theorem d123_31 : decode (tBc 123) 31 = .ok (.aload_n 0, 1) := by decide +kernel
theorem d123_32 : decode (tBc 123) 32 = .ok (.iload 5, 2) := by decide +kernel
theorem d123_34 : decode (tBc 123) 34 = .ok (.iload 5, 2) := by decide +kernel
theorem d123_36 : decode (tBc 123) 36 = .ok (.iconst 1, 1) := by decide +kernel
theorem d123_37 : decode (tBc 123) 37 = .ok (.isub, 1) := by decide +kernel
theorem d123_38 : decode (tBc 123) 38 = .ok (.invokevirtual 251, 3) := by decide +kernel
theorem d123_41 : decode (tBc 123) 41 = .ok (.ifCond .eq 81, 3) := by decide +kernel
theorem d123_44 : decode (tBc 123) 44 = .ok (.aload_n 0, 1) := by decide +kernel
theorem d123_45 : decode (tBc 123) 45 = .ok (.getfield 92, 3) := by decide +kernel
theorem d123_48 : decode (tBc 123) 48 = .ok (.iload 5, 2) := by decide +kernel
theorem d123_50 : decode (tBc 123) 50 = .ok (.iaload, 1) := by decide +kernel
theorem d123_51 : decode (tBc 123) 51 = .ok (.istore 6, 2) := by decide +kernel
theorem d123_53 : decode (tBc 123) 53 = .ok (.aload_n 0, 1) := by decide +kernel
theorem d123_54 : decode (tBc 123) 54 = .ok (.getfield 95, 3) := by decide +kernel
theorem d123_57 : decode (tBc 123) 57 = .ok (.iload 5, 2) := by decide +kernel
theorem d123_59 : decode (tBc 123) 59 = .ok (.iaload, 1) := by decide +kernel
theorem d123_60 : decode (tBc 123) 60 = .ok (.istore 7, 2) := by decide +kernel
theorem d123_62 : decode (tBc 123) 62 = .ok (.aload_n 0, 1) := by decide +kernel
theorem d123_63 : decode (tBc 123) 63 = .ok (.getfield 92, 3) := by decide +kernel
theorem d123_66 : decode (tBc 123) 66 = .ok (.iload 5, 2) := by decide +kernel
theorem d123_68 : decode (tBc 123) 68 = .ok (.aload_n 0, 1) := by decide +kernel
theorem d123_69 : decode (tBc 123) 69 = .ok (.getfield 92, 3) := by decide +kernel
theorem d123_72 : decode (tBc 123) 72 = .ok (.iload 5, 2) := by decide +kernel
theorem d123_74 : decode (tBc 123) 74 = .ok (.iconst 1, 1) := by decide +kernel
theorem d123_75 : decode (tBc 123) 75 = .ok (.isub, 1) := by decide +kernel
theorem d123_76 : decode (tBc 123) 76 = .ok (.iaload, 1) := by decide +kernel
theorem d123_77 : decode (tBc 123) 77 = .ok (.iastore, 1) := by decide +kernel
theorem d123_78 : decode (tBc 123) 78 = .ok (.aload_n 0, 1) := by decide +kernel
theorem d123_79 : decode (tBc 123) 79 = .ok (.getfield 95, 3) := by decide +kernel
theorem d123_82 : decode (tBc 123) 82 = .ok (.iload 5, 2) := by decide +kernel
theorem d123_84 : decode (tBc 123) 84 = .ok (.aload_n 0, 1) := by decide +kernel
theorem d123_85 : decode (tBc 123) 85 = .ok (.getfield 95, 3) := by decide +kernel
theorem d123_88 : decode (tBc 123) 88 = .ok (.iload 5, 2) := by decide +kernel
theorem d123_90 : decode (tBc 123) 90 = .ok (.iconst 1, 1) := by decide +kernel
theorem d123_91 : decode (tBc 123) 91 = .ok (.isub, 1) := by decide +kernel
theorem d123_92 : decode (tBc 123) 92 = .ok (.iaload, 1) := by decide +kernel
theorem d123_93 : decode (tBc 123) 93 = .ok (.iastore, 1) := by decide +kernel
theorem d123_94 : decode (tBc 123) 94 = .ok (.aload_n 0, 1) := by decide +kernel
theorem d123_95 : decode (tBc 123) 95 = .ok (.getfield 92, 3) := by decide +kernel
theorem d123_98 : decode (tBc 123) 98 = .ok (.iload 5, 2) := by decide +kernel
theorem d123_100 : decode (tBc 123) 100 = .ok (.iconst 1, 1) := by decide +kernel
theorem d123_101 : decode (tBc 123) 101 = .ok (.isub, 1) := by decide +kernel
theorem d123_102 : decode (tBc 123) 102 = .ok (.iload 6, 2) := by decide +kernel
theorem d123_104 : decode (tBc 123) 104 = .ok (.iastore, 1) := by decide +kernel
theorem d123_105 : decode (tBc 123) 105 = .ok (.aload_n 0, 1) := by decide +kernel
theorem d123_106 : decode (tBc 123) 106 = .ok (.getfield 95, 3) := by decide +kernel
theorem d123_109 : decode (tBc 123) 109 = .ok (.iload 5, 2) := by decide +kernel
theorem d123_111 : decode (tBc 123) 111 = .ok (.iconst 1, 1) := by decide +kernel
theorem d123_112 : decode (tBc 123) 112 = .ok (.isub, 1) := by decide +kernel
theorem d123_113 : decode (tBc 123) 113 = .ok (.iload 7, 2) := by decide +kernel
theorem d123_115 : decode (tBc 123) 115 = .ok (.iastore, 1) := by decide +kernel
theorem d123_116 : decode (tBc 123) 116 = .ok (.iinc 5 (-1), 3) := by decide +kernel
theorem d123_119 : decode (tBc 123) 119 = .ok (.goto (-94), 3) := by decide +kernel
theorem d123_122 : decode (tBc 123) 122 = .ok (.iinc 4 1, 3) := by decide +kernel
theorem d123_125 : decode (tBc 123) 125 = .ok (.goto (-113), 3) := by decide +kernel
theorem d123_128 : decode (tBc 123) 128 = .ok (.iconst 0, 1) := by decide +kernel
theorem d123_129 : decode (tBc 123) 129 = .ok (.istore 4, 2) := by decide +kernel
theorem d123_131 : decode (tBc 123) 131 = .ok (.iload_n 2, 1) := by decide +kernel
theorem d123_132 : decode (tBc 123) 132 = .ok (.bipush 91, 2) := by decide +kernel
theorem d123_134 : decode (tBc 123) 134 = .ok (.if_icmp .eq 14, 3) := by decide +kernel
theorem d123_137 : decode (tBc 123) 137 = .ok (.iload_n 2, 1) := by decide +kernel
theorem d123_138 : decode (tBc 123) 138 = .ok (.bipush 40, 2) := by decide +kernel
theorem d123_140 : decode (tBc 123) 140 = .ok (.if_icmp .ne 12, 3) := by decide +kernel
theorem d123_143 : decode (tBc 123) 143 = .ok (.iload_n 3, 1) := by decide +kernel
theorem d123_144 : decode (tBc 123) 144 = .ok (.iconst 1, 1) := by decide +kernel
theorem d123_145 : decode (tBc 123) 145 = .ok (.if_icmp .le 7, 3) := by decide +kernel
theorem d123_148 : decode (tBc 123) 148 = .ok (.iconst 1, 1) := by decide +kernel
theorem d123_149 : decode (tBc 123) 149 = .ok (.goto 4, 3) := by decide +kernel
theorem d123_152 : decode (tBc 123) 152 = .ok (.iconst 0, 1) := by decide +kernel
theorem d123_153 : decode (tBc 123) 153 = .ok (.istore 5, 2) := by decide +kernel
theorem d123_155 : decode (tBc 123) 155 = .ok (.iload 5, 2) := by decide +kernel
theorem d123_157 : decode (tBc 123) 157 = .ok (.ifCond .eq 12, 3) := by decide +kernel
theorem d123_160 : decode (tBc 123) 160 = .ok (.aload_n 0, 1) := by decide +kernel
theorem d123_161 : decode (tBc 123) 161 = .ok (.iload 4, 2) := by decide +kernel
theorem d123_163 : decode (tBc 123) 163 = .ok (.iload_n 2, 1) := by decide +kernel
theorem d123_164 : decode (tBc 123) 164 = .ok (.invokevirtual 255, 3) := by decide +kernel
theorem d123_167 : decode (tBc 123) 167 = .ok (.istore 4, 2) := by decide +kernel
theorem d123_169 : decode (tBc 123) 169 = .ok (.iload_n 3, 1) := by decide +kernel
theorem d123_170 : decode (tBc 123) 170 = .ok (.ifCond .ne 13, 3) := by decide +kernel
theorem d123_173 : decode (tBc 123) 173 = .ok (.aload_n 0, 1) := by decide +kernel
theorem d123_174 : decode (tBc 123) 174 = .ok (.iload 4, 2) := by decide +kernel
theorem d123_176 : decode (tBc 123) 176 = .ok (.bipush 48, 2) := by decide +kernel
theorem d123_178 : decode (tBc 123) 178 = .ok (.invokevirtual 255, 3) := by decide +kernel
theorem d123_181 : decode (tBc 123) 181 = .ok (.istore 4, 2) := by decide +kernel
theorem d123_183 : decode (tBc 123) 183 = .ok (.iload_n 1, 1) := by decide +kernel
theorem d123_184 : decode (tBc 123) 184 = .ok (.istore 6, 2) := by decide +kernel
theorem d123_186 : decode (tBc 123) 186 = .ok (.iload 6, 2) := by decide +kernel
theorem d123_188 : decode (tBc 123) 188 = .ok (.aload_n 0, 1) := by decide +kernel
theorem d123_189 : decode (tBc 123) 189 = .ok (.getfield 248, 3) := by decide +kernel
theorem d123_192 : decode (tBc 123) 192 = .ok (.if_icmp .ge 69, 3) := by decide +kernel
theorem d123_195 : decode (tBc 123) 195 = .ok (.iload 6, 2) := by decide +kernel
theorem d123_197 : decode (tBc 123) 197 = .ok (.iload_n 1, 1) := by decide +kernel
theorem d123_198 : decode (tBc 123) 198 = .ok (.if_icmp .le 13, 3) := by decide +kernel
theorem d123_201 : decode (tBc 123) 201 = .ok (.aload_n 0, 1) := by decide +kernel
theorem d123_202 : decode (tBc 123) 202 = .ok (.iload 4, 2) := by decide +kernel
theorem d123_204 : decode (tBc 123) 204 = .ok (.bipush 124, 2) := by decide +kernel
theorem d123_206 : decode (tBc 123) 206 = .ok (.invokevirtual 255, 3) := by decide +kernel
theorem d123_209 : decode (tBc 123) 209 = .ok (.istore 4, 2) := by decide +kernel
theorem d123_211 : decode (tBc 123) 211 = .ok (.iconst 0, 1) := by decide +kernel
theorem d123_212 : decode (tBc 123) 212 = .ok (.istore 7, 2) := by decide +kernel
theorem d123_214 : decode (tBc 123) 214 = .ok (.iload 7, 2) := by decide +kernel
theorem d123_216 : decode (tBc 123) 216 = .ok (.aload_n 0, 1) := by decide +kernel
theorem d123_217 : decode (tBc 123) 217 = .ok (.getfield 95, 3) := by decide +kernel
theorem d123_220 : decode (tBc 123) 220 = .ok (.iload 6, 2) := by decide +kernel
theorem d123_222 : decode (tBc 123) 222 = .ok (.iaload, 1) := by decide +kernel
theorem d123_223 : decode (tBc 123) 223 = .ok (.if_icmp .ge 32, 3) := by decide +kernel
theorem d123_226 : decode (tBc 123) 226 = .ok (.aload_n 0, 1) := by decide +kernel
theorem d123_227 : decode (tBc 123) 227 = .ok (.iload 4, 2) := by decide +kernel
theorem d123_229 : decode (tBc 123) 229 = .ok (.aload_n 0, 1) := by decide +kernel
theorem d123_230 : decode (tBc 123) 230 = .ok (.getfield 89, 3) := by decide +kernel
theorem d123_233 : decode (tBc 123) 233 = .ok (.aload_n 0, 1) := by decide +kernel
theorem d123_234 : decode (tBc 123) 234 = .ok (.getfield 92, 3) := by decide +kernel
theorem d123_237 : decode (tBc 123) 237 = .ok (.iload 6, 2) := by decide +kernel
theorem d123_239 : decode (tBc 123) 239 = .ok (.iaload, 1) := by decide +kernel
theorem d123_240 : decode (tBc 123) 240 = .ok (.iload 7, 2) := by decide +kernel
theorem d123_242 : decode (tBc 123) 242 = .ok (.iadd, 1) := by decide +kernel
theorem d123_243 : decode (tBc 123) 243 = .ok (.iaload, 1) := by decide +kernel
theorem d123_244 : decode (tBc 123) 244 = .ok (.invokevirtual 255, 3) := by decide +kernel
theorem d123_247 : decode (tBc 123) 247 = .ok (.istore 4, 2) := by decide +kernel
theorem d123_249 : decode (tBc 123) 249 = .ok (.iinc 7 1, 3) := by decide +kernel
theorem d123_252 : decode (tBc 123) 252 = .ok (.goto (-38), 3) := by decide +kernel
theorem d123_255 : decode (tBc 123) 255 = .ok (.iinc 6 1, 3) := by decide +kernel
theorem d123_258 : decode (tBc 123) 258 = .ok (.goto (-72), 3) := by decide +kernel
theorem d123_261 : decode (tBc 123) 261 = .ok (.iload 5, 2) := by decide +kernel
theorem d123_263 : decode (tBc 123) 263 = .ok (.ifCond .eq 24, 3) := by decide +kernel
theorem d123_266 : decode (tBc 123) 266 = .ok (.aload_n 0, 1) := by decide +kernel
theorem d123_267 : decode (tBc 123) 267 = .ok (.iload 4, 2) := by decide +kernel
theorem d123_269 : decode (tBc 123) 269 = .ok (.iload_n 2, 1) := by decide +kernel
theorem d123_270 : decode (tBc 123) 270 = .ok (.bipush 91, 2) := by decide +kernel
theorem d123_272 : decode (tBc 123) 272 = .ok (.if_icmp .ne 8, 3) := by decide +kernel
theorem d123_275 : decode (tBc 123) 275 = .ok (.bipush 93, 2) := by decide +kernel
theorem d123_277 : decode (tBc 123) 277 = .ok (.goto 5, 3) := by decide +kernel
theorem d123_280 : decode (tBc 123) 280 = .ok (.bipush 41, 2) := by decide +kernel
theorem d123_282 : decode (tBc 123) 282 = .ok (.invokevirtual 255, 3) := by decide +kernel
theorem d123_285 : decode (tBc 123) 285 = .ok (.istore 4, 2) := by decide +kernel
theorem d123_287 : decode (tBc 123) 287 = .ok (.aload_n 0, 1) := by decide +kernel
theorem d123_288 : decode (tBc 123) 288 = .ok (.iload_n 1, 1) := by decide +kernel
theorem d123_289 : decode (tBc 123) 289 = .ok (.putfield 248, 3) := by decide +kernel
theorem d123_292 : decode (tBc 123) 292 = .ok (.iload_n 1, 1) := by decide +kernel
theorem d123_293 : decode (tBc 123) 293 = .ok (.ifCond .le 23, 3) := by decide +kernel
theorem d123_296 : decode (tBc 123) 296 = .ok (.aload_n 0, 1) := by decide +kernel
theorem d123_297 : decode (tBc 123) 297 = .ok (.getfield 92, 3) := by decide +kernel
theorem d123_300 : decode (tBc 123) 300 = .ok (.iload_n 1, 1) := by decide +kernel
theorem d123_301 : decode (tBc 123) 301 = .ok (.iconst 1, 1) := by decide +kernel
theorem d123_302 : decode (tBc 123) 302 = .ok (.isub, 1) := by decide +kernel
theorem d123_303 : decode (tBc 123) 303 = .ok (.iaload, 1) := by decide +kernel
theorem d123_304 : decode (tBc 123) 304 = .ok (.aload_n 0, 1) := by decide +kernel
theorem d123_305 : decode (tBc 123) 305 = .ok (.getfield 135, 3) := by decide +kernel
theorem d123_308 : decode (tBc 123) 308 = .ok (.iload_n 1, 1) := by decide +kernel
theorem d123_309 : decode (tBc 123) 309 = .ok (.iconst 1, 1) := by decide +kernel
theorem d123_310 : decode (tBc 123) 310 = .ok (.isub, 1) := by decide +kernel
theorem d123_311 : decode (tBc 123) 311 = .ok (.iaload, 1) := by decide +kernel
theorem d123_312 : decode (tBc 123) 312 = .ok (.iadd, 1) := by decide +kernel
theorem d123_313 : decode (tBc 123) 313 = .ok (.goto 4, 3) := by decide +kernel
theorem d123_316 : decode (tBc 123) 316 = .ok (.iconst 0, 1) := by decide +kernel
theorem d123_317 : decode (tBc 123) 317 = .ok (.istore 6, 2) := by decide +kernel
theorem d123_319 : decode (tBc 123) 319 = .ok (.aload_n 0, 1) := by decide +kernel
theorem d123_320 : decode (tBc 123) 320 = .ok (.iload 6, 2) := by decide +kernel
theorem d123_322 : decode (tBc 123) 322 = .ok (.putfield 239, 3) := by decide +kernel
theorem d123_325 : decode (tBc 123) 325 = .ok (.iconst 0, 1) := by decide +kernel
theorem d123_326 : decode (tBc 123) 326 = .ok (.istore 7, 2) := by decide +kernel
theorem d123_328 : decode (tBc 123) 328 = .ok (.iload 7, 2) := by decide +kernel
theorem d123_330 : decode (tBc 123) 330 = .ok (.iload 4, 2) := by decide +kernel
theorem d123_332 : decode (tBc 123) 332 = .ok (.if_icmp .ge 20, 3) := by decide +kernel
theorem d123_335 : decode (tBc 123) 335 = .ok (.aload_n 0, 1) := by decide +kernel
theorem d123_336 : decode (tBc 123) 336 = .ok (.aload_n 0, 1) := by decide +kernel
theorem d123_337 : decode (tBc 123) 337 = .ok (.getfield 132, 3) := by decide +kernel
theorem d123_340 : decode (tBc 123) 340 = .ok (.iload 7, 2) := by decide +kernel
theorem d123_342 : decode (tBc 123) 342 = .ok (.iaload, 1) := by decide +kernel
theorem d123_343 : decode (tBc 123) 343 = .ok (.invokevirtual 242, 3) := by decide +kernel
theorem d123_346 : decode (tBc 123) 346 = .ok (.iinc 7 1, 3) := by decide +kernel
theorem d123_349 : decode (tBc 123) 349 = .ok (.goto (-21), 3) := by decide +kernel
theorem d123_352 : decode (tBc 123) 352 = .ok (.iload_n 1, 1) := by decide +kernel
theorem d123_353 : decode (tBc 123) 353 = .ok (.ifCond .le 27, 3) := by decide +kernel
theorem d123_356 : decode (tBc 123) 356 = .ok (.aload_n 0, 1) := by decide +kernel
theorem d123_357 : decode (tBc 123) 357 = .ok (.getfield 95, 3) := by decide +kernel
theorem d123_360 : decode (tBc 123) 360 = .ok (.iload_n 1, 1) := by decide +kernel
theorem d123_361 : decode (tBc 123) 361 = .ok (.iconst 1, 1) := by decide +kernel
theorem d123_362 : decode (tBc 123) 362 = .ok (.isub, 1) := by decide +kernel
theorem d123_363 : decode (tBc 123) 363 = .ok (.aload_n 0, 1) := by decide +kernel
theorem d123_364 : decode (tBc 123) 364 = .ok (.getfield 239, 3) := by decide +kernel
theorem d123_367 : decode (tBc 123) 367 = .ok (.aload_n 0, 1) := by decide +kernel
theorem d123_368 : decode (tBc 123) 368 = .ok (.getfield 92, 3) := by decide +kernel
theorem d123_371 : decode (tBc 123) 371 = .ok (.iload_n 1, 1) := by decide +kernel
theorem d123_372 : decode (tBc 123) 372 = .ok (.iconst 1, 1) := by decide +kernel
theorem d123_373 : decode (tBc 123) 373 = .ok (.isub, 1) := by decide +kernel
theorem d123_374 : decode (tBc 123) 374 = .ok (.iaload, 1) := by decide +kernel
theorem d123_375 : decode (tBc 123) 375 = .ok (.isub, 1) := by decide +kernel
theorem d123_376 : decode (tBc 123) 376 = .ok (.iastore, 1) := by decide +kernel
theorem d123_377 : decode (tBc 123) 377 = .ok (.goto 11, 3) := by decide +kernel
theorem d123_380 : decode (tBc 123) 380 = .ok (.aload_n 0, 1) := by decide +kernel
theorem d123_381 : decode (tBc 123) 381 = .ok (.aload_n 0, 1) := by decide +kernel
theorem d123_382 : decode (tBc 123) 382 = .ok (.getfield 239, 3) := by decide +kernel
theorem d123_385 : decode (tBc 123) 385 = .ok (.putfield 219, 3) := by decide +kernel
theorem d123_388 : decode (tBc 123) 388 = .ok (.return_, 1) := by decide +kernel
theorem d124_0 : decode (tBc 124) 0 = .ok (.iconst 0, 1) := by decide +kernel
theorem d124_1 : decode (tBc 124) 1 = .ok (.istore_n 3, 1) := by decide +kernel
theorem d124_2 : decode (tBc 124) 2 = .ok (.iload_n 3, 1) := by decide +kernel
theorem d124_3 : decode (tBc 124) 3 = .ok (.aload_n 0, 1) := by decide +kernel
theorem d124_4 : decode (tBc 124) 4 = .ok (.getfield 95, 3) := by decide +kernel
theorem d124_7 : decode (tBc 124) 7 = .ok (.iload_n 1, 1) := by decide +kernel
theorem d124_8 : decode (tBc 124) 8 = .ok (.iaload, 1) := by decide +kernel
theorem d124_9 : decode (tBc 124) 9 = .ok (.if_icmp .ge 69, 3) := by decide +kernel
theorem d124_12 : decode (tBc 124) 12 = .ok (.iload_n 3, 1) := by decide +kernel
theorem d124_13 : decode (tBc 124) 13 = .ok (.aload_n 0, 1) := by decide +kernel
theorem d124_14 : decode (tBc 124) 14 = .ok (.getfield 95, 3) := by decide +kernel
theorem d124_17 : decode (tBc 124) 17 = .ok (.iload_n 2, 1) := by decide +kernel
theorem d124_18 : decode (tBc 124) 18 = .ok (.iaload, 1) := by decide +kernel
theorem d124_19 : decode (tBc 124) 19 = .ok (.if_icmp .ge 59, 3) := by decide +kernel
theorem d124_22 : decode (tBc 124) 22 = .ok (.aload_n 0, 1) := by decide +kernel
theorem d124_23 : decode (tBc 124) 23 = .ok (.getfield 89, 3) := by decide +kernel
theorem d124_26 : decode (tBc 124) 26 = .ok (.aload_n 0, 1) := by decide +kernel
theorem d124_27 : decode (tBc 124) 27 = .ok (.getfield 92, 3) := by decide +kernel
theorem d124_30 : decode (tBc 124) 30 = .ok (.iload_n 1, 1) := by decide +kernel
theorem d124_31 : decode (tBc 124) 31 = .ok (.iaload, 1) := by decide +kernel
theorem d124_32 : decode (tBc 124) 32 = .ok (.iload_n 3, 1) := by decide +kernel
theorem d124_33 : decode (tBc 124) 33 = .ok (.iadd, 1) := by decide +kernel
theorem d124_34 : decode (tBc 124) 34 = .ok (.iaload, 1) := by decide +kernel
theorem d124_35 : decode (tBc 124) 35 = .ok (.istore 4, 2) := by decide +kernel
theorem d124_37 : decode (tBc 124) 37 = .ok (.aload_n 0, 1) := by decide +kernel
theorem d124_38 : decode (tBc 124) 38 = .ok (.getfield 89, 3) := by decide +kernel
theorem d124_41 : decode (tBc 124) 41 = .ok (.aload_n 0, 1) := by decide +kernel
theorem d124_42 : decode (tBc 124) 42 = .ok (.getfield 92, 3) := by decide +kernel
theorem d124_45 : decode (tBc 124) 45 = .ok (.iload_n 2, 1) := by decide +kernel
theorem d124_46 : decode (tBc 124) 46 = .ok (.iaload, 1) := by decide +kernel
theorem d124_47 : decode (tBc 124) 47 = .ok (.iload_n 3, 1) := by decide +kernel
theorem d124_48 : decode (tBc 124) 48 = .ok (.iadd, 1) := by decide +kernel
theorem d124_49 : decode (tBc 124) 49 = .ok (.iaload, 1) := by decide +kernel
theorem d124_50 : decode (tBc 124) 50 = .ok (.istore 5, 2) := by decide +kernel
theorem d124_52 : decode (tBc 124) 52 = .ok (.iload 4, 2) := by decide +kernel
theorem d124_54 : decode (tBc 124) 54 = .ok (.iload 5, 2) := by decide +kernel
theorem d124_56 : decode (tBc 124) 56 = .ok (.if_icmp .eq 16, 3) := by decide +kernel
theorem d124_59 : decode (tBc 124) 59 = .ok (.iload 4, 2) := by decide +kernel
theorem d124_61 : decode (tBc 124) 61 = .ok (.iload 5, 2) := by decide +kernel
theorem d124_63 : decode (tBc 124) 63 = .ok (.if_icmp .ge 7, 3) := by decide +kernel
theorem d124_66 : decode (tBc 124) 66 = .ok (.iconst 1, 1) := by decide +kernel
theorem d124_67 : decode (tBc 124) 67 = .ok (.goto 4, 3) := by decide +kernel
theorem d124_70 : decode (tBc 124) 70 = .ok (.iconst 0, 1) := by decide +kernel
theorem d124_71 : decode (tBc 124) 71 = .ok (.ireturn, 1) := by decide +kernel
theorem d124_72 : decode (tBc 124) 72 = .ok (.iinc 3 1, 3) := by decide +kernel
theorem d124_75 : decode (tBc 124) 75 = .ok (.goto (-73), 3) := by decide +kernel
theorem d124_78 : decode (tBc 124) 78 = .ok (.aload_n 0, 1) := by decide +kernel
theorem d124_79 : decode (tBc 124) 79 = .ok (.getfield 95, 3) := by decide +kernel
theorem d124_82 : decode (tBc 124) 82 = .ok (.iload_n 1, 1) := by decide +kernel
theorem d124_83 : decode (tBc 124) 83 = .ok (.iaload, 1) := by decide +kernel
theorem d124_84 : decode (tBc 124) 84 = .ok (.aload_n 0, 1) := by decide +kernel
theorem d124_85 : decode (tBc 124) 85 = .ok (.getfield 95, 3) := by decide +kernel
theorem d124_88 : decode (tBc 124) 88 = .ok (.iload_n 2, 1) := by decide +kernel
theorem d124_89 : decode (tBc 124) 89 = .ok (.iaload, 1) := by decide +kernel
theorem d124_90 : decode (tBc 124) 90 = .ok (.if_icmp .ge 7, 3) := by decide +kernel
theorem d124_93 : decode (tBc 124) 93 = .ok (.iconst 1, 1) := by decide +kernel
theorem d124_94 : decode (tBc 124) 94 = .ok (.goto 4, 3) := by decide +kernel
theorem d124_97 : decode (tBc 124) 97 = .ok (.iconst 0, 1) := by decide +kernel
theorem d124_98 : decode (tBc 124) 98 = .ok (.ireturn, 1) := by decide +kernel
theorem d125_0 : decode (tBc 125) 0 = .ok (.iload_n 1, 1) := by decide +kernel
theorem d125_1 : decode (tBc 125) 1 = .ok (.sipush 700, 3) := by decide +kernel
theorem d125_4 : decode (tBc 125) 4 = .ok (.if_icmp .ge 10, 3) := by decide +kernel
theorem d125_7 : decode (tBc 125) 7 = .ok (.aload_n 0, 1) := by decide +kernel
theorem d125_8 : decode (tBc 125) 8 = .ok (.getfield 132, 3) := by decide +kernel
theorem d125_11 : decode (tBc 125) 11 = .ok (.iload_n 1, 1) := by decide +kernel
theorem d125_12 : decode (tBc 125) 12 = .ok (.iload_n 2, 1) := by decide +kernel
theorem d125_13 : decode (tBc 125) 13 = .ok (.iastore, 1) := by decide +kernel
theorem d125_14 : decode (tBc 125) 14 = .ok (.iload_n 1, 1) := by decide +kernel
theorem d125_15 : decode (tBc 125) 15 = .ok (.sipush 700, 3) := by decide +kernel
theorem d125_18 : decode (tBc 125) 18 = .ok (.if_icmp .ge 9, 3) := by decide +kernel
theorem d125_21 : decode (tBc 125) 21 = .ok (.iload_n 1, 1) := by decide +kernel
theorem d125_22 : decode (tBc 125) 22 = .ok (.iconst 1, 1) := by decide +kernel
theorem d125_23 : decode (tBc 125) 23 = .ok (.iadd, 1) := by decide +kernel
theorem d125_24 : decode (tBc 125) 24 = .ok (.goto 4, 3) := by decide +kernel
theorem d125_27 : decode (tBc 125) 27 = .ok (.iload_n 1, 1) := by decide +kernel
theorem d125_28 : decode (tBc 125) 28 = .ok (.ireturn, 1) := by decide +kernel
theorem d126_0 : decode (tBc 126) 0 = .ok (.aload_n 0, 1) := by decide +kernel
theorem d126_1 : decode (tBc 126) 1 = .ok (.getfield 104, 3) := by decide +kernel
theorem d126_4 : decode (tBc 126) 4 = .ok (.iload_n 1, 1) := by decide +kernel
theorem d126_5 : decode (tBc 126) 5 = .ok (.iaload, 1) := by decide +kernel
theorem d126_6 : decode (tBc 126) 6 = .ok (.istore_n 2, 1) := by decide +kernel
theorem d126_7 : decode (tBc 126) 7 = .ok (.iload_n 2, 1) := by decide +kernel
theorem d126_8 : decode (tBc 126) 8 = .ok (.ifCond .ge 41, 3) := by decide +kernel
theorem d126_11 : decode (tBc 126) 11 = .ok (.aload_n 0, 1) := by decide +kernel
theorem d126_12 : decode (tBc 126) 12 = .ok (.dup, 1) := by decide +kernel
theorem d126_13 : decode (tBc 126) 13 = .ok (.getfield 245, 3) := by decide +kernel
theorem d126_16 : decode (tBc 126) 16 = .ok (.iconst 1, 1) := by decide +kernel
theorem d126_17 : decode (tBc 126) 17 = .ok (.isub, 1) := by decide +kernel
theorem d126_18 : decode (tBc 126) 18 = .ok (.putfield 245, 3) := by decide +kernel
theorem d126_21 : decode (tBc 126) 21 = .ok (.aload_n 0, 1) := by decide +kernel
theorem d126_22 : decode (tBc 126) 22 = .ok (.aload_n 0, 1) := by decide +kernel
theorem d126_23 : decode (tBc 126) 23 = .ok (.getfield 107, 3) := by decide +kernel
theorem d126_26 : decode (tBc 126) 26 = .ok (.iload_n 1, 1) := by decide +kernel
theorem d126_27 : decode (tBc 126) 27 = .ok (.iaload, 1) := by decide +kernel
theorem d126_28 : decode (tBc 126) 28 = .ok (.aload_n 0, 1) := by decide +kernel
theorem d126_29 : decode (tBc 126) 29 = .ok (.getfield 98, 3) := by decide +kernel
theorem d126_32 : decode (tBc 126) 32 = .ok (.iload_n 1, 1) := by decide +kernel
theorem d126_33 : decode (tBc 126) 33 = .ok (.iaload, 1) := by decide +kernel
theorem d126_34 : decode (tBc 126) 34 = .ok (.iconst 1, 1) := by decide +kernel
theorem d126_35 : decode (tBc 126) 35 = .ok (.if_icmp .ne 8, 3) := by decide +kernel
theorem d126_38 : decode (tBc 126) 38 = .ok (.bipush 40, 2) := by decide +kernel
theorem d126_40 : decode (tBc 126) 40 = .ok (.goto 5, 3) := by decide +kernel
theorem d126_43 : decode (tBc 126) 43 = .ok (.bipush 91, 2) := by decide +kernel
theorem d126_45 : decode (tBc 126) 45 = .ok (.invokevirtual 283, 3) := by decide +kernel
theorem d126_48 : decode (tBc 126) 48 = .ok (.return_, 1) := by decide +kernel
theorem d126_49 : decode (tBc 126) 49 = .ok (.aload_n 0, 1) := by decide +kernel
theorem d126_50 : decode (tBc 126) 50 = .ok (.getfield 104, 3) := by decide +kernel
theorem d126_53 : decode (tBc 126) 53 = .ok (.iload_n 1, 1) := by decide +kernel
theorem d126_54 : decode (tBc 126) 54 = .ok (.aload_n 0, 1) := by decide +kernel
theorem d126_55 : decode (tBc 126) 55 = .ok (.getfield 32, 3) := by decide +kernel
theorem d126_58 : decode (tBc 126) 58 = .ok (.iload_n 2, 1) := by decide +kernel
theorem d126_59 : decode (tBc 126) 59 = .ok (.iaload, 1) := by decide +kernel
theorem d126_60 : decode (tBc 126) 60 = .ok (.iastore, 1) := by decide +kernel
theorem d126_61 : decode (tBc 126) 61 = .ok (.aload_n 0, 1) := by decide +kernel
theorem d126_62 : decode (tBc 126) 62 = .ok (.getfield 62, 3) := by decide +kernel
theorem d126_65 : decode (tBc 126) 65 = .ok (.aload_n 0, 1) := by decide +kernel
theorem d126_66 : decode (tBc 126) 66 = .ok (.getfield 274, 3) := by decide +kernel
theorem d126_69 : decode (tBc 126) 69 = .ok (.iaload, 1) := by decide +kernel
theorem d126_70 : decode (tBc 126) 70 = .ok (.istore_n 3, 1) := by decide +kernel
theorem d126_71 : decode (tBc 126) 71 = .ok (.aload_n 0, 1) := by decide +kernel
theorem d126_72 : decode (tBc 126) 72 = .ok (.getfield 110, 3) := by decide +kernel
theorem d126_75 : decode (tBc 126) 75 = .ok (.iload_n 1, 1) := by decide +kernel
theorem d126_76 : decode (tBc 126) 76 = .ok (.iaload, 1) := by decide +kernel
theorem d126_77 : decode (tBc 126) 77 = .ok (.istore 4, 2) := by decide +kernel
theorem d126_79 : decode (tBc 126) 79 = .ok (.aload_n 0, 1) := by decide +kernel
theorem d126_80 : decode (tBc 126) 80 = .ok (.getfield 16, 3) := by decide +kernel
theorem d126_83 : decode (tBc 126) 83 = .ok (.iload_n 2, 1) := by decide +kernel
theorem d126_84 : decode (tBc 126) 84 = .ok (.iaload, 1) := by decide +kernel
theorem d126_85 : decode (tBc 126) 85 = .ok (.ifCond .ne 41, 3) := by decide +kernel
theorem d126_88 : decode (tBc 126) 88 = .ok (.aload_n 0, 1) := by decide +kernel
theorem d126_89 : decode (tBc 126) 89 = .ok (.invokevirtual 258, 3) := by decide +kernel
theorem d126_92 : decode (tBc 126) 92 = .ok (.aload_n 0, 1) := by decide +kernel
theorem d126_93 : decode (tBc 126) 93 = .ok (.aload_n 0, 1) := by decide +kernel
theorem d126_94 : decode (tBc 126) 94 = .ok (.getfield 23, 3) := by decide +kernel
theorem d126_97 : decode (tBc 126) 97 = .ok (.iload_n 2, 1) := by decide +kernel
theorem d126_98 : decode (tBc 126) 98 = .ok (.iaload, 1) := by decide +kernel
theorem d126_99 : decode (tBc 126) 99 = .ok (.iload_n 3, 1) := by decide +kernel
theorem d126_100 : decode (tBc 126) 100 = .ok (.iload 4, 2) := by decide +kernel
theorem d126_102 : decode (tBc 126) 102 = .ok (.invokevirtual 264, 3) := by decide +kernel
theorem d126_105 : decode (tBc 126) 105 = .ok (.aload_n 0, 1) := by decide +kernel
theorem d126_106 : decode (tBc 126) 106 = .ok (.invokevirtual 267, 3) := by decide +kernel
theorem d126_109 : decode (tBc 126) 109 = .ok (.aload_n 0, 1) := by decide +kernel
theorem d126_110 : decode (tBc 126) 110 = .ok (.iconst 2, 1) := by decide +kernel
theorem d126_111 : decode (tBc 126) 111 = .ok (.iload_n 2, 1) := by decide +kernel
theorem d126_112 : decode (tBc 126) 112 = .ok (.aload_n 0, 1) := by decide +kernel
theorem d126_113 : decode (tBc 126) 113 = .ok (.getfield 26, 3) := by decide +kernel
theorem d126_116 : decode (tBc 126) 116 = .ok (.iload_n 2, 1) := by decide +kernel
theorem d126_117 : decode (tBc 126) 117 = .ok (.iaload, 1) := by decide +kernel
theorem d126_118 : decode (tBc 126) 118 = .ok (.iload 4, 2) := by decide +kernel
theorem d126_120 : decode (tBc 126) 120 = .ok (.invokevirtual 270, 3) := by decide +kernel
theorem d126_123 : decode (tBc 126) 123 = .ok (.goto 37, 3) := by decide +kernel
theorem d126_126 : decode (tBc 126) 126 = .ok (.aload_n 0, 1) := by decide +kernel
theorem d126_127 : decode (tBc 126) 127 = .ok (.getfield 16, 3) := by decide +kernel
theorem d126_130 : decode (tBc 126) 130 = .ok (.iload_n 2, 1) := by decide +kernel
theorem d126_131 : decode (tBc 126) 131 = .ok (.iaload, 1) := by decide +kernel
theorem d126_132 : decode (tBc 126) 132 = .ok (.iconst 1, 1) := by decide +kernel
theorem d126_133 : decode (tBc 126) 133 = .ok (.if_icmp .ne 19, 3) := by decide +kernel
theorem d126_136 : decode (tBc 126) 136 = .ok (.aload_n 0, 1) := by decide +kernel
theorem d126_137 : decode (tBc 126) 137 = .ok (.aload_n 0, 1) := by decide +kernel
theorem d126_138 : decode (tBc 126) 138 = .ok (.getfield 23, 3) := by decide +kernel
theorem d126_141 : decode (tBc 126) 141 = .ok (.iload_n 2, 1) := by decide +kernel
theorem d126_142 : decode (tBc 126) 142 = .ok (.iaload, 1) := by decide +kernel
theorem d126_143 : decode (tBc 126) 143 = .ok (.iload_n 3, 1) := by decide +kernel
theorem d126_144 : decode (tBc 126) 144 = .ok (.iload 4, 2) := by decide +kernel
theorem d126_146 : decode (tBc 126) 146 = .ok (.invokevirtual 280, 3) := by decide +kernel
theorem d126_149 : decode (tBc 126) 149 = .ok (.goto 11, 3) := by decide +kernel
theorem d126_152 : decode (tBc 126) 152 = .ok (.aload_n 0, 1) := by decide +kernel
theorem d126_153 : decode (tBc 126) 153 = .ok (.iload_n 2, 1) := by decide +kernel
theorem d126_154 : decode (tBc 126) 154 = .ok (.iload_n 3, 1) := by decide +kernel
theorem d126_155 : decode (tBc 126) 155 = .ok (.iload 4, 2) := by decide +kernel
theorem d126_157 : decode (tBc 126) 157 = .ok (.invokevirtual 277, 3) := by decide +kernel
theorem d126_160 : decode (tBc 126) 160 = .ok (.return_, 1) := by decide +kernel
theorem d127_0 : decode (tBc 127) 0 = .ok (.iconst 0, 1) := by decide +kernel
theorem d127_1 : decode (tBc 127) 1 = .ok (.istore_n 1, 1) := by decide +kernel
theorem d127_2 : decode (tBc 127) 2 = .ok (.iload_n 1, 1) := by decide +kernel
theorem d127_3 : decode (tBc 127) 3 = .ok (.bipush 40, 2) := by decide +kernel
theorem d127_5 : decode (tBc 127) 5 = .ok (.if_icmp .ge 122, 3) := by decide +kernel
theorem d127_8 : decode (tBc 127) 8 = .ok (.iconst 1, 1) := by decide +kernel
theorem d127_9 : decode (tBc 127) 9 = .ok (.istore_n 2, 1) := by decide +kernel
theorem d127_10 : decode (tBc 127) 10 = .ok (.iload_n 2, 1) := by decide +kernel
theorem d127_11 : decode (tBc 127) 11 = .ok (.bipush 51, 2) := by decide +kernel
theorem d127_13 : decode (tBc 127) 13 = .ok (.if_icmp .ge 108, 3) := by decide +kernel
theorem d127_16 : decode (tBc 127) 16 = .ok (.aload_n 0, 1) := by decide +kernel
theorem d127_17 : decode (tBc 127) 17 = .ok (.getfield 77, 3) := by decide +kernel
theorem d127_20 : decode (tBc 127) 20 = .ok (.iload_n 1, 1) := by decide +kernel
theorem d127_21 : decode (tBc 127) 21 = .ok (.iaload, 1) := by decide +kernel
theorem d127_22 : decode (tBc 127) 22 = .ok (.aload_n 0, 1) := by decide +kernel
theorem d127_23 : decode (tBc 127) 23 = .ok (.getfield 53, 3) := by decide +kernel
theorem d127_26 : decode (tBc 127) 26 = .ok (.iload_n 1, 1) := by decide +kernel
theorem d127_27 : decode (tBc 127) 27 = .ok (.iaload, 1) := by decide +kernel
theorem d127_28 : decode (tBc 127) 28 = .ok (.if_icmp .ne 35, 3) := by decide +kernel
theorem d127_31 : decode (tBc 127) 31 = .ok (.aload_n 0, 1) := by decide +kernel
theorem d127_32 : decode (tBc 127) 32 = .ok (.getfield 80, 3) := by decide +kernel
theorem d127_35 : decode (tBc 127) 35 = .ok (.iload_n 2, 1) := by decide +kernel
theorem d127_36 : decode (tBc 127) 36 = .ok (.iaload, 1) := by decide +kernel
theorem d127_37 : decode (tBc 127) 37 = .ok (.aload_n 0, 1) := by decide +kernel
theorem d127_38 : decode (tBc 127) 38 = .ok (.iload_n 2, 1) := by decide +kernel
theorem d127_39 : decode (tBc 127) 39 = .ok (.invokevirtual 292, 3) := by decide +kernel
theorem d127_42 : decode (tBc 127) 42 = .ok (.if_icmp .ne 21, 3) := by decide +kernel
theorem d127_45 : decode (tBc 127) 45 = .ok (.aload_n 0, 1) := by decide +kernel
theorem d127_46 : decode (tBc 127) 46 = .ok (.getfield 74, 3) := by decide +kernel
theorem d127_49 : decode (tBc 127) 49 = .ok (.bipush 51, 2) := by decide +kernel
theorem d127_51 : decode (tBc 127) 51 = .ok (.iload_n 1, 1) := by decide +kernel
theorem d127_52 : decode (tBc 127) 52 = .ok (.imul, 1) := by decide +kernel
theorem d127_53 : decode (tBc 127) 53 = .ok (.iload_n 2, 1) := by decide +kernel
theorem d127_54 : decode (tBc 127) 54 = .ok (.iadd, 1) := by decide +kernel
theorem d127_55 : decode (tBc 127) 55 = .ok (.iaload, 1) := by decide +kernel
theorem d127_56 : decode (tBc 127) 56 = .ok (.ifCond .lt 7, 3) := by decide +kernel
theorem d127_59 : decode (tBc 127) 59 = .ok (.iconst 1, 1) := by decide +kernel
theorem d127_60 : decode (tBc 127) 60 = .ok (.goto 4, 3) := by decide +kernel
theorem d127_63 : decode (tBc 127) 63 = .ok (.iconst 0, 1) := by decide +kernel
theorem d127_64 : decode (tBc 127) 64 = .ok (.istore_n 3, 1) := by decide +kernel
theorem d127_65 : decode (tBc 127) 65 = .ok (.aload_n 0, 1) := by decide +kernel
theorem d127_66 : decode (tBc 127) 66 = .ok (.iload_n 1, 1) := by decide +kernel
theorem d127_67 : decode (tBc 127) 67 = .ok (.iload_n 2, 1) := by decide +kernel
theorem d127_68 : decode (tBc 127) 68 = .ok (.invokevirtual 301, 3) := by decide +kernel
theorem d127_71 : decode (tBc 127) 71 = .ok (.istore 4, 2) := by decide +kernel
theorem d127_73 : decode (tBc 127) 73 = .ok (.aload_n 0, 1) := by decide +kernel
theorem d127_74 : decode (tBc 127) 74 = .ok (.getfield 74, 3) := by decide +kernel
theorem d127_77 : decode (tBc 127) 77 = .ok (.bipush 51, 2) := by decide +kernel
theorem d127_79 : decode (tBc 127) 79 = .ok (.iload_n 1, 1) := by decide +kernel
theorem d127_80 : decode (tBc 127) 80 = .ok (.imul, 1) := by decide +kernel
theorem d127_81 : decode (tBc 127) 81 = .ok (.iload_n 2, 1) := by decide +kernel
theorem d127_82 : decode (tBc 127) 82 = .ok (.iadd, 1) := by decide +kernel
theorem d127_83 : decode (tBc 127) 83 = .ok (.iload 4, 2) := by decide +kernel
theorem d127_85 : decode (tBc 127) 85 = .ok (.ifCond .ne 7, 3) := by decide +kernel
theorem d127_88 : decode (tBc 127) 88 = .ok (.iconst (-1), 1) := by decide +kernel
theorem d127_89 : decode (tBc 127) 89 = .ok (.goto 25, 3) := by decide +kernel
theorem d127_92 : decode (tBc 127) 92 = .ok (.iload_n 3, 1) := by decide +kernel
theorem d127_93 : decode (tBc 127) 93 = .ok (.ifCond .eq 17, 3) := by decide +kernel
theorem d127_96 : decode (tBc 127) 96 = .ok (.aload_n 0, 1) := by decide +kernel
theorem d127_97 : decode (tBc 127) 97 = .ok (.getfield 74, 3) := by decide +kernel
theorem d127_100 : decode (tBc 127) 100 = .ok (.bipush 51, 2) := by decide +kernel
theorem d127_102 : decode (tBc 127) 102 = .ok (.iload_n 1, 1) := by decide +kernel
theorem d127_103 : decode (tBc 127) 103 = .ok (.imul, 1) := by decide +kernel
theorem d127_104 : decode (tBc 127) 104 = .ok (.iload_n 2, 1) := by decide +kernel
theorem d127_105 : decode (tBc 127) 105 = .ok (.iadd, 1) := by decide +kernel
theorem d127_106 : decode (tBc 127) 106 = .ok (.iaload, 1) := by decide +kernel
theorem d127_107 : decode (tBc 127) 107 = .ok (.goto 7, 3) := by decide +kernel
theorem d127_110 : decode (tBc 127) 110 = .ok (.aload_n 0, 1) := by decide +kernel
theorem d127_111 : decode (tBc 127) 111 = .ok (.getfield 212, 3) := by decide +kernel
theorem d127_114 : decode (tBc 127) 114 = .ok (.iastore, 1) := by decide +kernel
theorem d127_115 : decode (tBc 127) 115 = .ok (.iinc 2 1, 3) := by decide +kernel
theorem d127_118 : decode (tBc 127) 118 = .ok (.goto (-108), 3) := by decide +kernel
theorem d127_121 : decode (tBc 127) 121 = .ok (.iinc 1 1, 3) := by decide +kernel
theorem d127_124 : decode (tBc 127) 124 = .ok (.goto (-122), 3) := by decide +kernel
theorem d127_127 : decode (tBc 127) 127 = .ok (.iconst 0, 1) := by decide +kernel
theorem d127_128 : decode (tBc 127) 128 = .ok (.istore_n 1, 1) := by decide +kernel
theorem d127_129 : decode (tBc 127) 129 = .ok (.iload_n 1, 1) := by decide +kernel
theorem d127_130 : decode (tBc 127) 130 = .ok (.bipush 40, 2) := by decide +kernel
theorem d127_132 : decode (tBc 127) 132 = .ok (.if_icmp .ge 21, 3) := by decide +kernel
theorem d127_135 : decode (tBc 127) 135 = .ok (.aload_n 0, 1) := by decide +kernel
theorem d127_136 : decode (tBc 127) 136 = .ok (.getfield 77, 3) := by decide +kernel
theorem d127_139 : decode (tBc 127) 139 = .ok (.iload_n 1, 1) := by decide +kernel
theorem d127_140 : decode (tBc 127) 140 = .ok (.aload_n 0, 1) := by decide +kernel
theorem d127_141 : decode (tBc 127) 141 = .ok (.getfield 53, 3) := by decide +kernel
theorem d127_144 : decode (tBc 127) 144 = .ok (.iload_n 1, 1) := by decide +kernel
theorem d127_145 : decode (tBc 127) 145 = .ok (.iaload, 1) := by decide +kernel
theorem d127_146 : decode (tBc 127) 146 = .ok (.iastore, 1) := by decide +kernel
theorem d127_147 : decode (tBc 127) 147 = .ok (.iinc 1 1, 3) := by decide +kernel
theorem d127_150 : decode (tBc 127) 150 = .ok (.goto (-21), 3) := by decide +kernel
theorem d127_153 : decode (tBc 127) 153 = .ok (.iconst 1, 1) := by decide +kernel
theorem d127_154 : decode (tBc 127) 154 = .ok (.istore_n 1, 1) := by decide +kernel
theorem d127_155 : decode (tBc 127) 155 = .ok (.iload_n 1, 1) := by decide +kernel
theorem d127_156 : decode (tBc 127) 156 = .ok (.bipush 51, 2) := by decide +kernel
theorem d127_158 : decode (tBc 127) 158 = .ok (.if_icmp .ge 20, 3) := by decide +kernel
theorem d127_161 : decode (tBc 127) 161 = .ok (.aload_n 0, 1) := by decide +kernel
theorem d127_162 : decode (tBc 127) 162 = .ok (.getfield 80, 3) := by decide +kernel
theorem d127_165 : decode (tBc 127) 165 = .ok (.iload_n 1, 1) := by decide +kernel
theorem d127_166 : decode (tBc 127) 166 = .ok (.aload_n 0, 1) := by decide +kernel
theorem d127_167 : decode (tBc 127) 167 = .ok (.iload_n 1, 1) := by decide +kernel
theorem d127_168 : decode (tBc 127) 168 = .ok (.invokevirtual 292, 3) := by decide +kernel
theorem d127_171 : decode (tBc 127) 171 = .ok (.iastore, 1) := by decide +kernel
theorem d127_172 : decode (tBc 127) 172 = .ok (.iinc 1 1, 3) := by decide +kernel
theorem d127_175 : decode (tBc 127) 175 = .ok (.goto (-20), 3) := by decide +kernel
theorem d127_178 : decode (tBc 127) 178 = .ok (.return_, 1) := by decide +kernel
theorem d128_0 : decode (tBc 128) 0 = .ok (.iload_n 1, 1) := by decide +kernel
theorem d128_1 : decode (tBc 128) 1 = .ok (.bipush 21, 2) := by decide +kernel
theorem d128_3 : decode (tBc 128) 3 = .ok (.if_icmp .ge 12, 3) := by decide +kernel
theorem d128_6 : decode (tBc 128) 6 = .ok (.aload_n 0, 1) := by decide +kernel
theorem d128_7 : decode (tBc 128) 7 = .ok (.getfield 44, 3) := by decide +kernel
theorem d128_10 : decode (tBc 128) 10 = .ok (.iload_n 1, 1) := by decide +kernel
theorem d128_11 : decode (tBc 128) 11 = .ok (.iaload, 1) := by decide +kernel
theorem d128_12 : decode (tBc 128) 12 = .ok (.goto 12, 3) := by decide +kernel
theorem d128_15 : decode (tBc 128) 15 = .ok (.aload_n 0, 1) := by decide +kernel
theorem d128_16 : decode (tBc 128) 16 = .ok (.getfield 65, 3) := by decide +kernel
theorem d128_19 : decode (tBc 128) 19 = .ok (.iload_n 1, 1) := by decide +kernel
theorem d128_20 : decode (tBc 128) 20 = .ok (.bipush 21, 2) := by decide +kernel
theorem d128_22 : decode (tBc 128) 22 = .ok (.isub, 1) := by decide +kernel
theorem d128_23 : decode (tBc 128) 23 = .ok (.iaload, 1) := by decide +kernel
theorem d128_24 : decode (tBc 128) 24 = .ok (.ireturn, 1) := by decide +kernel
theorem d129_0 : decode (tBc 129) 0 = .ok (.aload_n 0, 1) := by decide +kernel
theorem d129_1 : decode (tBc 129) 1 = .ok (.getfield 53, 3) := by decide +kernel
theorem d129_4 : decode (tBc 129) 4 = .ok (.iload_n 1, 1) := by decide +kernel
theorem d129_5 : decode (tBc 129) 5 = .ok (.iaload, 1) := by decide +kernel
theorem d129_6 : decode (tBc 129) 6 = .ok (.ifCond .lt 11, 3) := by decide +kernel
theorem d129_9 : decode (tBc 129) 9 = .ok (.aload_n 0, 1) := by decide +kernel
theorem d129_10 : decode (tBc 129) 10 = .ok (.iload_n 2, 1) := by decide +kernel
theorem d129_11 : decode (tBc 129) 11 = .ok (.invokevirtual 292, 3) := by decide +kernel
theorem d129_14 : decode (tBc 129) 14 = .ok (.ifCond .ge 5, 3) := by decide +kernel
theorem d129_17 : decode (tBc 129) 17 = .ok (.iconst 0, 1) := by decide +kernel
theorem d129_18 : decode (tBc 129) 18 = .ok (.ireturn, 1) := by decide +kernel
theorem d129_19 : decode (tBc 129) 19 = .ok (.aload_n 0, 1) := by decide +kernel
theorem d129_20 : decode (tBc 129) 20 = .ok (.getfield 56, 3) := by decide +kernel
theorem d129_23 : decode (tBc 129) 23 = .ok (.iload_n 1, 1) := by decide +kernel
theorem d129_24 : decode (tBc 129) 24 = .ok (.iaload, 1) := by decide +kernel
theorem d129_25 : decode (tBc 129) 25 = .ok (.istore_n 3, 1) := by decide +kernel
theorem d129_26 : decode (tBc 129) 26 = .ok (.aload_n 0, 1) := by decide +kernel
theorem d129_27 : decode (tBc 129) 27 = .ok (.getfield 59, 3) := by decide +kernel
theorem d129_30 : decode (tBc 129) 30 = .ok (.iload_n 1, 1) := by decide +kernel
theorem d129_31 : decode (tBc 129) 31 = .ok (.iaload, 1) := by decide +kernel
theorem d129_32 : decode (tBc 129) 32 = .ok (.istore 4, 2) := by decide +kernel
theorem d129_34 : decode (tBc 129) 34 = .ok (.aload_n 0, 1) := by decide +kernel
theorem d129_35 : decode (tBc 129) 35 = .ok (.getfield 16, 3) := by decide +kernel
theorem d129_38 : decode (tBc 129) 38 = .ok (.iload_n 3, 1) := by decide +kernel
theorem d129_39 : decode (tBc 129) 39 = .ok (.iaload, 1) := by decide +kernel
theorem d129_40 : decode (tBc 129) 40 = .ok (.iconst 5, 1) := by decide +kernel
theorem d129_41 : decode (tBc 129) 41 = .ok (.if_icmp .ne 29, 3) := by decide +kernel
theorem d129_44 : decode (tBc 129) 44 = .ok (.iload_n 2, 1) := by decide +kernel
theorem d129_45 : decode (tBc 129) 45 = .ok (.bipush 21, 2) := by decide +kernel
theorem d129_47 : decode (tBc 129) 47 = .ok (.if_icmp .lt 21, 3) := by decide +kernel
theorem d129_50 : decode (tBc 129) 50 = .ok (.aload_n 0, 1) := by decide +kernel
theorem d129_51 : decode (tBc 129) 51 = .ok (.getfield 71, 3) := by decide +kernel
theorem d129_54 : decode (tBc 129) 54 = .ok (.iload_n 2, 1) := by decide +kernel
theorem d129_55 : decode (tBc 129) 55 = .ok (.bipush 21, 2) := by decide +kernel
theorem d129_57 : decode (tBc 129) 57 = .ok (.isub, 1) := by decide +kernel
theorem d129_58 : decode (tBc 129) 58 = .ok (.iaload, 1) := by decide +kernel
theorem d129_59 : decode (tBc 129) 59 = .ok (.iload 4, 2) := by decide +kernel
theorem d129_61 : decode (tBc 129) 61 = .ok (.if_icmp .ne 7, 3) := by decide +kernel
theorem d129_64 : decode (tBc 129) 64 = .ok (.iconst 1, 1) := by decide +kernel
theorem d129_65 : decode (tBc 129) 65 = .ok (.goto 4, 3) := by decide +kernel
theorem d129_68 : decode (tBc 129) 68 = .ok (.iconst 0, 1) := by decide +kernel
theorem d129_69 : decode (tBc 129) 69 = .ok (.ireturn, 1) := by decide +kernel
theorem d129_70 : decode (tBc 129) 70 = .ok (.iload_n 2, 1) := by decide +kernel
theorem d129_71 : decode (tBc 129) 71 = .ok (.bipush 21, 2) := by decide +kernel
theorem d129_73 : decode (tBc 129) 73 = .ok (.if_icmp .ge 28, 3) := by decide +kernel
theorem d129_76 : decode (tBc 129) 76 = .ok (.aload_n 0, 1) := by decide +kernel
theorem d129_77 : decode (tBc 129) 77 = .ok (.getfield 47, 3) := by decide +kernel
theorem d129_80 : decode (tBc 129) 80 = .ok (.iload_n 2, 1) := by decide +kernel
theorem d129_81 : decode (tBc 129) 81 = .ok (.iaload, 1) := by decide +kernel
theorem d129_82 : decode (tBc 129) 82 = .ok (.aload_n 0, 1) := by decide +kernel
theorem d129_83 : decode (tBc 129) 83 = .ok (.aload_n 0, 1) := by decide +kernel
theorem d129_84 : decode (tBc 129) 84 = .ok (.getfield 23, 3) := by decide +kernel
theorem d129_87 : decode (tBc 129) 87 = .ok (.iload_n 3, 1) := by decide +kernel
theorem d129_88 : decode (tBc 129) 88 = .ok (.iaload, 1) := by decide +kernel
theorem d129_89 : decode (tBc 129) 89 = .ok (.aload_n 0, 1) := by decide +kernel
theorem d129_90 : decode (tBc 129) 90 = .ok (.getfield 62, 3) := by decide +kernel
theorem d129_93 : decode (tBc 129) 93 = .ok (.iload_n 1, 1) := by decide +kernel
theorem d129_94 : decode (tBc 129) 94 = .ok (.iaload, 1) := by decide +kernel
theorem d129_95 : decode (tBc 129) 95 = .ok (.invokevirtual 225, 3) := by decide +kernel
theorem d129_98 : decode (tBc 129) 98 = .ok (.if_icmp .eq 5, 3) := by decide +kernel
theorem d129_101 : decode (tBc 129) 101 = .ok (.iconst 0, 1) := by decide +kernel
theorem d129_102 : decode (tBc 129) 102 = .ok (.ireturn, 1) := by decide +kernel
theorem d129_103 : decode (tBc 129) 103 = .ok (.aload_n 0, 1) := by decide +kernel
theorem d129_104 : decode (tBc 129) 104 = .ok (.getfield 16, 3) := by decide +kernel
theorem d129_107 : decode (tBc 129) 107 = .ok (.iload_n 3, 1) := by decide +kernel
theorem d129_108 : decode (tBc 129) 108 = .ok (.iaload, 1) := by decide +kernel
theorem d129_109 : decode (tBc 129) 109 = .ok (.iconst 4, 1) := by decide +kernel
theorem d129_110 : decode (tBc 129) 110 = .ok (.if_icmp .ne 20, 3) := by decide +kernel
theorem d129_113 : decode (tBc 129) 113 = .ok (.aload_n 0, 1) := by decide +kernel
theorem d129_114 : decode (tBc 129) 114 = .ok (.getfield 50, 3) := by decide +kernel
theorem d129_117 : decode (tBc 129) 117 = .ok (.iload_n 2, 1) := by decide +kernel
theorem d129_118 : decode (tBc 129) 118 = .ok (.iaload, 1) := by decide +kernel
theorem d129_119 : decode (tBc 129) 119 = .ok (.iload 4, 2) := by decide +kernel
theorem d129_121 : decode (tBc 129) 121 = .ok (.if_icmp .ne 7, 3) := by decide +kernel
theorem d129_124 : decode (tBc 129) 124 = .ok (.iconst 1, 1) := by decide +kernel
theorem d129_125 : decode (tBc 129) 125 = .ok (.goto 4, 3) := by decide +kernel
theorem d129_128 : decode (tBc 129) 128 = .ok (.iconst 0, 1) := by decide +kernel
theorem d129_129 : decode (tBc 129) 129 = .ok (.ireturn, 1) := by decide +kernel
theorem d129_130 : decode (tBc 129) 130 = .ok (.iload 4, 2) := by decide +kernel
theorem d129_132 : decode (tBc 129) 132 = .ok (.ifCond .ne 5, 3) := by decide +kernel
theorem d129_135 : decode (tBc 129) 135 = .ok (.iconst 0, 1) := by decide +kernel
theorem d129_136 : decode (tBc 129) 136 = .ok (.ireturn, 1) := by decide +kernel
theorem d129_137 : decode (tBc 129) 137 = .ok (.aload_n 0, 1) := by decide +kernel
theorem d129_138 : decode (tBc 129) 138 = .ok (.getfield 16, 3) := by decide +kernel
theorem d129_141 : decode (tBc 129) 141 = .ok (.iload_n 3, 1) := by decide +kernel
theorem d129_142 : decode (tBc 129) 142 = .ok (.iaload, 1) := by decide +kernel
theorem d129_143 : decode (tBc 129) 143 = .ok (.iconst 2, 1) := by decide +kernel
theorem d129_144 : decode (tBc 129) 144 = .ok (.if_icmp .ne 33, 3) := by decide +kernel
theorem d129_147 : decode (tBc 129) 147 = .ok (.iload_n 2, 1) := by decide +kernel
theorem d129_148 : decode (tBc 129) 148 = .ok (.iload 4, 2) := by decide +kernel
theorem d129_150 : decode (tBc 129) 150 = .ok (.if_icmp .eq 23, 3) := by decide +kernel
theorem d129_153 : decode (tBc 129) 153 = .ok (.aload_n 0, 1) := by decide +kernel
theorem d129_154 : decode (tBc 129) 154 = .ok (.getfield 50, 3) := by decide +kernel
theorem d129_157 : decode (tBc 129) 157 = .ok (.iload_n 2, 1) := by decide +kernel
theorem d129_158 : decode (tBc 129) 158 = .ok (.iaload, 1) := by decide +kernel
theorem d129_159 : decode (tBc 129) 159 = .ok (.aload_n 0, 1) := by decide +kernel
theorem d129_160 : decode (tBc 129) 160 = .ok (.getfield 50, 3) := by decide +kernel
theorem d129_163 : decode (tBc 129) 163 = .ok (.iload 4, 2) := by decide +kernel
theorem d129_165 : decode (tBc 129) 165 = .ok (.iaload, 1) := by decide +kernel
theorem d129_166 : decode (tBc 129) 166 = .ok (.if_icmp .ne 7, 3) := by decide +kernel
theorem d129_169 : decode (tBc 129) 169 = .ok (.iconst 1, 1) := by decide +kernel
theorem d129_170 : decode (tBc 129) 170 = .ok (.goto 23, 3) := by decide +kernel
theorem d129_173 : decode (tBc 129) 173 = .ok (.iconst 0, 1) := by decide +kernel
theorem d129_174 : decode (tBc 129) 174 = .ok (.goto 19, 3) := by decide +kernel
theorem d129_177 : decode (tBc 129) 177 = .ok (.aload_n 0, 1) := by decide +kernel
theorem d129_178 : decode (tBc 129) 178 = .ok (.getfield 50, 3) := by decide +kernel
theorem d129_181 : decode (tBc 129) 181 = .ok (.iload 4, 2) := by decide +kernel
theorem d129_183 : decode (tBc 129) 183 = .ok (.iaload, 1) := by decide +kernel
theorem d129_184 : decode (tBc 129) 184 = .ok (.iload_n 2, 1) := by decide +kernel
theorem d129_185 : decode (tBc 129) 185 = .ok (.if_icmp .ne 7, 3) := by decide +kernel
theorem d129_188 : decode (tBc 129) 188 = .ok (.iconst 1, 1) := by decide +kernel
theorem d129_189 : decode (tBc 129) 189 = .ok (.goto 4, 3) := by decide +kernel
theorem d129_192 : decode (tBc 129) 192 = .ok (.iconst 0, 1) := by decide +kernel
theorem d129_193 : decode (tBc 129) 193 = .ok (.ireturn, 1) := by decide +kernel
theorem d130_0 : decode (tBc 130) 0 = .ok (.aload_n 0, 1) := by decide +kernel
theorem d130_1 : decode (tBc 130) 1 = .ok (.iconst 0, 1) := by decide +kernel
theorem d130_2 : decode (tBc 130) 2 = .ok (.putfield 141, 3) := by decide +kernel
theorem d130_5 : decode (tBc 130) 5 = .ok (.aload_n 0, 1) := by decide +kernel
theorem d130_6 : decode (tBc 130) 6 = .ok (.iconst (-1), 1) := by decide +kernel
theorem d130_7 : decode (tBc 130) 7 = .ok (.invokevirtual 334, 3) := by decide +kernel
theorem d130_10 : decode (tBc 130) 10 = .ok (.ireturn, 1) := by decide +kernel
theorem d131_0 : decode (tBc 131) 0 = .ok (.iconst 0, 1) := by decide +kernel
theorem d131_1 : decode (tBc 131) 1 = .ok (.istore_n 2, 1) := by decide +kernel
theorem d131_2 : decode (tBc 131) 2 = .ok (.iconst (-1), 1) := by decide +kernel
theorem d131_3 : decode (tBc 131) 3 = .ok (.istore_n 3, 1) := by decide +kernel
theorem d131_4 : decode (tBc 131) 4 = .ok (.aload_n 0, 1) := by decide +kernel
theorem d131_5 : decode (tBc 131) 5 = .ok (.iconst (-1), 1) := by decide +kernel
theorem d131_6 : decode (tBc 131) 6 = .ok (.invokevirtual 295, 3) := by decide +kernel
theorem d131_9 : decode (tBc 131) 9 = .ok (.istore 4, 2) := by decide +kernel
theorem d131_11 : decode (tBc 131) 11 = .ok (.iload 4, 2) := by decide +kernel
theorem d131_13 : decode (tBc 131) 13 = .ok (.ifCond .lt 130, 3) := by decide +kernel
theorem d131_16 : decode (tBc 131) 16 = .ok (.aload_n 0, 1) := by decide +kernel
theorem d131_17 : decode (tBc 131) 17 = .ok (.iconst (-1), 1) := by decide +kernel
theorem d131_18 : decode (tBc 131) 18 = .ok (.invokevirtual 298, 3) := by decide +kernel
theorem d131_21 : decode (tBc 131) 21 = .ok (.istore 5, 2) := by decide +kernel
theorem d131_23 : decode (tBc 131) 23 = .ok (.iload 5, 2) := by decide +kernel
theorem d131_25 : decode (tBc 131) 25 = .ok (.ifCond .lt 102, 3) := by decide +kernel
theorem d131_28 : decode (tBc 131) 28 = .ok (.aload_n 0, 1) := by decide +kernel
theorem d131_29 : decode (tBc 131) 29 = .ok (.iload 4, 2) := by decide +kernel
theorem d131_31 : decode (tBc 131) 31 = .ok (.iload 5, 2) := by decide +kernel
theorem d131_33 : decode (tBc 131) 33 = .ok (.invokevirtual 301, 3) := by decide +kernel
theorem d131_36 : decode (tBc 131) 36 = .ok (.ifCond .eq 76, 3) := by decide +kernel
theorem d131_39 : decode (tBc 131) 39 = .ok (.aload_n 0, 1) := by decide +kernel
theorem d131_40 : decode (tBc 131) 40 = .ok (.getfield 212, 3) := by decide +kernel
theorem d131_43 : decode (tBc 131) 43 = .ok (.aload_n 0, 1) := by decide +kernel
theorem d131_44 : decode (tBc 131) 44 = .ok (.getfield 74, 3) := by decide +kernel
theorem d131_47 : decode (tBc 131) 47 = .ok (.bipush 51, 2) := by decide +kernel
theorem d131_49 : decode (tBc 131) 49 = .ok (.iload 4, 2) := by decide +kernel
theorem d131_51 : decode (tBc 131) 51 = .ok (.imul, 1) := by decide +kernel
theorem d131_52 : decode (tBc 131) 52 = .ok (.iload 5, 2) := by decide +kernel
theorem d131_54 : decode (tBc 131) 54 = .ok (.iadd, 1) := by decide +kernel
theorem d131_55 : decode (tBc 131) 55 = .ok (.iaload, 1) := by decide +kernel
theorem d131_56 : decode (tBc 131) 56 = .ok (.isub, 1) := by decide +kernel
theorem d131_57 : decode (tBc 131) 57 = .ok (.istore 6, 2) := by decide +kernel
theorem d131_59 : decode (tBc 131) 59 = .ok (.iload_n 1, 1) := by decide +kernel
theorem d131_60 : decode (tBc 131) 60 = .ok (.iload_n 2, 1) := by decide +kernel
theorem d131_61 : decode (tBc 131) 61 = .ok (.if_icmp .eq 14, 3) := by decide +kernel
theorem d131_64 : decode (tBc 131) 64 = .ok (.iload_n 1, 1) := by decide +kernel
theorem d131_65 : decode (tBc 131) 65 = .ok (.iconst (-1), 1) := by decide +kernel
theorem d131_66 : decode (tBc 131) 66 = .ok (.if_icmp .ge 13, 3) := by decide +kernel
theorem d131_69 : decode (tBc 131) 69 = .ok (.iload 6, 2) := by decide +kernel
theorem d131_71 : decode (tBc 131) 71 = .ok (.iload_n 3, 1) := by decide +kernel
theorem d131_72 : decode (tBc 131) 72 = .ok (.if_icmp .le 7, 3) := by decide +kernel
theorem d131_75 : decode (tBc 131) 75 = .ok (.iconst 1, 1) := by decide +kernel
theorem d131_76 : decode (tBc 131) 76 = .ok (.goto 4, 3) := by decide +kernel
theorem d131_79 : decode (tBc 131) 79 = .ok (.iconst 0, 1) := by decide +kernel
theorem d131_80 : decode (tBc 131) 80 = .ok (.istore 7, 2) := by decide +kernel
theorem d131_82 : decode (tBc 131) 82 = .ok (.iload 7, 2) := by decide +kernel
theorem d131_84 : decode (tBc 131) 84 = .ok (.ifCond .eq 25, 3) := by decide +kernel
theorem d131_87 : decode (tBc 131) 87 = .ok (.iload 6, 2) := by decide +kernel
theorem d131_89 : decode (tBc 131) 89 = .ok (.istore_n 3, 1) := by decide +kernel
theorem d131_90 : decode (tBc 131) 90 = .ok (.aload_n 0, 1) := by decide +kernel
theorem d131_91 : decode (tBc 131) 91 = .ok (.iload 4, 2) := by decide +kernel
theorem d131_93 : decode (tBc 131) 93 = .ok (.putfield 304, 3) := by decide +kernel
theorem d131_96 : decode (tBc 131) 96 = .ok (.aload_n 0, 1) := by decide +kernel
theorem d131_97 : decode (tBc 131) 97 = .ok (.iload 5, 2) := by decide +kernel
theorem d131_99 : decode (tBc 131) 99 = .ok (.putfield 307, 3) := by decide +kernel
theorem d131_102 : decode (tBc 131) 102 = .ok (.iload_n 1, 1) := by decide +kernel
theorem d131_103 : decode (tBc 131) 103 = .ok (.iload_n 2, 1) := by decide +kernel
theorem d131_104 : decode (tBc 131) 104 = .ok (.if_icmp .ne 5, 3) := by decide +kernel
theorem d131_107 : decode (tBc 131) 107 = .ok (.iconst 1, 1) := by decide +kernel
theorem d131_108 : decode (tBc 131) 108 = .ok (.ireturn, 1) := by decide +kernel
theorem d131_109 : decode (tBc 131) 109 = .ok (.iinc 2 1, 3) := by decide +kernel
theorem d131_112 : decode (tBc 131) 112 = .ok (.aload_n 0, 1) := by decide +kernel
theorem d131_113 : decode (tBc 131) 113 = .ok (.aload_n 0, 1) := by decide +kernel
theorem d131_114 : decode (tBc 131) 114 = .ok (.iload 5, 2) := by decide +kernel
theorem d131_116 : decode (tBc 131) 116 = .ok (.invokevirtual 292, 3) := by decide +kernel
theorem d131_119 : decode (tBc 131) 119 = .ok (.invokevirtual 298, 3) := by decide +kernel
theorem d131_122 : decode (tBc 131) 122 = .ok (.istore 5, 2) := by decide +kernel
theorem d131_124 : decode (tBc 131) 124 = .ok (.goto (-101), 3) := by decide +kernel
theorem d131_127 : decode (tBc 131) 127 = .ok (.aload_n 0, 1) := by decide +kernel
theorem d131_128 : decode (tBc 131) 128 = .ok (.aload_n 0, 1) := by decide +kernel
theorem d131_129 : decode (tBc 131) 129 = .ok (.getfield 53, 3) := by decide +kernel
theorem d131_132 : decode (tBc 131) 132 = .ok (.iload 4, 2) := by decide +kernel
theorem d131_134 : decode (tBc 131) 134 = .ok (.iaload, 1) := by decide +kernel
theorem d131_135 : decode (tBc 131) 135 = .ok (.invokevirtual 295, 3) := by decide +kernel
theorem d131_138 : decode (tBc 131) 138 = .ok (.istore 4, 2) := by decide +kernel
theorem d131_140 : decode (tBc 131) 140 = .ok (.goto (-129), 3) := by decide +kernel
theorem d131_143 : decode (tBc 131) 143 = .ok (.iload_n 1, 1) := by decide +kernel
theorem d131_144 : decode (tBc 131) 144 = .ok (.ifCond .lt 7, 3) := by decide +kernel
theorem d131_147 : decode (tBc 131) 147 = .ok (.iconst 0, 1) := by decide +kernel
theorem d131_148 : decode (tBc 131) 148 = .ok (.goto 4, 3) := by decide +kernel
theorem d131_151 : decode (tBc 131) 151 = .ok (.iload_n 2, 1) := by decide +kernel
theorem d131_152 : decode (tBc 131) 152 = .ok (.ireturn, 1) := by decide +kernel
theorem d132_0 : decode (tBc 132) 0 = .ok (.iconst (-1), 1) := by decide +kernel
theorem d132_1 : decode (tBc 132) 1 = .ok (.istore_n 2, 1) := by decide +kernel
theorem d132_2 : decode (tBc 132) 2 = .ok (.iconst 0, 1) := by decide +kernel
theorem d132_3 : decode (tBc 132) 3 = .ok (.istore_n 3, 1) := by decide +kernel
theorem d132_4 : decode (tBc 132) 4 = .ok (.iload_n 3, 1) := by decide +kernel
theorem d132_5 : decode (tBc 132) 5 = .ok (.bipush 40, 2) := by decide +kernel
theorem d132_7 : decode (tBc 132) 7 = .ok (.if_icmp .ge 40, 3) := by decide +kernel
theorem d132_10 : decode (tBc 132) 10 = .ok (.aload_n 0, 1) := by decide +kernel
theorem d132_11 : decode (tBc 132) 11 = .ok (.getfield 53, 3) := by decide +kernel
theorem d132_14 : decode (tBc 132) 14 = .ok (.iload_n 3, 1) := by decide +kernel
theorem d132_15 : decode (tBc 132) 15 = .ok (.iaload, 1) := by decide +kernel
theorem d132_16 : decode (tBc 132) 16 = .ok (.iload_n 1, 1) := by decide +kernel
theorem d132_17 : decode (tBc 132) 17 = .ok (.if_icmp .le 24, 3) := by decide +kernel
theorem d132_20 : decode (tBc 132) 20 = .ok (.iload_n 2, 1) := by decide +kernel
theorem d132_21 : decode (tBc 132) 21 = .ok (.ifCond .lt 18, 3) := by decide +kernel
theorem d132_24 : decode (tBc 132) 24 = .ok (.aload_n 0, 1) := by decide +kernel
theorem d132_25 : decode (tBc 132) 25 = .ok (.getfield 53, 3) := by decide +kernel
theorem d132_28 : decode (tBc 132) 28 = .ok (.iload_n 3, 1) := by decide +kernel
theorem d132_29 : decode (tBc 132) 29 = .ok (.iaload, 1) := by decide +kernel
theorem d132_30 : decode (tBc 132) 30 = .ok (.aload_n 0, 1) := by decide +kernel
theorem d132_31 : decode (tBc 132) 31 = .ok (.getfield 53, 3) := by decide +kernel
theorem d132_34 : decode (tBc 132) 34 = .ok (.iload_n 2, 1) := by decide +kernel
theorem d132_35 : decode (tBc 132) 35 = .ok (.iaload, 1) := by decide +kernel
theorem d132_36 : decode (tBc 132) 36 = .ok (.if_icmp .ge 5, 3) := by decide +kernel
theorem d132_39 : decode (tBc 132) 39 = .ok (.iload_n 3, 1) := by decide +kernel
theorem d132_40 : decode (tBc 132) 40 = .ok (.istore_n 2, 1) := by decide +kernel
theorem d132_41 : decode (tBc 132) 41 = .ok (.iinc 3 1, 3) := by decide +kernel
theorem d132_44 : decode (tBc 132) 44 = .ok (.goto (-40), 3) := by decide +kernel
theorem d132_47 : decode (tBc 132) 47 = .ok (.iload_n 2, 1) := by decide +kernel
theorem d132_48 : decode (tBc 132) 48 = .ok (.ireturn, 1) := by decide +kernel
theorem d133_0 : decode (tBc 133) 0 = .ok (.iconst (-1), 1) := by decide +kernel
theorem d133_1 : decode (tBc 133) 1 = .ok (.istore_n 2, 1) := by decide +kernel
theorem d133_2 : decode (tBc 133) 2 = .ok (.iconst 1, 1) := by decide +kernel
theorem d133_3 : decode (tBc 133) 3 = .ok (.istore_n 3, 1) := by decide +kernel
theorem d133_4 : decode (tBc 133) 4 = .ok (.iload_n 3, 1) := by decide +kernel
theorem d133_5 : decode (tBc 133) 5 = .ok (.bipush 51, 2) := by decide +kernel
theorem d133_7 : decode (tBc 133) 7 = .ok (.if_icmp .ge 37, 3) := by decide +kernel
theorem d133_10 : decode (tBc 133) 10 = .ok (.aload_n 0, 1) := by decide +kernel
theorem d133_11 : decode (tBc 133) 11 = .ok (.iload_n 3, 1) := by decide +kernel
theorem d133_12 : decode (tBc 133) 12 = .ok (.invokevirtual 292, 3) := by decide +kernel
theorem d133_15 : decode (tBc 133) 15 = .ok (.iload_n 1, 1) := by decide +kernel
theorem d133_16 : decode (tBc 133) 16 = .ok (.if_icmp .le 22, 3) := by decide +kernel
theorem d133_19 : decode (tBc 133) 19 = .ok (.iload_n 2, 1) := by decide +kernel
theorem d133_20 : decode (tBc 133) 20 = .ok (.ifCond .lt 16, 3) := by decide +kernel
theorem d133_23 : decode (tBc 133) 23 = .ok (.aload_n 0, 1) := by decide +kernel
theorem d133_24 : decode (tBc 133) 24 = .ok (.iload_n 3, 1) := by decide +kernel
theorem d133_25 : decode (tBc 133) 25 = .ok (.invokevirtual 292, 3) := by decide +kernel
theorem d133_28 : decode (tBc 133) 28 = .ok (.aload_n 0, 1) := by decide +kernel
theorem d133_29 : decode (tBc 133) 29 = .ok (.iload_n 2, 1) := by decide +kernel
theorem d133_30 : decode (tBc 133) 30 = .ok (.invokevirtual 292, 3) := by decide +kernel
theorem d133_33 : decode (tBc 133) 33 = .ok (.if_icmp .ge 5, 3) := by decide +kernel
theorem d133_36 : decode (tBc 133) 36 = .ok (.iload_n 3, 1) := by decide +kernel
theorem d133_37 : decode (tBc 133) 37 = .ok (.istore_n 2, 1) := by decide +kernel
theorem d133_38 : decode (tBc 133) 38 = .ok (.iinc 3 1, 3) := by decide +kernel
theorem d133_41 : decode (tBc 133) 41 = .ok (.goto (-37), 3) := by decide +kernel
theorem d133_44 : decode (tBc 133) 44 = .ok (.iload_n 2, 1) := by decide +kernel
theorem d133_45 : decode (tBc 133) 45 = .ok (.ireturn, 1) := by decide +kernel
theorem d134_0 : decode (tBc 134) 0 = .ok (.aload_n 0, 1) := by decide +kernel
theorem d134_1 : decode (tBc 134) 1 = .ok (.iconst 0, 1) := by decide +kernel
theorem d134_2 : decode (tBc 134) 2 = .ok (.putfield 141, 3) := by decide +kernel
theorem d134_5 : decode (tBc 134) 5 = .ok (.iload_n 1, 1) := by decide +kernel
theorem d134_6 : decode (tBc 134) 6 = .ok (.ifCond .lt 20, 3) := by decide +kernel
theorem d134_9 : decode (tBc 134) 9 = .ok (.iload_n 2, 1) := by decide +kernel
theorem d134_10 : decode (tBc 134) 10 = .ok (.iconst 0, 1) := by decide +kernel
theorem d134_11 : decode (tBc 134) 11 = .ok (.iconst 3, 1) := by decide +kernel
theorem d134_12 : decode (tBc 134) 12 = .ok (.invokestatic 148, 3) := by decide +kernel
theorem d134_15 : decode (tBc 134) 15 = .ok (.ifCond .eq 11, 3) := by decide +kernel
theorem d134_18 : decode (tBc 134) 18 = .ok (.aload_n 0, 1) := by decide +kernel
theorem d134_19 : decode (tBc 134) 19 = .ok (.iload_n 1, 1) := by decide +kernel
theorem d134_20 : decode (tBc 134) 20 = .ok (.invokevirtual 334, 3) := by decide +kernel
theorem d134_23 : decode (tBc 134) 23 = .ok (.ifCond .ne 9, 3) := by decide +kernel
theorem d134_26 : decode (tBc 134) 26 = .ok (.aload_n 0, 1) := by decide +kernel
theorem d134_27 : decode (tBc 134) 27 = .ok (.iconst 1, 1) := by decide +kernel
theorem d134_28 : decode (tBc 134) 28 = .ok (.invokevirtual 152, 3) := by decide +kernel
theorem d134_31 : decode (tBc 134) 31 = .ok (.ireturn, 1) := by decide +kernel
theorem d134_32 : decode (tBc 134) 32 = .ok (.iload_n 2, 1) := by decide +kernel
theorem d134_33 : decode (tBc 134) 33 = .ok (.iconst 2, 1) := by decide +kernel
theorem d134_34 : decode (tBc 134) 34 = .ok (.if_icmp .ge 36, 3) := by decide +kernel
theorem d134_37 : decode (tBc 134) 37 = .ok (.iload_n 2, 1) := by decide +kernel
theorem d134_38 : decode (tBc 134) 38 = .ok (.ifCond .ne 22, 3) := by decide +kernel
theorem d134_41 : decode (tBc 134) 41 = .ok (.aload_n 0, 1) := by decide +kernel
theorem d134_42 : decode (tBc 134) 42 = .ok (.getfield 16, 3) := by decide +kernel
theorem d134_45 : decode (tBc 134) 45 = .ok (.aload_n 0, 1) := by decide +kernel
theorem d134_46 : decode (tBc 134) 46 = .ok (.getfield 56, 3) := by decide +kernel
theorem d134_49 : decode (tBc 134) 49 = .ok (.aload_n 0, 1) := by decide +kernel
theorem d134_50 : decode (tBc 134) 50 = .ok (.getfield 304, 3) := by decide +kernel
theorem d134_53 : decode (tBc 134) 53 = .ok (.iaload, 1) := by decide +kernel
theorem d134_54 : decode (tBc 134) 54 = .ok (.iaload, 1) := by decide +kernel
theorem d134_55 : decode (tBc 134) 55 = .ok (.iconst 2, 1) := by decide +kernel
theorem d134_56 : decode (tBc 134) 56 = .ok (.isub, 1) := by decide +kernel
theorem d134_57 : decode (tBc 134) 57 = .ok (.goto 12, 3) := by decide +kernel
theorem d134_60 : decode (tBc 134) 60 = .ok (.aload_n 0, 1) := by decide +kernel
theorem d134_61 : decode (tBc 134) 61 = .ok (.getfield 53, 3) := by decide +kernel
theorem d134_64 : decode (tBc 134) 64 = .ok (.aload_n 0, 1) := by decide +kernel
theorem d134_65 : decode (tBc 134) 65 = .ok (.getfield 304, 3) := by decide +kernel
theorem d134_68 : decode (tBc 134) 68 = .ok (.iaload, 1) := by decide +kernel
theorem d134_69 : decode (tBc 134) 69 = .ok (.ireturn, 1) := by decide +kernel
theorem d134_70 : decode (tBc 134) 70 = .ok (.iload_n 2, 1) := by decide +kernel
theorem d134_71 : decode (tBc 134) 71 = .ok (.iconst 2, 1) := by decide +kernel
theorem d134_72 : decode (tBc 134) 72 = .ok (.if_icmp .ne 14, 3) := by decide +kernel
theorem d134_75 : decode (tBc 134) 75 = .ok (.aload_n 0, 1) := by decide +kernel
theorem d134_76 : decode (tBc 134) 76 = .ok (.aload_n 0, 1) := by decide +kernel
theorem d134_77 : decode (tBc 134) 77 = .ok (.getfield 307, 3) := by decide +kernel
theorem d134_80 : decode (tBc 134) 80 = .ok (.invokevirtual 292, 3) := by decide +kernel
theorem d134_83 : decode (tBc 134) 83 = .ok (.goto 25, 3) := by decide +kernel
theorem d134_86 : decode (tBc 134) 86 = .ok (.aload_n 0, 1) := by decide +kernel
theorem d134_87 : decode (tBc 134) 87 = .ok (.getfield 212, 3) := by decide +kernel
theorem d134_90 : decode (tBc 134) 90 = .ok (.aload_n 0, 1) := by decide +kernel
theorem d134_91 : decode (tBc 134) 91 = .ok (.getfield 74, 3) := by decide +kernel
theorem d134_94 : decode (tBc 134) 94 = .ok (.bipush 51, 2) := by decide +kernel
theorem d134_96 : decode (tBc 134) 96 = .ok (.aload_n 0, 1) := by decide +kernel
theorem d134_97 : decode (tBc 134) 97 = .ok (.getfield 304, 3) := by decide +kernel
theorem d134_100 : decode (tBc 134) 100 = .ok (.imul, 1) := by decide +kernel
theorem d134_101 : decode (tBc 134) 101 = .ok (.aload_n 0, 1) := by decide +kernel
theorem d134_102 : decode (tBc 134) 102 = .ok (.getfield 307, 3) := by decide +kernel
theorem d134_105 : decode (tBc 134) 105 = .ok (.iadd, 1) := by decide +kernel
theorem d134_106 : decode (tBc 134) 106 = .ok (.iaload, 1) := by decide +kernel
theorem d134_107 : decode (tBc 134) 107 = .ok (.isub, 1) := by decide +kernel
theorem d134_108 : decode (tBc 134) 108 = .ok (.ireturn, 1) := by decide +kernel
theorem d135_0 : decode (tBc 135) 0 = .ok (.aload_n 0, 1) := by decide +kernel
theorem d135_1 : decode (tBc 135) 1 = .ok (.iconst 0, 1) := by decide +kernel
theorem d135_2 : decode (tBc 135) 2 = .ok (.putfield 141, 3) := by decide +kernel
theorem d135_5 : decode (tBc 135) 5 = .ok (.iload_n 1, 1) := by decide +kernel
theorem d135_6 : decode (tBc 135) 6 = .ok (.ifCond .lt 11, 3) := by decide +kernel
theorem d135_9 : decode (tBc 135) 9 = .ok (.aload_n 0, 1) := by decide +kernel
theorem d135_10 : decode (tBc 135) 10 = .ok (.iload_n 1, 1) := by decide +kernel
theorem d135_11 : decode (tBc 135) 11 = .ok (.invokevirtual 334, 3) := by decide +kernel
theorem d135_14 : decode (tBc 135) 14 = .ok (.ifCond .ne 9, 3) := by decide +kernel
theorem d135_17 : decode (tBc 135) 17 = .ok (.aload_n 0, 1) := by decide +kernel
theorem d135_18 : decode (tBc 135) 18 = .ok (.iconst 1, 1) := by decide +kernel
theorem d135_19 : decode (tBc 135) 19 = .ok (.invokevirtual 152, 3) := by decide +kernel
theorem d135_22 : decode (tBc 135) 22 = .ok (.ireturn, 1) := by decide +kernel
theorem d135_23 : decode (tBc 135) 23 = .ok (.aload_n 0, 1) := by decide +kernel
theorem d135_24 : decode (tBc 135) 24 = .ok (.invokevirtual 337, 3) := by decide +kernel
theorem d135_27 : decode (tBc 135) 27 = .ok (.ifCond .eq 11, 3) := by decide +kernel
theorem d135_30 : decode (tBc 135) 30 = .ok (.aload_n 0, 1) := by decide +kernel
theorem d135_31 : decode (tBc 135) 31 = .ok (.iconst (-1), 1) := by decide +kernel
theorem d135_32 : decode (tBc 135) 32 = .ok (.invokevirtual 334, 3) := by decide +kernel
theorem d135_35 : decode (tBc 135) 35 = .ok (.goto 8, 3) := by decide +kernel
theorem d135_38 : decode (tBc 135) 38 = .ok (.aload_n 0, 1) := by decide +kernel
theorem d135_39 : decode (tBc 135) 39 = .ok (.iconst 2, 1) := by decide +kernel
theorem d135_40 : decode (tBc 135) 40 = .ok (.invokevirtual 152, 3) := by decide +kernel
theorem d135_43 : decode (tBc 135) 43 = .ok (.ireturn, 1) := by decide +kernel
theorem d136_0 : decode (tBc 136) 0 = .ok (.aload_n 0, 1) := by decide +kernel
theorem d136_1 : decode (tBc 136) 1 = .ok (.bipush 31, 2) := by decide +kernel
theorem d136_3 : decode (tBc 136) 3 = .ok (.invokevirtual 325, 3) := by decide +kernel
theorem d136_6 : decode (tBc 136) 6 = .ok (.aload_n 0, 1) := by decide +kernel
theorem d136_7 : decode (tBc 136) 7 = .ok (.invokevirtual 328, 3) := by decide +kernel
theorem d136_10 : decode (tBc 136) 10 = .ok (.aload_n 0, 1) := by decide +kernel
theorem d136_11 : decode (tBc 136) 11 = .ok (.getfield 215, 3) := by decide +kernel
theorem d136_14 : decode (tBc 136) 14 = .ok (.ifCond .eq 15, 3) := by decide +kernel
theorem d136_17 : decode (tBc 136) 17 = .ok (.aload_n 0, 1) := by decide +kernel
theorem d136_18 : decode (tBc 136) 18 = .ok (.bipush 31, 2) := by decide +kernel
theorem d136_20 : decode (tBc 136) 20 = .ok (.invokevirtual 331, 3) := by decide +kernel
theorem d136_23 : decode (tBc 136) 23 = .ok (.aload_n 0, 1) := by decide +kernel
theorem d136_24 : decode (tBc 136) 24 = .ok (.invokevirtual 313, 3) := by decide +kernel
theorem d136_27 : decode (tBc 136) 27 = .ok (.iconst 0, 1) := by decide +kernel
theorem d136_28 : decode (tBc 136) 28 = .ok (.ireturn, 1) := by decide +kernel
theorem d136_29 : decode (tBc 136) 29 = .ok (.aload_n 0, 1) := by decide +kernel
theorem d136_30 : decode (tBc 136) 30 = .ok (.dup, 1) := by decide +kernel
theorem d136_31 : decode (tBc 136) 31 = .ok (.getfield 212, 3) := by decide +kernel
theorem d136_34 : decode (tBc 136) 34 = .ok (.iconst 1, 1) := by decide +kernel
theorem d136_35 : decode (tBc 136) 35 = .ok (.iadd, 1) := by decide +kernel
theorem d136_36 : decode (tBc 136) 36 = .ok (.putfield 212, 3) := by decide +kernel
theorem d136_39 : decode (tBc 136) 39 = .ok (.aload_n 0, 1) := by decide +kernel
theorem d136_40 : decode (tBc 136) 40 = .ok (.invokevirtual 322, 3) := by decide +kernel
theorem d136_43 : decode (tBc 136) 43 = .ok (.iconst 1, 1) := by decide +kernel
theorem d136_44 : decode (tBc 136) 44 = .ok (.ireturn, 1) := by decide +kernel
theorem d137_0 : decode (tBc 137) 0 = .ok (.sipush 314, 3) := by decide +kernel
theorem d137_3 : decode (tBc 137) 3 = .ok (.iload_n 1, 1) := by decide +kernel
theorem d137_4 : decode (tBc 137) 4 = .ok (.imul, 1) := by decide +kernel
theorem d137_5 : decode (tBc 137) 5 = .ok (.istore_n 2, 1) := by decide +kernel
theorem d137_6 : decode (tBc 137) 6 = .ok (.iconst 0, 1) := by decide +kernel
theorem d137_7 : decode (tBc 137) 7 = .ok (.istore_n 3, 1) := by decide +kernel
theorem d137_8 : decode (tBc 137) 8 = .ok (.iload_n 3, 1) := by decide +kernel
theorem d137_9 : decode (tBc 137) 9 = .ok (.bipush 21, 2) := by decide +kernel
theorem d137_11 : decode (tBc 137) 11 = .ok (.if_icmp .ge 57, 3) := by decide +kernel
theorem d137_14 : decode (tBc 137) 14 = .ok (.aload_n 0, 1) := by decide +kernel
theorem d137_15 : decode (tBc 137) 15 = .ok (.getfield 120, 3) := by decide +kernel
theorem d137_18 : decode (tBc 137) 18 = .ok (.iload_n 2, 1) := by decide +kernel
theorem d137_19 : decode (tBc 137) 19 = .ok (.iload_n 3, 1) := by decide +kernel
theorem d137_20 : decode (tBc 137) 20 = .ok (.iadd, 1) := by decide +kernel
theorem d137_21 : decode (tBc 137) 21 = .ok (.aload_n 0, 1) := by decide +kernel
theorem d137_22 : decode (tBc 137) 22 = .ok (.getfield 44, 3) := by decide +kernel
theorem d137_25 : decode (tBc 137) 25 = .ok (.iload_n 3, 1) := by decide +kernel
theorem d137_26 : decode (tBc 137) 26 = .ok (.iaload, 1) := by decide +kernel
theorem d137_27 : decode (tBc 137) 27 = .ok (.iastore, 1) := by decide +kernel
theorem d137_28 : decode (tBc 137) 28 = .ok (.aload_n 0, 1) := by decide +kernel
theorem d137_29 : decode (tBc 137) 29 = .ok (.getfield 120, 3) := by decide +kernel
theorem d137_32 : decode (tBc 137) 32 = .ok (.iload_n 2, 1) := by decide +kernel
theorem d137_33 : decode (tBc 137) 33 = .ok (.bipush 21, 2) := by decide +kernel
theorem d137_35 : decode (tBc 137) 35 = .ok (.iadd, 1) := by decide +kernel
theorem d137_36 : decode (tBc 137) 36 = .ok (.iload_n 3, 1) := by decide +kernel
theorem d137_37 : decode (tBc 137) 37 = .ok (.iadd, 1) := by decide +kernel
theorem d137_38 : decode (tBc 137) 38 = .ok (.aload_n 0, 1) := by decide +kernel
theorem d137_39 : decode (tBc 137) 39 = .ok (.getfield 47, 3) := by decide +kernel
theorem d137_42 : decode (tBc 137) 42 = .ok (.iload_n 3, 1) := by decide +kernel
theorem d137_43 : decode (tBc 137) 43 = .ok (.iaload, 1) := by decide +kernel
theorem d137_44 : decode (tBc 137) 44 = .ok (.iastore, 1) := by decide +kernel
theorem d137_45 : decode (tBc 137) 45 = .ok (.aload_n 0, 1) := by decide +kernel
theorem d137_46 : decode (tBc 137) 46 = .ok (.getfield 120, 3) := by decide +kernel
theorem d137_49 : decode (tBc 137) 49 = .ok (.iload_n 2, 1) := by decide +kernel
theorem d137_50 : decode (tBc 137) 50 = .ok (.bipush 42, 2) := by decide +kernel
theorem d137_52 : decode (tBc 137) 52 = .ok (.iadd, 1) := by decide +kernel
theorem d137_53 : decode (tBc 137) 53 = .ok (.iload_n 3, 1) := by decide +kernel
theorem d137_54 : decode (tBc 137) 54 = .ok (.iadd, 1) := by decide +kernel
theorem d137_55 : decode (tBc 137) 55 = .ok (.aload_n 0, 1) := by decide +kernel
theorem d137_56 : decode (tBc 137) 56 = .ok (.getfield 50, 3) := by decide +kernel
theorem d137_59 : decode (tBc 137) 59 = .ok (.iload_n 3, 1) := by decide +kernel
theorem d137_60 : decode (tBc 137) 60 = .ok (.iaload, 1) := by decide +kernel
theorem d137_61 : decode (tBc 137) 61 = .ok (.iastore, 1) := by decide +kernel
theorem d137_62 : decode (tBc 137) 62 = .ok (.iinc 3 1, 3) := by decide +kernel
theorem d137_65 : decode (tBc 137) 65 = .ok (.goto (-57), 3) := by decide +kernel
theorem d137_68 : decode (tBc 137) 68 = .ok (.iconst 0, 1) := by decide +kernel
theorem d137_69 : decode (tBc 137) 69 = .ok (.istore_n 3, 1) := by decide +kernel
theorem d137_70 : decode (tBc 137) 70 = .ok (.iload_n 3, 1) := by decide +kernel
theorem d137_71 : decode (tBc 137) 71 = .ok (.bipush 40, 2) := by decide +kernel
theorem d137_73 : decode (tBc 137) 73 = .ok (.if_icmp .ge 79, 3) := by decide +kernel
theorem d137_76 : decode (tBc 137) 76 = .ok (.aload_n 0, 1) := by decide +kernel
theorem d137_77 : decode (tBc 137) 77 = .ok (.getfield 120, 3) := by decide +kernel
theorem d137_80 : decode (tBc 137) 80 = .ok (.iload_n 2, 1) := by decide +kernel
theorem d137_81 : decode (tBc 137) 81 = .ok (.bipush 63, 2) := by decide +kernel
theorem d137_83 : decode (tBc 137) 83 = .ok (.iadd, 1) := by decide +kernel
theorem d137_84 : decode (tBc 137) 84 = .ok (.iload_n 3, 1) := by decide +kernel
theorem d137_85 : decode (tBc 137) 85 = .ok (.iadd, 1) := by decide +kernel
theorem d137_86 : decode (tBc 137) 86 = .ok (.aload_n 0, 1) := by decide +kernel
theorem d137_87 : decode (tBc 137) 87 = .ok (.getfield 53, 3) := by decide +kernel
theorem d137_90 : decode (tBc 137) 90 = .ok (.iload_n 3, 1) := by decide +kernel
theorem d137_91 : decode (tBc 137) 91 = .ok (.iaload, 1) := by decide +kernel
theorem d137_92 : decode (tBc 137) 92 = .ok (.iastore, 1) := by decide +kernel
theorem d137_93 : decode (tBc 137) 93 = .ok (.aload_n 0, 1) := by decide +kernel
theorem d137_94 : decode (tBc 137) 94 = .ok (.getfield 120, 3) := by decide +kernel
theorem d137_97 : decode (tBc 137) 97 = .ok (.iload_n 2, 1) := by decide +kernel
theorem d137_98 : decode (tBc 137) 98 = .ok (.bipush 103, 2) := by decide +kernel
theorem d137_100 : decode (tBc 137) 100 = .ok (.iadd, 1) := by decide +kernel
theorem d137_101 : decode (tBc 137) 101 = .ok (.iload_n 3, 1) := by decide +kernel
theorem d137_102 : decode (tBc 137) 102 = .ok (.iadd, 1) := by decide +kernel
theorem d137_103 : decode (tBc 137) 103 = .ok (.aload_n 0, 1) := by decide +kernel
theorem d137_104 : decode (tBc 137) 104 = .ok (.getfield 56, 3) := by decide +kernel
theorem d137_107 : decode (tBc 137) 107 = .ok (.iload_n 3, 1) := by decide +kernel
theorem d137_108 : decode (tBc 137) 108 = .ok (.iaload, 1) := by decide +kernel
theorem d137_109 : decode (tBc 137) 109 = .ok (.iastore, 1) := by decide +kernel
theorem d137_110 : decode (tBc 137) 110 = .ok (.aload_n 0, 1) := by decide +kernel
theorem d137_111 : decode (tBc 137) 111 = .ok (.getfield 120, 3) := by decide +kernel
theorem d137_114 : decode (tBc 137) 114 = .ok (.iload_n 2, 1) := by decide +kernel
theorem d137_115 : decode (tBc 137) 115 = .ok (.sipush 143, 3) := by decide +kernel
theorem d137_118 : decode (tBc 137) 118 = .ok (.iadd, 1) := by decide +kernel
theorem d137_119 : decode (tBc 137) 119 = .ok (.iload_n 3, 1) := by decide +kernel
theorem d137_120 : decode (tBc 137) 120 = .ok (.iadd, 1) := by decide +kernel
theorem d137_121 : decode (tBc 137) 121 = .ok (.aload_n 0, 1) := by decide +kernel
theorem d137_122 : decode (tBc 137) 122 = .ok (.getfield 59, 3) := by decide +kernel
theorem d137_125 : decode (tBc 137) 125 = .ok (.iload_n 3, 1) := by decide +kernel
theorem d137_126 : decode (tBc 137) 126 = .ok (.iaload, 1) := by decide +kernel
theorem d137_127 : decode (tBc 137) 127 = .ok (.iastore, 1) := by decide +kernel
theorem d137_128 : decode (tBc 137) 128 = .ok (.aload_n 0, 1) := by decide +kernel
theorem d137_129 : decode (tBc 137) 129 = .ok (.getfield 120, 3) := by decide +kernel
theorem d137_132 : decode (tBc 137) 132 = .ok (.iload_n 2, 1) := by decide +kernel
theorem d137_133 : decode (tBc 137) 133 = .ok (.sipush 183, 3) := by decide +kernel
theorem d137_136 : decode (tBc 137) 136 = .ok (.iadd, 1) := by decide +kernel
theorem d137_137 : decode (tBc 137) 137 = .ok (.iload_n 3, 1) := by decide +kernel
theorem d137_138 : decode (tBc 137) 138 = .ok (.iadd, 1) := by decide +kernel
theorem d137_139 : decode (tBc 137) 139 = .ok (.aload_n 0, 1) := by decide +kernel
theorem d137_140 : decode (tBc 137) 140 = .ok (.getfield 62, 3) := by decide +kernel
theorem d137_143 : decode (tBc 137) 143 = .ok (.iload_n 3, 1) := by decide +kernel
theorem d137_144 : decode (tBc 137) 144 = .ok (.iaload, 1) := by decide +kernel
theorem d137_145 : decode (tBc 137) 145 = .ok (.iastore, 1) := by decide +kernel
theorem d137_146 : decode (tBc 137) 146 = .ok (.iinc 3 1, 3) := by decide +kernel
theorem d137_149 : decode (tBc 137) 149 = .ok (.goto (-79), 3) := by decide +kernel
theorem d137_152 : decode (tBc 137) 152 = .ok (.iconst 0, 1) := by decide +kernel
theorem d137_153 : decode (tBc 137) 153 = .ok (.istore_n 3, 1) := by decide +kernel
theorem d137_154 : decode (tBc 137) 154 = .ok (.iload_n 3, 1) := by decide +kernel
theorem d137_155 : decode (tBc 137) 155 = .ok (.bipush 30, 2) := by decide +kernel
theorem d137_157 : decode (tBc 137) 157 = .ok (.if_icmp .ge 63, 3) := by decide +kernel
theorem d137_160 : decode (tBc 137) 160 = .ok (.aload_n 0, 1) := by decide +kernel
theorem d137_161 : decode (tBc 137) 161 = .ok (.getfield 120, 3) := by decide +kernel
theorem d137_164 : decode (tBc 137) 164 = .ok (.iload_n 2, 1) := by decide +kernel
theorem d137_165 : decode (tBc 137) 165 = .ok (.sipush 223, 3) := by decide +kernel
theorem d137_168 : decode (tBc 137) 168 = .ok (.iadd, 1) := by decide +kernel
theorem d137_169 : decode (tBc 137) 169 = .ok (.iload_n 3, 1) := by decide +kernel
theorem d137_170 : decode (tBc 137) 170 = .ok (.iadd, 1) := by decide +kernel
theorem d137_171 : decode (tBc 137) 171 = .ok (.aload_n 0, 1) := by decide +kernel
theorem d137_172 : decode (tBc 137) 172 = .ok (.getfield 65, 3) := by decide +kernel
theorem d137_175 : decode (tBc 137) 175 = .ok (.iload_n 3, 1) := by decide +kernel
theorem d137_176 : decode (tBc 137) 176 = .ok (.iaload, 1) := by decide +kernel
theorem d137_177 : decode (tBc 137) 177 = .ok (.iastore, 1) := by decide +kernel
theorem d137_178 : decode (tBc 137) 178 = .ok (.aload_n 0, 1) := by decide +kernel
theorem d137_179 : decode (tBc 137) 179 = .ok (.getfield 120, 3) := by decide +kernel
theorem d137_182 : decode (tBc 137) 182 = .ok (.iload_n 2, 1) := by decide +kernel
theorem d137_183 : decode (tBc 137) 183 = .ok (.sipush 253, 3) := by decide +kernel
theorem d137_186 : decode (tBc 137) 186 = .ok (.iadd, 1) := by decide +kernel
theorem d137_187 : decode (tBc 137) 187 = .ok (.iload_n 3, 1) := by decide +kernel
theorem d137_188 : decode (tBc 137) 188 = .ok (.iadd, 1) := by decide +kernel
theorem d137_189 : decode (tBc 137) 189 = .ok (.aload_n 0, 1) := by decide +kernel
theorem d137_190 : decode (tBc 137) 190 = .ok (.getfield 68, 3) := by decide +kernel
theorem d137_193 : decode (tBc 137) 193 = .ok (.iload_n 3, 1) := by decide +kernel
theorem d137_194 : decode (tBc 137) 194 = .ok (.iaload, 1) := by decide +kernel
theorem d137_195 : decode (tBc 137) 195 = .ok (.iastore, 1) := by decide +kernel
theorem d137_196 : decode (tBc 137) 196 = .ok (.aload_n 0, 1) := by decide +kernel
theorem d137_197 : decode (tBc 137) 197 = .ok (.getfield 120, 3) := by decide +kernel
theorem d137_200 : decode (tBc 137) 200 = .ok (.iload_n 2, 1) := by decide +kernel
theorem d137_201 : decode (tBc 137) 201 = .ok (.sipush 283, 3) := by decide +kernel
theorem d137_204 : decode (tBc 137) 204 = .ok (.iadd, 1) := by decide +kernel
theorem d137_205 : decode (tBc 137) 205 = .ok (.iload_n 3, 1) := by decide +kernel
theorem d137_206 : decode (tBc 137) 206 = .ok (.iadd, 1) := by decide +kernel
theorem d137_207 : decode (tBc 137) 207 = .ok (.aload_n 0, 1) := by decide +kernel
theorem d137_208 : decode (tBc 137) 208 = .ok (.getfield 71, 3) := by decide +kernel
theorem d137_211 : decode (tBc 137) 211 = .ok (.iload_n 3, 1) := by decide +kernel
theorem d137_212 : decode (tBc 137) 212 = .ok (.iaload, 1) := by decide +kernel
theorem d137_213 : decode (tBc 137) 213 = .ok (.iastore, 1) := by decide +kernel
theorem d137_214 : decode (tBc 137) 214 = .ok (.iinc 3 1, 3) := by decide +kernel
theorem d137_217 : decode (tBc 137) 217 = .ok (.goto (-63), 3) := by decide +kernel
theorem d137_220 : decode (tBc 137) 220 = .ok (.aload_n 0, 1) := by decide +kernel
theorem d137_221 : decode (tBc 137) 221 = .ok (.getfield 120, 3) := by decide +kernel
theorem d137_224 : decode (tBc 137) 224 = .ok (.iload_n 2, 1) := by decide +kernel
theorem d137_225 : decode (tBc 137) 225 = .ok (.sipush 313, 3) := by decide +kernel
theorem d137_228 : decode (tBc 137) 228 = .ok (.iadd, 1) := by decide +kernel
theorem d137_229 : decode (tBc 137) 229 = .ok (.aload_n 0, 1) := by decide +kernel
theorem d137_230 : decode (tBc 137) 230 = .ok (.getfield 209, 3) := by decide +kernel
theorem d137_233 : decode (tBc 137) 233 = .ok (.iastore, 1) := by decide +kernel
theorem d137_234 : decode (tBc 137) 234 = .ok (.return_, 1) := by decide +kernel
theorem d138_0 : decode (tBc 138) 0 = .ok (.aload_n 0, 1) := by decide +kernel
theorem d138_1 : decode (tBc 138) 1 = .ok (.getfield 304, 3) := by decide +kernel
theorem d138_4 : decode (tBc 138) 4 = .ok (.istore_n 1, 1) := by decide +kernel
theorem d138_5 : decode (tBc 138) 5 = .ok (.aload_n 0, 1) := by decide +kernel
theorem d138_6 : decode (tBc 138) 6 = .ok (.getfield 307, 3) := by decide +kernel
theorem d138_9 : decode (tBc 138) 9 = .ok (.istore_n 2, 1) := by decide +kernel
theorem d138_10 : decode (tBc 138) 10 = .ok (.aload_n 0, 1) := by decide +kernel
theorem d138_11 : decode (tBc 138) 11 = .ok (.getfield 56, 3) := by decide +kernel
theorem d138_14 : decode (tBc 138) 14 = .ok (.iload_n 1, 1) := by decide +kernel
theorem d138_15 : decode (tBc 138) 15 = .ok (.iaload, 1) := by decide +kernel
theorem d138_16 : decode (tBc 138) 16 = .ok (.istore_n 3, 1) := by decide +kernel
theorem d138_17 : decode (tBc 138) 17 = .ok (.aload_n 0, 1) := by decide +kernel
theorem d138_18 : decode (tBc 138) 18 = .ok (.getfield 59, 3) := by decide +kernel
theorem d138_21 : decode (tBc 138) 21 = .ok (.iload_n 1, 1) := by decide +kernel
theorem d138_22 : decode (tBc 138) 22 = .ok (.iaload, 1) := by decide +kernel
theorem d138_23 : decode (tBc 138) 23 = .ok (.istore 4, 2) := by decide +kernel
theorem d138_25 : decode (tBc 138) 25 = .ok (.aload_n 0, 1) := by decide +kernel
theorem d138_26 : decode (tBc 138) 26 = .ok (.getfield 62, 3) := by decide +kernel
theorem d138_29 : decode (tBc 138) 29 = .ok (.iload_n 1, 1) := by decide +kernel
theorem d138_30 : decode (tBc 138) 30 = .ok (.iaload, 1) := by decide +kernel
theorem d138_31 : decode (tBc 138) 31 = .ok (.istore 5, 2) := by decide +kernel
theorem d138_33 : decode (tBc 138) 33 = .ok (.aload_n 0, 1) := by decide +kernel
theorem d138_34 : decode (tBc 138) 34 = .ok (.getfield 19, 3) := by decide +kernel
theorem d138_37 : decode (tBc 138) 37 = .ok (.iload_n 3, 1) := by decide +kernel
theorem d138_38 : decode (tBc 138) 38 = .ok (.baload, 1) := by decide +kernel
theorem d138_39 : decode (tBc 138) 39 = .ok (.ifCond .ne 10, 3) := by decide +kernel
theorem d138_42 : decode (tBc 138) 42 = .ok (.aload_n 0, 1) := by decide +kernel
theorem d138_43 : decode (tBc 138) 43 = .ok (.getfield 53, 3) := by decide +kernel
theorem d138_46 : decode (tBc 138) 46 = .ok (.iload_n 1, 1) := by decide +kernel
theorem d138_47 : decode (tBc 138) 47 = .ok (.iconst (-1), 1) := by decide +kernel
theorem d138_48 : decode (tBc 138) 48 = .ok (.iastore, 1) := by decide +kernel
theorem d138_49 : decode (tBc 138) 49 = .ok (.aload_n 0, 1) := by decide +kernel
theorem d138_50 : decode (tBc 138) 50 = .ok (.getfield 16, 3) := by decide +kernel
theorem d138_53 : decode (tBc 138) 53 = .ok (.iload_n 3, 1) := by decide +kernel
theorem d138_54 : decode (tBc 138) 54 = .ok (.iaload, 1) := by decide +kernel
theorem d138_55 : decode (tBc 138) 55 = .ok (.iconst 2, 1) := by decide +kernel
theorem d138_56 : decode (tBc 138) 56 = .ok (.if_icmp .ne 11, 3) := by decide +kernel
theorem d138_59 : decode (tBc 138) 59 = .ok (.aload_n 0, 1) := by decide +kernel
theorem d138_60 : decode (tBc 138) 60 = .ok (.getfield 50, 3) := by decide +kernel
theorem d138_63 : decode (tBc 138) 63 = .ok (.iload 4, 2) := by decide +kernel
theorem d138_65 : decode (tBc 138) 65 = .ok (.iload_n 2, 1) := by decide +kernel
theorem d138_66 : decode (tBc 138) 66 = .ok (.iastore, 1) := by decide +kernel
theorem d138_67 : decode (tBc 138) 67 = .ok (.aload_n 0, 1) := by decide +kernel
theorem d138_68 : decode (tBc 138) 68 = .ok (.getfield 16, 3) := by decide +kernel
theorem d138_71 : decode (tBc 138) 71 = .ok (.iload_n 3, 1) := by decide +kernel
theorem d138_72 : decode (tBc 138) 72 = .ok (.iaload, 1) := by decide +kernel
theorem d138_73 : decode (tBc 138) 73 = .ok (.iconst 3, 1) := by decide +kernel
theorem d138_74 : decode (tBc 138) 74 = .ok (.if_icmp .ne 16, 3) := by decide +kernel
theorem d138_77 : decode (tBc 138) 77 = .ok (.aload_n 0, 1) := by decide +kernel
theorem d138_78 : decode (tBc 138) 78 = .ok (.getfield 50, 3) := by decide +kernel
theorem d138_81 : decode (tBc 138) 81 = .ok (.iload 4, 2) := by decide +kernel
theorem d138_83 : decode (tBc 138) 83 = .ok (.aload_n 0, 1) := by decide +kernel
theorem d138_84 : decode (tBc 138) 84 = .ok (.getfield 50, 3) := by decide +kernel
theorem d138_87 : decode (tBc 138) 87 = .ok (.iload_n 2, 1) := by decide +kernel
theorem d138_88 : decode (tBc 138) 88 = .ok (.iaload, 1) := by decide +kernel
theorem d138_89 : decode (tBc 138) 89 = .ok (.iastore, 1) := by decide +kernel
theorem d138_90 : decode (tBc 138) 90 = .ok (.aload_n 0, 1) := by decide +kernel
theorem d138_91 : decode (tBc 138) 91 = .ok (.getfield 16, 3) := by decide +kernel
theorem d138_94 : decode (tBc 138) 94 = .ok (.iload_n 3, 1) := by decide +kernel
theorem d138_95 : decode (tBc 138) 95 = .ok (.iaload, 1) := by decide +kernel
theorem d138_96 : decode (tBc 138) 96 = .ok (.iconst 4, 1) := by decide +kernel
theorem d138_97 : decode (tBc 138) 97 = .ok (.if_icmp .ne 148, 3) := by decide +kernel
theorem d138_100 : decode (tBc 138) 100 = .ok (.iconst 1, 1) := by decide +kernel
theorem d138_101 : decode (tBc 138) 101 = .ok (.istore 6, 2) := by decide +kernel
theorem d138_103 : decode (tBc 138) 103 = .ok (.iload 6, 2) := by decide +kernel
theorem d138_105 : decode (tBc 138) 105 = .ok (.bipush 21, 2) := by decide +kernel
theorem d138_107 : decode (tBc 138) 107 = .ok (.if_icmp .ge 39, 3) := by decide +kernel
theorem d138_110 : decode (tBc 138) 110 = .ok (.aload_n 0, 1) := by decide +kernel
theorem d138_111 : decode (tBc 138) 111 = .ok (.getfield 50, 3) := by decide +kernel
theorem d138_114 : decode (tBc 138) 114 = .ok (.iload 6, 2) := by decide +kernel
theorem d138_116 : decode (tBc 138) 116 = .ok (.aload_n 0, 1) := by decide +kernel
theorem d138_117 : decode (tBc 138) 117 = .ok (.getfield 50, 3) := by decide +kernel
theorem d138_120 : decode (tBc 138) 120 = .ok (.iload 6, 2) := by decide +kernel
theorem d138_122 : decode (tBc 138) 122 = .ok (.iaload, 1) := by decide +kernel
theorem d138_123 : decode (tBc 138) 123 = .ok (.iload_n 2, 1) := by decide +kernel
theorem d138_124 : decode (tBc 138) 124 = .ok (.if_icmp .ne 8, 3) := by decide +kernel
theorem d138_127 : decode (tBc 138) 127 = .ok (.iload 4, 2) := by decide +kernel
theorem d138_129 : decode (tBc 138) 129 = .ok (.goto 10, 3) := by decide +kernel
theorem d138_132 : decode (tBc 138) 132 = .ok (.aload_n 0, 1) := by decide +kernel
theorem d138_133 : decode (tBc 138) 133 = .ok (.getfield 50, 3) := by decide +kernel
theorem d138_136 : decode (tBc 138) 136 = .ok (.iload 6, 2) := by decide +kernel
theorem d138_138 : decode (tBc 138) 138 = .ok (.iaload, 1) := by decide +kernel
theorem d138_139 : decode (tBc 138) 139 = .ok (.iastore, 1) := by decide +kernel
theorem d138_140 : decode (tBc 138) 140 = .ok (.iinc 6 1, 3) := by decide +kernel
theorem d138_143 : decode (tBc 138) 143 = .ok (.goto (-40), 3) := by decide +kernel
theorem d138_146 : decode (tBc 138) 146 = .ok (.iconst 0, 1) := by decide +kernel
theorem d138_147 : decode (tBc 138) 147 = .ok (.istore 6, 2) := by decide +kernel
theorem d138_149 : decode (tBc 138) 149 = .ok (.iload 6, 2) := by decide +kernel
theorem d138_151 : decode (tBc 138) 151 = .ok (.bipush 40, 2) := by decide +kernel
theorem d138_153 : decode (tBc 138) 153 = .ok (.if_icmp .ge 39, 3) := by decide +kernel
theorem d138_156 : decode (tBc 138) 156 = .ok (.aload_n 0, 1) := by decide +kernel
theorem d138_157 : decode (tBc 138) 157 = .ok (.getfield 59, 3) := by decide +kernel
theorem d138_160 : decode (tBc 138) 160 = .ok (.iload 6, 2) := by decide +kernel
theorem d138_162 : decode (tBc 138) 162 = .ok (.aload_n 0, 1) := by decide +kernel
theorem d138_163 : decode (tBc 138) 163 = .ok (.getfield 59, 3) := by decide +kernel
theorem d138_166 : decode (tBc 138) 166 = .ok (.iload 6, 2) := by decide +kernel
theorem d138_168 : decode (tBc 138) 168 = .ok (.iaload, 1) := by decide +kernel
theorem d138_169 : decode (tBc 138) 169 = .ok (.iload_n 2, 1) := by decide +kernel
theorem d138_170 : decode (tBc 138) 170 = .ok (.if_icmp .ne 8, 3) := by decide +kernel
theorem d138_173 : decode (tBc 138) 173 = .ok (.iload 4, 2) := by decide +kernel
theorem d138_175 : decode (tBc 138) 175 = .ok (.goto 10, 3) := by decide +kernel
theorem d138_178 : decode (tBc 138) 178 = .ok (.aload_n 0, 1) := by decide +kernel
theorem d138_179 : decode (tBc 138) 179 = .ok (.getfield 59, 3) := by decide +kernel
theorem d138_182 : decode (tBc 138) 182 = .ok (.iload 6, 2) := by decide +kernel
theorem d138_184 : decode (tBc 138) 184 = .ok (.iaload, 1) := by decide +kernel
theorem d138_185 : decode (tBc 138) 185 = .ok (.iastore, 1) := by decide +kernel
theorem d138_186 : decode (tBc 138) 186 = .ok (.iinc 6 1, 3) := by decide +kernel
theorem d138_189 : decode (tBc 138) 189 = .ok (.goto (-40), 3) := by decide +kernel
theorem d138_192 : decode (tBc 138) 192 = .ok (.iconst 0, 1) := by decide +kernel
theorem d138_193 : decode (tBc 138) 193 = .ok (.istore 6, 2) := by decide +kernel
theorem d138_195 : decode (tBc 138) 195 = .ok (.iload 6, 2) := by decide +kernel
theorem d138_197 : decode (tBc 138) 197 = .ok (.bipush 30, 2) := by decide +kernel
theorem d138_199 : decode (tBc 138) 199 = .ok (.if_icmp .ge 39, 3) := by decide +kernel
theorem d138_202 : decode (tBc 138) 202 = .ok (.aload_n 0, 1) := by decide +kernel
theorem d138_203 : decode (tBc 138) 203 = .ok (.getfield 71, 3) := by decide +kernel
theorem d138_206 : decode (tBc 138) 206 = .ok (.iload 6, 2) := by decide +kernel
theorem d138_208 : decode (tBc 138) 208 = .ok (.aload_n 0, 1) := by decide +kernel
theorem d138_209 : decode (tBc 138) 209 = .ok (.getfield 71, 3) := by decide +kernel
theorem d138_212 : decode (tBc 138) 212 = .ok (.iload 6, 2) := by decide +kernel
theorem d138_214 : decode (tBc 138) 214 = .ok (.iaload, 1) := by decide +kernel
theorem d138_215 : decode (tBc 138) 215 = .ok (.iload_n 2, 1) := by decide +kernel
theorem d138_216 : decode (tBc 138) 216 = .ok (.if_icmp .ne 8, 3) := by decide +kernel
theorem d138_219 : decode (tBc 138) 219 = .ok (.iload 4, 2) := by decide +kernel
theorem d138_221 : decode (tBc 138) 221 = .ok (.goto 10, 3) := by decide +kernel
theorem d138_224 : decode (tBc 138) 224 = .ok (.aload_n 0, 1) := by decide +kernel
theorem d138_225 : decode (tBc 138) 225 = .ok (.getfield 71, 3) := by decide +kernel
theorem d138_228 : decode (tBc 138) 228 = .ok (.iload 6, 2) := by decide +kernel
theorem d138_230 : decode (tBc 138) 230 = .ok (.iaload, 1) := by decide +kernel
theorem d138_231 : decode (tBc 138) 231 = .ok (.iastore, 1) := by decide +kernel
theorem d138_232 : decode (tBc 138) 232 = .ok (.iinc 6 1, 3) := by decide +kernel
theorem d138_235 : decode (tBc 138) 235 = .ok (.goto (-40), 3) := by decide +kernel
theorem d138_238 : decode (tBc 138) 238 = .ok (.aload_n 0, 1) := by decide +kernel
theorem d138_239 : decode (tBc 138) 239 = .ok (.getfield 44, 3) := by decide +kernel
theorem d138_242 : decode (tBc 138) 242 = .ok (.iload_n 2, 1) := by decide +kernel
theorem d138_243 : decode (tBc 138) 243 = .ok (.iconst (-1), 1) := by decide +kernel
theorem d138_244 : decode (tBc 138) 244 = .ok (.iastore, 1) := by decide +kernel
theorem d138_245 : decode (tBc 138) 245 = .ok (.aload_n 0, 1) := by decide +kernel
theorem d138_246 : decode (tBc 138) 246 = .ok (.getfield 16, 3) := by decide +kernel
theorem d138_249 : decode (tBc 138) 249 = .ok (.iload_n 3, 1) := by decide +kernel
theorem d138_250 : decode (tBc 138) 250 = .ok (.iaload, 1) := by decide +kernel
theorem d138_251 : decode (tBc 138) 251 = .ok (.iconst 5, 1) := by decide +kernel
theorem d138_252 : decode (tBc 138) 252 = .ok (.if_icmp .ne 53, 3) := by decide +kernel
theorem d138_255 : decode (tBc 138) 255 = .ok (.iconst 4, 1) := by decide +kernel
theorem d138_256 : decode (tBc 138) 256 = .ok (.aload_n 0, 1) := by decide +kernel
theorem d138_257 : decode (tBc 138) 257 = .ok (.getfield 23, 3) := by decide +kernel
theorem d138_260 : decode (tBc 138) 260 = .ok (.iload_n 3, 1) := by decide +kernel
theorem d138_261 : decode (tBc 138) 261 = .ok (.iaload, 1) := by decide +kernel
theorem d138_262 : decode (tBc 138) 262 = .ok (.bipush 6, 2) := by decide +kernel
theorem d138_264 : decode (tBc 138) 264 = .ok (.isub, 1) := by decide +kernel
theorem d138_265 : decode (tBc 138) 265 = .ok (.imul, 1) := by decide +kernel
theorem d138_266 : decode (tBc 138) 266 = .ok (.istore 6, 2) := by decide +kernel
theorem d138_268 : decode (tBc 138) 268 = .ok (.iload 5, 2) := by decide +kernel
theorem d138_270 : decode (tBc 138) 270 = .ok (.bipush 15, 2) := by decide +kernel
theorem d138_272 : decode (tBc 138) 272 = .ok (.iload 6, 2) := by decide +kernel
theorem d138_274 : decode (tBc 138) 274 = .ok (.ishl, 1) := by decide +kernel
theorem d138_275 : decode (tBc 138) 275 = .ok (.iconst (-1), 1) := by decide +kernel
theorem d138_276 : decode (tBc 138) 276 = .ok (.ixor, 1) := by decide +kernel
theorem d138_277 : decode (tBc 138) 277 = .ok (.iand, 1) := by decide +kernel
theorem d138_278 : decode (tBc 138) 278 = .ok (.aload_n 0, 1) := by decide +kernel
theorem d138_279 : decode (tBc 138) 279 = .ok (.getfield 68, 3) := by decide +kernel
theorem d138_282 : decode (tBc 138) 282 = .ok (.iload_n 2, 1) := by decide +kernel
theorem d138_283 : decode (tBc 138) 283 = .ok (.bipush 21, 2) := by decide +kernel
theorem d138_285 : decode (tBc 138) 285 = .ok (.isub, 1) := by decide +kernel
theorem d138_286 : decode (tBc 138) 286 = .ok (.iaload, 1) := by decide +kernel
theorem d138_287 : decode (tBc 138) 287 = .ok (.iconst 1, 1) := by decide +kernel
theorem d138_288 : decode (tBc 138) 288 = .ok (.iadd, 1) := by decide +kernel
theorem d138_289 : decode (tBc 138) 289 = .ok (.iload 6, 2) := by decide +kernel
theorem d138_291 : decode (tBc 138) 291 = .ok (.ishl, 1) := by decide +kernel
theorem d138_292 : decode (tBc 138) 292 = .ok (.ior, 1) := by decide +kernel
theorem d138_293 : decode (tBc 138) 293 = .ok (.istore 5, 2) := by decide +kernel
theorem d138_295 : decode (tBc 138) 295 = .ok (.aload_n 0, 1) := by decide +kernel
theorem d138_296 : decode (tBc 138) 296 = .ok (.getfield 65, 3) := by decide +kernel
theorem d138_299 : decode (tBc 138) 299 = .ok (.iload_n 2, 1) := by decide +kernel
theorem d138_300 : decode (tBc 138) 300 = .ok (.bipush 21, 2) := by decide +kernel
theorem d138_302 : decode (tBc 138) 302 = .ok (.isub, 1) := by decide +kernel
theorem d138_303 : decode (tBc 138) 303 = .ok (.iconst (-1), 1) := by decide +kernel
theorem d138_304 : decode (tBc 138) 304 = .ok (.iastore, 1) := by decide +kernel
theorem d138_305 : decode (tBc 138) 305 = .ok (.aload_n 0, 1) := by decide +kernel
theorem d138_306 : decode (tBc 138) 306 = .ok (.iload_n 3, 1) := by decide +kernel
theorem d138_307 : decode (tBc 138) 307 = .ok (.iload 4, 2) := by decide +kernel
theorem d138_309 : decode (tBc 138) 309 = .ok (.iload 5, 2) := by decide +kernel
theorem d138_311 : decode (tBc 138) 311 = .ok (.invokevirtual 310, 3) := by decide +kernel
theorem d138_314 : decode (tBc 138) 314 = .ok (.aload_n 0, 1) := by decide +kernel
theorem d138_315 : decode (tBc 138) 315 = .ok (.getfield 215, 3) := by decide +kernel
theorem d138_318 : decode (tBc 138) 318 = .ok (.ifCond .ne 7, 3) := by decide +kernel
theorem d138_321 : decode (tBc 138) 321 = .ok (.aload_n 0, 1) := by decide +kernel
theorem d138_322 : decode (tBc 138) 322 = .ok (.invokevirtual 313, 3) := by decide +kernel
theorem d138_325 : decode (tBc 138) 325 = .ok (.return_, 1) := by decide +kernel
theorem d139_0 : decode (tBc 139) 0 = .ok (.sipush 314, 3) := by decide +kernel
theorem d139_3 : decode (tBc 139) 3 = .ok (.iload_n 1, 1) := by decide +kernel
theorem d139_4 : decode (tBc 139) 4 = .ok (.imul, 1) := by decide +kernel
theorem d139_5 : decode (tBc 139) 5 = .ok (.istore_n 2, 1) := by decide +kernel
theorem d139_6 : decode (tBc 139) 6 = .ok (.iconst 0, 1) := by decide +kernel
theorem d139_7 : decode (tBc 139) 7 = .ok (.istore_n 3, 1) := by decide +kernel
theorem d139_8 : decode (tBc 139) 8 = .ok (.iload_n 3, 1) := by decide +kernel
theorem d139_9 : decode (tBc 139) 9 = .ok (.bipush 21, 2) := by decide +kernel
theorem d139_11 : decode (tBc 139) 11 = .ok (.if_icmp .ge 57, 3) := by decide +kernel
theorem d139_14 : decode (tBc 139) 14 = .ok (.aload_n 0, 1) := by decide +kernel
theorem d139_15 : decode (tBc 139) 15 = .ok (.getfield 44, 3) := by decide +kernel
theorem d139_18 : decode (tBc 139) 18 = .ok (.iload_n 3, 1) := by decide +kernel
theorem d139_19 : decode (tBc 139) 19 = .ok (.aload_n 0, 1) := by decide +kernel
theorem d139_20 : decode (tBc 139) 20 = .ok (.getfield 120, 3) := by decide +kernel
theorem d139_23 : decode (tBc 139) 23 = .ok (.iload_n 2, 1) := by decide +kernel
theorem d139_24 : decode (tBc 139) 24 = .ok (.iload_n 3, 1) := by decide +kernel
theorem d139_25 : decode (tBc 139) 25 = .ok (.iadd, 1) := by decide +kernel
theorem d139_26 : decode (tBc 139) 26 = .ok (.iaload, 1) := by decide +kernel
theorem d139_27 : decode (tBc 139) 27 = .ok (.iastore, 1) := by decide +kernel
theorem d139_28 : decode (tBc 139) 28 = .ok (.aload_n 0, 1) := by decide +kernel
theorem d139_29 : decode (tBc 139) 29 = .ok (.getfield 47, 3) := by decide +kernel
theorem d139_32 : decode (tBc 139) 32 = .ok (.iload_n 3, 1) := by decide +kernel
theorem d139_33 : decode (tBc 139) 33 = .ok (.aload_n 0, 1) := by decide +kernel
theorem d139_34 : decode (tBc 139) 34 = .ok (.getfield 120, 3) := by decide +kernel
theorem d139_37 : decode (tBc 139) 37 = .ok (.iload_n 2, 1) := by decide +kernel
theorem d139_38 : decode (tBc 139) 38 = .ok (.bipush 21, 2) := by decide +kernel
theorem d139_40 : decode (tBc 139) 40 = .ok (.iadd, 1) := by decide +kernel
theorem d139_41 : decode (tBc 139) 41 = .ok (.iload_n 3, 1) := by decide +kernel
theorem d139_42 : decode (tBc 139) 42 = .ok (.iadd, 1) := by decide +kernel
theorem d139_43 : decode (tBc 139) 43 = .ok (.iaload, 1) := by decide +kernel
theorem d139_44 : decode (tBc 139) 44 = .ok (.iastore, 1) := by decide +kernel
theorem d139_45 : decode (tBc 139) 45 = .ok (.aload_n 0, 1) := by decide +kernel
theorem d139_46 : decode (tBc 139) 46 = .ok (.getfield 50, 3) := by decide +kernel
theorem d139_49 : decode (tBc 139) 49 = .ok (.iload_n 3, 1) := by decide +kernel
theorem d139_50 : decode (tBc 139) 50 = .ok (.aload_n 0, 1) := by decide +kernel
theorem d139_51 : decode (tBc 139) 51 = .ok (.getfield 120, 3) := by decide +kernel
theorem d139_54 : decode (tBc 139) 54 = .ok (.iload_n 2, 1) := by decide +kernel
theorem d139_55 : decode (tBc 139) 55 = .ok (.bipush 42, 2) := by decide +kernel
theorem d139_57 : decode (tBc 139) 57 = .ok (.iadd, 1) := by decide +kernel
theorem d139_58 : decode (tBc 139) 58 = .ok (.iload_n 3, 1) := by decide +kernel
theorem d139_59 : decode (tBc 139) 59 = .ok (.iadd, 1) := by decide +kernel
theorem d139_60 : decode (tBc 139) 60 = .ok (.iaload, 1) := by decide +kernel
theorem d139_61 : decode (tBc 139) 61 = .ok (.iastore, 1) := by decide +kernel
theorem d139_62 : decode (tBc 139) 62 = .ok (.iinc 3 1, 3) := by decide +kernel
theorem d139_65 : decode (tBc 139) 65 = .ok (.goto (-57), 3) := by decide +kernel
theorem d139_68 : decode (tBc 139) 68 = .ok (.iconst 0, 1) := by decide +kernel
theorem d139_69 : decode (tBc 139) 69 = .ok (.istore_n 3, 1) := by decide +kernel
theorem d139_70 : decode (tBc 139) 70 = .ok (.iload_n 3, 1) := by decide +kernel
theorem d139_71 : decode (tBc 139) 71 = .ok (.bipush 40, 2) := by decide +kernel
theorem d139_73 : decode (tBc 139) 73 = .ok (.if_icmp .ge 79, 3) := by decide +kernel
theorem d139_76 : decode (tBc 139) 76 = .ok (.aload_n 0, 1) := by decide +kernel
theorem d139_77 : decode (tBc 139) 77 = .ok (.getfield 53, 3) := by decide +kernel
theorem d139_80 : decode (tBc 139) 80 = .ok (.iload_n 3, 1) := by decide +kernel
theorem d139_81 : decode (tBc 139) 81 = .ok (.aload_n 0, 1) := by decide +kernel
theorem d139_82 : decode (tBc 139) 82 = .ok (.getfield 120, 3) := by decide +kernel
theorem d139_85 : decode (tBc 139) 85 = .ok (.iload_n 2, 1) := by decide +kernel
theorem d139_86 : decode (tBc 139) 86 = .ok (.bipush 63, 2) := by decide +kernel
theorem d139_88 : decode (tBc 139) 88 = .ok (.iadd, 1) := by decide +kernel
theorem d139_89 : decode (tBc 139) 89 = .ok (.iload_n 3, 1) := by decide +kernel
theorem d139_90 : decode (tBc 139) 90 = .ok (.iadd, 1) := by decide +kernel
theorem d139_91 : decode (tBc 139) 91 = .ok (.iaload, 1) := by decide +kernel
theorem d139_92 : decode (tBc 139) 92 = .ok (.iastore, 1) := by decide +kernel
theorem d139_93 : decode (tBc 139) 93 = .ok (.aload_n 0, 1) := by decide +kernel
theorem d139_94 : decode (tBc 139) 94 = .ok (.getfield 56, 3) := by decide +kernel
theorem d139_97 : decode (tBc 139) 97 = .ok (.iload_n 3, 1) := by decide +kernel
theorem d139_98 : decode (tBc 139) 98 = .ok (.aload_n 0, 1) := by decide +kernel
theorem d139_99 : decode (tBc 139) 99 = .ok (.getfield 120, 3) := by decide +kernel
theorem d139_102 : decode (tBc 139) 102 = .ok (.iload_n 2, 1) := by decide +kernel
theorem d139_103 : decode (tBc 139) 103 = .ok (.bipush 103, 2) := by decide +kernel
theorem d139_105 : decode (tBc 139) 105 = .ok (.iadd, 1) := by decide +kernel
theorem d139_106 : decode (tBc 139) 106 = .ok (.iload_n 3, 1) := by decide +kernel
theorem d139_107 : decode (tBc 139) 107 = .ok (.iadd, 1) := by decide +kernel
theorem d139_108 : decode (tBc 139) 108 = .ok (.iaload, 1) := by decide +kernel
theorem d139_109 : decode (tBc 139) 109 = .ok (.iastore, 1) := by decide +kernel
theorem d139_110 : decode (tBc 139) 110 = .ok (.aload_n 0, 1) := by decide +kernel
theorem d139_111 : decode (tBc 139) 111 = .ok (.getfield 59, 3) := by decide +kernel
theorem d139_114 : decode (tBc 139) 114 = .ok (.iload_n 3, 1) := by decide +kernel
theorem d139_115 : decode (tBc 139) 115 = .ok (.aload_n 0, 1) := by decide +kernel
theorem d139_116 : decode (tBc 139) 116 = .ok (.getfield 120, 3) := by decide +kernel
theorem d139_119 : decode (tBc 139) 119 = .ok (.iload_n 2, 1) := by decide +kernel
theorem d139_120 : decode (tBc 139) 120 = .ok (.sipush 143, 3) := by decide +kernel
theorem d139_123 : decode (tBc 139) 123 = .ok (.iadd, 1) := by decide +kernel
theorem d139_124 : decode (tBc 139) 124 = .ok (.iload_n 3, 1) := by decide +kernel
theorem d139_125 : decode (tBc 139) 125 = .ok (.iadd, 1) := by decide +kernel
theorem d139_126 : decode (tBc 139) 126 = .ok (.iaload, 1) := by decide +kernel
theorem d139_127 : decode (tBc 139) 127 = .ok (.iastore, 1) := by decide +kernel
theorem d139_128 : decode (tBc 139) 128 = .ok (.aload_n 0, 1) := by decide +kernel
theorem d139_129 : decode (tBc 139) 129 = .ok (.getfield 62, 3) := by decide +kernel
theorem d139_132 : decode (tBc 139) 132 = .ok (.iload_n 3, 1) := by decide +kernel
theorem d139_133 : decode (tBc 139) 133 = .ok (.aload_n 0, 1) := by decide +kernel
theorem d139_134 : decode (tBc 139) 134 = .ok (.getfield 120, 3) := by decide +kernel
theorem d139_137 : decode (tBc 139) 137 = .ok (.iload_n 2, 1) := by decide +kernel
theorem d139_138 : decode (tBc 139) 138 = .ok (.sipush 183, 3) := by decide +kernel
theorem d139_141 : decode (tBc 139) 141 = .ok (.iadd, 1) := by decide +kernel
theorem d139_142 : decode (tBc 139) 142 = .ok (.iload_n 3, 1) := by decide +kernel
theorem d139_143 : decode (tBc 139) 143 = .ok (.iadd, 1) := by decide +kernel
theorem d139_144 : decode (tBc 139) 144 = .ok (.iaload, 1) := by decide +kernel
theorem d139_145 : decode (tBc 139) 145 = .ok (.iastore, 1) := by decide +kernel
theorem d139_146 : decode (tBc 139) 146 = .ok (.iinc 3 1, 3) := by decide +kernel
theorem d139_149 : decode (tBc 139) 149 = .ok (.goto (-79), 3) := by decide +kernel
theorem d139_152 : decode (tBc 139) 152 = .ok (.iconst 0, 1) := by decide +kernel
theorem d139_153 : decode (tBc 139) 153 = .ok (.istore_n 3, 1) := by decide +kernel
theorem d139_154 : decode (tBc 139) 154 = .ok (.iload_n 3, 1) := by decide +kernel
theorem d139_155 : decode (tBc 139) 155 = .ok (.bipush 30, 2) := by decide +kernel
theorem d139_157 : decode (tBc 139) 157 = .ok (.if_icmp .ge 63, 3) := by decide +kernel
theorem d139_160 : decode (tBc 139) 160 = .ok (.aload_n 0, 1) := by decide +kernel
theorem d139_161 : decode (tBc 139) 161 = .ok (.getfield 65, 3) := by decide +kernel
theorem d139_164 : decode (tBc 139) 164 = .ok (.iload_n 3, 1) := by decide +kernel
theorem d139_165 : decode (tBc 139) 165 = .ok (.aload_n 0, 1) := by decide +kernel
theorem d139_166 : decode (tBc 139) 166 = .ok (.getfield 120, 3) := by decide +kernel
theorem d139_169 : decode (tBc 139) 169 = .ok (.iload_n 2, 1) := by decide +kernel
theorem d139_170 : decode (tBc 139) 170 = .ok (.sipush 223, 3) := by decide +kernel
theorem d139_173 : decode (tBc 139) 173 = .ok (.iadd, 1) := by decide +kernel
theorem d139_174 : decode (tBc 139) 174 = .ok (.iload_n 3, 1) := by decide +kernel
theorem d139_175 : decode (tBc 139) 175 = .ok (.iadd, 1) := by decide +kernel
theorem d139_176 : decode (tBc 139) 176 = .ok (.iaload, 1) := by decide +kernel
theorem d139_177 : decode (tBc 139) 177 = .ok (.iastore, 1) := by decide +kernel
theorem d139_178 : decode (tBc 139) 178 = .ok (.aload_n 0, 1) := by decide +kernel
theorem d139_179 : decode (tBc 139) 179 = .ok (.getfield 68, 3) := by decide +kernel
theorem d139_182 : decode (tBc 139) 182 = .ok (.iload_n 3, 1) := by decide +kernel
theorem d139_183 : decode (tBc 139) 183 = .ok (.aload_n 0, 1) := by decide +kernel
theorem d139_184 : decode (tBc 139) 184 = .ok (.getfield 120, 3) := by decide +kernel
theorem d139_187 : decode (tBc 139) 187 = .ok (.iload_n 2, 1) := by decide +kernel
theorem d139_188 : decode (tBc 139) 188 = .ok (.sipush 253, 3) := by decide +kernel
theorem d139_191 : decode (tBc 139) 191 = .ok (.iadd, 1) := by decide +kernel
theorem d139_192 : decode (tBc 139) 192 = .ok (.iload_n 3, 1) := by decide +kernel
theorem d139_193 : decode (tBc 139) 193 = .ok (.iadd, 1) := by decide +kernel
theorem d139_194 : decode (tBc 139) 194 = .ok (.iaload, 1) := by decide +kernel
theorem d139_195 : decode (tBc 139) 195 = .ok (.iastore, 1) := by decide +kernel
theorem d139_196 : decode (tBc 139) 196 = .ok (.aload_n 0, 1) := by decide +kernel
theorem d139_197 : decode (tBc 139) 197 = .ok (.getfield 71, 3) := by decide +kernel
theorem d139_200 : decode (tBc 139) 200 = .ok (.iload_n 3, 1) := by decide +kernel
theorem d139_201 : decode (tBc 139) 201 = .ok (.aload_n 0, 1) := by decide +kernel
theorem d139_202 : decode (tBc 139) 202 = .ok (.getfield 120, 3) := by decide +kernel
theorem d139_205 : decode (tBc 139) 205 = .ok (.iload_n 2, 1) := by decide +kernel
theorem d139_206 : decode (tBc 139) 206 = .ok (.sipush 283, 3) := by decide +kernel
theorem d139_209 : decode (tBc 139) 209 = .ok (.iadd, 1) := by decide +kernel
theorem d139_210 : decode (tBc 139) 210 = .ok (.iload_n 3, 1) := by decide +kernel
theorem d139_211 : decode (tBc 139) 211 = .ok (.iadd, 1) := by decide +kernel
theorem d139_212 : decode (tBc 139) 212 = .ok (.iaload, 1) := by decide +kernel
theorem d139_213 : decode (tBc 139) 213 = .ok (.iastore, 1) := by decide +kernel
theorem d139_214 : decode (tBc 139) 214 = .ok (.iinc 3 1, 3) := by decide +kernel
theorem d139_217 : decode (tBc 139) 217 = .ok (.goto (-63), 3) := by decide +kernel
theorem d139_220 : decode (tBc 139) 220 = .ok (.aload_n 0, 1) := by decide +kernel
theorem d139_221 : decode (tBc 139) 221 = .ok (.aload_n 0, 1) := by decide +kernel
theorem d139_222 : decode (tBc 139) 222 = .ok (.getfield 120, 3) := by decide +kernel
theorem d139_225 : decode (tBc 139) 225 = .ok (.iload_n 2, 1) := by decide +kernel
theorem d139_226 : decode (tBc 139) 226 = .ok (.sipush 313, 3) := by decide +kernel
theorem d139_229 : decode (tBc 139) 229 = .ok (.iadd, 1) := by decide +kernel
theorem d139_230 : decode (tBc 139) 230 = .ok (.iaload, 1) := by decide +kernel
theorem d139_231 : decode (tBc 139) 231 = .ok (.putfield 209, 3) := by decide +kernel
theorem d139_234 : decode (tBc 139) 234 = .ok (.aload_n 0, 1) := by decide +kernel
theorem d139_235 : decode (tBc 139) 235 = .ok (.iconst 0, 1) := by decide +kernel
theorem d139_236 : decode (tBc 139) 236 = .ok (.putfield 215, 3) := by decide +kernel
theorem d139_239 : decode (tBc 139) 239 = .ok (.return_, 1) := by decide +kernel
theorem d140_0 : decode (tBc 140) 0 = .ok (.aload_n 0, 1) := by decide +kernel
theorem d140_1 : decode (tBc 140) 1 = .ok (.iconst 0, 1) := by decide +kernel
theorem d140_2 : decode (tBc 140) 2 = .ok (.putfield 141, 3) := by decide +kernel
theorem d140_5 : decode (tBc 140) 5 = .ok (.iload_n 1, 1) := by decide +kernel
theorem d140_6 : decode (tBc 140) 6 = .ok (.iconst 1, 1) := by decide +kernel
theorem d140_7 : decode (tBc 140) 7 = .ok (.bipush 30, 2) := by decide +kernel
theorem d140_9 : decode (tBc 140) 9 = .ok (.invokestatic 148, 3) := by decide +kernel
theorem d140_12 : decode (tBc 140) 12 = .ok (.ifCond .ne 9, 3) := by decide +kernel
theorem d140_15 : decode (tBc 140) 15 = .ok (.aload_n 0, 1) := by decide +kernel
theorem d140_16 : decode (tBc 140) 16 = .ok (.iconst 1, 1) := by decide +kernel
theorem d140_17 : decode (tBc 140) 17 = .ok (.invokevirtual 152, 3) := by decide +kernel
theorem d140_20 : decode (tBc 140) 20 = .ok (.ireturn, 1) := by decide +kernel
theorem d140_21 : decode (tBc 140) 21 = .ok (.iconst 0, 1) := by decide +kernel
theorem d140_22 : decode (tBc 140) 22 = .ok (.istore_n 2, 1) := by decide +kernel
theorem d140_23 : decode (tBc 140) 23 = .ok (.iload_n 2, 1) := by decide +kernel
theorem d140_24 : decode (tBc 140) 24 = .ok (.iload_n 1, 1) := by decide +kernel
theorem d140_25 : decode (tBc 140) 25 = .ok (.if_icmp .ge 31, 3) := by decide +kernel
theorem d140_28 : decode (tBc 140) 28 = .ok (.aload_n 0, 1) := by decide +kernel
theorem d140_29 : decode (tBc 140) 29 = .ok (.bipush (-2), 2) := by decide +kernel
theorem d140_31 : decode (tBc 140) 31 = .ok (.invokevirtual 334, 3) := by decide +kernel
theorem d140_34 : decode (tBc 140) 34 = .ok (.ifCond .le 22, 3) := by decide +kernel
theorem d140_37 : decode (tBc 140) 37 = .ok (.aload_n 0, 1) := by decide +kernel
theorem d140_38 : decode (tBc 140) 38 = .ok (.invokevirtual 337, 3) := by decide +kernel
theorem d140_41 : decode (tBc 140) 41 = .ok (.ifCond .ne 9, 3) := by decide +kernel
theorem d140_44 : decode (tBc 140) 44 = .ok (.aload_n 0, 1) := by decide +kernel
theorem d140_45 : decode (tBc 140) 45 = .ok (.iconst 2, 1) := by decide +kernel
theorem d140_46 : decode (tBc 140) 46 = .ok (.invokevirtual 152, 3) := by decide +kernel
theorem d140_49 : decode (tBc 140) 49 = .ok (.ireturn, 1) := by decide +kernel
theorem d140_50 : decode (tBc 140) 50 = .ok (.iinc 2 1, 3) := by decide +kernel
theorem d140_53 : decode (tBc 140) 53 = .ok (.goto (-30), 3) := by decide +kernel
theorem d140_56 : decode (tBc 140) 56 = .ok (.iload_n 2, 1) := by decide +kernel
theorem d140_57 : decode (tBc 140) 57 = .ok (.ireturn, 1) := by decide +kernel
theorem d141_0 : decode (tBc 141) 0 = .ok (.aload_n 0, 1) := by decide +kernel
theorem d141_1 : decode (tBc 141) 1 = .ok (.iconst 0, 1) := by decide +kernel
theorem d141_2 : decode (tBc 141) 2 = .ok (.putfield 141, 3) := by decide +kernel
theorem d141_5 : decode (tBc 141) 5 = .ok (.iload_n 1, 1) := by decide +kernel
theorem d141_6 : decode (tBc 141) 6 = .ok (.iconst 0, 1) := by decide +kernel
theorem d141_7 : decode (tBc 141) 7 = .ok (.iconst 4, 1) := by decide +kernel
theorem d141_8 : decode (tBc 141) 8 = .ok (.invokestatic 148, 3) := by decide +kernel
theorem d141_11 : decode (tBc 141) 11 = .ok (.ifCond .ne 9, 3) := by decide +kernel
theorem d141_14 : decode (tBc 141) 14 = .ok (.aload_n 0, 1) := by decide +kernel
theorem d141_15 : decode (tBc 141) 15 = .ok (.iconst 1, 1) := by decide +kernel
theorem d141_16 : decode (tBc 141) 16 = .ok (.invokevirtual 152, 3) := by decide +kernel
theorem d141_19 : decode (tBc 141) 19 = .ok (.ireturn, 1) := by decide +kernel
theorem d141_20 : decode (tBc 141) 20 = .ok (.iconst 0, 1) := by decide +kernel
theorem d141_21 : decode (tBc 141) 21 = .ok (.istore_n 2, 1) := by decide +kernel
theorem d141_22 : decode (tBc 141) 22 = .ok (.iconst 1, 1) := by decide +kernel
theorem d141_23 : decode (tBc 141) 23 = .ok (.istore_n 3, 1) := by decide +kernel
theorem d141_24 : decode (tBc 141) 24 = .ok (.iload_n 3, 1) := by decide +kernel
theorem d141_25 : decode (tBc 141) 25 = .ok (.bipush 21, 2) := by decide +kernel
theorem d141_27 : decode (tBc 141) 27 = .ok (.if_icmp .ge 30, 3) := by decide +kernel
theorem d141_30 : decode (tBc 141) 30 = .ok (.iload_n 1, 1) := by decide +kernel
theorem d141_31 : decode (tBc 141) 31 = .ok (.ifCond .ne 26, 3) := by decide +kernel
theorem d141_34 : decode (tBc 141) 34 = .ok (.iload_n 2, 1) := by decide +kernel
theorem d141_35 : decode (tBc 141) 35 = .ok (.aload_n 0, 1) := by decide +kernel
theorem d141_36 : decode (tBc 141) 36 = .ok (.getfield 44, 3) := by decide +kernel
theorem d141_39 : decode (tBc 141) 39 = .ok (.iload_n 3, 1) := by decide +kernel
theorem d141_40 : decode (tBc 141) 40 = .ok (.iaload, 1) := by decide +kernel
theorem d141_41 : decode (tBc 141) 41 = .ok (.ifCond .lt 7, 3) := by decide +kernel
theorem d141_44 : decode (tBc 141) 44 = .ok (.iconst 1, 1) := by decide +kernel
theorem d141_45 : decode (tBc 141) 45 = .ok (.goto 4, 3) := by decide +kernel
theorem d141_48 : decode (tBc 141) 48 = .ok (.iconst 0, 1) := by decide +kernel
theorem d141_49 : decode (tBc 141) 49 = .ok (.iadd, 1) := by decide +kernel
theorem d141_50 : decode (tBc 141) 50 = .ok (.istore_n 2, 1) := by decide +kernel
theorem d141_51 : decode (tBc 141) 51 = .ok (.iinc 3 1, 3) := by decide +kernel
theorem d141_54 : decode (tBc 141) 54 = .ok (.goto (-30), 3) := by decide +kernel
theorem d141_57 : decode (tBc 141) 57 = .ok (.iconst 0, 1) := by decide +kernel
theorem d141_58 : decode (tBc 141) 58 = .ok (.istore_n 3, 1) := by decide +kernel
theorem d141_59 : decode (tBc 141) 59 = .ok (.iload_n 3, 1) := by decide +kernel
theorem d141_60 : decode (tBc 141) 60 = .ok (.bipush 40, 2) := by decide +kernel
theorem d141_62 : decode (tBc 141) 62 = .ok (.if_icmp .ge 31, 3) := by decide +kernel
theorem d141_65 : decode (tBc 141) 65 = .ok (.iload_n 1, 1) := by decide +kernel
theorem d141_66 : decode (tBc 141) 66 = .ok (.iconst 1, 1) := by decide +kernel
theorem d141_67 : decode (tBc 141) 67 = .ok (.if_icmp .ne 26, 3) := by decide +kernel
theorem d141_70 : decode (tBc 141) 70 = .ok (.iload_n 2, 1) := by decide +kernel
theorem d141_71 : decode (tBc 141) 71 = .ok (.aload_n 0, 1) := by decide +kernel
theorem d141_72 : decode (tBc 141) 72 = .ok (.getfield 53, 3) := by decide +kernel
theorem d141_75 : decode (tBc 141) 75 = .ok (.iload_n 3, 1) := by decide +kernel
theorem d141_76 : decode (tBc 141) 76 = .ok (.iaload, 1) := by decide +kernel
theorem d141_77 : decode (tBc 141) 77 = .ok (.ifCond .lt 7, 3) := by decide +kernel
theorem d141_80 : decode (tBc 141) 80 = .ok (.iconst 1, 1) := by decide +kernel
theorem d141_81 : decode (tBc 141) 81 = .ok (.goto 4, 3) := by decide +kernel
theorem d141_84 : decode (tBc 141) 84 = .ok (.iconst 0, 1) := by decide +kernel
theorem d141_85 : decode (tBc 141) 85 = .ok (.iadd, 1) := by decide +kernel
theorem d141_86 : decode (tBc 141) 86 = .ok (.istore_n 2, 1) := by decide +kernel
theorem d141_87 : decode (tBc 141) 87 = .ok (.iinc 3 1, 3) := by decide +kernel
theorem d141_90 : decode (tBc 141) 90 = .ok (.goto (-31), 3) := by decide +kernel
theorem d141_93 : decode (tBc 141) 93 = .ok (.iconst 0, 1) := by decide +kernel
theorem d141_94 : decode (tBc 141) 94 = .ok (.istore_n 3, 1) := by decide +kernel
theorem d141_95 : decode (tBc 141) 95 = .ok (.iload_n 3, 1) := by decide +kernel
theorem d141_96 : decode (tBc 141) 96 = .ok (.bipush 30, 2) := by decide +kernel
theorem d141_98 : decode (tBc 141) 98 = .ok (.if_icmp .ge 31, 3) := by decide +kernel
theorem d141_101 : decode (tBc 141) 101 = .ok (.iload_n 1, 1) := by decide +kernel
theorem d141_102 : decode (tBc 141) 102 = .ok (.iconst 2, 1) := by decide +kernel
theorem d141_103 : decode (tBc 141) 103 = .ok (.if_icmp .ne 26, 3) := by decide +kernel
theorem d141_106 : decode (tBc 141) 106 = .ok (.iload_n 2, 1) := by decide +kernel
theorem d141_107 : decode (tBc 141) 107 = .ok (.aload_n 0, 1) := by decide +kernel
theorem d141_108 : decode (tBc 141) 108 = .ok (.getfield 65, 3) := by decide +kernel
theorem d141_111 : decode (tBc 141) 111 = .ok (.iload_n 3, 1) := by decide +kernel
theorem d141_112 : decode (tBc 141) 112 = .ok (.iaload, 1) := by decide +kernel
theorem d141_113 : decode (tBc 141) 113 = .ok (.ifCond .lt 7, 3) := by decide +kernel
theorem d141_116 : decode (tBc 141) 116 = .ok (.iconst 1, 1) := by decide +kernel
theorem d141_117 : decode (tBc 141) 117 = .ok (.goto 4, 3) := by decide +kernel
theorem d141_120 : decode (tBc 141) 120 = .ok (.iconst 0, 1) := by decide +kernel
theorem d141_121 : decode (tBc 141) 121 = .ok (.iadd, 1) := by decide +kernel
theorem d141_122 : decode (tBc 141) 122 = .ok (.istore_n 2, 1) := by decide +kernel
theorem d141_123 : decode (tBc 141) 123 = .ok (.iinc 3 1, 3) := by decide +kernel
theorem d141_126 : decode (tBc 141) 126 = .ok (.goto (-31), 3) := by decide +kernel
theorem d141_129 : decode (tBc 141) 129 = .ok (.iload_n 1, 1) := by decide +kernel
theorem d141_130 : decode (tBc 141) 130 = .ok (.iconst 3, 1) := by decide +kernel
theorem d141_131 : decode (tBc 141) 131 = .ok (.if_icmp .ge 7, 3) := by decide +kernel
theorem d141_134 : decode (tBc 141) 134 = .ok (.iload_n 2, 1) := by decide +kernel
theorem d141_135 : decode (tBc 141) 135 = .ok (.goto 19, 3) := by decide +kernel
theorem d141_138 : decode (tBc 141) 138 = .ok (.iload_n 1, 1) := by decide +kernel
theorem d141_139 : decode (tBc 141) 139 = .ok (.iconst 3, 1) := by decide +kernel
theorem d141_140 : decode (tBc 141) 140 = .ok (.if_icmp .ne 10, 3) := by decide +kernel
theorem d141_143 : decode (tBc 141) 143 = .ok (.aload_n 0, 1) := by decide +kernel
theorem d141_144 : decode (tBc 141) 144 = .ok (.getfield 209, 3) := by decide +kernel
theorem d141_147 : decode (tBc 141) 147 = .ok (.goto 7, 3) := by decide +kernel
theorem d141_150 : decode (tBc 141) 150 = .ok (.aload_n 0, 1) := by decide +kernel
theorem d141_151 : decode (tBc 141) 151 = .ok (.getfield 212, 3) := by decide +kernel
theorem d141_154 : decode (tBc 141) 154 = .ok (.ireturn, 1) := by decide +kernel
theorem d142_0 : decode (tBc 142) 0 = .ok (.aload_n 0, 1) := by decide +kernel
theorem d142_1 : decode (tBc 142) 1 = .ok (.iconst 0, 1) := by decide +kernel
theorem d142_2 : decode (tBc 142) 2 = .ok (.putfield 141, 3) := by decide +kernel
theorem d142_5 : decode (tBc 142) 5 = .ok (.iload_n 1, 1) := by decide +kernel
theorem d142_6 : decode (tBc 142) 6 = .ok (.ifCond .ge 9, 3) := by decide +kernel
theorem d142_9 : decode (tBc 142) 9 = .ok (.aload_n 0, 1) := by decide +kernel
theorem d142_10 : decode (tBc 142) 10 = .ok (.iconst 1, 1) := by decide +kernel
theorem d142_11 : decode (tBc 142) 11 = .ok (.invokevirtual 152, 3) := by decide +kernel
theorem d142_14 : decode (tBc 142) 14 = .ok (.ireturn, 1) := by decide +kernel
theorem d142_15 : decode (tBc 142) 15 = .ok (.iload_n 1, 1) := by decide +kernel
theorem d142_16 : decode (tBc 142) 16 = .ok (.aload_n 0, 1) := by decide +kernel
theorem d142_17 : decode (tBc 142) 17 = .ok (.getfield 219, 3) := by decide +kernel
theorem d142_20 : decode (tBc 142) 20 = .ok (.if_icmp .ge 12, 3) := by decide +kernel
theorem d142_23 : decode (tBc 142) 23 = .ok (.aload_n 0, 1) := by decide +kernel
theorem d142_24 : decode (tBc 142) 24 = .ok (.getfield 89, 3) := by decide +kernel
theorem d142_27 : decode (tBc 142) 27 = .ok (.iload_n 1, 1) := by decide +kernel
theorem d142_28 : decode (tBc 142) 28 = .ok (.iaload, 1) := by decide +kernel
theorem d142_29 : decode (tBc 142) 29 = .ok (.goto 4, 3) := by decide +kernel
theorem d142_32 : decode (tBc 142) 32 = .ok (.iconst (-1), 1) := by decide +kernel
theorem d142_33 : decode (tBc 142) 33 = .ok (.ireturn, 1) := by decide +kernel
theorem d143_0 : decode (tBc 143) 0 = .ok (.aload_n 0, 1) := by decide +kernel
theorem d143_1 : decode (tBc 143) 1 = .ok (.iconst 0, 1) := by decide +kernel
theorem d143_2 : decode (tBc 143) 2 = .ok (.putfield 141, 3) := by decide +kernel
theorem d143_5 : decode (tBc 143) 5 = .ok (.iload_n 1, 1) := by decide +kernel
theorem d143_6 : decode (tBc 143) 6 = .ok (.iconst 0, 1) := by decide +kernel
theorem d143_7 : decode (tBc 143) 7 = .ok (.iconst 2, 1) := by decide +kernel
theorem d143_8 : decode (tBc 143) 8 = .ok (.invokestatic 148, 3) := by decide +kernel
theorem d143_11 : decode (tBc 143) 11 = .ok (.ifCond .ne 9, 3) := by decide +kernel
theorem d143_14 : decode (tBc 143) 14 = .ok (.aload_n 0, 1) := by decide +kernel
theorem d143_15 : decode (tBc 143) 15 = .ok (.iconst 1, 1) := by decide +kernel
theorem d143_16 : decode (tBc 143) 16 = .ok (.invokevirtual 152, 3) := by decide +kernel
theorem d143_19 : decode (tBc 143) 19 = .ok (.ireturn, 1) := by decide +kernel
theorem d143_20 : decode (tBc 143) 20 = .ok (.aload_n 0, 1) := by decide +kernel
theorem d143_21 : decode (tBc 143) 21 = .ok (.getfield 113, 3) := by decide +kernel
theorem d143_24 : decode (tBc 143) 24 = .ok (.iload_n 1, 1) := by decide +kernel
theorem d143_25 : decode (tBc 143) 25 = .ok (.aload_n 0, 1) := by decide +kernel
theorem d143_26 : decode (tBc 143) 26 = .ok (.getfield 219, 3) := by decide +kernel
theorem d143_29 : decode (tBc 143) 29 = .ok (.iastore, 1) := by decide +kernel
theorem d143_30 : decode (tBc 143) 30 = .ok (.iconst 0, 1) := by decide +kernel
theorem d143_31 : decode (tBc 143) 31 = .ok (.istore_n 2, 1) := by decide +kernel
theorem d143_32 : decode (tBc 143) 32 = .ok (.iload_n 2, 1) := by decide +kernel
theorem d143_33 : decode (tBc 143) 33 = .ok (.bipush 30, 2) := by decide +kernel
theorem d143_35 : decode (tBc 143) 35 = .ok (.if_icmp .ge 25, 3) := by decide +kernel
theorem d143_38 : decode (tBc 143) 38 = .ok (.aload_n 0, 1) := by decide +kernel
theorem d143_39 : decode (tBc 143) 39 = .ok (.getfield 116, 3) := by decide +kernel
theorem d143_42 : decode (tBc 143) 42 = .ok (.bipush 30, 2) := by decide +kernel
theorem d143_44 : decode (tBc 143) 44 = .ok (.iload_n 1, 1) := by decide +kernel
theorem d143_45 : decode (tBc 143) 45 = .ok (.imul, 1) := by decide +kernel
theorem d143_46 : decode (tBc 143) 46 = .ok (.iload_n 2, 1) := by decide +kernel
theorem d143_47 : decode (tBc 143) 47 = .ok (.iadd, 1) := by decide +kernel
theorem d143_48 : decode (tBc 143) 48 = .ok (.aload_n 0, 1) := by decide +kernel
theorem d143_49 : decode (tBc 143) 49 = .ok (.iload_n 2, 1) := by decide +kernel
theorem d143_50 : decode (tBc 143) 50 = .ok (.invokevirtual 340, 3) := by decide +kernel
theorem d143_53 : decode (tBc 143) 53 = .ok (.lastore, 1) := by decide +kernel
theorem d143_54 : decode (tBc 143) 54 = .ok (.iinc 2 1, 3) := by decide +kernel
theorem d143_57 : decode (tBc 143) 57 = .ok (.goto (-25), 3) := by decide +kernel
theorem d143_60 : decode (tBc 143) 60 = .ok (.aload_n 0, 1) := by decide +kernel
theorem d143_61 : decode (tBc 143) 61 = .ok (.getfield 219, 3) := by decide +kernel
theorem d143_64 : decode (tBc 143) 64 = .ok (.ireturn, 1) := by decide +kernel
theorem d144_0 : decode (tBc 144) 0 = .ok (.lconst 0, 1) := by decide +kernel
theorem d144_1 : decode (tBc 144) 1 = .ok (.lstore_n 2, 1) := by decide +kernel
theorem d144_2 : decode (tBc 144) 2 = .ok (.iconst 0, 1) := by decide +kernel
theorem d144_3 : decode (tBc 144) 3 = .ok (.istore 4, 2) := by decide +kernel
theorem d144_5 : decode (tBc 144) 5 = .ok (.iload 4, 2) := by decide +kernel
theorem d144_7 : decode (tBc 144) 7 = .ok (.bipush 8, 2) := by decide +kernel
theorem d144_9 : decode (tBc 144) 9 = .ok (.if_icmp .ge 49, 3) := by decide +kernel
theorem d144_12 : decode (tBc 144) 12 = .ok (.lload_n 2, 1) := by decide +kernel
theorem d144_13 : decode (tBc 144) 13 = .ok (.bipush 8, 2) := by decide +kernel
theorem d144_15 : decode (tBc 144) 15 = .ok (.iload_n 1, 1) := by decide +kernel
theorem d144_16 : decode (tBc 144) 16 = .ok (.imul, 1) := by decide +kernel
theorem d144_17 : decode (tBc 144) 17 = .ok (.iload 4, 2) := by decide +kernel
theorem d144_19 : decode (tBc 144) 19 = .ok (.iadd, 1) := by decide +kernel
theorem d144_20 : decode (tBc 144) 20 = .ok (.aload_n 0, 1) := by decide +kernel
theorem d144_21 : decode (tBc 144) 21 = .ok (.getfield 219, 3) := by decide +kernel
theorem d144_24 : decode (tBc 144) 24 = .ok (.if_icmp .ge 25, 3) := by decide +kernel
theorem d144_27 : decode (tBc 144) 27 = .ok (.aload_n 0, 1) := by decide +kernel
theorem d144_28 : decode (tBc 144) 28 = .ok (.getfield 89, 3) := by decide +kernel
theorem d144_31 : decode (tBc 144) 31 = .ok (.bipush 8, 2) := by decide +kernel
theorem d144_33 : decode (tBc 144) 33 = .ok (.iload_n 1, 1) := by decide +kernel
theorem d144_34 : decode (tBc 144) 34 = .ok (.imul, 1) := by decide +kernel
theorem d144_35 : decode (tBc 144) 35 = .ok (.iload 4, 2) := by decide +kernel
theorem d144_37 : decode (tBc 144) 37 = .ok (.iadd, 1) := by decide +kernel
theorem d144_38 : decode (tBc 144) 38 = .ok (.iaload, 1) := by decide +kernel
theorem d144_39 : decode (tBc 144) 39 = .ok (.i2l, 1) := by decide +kernel
theorem d144_40 : decode (tBc 144) 40 = .ok (.bipush 8, 2) := by decide +kernel
theorem d144_42 : decode (tBc 144) 42 = .ok (.iload 4, 2) := by decide +kernel
theorem d144_44 : decode (tBc 144) 44 = .ok (.imul, 1) := by decide +kernel
theorem d144_45 : decode (tBc 144) 45 = .ok (.lshl, 1) := by decide +kernel
theorem d144_46 : decode (tBc 144) 46 = .ok (.goto 4, 3) := by decide +kernel
theorem d144_49 : decode (tBc 144) 49 = .ok (.lconst 0, 1) := by decide +kernel
theorem d144_50 : decode (tBc 144) 50 = .ok (.lor, 1) := by decide +kernel
theorem d144_51 : decode (tBc 144) 51 = .ok (.lstore_n 2, 1) := by decide +kernel
theorem d144_52 : decode (tBc 144) 52 = .ok (.iinc 4 1, 3) := by decide +kernel
theorem d144_55 : decode (tBc 144) 55 = .ok (.goto (-50), 3) := by decide +kernel
theorem d144_58 : decode (tBc 144) 58 = .ok (.lload_n 2, 1) := by decide +kernel
theorem d144_59 : decode (tBc 144) 59 = .ok (.lreturn, 1) := by decide +kernel
theorem d145_0 : decode (tBc 145) 0 = .ok (.aload_n 0, 1) := by decide +kernel
theorem d145_1 : decode (tBc 145) 1 = .ok (.iconst 0, 1) := by decide +kernel
theorem d145_2 : decode (tBc 145) 2 = .ok (.putfield 141, 3) := by decide +kernel
theorem d145_5 : decode (tBc 145) 5 = .ok (.iload_n 1, 1) := by decide +kernel
theorem d145_6 : decode (tBc 145) 6 = .ok (.iconst 0, 1) := by decide +kernel
theorem d145_7 : decode (tBc 145) 7 = .ok (.iconst 2, 1) := by decide +kernel
theorem d145_8 : decode (tBc 145) 8 = .ok (.invokestatic 148, 3) := by decide +kernel
theorem d145_11 : decode (tBc 145) 11 = .ok (.ifCond .ne 17, 3) := by decide +kernel
theorem d145_14 : decode (tBc 145) 14 = .ok (.aload_n 0, 1) := by decide +kernel
theorem d145_15 : decode (tBc 145) 15 = .ok (.iconst 1, 1) := by decide +kernel
theorem d145_16 : decode (tBc 145) 16 = .ok (.invokevirtual 152, 3) := by decide +kernel
theorem d145_19 : decode (tBc 145) 19 = .ok (.ifCond .le 7, 3) := by decide +kernel
theorem d145_22 : decode (tBc 145) 22 = .ok (.iconst 1, 1) := by decide +kernel
theorem d145_23 : decode (tBc 145) 23 = .ok (.goto 4, 3) := by decide +kernel
theorem d145_26 : decode (tBc 145) 26 = .ok (.iconst 0, 1) := by decide +kernel
theorem d145_27 : decode (tBc 145) 27 = .ok (.ireturn, 1) := by decide +kernel
theorem d145_28 : decode (tBc 145) 28 = .ok (.aload_n 0, 1) := by decide +kernel
theorem d145_29 : decode (tBc 145) 29 = .ok (.getfield 113, 3) := by decide +kernel
theorem d145_32 : decode (tBc 145) 32 = .ok (.iload_n 1, 1) := by decide +kernel
theorem d145_33 : decode (tBc 145) 33 = .ok (.iaload, 1) := by decide +kernel
theorem d145_34 : decode (tBc 145) 34 = .ok (.ifCond .ge 17, 3) := by decide +kernel
theorem d145_37 : decode (tBc 145) 37 = .ok (.aload_n 0, 1) := by decide +kernel
theorem d145_38 : decode (tBc 145) 38 = .ok (.iconst 2, 1) := by decide +kernel
theorem d145_39 : decode (tBc 145) 39 = .ok (.invokevirtual 152, 3) := by decide +kernel
theorem d145_42 : decode (tBc 145) 42 = .ok (.ifCond .le 7, 3) := by decide +kernel
theorem d145_45 : decode (tBc 145) 45 = .ok (.iconst 1, 1) := by decide +kernel
theorem d145_46 : decode (tBc 145) 46 = .ok (.goto 4, 3) := by decide +kernel
theorem d145_49 : decode (tBc 145) 49 = .ok (.iconst 0, 1) := by decide +kernel
theorem d145_50 : decode (tBc 145) 50 = .ok (.ireturn, 1) := by decide +kernel
theorem d145_51 : decode (tBc 145) 51 = .ok (.aload_n 0, 1) := by decide +kernel
theorem d145_52 : decode (tBc 145) 52 = .ok (.getfield 113, 3) := by decide +kernel
theorem d145_55 : decode (tBc 145) 55 = .ok (.iload_n 1, 1) := by decide +kernel
theorem d145_56 : decode (tBc 145) 56 = .ok (.iaload, 1) := by decide +kernel
theorem d145_57 : decode (tBc 145) 57 = .ok (.aload_n 0, 1) := by decide +kernel
theorem d145_58 : decode (tBc 145) 58 = .ok (.getfield 219, 3) := by decide +kernel
theorem d145_61 : decode (tBc 145) 61 = .ok (.if_icmp .ne 7, 3) := by decide +kernel
theorem d145_64 : decode (tBc 145) 64 = .ok (.iconst 1, 1) := by decide +kernel
theorem d145_65 : decode (tBc 145) 65 = .ok (.goto 4, 3) := by decide +kernel
theorem d145_68 : decode (tBc 145) 68 = .ok (.iconst 0, 1) := by decide +kernel
theorem d145_69 : decode (tBc 145) 69 = .ok (.istore_n 2, 1) := by decide +kernel
theorem d145_70 : decode (tBc 145) 70 = .ok (.iconst 0, 1) := by decide +kernel
theorem d145_71 : decode (tBc 145) 71 = .ok (.istore_n 3, 1) := by decide +kernel
theorem d145_72 : decode (tBc 145) 72 = .ok (.iload_n 3, 1) := by decide +kernel
theorem d145_73 : decode (tBc 145) 73 = .ok (.bipush 30, 2) := by decide +kernel
theorem d145_75 : decode (tBc 145) 75 = .ok (.if_icmp .ge 39, 3) := by decide +kernel
theorem d145_78 : decode (tBc 145) 78 = .ok (.iload_n 2, 1) := by decide +kernel
theorem d145_79 : decode (tBc 145) 79 = .ok (.ifCond .eq 27, 3) := by decide +kernel
theorem d145_82 : decode (tBc 145) 82 = .ok (.aload_n 0, 1) := by decide +kernel
theorem d145_83 : decode (tBc 145) 83 = .ok (.getfield 116, 3) := by decide +kernel
theorem d145_86 : decode (tBc 145) 86 = .ok (.bipush 30, 2) := by decide +kernel
theorem d145_88 : decode (tBc 145) 88 = .ok (.iload_n 1, 1) := by decide +kernel
theorem d145_89 : decode (tBc 145) 89 = .ok (.imul, 1) := by decide +kernel
theorem d145_90 : decode (tBc 145) 90 = .ok (.iload_n 3, 1) := by decide +kernel
theorem d145_91 : decode (tBc 145) 91 = .ok (.iadd, 1) := by decide +kernel
theorem d145_92 : decode (tBc 145) 92 = .ok (.laload, 1) := by decide +kernel
theorem d145_93 : decode (tBc 145) 93 = .ok (.aload_n 0, 1) := by decide +kernel
theorem d145_94 : decode (tBc 145) 94 = .ok (.iload_n 3, 1) := by decide +kernel
theorem d145_95 : decode (tBc 145) 95 = .ok (.invokevirtual 340, 3) := by decide +kernel
theorem d145_98 : decode (tBc 145) 98 = .ok (.lcmp, 1) := by decide +kernel
theorem d145_99 : decode (tBc 145) 99 = .ok (.ifCond .ne 7, 3) := by decide +kernel
theorem d145_102 : decode (tBc 145) 102 = .ok (.iconst 1, 1) := by decide +kernel
theorem d145_103 : decode (tBc 145) 103 = .ok (.goto 4, 3) := by decide +kernel
theorem d145_106 : decode (tBc 145) 106 = .ok (.iconst 0, 1) := by decide +kernel
theorem d145_107 : decode (tBc 145) 107 = .ok (.istore_n 2, 1) := by decide +kernel
theorem d145_108 : decode (tBc 145) 108 = .ok (.iinc 3 1, 3) := by decide +kernel
theorem d145_111 : decode (tBc 145) 111 = .ok (.goto (-39), 3) := by decide +kernel
theorem d145_114 : decode (tBc 145) 114 = .ok (.iload_n 2, 1) := by decide +kernel
theorem d145_115 : decode (tBc 145) 115 = .ok (.ireturn, 1) := by decide +kernel
theorem d146_0 : decode (tBc 146) 0 = .ok (.aload_n 0, 1) := by decide +kernel
theorem d146_1 : decode (tBc 146) 1 = .ok (.iconst 0, 1) := by decide +kernel
theorem d146_2 : decode (tBc 146) 2 = .ok (.putfield 141, 3) := by decide +kernel
theorem d146_5 : decode (tBc 146) 5 = .ok (.iload_n 1, 1) := by decide +kernel
theorem d146_6 : decode (tBc 146) 6 = .ok (.iconst 0, 1) := by decide +kernel
theorem d146_7 : decode (tBc 146) 7 = .ok (.iconst 5, 1) := by decide +kernel
theorem d146_8 : decode (tBc 146) 8 = .ok (.invokestatic 148, 3) := by decide +kernel
theorem d146_11 : decode (tBc 146) 11 = .ok (.ifCond .eq 12, 3) := by decide +kernel
theorem d146_14 : decode (tBc 146) 14 = .ok (.iload_n 2, 1) := by decide +kernel
theorem d146_15 : decode (tBc 146) 15 = .ok (.iconst 0, 1) := by decide +kernel
theorem d146_16 : decode (tBc 146) 16 = .ok (.iconst 5, 1) := by decide +kernel
theorem d146_17 : decode (tBc 146) 17 = .ok (.invokestatic 148, 3) := by decide +kernel
theorem d146_20 : decode (tBc 146) 20 = .ok (.ifCond .ne 17, 3) := by decide +kernel
theorem d146_23 : decode (tBc 146) 23 = .ok (.aload_n 0, 1) := by decide +kernel
theorem d146_24 : decode (tBc 146) 24 = .ok (.iconst 1, 1) := by decide +kernel
theorem d146_25 : decode (tBc 146) 25 = .ok (.invokevirtual 152, 3) := by decide +kernel
theorem d146_28 : decode (tBc 146) 28 = .ok (.ifCond .le 7, 3) := by decide +kernel
theorem d146_31 : decode (tBc 146) 31 = .ok (.iconst 1, 1) := by decide +kernel
theorem d146_32 : decode (tBc 146) 32 = .ok (.goto 4, 3) := by decide +kernel
theorem d146_35 : decode (tBc 146) 35 = .ok (.iconst 0, 1) := by decide +kernel
theorem d146_36 : decode (tBc 146) 36 = .ok (.ireturn, 1) := by decide +kernel
theorem d146_37 : decode (tBc 146) 37 = .ok (.aload_n 0, 1) := by decide +kernel
theorem d146_38 : decode (tBc 146) 38 = .ok (.iload_n 1, 1) := by decide +kernel
theorem d146_39 : decode (tBc 146) 39 = .ok (.iload_n 2, 1) := by decide +kernel
theorem d146_40 : decode (tBc 146) 40 = .ok (.invokevirtual 344, 3) := by decide +kernel
theorem d146_43 : decode (tBc 146) 43 = .ok (.ireturn, 1) := by decide +kernel
theorem d147_0 : decode (tBc 147) 0 = .ok (.iconst 0, 1) := by decide +kernel
theorem d147_1 : decode (tBc 147) 1 = .ok (.istore_n 3, 1) := by decide +kernel
theorem d147_2 : decode (tBc 147) 2 = .ok (.iconst 1, 1) := by decide +kernel
theorem d147_3 : decode (tBc 147) 3 = .ok (.istore 4, 2) := by decide +kernel
theorem d147_5 : decode (tBc 147) 5 = .ok (.iload 4, 2) := by decide +kernel
theorem d147_7 : decode (tBc 147) 7 = .ok (.bipush 21, 2) := by decide +kernel
theorem d147_9 : decode (tBc 147) 9 = .ok (.if_icmp .ge 66, 3) := by decide +kernel
theorem d147_12 : decode (tBc 147) 12 = .ok (.iload_n 3, 1) := by decide +kernel
theorem d147_13 : decode (tBc 147) 13 = .ok (.ifCond .ne 50, 3) := by decide +kernel
theorem d147_16 : decode (tBc 147) 16 = .ok (.aload_n 0, 1) := by decide +kernel
theorem d147_17 : decode (tBc 147) 17 = .ok (.getfield 44, 3) := by decide +kernel
theorem d147_20 : decode (tBc 147) 20 = .ok (.iload 4, 2) := by decide +kernel
theorem d147_22 : decode (tBc 147) 22 = .ok (.iaload, 1) := by decide +kernel
theorem d147_23 : decode (tBc 147) 23 = .ok (.ifCond .lt 44, 3) := by decide +kernel
theorem d147_26 : decode (tBc 147) 26 = .ok (.aload_n 0, 1) := by decide +kernel
theorem d147_27 : decode (tBc 147) 27 = .ok (.getfield 50, 3) := by decide +kernel
theorem d147_30 : decode (tBc 147) 30 = .ok (.iload 4, 2) := by decide +kernel
theorem d147_32 : decode (tBc 147) 32 = .ok (.iaload, 1) := by decide +kernel
theorem d147_33 : decode (tBc 147) 33 = .ok (.ifCond .le 34, 3) := by decide +kernel
theorem d147_36 : decode (tBc 147) 36 = .ok (.aload_n 0, 1) := by decide +kernel
theorem d147_37 : decode (tBc 147) 37 = .ok (.getfield 47, 3) := by decide +kernel
theorem d147_40 : decode (tBc 147) 40 = .ok (.iload 4, 2) := by decide +kernel
theorem d147_42 : decode (tBc 147) 42 = .ok (.iaload, 1) := by decide +kernel
theorem d147_43 : decode (tBc 147) 43 = .ok (.iload_n 2, 1) := by decide +kernel
theorem d147_44 : decode (tBc 147) 44 = .ok (.if_icmp .ne 23, 3) := by decide +kernel
theorem d147_47 : decode (tBc 147) 47 = .ok (.aload_n 0, 1) := by decide +kernel
theorem d147_48 : decode (tBc 147) 48 = .ok (.getfield 47, 3) := by decide +kernel
theorem d147_51 : decode (tBc 147) 51 = .ok (.aload_n 0, 1) := by decide +kernel
theorem d147_52 : decode (tBc 147) 52 = .ok (.getfield 50, 3) := by decide +kernel
theorem d147_55 : decode (tBc 147) 55 = .ok (.iload 4, 2) := by decide +kernel
theorem d147_57 : decode (tBc 147) 57 = .ok (.iaload, 1) := by decide +kernel
theorem d147_58 : decode (tBc 147) 58 = .ok (.iaload, 1) := by decide +kernel
theorem d147_59 : decode (tBc 147) 59 = .ok (.iload_n 1, 1) := by decide +kernel
theorem d147_60 : decode (tBc 147) 60 = .ok (.if_icmp .ne 7, 3) := by decide +kernel
theorem d147_63 : decode (tBc 147) 63 = .ok (.iconst 1, 1) := by decide +kernel
theorem d147_64 : decode (tBc 147) 64 = .ok (.goto 4, 3) := by decide +kernel
theorem d147_67 : decode (tBc 147) 67 = .ok (.iconst 0, 1) := by decide +kernel
theorem d147_68 : decode (tBc 147) 68 = .ok (.istore_n 3, 1) := by decide +kernel
theorem d147_69 : decode (tBc 147) 69 = .ok (.iinc 4 1, 3) := by decide +kernel
theorem d147_72 : decode (tBc 147) 72 = .ok (.goto (-67), 3) := by decide +kernel
theorem d147_75 : decode (tBc 147) 75 = .ok (.iload_n 3, 1) := by decide +kernel
theorem d147_76 : decode (tBc 147) 76 = .ok (.ireturn, 1) := by decide +kernel
theorem d148_0 : decode (tBc 148) 0 = .ok (.aload_n 0, 1) := by decide +kernel
theorem d148_1 : decode (tBc 148) 1 = .ok (.iconst 0, 1) := by decide +kernel
theorem d148_2 : decode (tBc 148) 2 = .ok (.putfield 141, 3) := by decide +kernel
theorem d148_5 : decode (tBc 148) 5 = .ok (.iload_n 1, 1) := by decide +kernel
theorem d148_6 : decode (tBc 148) 6 = .ok (.iconst 1, 1) := by decide +kernel
theorem d148_7 : decode (tBc 148) 7 = .ok (.bipush 30, 2) := by decide +kernel
theorem d148_9 : decode (tBc 148) 9 = .ok (.invokestatic 148, 3) := by decide +kernel
theorem d148_12 : decode (tBc 148) 12 = .ok (.ifCond .eq 21, 3) := by decide +kernel
theorem d148_15 : decode (tBc 148) 15 = .ok (.iload_n 2, 1) := by decide +kernel
theorem d148_16 : decode (tBc 148) 16 = .ok (.iconst 0, 1) := by decide +kernel
theorem d148_17 : decode (tBc 148) 17 = .ok (.iconst 5, 1) := by decide +kernel
theorem d148_18 : decode (tBc 148) 18 = .ok (.invokestatic 148, 3) := by decide +kernel
theorem d148_21 : decode (tBc 148) 21 = .ok (.ifCond .eq 12, 3) := by decide +kernel
theorem d148_24 : decode (tBc 148) 24 = .ok (.iload_n 3, 1) := by decide +kernel
theorem d148_25 : decode (tBc 148) 25 = .ok (.iconst 0, 1) := by decide +kernel
theorem d148_26 : decode (tBc 148) 26 = .ok (.iconst 5, 1) := by decide +kernel
theorem d148_27 : decode (tBc 148) 27 = .ok (.invokestatic 148, 3) := by decide +kernel
theorem d148_30 : decode (tBc 148) 30 = .ok (.ifCond .ne 9, 3) := by decide +kernel
theorem d148_33 : decode (tBc 148) 33 = .ok (.aload_n 0, 1) := by decide +kernel
theorem d148_34 : decode (tBc 148) 34 = .ok (.iconst 1, 1) := by decide +kernel
theorem d148_35 : decode (tBc 148) 35 = .ok (.invokevirtual 152, 3) := by decide +kernel
theorem d148_38 : decode (tBc 148) 38 = .ok (.ireturn, 1) := by decide +kernel
theorem d148_39 : decode (tBc 148) 39 = .ok (.aload_n 0, 1) := by decide +kernel
theorem d148_40 : decode (tBc 148) 40 = .ok (.iconst 0, 1) := by decide +kernel
theorem d148_41 : decode (tBc 148) 41 = .ok (.putfield 347, 3) := by decide +kernel
theorem d148_44 : decode (tBc 148) 44 = .ok (.aload_n 0, 1) := by decide +kernel
theorem d148_45 : decode (tBc 148) 45 = .ok (.iconst 0, 1) := by decide +kernel
theorem d148_46 : decode (tBc 148) 46 = .ok (.putfield 356, 3) := by decide +kernel
theorem d148_49 : decode (tBc 148) 49 = .ok (.aload_n 0, 1) := by decide +kernel
theorem d148_50 : decode (tBc 148) 50 = .ok (.iconst 0, 1) := by decide +kernel
theorem d148_51 : decode (tBc 148) 51 = .ok (.putfield 359, 3) := by decide +kernel
theorem d148_54 : decode (tBc 148) 54 = .ok (.aload_n 0, 1) := by decide +kernel
theorem d148_55 : decode (tBc 148) 55 = .ok (.iconst (-1), 1) := by decide +kernel
theorem d148_56 : decode (tBc 148) 56 = .ok (.putfield 353, 3) := by decide +kernel
theorem d148_59 : decode (tBc 148) 59 = .ok (.aload_n 0, 1) := by decide +kernel
theorem d148_60 : decode (tBc 148) 60 = .ok (.iconst 1, 1) := by decide +kernel
theorem d148_61 : decode (tBc 148) 61 = .ok (.putfield 316, 3) := by decide +kernel
theorem d148_64 : decode (tBc 148) 64 = .ok (.aload_n 0, 1) := by decide +kernel
theorem d148_65 : decode (tBc 148) 65 = .ok (.bipush 30, 2) := by decide +kernel
theorem d148_67 : decode (tBc 148) 67 = .ok (.invokevirtual 325, 3) := by decide +kernel
theorem d148_70 : decode (tBc 148) 70 = .ok (.aload_n 0, 1) := by decide +kernel
theorem d148_71 : decode (tBc 148) 71 = .ok (.iconst 0, 1) := by decide +kernel
theorem d148_72 : decode (tBc 148) 72 = .ok (.iload_n 2, 1) := by decide +kernel
theorem d148_73 : decode (tBc 148) 73 = .ok (.iload_n 3, 1) := by decide +kernel
theorem d148_74 : decode (tBc 148) 74 = .ok (.invokevirtual 362, 3) := by decide +kernel
theorem d148_77 : decode (tBc 148) 77 = .ok (.aload_n 0, 1) := by decide +kernel
theorem d148_78 : decode (tBc 148) 78 = .ok (.getfield 356, 3) := by decide +kernel
theorem d148_81 : decode (tBc 148) 81 = .ok (.aload_n 0, 1) := by decide +kernel
theorem d148_82 : decode (tBc 148) 82 = .ok (.getfield 347, 3) := by decide +kernel
theorem d148_85 : decode (tBc 148) 85 = .ok (.if_icmp .ge 152, 3) := by decide +kernel
theorem d148_88 : decode (tBc 148) 88 = .ok (.aload_n 0, 1) := by decide +kernel
theorem d148_89 : decode (tBc 148) 89 = .ok (.getfield 347, 3) := by decide +kernel
theorem d148_92 : decode (tBc 148) 92 = .ok (.iload_n 1, 1) := by decide +kernel
theorem d148_93 : decode (tBc 148) 93 = .ok (.if_icmp .ge 144, 3) := by decide +kernel
theorem d148_96 : decode (tBc 148) 96 = .ok (.iconst 0, 1) := by decide +kernel
theorem d148_97 : decode (tBc 148) 97 = .ok (.istore 4, 2) := by decide +kernel
theorem d148_99 : decode (tBc 148) 99 = .ok (.aload_n 0, 1) := by decide +kernel
theorem d148_100 : decode (tBc 148) 100 = .ok (.aload_n 0, 1) := by decide +kernel
theorem d148_101 : decode (tBc 148) 101 = .ok (.getfield 356, 3) := by decide +kernel
theorem d148_104 : decode (tBc 148) 104 = .ok (.invokevirtual 331, 3) := by decide +kernel
theorem d148_107 : decode (tBc 148) 107 = .ok (.aload_n 0, 1) := by decide +kernel
theorem d148_108 : decode (tBc 148) 108 = .ok (.iconst 0, 1) := by decide +kernel
theorem d148_109 : decode (tBc 148) 109 = .ok (.invokevirtual 334, 3) := by decide +kernel
theorem d148_112 : decode (tBc 148) 112 = .ok (.ifCond .le 7, 3) := by decide +kernel
theorem d148_115 : decode (tBc 148) 115 = .ok (.iconst 1, 1) := by decide +kernel
theorem d148_116 : decode (tBc 148) 116 = .ok (.goto 4, 3) := by decide +kernel
theorem d148_119 : decode (tBc 148) 119 = .ok (.iconst 0, 1) := by decide +kernel
theorem d148_120 : decode (tBc 148) 120 = .ok (.istore 5, 2) := by decide +kernel
theorem d148_122 : decode (tBc 148) 122 = .ok (.aload_n 0, 1) := by decide +kernel
theorem d148_123 : decode (tBc 148) 123 = .ok (.dup, 1) := by decide +kernel
theorem d148_124 : decode (tBc 148) 124 = .ok (.getfield 359, 3) := by decide +kernel
theorem d148_127 : decode (tBc 148) 127 = .ok (.iload 5, 2) := by decide +kernel
theorem d148_129 : decode (tBc 148) 129 = .ok (.ifCond .eq 7, 3) := by decide +kernel
theorem d148_132 : decode (tBc 148) 132 = .ok (.iconst 0, 1) := by decide +kernel
theorem d148_133 : decode (tBc 148) 133 = .ok (.goto 4, 3) := by decide +kernel
theorem d148_136 : decode (tBc 148) 136 = .ok (.iconst 1, 1) := by decide +kernel
theorem d148_137 : decode (tBc 148) 137 = .ok (.iadd, 1) := by decide +kernel
theorem d148_138 : decode (tBc 148) 138 = .ok (.putfield 359, 3) := by decide +kernel
theorem d148_141 : decode (tBc 148) 141 = .ok (.iload 5, 2) := by decide +kernel
theorem d148_143 : decode (tBc 148) 143 = .ok (.ifCond .eq 69, 3) := by decide +kernel
theorem d148_146 : decode (tBc 148) 146 = .ok (.aload_n 0, 1) := by decide +kernel
theorem d148_147 : decode (tBc 148) 147 = .ok (.getfield 347, 3) := by decide +kernel
theorem d148_150 : decode (tBc 148) 150 = .ok (.iload_n 1, 1) := by decide +kernel
theorem d148_151 : decode (tBc 148) 151 = .ok (.if_icmp .ge 61, 3) := by decide +kernel
theorem d148_154 : decode (tBc 148) 154 = .ok (.aload_n 0, 1) := by decide +kernel
theorem d148_155 : decode (tBc 148) 155 = .ok (.invokevirtual 328, 3) := by decide +kernel
theorem d148_158 : decode (tBc 148) 158 = .ok (.aload_n 0, 1) := by decide +kernel
theorem d148_159 : decode (tBc 148) 159 = .ok (.getfield 215, 3) := by decide +kernel
theorem d148_162 : decode (tBc 148) 162 = .ok (.ifCond .ne 20, 3) := by decide +kernel
theorem d148_165 : decode (tBc 148) 165 = .ok (.aload_n 0, 1) := by decide +kernel
theorem d148_166 : decode (tBc 148) 166 = .ok (.aload_n 0, 1) := by decide +kernel
theorem d148_167 : decode (tBc 148) 167 = .ok (.getfield 129, 3) := by decide +kernel
theorem d148_170 : decode (tBc 148) 170 = .ok (.aload_n 0, 1) := by decide +kernel
theorem d148_171 : decode (tBc 148) 171 = .ok (.getfield 356, 3) := by decide +kernel
theorem d148_174 : decode (tBc 148) 174 = .ok (.iaload, 1) := by decide +kernel
theorem d148_175 : decode (tBc 148) 175 = .ok (.iconst 1, 1) := by decide +kernel
theorem d148_176 : decode (tBc 148) 176 = .ok (.iadd, 1) := by decide +kernel
theorem d148_177 : decode (tBc 148) 177 = .ok (.iload_n 2, 1) := by decide +kernel
theorem d148_178 : decode (tBc 148) 178 = .ok (.iload_n 3, 1) := by decide +kernel
theorem d148_179 : decode (tBc 148) 179 = .ok (.invokevirtual 362, 3) := by decide +kernel
theorem d148_182 : decode (tBc 148) 182 = .ok (.aload_n 0, 1) := by decide +kernel
theorem d148_183 : decode (tBc 148) 183 = .ok (.aload_n 0, 1) := by decide +kernel
theorem d148_184 : decode (tBc 148) 184 = .ok (.getfield 356, 3) := by decide +kernel
theorem d148_187 : decode (tBc 148) 187 = .ok (.invokevirtual 331, 3) := by decide +kernel
theorem d148_190 : decode (tBc 148) 190 = .ok (.iinc 4 1, 3) := by decide +kernel
theorem d148_193 : decode (tBc 148) 193 = .ok (.aload_n 0, 1) := by decide +kernel
theorem d148_194 : decode (tBc 148) 194 = .ok (.iload 4, 2) := by decide +kernel
theorem d148_196 : decode (tBc 148) 196 = .ok (.invokevirtual 334, 3) := by decide +kernel
theorem d148_199 : decode (tBc 148) 199 = .ok (.ifCond .le 7, 3) := by decide +kernel
theorem d148_202 : decode (tBc 148) 202 = .ok (.iconst 1, 1) := by decide +kernel
theorem d148_203 : decode (tBc 148) 203 = .ok (.goto 4, 3) := by decide +kernel
theorem d148_206 : decode (tBc 148) 206 = .ok (.iconst 0, 1) := by decide +kernel
theorem d148_207 : decode (tBc 148) 207 = .ok (.istore 5, 2) := by decide +kernel
theorem d148_209 : decode (tBc 148) 209 = .ok (.goto (-68), 3) := by decide +kernel
theorem d148_212 : decode (tBc 148) 212 = .ok (.aload_n 0, 1) := by decide +kernel
theorem d148_213 : decode (tBc 148) 213 = .ok (.dup, 1) := by decide +kernel
theorem d148_214 : decode (tBc 148) 214 = .ok (.getfield 356, 3) := by decide +kernel
theorem d148_217 : decode (tBc 148) 217 = .ok (.aload_n 0, 1) := by decide +kernel
theorem d148_218 : decode (tBc 148) 218 = .ok (.getfield 347, 3) := by decide +kernel
theorem d148_221 : decode (tBc 148) 221 = .ok (.iload_n 1, 1) := by decide +kernel
theorem d148_222 : decode (tBc 148) 222 = .ok (.if_icmp .ne 7, 3) := by decide +kernel
theorem d148_225 : decode (tBc 148) 225 = .ok (.iconst 0, 1) := by decide +kernel
theorem d148_226 : decode (tBc 148) 226 = .ok (.goto 4, 3) := by decide +kernel
theorem d148_229 : decode (tBc 148) 229 = .ok (.iconst 1, 1) := by decide +kernel
theorem d148_230 : decode (tBc 148) 230 = .ok (.iadd, 1) := by decide +kernel
theorem d148_231 : decode (tBc 148) 231 = .ok (.putfield 356, 3) := by decide +kernel
theorem d148_234 : decode (tBc 148) 234 = .ok (.goto (-157), 3) := by decide +kernel
theorem d148_237 : decode (tBc 148) 237 = .ok (.aload_n 0, 1) := by decide +kernel
theorem d148_238 : decode (tBc 148) 238 = .ok (.aload_n 0, 1) := by decide +kernel
theorem d148_239 : decode (tBc 148) 239 = .ok (.getfield 356, 3) := by decide +kernel
theorem d148_242 : decode (tBc 148) 242 = .ok (.aload_n 0, 1) := by decide +kernel
theorem d148_243 : decode (tBc 148) 243 = .ok (.getfield 347, 3) := by decide +kernel
theorem d148_246 : decode (tBc 148) 246 = .ok (.if_icmp .ne 7, 3) := by decide +kernel
theorem d148_249 : decode (tBc 148) 249 = .ok (.iconst 1, 1) := by decide +kernel
theorem d148_250 : decode (tBc 148) 250 = .ok (.goto 4, 3) := by decide +kernel
theorem d148_253 : decode (tBc 148) 253 = .ok (.iconst 0, 1) := by decide +kernel
theorem d148_254 : decode (tBc 148) 254 = .ok (.putfield 365, 3) := by decide +kernel
theorem d148_257 : decode (tBc 148) 257 = .ok (.aload_n 0, 1) := by decide +kernel
theorem d148_258 : decode (tBc 148) 258 = .ok (.bipush 30, 2) := by decide +kernel
theorem d148_260 : decode (tBc 148) 260 = .ok (.invokevirtual 331, 3) := by decide +kernel
theorem d148_263 : decode (tBc 148) 263 = .ok (.aload_n 0, 1) := by decide +kernel
theorem d148_264 : decode (tBc 148) 264 = .ok (.invokevirtual 313, 3) := by decide +kernel
theorem d148_267 : decode (tBc 148) 267 = .ok (.aload_n 0, 1) := by decide +kernel
theorem d148_268 : decode (tBc 148) 268 = .ok (.getfield 347, 3) := by decide +kernel
theorem d148_271 : decode (tBc 148) 271 = .ok (.ireturn, 1) := by decide +kernel
theorem d149_0 : decode (tBc 149) 0 = .ok (.iconst 0, 1) := by decide +kernel
theorem d149_1 : decode (tBc 149) 1 = .ok (.istore 4, 2) := by decide +kernel
theorem d149_3 : decode (tBc 149) 3 = .ok (.iload 4, 2) := by decide +kernel
theorem d149_5 : decode (tBc 149) 5 = .ok (.aload_n 0, 1) := by decide +kernel
theorem d149_6 : decode (tBc 149) 6 = .ok (.getfield 347, 3) := by decide +kernel
theorem d149_9 : decode (tBc 149) 9 = .ok (.if_icmp .ge 87, 3) := by decide +kernel
theorem d149_12 : decode (tBc 149) 12 = .ok (.aload_n 0, 1) := by decide +kernel
theorem d149_13 : decode (tBc 149) 13 = .ok (.getfield 123, 3) := by decide +kernel
theorem d149_16 : decode (tBc 149) 16 = .ok (.iload 4, 2) := by decide +kernel
theorem d149_18 : decode (tBc 149) 18 = .ok (.iaload, 1) := by decide +kernel
theorem d149_19 : decode (tBc 149) 19 = .ok (.aload_n 0, 1) := by decide +kernel
theorem d149_20 : decode (tBc 149) 20 = .ok (.getfield 219, 3) := by decide +kernel
theorem d149_23 : decode (tBc 149) 23 = .ok (.if_icmp .ne 7, 3) := by decide +kernel
theorem d149_26 : decode (tBc 149) 26 = .ok (.iconst 1, 1) := by decide +kernel
theorem d149_27 : decode (tBc 149) 27 = .ok (.goto 4, 3) := by decide +kernel
theorem d149_30 : decode (tBc 149) 30 = .ok (.iconst 0, 1) := by decide +kernel
theorem d149_31 : decode (tBc 149) 31 = .ok (.istore 5, 2) := by decide +kernel
theorem d149_33 : decode (tBc 149) 33 = .ok (.iconst 0, 1) := by decide +kernel
theorem d149_34 : decode (tBc 149) 34 = .ok (.istore 6, 2) := by decide +kernel
theorem d149_36 : decode (tBc 149) 36 = .ok (.iload 6, 2) := by decide +kernel
theorem d149_38 : decode (tBc 149) 38 = .ok (.bipush 30, 2) := by decide +kernel
theorem d149_40 : decode (tBc 149) 40 = .ok (.if_icmp .ge 44, 3) := by decide +kernel
theorem d149_43 : decode (tBc 149) 43 = .ok (.iload 5, 2) := by decide +kernel
theorem d149_45 : decode (tBc 149) 45 = .ok (.ifCond .eq 39, 3) := by decide +kernel
theorem d149_48 : decode (tBc 149) 48 = .ok (.aload_n 0, 1) := by decide +kernel
theorem d149_49 : decode (tBc 149) 49 = .ok (.getfield 126, 3) := by decide +kernel
theorem d149_52 : decode (tBc 149) 52 = .ok (.bipush 30, 2) := by decide +kernel
theorem d149_54 : decode (tBc 149) 54 = .ok (.iload 4, 2) := by decide +kernel
theorem d149_56 : decode (tBc 149) 56 = .ok (.imul, 1) := by decide +kernel
theorem d149_57 : decode (tBc 149) 57 = .ok (.iload 6, 2) := by decide +kernel
theorem d149_59 : decode (tBc 149) 59 = .ok (.iadd, 1) := by decide +kernel
theorem d149_60 : decode (tBc 149) 60 = .ok (.laload, 1) := by decide +kernel
theorem d149_61 : decode (tBc 149) 61 = .ok (.aload_n 0, 1) := by decide +kernel
theorem d149_62 : decode (tBc 149) 62 = .ok (.iload 6, 2) := by decide +kernel
theorem d149_64 : decode (tBc 149) 64 = .ok (.invokevirtual 340, 3) := by decide +kernel
theorem d149_67 : decode (tBc 149) 67 = .ok (.lcmp, 1) := by decide +kernel
theorem d149_68 : decode (tBc 149) 68 = .ok (.ifCond .ne 7, 3) := by decide +kernel
theorem d149_71 : decode (tBc 149) 71 = .ok (.iconst 1, 1) := by decide +kernel
theorem d149_72 : decode (tBc 149) 72 = .ok (.goto 4, 3) := by decide +kernel
theorem d149_75 : decode (tBc 149) 75 = .ok (.iconst 0, 1) := by decide +kernel
theorem d149_76 : decode (tBc 149) 76 = .ok (.istore 5, 2) := by decide +kernel
theorem d149_78 : decode (tBc 149) 78 = .ok (.iinc 6 1, 3) := by decide +kernel
theorem d149_81 : decode (tBc 149) 81 = .ok (.goto (-45), 3) := by decide +kernel
theorem d149_84 : decode (tBc 149) 84 = .ok (.iload 5, 2) := by decide +kernel
theorem d149_86 : decode (tBc 149) 86 = .ok (.ifCond .eq 4, 3) := by decide +kernel
theorem d149_89 : decode (tBc 149) 89 = .ok (.return_, 1) := by decide +kernel
theorem d149_90 : decode (tBc 149) 90 = .ok (.iinc 4 1, 3) := by decide +kernel
theorem d149_93 : decode (tBc 149) 93 = .ok (.goto (-90), 3) := by decide +kernel
theorem d149_96 : decode (tBc 149) 96 = .ok (.aload_n 0, 1) := by decide +kernel
theorem d149_97 : decode (tBc 149) 97 = .ok (.aload_n 0, 1) := by decide +kernel
theorem d149_98 : decode (tBc 149) 98 = .ok (.getfield 347, 3) := by decide +kernel
theorem d149_101 : decode (tBc 149) 101 = .ok (.invokevirtual 325, 3) := by decide +kernel
theorem d149_104 : decode (tBc 149) 104 = .ok (.aload_n 0, 1) := by decide +kernel
theorem d149_105 : decode (tBc 149) 105 = .ok (.getfield 123, 3) := by decide +kernel
theorem d149_108 : decode (tBc 149) 108 = .ok (.aload_n 0, 1) := by decide +kernel
theorem d149_109 : decode (tBc 149) 109 = .ok (.getfield 347, 3) := by decide +kernel
theorem d149_112 : decode (tBc 149) 112 = .ok (.aload_n 0, 1) := by decide +kernel
theorem d149_113 : decode (tBc 149) 113 = .ok (.getfield 219, 3) := by decide +kernel
theorem d149_116 : decode (tBc 149) 116 = .ok (.iastore, 1) := by decide +kernel
theorem d149_117 : decode (tBc 149) 117 = .ok (.iconst 0, 1) := by decide +kernel
theorem d149_118 : decode (tBc 149) 118 = .ok (.istore 4, 2) := by decide +kernel
theorem d149_120 : decode (tBc 149) 120 = .ok (.iload 4, 2) := by decide +kernel
theorem d149_122 : decode (tBc 149) 122 = .ok (.bipush 30, 2) := by decide +kernel
theorem d149_124 : decode (tBc 149) 124 = .ok (.if_icmp .ge 30, 3) := by decide +kernel
theorem d149_127 : decode (tBc 149) 127 = .ok (.aload_n 0, 1) := by decide +kernel
theorem d149_128 : decode (tBc 149) 128 = .ok (.getfield 126, 3) := by decide +kernel
theorem d149_131 : decode (tBc 149) 131 = .ok (.bipush 30, 2) := by decide +kernel
theorem d149_133 : decode (tBc 149) 133 = .ok (.aload_n 0, 1) := by decide +kernel
theorem d149_134 : decode (tBc 149) 134 = .ok (.getfield 347, 3) := by decide +kernel
theorem d149_137 : decode (tBc 149) 137 = .ok (.imul, 1) := by decide +kernel
theorem d149_138 : decode (tBc 149) 138 = .ok (.iload 4, 2) := by decide +kernel
theorem d149_140 : decode (tBc 149) 140 = .ok (.iadd, 1) := by decide +kernel
theorem d149_141 : decode (tBc 149) 141 = .ok (.aload_n 0, 1) := by decide +kernel
theorem d149_142 : decode (tBc 149) 142 = .ok (.iload 4, 2) := by decide +kernel
theorem d149_144 : decode (tBc 149) 144 = .ok (.invokevirtual 340, 3) := by decide +kernel
theorem d149_147 : decode (tBc 149) 147 = .ok (.lastore, 1) := by decide +kernel
theorem d149_148 : decode (tBc 149) 148 = .ok (.iinc 4 1, 3) := by decide +kernel
theorem d149_151 : decode (tBc 149) 151 = .ok (.goto (-31), 3) := by decide +kernel
theorem d149_154 : decode (tBc 149) 154 = .ok (.aload_n 0, 1) := by decide +kernel
theorem d149_155 : decode (tBc 149) 155 = .ok (.getfield 129, 3) := by decide +kernel
theorem d149_158 : decode (tBc 149) 158 = .ok (.aload_n 0, 1) := by decide +kernel
theorem d149_159 : decode (tBc 149) 159 = .ok (.getfield 347, 3) := by decide +kernel
theorem d149_162 : decode (tBc 149) 162 = .ok (.iload_n 1, 1) := by decide +kernel
theorem d149_163 : decode (tBc 149) 163 = .ok (.iastore, 1) := by decide +kernel
theorem d149_164 : decode (tBc 149) 164 = .ok (.aload_n 0, 1) := by decide +kernel
theorem d149_165 : decode (tBc 149) 165 = .ok (.iload_n 1, 1) := by decide +kernel
theorem d149_166 : decode (tBc 149) 166 = .ok (.putfield 350, 3) := by decide +kernel
theorem d149_169 : decode (tBc 149) 169 = .ok (.aload_n 0, 1) := by decide +kernel
theorem d149_170 : decode (tBc 149) 170 = .ok (.getfield 353, 3) := by decide +kernel
theorem d149_173 : decode (tBc 149) 173 = .ok (.ifCond .ge 17, 3) := by decide +kernel
theorem d149_176 : decode (tBc 149) 176 = .ok (.aload_n 0, 1) := by decide +kernel
theorem d149_177 : decode (tBc 149) 177 = .ok (.iload_n 2, 1) := by decide +kernel
theorem d149_178 : decode (tBc 149) 178 = .ok (.iload_n 3, 1) := by decide +kernel
theorem d149_179 : decode (tBc 149) 179 = .ok (.invokevirtual 344, 3) := by decide +kernel
theorem d149_182 : decode (tBc 149) 182 = .ok (.ifCond .eq 8, 3) := by decide +kernel
theorem d149_185 : decode (tBc 149) 185 = .ok (.aload_n 0, 1) := by decide +kernel
theorem d149_186 : decode (tBc 149) 186 = .ok (.iload_n 1, 1) := by decide +kernel
theorem d149_187 : decode (tBc 149) 187 = .ok (.putfield 353, 3) := by decide +kernel
theorem d149_190 : decode (tBc 149) 190 = .ok (.aload_n 0, 1) := by decide +kernel
theorem d149_191 : decode (tBc 149) 191 = .ok (.dup, 1) := by decide +kernel
theorem d149_192 : decode (tBc 149) 192 = .ok (.getfield 347, 3) := by decide +kernel
theorem d149_195 : decode (tBc 149) 195 = .ok (.iconst 1, 1) := by decide +kernel
theorem d149_196 : decode (tBc 149) 196 = .ok (.iadd, 1) := by decide +kernel
theorem d149_197 : decode (tBc 149) 197 = .ok (.putfield 347, 3) := by decide +kernel
theorem d149_200 : decode (tBc 149) 200 = .ok (.return_, 1) := by decide +kernel
theorem d150_0 : decode (tBc 150) 0 = .ok (.aload_n 0, 1) := by decide +kernel
theorem d150_1 : decode (tBc 150) 1 = .ok (.iconst 0, 1) := by decide +kernel
theorem d150_2 : decode (tBc 150) 2 = .ok (.putfield 141, 3) := by decide +kernel
theorem d150_5 : decode (tBc 150) 5 = .ok (.iload_n 1, 1) := by decide +kernel
theorem d150_6 : decode (tBc 150) 6 = .ok (.iconst 0, 1) := by decide +kernel
theorem d150_7 : decode (tBc 150) 7 = .ok (.iconst 4, 1) := by decide +kernel
theorem d150_8 : decode (tBc 150) 8 = .ok (.invokestatic 148, 3) := by decide +kernel
theorem d150_11 : decode (tBc 150) 11 = .ok (.ifCond .ne 9, 3) := by decide +kernel
theorem d150_14 : decode (tBc 150) 14 = .ok (.aload_n 0, 1) := by decide +kernel
theorem d150_15 : decode (tBc 150) 15 = .ok (.iconst 1, 1) := by decide +kernel
theorem d150_16 : decode (tBc 150) 16 = .ok (.invokevirtual 152, 3) := by decide +kernel
theorem d150_19 : decode (tBc 150) 19 = .ok (.ireturn, 1) := by decide +kernel
theorem d150_20 : decode (tBc 150) 20 = .ok (.aload_n 0, 1) := by decide +kernel
theorem d150_21 : decode (tBc 150) 21 = .ok (.getfield 316, 3) := by decide +kernel
theorem d150_24 : decode (tBc 150) 24 = .ok (.ifCond .ne 14, 3) := by decide +kernel
theorem d150_27 : decode (tBc 150) 27 = .ok (.iload_n 1, 1) := by decide +kernel
theorem d150_28 : decode (tBc 150) 28 = .ok (.iconst 3, 1) := by decide +kernel
theorem d150_29 : decode (tBc 150) 29 = .ok (.if_icmp .ne 7, 3) := by decide +kernel
theorem d150_32 : decode (tBc 150) 32 = .ok (.iconst (-1), 1) := by decide +kernel
theorem d150_33 : decode (tBc 150) 33 = .ok (.goto 4, 3) := by decide +kernel
theorem d150_36 : decode (tBc 150) 36 = .ok (.iconst 0, 1) := by decide +kernel
theorem d150_37 : decode (tBc 150) 37 = .ok (.ireturn, 1) := by decide +kernel
theorem d150_38 : decode (tBc 150) 38 = .ok (.iload_n 1, 1) := by decide +kernel
theorem d150_39 : decode (tBc 150) 39 = .ok (.iconst 3, 1) := by decide +kernel
theorem d150_40 : decode (tBc 150) 40 = .ok (.if_icmp .ge 39, 3) := by decide +kernel
theorem d150_43 : decode (tBc 150) 43 = .ok (.iload_n 1, 1) := by decide +kernel
theorem d150_44 : decode (tBc 150) 44 = .ok (.ifCond .ne 10, 3) := by decide +kernel
theorem d150_47 : decode (tBc 150) 47 = .ok (.aload_n 0, 1) := by decide +kernel
theorem d150_48 : decode (tBc 150) 48 = .ok (.getfield 347, 3) := by decide +kernel
theorem d150_51 : decode (tBc 150) 51 = .ok (.goto 27, 3) := by decide +kernel
theorem d150_54 : decode (tBc 150) 54 = .ok (.iload_n 1, 1) := by decide +kernel
theorem d150_55 : decode (tBc 150) 55 = .ok (.iconst 1, 1) := by decide +kernel
theorem d150_56 : decode (tBc 150) 56 = .ok (.if_icmp .ne 18, 3) := by decide +kernel
theorem d150_59 : decode (tBc 150) 59 = .ok (.aload_n 0, 1) := by decide +kernel
theorem d150_60 : decode (tBc 150) 60 = .ok (.getfield 365, 3) := by decide +kernel
theorem d150_63 : decode (tBc 150) 63 = .ok (.ifCond .eq 7, 3) := by decide +kernel
theorem d150_66 : decode (tBc 150) 66 = .ok (.iconst 1, 1) := by decide +kernel
theorem d150_67 : decode (tBc 150) 67 = .ok (.goto 11, 3) := by decide +kernel
theorem d150_70 : decode (tBc 150) 70 = .ok (.iconst 0, 1) := by decide +kernel
theorem d150_71 : decode (tBc 150) 71 = .ok (.goto 7, 3) := by decide +kernel
theorem d150_74 : decode (tBc 150) 74 = .ok (.aload_n 0, 1) := by decide +kernel
theorem d150_75 : decode (tBc 150) 75 = .ok (.getfield 359, 3) := by decide +kernel
theorem d150_78 : decode (tBc 150) 78 = .ok (.ireturn, 1) := by decide +kernel
theorem d150_79 : decode (tBc 150) 79 = .ok (.iload_n 1, 1) := by decide +kernel
theorem d150_80 : decode (tBc 150) 80 = .ok (.iconst 3, 1) := by decide +kernel
theorem d150_81 : decode (tBc 150) 81 = .ok (.if_icmp .ne 10, 3) := by decide +kernel
theorem d150_84 : decode (tBc 150) 84 = .ok (.aload_n 0, 1) := by decide +kernel
theorem d150_85 : decode (tBc 150) 85 = .ok (.getfield 353, 3) := by decide +kernel
theorem d150_88 : decode (tBc 150) 88 = .ok (.goto 7, 3) := by decide +kernel
theorem d150_91 : decode (tBc 150) 91 = .ok (.aload_n 0, 1) := by decide +kernel
theorem d150_92 : decode (tBc 150) 92 = .ok (.getfield 350, 3) := by decide +kernel
theorem d150_95 : decode (tBc 150) 95 = .ok (.ireturn, 1) := by decide +kernel
