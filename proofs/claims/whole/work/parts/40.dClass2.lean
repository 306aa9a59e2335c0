/-! Rows that decode each instruction. Written by wip/whole/gen/mktab.py. -/
theorem d0_0 : decode (tBc 0) 0 = .ok (.aload_n 0, 1) := by decide +kernel
theorem d0_1 : decode (tBc 0) 1 = .ok (.invokespecial 3, 3) := by decide +kernel
theorem d0_4 : decode (tBc 0) 4 = .ok (.aload_n 0, 1) := by decide +kernel
theorem d0_5 : decode (tBc 0) 5 = .ok (.bipush 120, 2) := by decide +kernel
theorem d0_7 : decode (tBc 0) 7 = .ok (.newarray .char, 2) := by decide +kernel
theorem d0_9 : decode (tBc 0) 9 = .ok (.putfield 9, 3) := by decide +kernel
theorem d0_12 : decode (tBc 0) 12 = .ok (.aload_n 0, 1) := by decide +kernel
theorem d0_13 : decode (tBc 0) 13 = .ok (.new 13, 3) := by decide +kernel
theorem d0_16 : decode (tBc 0) 16 = .ok (.dup, 1) := by decide +kernel
theorem d0_17 : decode (tBc 0) 17 = .ok (.invokespecial 15, 3) := by decide +kernel
theorem d0_20 : decode (tBc 0) 20 = .ok (.putfield 16, 3) := by decide +kernel
theorem d0_23 : decode (tBc 0) 23 = .ok (.aload_n 0, 1) := by decide +kernel
theorem d0_24 : decode (tBc 0) 24 = .ok (.new 20, 3) := by decide +kernel
theorem d0_27 : decode (tBc 0) 27 = .ok (.dup, 1) := by decide +kernel
theorem d0_28 : decode (tBc 0) 28 = .ok (.invokespecial 22, 3) := by decide +kernel
theorem d0_31 : decode (tBc 0) 31 = .ok (.putfield 23, 3) := by decide +kernel
theorem d0_34 : decode (tBc 0) 34 = .ok (.aload_n 0, 1) := by decide +kernel
theorem d0_35 : decode (tBc 0) 35 = .ok (.new 27, 3) := by decide +kernel
theorem d0_38 : decode (tBc 0) 38 = .ok (.dup, 1) := by decide +kernel
theorem d0_39 : decode (tBc 0) 39 = .ok (.invokespecial 29, 3) := by decide +kernel
theorem d0_42 : decode (tBc 0) 42 = .ok (.putfield 30, 3) := by decide +kernel
theorem d0_45 : decode (tBc 0) 45 = .ok (.aload_n 0, 1) := by decide +kernel
theorem d0_46 : decode (tBc 0) 46 = .ok (.new 27, 3) := by decide +kernel
theorem d0_49 : decode (tBc 0) 49 = .ok (.dup, 1) := by decide +kernel
theorem d0_50 : decode (tBc 0) 50 = .ok (.invokespecial 29, 3) := by decide +kernel
theorem d0_53 : decode (tBc 0) 53 = .ok (.putfield 34, 3) := by decide +kernel
theorem d0_56 : decode (tBc 0) 56 = .ok (.aload_n 0, 1) := by decide +kernel
theorem d0_57 : decode (tBc 0) 57 = .ok (.new 37, 3) := by decide +kernel
theorem d0_60 : decode (tBc 0) 60 = .ok (.dup, 1) := by decide +kernel
theorem d0_61 : decode (tBc 0) 61 = .ok (.invokespecial 39, 3) := by decide +kernel
theorem d0_64 : decode (tBc 0) 64 = .ok (.putfield 40, 3) := by decide +kernel
theorem d0_67 : decode (tBc 0) 67 = .ok (.aload_n 0, 1) := by decide +kernel
theorem d0_68 : decode (tBc 0) 68 = .ok (.new 37, 3) := by decide +kernel
theorem d0_71 : decode (tBc 0) 71 = .ok (.dup, 1) := by decide +kernel
theorem d0_72 : decode (tBc 0) 72 = .ok (.invokespecial 39, 3) := by decide +kernel
theorem d0_75 : decode (tBc 0) 75 = .ok (.putfield 44, 3) := by decide +kernel
theorem d0_78 : decode (tBc 0) 78 = .ok (.aload_n 0, 1) := by decide +kernel
theorem d0_79 : decode (tBc 0) 79 = .ok (.iconst 3, 1) := by decide +kernel
theorem d0_80 : decode (tBc 0) 80 = .ok (.anewarray 47, 3) := by decide +kernel
theorem d0_83 : decode (tBc 0) 83 = .ok (.putfield 49, 3) := by decide +kernel
theorem d0_86 : decode (tBc 0) 86 = .ok (.aload_n 0, 1) := by decide +kernel
theorem d0_87 : decode (tBc 0) 87 = .ok (.new 53, 3) := by decide +kernel
theorem d0_90 : decode (tBc 0) 90 = .ok (.dup, 1) := by decide +kernel
theorem d0_91 : decode (tBc 0) 91 = .ok (.invokespecial 55, 3) := by decide +kernel
theorem d0_94 : decode (tBc 0) 94 = .ok (.putfield 56, 3) := by decide +kernel
theorem d0_97 : decode (tBc 0) 97 = .ok (.iconst 0, 1) := by decide +kernel
theorem d0_98 : decode (tBc 0) 98 = .ok (.istore_n 1, 1) := by decide +kernel
theorem d0_99 : decode (tBc 0) 99 = .ok (.iload_n 1, 1) := by decide +kernel
theorem d0_100 : decode (tBc 0) 100 = .ok (.iconst 3, 1) := by decide +kernel
theorem d0_101 : decode (tBc 0) 101 = .ok (.if_icmp .ge 22, 3) := by decide +kernel
theorem d0_104 : decode (tBc 0) 104 = .ok (.aload_n 0, 1) := by decide +kernel
theorem d0_105 : decode (tBc 0) 105 = .ok (.getfield 49, 3) := by decide +kernel
theorem d0_108 : decode (tBc 0) 108 = .ok (.iload_n 1, 1) := by decide +kernel
theorem d0_109 : decode (tBc 0) 109 = .ok (.new 47, 3) := by decide +kernel
theorem d0_112 : decode (tBc 0) 112 = .ok (.dup, 1) := by decide +kernel
theorem d0_113 : decode (tBc 0) 113 = .ok (.invokespecial 60, 3) := by decide +kernel
theorem d0_116 : decode (tBc 0) 116 = .ok (.aastore, 1) := by decide +kernel
theorem d0_117 : decode (tBc 0) 117 = .ok (.iinc 1 1, 3) := by decide +kernel
theorem d0_120 : decode (tBc 0) 120 = .ok (.goto (-21), 3) := by decide +kernel
theorem d0_123 : decode (tBc 0) 123 = .ok (.aload_n 0, 1) := by decide +kernel
theorem d0_124 : decode (tBc 0) 124 = .ok (.getfield 30, 3) := by decide +kernel
theorem d0_127 : decode (tBc 0) 127 = .ok (.invokevirtual 61, 3) := by decide +kernel
theorem d0_130 : decode (tBc 0) 130 = .ok (.return_, 1) := by decide +kernel
theorem d1_0 : decode (tBc 1) 0 = .ok (.aload_n 0, 1) := by decide +kernel
theorem d1_1 : decode (tBc 1) 1 = .ok (.getfield 71, 3) := by decide +kernel
theorem d1_4 : decode (tBc 1) 4 = .ok (.istore_n 1, 1) := by decide +kernel
theorem d1_5 : decode (tBc 1) 5 = .ok (.aload_n 0, 1) := by decide +kernel
theorem d1_6 : decode (tBc 1) 6 = .ok (.iconst 0, 1) := by decide +kernel
theorem d1_7 : decode (tBc 1) 7 = .ok (.putfield 71, 3) := by decide +kernel
theorem d1_10 : decode (tBc 1) 10 = .ok (.iload_n 1, 1) := by decide +kernel
theorem d1_11 : decode (tBc 1) 11 = .ok (.ireturn, 1) := by decide +kernel
theorem d2_0 : decode (tBc 2) 0 = .ok (.aload_n 0, 1) := by decide +kernel
theorem d2_1 : decode (tBc 2) 1 = .ok (.getfield 40, 3) := by decide +kernel
theorem d2_4 : decode (tBc 2) 4 = .ok (.getfield 110, 3) := by decide +kernel
theorem d2_7 : decode (tBc 2) 7 = .ok (.ireturn, 1) := by decide +kernel
theorem d3_0 : decode (tBc 3) 0 = .ok (.iload_n 3, 1) := by decide +kernel
theorem d3_1 : decode (tBc 3) 1 = .ok (.iconst 1, 1) := by decide +kernel
theorem d3_2 : decode (tBc 3) 2 = .ok (.if_icmp .lt 17, 3) := by decide +kernel
theorem d3_5 : decode (tBc 3) 5 = .ok (.iload_n 3, 1) := by decide +kernel
theorem d3_6 : decode (tBc 3) 6 = .ok (.bipush 8, 2) := by decide +kernel
theorem d3_8 : decode (tBc 3) 8 = .ok (.if_icmp .gt 11, 3) := by decide +kernel
theorem d3_11 : decode (tBc 3) 11 = .ok (.lload_n 1, 1) := by decide +kernel
theorem d3_12 : decode (tBc 3) 12 = .ok (.iload_n 3, 1) := by decide +kernel
theorem d3_13 : decode (tBc 3) 13 = .ok (.invokestatic 64, 3) := by decide +kernel
theorem d3_16 : decode (tBc 3) 16 = .ok (.ifCond .ne 11, 3) := by decide +kernel
theorem d3_19 : decode (tBc 3) 19 = .ok (.new 68, 3) := by decide +kernel
theorem d3_22 : decode (tBc 3) 22 = .ok (.dup, 1) := by decide +kernel
theorem d3_23 : decode (tBc 3) 23 = .ok (.invokespecial 70, 3) := by decide +kernel
theorem d3_26 : decode (tBc 3) 26 = .ok (.athrow, 1) := by decide +kernel
theorem d3_27 : decode (tBc 3) 27 = .ok (.aload_n 0, 1) := by decide +kernel
theorem d3_28 : decode (tBc 3) 28 = .ok (.getfield 71, 3) := by decide +kernel
theorem d3_31 : decode (tBc 3) 31 = .ok (.iload_n 3, 1) := by decide +kernel
theorem d3_32 : decode (tBc 3) 32 = .ok (.iadd, 1) := by decide +kernel
theorem d3_33 : decode (tBc 3) 33 = .ok (.bipush 120, 2) := by decide +kernel
theorem d3_35 : decode (tBc 3) 35 = .ok (.if_icmp .le 11, 3) := by decide +kernel
theorem d3_38 : decode (tBc 3) 38 = .ok (.new 75, 3) := by decide +kernel
theorem d3_41 : decode (tBc 3) 41 = .ok (.dup, 1) := by decide +kernel
theorem d3_42 : decode (tBc 3) 42 = .ok (.invokespecial 77, 3) := by decide +kernel
theorem d3_45 : decode (tBc 3) 45 = .ok (.athrow, 1) := by decide +kernel
theorem d3_46 : decode (tBc 3) 46 = .ok (.iconst 0, 1) := by decide +kernel
theorem d3_47 : decode (tBc 3) 47 = .ok (.istore 4, 2) := by decide +kernel
theorem d3_49 : decode (tBc 3) 49 = .ok (.iload 4, 2) := by decide +kernel
theorem d3_51 : decode (tBc 3) 51 = .ok (.iload_n 3, 1) := by decide +kernel
theorem d3_52 : decode (tBc 3) 52 = .ok (.if_icmp .ge 28, 3) := by decide +kernel
theorem d3_55 : decode (tBc 3) 55 = .ok (.aload_n 0, 1) := by decide +kernel
theorem d3_56 : decode (tBc 3) 56 = .ok (.getfield 9, 3) := by decide +kernel
theorem d3_59 : decode (tBc 3) 59 = .ok (.aload_n 0, 1) := by decide +kernel
theorem d3_60 : decode (tBc 3) 60 = .ok (.getfield 71, 3) := by decide +kernel
theorem d3_63 : decode (tBc 3) 63 = .ok (.iload 4, 2) := by decide +kernel
theorem d3_65 : decode (tBc 3) 65 = .ok (.iadd, 1) := by decide +kernel
theorem d3_66 : decode (tBc 3) 66 = .ok (.lload_n 1, 1) := by decide +kernel
theorem d3_67 : decode (tBc 3) 67 = .ok (.iload 4, 2) := by decide +kernel
theorem d3_69 : decode (tBc 3) 69 = .ok (.invokestatic 78, 3) := by decide +kernel
theorem d3_72 : decode (tBc 3) 72 = .ok (.i2c, 1) := by decide +kernel
theorem d3_73 : decode (tBc 3) 73 = .ok (.castore, 1) := by decide +kernel
theorem d3_74 : decode (tBc 3) 74 = .ok (.iinc 4 1, 3) := by decide +kernel
theorem d3_77 : decode (tBc 3) 77 = .ok (.goto (-28), 3) := by decide +kernel
theorem d3_80 : decode (tBc 3) 80 = .ok (.aload_n 0, 1) := by decide +kernel
theorem d3_81 : decode (tBc 3) 81 = .ok (.dup, 1) := by decide +kernel
theorem d3_82 : decode (tBc 3) 82 = .ok (.getfield 71, 3) := by decide +kernel
theorem d3_85 : decode (tBc 3) 85 = .ok (.iload_n 3, 1) := by decide +kernel
theorem d3_86 : decode (tBc 3) 86 = .ok (.iadd, 1) := by decide +kernel
theorem d3_87 : decode (tBc 3) 87 = .ok (.putfield 71, 3) := by decide +kernel
theorem d3_90 : decode (tBc 3) 90 = .ok (.aload_n 0, 1) := by decide +kernel
theorem d3_91 : decode (tBc 3) 91 = .ok (.getfield 71, 3) := by decide +kernel
theorem d3_94 : decode (tBc 3) 94 = .ok (.ireturn, 1) := by decide +kernel
theorem d4_0 : decode (tBc 4) 0 = .ok (.iconst 0, 1) := by decide +kernel
theorem d4_1 : decode (tBc 4) 1 = .ok (.istore_n 3, 1) := by decide +kernel
theorem d4_2 : decode (tBc 4) 2 = .ok (.iload_n 3, 1) := by decide +kernel
theorem d4_3 : decode (tBc 4) 3 = .ok (.iload_n 2, 1) := by decide +kernel
theorem d4_4 : decode (tBc 4) 4 = .ok (.if_icmp .ge 32, 3) := by decide +kernel
theorem d4_7 : decode (tBc 4) 7 = .ok (.lload_n 0, 1) := by decide +kernel
theorem d4_8 : decode (tBc 4) 8 = .ok (.iload_n 3, 1) := by decide +kernel
theorem d4_9 : decode (tBc 4) 9 = .ok (.invokestatic 78, 3) := by decide +kernel
theorem d4_12 : decode (tBc 4) 12 = .ok (.istore 4, 2) := by decide +kernel
theorem d4_14 : decode (tBc 4) 14 = .ok (.iload 4, 2) := by decide +kernel
theorem d4_16 : decode (tBc 4) 16 = .ok (.bipush 32, 2) := by decide +kernel
theorem d4_18 : decode (tBc 4) 18 = .ok (.if_icmp .lt 10, 3) := by decide +kernel
theorem d4_21 : decode (tBc 4) 21 = .ok (.iload 4, 2) := by decide +kernel
theorem d4_23 : decode (tBc 4) 23 = .ok (.bipush 126, 2) := by decide +kernel
theorem d4_25 : decode (tBc 4) 25 = .ok (.if_icmp .le 5, 3) := by decide +kernel
theorem d4_28 : decode (tBc 4) 28 = .ok (.iconst 0, 1) := by decide +kernel
theorem d4_29 : decode (tBc 4) 29 = .ok (.ireturn, 1) := by decide +kernel
theorem d4_30 : decode (tBc 4) 30 = .ok (.iinc 3 1, 3) := by decide +kernel
theorem d4_33 : decode (tBc 4) 33 = .ok (.goto (-31), 3) := by decide +kernel
theorem d4_36 : decode (tBc 4) 36 = .ok (.iconst 1, 1) := by decide +kernel
theorem d4_37 : decode (tBc 4) 37 = .ok (.ireturn, 1) := by decide +kernel
theorem d5_0 : decode (tBc 5) 0 = .ok (.lload_n 0, 1) := by decide +kernel
theorem d5_1 : decode (tBc 5) 1 = .ok (.bipush 8, 2) := by decide +kernel
theorem d5_3 : decode (tBc 5) 3 = .ok (.iload_n 2, 1) := by decide +kernel
theorem d5_4 : decode (tBc 5) 4 = .ok (.imul, 1) := by decide +kernel
theorem d5_5 : decode (tBc 5) 5 = .ok (.lshr, 1) := by decide +kernel
theorem d5_6 : decode (tBc 5) 6 = .ok (.l2i, 1) := by decide +kernel
theorem d5_7 : decode (tBc 5) 7 = .ok (.sipush 255, 3) := by decide +kernel
theorem d5_10 : decode (tBc 5) 10 = .ok (.iand, 1) := by decide +kernel
theorem d5_11 : decode (tBc 5) 11 = .ok (.ireturn, 1) := by decide +kernel
theorem d6_0 : decode (tBc 6) 0 = .ok (.aload_n 0, 1) := by decide +kernel
theorem d6_1 : decode (tBc 6) 1 = .ok (.getfield 30, 3) := by decide +kernel
theorem d6_4 : decode (tBc 6) 4 = .ok (.invokevirtual 61, 3) := by decide +kernel
theorem d6_7 : decode (tBc 6) 7 = .ok (.aload_n 0, 1) := by decide +kernel
theorem d6_8 : decode (tBc 6) 8 = .ok (.getfield 40, 3) := by decide +kernel
theorem d6_11 : decode (tBc 6) 11 = .ok (.invokevirtual 82, 3) := by decide +kernel
theorem d6_14 : decode (tBc 6) 14 = .ok (.aload_n 0, 1) := by decide +kernel
theorem d6_15 : decode (tBc 6) 15 = .ok (.iconst 0, 1) := by decide +kernel
theorem d6_16 : decode (tBc 6) 16 = .ok (.putfield 83, 3) := by decide +kernel
theorem d6_19 : decode (tBc 6) 19 = .ok (.aload_n 0, 1) := by decide +kernel
theorem d6_20 : decode (tBc 6) 20 = .ok (.getfield 56, 3) := by decide +kernel
theorem d6_23 : decode (tBc 6) 23 = .ok (.invokevirtual 86, 3) := by decide +kernel
theorem d6_26 : decode (tBc 6) 26 = .ok (.aload_n 0, 1) := by decide +kernel
theorem d6_27 : decode (tBc 6) 27 = .ok (.getfield 16, 3) := by decide +kernel
theorem d6_30 : decode (tBc 6) 30 = .ok (.aload_n 0, 1) := by decide +kernel
theorem d6_31 : decode (tBc 6) 31 = .ok (.getfield 9, 3) := by decide +kernel
theorem d6_34 : decode (tBc 6) 34 = .ok (.aload_n 0, 1) := by decide +kernel
theorem d6_35 : decode (tBc 6) 35 = .ok (.getfield 71, 3) := by decide +kernel
theorem d6_38 : decode (tBc 6) 38 = .ok (.invokevirtual 89, 3) := by decide +kernel
theorem d6_41 : decode (tBc 6) 41 = .ok (.aload_n 0, 1) := by decide +kernel
theorem d6_42 : decode (tBc 6) 42 = .ok (.getfield 34, 3) := by decide +kernel
theorem d6_45 : decode (tBc 6) 45 = .ok (.aload_n 0, 1) := by decide +kernel
theorem d6_46 : decode (tBc 6) 46 = .ok (.getfield 16, 3) := by decide +kernel
theorem d6_49 : decode (tBc 6) 49 = .ok (.invokevirtual 93, 3) := by decide +kernel
theorem d6_52 : decode (tBc 6) 52 = .ok (.ifCond .eq 21, 3) := by decide +kernel
theorem d6_55 : decode (tBc 6) 55 = .ok (.aload_n 0, 1) := by decide +kernel
theorem d6_56 : decode (tBc 6) 56 = .ok (.getfield 23, 3) := by decide +kernel
theorem d6_59 : decode (tBc 6) 59 = .ok (.aload_n 0, 1) := by decide +kernel
theorem d6_60 : decode (tBc 6) 60 = .ok (.getfield 34, 3) := by decide +kernel
theorem d6_63 : decode (tBc 6) 63 = .ok (.aload_n 0, 1) := by decide +kernel
theorem d6_64 : decode (tBc 6) 64 = .ok (.getfield 16, 3) := by decide +kernel
theorem d6_67 : decode (tBc 6) 67 = .ok (.invokevirtual 97, 3) := by decide +kernel
theorem d6_70 : decode (tBc 6) 70 = .ok (.ifCond .ne 11, 3) := by decide +kernel
theorem d6_73 : decode (tBc 6) 73 = .ok (.new 101, 3) := by decide +kernel
theorem d6_76 : decode (tBc 6) 76 = .ok (.dup, 1) := by decide +kernel
theorem d6_77 : decode (tBc 6) 77 = .ok (.invokespecial 103, 3) := by decide +kernel
theorem d6_80 : decode (tBc 6) 80 = .ok (.athrow, 1) := by decide +kernel
theorem d6_81 : decode (tBc 6) 81 = .ok (.aload_n 0, 1) := by decide +kernel
theorem d6_82 : decode (tBc 6) 82 = .ok (.invokevirtual 104, 3) := by decide +kernel
theorem d6_85 : decode (tBc 6) 85 = .ok (.aload_n 0, 1) := by decide +kernel
theorem d6_86 : decode (tBc 6) 86 = .ok (.getfield 16, 3) := by decide +kernel
theorem d6_89 : decode (tBc 6) 89 = .ok (.getfield 107, 3) := by decide +kernel
theorem d6_92 : decode (tBc 6) 92 = .ok (.ireturn, 1) := by decide +kernel
theorem d7_0 : decode (tBc 7) 0 = .ok (.iload_n 0, 1) := by decide +kernel
theorem d7_1 : decode (tBc 7) 1 = .ok (.bipush 120, 2) := by decide +kernel
theorem d7_3 : decode (tBc 7) 3 = .ok (.if_icmp .ge 10, 3) := by decide +kernel
theorem d7_6 : decode (tBc 7) 6 = .ok (.iload_n 0, 1) := by decide +kernel
theorem d7_7 : decode (tBc 7) 7 = .ok (.bipush 97, 2) := by decide +kernel
theorem d7_9 : decode (tBc 7) 9 = .ok (.isub, 1) := by decide +kernel
theorem d7_10 : decode (tBc 7) 10 = .ok (.goto 16, 3) := by decide +kernel
theorem d7_13 : decode (tBc 7) 13 = .ok (.iload_n 1, 1) := by decide +kernel
theorem d7_14 : decode (tBc 7) 14 = .ok (.iconst 3, 1) := by decide +kernel
theorem d7_15 : decode (tBc 7) 15 = .ok (.iload_n 0, 1) := by decide +kernel
theorem d7_16 : decode (tBc 7) 16 = .ok (.bipush 120, 2) := by decide +kernel
theorem d7_18 : decode (tBc 7) 18 = .ok (.isub, 1) := by decide +kernel
theorem d7_19 : decode (tBc 7) 19 = .ok (.imul, 1) := by decide +kernel
theorem d7_20 : decode (tBc 7) 20 = .ok (.ishr, 1) := by decide +kernel
theorem d7_21 : decode (tBc 7) 21 = .ok (.bipush 7, 2) := by decide +kernel
theorem d7_23 : decode (tBc 7) 23 = .ok (.iand, 1) := by decide +kernel
theorem d7_24 : decode (tBc 7) 24 = .ok (.iconst 1, 1) := by decide +kernel
theorem d7_25 : decode (tBc 7) 25 = .ok (.isub, 1) := by decide +kernel
theorem d7_26 : decode (tBc 7) 26 = .ok (.ireturn, 1) := by decide +kernel
theorem d8_0 : decode (tBc 8) 0 = .ok (.iconst 3, 1) := by decide +kernel
theorem d8_1 : decode (tBc 8) 1 = .ok (.iload_n 0, 1) := by decide +kernel
theorem d8_2 : decode (tBc 8) 2 = .ok (.bipush 120, 2) := by decide +kernel
theorem d8_4 : decode (tBc 8) 4 = .ok (.isub, 1) := by decide +kernel
theorem d8_5 : decode (tBc 8) 5 = .ok (.imul, 1) := by decide +kernel
theorem d8_6 : decode (tBc 8) 6 = .ok (.istore_n 3, 1) := by decide +kernel
theorem d8_7 : decode (tBc 8) 7 = .ok (.iload_n 2, 1) := by decide +kernel
theorem d8_8 : decode (tBc 8) 8 = .ok (.bipush 7, 2) := by decide +kernel
theorem d8_10 : decode (tBc 8) 10 = .ok (.iload_n 3, 1) := by decide +kernel
theorem d8_11 : decode (tBc 8) 11 = .ok (.ishl, 1) := by decide +kernel
theorem d8_12 : decode (tBc 8) 12 = .ok (.iconst (-1), 1) := by decide +kernel
theorem d8_13 : decode (tBc 8) 13 = .ok (.ixor, 1) := by decide +kernel
theorem d8_14 : decode (tBc 8) 14 = .ok (.iand, 1) := by decide +kernel
theorem d8_15 : decode (tBc 8) 15 = .ok (.iload_n 1, 1) := by decide +kernel
theorem d8_16 : decode (tBc 8) 16 = .ok (.iconst 1, 1) := by decide +kernel
theorem d8_17 : decode (tBc 8) 17 = .ok (.iadd, 1) := by decide +kernel
theorem d8_18 : decode (tBc 8) 18 = .ok (.iload_n 3, 1) := by decide +kernel
theorem d8_19 : decode (tBc 8) 19 = .ok (.ishl, 1) := by decide +kernel
theorem d8_20 : decode (tBc 8) 20 = .ok (.ior, 1) := by decide +kernel
theorem d8_21 : decode (tBc 8) 21 = .ok (.ireturn, 1) := by decide +kernel
theorem d9_0 : decode (tBc 9) 0 = .ok (.aload_n 0, 1) := by decide +kernel
theorem d9_1 : decode (tBc 9) 1 = .ok (.getfield 30, 3) := by decide +kernel
theorem d9_4 : decode (tBc 9) 4 = .ok (.astore_n 1, 1) := by decide +kernel
theorem d9_5 : decode (tBc 9) 5 = .ok (.aload_n 0, 1) := by decide +kernel
theorem d9_6 : decode (tBc 9) 6 = .ok (.aload_n 0, 1) := by decide +kernel
theorem d9_7 : decode (tBc 9) 7 = .ok (.getfield 34, 3) := by decide +kernel
theorem d9_10 : decode (tBc 9) 10 = .ok (.putfield 30, 3) := by decide +kernel
theorem d9_13 : decode (tBc 9) 13 = .ok (.aload_n 0, 1) := by decide +kernel
theorem d9_14 : decode (tBc 9) 14 = .ok (.aload_n 1, 1) := by decide +kernel
theorem d9_15 : decode (tBc 9) 15 = .ok (.putfield 34, 3) := by decide +kernel
theorem d9_18 : decode (tBc 9) 18 = .ok (.aload_n 0, 1) := by decide +kernel
theorem d9_19 : decode (tBc 9) 19 = .ok (.getfield 40, 3) := by decide +kernel
theorem d9_22 : decode (tBc 9) 22 = .ok (.astore_n 2, 1) := by decide +kernel
theorem d9_23 : decode (tBc 9) 23 = .ok (.aload_n 0, 1) := by decide +kernel
theorem d9_24 : decode (tBc 9) 24 = .ok (.aload_n 0, 1) := by decide +kernel
theorem d9_25 : decode (tBc 9) 25 = .ok (.getfield 44, 3) := by decide +kernel
theorem d9_28 : decode (tBc 9) 28 = .ok (.putfield 40, 3) := by decide +kernel
theorem d9_31 : decode (tBc 9) 31 = .ok (.aload_n 0, 1) := by decide +kernel
theorem d9_32 : decode (tBc 9) 32 = .ok (.aload_n 2, 1) := by decide +kernel
theorem d9_33 : decode (tBc 9) 33 = .ok (.putfield 44, 3) := by decide +kernel
theorem d9_36 : decode (tBc 9) 36 = .ok (.aload_n 0, 1) := by decide +kernel
theorem d9_37 : decode (tBc 9) 37 = .ok (.getfield 40, 3) := by decide +kernel
theorem d9_40 : decode (tBc 9) 40 = .ok (.aload_n 0, 1) := by decide +kernel
theorem d9_41 : decode (tBc 9) 41 = .ok (.getfield 30, 3) := by decide +kernel
theorem d9_44 : decode (tBc 9) 44 = .ok (.aload_n 0, 1) := by decide +kernel
theorem d9_45 : decode (tBc 9) 45 = .ok (.getfield 16, 3) := by decide +kernel
theorem d9_48 : decode (tBc 9) 48 = .ok (.invokevirtual 210, 3) := by decide +kernel
theorem d9_51 : decode (tBc 9) 51 = .ok (.aload_n 0, 1) := by decide +kernel
theorem d9_52 : decode (tBc 9) 52 = .ok (.getfield 40, 3) := by decide +kernel
theorem d9_55 : decode (tBc 9) 55 = .ok (.aload_n 0, 1) := by decide +kernel
theorem d9_56 : decode (tBc 9) 56 = .ok (.getfield 44, 3) := by decide +kernel
theorem d9_59 : decode (tBc 9) 59 = .ok (.aload_n 0, 1) := by decide +kernel
theorem d9_60 : decode (tBc 9) 60 = .ok (.getfield 83, 3) := by decide +kernel
theorem d9_63 : decode (tBc 9) 63 = .ok (.invokevirtual 214, 3) := by decide +kernel
theorem d9_66 : decode (tBc 9) 66 = .ok (.return_, 1) := by decide +kernel
theorem d10_0 : decode (tBc 10) 0 = .ok (.aload_n 0, 1) := by decide +kernel
theorem d10_1 : decode (tBc 10) 1 = .ok (.getfield 40, 3) := by decide +kernel
theorem d10_4 : decode (tBc 10) 4 = .ok (.iload_n 1, 1) := by decide +kernel
theorem d10_5 : decode (tBc 10) 5 = .ok (.invokevirtual 111, 3) := by decide +kernel
theorem d10_8 : decode (tBc 10) 8 = .ok (.ifCond .ne 11, 3) := by decide +kernel
theorem d10_11 : decode (tBc 10) 11 = .ok (.new 115, 3) := by decide +kernel
theorem d10_14 : decode (tBc 10) 14 = .ok (.dup, 1) := by decide +kernel
theorem d10_15 : decode (tBc 10) 15 = .ok (.invokespecial 117, 3) := by decide +kernel
theorem d10_18 : decode (tBc 10) 18 = .ok (.athrow, 1) := by decide +kernel
theorem d10_19 : decode (tBc 10) 19 = .ok (.iload_n 2, 1) := by decide +kernel
theorem d10_20 : decode (tBc 10) 20 = .ok (.tableswitch 77 0 3 #[32, 42, 52, 62], 32) := by decide +kernel
theorem d10_52 : decode (tBc 10) 52 = .ok (.aload_n 0, 1) := by decide +kernel
theorem d10_53 : decode (tBc 10) 53 = .ok (.getfield 40, 3) := by decide +kernel
theorem d10_56 : decode (tBc 10) 56 = .ok (.getfield 118, 3) := by decide +kernel
theorem d10_59 : decode (tBc 10) 59 = .ok (.iload_n 1, 1) := by decide +kernel
theorem d10_60 : decode (tBc 10) 60 = .ok (.iaload, 1) := by decide +kernel
theorem d10_61 : decode (tBc 10) 61 = .ok (.ireturn, 1) := by decide +kernel
theorem d10_62 : decode (tBc 10) 62 = .ok (.aload_n 0, 1) := by decide +kernel
theorem d10_63 : decode (tBc 10) 63 = .ok (.getfield 40, 3) := by decide +kernel
theorem d10_66 : decode (tBc 10) 66 = .ok (.getfield 122, 3) := by decide +kernel
theorem d10_69 : decode (tBc 10) 69 = .ok (.iload_n 1, 1) := by decide +kernel
theorem d10_70 : decode (tBc 10) 70 = .ok (.iaload, 1) := by decide +kernel
theorem d10_71 : decode (tBc 10) 71 = .ok (.ireturn, 1) := by decide +kernel
theorem d10_72 : decode (tBc 10) 72 = .ok (.aload_n 0, 1) := by decide +kernel
theorem d10_73 : decode (tBc 10) 73 = .ok (.getfield 40, 3) := by decide +kernel
theorem d10_76 : decode (tBc 10) 76 = .ok (.getfield 125, 3) := by decide +kernel
theorem d10_79 : decode (tBc 10) 79 = .ok (.iload_n 1, 1) := by decide +kernel
theorem d10_80 : decode (tBc 10) 80 = .ok (.iaload, 1) := by decide +kernel
theorem d10_81 : decode (tBc 10) 81 = .ok (.ireturn, 1) := by decide +kernel
theorem d10_82 : decode (tBc 10) 82 = .ok (.aload_n 0, 1) := by decide +kernel
theorem d10_83 : decode (tBc 10) 83 = .ok (.getfield 83, 3) := by decide +kernel
theorem d10_86 : decode (tBc 10) 86 = .ok (.aload_n 0, 1) := by decide +kernel
theorem d10_87 : decode (tBc 10) 87 = .ok (.getfield 40, 3) := by decide +kernel
theorem d10_90 : decode (tBc 10) 90 = .ok (.getfield 128, 3) := by decide +kernel
theorem d10_93 : decode (tBc 10) 93 = .ok (.iload_n 1, 1) := by decide +kernel
theorem d10_94 : decode (tBc 10) 94 = .ok (.iaload, 1) := by decide +kernel
theorem d10_95 : decode (tBc 10) 95 = .ok (.isub, 1) := by decide +kernel
theorem d10_96 : decode (tBc 10) 96 = .ok (.ireturn, 1) := by decide +kernel
theorem d10_97 : decode (tBc 10) 97 = .ok (.new 115, 3) := by decide +kernel
theorem d10_100 : decode (tBc 10) 100 = .ok (.dup, 1) := by decide +kernel
theorem d10_101 : decode (tBc 10) 101 = .ok (.invokespecial 117, 3) := by decide +kernel
theorem d10_104 : decode (tBc 10) 104 = .ok (.athrow, 1) := by decide +kernel
theorem d11_0 : decode (tBc 11) 0 = .ok (.aload_n 0, 1) := by decide +kernel
theorem d11_1 : decode (tBc 11) 1 = .ok (.getfield 40, 3) := by decide +kernel
theorem d11_4 : decode (tBc 11) 4 = .ok (.iload_n 1, 1) := by decide +kernel
theorem d11_5 : decode (tBc 11) 5 = .ok (.invokevirtual 111, 3) := by decide +kernel
theorem d11_8 : decode (tBc 11) 8 = .ok (.ifCond .ne 11, 3) := by decide +kernel
theorem d11_11 : decode (tBc 11) 11 = .ok (.new 115, 3) := by decide +kernel
theorem d11_14 : decode (tBc 11) 14 = .ok (.dup, 1) := by decide +kernel
theorem d11_15 : decode (tBc 11) 15 = .ok (.invokespecial 117, 3) := by decide +kernel
theorem d11_18 : decode (tBc 11) 18 = .ok (.athrow, 1) := by decide +kernel
theorem d11_19 : decode (tBc 11) 19 = .ok (.aload_n 0, 1) := by decide +kernel
theorem d11_20 : decode (tBc 11) 20 = .ok (.iload_n 1, 1) := by decide +kernel
theorem d11_21 : decode (tBc 11) 21 = .ok (.invokevirtual 131, 3) := by decide +kernel
theorem d11_24 : decode (tBc 11) 24 = .ok (.ifCond .ne 11, 3) := by decide +kernel
theorem d11_27 : decode (tBc 11) 27 = .ok (.new 101, 3) := by decide +kernel
theorem d11_30 : decode (tBc 11) 30 = .ok (.dup, 1) := by decide +kernel
theorem d11_31 : decode (tBc 11) 31 = .ok (.invokespecial 103, 3) := by decide +kernel
theorem d11_34 : decode (tBc 11) 34 = .ok (.athrow, 1) := by decide +kernel
theorem d11_35 : decode (tBc 11) 35 = .ok (.aload_n 0, 1) := by decide +kernel
theorem d11_36 : decode (tBc 11) 36 = .ok (.getfield 40, 3) := by decide +kernel
theorem d11_39 : decode (tBc 11) 39 = .ok (.getfield 110, 3) := by decide +kernel
theorem d11_42 : decode (tBc 11) 42 = .ok (.ireturn, 1) := by decide +kernel
theorem d12_0 : decode (tBc 12) 0 = .ok (.aload_n 0, 1) := by decide +kernel
theorem d12_1 : decode (tBc 12) 1 = .ok (.getfield 34, 3) := by decide +kernel
theorem d12_4 : decode (tBc 12) 4 = .ok (.aload_n 0, 1) := by decide +kernel
theorem d12_5 : decode (tBc 12) 5 = .ok (.getfield 30, 3) := by decide +kernel
theorem d12_8 : decode (tBc 12) 8 = .ok (.aload_n 0, 1) := by decide +kernel
theorem d12_9 : decode (tBc 12) 9 = .ok (.getfield 40, 3) := by decide +kernel
theorem d12_12 : decode (tBc 12) 12 = .ok (.iload_n 1, 1) := by decide +kernel
theorem d12_13 : decode (tBc 12) 13 = .ok (.aload_n 0, 1) := by decide +kernel
theorem d12_14 : decode (tBc 12) 14 = .ok (.getfield 16, 3) := by decide +kernel
theorem d12_17 : decode (tBc 12) 17 = .ok (.invokevirtual 206, 3) := by decide +kernel
theorem d12_20 : decode (tBc 12) 20 = .ok (.ifCond .eq 21, 3) := by decide +kernel
theorem d12_23 : decode (tBc 12) 23 = .ok (.aload_n 0, 1) := by decide +kernel
theorem d12_24 : decode (tBc 12) 24 = .ok (.getfield 23, 3) := by decide +kernel
theorem d12_27 : decode (tBc 12) 27 = .ok (.aload_n 0, 1) := by decide +kernel
theorem d12_28 : decode (tBc 12) 28 = .ok (.getfield 34, 3) := by decide +kernel
theorem d12_31 : decode (tBc 12) 31 = .ok (.aload_n 0, 1) := by decide +kernel
theorem d12_32 : decode (tBc 12) 32 = .ok (.getfield 16, 3) := by decide +kernel
theorem d12_35 : decode (tBc 12) 35 = .ok (.invokevirtual 97, 3) := by decide +kernel
theorem d12_38 : decode (tBc 12) 38 = .ok (.ifCond .ne 5, 3) := by decide +kernel
theorem d12_41 : decode (tBc 12) 41 = .ok (.iconst 0, 1) := by decide +kernel
theorem d12_42 : decode (tBc 12) 42 = .ok (.ireturn, 1) := by decide +kernel
theorem d12_43 : decode (tBc 12) 43 = .ok (.aload_n 0, 1) := by decide +kernel
theorem d12_44 : decode (tBc 12) 44 = .ok (.dup, 1) := by decide +kernel
theorem d12_45 : decode (tBc 12) 45 = .ok (.getfield 83, 3) := by decide +kernel
theorem d12_48 : decode (tBc 12) 48 = .ok (.iconst 1, 1) := by decide +kernel
theorem d12_49 : decode (tBc 12) 49 = .ok (.iadd, 1) := by decide +kernel
theorem d12_50 : decode (tBc 12) 50 = .ok (.putfield 83, 3) := by decide +kernel
theorem d12_53 : decode (tBc 12) 53 = .ok (.aload_n 0, 1) := by decide +kernel
theorem d12_54 : decode (tBc 12) 54 = .ok (.invokevirtual 104, 3) := by decide +kernel
theorem d12_57 : decode (tBc 12) 57 = .ok (.iconst 1, 1) := by decide +kernel
theorem d12_58 : decode (tBc 12) 58 = .ok (.ireturn, 1) := by decide +kernel
theorem d13_0 : decode (tBc 13) 0 = .ok (.iload_n 1, 1) := by decide +kernel
theorem d13_1 : decode (tBc 13) 1 = .ok (.iconst 1, 1) := by decide +kernel
theorem d13_2 : decode (tBc 13) 2 = .ok (.if_icmp .lt 9, 3) := by decide +kernel
theorem d13_5 : decode (tBc 13) 5 = .ok (.iload_n 1, 1) := by decide +kernel
theorem d13_6 : decode (tBc 13) 6 = .ok (.bipush 30, 2) := by decide +kernel
theorem d13_8 : decode (tBc 13) 8 = .ok (.if_icmp .le 11, 3) := by decide +kernel
theorem d13_11 : decode (tBc 13) 11 = .ok (.new 68, 3) := by decide +kernel
theorem d13_14 : decode (tBc 13) 14 = .ok (.dup, 1) := by decide +kernel
theorem d13_15 : decode (tBc 13) 15 = .ok (.invokespecial 70, 3) := by decide +kernel
theorem d13_18 : decode (tBc 13) 18 = .ok (.athrow, 1) := by decide +kernel
theorem d13_19 : decode (tBc 13) 19 = .ok (.iconst 0, 1) := by decide +kernel
theorem d13_20 : decode (tBc 13) 20 = .ok (.istore_n 2, 1) := by decide +kernel
theorem d13_21 : decode (tBc 13) 21 = .ok (.iload_n 2, 1) := by decide +kernel
theorem d13_22 : decode (tBc 13) 22 = .ok (.iload_n 1, 1) := by decide +kernel
theorem d13_23 : decode (tBc 13) 23 = .ok (.if_icmp .ge 41, 3) := by decide +kernel
theorem d13_26 : decode (tBc 13) 26 = .ok (.aload_n 0, 1) := by decide +kernel
theorem d13_27 : decode (tBc 13) 27 = .ok (.getfield 40, 3) := by decide +kernel
theorem d13_30 : decode (tBc 13) 30 = .ok (.getfield 110, 3) := by decide +kernel
theorem d13_33 : decode (tBc 13) 33 = .ok (.ifCond .le 31, 3) := by decide +kernel
theorem d13_36 : decode (tBc 13) 36 = .ok (.aload_n 0, 1) := by decide +kernel
theorem d13_37 : decode (tBc 13) 37 = .ok (.aload_n 0, 1) := by decide +kernel
theorem d13_38 : decode (tBc 13) 38 = .ok (.getfield 40, 3) := by decide +kernel
theorem d13_41 : decode (tBc 13) 41 = .ok (.invokevirtual 134, 3) := by decide +kernel
theorem d13_44 : decode (tBc 13) 44 = .ok (.invokevirtual 131, 3) := by decide +kernel
theorem d13_47 : decode (tBc 13) 47 = .ok (.ifCond .ne 11, 3) := by decide +kernel
theorem d13_50 : decode (tBc 13) 50 = .ok (.new 101, 3) := by decide +kernel
theorem d13_53 : decode (tBc 13) 53 = .ok (.dup, 1) := by decide +kernel
theorem d13_54 : decode (tBc 13) 54 = .ok (.invokespecial 103, 3) := by decide +kernel
theorem d13_57 : decode (tBc 13) 57 = .ok (.athrow, 1) := by decide +kernel
theorem d13_58 : decode (tBc 13) 58 = .ok (.iinc 2 1, 3) := by decide +kernel
theorem d13_61 : decode (tBc 13) 61 = .ok (.goto (-40), 3) := by decide +kernel
theorem d13_64 : decode (tBc 13) 64 = .ok (.iload_n 2, 1) := by decide +kernel
theorem d13_65 : decode (tBc 13) 65 = .ok (.ireturn, 1) := by decide +kernel
theorem d14_0 : decode (tBc 14) 0 = .ok (.iload_n 1, 1) := by decide +kernel
theorem d14_1 : decode (tBc 14) 1 = .ok (.tableswitch 81 0 4 #[35, 46, 57, 68, 76], 35) := by decide +kernel
theorem d14_36 : decode (tBc 14) 36 = .ok (.aload_n 0, 1) := by decide +kernel
theorem d14_37 : decode (tBc 14) 37 = .ok (.getfield 30, 3) := by decide +kernel
theorem d14_40 : decode (tBc 14) 40 = .ok (.getfield 138, 3) := by decide +kernel
theorem d14_43 : decode (tBc 14) 43 = .ok (.getfield 142, 3) := by decide +kernel
theorem d14_46 : decode (tBc 14) 46 = .ok (.ireturn, 1) := by decide +kernel
theorem d14_47 : decode (tBc 14) 47 = .ok (.aload_n 0, 1) := by decide +kernel
theorem d14_48 : decode (tBc 14) 48 = .ok (.getfield 30, 3) := by decide +kernel
theorem d14_51 : decode (tBc 14) 51 = .ok (.getfield 145, 3) := by decide +kernel
theorem d14_54 : decode (tBc 14) 54 = .ok (.getfield 142, 3) := by decide +kernel
theorem d14_57 : decode (tBc 14) 57 = .ok (.ireturn, 1) := by decide +kernel
theorem d14_58 : decode (tBc 14) 58 = .ok (.aload_n 0, 1) := by decide +kernel
theorem d14_59 : decode (tBc 14) 59 = .ok (.getfield 30, 3) := by decide +kernel
theorem d14_62 : decode (tBc 14) 62 = .ok (.getfield 148, 3) := by decide +kernel
theorem d14_65 : decode (tBc 14) 65 = .ok (.getfield 142, 3) := by decide +kernel
theorem d14_68 : decode (tBc 14) 68 = .ok (.ireturn, 1) := by decide +kernel
theorem d14_69 : decode (tBc 14) 69 = .ok (.aload_n 0, 1) := by decide +kernel
theorem d14_70 : decode (tBc 14) 70 = .ok (.getfield 30, 3) := by decide +kernel
theorem d14_73 : decode (tBc 14) 73 = .ok (.getfield 151, 3) := by decide +kernel
theorem d14_76 : decode (tBc 14) 76 = .ok (.ireturn, 1) := by decide +kernel
theorem d14_77 : decode (tBc 14) 77 = .ok (.aload_n 0, 1) := by decide +kernel
theorem d14_78 : decode (tBc 14) 78 = .ok (.getfield 83, 3) := by decide +kernel
theorem d14_81 : decode (tBc 14) 81 = .ok (.ireturn, 1) := by decide +kernel
theorem d14_82 : decode (tBc 14) 82 = .ok (.new 115, 3) := by decide +kernel
theorem d14_85 : decode (tBc 14) 85 = .ok (.dup, 1) := by decide +kernel
theorem d14_86 : decode (tBc 14) 86 = .ok (.invokespecial 117, 3) := by decide +kernel
theorem d14_89 : decode (tBc 14) 89 = .ok (.athrow, 1) := by decide +kernel
theorem d15_0 : decode (tBc 15) 0 = .ok (.iload_n 1, 1) := by decide +kernel
theorem d15_1 : decode (tBc 15) 1 = .ok (.ifCond .ge 11, 3) := by decide +kernel
theorem d15_4 : decode (tBc 15) 4 = .ok (.new 115, 3) := by decide +kernel
theorem d15_7 : decode (tBc 15) 7 = .ok (.dup, 1) := by decide +kernel
theorem d15_8 : decode (tBc 15) 8 = .ok (.invokespecial 117, 3) := by decide +kernel
theorem d15_11 : decode (tBc 15) 11 = .ok (.athrow, 1) := by decide +kernel
theorem d15_12 : decode (tBc 15) 12 = .ok (.iload_n 1, 1) := by decide +kernel
theorem d15_13 : decode (tBc 15) 13 = .ok (.aload_n 0, 1) := by decide +kernel
theorem d15_14 : decode (tBc 15) 14 = .ok (.getfield 30, 3) := by decide +kernel
theorem d15_17 : decode (tBc 15) 17 = .ok (.getfield 154, 3) := by decide +kernel
theorem d15_20 : decode (tBc 15) 20 = .ok (.getfield 158, 3) := by decide +kernel
theorem d15_23 : decode (tBc 15) 23 = .ok (.if_icmp .ge 18, 3) := by decide +kernel
theorem d15_26 : decode (tBc 15) 26 = .ok (.aload_n 0, 1) := by decide +kernel
theorem d15_27 : decode (tBc 15) 27 = .ok (.getfield 30, 3) := by decide +kernel
theorem d15_30 : decode (tBc 15) 30 = .ok (.getfield 154, 3) := by decide +kernel
theorem d15_33 : decode (tBc 15) 33 = .ok (.getfield 161, 3) := by decide +kernel
theorem d15_36 : decode (tBc 15) 36 = .ok (.iload_n 1, 1) := by decide +kernel
theorem d15_37 : decode (tBc 15) 37 = .ok (.caload, 1) := by decide +kernel
theorem d15_38 : decode (tBc 15) 38 = .ok (.goto 4, 3) := by decide +kernel
theorem d15_41 : decode (tBc 15) 41 = .ok (.iconst (-1), 1) := by decide +kernel
theorem d15_42 : decode (tBc 15) 42 = .ok (.ireturn, 1) := by decide +kernel
theorem d16_0 : decode (tBc 16) 0 = .ok (.iload_n 1, 1) := by decide +kernel
theorem d16_1 : decode (tBc 16) 1 = .ok (.invokestatic 164, 3) := by decide +kernel
theorem d16_4 : decode (tBc 16) 4 = .ok (.ifCond .ne 11, 3) := by decide +kernel
theorem d16_7 : decode (tBc 16) 7 = .ok (.new 115, 3) := by decide +kernel
theorem d16_10 : decode (tBc 16) 10 = .ok (.dup, 1) := by decide +kernel
theorem d16_11 : decode (tBc 16) 11 = .ok (.invokespecial 117, 3) := by decide +kernel
theorem d16_14 : decode (tBc 16) 14 = .ok (.athrow, 1) := by decide +kernel
theorem d16_15 : decode (tBc 16) 15 = .ok (.aload_n 0, 1) := by decide +kernel
theorem d16_16 : decode (tBc 16) 16 = .ok (.getfield 49, 3) := by decide +kernel
theorem d16_19 : decode (tBc 16) 19 = .ok (.iload_n 1, 1) := by decide +kernel
theorem d16_20 : decode (tBc 16) 20 = .ok (.aaload, 1) := by decide +kernel
theorem d16_21 : decode (tBc 16) 21 = .ok (.aload_n 0, 1) := by decide +kernel
theorem d16_22 : decode (tBc 16) 22 = .ok (.getfield 30, 3) := by decide +kernel
theorem d16_25 : decode (tBc 16) 25 = .ok (.getfield 154, 3) := by decide +kernel
theorem d16_28 : decode (tBc 16) 28 = .ok (.getfield 161, 3) := by decide +kernel
theorem d16_31 : decode (tBc 16) 31 = .ok (.aload_n 0, 1) := by decide +kernel
theorem d16_32 : decode (tBc 16) 32 = .ok (.getfield 30, 3) := by decide +kernel
theorem d16_35 : decode (tBc 16) 35 = .ok (.getfield 154, 3) := by decide +kernel
theorem d16_38 : decode (tBc 16) 38 = .ok (.getfield 158, 3) := by decide +kernel
theorem d16_41 : decode (tBc 16) 41 = .ok (.invokevirtual 167, 3) := by decide +kernel
theorem d16_44 : decode (tBc 16) 44 = .ok (.aload_n 0, 1) := by decide +kernel
theorem d16_45 : decode (tBc 16) 45 = .ok (.getfield 30, 3) := by decide +kernel
theorem d16_48 : decode (tBc 16) 48 = .ok (.getfield 154, 3) := by decide +kernel
theorem d16_51 : decode (tBc 16) 51 = .ok (.getfield 158, 3) := by decide +kernel
theorem d16_54 : decode (tBc 16) 54 = .ok (.ireturn, 1) := by decide +kernel
theorem d17_0 : decode (tBc 17) 0 = .ok (.iload_n 0, 1) := by decide +kernel
theorem d17_1 : decode (tBc 17) 1 = .ok (.ifCond .lt 12, 3) := by decide +kernel
theorem d17_4 : decode (tBc 17) 4 = .ok (.iload_n 0, 1) := by decide +kernel
theorem d17_5 : decode (tBc 17) 5 = .ok (.iconst 3, 1) := by decide +kernel
theorem d17_6 : decode (tBc 17) 6 = .ok (.if_icmp .ge 7, 3) := by decide +kernel
theorem d17_9 : decode (tBc 17) 9 = .ok (.iconst 1, 1) := by decide +kernel
theorem d17_10 : decode (tBc 17) 10 = .ok (.goto 4, 3) := by decide +kernel
theorem d17_13 : decode (tBc 17) 13 = .ok (.iconst 0, 1) := by decide +kernel
theorem d17_14 : decode (tBc 17) 14 = .ok (.ireturn, 1) := by decide +kernel
theorem d18_0 : decode (tBc 18) 0 = .ok (.iload_n 1, 1) := by decide +kernel
theorem d18_1 : decode (tBc 18) 1 = .ok (.invokestatic 164, 3) := by decide +kernel
theorem d18_4 : decode (tBc 18) 4 = .ok (.ifCond .ne 11, 3) := by decide +kernel
theorem d18_7 : decode (tBc 18) 7 = .ok (.new 115, 3) := by decide +kernel
theorem d18_10 : decode (tBc 18) 10 = .ok (.dup, 1) := by decide +kernel
theorem d18_11 : decode (tBc 18) 11 = .ok (.invokespecial 117, 3) := by decide +kernel
theorem d18_14 : decode (tBc 18) 14 = .ok (.athrow, 1) := by decide +kernel
theorem d18_15 : decode (tBc 18) 15 = .ok (.aload_n 0, 1) := by decide +kernel
theorem d18_16 : decode (tBc 18) 16 = .ok (.getfield 49, 3) := by decide +kernel
theorem d18_19 : decode (tBc 18) 19 = .ok (.iload_n 1, 1) := by decide +kernel
theorem d18_20 : decode (tBc 18) 20 = .ok (.aaload, 1) := by decide +kernel
theorem d18_21 : decode (tBc 18) 21 = .ok (.getfield 158, 3) := by decide +kernel
theorem d18_24 : decode (tBc 18) 24 = .ok (.ifCond .ne 11, 3) := by decide +kernel
theorem d18_27 : decode (tBc 18) 27 = .ok (.new 170, 3) := by decide +kernel
theorem d18_30 : decode (tBc 18) 30 = .ok (.dup, 1) := by decide +kernel
theorem d18_31 : decode (tBc 18) 31 = .ok (.invokespecial 172, 3) := by decide +kernel
theorem d18_34 : decode (tBc 18) 34 = .ok (.athrow, 1) := by decide +kernel
theorem d18_35 : decode (tBc 18) 35 = .ok (.aload_n 0, 1) := by decide +kernel
theorem d18_36 : decode (tBc 18) 36 = .ok (.getfield 30, 3) := by decide +kernel
theorem d18_39 : decode (tBc 18) 39 = .ok (.getfield 154, 3) := by decide +kernel
theorem d18_42 : decode (tBc 18) 42 = .ok (.aload_n 0, 1) := by decide +kernel
theorem d18_43 : decode (tBc 18) 43 = .ok (.getfield 49, 3) := by decide +kernel
theorem d18_46 : decode (tBc 18) 46 = .ok (.iload_n 1, 1) := by decide +kernel
theorem d18_47 : decode (tBc 18) 47 = .ok (.aaload, 1) := by decide +kernel
theorem d18_48 : decode (tBc 18) 48 = .ok (.invokevirtual 173, 3) := by decide +kernel
theorem d18_51 : decode (tBc 18) 51 = .ok (.ireturn, 1) := by decide +kernel
theorem d19_0 : decode (tBc 19) 0 = .ok (.iload_n 1, 1) := by decide +kernel
theorem d19_1 : decode (tBc 19) 1 = .ok (.invokestatic 177, 3) := by decide +kernel
theorem d19_4 : decode (tBc 19) 4 = .ok (.ifCond .eq 10, 3) := by decide +kernel
theorem d19_7 : decode (tBc 19) 7 = .ok (.iload_n 2, 1) := by decide +kernel
theorem d19_8 : decode (tBc 19) 8 = .ok (.invokestatic 177, 3) := by decide +kernel
theorem d19_11 : decode (tBc 19) 11 = .ok (.ifCond .ne 11, 3) := by decide +kernel
theorem d19_14 : decode (tBc 19) 14 = .ok (.new 68, 3) := by decide +kernel
theorem d19_17 : decode (tBc 19) 17 = .ok (.dup, 1) := by decide +kernel
theorem d19_18 : decode (tBc 19) 18 = .ok (.invokespecial 70, 3) := by decide +kernel
theorem d19_21 : decode (tBc 19) 21 = .ok (.athrow, 1) := by decide +kernel
theorem d19_22 : decode (tBc 19) 22 = .ok (.aload_n 0, 1) := by decide +kernel
theorem d19_23 : decode (tBc 19) 23 = .ok (.getfield 30, 3) := by decide +kernel
theorem d19_26 : decode (tBc 19) 26 = .ok (.iload_n 1, 1) := by decide +kernel
theorem d19_27 : decode (tBc 19) 27 = .ok (.iload_n 2, 1) := by decide +kernel
theorem d19_28 : decode (tBc 19) 28 = .ok (.invokevirtual 180, 3) := by decide +kernel
theorem d19_31 : decode (tBc 19) 31 = .ok (.ireturn, 1) := by decide +kernel
theorem d20_0 : decode (tBc 20) 0 = .ok (.iload_n 0, 1) := by decide +kernel
theorem d20_1 : decode (tBc 20) 1 = .ok (.ifCond .lt 13, 3) := by decide +kernel
theorem d20_4 : decode (tBc 20) 4 = .ok (.iload_n 0, 1) := by decide +kernel
theorem d20_5 : decode (tBc 20) 5 = .ok (.bipush 6, 2) := by decide +kernel
theorem d20_7 : decode (tBc 20) 7 = .ok (.if_icmp .ge 7, 3) := by decide +kernel
theorem d20_10 : decode (tBc 20) 10 = .ok (.iconst 1, 1) := by decide +kernel
theorem d20_11 : decode (tBc 20) 11 = .ok (.goto 4, 3) := by decide +kernel
theorem d20_14 : decode (tBc 20) 14 = .ok (.iconst 0, 1) := by decide +kernel
theorem d20_15 : decode (tBc 20) 15 = .ok (.ireturn, 1) := by decide +kernel
theorem d21_0 : decode (tBc 21) 0 = .ok (.iload_n 1, 1) := by decide +kernel
theorem d21_1 : decode (tBc 21) 1 = .ok (.iconst 1, 1) := by decide +kernel
theorem d21_2 : decode (tBc 21) 2 = .ok (.if_icmp .lt 23, 3) := by decide +kernel
theorem d21_5 : decode (tBc 21) 5 = .ok (.iload_n 1, 1) := by decide +kernel
theorem d21_6 : decode (tBc 21) 6 = .ok (.bipush 30, 2) := by decide +kernel
theorem d21_8 : decode (tBc 21) 8 = .ok (.if_icmp .gt 17, 3) := by decide +kernel
theorem d21_11 : decode (tBc 21) 11 = .ok (.iload_n 2, 1) := by decide +kernel
theorem d21_12 : decode (tBc 21) 12 = .ok (.invokestatic 177, 3) := by decide +kernel
theorem d21_15 : decode (tBc 21) 15 = .ok (.ifCond .eq 10, 3) := by decide +kernel
theorem d21_18 : decode (tBc 21) 18 = .ok (.iload_n 3, 1) := by decide +kernel
theorem d21_19 : decode (tBc 21) 19 = .ok (.invokestatic 177, 3) := by decide +kernel
theorem d21_22 : decode (tBc 21) 22 = .ok (.ifCond .ne 11, 3) := by decide +kernel
theorem d21_25 : decode (tBc 21) 25 = .ok (.new 68, 3) := by decide +kernel
theorem d21_28 : decode (tBc 21) 28 = .ok (.dup, 1) := by decide +kernel
theorem d21_29 : decode (tBc 21) 29 = .ok (.invokespecial 70, 3) := by decide +kernel
theorem d21_32 : decode (tBc 21) 32 = .ok (.athrow, 1) := by decide +kernel
theorem d21_33 : decode (tBc 21) 33 = .ok (.aload_n 0, 1) := by decide +kernel
theorem d21_34 : decode (tBc 21) 34 = .ok (.getfield 56, 3) := by decide +kernel
theorem d21_37 : decode (tBc 21) 37 = .ok (.aload_n 0, 1) := by decide +kernel
theorem d21_38 : decode (tBc 21) 38 = .ok (.getfield 30, 3) := by decide +kernel
theorem d21_41 : decode (tBc 21) 41 = .ok (.iload_n 1, 1) := by decide +kernel
theorem d21_42 : decode (tBc 21) 42 = .ok (.aload_n 0, 1) := by decide +kernel
theorem d21_43 : decode (tBc 21) 43 = .ok (.getfield 16, 3) := by decide +kernel
theorem d21_46 : decode (tBc 21) 46 = .ok (.aload_n 0, 1) := by decide +kernel
theorem d21_47 : decode (tBc 21) 47 = .ok (.getfield 23, 3) := by decide +kernel
theorem d21_50 : decode (tBc 21) 50 = .ok (.invokevirtual 184, 3) := by decide +kernel
theorem d21_53 : decode (tBc 21) 53 = .ok (.aload_n 0, 1) := by decide +kernel
theorem d21_54 : decode (tBc 21) 54 = .ok (.getfield 56, 3) := by decide +kernel
theorem d21_57 : decode (tBc 21) 57 = .ok (.iload_n 2, 1) := by decide +kernel
theorem d21_58 : decode (tBc 21) 58 = .ok (.iload_n 3, 1) := by decide +kernel
theorem d21_59 : decode (tBc 21) 59 = .ok (.invokevirtual 188, 3) := by decide +kernel
theorem d21_62 : decode (tBc 21) 62 = .ok (.aload_n 0, 1) := by decide +kernel
theorem d21_63 : decode (tBc 21) 63 = .ok (.getfield 56, 3) := by decide +kernel
theorem d21_66 : decode (tBc 21) 66 = .ok (.getfield 192, 3) := by decide +kernel
theorem d21_69 : decode (tBc 21) 69 = .ok (.ireturn, 1) := by decide +kernel
theorem d22_0 : decode (tBc 22) 0 = .ok (.iload_n 1, 1) := by decide +kernel
theorem d22_1 : decode (tBc 22) 1 = .ok (.tableswitch 83 0 4 #[35, 43, 59, 67, 75], 35) := by decide +kernel
theorem d22_36 : decode (tBc 22) 36 = .ok (.aload_n 0, 1) := by decide +kernel
theorem d22_37 : decode (tBc 22) 37 = .ok (.getfield 56, 3) := by decide +kernel
theorem d22_40 : decode (tBc 22) 40 = .ok (.getfield 192, 3) := by decide +kernel
theorem d22_43 : decode (tBc 22) 43 = .ok (.ireturn, 1) := by decide +kernel
theorem d22_44 : decode (tBc 22) 44 = .ok (.aload_n 0, 1) := by decide +kernel
theorem d22_45 : decode (tBc 22) 45 = .ok (.getfield 56, 3) := by decide +kernel
theorem d22_48 : decode (tBc 22) 48 = .ok (.getfield 193, 3) := by decide +kernel
theorem d22_51 : decode (tBc 22) 51 = .ok (.ifCond .eq 7, 3) := by decide +kernel
theorem d22_54 : decode (tBc 22) 54 = .ok (.iconst 1, 1) := by decide +kernel
theorem d22_55 : decode (tBc 22) 55 = .ok (.goto 4, 3) := by decide +kernel
theorem d22_58 : decode (tBc 22) 58 = .ok (.iconst 0, 1) := by decide +kernel
theorem d22_59 : decode (tBc 22) 59 = .ok (.ireturn, 1) := by decide +kernel
theorem d22_60 : decode (tBc 22) 60 = .ok (.aload_n 0, 1) := by decide +kernel
theorem d22_61 : decode (tBc 22) 61 = .ok (.getfield 56, 3) := by decide +kernel
theorem d22_64 : decode (tBc 22) 64 = .ok (.getfield 197, 3) := by decide +kernel
theorem d22_67 : decode (tBc 22) 67 = .ok (.ireturn, 1) := by decide +kernel
theorem d22_68 : decode (tBc 22) 68 = .ok (.aload_n 0, 1) := by decide +kernel
theorem d22_69 : decode (tBc 22) 69 = .ok (.getfield 56, 3) := by decide +kernel
theorem d22_72 : decode (tBc 22) 72 = .ok (.getfield 200, 3) := by decide +kernel
theorem d22_75 : decode (tBc 22) 75 = .ok (.ireturn, 1) := by decide +kernel
theorem d22_76 : decode (tBc 22) 76 = .ok (.aload_n 0, 1) := by decide +kernel
theorem d22_77 : decode (tBc 22) 77 = .ok (.getfield 56, 3) := by decide +kernel
theorem d22_80 : decode (tBc 22) 80 = .ok (.invokevirtual 203, 3) := by decide +kernel
theorem d22_83 : decode (tBc 22) 83 = .ok (.ireturn, 1) := by decide +kernel
theorem d22_84 : decode (tBc 22) 84 = .ok (.new 115, 3) := by decide +kernel
theorem d22_87 : decode (tBc 22) 87 = .ok (.dup, 1) := by decide +kernel
theorem d22_88 : decode (tBc 22) 88 = .ok (.invokespecial 117, 3) := by decide +kernel
theorem d22_91 : decode (tBc 22) 91 = .ok (.athrow, 1) := by decide +kernel
theorem d57_0 : decode (tBc 57) 0 = .ok (.aload_n 0, 1) := by decide +kernel
theorem d57_1 : decode (tBc 57) 1 = .ok (.invokespecial 3, 3) := by decide +kernel
theorem d57_4 : decode (tBc 57) 4 = .ok (.aload_n 0, 1) := by decide +kernel
theorem d57_5 : decode (tBc 57) 5 = .ok (.sipush 240, 3) := by decide +kernel
theorem d57_8 : decode (tBc 57) 8 = .ok (.newarray .char, 2) := by decide +kernel
theorem d57_10 : decode (tBc 57) 10 = .ok (.putfield 9, 3) := by decide +kernel
theorem d57_13 : decode (tBc 57) 13 = .ok (.aload_n 0, 1) := by decide +kernel
theorem d57_14 : decode (tBc 57) 14 = .ok (.sipush 240, 3) := by decide +kernel
theorem d57_17 : decode (tBc 57) 17 = .ok (.newarray .char, 2) := by decide +kernel
theorem d57_19 : decode (tBc 57) 19 = .ok (.putfield 15, 3) := by decide +kernel
theorem d57_22 : decode (tBc 57) 22 = .ok (.aload_n 0, 1) := by decide +kernel
theorem d57_23 : decode (tBc 57) 23 = .ok (.sipush 240, 3) := by decide +kernel
theorem d57_26 : decode (tBc 57) 26 = .ok (.newarray .int, 2) := by decide +kernel
theorem d57_28 : decode (tBc 57) 28 = .ok (.putfield 18, 3) := by decide +kernel
theorem d57_31 : decode (tBc 57) 31 = .ok (.aload_n 0, 1) := by decide +kernel
theorem d57_32 : decode (tBc 57) 32 = .ok (.sipush 240, 3) := by decide +kernel
theorem d57_35 : decode (tBc 57) 35 = .ok (.newarray .int, 2) := by decide +kernel
theorem d57_37 : decode (tBc 57) 37 = .ok (.putfield 22, 3) := by decide +kernel
theorem d57_40 : decode (tBc 57) 40 = .ok (.return_, 1) := by decide +kernel
theorem d58_0 : decode (tBc 58) 0 = .ok (.aload_n 0, 1) := by decide +kernel
theorem d58_1 : decode (tBc 58) 1 = .ok (.iconst 0, 1) := by decide +kernel
theorem d58_2 : decode (tBc 58) 2 = .ok (.putfield 25, 3) := by decide +kernel
theorem d58_5 : decode (tBc 58) 5 = .ok (.aload_n 0, 1) := by decide +kernel
theorem d58_6 : decode (tBc 58) 6 = .ok (.iconst 0, 1) := by decide +kernel
theorem d58_7 : decode (tBc 58) 7 = .ok (.putfield 29, 3) := by decide +kernel
theorem d58_10 : decode (tBc 58) 10 = .ok (.aload_n 0, 1) := by decide +kernel
theorem d58_11 : decode (tBc 58) 11 = .ok (.iconst 0, 1) := by decide +kernel
theorem d58_12 : decode (tBc 58) 12 = .ok (.putfield 32, 3) := by decide +kernel
theorem d58_15 : decode (tBc 58) 15 = .ok (.aload_n 0, 1) := by decide +kernel
theorem d58_16 : decode (tBc 58) 16 = .ok (.aload_n 1, 1) := by decide +kernel
theorem d58_17 : decode (tBc 58) 17 = .ok (.aload_n 2, 1) := by decide +kernel
theorem d58_18 : decode (tBc 58) 18 = .ok (.iconst (-1), 1) := by decide +kernel
theorem d58_19 : decode (tBc 58) 19 = .ok (.iconst 0, 1) := by decide +kernel
theorem d58_20 : decode (tBc 58) 20 = .ok (.invokevirtual 36, 3) := by decide +kernel
theorem d58_23 : decode (tBc 58) 23 = .ok (.aload_n 0, 1) := by decide +kernel
theorem d58_24 : decode (tBc 58) 24 = .ok (.getfield 32, 3) := by decide +kernel
theorem d58_27 : decode (tBc 58) 27 = .ok (.ifCond .ne 18, 3) := by decide +kernel
theorem d58_30 : decode (tBc 58) 30 = .ok (.aload_n 1, 1) := by decide +kernel
theorem d58_31 : decode (tBc 58) 31 = .ok (.getfield 40, 3) := by decide +kernel
theorem d58_34 : decode (tBc 58) 34 = .ok (.aload_n 0, 1) := by decide +kernel
theorem d58_35 : decode (tBc 58) 35 = .ok (.getfield 9, 3) := by decide +kernel
theorem d58_38 : decode (tBc 58) 38 = .ok (.aload_n 0, 1) := by decide +kernel
theorem d58_39 : decode (tBc 58) 39 = .ok (.getfield 25, 3) := by decide +kernel
theorem d58_42 : decode (tBc 58) 42 = .ok (.invokevirtual 46, 3) := by decide +kernel
theorem d58_45 : decode (tBc 58) 45 = .ok (.aload_n 0, 1) := by decide +kernel
theorem d58_46 : decode (tBc 58) 46 = .ok (.getfield 32, 3) := by decide +kernel
theorem d58_49 : decode (tBc 58) 49 = .ok (.ifCond .ne 7, 3) := by decide +kernel
theorem d58_52 : decode (tBc 58) 52 = .ok (.iconst 1, 1) := by decide +kernel
theorem d58_53 : decode (tBc 58) 53 = .ok (.goto 4, 3) := by decide +kernel
theorem d58_56 : decode (tBc 58) 56 = .ok (.iconst 0, 1) := by decide +kernel
theorem d58_57 : decode (tBc 58) 57 = .ok (.ireturn, 1) := by decide +kernel
theorem d59_0 : decode (tBc 59) 0 = .ok (.aload_n 0, 1) := by decide +kernel
theorem d59_1 : decode (tBc 59) 1 = .ok (.getfield 29, 3) := by decide +kernel
theorem d59_4 : decode (tBc 59) 4 = .ok (.istore 5, 2) := by decide +kernel
theorem d59_6 : decode (tBc 59) 6 = .ok (.aload_n 0, 1) := by decide +kernel
theorem d59_7 : decode (tBc 59) 7 = .ok (.getfield 25, 3) := by decide +kernel
theorem d59_10 : decode (tBc 59) 10 = .ok (.istore 6, 2) := by decide +kernel
theorem d59_12 : decode (tBc 59) 12 = .ok (.iload 4, 2) := by decide +kernel
theorem d59_14 : decode (tBc 59) 14 = .ok (.bipush 40, 2) := by decide +kernel
theorem d59_16 : decode (tBc 59) 16 = .ok (.if_icmp .le 8, 3) := by decide +kernel
theorem d59_19 : decode (tBc 59) 19 = .ok (.aload_n 0, 1) := by decide +kernel
theorem d59_20 : decode (tBc 59) 20 = .ok (.iconst 1, 1) := by decide +kernel
theorem d59_21 : decode (tBc 59) 21 = .ok (.putfield 32, 3) := by decide +kernel
theorem d59_24 : decode (tBc 59) 24 = .ok (.iconst 0, 1) := by decide +kernel
theorem d59_25 : decode (tBc 59) 25 = .ok (.istore 7, 2) := by decide +kernel
theorem d59_27 : decode (tBc 59) 27 = .ok (.iload 7, 2) := by decide +kernel
theorem d59_29 : decode (tBc 59) 29 = .ok (.aload_n 1, 1) := by decide +kernel
theorem d59_30 : decode (tBc 59) 30 = .ok (.getfield 52, 3) := by decide +kernel
theorem d59_33 : decode (tBc 59) 33 = .ok (.getfield 56, 3) := by decide +kernel
theorem d59_36 : decode (tBc 59) 36 = .ok (.if_icmp .ge 94, 3) := by decide +kernel
theorem d59_39 : decode (tBc 59) 39 = .ok (.aload_n 0, 1) := by decide +kernel
theorem d59_40 : decode (tBc 59) 40 = .ok (.getfield 32, 3) := by decide +kernel
theorem d59_43 : decode (tBc 59) 43 = .ok (.ifCond .ne 87, 3) := by decide +kernel
theorem d59_46 : decode (tBc 59) 46 = .ok (.aload_n 1, 1) := by decide +kernel
theorem d59_47 : decode (tBc 59) 47 = .ok (.getfield 52, 3) := by decide +kernel
theorem d59_50 : decode (tBc 59) 50 = .ok (.getfield 61, 3) := by decide +kernel
theorem d59_53 : decode (tBc 59) 53 = .ok (.iload 7, 2) := by decide +kernel
theorem d59_55 : decode (tBc 59) 55 = .ok (.iaload, 1) := by decide +kernel
theorem d59_56 : decode (tBc 59) 56 = .ok (.iload_n 3, 1) := by decide +kernel
theorem d59_57 : decode (tBc 59) 57 = .ok (.if_icmp .ne 67, 3) := by decide +kernel
theorem d59_60 : decode (tBc 59) 60 = .ok (.aload_n 0, 1) := by decide +kernel
theorem d59_61 : decode (tBc 59) 61 = .ok (.getfield 25, 3) := by decide +kernel
theorem d59_64 : decode (tBc 59) 64 = .ok (.istore 8, 2) := by decide +kernel
theorem d59_66 : decode (tBc 59) 66 = .ok (.aload_n 0, 1) := by decide +kernel
theorem d59_67 : decode (tBc 59) 67 = .ok (.bipush 97, 2) := by decide +kernel
theorem d59_69 : decode (tBc 59) 69 = .ok (.aload_n 1, 1) := by decide +kernel
theorem d59_70 : decode (tBc 59) 70 = .ok (.getfield 52, 3) := by decide +kernel
theorem d59_73 : decode (tBc 59) 73 = .ok (.getfield 64, 3) := by decide +kernel
theorem d59_76 : decode (tBc 59) 76 = .ok (.iload 7, 2) := by decide +kernel
theorem d59_78 : decode (tBc 59) 78 = .ok (.iaload, 1) := by decide +kernel
theorem d59_79 : decode (tBc 59) 79 = .ok (.iadd, 1) := by decide +kernel
theorem d59_80 : decode (tBc 59) 80 = .ok (.i2c, 1) := by decide +kernel
theorem d59_81 : decode (tBc 59) 81 = .ok (.invokevirtual 67, 3) := by decide +kernel
theorem d59_84 : decode (tBc 59) 84 = .ok (.aload_n 0, 1) := by decide +kernel
theorem d59_85 : decode (tBc 59) 85 = .ok (.bipush 91, 2) := by decide +kernel
theorem d59_87 : decode (tBc 59) 87 = .ok (.invokevirtual 67, 3) := by decide +kernel
theorem d59_90 : decode (tBc 59) 90 = .ok (.aload_n 0, 1) := by decide +kernel
theorem d59_91 : decode (tBc 59) 91 = .ok (.aload_n 1, 1) := by decide +kernel
theorem d59_92 : decode (tBc 59) 92 = .ok (.aload_n 2, 1) := by decide +kernel
theorem d59_93 : decode (tBc 59) 93 = .ok (.aload_n 1, 1) := by decide +kernel
theorem d59_94 : decode (tBc 59) 94 = .ok (.getfield 52, 3) := by decide +kernel
theorem d59_97 : decode (tBc 59) 97 = .ok (.getfield 71, 3) := by decide +kernel
theorem d59_100 : decode (tBc 59) 100 = .ok (.iload 7, 2) := by decide +kernel
theorem d59_102 : decode (tBc 59) 102 = .ok (.iaload, 1) := by decide +kernel
theorem d59_103 : decode (tBc 59) 103 = .ok (.iload 4, 2) := by decide +kernel
theorem d59_105 : decode (tBc 59) 105 = .ok (.iconst 1, 1) := by decide +kernel
theorem d59_106 : decode (tBc 59) 106 = .ok (.iadd, 1) := by decide +kernel
theorem d59_107 : decode (tBc 59) 107 = .ok (.invokevirtual 36, 3) := by decide +kernel
theorem d59_110 : decode (tBc 59) 110 = .ok (.aload_n 0, 1) := by decide +kernel
theorem d59_111 : decode (tBc 59) 111 = .ok (.bipush 93, 2) := by decide +kernel
theorem d59_113 : decode (tBc 59) 113 = .ok (.invokevirtual 67, 3) := by decide +kernel
theorem d59_116 : decode (tBc 59) 116 = .ok (.aload_n 0, 1) := by decide +kernel
theorem d59_117 : decode (tBc 59) 117 = .ok (.iload 5, 2) := by decide +kernel
theorem d59_119 : decode (tBc 59) 119 = .ok (.iload 8, 2) := by decide +kernel
theorem d59_121 : decode (tBc 59) 121 = .ok (.invokevirtual 74, 3) := by decide +kernel
theorem d59_124 : decode (tBc 59) 124 = .ok (.iinc 7 1, 3) := by decide +kernel
theorem d59_127 : decode (tBc 59) 127 = .ok (.goto (-100), 3) := by decide +kernel
theorem d59_130 : decode (tBc 59) 130 = .ok (.iconst 0, 1) := by decide +kernel
theorem d59_131 : decode (tBc 59) 131 = .ok (.istore 7, 2) := by decide +kernel
theorem d59_133 : decode (tBc 59) 133 = .ok (.iload 7, 2) := by decide +kernel
theorem d59_135 : decode (tBc 59) 135 = .ok (.aload_n 1, 1) := by decide +kernel
theorem d59_136 : decode (tBc 59) 136 = .ok (.getfield 78, 3) := by decide +kernel
theorem d59_139 : decode (tBc 59) 139 = .ok (.getfield 56, 3) := by decide +kernel
theorem d59_142 : decode (tBc 59) 142 = .ok (.if_icmp .ge 73, 3) := by decide +kernel
theorem d59_145 : decode (tBc 59) 145 = .ok (.aload_n 0, 1) := by decide +kernel
theorem d59_146 : decode (tBc 59) 146 = .ok (.getfield 32, 3) := by decide +kernel
theorem d59_149 : decode (tBc 59) 149 = .ok (.ifCond .ne 66, 3) := by decide +kernel
theorem d59_152 : decode (tBc 59) 152 = .ok (.aload_n 1, 1) := by decide +kernel
theorem d59_153 : decode (tBc 59) 153 = .ok (.getfield 78, 3) := by decide +kernel
theorem d59_156 : decode (tBc 59) 156 = .ok (.getfield 61, 3) := by decide +kernel
theorem d59_159 : decode (tBc 59) 159 = .ok (.iload 7, 2) := by decide +kernel
theorem d59_161 : decode (tBc 59) 161 = .ok (.iaload, 1) := by decide +kernel
theorem d59_162 : decode (tBc 59) 162 = .ok (.iload_n 3, 1) := by decide +kernel
theorem d59_163 : decode (tBc 59) 163 = .ok (.if_icmp .ne 46, 3) := by decide +kernel
theorem d59_166 : decode (tBc 59) 166 = .ok (.aload_n 0, 1) := by decide +kernel
theorem d59_167 : decode (tBc 59) 167 = .ok (.getfield 25, 3) := by decide +kernel
theorem d59_170 : decode (tBc 59) 170 = .ok (.istore 8, 2) := by decide +kernel
theorem d59_172 : decode (tBc 59) 172 = .ok (.aload_n 0, 1) := by decide +kernel
theorem d59_173 : decode (tBc 59) 173 = .ok (.aload_n 2, 1) := by decide +kernel
theorem d59_174 : decode (tBc 59) 174 = .ok (.aload_n 1, 1) := by decide +kernel
theorem d59_175 : decode (tBc 59) 175 = .ok (.getfield 78, 3) := by decide +kernel
theorem d59_178 : decode (tBc 59) 178 = .ok (.getfield 81, 3) := by decide +kernel
theorem d59_181 : decode (tBc 59) 181 = .ok (.iload 7, 2) := by decide +kernel
theorem d59_183 : decode (tBc 59) 183 = .ok (.iaload, 1) := by decide +kernel
theorem d59_184 : decode (tBc 59) 184 = .ok (.aload_n 1, 1) := by decide +kernel
theorem d59_185 : decode (tBc 59) 185 = .ok (.getfield 78, 3) := by decide +kernel
theorem d59_188 : decode (tBc 59) 188 = .ok (.getfield 84, 3) := by decide +kernel
theorem d59_191 : decode (tBc 59) 191 = .ok (.iload 7, 2) := by decide +kernel
theorem d59_193 : decode (tBc 59) 193 = .ok (.iaload, 1) := by decide +kernel
theorem d59_194 : decode (tBc 59) 194 = .ok (.iload 4, 2) := by decide +kernel
theorem d59_196 : decode (tBc 59) 196 = .ok (.iconst 1, 1) := by decide +kernel
theorem d59_197 : decode (tBc 59) 197 = .ok (.iadd, 1) := by decide +kernel
theorem d59_198 : decode (tBc 59) 198 = .ok (.invokevirtual 87, 3) := by decide +kernel
theorem d59_201 : decode (tBc 59) 201 = .ok (.aload_n 0, 1) := by decide +kernel
theorem d59_202 : decode (tBc 59) 202 = .ok (.iload 5, 2) := by decide +kernel
theorem d59_204 : decode (tBc 59) 204 = .ok (.iload 8, 2) := by decide +kernel
theorem d59_206 : decode (tBc 59) 206 = .ok (.invokevirtual 74, 3) := by decide +kernel
theorem d59_209 : decode (tBc 59) 209 = .ok (.iinc 7 1, 3) := by decide +kernel
theorem d59_212 : decode (tBc 59) 212 = .ok (.goto (-79), 3) := by decide +kernel
theorem d59_215 : decode (tBc 59) 215 = .ok (.iconst 0, 1) := by decide +kernel
theorem d59_216 : decode (tBc 59) 216 = .ok (.istore 7, 2) := by decide +kernel
theorem d59_218 : decode (tBc 59) 218 = .ok (.iload 7, 2) := by decide +kernel
theorem d59_220 : decode (tBc 59) 220 = .ok (.aload_n 1, 1) := by decide +kernel
theorem d59_221 : decode (tBc 59) 221 = .ok (.getfield 91, 3) := by decide +kernel
theorem d59_224 : decode (tBc 59) 224 = .ok (.getfield 56, 3) := by decide +kernel
theorem d59_227 : decode (tBc 59) 227 = .ok (.if_icmp .ge 68, 3) := by decide +kernel
theorem d59_230 : decode (tBc 59) 230 = .ok (.aload_n 0, 1) := by decide +kernel
theorem d59_231 : decode (tBc 59) 231 = .ok (.getfield 32, 3) := by decide +kernel
theorem d59_234 : decode (tBc 59) 234 = .ok (.ifCond .ne 61, 3) := by decide +kernel
theorem d59_237 : decode (tBc 59) 237 = .ok (.aload_n 1, 1) := by decide +kernel
theorem d59_238 : decode (tBc 59) 238 = .ok (.getfield 91, 3) := by decide +kernel
theorem d59_241 : decode (tBc 59) 241 = .ok (.getfield 61, 3) := by decide +kernel
theorem d59_244 : decode (tBc 59) 244 = .ok (.iload 7, 2) := by decide +kernel
theorem d59_246 : decode (tBc 59) 246 = .ok (.iaload, 1) := by decide +kernel
theorem d59_247 : decode (tBc 59) 247 = .ok (.iload_n 3, 1) := by decide +kernel
theorem d59_248 : decode (tBc 59) 248 = .ok (.if_icmp .ne 41, 3) := by decide +kernel
theorem d59_251 : decode (tBc 59) 251 = .ok (.aload_n 0, 1) := by decide +kernel
theorem d59_252 : decode (tBc 59) 252 = .ok (.getfield 25, 3) := by decide +kernel
theorem d59_255 : decode (tBc 59) 255 = .ok (.istore 8, 2) := by decide +kernel
theorem d59_257 : decode (tBc 59) 257 = .ok (.aload_n 0, 1) := by decide +kernel
theorem d59_258 : decode (tBc 59) 258 = .ok (.bipush 39, 2) := by decide +kernel
theorem d59_260 : decode (tBc 59) 260 = .ok (.invokevirtual 67, 3) := by decide +kernel
theorem d59_263 : decode (tBc 59) 263 = .ok (.aload_n 0, 1) := by decide +kernel
theorem d59_264 : decode (tBc 59) 264 = .ok (.bipush 97, 2) := by decide +kernel
theorem d59_266 : decode (tBc 59) 266 = .ok (.aload_n 1, 1) := by decide +kernel
theorem d59_267 : decode (tBc 59) 267 = .ok (.getfield 91, 3) := by decide +kernel
theorem d59_270 : decode (tBc 59) 270 = .ok (.getfield 64, 3) := by decide +kernel
theorem d59_273 : decode (tBc 59) 273 = .ok (.iload 7, 2) := by decide +kernel
theorem d59_275 : decode (tBc 59) 275 = .ok (.iaload, 1) := by decide +kernel
theorem d59_276 : decode (tBc 59) 276 = .ok (.iadd, 1) := by decide +kernel
theorem d59_277 : decode (tBc 59) 277 = .ok (.i2c, 1) := by decide +kernel
theorem d59_278 : decode (tBc 59) 278 = .ok (.invokevirtual 67, 3) := by decide +kernel
theorem d59_281 : decode (tBc 59) 281 = .ok (.aload_n 0, 1) := by decide +kernel
theorem d59_282 : decode (tBc 59) 282 = .ok (.iload 5, 2) := by decide +kernel
theorem d59_284 : decode (tBc 59) 284 = .ok (.iload 8, 2) := by decide +kernel
theorem d59_286 : decode (tBc 59) 286 = .ok (.invokevirtual 74, 3) := by decide +kernel
theorem d59_289 : decode (tBc 59) 289 = .ok (.iinc 7 1, 3) := by decide +kernel
theorem d59_292 : decode (tBc 59) 292 = .ok (.goto (-74), 3) := by decide +kernel
theorem d59_295 : decode (tBc 59) 295 = .ok (.aload_n 0, 1) := by decide +kernel
theorem d59_296 : decode (tBc 59) 296 = .ok (.iload 5, 2) := by decide +kernel
theorem d59_298 : decode (tBc 59) 298 = .ok (.iload 6, 2) := by decide +kernel
theorem d59_300 : decode (tBc 59) 300 = .ok (.iconst 0, 1) := by decide +kernel
theorem d59_301 : decode (tBc 59) 301 = .ok (.invokevirtual 94, 3) := by decide +kernel
theorem d59_304 : decode (tBc 59) 304 = .ok (.return_, 1) := by decide +kernel
theorem d60_0 : decode (tBc 60) 0 = .ok (.aload_n 0, 1) := by decide +kernel
theorem d60_1 : decode (tBc 60) 1 = .ok (.getfield 25, 3) := by decide +kernel
theorem d60_4 : decode (tBc 60) 4 = .ok (.sipush 240, 3) := by decide +kernel
theorem d60_7 : decode (tBc 60) 7 = .ok (.if_icmp .ge 23, 3) := by decide +kernel
theorem d60_10 : decode (tBc 60) 10 = .ok (.aload_n 0, 1) := by decide +kernel
theorem d60_11 : decode (tBc 60) 11 = .ok (.getfield 9, 3) := by decide +kernel
theorem d60_14 : decode (tBc 60) 14 = .ok (.aload_n 0, 1) := by decide +kernel
theorem d60_15 : decode (tBc 60) 15 = .ok (.dup, 1) := by decide +kernel
theorem d60_16 : decode (tBc 60) 16 = .ok (.getfield 25, 3) := by decide +kernel
theorem d60_19 : decode (tBc 60) 19 = .ok (.dup_x1, 1) := by decide +kernel
theorem d60_20 : decode (tBc 60) 20 = .ok (.iconst 1, 1) := by decide +kernel
theorem d60_21 : decode (tBc 60) 21 = .ok (.iadd, 1) := by decide +kernel
theorem d60_22 : decode (tBc 60) 22 = .ok (.putfield 25, 3) := by decide +kernel
theorem d60_25 : decode (tBc 60) 25 = .ok (.iload_n 1, 1) := by decide +kernel
theorem d60_26 : decode (tBc 60) 26 = .ok (.castore, 1) := by decide +kernel
theorem d60_27 : decode (tBc 60) 27 = .ok (.goto 8, 3) := by decide +kernel
theorem d60_30 : decode (tBc 60) 30 = .ok (.aload_n 0, 1) := by decide +kernel
theorem d60_31 : decode (tBc 60) 31 = .ok (.iconst 1, 1) := by decide +kernel
theorem d60_32 : decode (tBc 60) 32 = .ok (.putfield 32, 3) := by decide +kernel
theorem d60_35 : decode (tBc 60) 35 = .ok (.return_, 1) := by decide +kernel
theorem d61_0 : decode (tBc 61) 0 = .ok (.aload_n 0, 1) := by decide +kernel
theorem d61_1 : decode (tBc 61) 1 = .ok (.getfield 29, 3) := by decide +kernel
theorem d61_4 : decode (tBc 61) 4 = .ok (.sipush 240, 3) := by decide +kernel
theorem d61_7 : decode (tBc 61) 7 = .ok (.if_icmp .lt 9, 3) := by decide +kernel
theorem d61_10 : decode (tBc 61) 10 = .ok (.aload_n 0, 1) := by decide +kernel
theorem d61_11 : decode (tBc 61) 11 = .ok (.iconst 1, 1) := by decide +kernel
theorem d61_12 : decode (tBc 61) 12 = .ok (.putfield 32, 3) := by decide +kernel
theorem d61_15 : decode (tBc 61) 15 = .ok (.return_, 1) := by decide +kernel
theorem d61_16 : decode (tBc 61) 16 = .ok (.aload_n 0, 1) := by decide +kernel
theorem d61_17 : decode (tBc 61) 17 = .ok (.dup, 1) := by decide +kernel
theorem d61_18 : decode (tBc 61) 18 = .ok (.getfield 29, 3) := by decide +kernel
theorem d61_21 : decode (tBc 61) 21 = .ok (.dup_x1, 1) := by decide +kernel
theorem d61_22 : decode (tBc 61) 22 = .ok (.iconst 1, 1) := by decide +kernel
theorem d61_23 : decode (tBc 61) 23 = .ok (.iadd, 1) := by decide +kernel
theorem d61_24 : decode (tBc 61) 24 = .ok (.putfield 29, 3) := by decide +kernel
theorem d61_27 : decode (tBc 61) 27 = .ok (.istore_n 3, 1) := by decide +kernel
theorem d61_28 : decode (tBc 61) 28 = .ok (.iload_n 3, 1) := by decide +kernel
theorem d61_29 : decode (tBc 61) 29 = .ok (.iload_n 1, 1) := by decide +kernel
theorem d61_30 : decode (tBc 61) 30 = .ok (.if_icmp .le 65, 3) := by decide +kernel
theorem d61_33 : decode (tBc 61) 33 = .ok (.aload_n 0, 1) := by decide +kernel
theorem d61_34 : decode (tBc 61) 34 = .ok (.iload_n 2, 1) := by decide +kernel
theorem d61_35 : decode (tBc 61) 35 = .ok (.aload_n 0, 1) := by decide +kernel
theorem d61_36 : decode (tBc 61) 36 = .ok (.getfield 25, 3) := by decide +kernel
theorem d61_39 : decode (tBc 61) 39 = .ok (.aload_n 0, 1) := by decide +kernel
theorem d61_40 : decode (tBc 61) 40 = .ok (.getfield 18, 3) := by decide +kernel
theorem d61_43 : decode (tBc 61) 43 = .ok (.iload_n 3, 1) := by decide +kernel
theorem d61_44 : decode (tBc 61) 44 = .ok (.iconst 1, 1) := by decide +kernel
theorem d61_45 : decode (tBc 61) 45 = .ok (.isub, 1) := by decide +kernel
theorem d61_46 : decode (tBc 61) 46 = .ok (.iaload, 1) := by decide +kernel
theorem d61_47 : decode (tBc 61) 47 = .ok (.aload_n 0, 1) := by decide +kernel
theorem d61_48 : decode (tBc 61) 48 = .ok (.getfield 22, 3) := by decide +kernel
theorem d61_51 : decode (tBc 61) 51 = .ok (.iload_n 3, 1) := by decide +kernel
theorem d61_52 : decode (tBc 61) 52 = .ok (.iconst 1, 1) := by decide +kernel
theorem d61_53 : decode (tBc 61) 53 = .ok (.isub, 1) := by decide +kernel
theorem d61_54 : decode (tBc 61) 54 = .ok (.iaload, 1) := by decide +kernel
theorem d61_55 : decode (tBc 61) 55 = .ok (.invokevirtual 137, 3) := by decide +kernel
theorem d61_58 : decode (tBc 61) 58 = .ok (.ifCond .eq 37, 3) := by decide +kernel
theorem d61_61 : decode (tBc 61) 61 = .ok (.aload_n 0, 1) := by decide +kernel
theorem d61_62 : decode (tBc 61) 62 = .ok (.getfield 18, 3) := by decide +kernel
theorem d61_65 : decode (tBc 61) 65 = .ok (.iload_n 3, 1) := by decide +kernel
theorem d61_66 : decode (tBc 61) 66 = .ok (.aload_n 0, 1) := by decide +kernel
theorem d61_67 : decode (tBc 61) 67 = .ok (.getfield 18, 3) := by decide +kernel
theorem d61_70 : decode (tBc 61) 70 = .ok (.iload_n 3, 1) := by decide +kernel
theorem d61_71 : decode (tBc 61) 71 = .ok (.iconst 1, 1) := by decide +kernel
theorem d61_72 : decode (tBc 61) 72 = .ok (.isub, 1) := by decide +kernel
theorem d61_73 : decode (tBc 61) 73 = .ok (.iaload, 1) := by decide +kernel
theorem d61_74 : decode (tBc 61) 74 = .ok (.iastore, 1) := by decide +kernel
theorem d61_75 : decode (tBc 61) 75 = .ok (.aload_n 0, 1) := by decide +kernel
theorem d61_76 : decode (tBc 61) 76 = .ok (.getfield 22, 3) := by decide +kernel
theorem d61_79 : decode (tBc 61) 79 = .ok (.iload_n 3, 1) := by decide +kernel
theorem d61_80 : decode (tBc 61) 80 = .ok (.aload_n 0, 1) := by decide +kernel
theorem d61_81 : decode (tBc 61) 81 = .ok (.getfield 22, 3) := by decide +kernel
theorem d61_84 : decode (tBc 61) 84 = .ok (.iload_n 3, 1) := by decide +kernel
theorem d61_85 : decode (tBc 61) 85 = .ok (.iconst 1, 1) := by decide +kernel
theorem d61_86 : decode (tBc 61) 86 = .ok (.isub, 1) := by decide +kernel
theorem d61_87 : decode (tBc 61) 87 = .ok (.iaload, 1) := by decide +kernel
theorem d61_88 : decode (tBc 61) 88 = .ok (.iastore, 1) := by decide +kernel
theorem d61_89 : decode (tBc 61) 89 = .ok (.iinc 3 (-1), 3) := by decide +kernel
theorem d61_92 : decode (tBc 61) 92 = .ok (.goto (-64), 3) := by decide +kernel
theorem d61_95 : decode (tBc 61) 95 = .ok (.aload_n 0, 1) := by decide +kernel
theorem d61_96 : decode (tBc 61) 96 = .ok (.getfield 18, 3) := by decide +kernel
theorem d61_99 : decode (tBc 61) 99 = .ok (.iload_n 3, 1) := by decide +kernel
theorem d61_100 : decode (tBc 61) 100 = .ok (.iload_n 2, 1) := by decide +kernel
theorem d61_101 : decode (tBc 61) 101 = .ok (.iastore, 1) := by decide +kernel
theorem d61_102 : decode (tBc 61) 102 = .ok (.aload_n 0, 1) := by decide +kernel
theorem d61_103 : decode (tBc 61) 103 = .ok (.getfield 22, 3) := by decide +kernel
theorem d61_106 : decode (tBc 61) 106 = .ok (.iload_n 3, 1) := by decide +kernel
theorem d61_107 : decode (tBc 61) 107 = .ok (.aload_n 0, 1) := by decide +kernel
theorem d61_108 : decode (tBc 61) 108 = .ok (.getfield 25, 3) := by decide +kernel
theorem d61_111 : decode (tBc 61) 111 = .ok (.iastore, 1) := by decide +kernel
theorem d61_112 : decode (tBc 61) 112 = .ok (.return_, 1) := by decide +kernel
theorem d62_0 : decode (tBc 62) 0 = .ok (.iload_n 2, 1) := by decide +kernel
theorem d62_1 : decode (tBc 62) 1 = .ok (.iload_n 1, 1) := by decide +kernel
theorem d62_2 : decode (tBc 62) 2 = .ok (.isub, 1) := by decide +kernel
theorem d62_3 : decode (tBc 62) 3 = .ok (.iload 4, 2) := by decide +kernel
theorem d62_5 : decode (tBc 62) 5 = .ok (.iload_n 3, 1) := by decide +kernel
theorem d62_6 : decode (tBc 62) 6 = .ok (.isub, 1) := by decide +kernel
theorem d62_7 : decode (tBc 62) 7 = .ok (.invokestatic 141, 3) := by decide +kernel
theorem d62_10 : decode (tBc 62) 10 = .ok (.istore 5, 2) := by decide +kernel
theorem d62_12 : decode (tBc 62) 12 = .ok (.iconst 0, 1) := by decide +kernel
theorem d62_13 : decode (tBc 62) 13 = .ok (.istore 6, 2) := by decide +kernel
theorem d62_15 : decode (tBc 62) 15 = .ok (.iload 6, 2) := by decide +kernel
theorem d62_17 : decode (tBc 62) 17 = .ok (.iload 5, 2) := by decide +kernel
theorem d62_19 : decode (tBc 62) 19 = .ok (.if_icmp .ge 57, 3) := by decide +kernel
theorem d62_22 : decode (tBc 62) 22 = .ok (.aload_n 0, 1) := by decide +kernel
theorem d62_23 : decode (tBc 62) 23 = .ok (.getfield 9, 3) := by decide +kernel
theorem d62_26 : decode (tBc 62) 26 = .ok (.iload_n 1, 1) := by decide +kernel
theorem d62_27 : decode (tBc 62) 27 = .ok (.iload 6, 2) := by decide +kernel
theorem d62_29 : decode (tBc 62) 29 = .ok (.iadd, 1) := by decide +kernel
theorem d62_30 : decode (tBc 62) 30 = .ok (.caload, 1) := by decide +kernel
theorem d62_31 : decode (tBc 62) 31 = .ok (.aload_n 0, 1) := by decide +kernel
theorem d62_32 : decode (tBc 62) 32 = .ok (.getfield 9, 3) := by decide +kernel
theorem d62_35 : decode (tBc 62) 35 = .ok (.iload_n 3, 1) := by decide +kernel
theorem d62_36 : decode (tBc 62) 36 = .ok (.iload 6, 2) := by decide +kernel
theorem d62_38 : decode (tBc 62) 38 = .ok (.iadd, 1) := by decide +kernel
theorem d62_39 : decode (tBc 62) 39 = .ok (.caload, 1) := by decide +kernel
theorem d62_40 : decode (tBc 62) 40 = .ok (.if_icmp .eq 30, 3) := by decide +kernel
theorem d62_43 : decode (tBc 62) 43 = .ok (.aload_n 0, 1) := by decide +kernel
theorem d62_44 : decode (tBc 62) 44 = .ok (.getfield 9, 3) := by decide +kernel
theorem d62_47 : decode (tBc 62) 47 = .ok (.iload_n 1, 1) := by decide +kernel
theorem d62_48 : decode (tBc 62) 48 = .ok (.iload 6, 2) := by decide +kernel
theorem d62_50 : decode (tBc 62) 50 = .ok (.iadd, 1) := by decide +kernel
theorem d62_51 : decode (tBc 62) 51 = .ok (.caload, 1) := by decide +kernel
theorem d62_52 : decode (tBc 62) 52 = .ok (.aload_n 0, 1) := by decide +kernel
theorem d62_53 : decode (tBc 62) 53 = .ok (.getfield 9, 3) := by decide +kernel
theorem d62_56 : decode (tBc 62) 56 = .ok (.iload_n 3, 1) := by decide +kernel
theorem d62_57 : decode (tBc 62) 57 = .ok (.iload 6, 2) := by decide +kernel
theorem d62_59 : decode (tBc 62) 59 = .ok (.iadd, 1) := by decide +kernel
theorem d62_60 : decode (tBc 62) 60 = .ok (.caload, 1) := by decide +kernel
theorem d62_61 : decode (tBc 62) 61 = .ok (.if_icmp .ge 7, 3) := by decide +kernel
theorem d62_64 : decode (tBc 62) 64 = .ok (.iconst 1, 1) := by decide +kernel
theorem d62_65 : decode (tBc 62) 65 = .ok (.goto 4, 3) := by decide +kernel
theorem d62_68 : decode (tBc 62) 68 = .ok (.iconst 0, 1) := by decide +kernel
theorem d62_69 : decode (tBc 62) 69 = .ok (.ireturn, 1) := by decide +kernel
theorem d62_70 : decode (tBc 62) 70 = .ok (.iinc 6 1, 3) := by decide +kernel
theorem d62_73 : decode (tBc 62) 73 = .ok (.goto (-58), 3) := by decide +kernel
theorem d62_76 : decode (tBc 62) 76 = .ok (.iload_n 2, 1) := by decide +kernel
theorem d62_77 : decode (tBc 62) 77 = .ok (.iload_n 1, 1) := by decide +kernel
theorem d62_78 : decode (tBc 62) 78 = .ok (.isub, 1) := by decide +kernel
theorem d62_79 : decode (tBc 62) 79 = .ok (.iload 4, 2) := by decide +kernel
theorem d62_81 : decode (tBc 62) 81 = .ok (.iload_n 3, 1) := by decide +kernel
theorem d62_82 : decode (tBc 62) 82 = .ok (.isub, 1) := by decide +kernel
theorem d62_83 : decode (tBc 62) 83 = .ok (.if_icmp .ge 7, 3) := by decide +kernel
theorem d62_86 : decode (tBc 62) 86 = .ok (.iconst 1, 1) := by decide +kernel
theorem d62_87 : decode (tBc 62) 87 = .ok (.goto 4, 3) := by decide +kernel
theorem d62_90 : decode (tBc 62) 90 = .ok (.iconst 0, 1) := by decide +kernel
theorem d62_91 : decode (tBc 62) 91 = .ok (.ireturn, 1) := by decide +kernel
theorem d63_0 : decode (tBc 63) 0 = .ok (.aload_n 1, 1) := by decide +kernel
theorem d63_1 : decode (tBc 63) 1 = .ok (.getfield 98, 3) := by decide +kernel
theorem d63_4 : decode (tBc 63) 4 = .ok (.iload_n 2, 1) := by decide +kernel
theorem d63_5 : decode (tBc 63) 5 = .ok (.iaload, 1) := by decide +kernel
theorem d63_6 : decode (tBc 63) 6 = .ok (.istore 5, 2) := by decide +kernel
theorem d63_8 : decode (tBc 63) 8 = .ok (.iload 5, 2) := by decide +kernel
theorem d63_10 : decode (tBc 63) 10 = .ok (.iconst 3, 1) := by decide +kernel
theorem d63_11 : decode (tBc 63) 11 = .ok (.if_icmp .ne 17, 3) := by decide +kernel
theorem d63_14 : decode (tBc 63) 14 = .ok (.aload_n 1, 1) := by decide +kernel
theorem d63_15 : decode (tBc 63) 15 = .ok (.getfield 103, 3) := by decide +kernel
theorem d63_18 : decode (tBc 63) 18 = .ok (.iload_n 2, 1) := by decide +kernel
theorem d63_19 : decode (tBc 63) 19 = .ok (.caload, 1) := by decide +kernel
theorem d63_20 : decode (tBc 63) 20 = .ok (.iconst (-1), 1) := by decide +kernel
theorem d63_21 : decode (tBc 63) 21 = .ok (.iload_n 3, 1) := by decide +kernel
theorem d63_22 : decode (tBc 63) 22 = .ok (.invokestatic 105, 3) := by decide +kernel
theorem d63_25 : decode (tBc 63) 25 = .ok (.goto 4, 3) := by decide +kernel
theorem d63_28 : decode (tBc 63) 28 = .ok (.iload_n 3, 1) := by decide +kernel
theorem d63_29 : decode (tBc 63) 29 = .ok (.istore 6, 2) := by decide +kernel
theorem d63_31 : decode (tBc 63) 31 = .ok (.aload_n 0, 1) := by decide +kernel
theorem d63_32 : decode (tBc 63) 32 = .ok (.aload_n 1, 1) := by decide +kernel
theorem d63_33 : decode (tBc 63) 33 = .ok (.iload_n 2, 1) := by decide +kernel
theorem d63_34 : decode (tBc 63) 34 = .ok (.iload 6, 2) := by decide +kernel
theorem d63_36 : decode (tBc 63) 36 = .ok (.invokevirtual 109, 3) := by decide +kernel
theorem d63_39 : decode (tBc 63) 39 = .ok (.iload 4, 2) := by decide +kernel
theorem d63_41 : decode (tBc 63) 41 = .ok (.bipush 40, 2) := by decide +kernel
theorem d63_43 : decode (tBc 63) 43 = .ok (.if_icmp .le 8, 3) := by decide +kernel
theorem d63_46 : decode (tBc 63) 46 = .ok (.aload_n 0, 1) := by decide +kernel
theorem d63_47 : decode (tBc 63) 47 = .ok (.iconst 1, 1) := by decide +kernel
theorem d63_48 : decode (tBc 63) 48 = .ok (.putfield 32, 3) := by decide +kernel
theorem d63_51 : decode (tBc 63) 51 = .ok (.iload 5, 2) := by decide +kernel
theorem d63_53 : decode (tBc 63) 53 = .ok (.iconst 5, 1) := by decide +kernel
theorem d63_54 : decode (tBc 63) 54 = .ok (.if_icmp .eq 10, 3) := by decide +kernel
theorem d63_57 : decode (tBc 63) 57 = .ok (.aload_n 0, 1) := by decide +kernel
theorem d63_58 : decode (tBc 63) 58 = .ok (.getfield 32, 3) := by decide +kernel
theorem d63_61 : decode (tBc 63) 61 = .ok (.ifCond .eq 4, 3) := by decide +kernel
theorem d63_64 : decode (tBc 63) 64 = .ok (.return_, 1) := by decide +kernel
theorem d63_65 : decode (tBc 63) 65 = .ok (.aload_n 0, 1) := by decide +kernel
theorem d63_66 : decode (tBc 63) 66 = .ok (.getfield 29, 3) := by decide +kernel
theorem d63_69 : decode (tBc 63) 69 = .ok (.istore 7, 2) := by decide +kernel
theorem d63_71 : decode (tBc 63) 71 = .ok (.aload_n 0, 1) := by decide +kernel
theorem d63_72 : decode (tBc 63) 72 = .ok (.getfield 25, 3) := by decide +kernel
theorem d63_75 : decode (tBc 63) 75 = .ok (.istore 8, 2) := by decide +kernel
theorem d63_77 : decode (tBc 63) 77 = .ok (.aload_n 1, 1) := by decide +kernel
theorem d63_78 : decode (tBc 63) 78 = .ok (.iload_n 2, 1) := by decide +kernel
theorem d63_79 : decode (tBc 63) 79 = .ok (.invokevirtual 113, 3) := by decide +kernel
theorem d63_82 : decode (tBc 63) 82 = .ok (.istore 9, 2) := by decide +kernel
theorem d63_84 : decode (tBc 63) 84 = .ok (.iload_n 2, 1) := by decide +kernel
theorem d63_85 : decode (tBc 63) 85 = .ok (.iconst 1, 1) := by decide +kernel
theorem d63_86 : decode (tBc 63) 86 = .ok (.iadd, 1) := by decide +kernel
theorem d63_87 : decode (tBc 63) 87 = .ok (.istore 10, 2) := by decide +kernel
theorem d63_89 : decode (tBc 63) 89 = .ok (.iload 10, 2) := by decide +kernel
theorem d63_91 : decode (tBc 63) 91 = .ok (.iload 9, 2) := by decide +kernel
theorem d63_93 : decode (tBc 63) 93 = .ok (.if_icmp .ge 48, 3) := by decide +kernel
theorem d63_96 : decode (tBc 63) 96 = .ok (.aload_n 0, 1) := by decide +kernel
theorem d63_97 : decode (tBc 63) 97 = .ok (.getfield 32, 3) := by decide +kernel
theorem d63_100 : decode (tBc 63) 100 = .ok (.ifCond .ne 41, 3) := by decide +kernel
theorem d63_103 : decode (tBc 63) 103 = .ok (.aload_n 0, 1) := by decide +kernel
theorem d63_104 : decode (tBc 63) 104 = .ok (.getfield 25, 3) := by decide +kernel
theorem d63_107 : decode (tBc 63) 107 = .ok (.istore 11, 2) := by decide +kernel
theorem d63_109 : decode (tBc 63) 109 = .ok (.aload_n 0, 1) := by decide +kernel
theorem d63_110 : decode (tBc 63) 110 = .ok (.aload_n 1, 1) := by decide +kernel
theorem d63_111 : decode (tBc 63) 111 = .ok (.iload 10, 2) := by decide +kernel
theorem d63_113 : decode (tBc 63) 113 = .ok (.iload 6, 2) := by decide +kernel
theorem d63_115 : decode (tBc 63) 115 = .ok (.iload 4, 2) := by decide +kernel
theorem d63_117 : decode (tBc 63) 117 = .ok (.iconst 1, 1) := by decide +kernel
theorem d63_118 : decode (tBc 63) 118 = .ok (.iadd, 1) := by decide +kernel
theorem d63_119 : decode (tBc 63) 119 = .ok (.invokevirtual 87, 3) := by decide +kernel
theorem d63_122 : decode (tBc 63) 122 = .ok (.aload_n 0, 1) := by decide +kernel
theorem d63_123 : decode (tBc 63) 123 = .ok (.iload 7, 2) := by decide +kernel
theorem d63_125 : decode (tBc 63) 125 = .ok (.iload 11, 2) := by decide +kernel
theorem d63_127 : decode (tBc 63) 127 = .ok (.invokevirtual 74, 3) := by decide +kernel
theorem d63_130 : decode (tBc 63) 130 = .ok (.aload_n 1, 1) := by decide +kernel
theorem d63_131 : decode (tBc 63) 131 = .ok (.iload 10, 2) := by decide +kernel
theorem d63_133 : decode (tBc 63) 133 = .ok (.invokevirtual 113, 3) := by decide +kernel
theorem d63_136 : decode (tBc 63) 136 = .ok (.istore 10, 2) := by decide +kernel
theorem d63_138 : decode (tBc 63) 138 = .ok (.goto (-49), 3) := by decide +kernel
theorem d63_141 : decode (tBc 63) 141 = .ok (.aload_n 0, 1) := by decide +kernel
theorem d63_142 : decode (tBc 63) 142 = .ok (.iload 7, 2) := by decide +kernel
theorem d63_144 : decode (tBc 63) 144 = .ok (.iload 8, 2) := by decide +kernel
theorem d63_146 : decode (tBc 63) 146 = .ok (.iload 5, 2) := by decide +kernel
theorem d63_148 : decode (tBc 63) 148 = .ok (.iconst 4, 1) := by decide +kernel
theorem d63_149 : decode (tBc 63) 149 = .ok (.if_icmp .eq 7, 3) := by decide +kernel
theorem d63_152 : decode (tBc 63) 152 = .ok (.iconst 1, 1) := by decide +kernel
theorem d63_153 : decode (tBc 63) 153 = .ok (.goto 4, 3) := by decide +kernel
theorem d63_156 : decode (tBc 63) 156 = .ok (.iconst 0, 1) := by decide +kernel
theorem d63_157 : decode (tBc 63) 157 = .ok (.invokevirtual 94, 3) := by decide +kernel
theorem d63_160 : decode (tBc 63) 160 = .ok (.iload 5, 2) := by decide +kernel
theorem d63_162 : decode (tBc 63) 162 = .ok (.iconst 4, 1) := by decide +kernel
theorem d63_163 : decode (tBc 63) 163 = .ok (.if_icmp .ne 9, 3) := by decide +kernel
theorem d63_166 : decode (tBc 63) 166 = .ok (.aload_n 0, 1) := by decide +kernel
theorem d63_167 : decode (tBc 63) 167 = .ok (.bipush 93, 2) := by decide +kernel
theorem d63_169 : decode (tBc 63) 169 = .ok (.invokevirtual 67, 3) := by decide +kernel
theorem d63_172 : decode (tBc 63) 172 = .ok (.return_, 1) := by decide +kernel
theorem d64_0 : decode (tBc 64) 0 = .ok (.aload_n 1, 1) := by decide +kernel
theorem d64_1 : decode (tBc 64) 1 = .ok (.getfield 98, 3) := by decide +kernel
theorem d64_4 : decode (tBc 64) 4 = .ok (.iload_n 2, 1) := by decide +kernel
theorem d64_5 : decode (tBc 64) 5 = .ok (.iaload, 1) := by decide +kernel
theorem d64_6 : decode (tBc 64) 6 = .ok (.istore 4, 2) := by decide +kernel
theorem d64_8 : decode (tBc 64) 8 = .ok (.iload 4, 2) := by decide +kernel
theorem d64_10 : decode (tBc 64) 10 = .ok (.iconst 4, 1) := by decide +kernel
theorem d64_11 : decode (tBc 64) 11 = .ok (.if_icmp .ne 23, 3) := by decide +kernel
theorem d64_14 : decode (tBc 64) 14 = .ok (.aload_n 0, 1) := by decide +kernel
theorem d64_15 : decode (tBc 64) 15 = .ok (.aload_n 1, 1) := by decide +kernel
theorem d64_16 : decode (tBc 64) 16 = .ok (.getfield 103, 3) := by decide +kernel
theorem d64_19 : decode (tBc 64) 19 = .ok (.iload_n 2, 1) := by decide +kernel
theorem d64_20 : decode (tBc 64) 20 = .ok (.caload, 1) := by decide +kernel
theorem d64_21 : decode (tBc 64) 21 = .ok (.iload_n 3, 1) := by decide +kernel
theorem d64_22 : decode (tBc 64) 22 = .ok (.invokevirtual 117, 3) := by decide +kernel
theorem d64_25 : decode (tBc 64) 25 = .ok (.aload_n 0, 1) := by decide +kernel
theorem d64_26 : decode (tBc 64) 26 = .ok (.bipush 91, 2) := by decide +kernel
theorem d64_28 : decode (tBc 64) 28 = .ok (.invokevirtual 67, 3) := by decide +kernel
theorem d64_31 : decode (tBc 64) 31 = .ok (.goto 72, 3) := by decide +kernel
theorem d64_34 : decode (tBc 64) 34 = .ok (.iload 4, 2) := by decide +kernel
theorem d64_36 : decode (tBc 64) 36 = .ok (.iconst 5, 1) := by decide +kernel
theorem d64_37 : decode (tBc 64) 37 = .ok (.if_icmp .ne 23, 3) := by decide +kernel
theorem d64_40 : decode (tBc 64) 40 = .ok (.aload_n 0, 1) := by decide +kernel
theorem d64_41 : decode (tBc 64) 41 = .ok (.bipush 39, 2) := by decide +kernel
theorem d64_43 : decode (tBc 64) 43 = .ok (.invokevirtual 67, 3) := by decide +kernel
theorem d64_46 : decode (tBc 64) 46 = .ok (.aload_n 0, 1) := by decide +kernel
theorem d64_47 : decode (tBc 64) 47 = .ok (.aload_n 1, 1) := by decide +kernel
theorem d64_48 : decode (tBc 64) 48 = .ok (.getfield 103, 3) := by decide +kernel
theorem d64_51 : decode (tBc 64) 51 = .ok (.iload_n 2, 1) := by decide +kernel
theorem d64_52 : decode (tBc 64) 52 = .ok (.caload, 1) := by decide +kernel
theorem d64_53 : decode (tBc 64) 53 = .ok (.iload_n 3, 1) := by decide +kernel
theorem d64_54 : decode (tBc 64) 54 = .ok (.invokevirtual 117, 3) := by decide +kernel
theorem d64_57 : decode (tBc 64) 57 = .ok (.goto 46, 3) := by decide +kernel
theorem d64_60 : decode (tBc 64) 60 = .ok (.aload_n 1, 1) := by decide +kernel
theorem d64_61 : decode (tBc 64) 61 = .ok (.getfield 121, 3) := by decide +kernel
theorem d64_64 : decode (tBc 64) 64 = .ok (.iload_n 2, 1) := by decide +kernel
theorem d64_65 : decode (tBc 64) 65 = .ok (.baload, 1) := by decide +kernel
theorem d64_66 : decode (tBc 64) 66 = .ok (.ifCond .eq 9, 3) := by decide +kernel
theorem d64_69 : decode (tBc 64) 69 = .ok (.aload_n 0, 1) := by decide +kernel
theorem d64_70 : decode (tBc 64) 70 = .ok (.bipush 33, 2) := by decide +kernel
theorem d64_72 : decode (tBc 64) 72 = .ok (.invokevirtual 67, 3) := by decide +kernel
theorem d64_75 : decode (tBc 64) 75 = .ok (.aload_n 0, 1) := by decide +kernel
theorem d64_76 : decode (tBc 64) 76 = .ok (.ldc 125, 2) := by decide +kernel
theorem d64_78 : decode (tBc 64) 78 = .ok (.iload 4, 2) := by decide +kernel
theorem d64_80 : decode (tBc 64) 80 = .ok (.invokevirtual 127, 3) := by decide +kernel
theorem d64_83 : decode (tBc 64) 83 = .ok (.invokevirtual 67, 3) := by decide +kernel
theorem d64_86 : decode (tBc 64) 86 = .ok (.aload_n 0, 1) := by decide +kernel
theorem d64_87 : decode (tBc 64) 87 = .ok (.aload_n 1, 1) := by decide +kernel
theorem d64_88 : decode (tBc 64) 88 = .ok (.getfield 103, 3) := by decide +kernel
theorem d64_91 : decode (tBc 64) 91 = .ok (.iload_n 2, 1) := by decide +kernel
theorem d64_92 : decode (tBc 64) 92 = .ok (.caload, 1) := by decide +kernel
theorem d64_93 : decode (tBc 64) 93 = .ok (.iload_n 3, 1) := by decide +kernel
theorem d64_94 : decode (tBc 64) 94 = .ok (.invokevirtual 117, 3) := by decide +kernel
theorem d64_97 : decode (tBc 64) 97 = .ok (.aload_n 0, 1) := by decide +kernel
theorem d64_98 : decode (tBc 64) 98 = .ok (.bipush 46, 2) := by decide +kernel
theorem d64_100 : decode (tBc 64) 100 = .ok (.invokevirtual 67, 3) := by decide +kernel
theorem d64_103 : decode (tBc 64) 103 = .ok (.return_, 1) := by decide +kernel
theorem d65_0 : decode (tBc 65) 0 = .ok (.iload_n 1, 1) := by decide +kernel
theorem d65_1 : decode (tBc 65) 1 = .ok (.iload_n 2, 1) := by decide +kernel
theorem d65_2 : decode (tBc 65) 2 = .ok (.invokestatic 133, 3) := by decide +kernel
theorem d65_5 : decode (tBc 65) 5 = .ok (.istore_n 3, 1) := by decide +kernel
theorem d65_6 : decode (tBc 65) 6 = .ok (.aload_n 0, 1) := by decide +kernel
theorem d65_7 : decode (tBc 65) 7 = .ok (.iload_n 3, 1) := by decide +kernel
theorem d65_8 : decode (tBc 65) 8 = .ok (.ifCond .ge 7, 3) := by decide +kernel
theorem d65_11 : decode (tBc 65) 11 = .ok (.iload_n 1, 1) := by decide +kernel
theorem d65_12 : decode (tBc 65) 12 = .ok (.goto 8, 3) := by decide +kernel
theorem d65_15 : decode (tBc 65) 15 = .ok (.bipush 97, 2) := by decide +kernel
theorem d65_17 : decode (tBc 65) 17 = .ok (.iload_n 3, 1) := by decide +kernel
theorem d65_18 : decode (tBc 65) 18 = .ok (.iadd, 1) := by decide +kernel
theorem d65_19 : decode (tBc 65) 19 = .ok (.i2c, 1) := by decide +kernel
theorem d65_20 : decode (tBc 65) 20 = .ok (.invokevirtual 67, 3) := by decide +kernel
theorem d65_23 : decode (tBc 65) 23 = .ok (.return_, 1) := by decide +kernel
theorem d66_0 : decode (tBc 66) 0 = .ok (.aload_n 0, 1) := by decide +kernel
theorem d66_1 : decode (tBc 66) 1 = .ok (.getfield 29, 3) := by decide +kernel
theorem d66_4 : decode (tBc 66) 4 = .ok (.iload_n 1, 1) := by decide +kernel
theorem d66_5 : decode (tBc 66) 5 = .ok (.isub, 1) := by decide +kernel
theorem d66_6 : decode (tBc 66) 6 = .ok (.istore 4, 2) := by decide +kernel
theorem d66_8 : decode (tBc 66) 8 = .ok (.iload 4, 2) := by decide +kernel
theorem d66_10 : decode (tBc 66) 10 = .ok (.ifCond .ne 12, 3) := by decide +kernel
theorem d66_13 : decode (tBc 66) 13 = .ok (.aload_n 0, 1) := by decide +kernel
theorem d66_14 : decode (tBc 66) 14 = .ok (.bipush 48, 2) := by decide +kernel
theorem d66_16 : decode (tBc 66) 16 = .ok (.invokevirtual 67, 3) := by decide +kernel
theorem d66_19 : decode (tBc 66) 19 = .ok (.goto 86, 3) := by decide +kernel
theorem d66_22 : decode (tBc 66) 22 = .ok (.iload 4, 2) := by decide +kernel
theorem d66_24 : decode (tBc 66) 24 = .ok (.iconst 1, 1) := by decide +kernel
theorem d66_25 : decode (tBc 66) 25 = .ok (.if_icmp .le 80, 3) := by decide +kernel
theorem d66_28 : decode (tBc 66) 28 = .ok (.aload_n 0, 1) := by decide +kernel
theorem d66_29 : decode (tBc 66) 29 = .ok (.getfield 25, 3) := by decide +kernel
theorem d66_32 : decode (tBc 66) 32 = .ok (.iload_n 2, 1) := by decide +kernel
theorem d66_33 : decode (tBc 66) 33 = .ok (.isub, 1) := by decide +kernel
theorem d66_34 : decode (tBc 66) 34 = .ok (.iload 4, 2) := by decide +kernel
theorem d66_36 : decode (tBc 66) 36 = .ok (.iadd, 1) := by decide +kernel
theorem d66_37 : decode (tBc 66) 37 = .ok (.iconst 1, 1) := by decide +kernel
theorem d66_38 : decode (tBc 66) 38 = .ok (.isub, 1) := by decide +kernel
theorem d66_39 : decode (tBc 66) 39 = .ok (.iload_n 3, 1) := by decide +kernel
theorem d66_40 : decode (tBc 66) 40 = .ok (.ifCond .eq 7, 3) := by decide +kernel
theorem d66_43 : decode (tBc 66) 43 = .ok (.iconst 2, 1) := by decide +kernel
theorem d66_44 : decode (tBc 66) 44 = .ok (.goto 4, 3) := by decide +kernel
theorem d66_47 : decode (tBc 66) 47 = .ok (.iconst 0, 1) := by decide +kernel
theorem d66_48 : decode (tBc 66) 48 = .ok (.iadd, 1) := by decide +kernel
theorem d66_49 : decode (tBc 66) 49 = .ok (.istore 5, 2) := by decide +kernel
theorem d66_51 : decode (tBc 66) 51 = .ok (.aload_n 0, 1) := by decide +kernel
theorem d66_52 : decode (tBc 66) 52 = .ok (.getfield 32, 3) := by decide +kernel
theorem d66_55 : decode (tBc 66) 55 = .ok (.ifCond .ne 13, 3) := by decide +kernel
theorem d66_58 : decode (tBc 66) 58 = .ok (.iload_n 2, 1) := by decide +kernel
theorem d66_59 : decode (tBc 66) 59 = .ok (.iload 5, 2) := by decide +kernel
theorem d66_61 : decode (tBc 66) 61 = .ok (.iadd, 1) := by decide +kernel
theorem d66_62 : decode (tBc 66) 62 = .ok (.sipush 240, 3) := by decide +kernel
theorem d66_65 : decode (tBc 66) 65 = .ok (.if_icmp .le 11, 3) := by decide +kernel
theorem d66_68 : decode (tBc 66) 68 = .ok (.aload_n 0, 1) := by decide +kernel
theorem d66_69 : decode (tBc 66) 69 = .ok (.iconst 1, 1) := by decide +kernel
theorem d66_70 : decode (tBc 66) 70 = .ok (.putfield 32, 3) := by decide +kernel
theorem d66_73 : decode (tBc 66) 73 = .ok (.goto 32, 3) := by decide +kernel
theorem d66_76 : decode (tBc 66) 76 = .ok (.aload_n 0, 1) := by decide +kernel
theorem d66_77 : decode (tBc 66) 77 = .ok (.iload_n 1, 1) := by decide +kernel
theorem d66_78 : decode (tBc 66) 78 = .ok (.iload_n 3, 1) := by decide +kernel
theorem d66_79 : decode (tBc 66) 79 = .ok (.invokevirtual 147, 3) := by decide +kernel
theorem d66_82 : decode (tBc 66) 82 = .ok (.aload_n 0, 1) := by decide +kernel
theorem d66_83 : decode (tBc 66) 83 = .ok (.getfield 15, 3) := by decide +kernel
theorem d66_86 : decode (tBc 66) 86 = .ok (.iconst 0, 1) := by decide +kernel
theorem d66_87 : decode (tBc 66) 87 = .ok (.aload_n 0, 1) := by decide +kernel
theorem d66_88 : decode (tBc 66) 88 = .ok (.getfield 9, 3) := by decide +kernel
theorem d66_91 : decode (tBc 66) 91 = .ok (.iload_n 2, 1) := by decide +kernel
theorem d66_92 : decode (tBc 66) 92 = .ok (.iload 5, 2) := by decide +kernel
theorem d66_94 : decode (tBc 66) 94 = .ok (.invokestatic 151, 3) := by decide +kernel
theorem d66_97 : decode (tBc 66) 97 = .ok (.aload_n 0, 1) := by decide +kernel
theorem d66_98 : decode (tBc 66) 98 = .ok (.iload_n 2, 1) := by decide +kernel
theorem d66_99 : decode (tBc 66) 99 = .ok (.iload 5, 2) := by decide +kernel
theorem d66_101 : decode (tBc 66) 101 = .ok (.iadd, 1) := by decide +kernel
theorem d66_102 : decode (tBc 66) 102 = .ok (.putfield 25, 3) := by decide +kernel
theorem d66_105 : decode (tBc 66) 105 = .ok (.aload_n 0, 1) := by decide +kernel
theorem d66_106 : decode (tBc 66) 106 = .ok (.iload_n 1, 1) := by decide +kernel
theorem d66_107 : decode (tBc 66) 107 = .ok (.putfield 29, 3) := by decide +kernel
theorem d66_110 : decode (tBc 66) 110 = .ok (.return_, 1) := by decide +kernel
theorem d67_0 : decode (tBc 67) 0 = .ok (.iconst 0, 1) := by decide +kernel
theorem d67_1 : decode (tBc 67) 1 = .ok (.istore_n 3, 1) := by decide +kernel
theorem d67_2 : decode (tBc 67) 2 = .ok (.iload_n 2, 1) := by decide +kernel
theorem d67_3 : decode (tBc 67) 3 = .ok (.ifCond .eq 14, 3) := by decide +kernel
theorem d67_6 : decode (tBc 67) 6 = .ok (.aload_n 0, 1) := by decide +kernel
theorem d67_7 : decode (tBc 67) 7 = .ok (.getfield 15, 3) := by decide +kernel
theorem d67_10 : decode (tBc 67) 10 = .ok (.iload_n 3, 1) := by decide +kernel
theorem d67_11 : decode (tBc 67) 11 = .ok (.iinc 3 1, 3) := by decide +kernel
theorem d67_14 : decode (tBc 67) 14 = .ok (.bipush 40, 2) := by decide +kernel
theorem d67_16 : decode (tBc 67) 16 = .ok (.castore, 1) := by decide +kernel
theorem d67_17 : decode (tBc 67) 17 = .ok (.iload_n 1, 1) := by decide +kernel
theorem d67_18 : decode (tBc 67) 18 = .ok (.istore 4, 2) := by decide +kernel
theorem d67_20 : decode (tBc 67) 20 = .ok (.iload 4, 2) := by decide +kernel
theorem d67_22 : decode (tBc 67) 22 = .ok (.aload_n 0, 1) := by decide +kernel
theorem d67_23 : decode (tBc 67) 23 = .ok (.getfield 29, 3) := by decide +kernel
theorem d67_26 : decode (tBc 67) 26 = .ok (.if_icmp .ge 78, 3) := by decide +kernel
theorem d67_29 : decode (tBc 67) 29 = .ok (.iload 4, 2) := by decide +kernel
theorem d67_31 : decode (tBc 67) 31 = .ok (.iload_n 1, 1) := by decide +kernel
theorem d67_32 : decode (tBc 67) 32 = .ok (.if_icmp .le 14, 3) := by decide +kernel
theorem d67_35 : decode (tBc 67) 35 = .ok (.aload_n 0, 1) := by decide +kernel
theorem d67_36 : decode (tBc 67) 36 = .ok (.getfield 15, 3) := by decide +kernel
theorem d67_39 : decode (tBc 67) 39 = .ok (.iload_n 3, 1) := by decide +kernel
theorem d67_40 : decode (tBc 67) 40 = .ok (.iinc 3 1, 3) := by decide +kernel
theorem d67_43 : decode (tBc 67) 43 = .ok (.bipush 124, 2) := by decide +kernel
theorem d67_45 : decode (tBc 67) 45 = .ok (.castore, 1) := by decide +kernel
theorem d67_46 : decode (tBc 67) 46 = .ok (.aload_n 0, 1) := by decide +kernel
theorem d67_47 : decode (tBc 67) 47 = .ok (.getfield 9, 3) := by decide +kernel
theorem d67_50 : decode (tBc 67) 50 = .ok (.aload_n 0, 1) := by decide +kernel
theorem d67_51 : decode (tBc 67) 51 = .ok (.getfield 18, 3) := by decide +kernel
theorem d67_54 : decode (tBc 67) 54 = .ok (.iload 4, 2) := by decide +kernel
theorem d67_56 : decode (tBc 67) 56 = .ok (.iaload, 1) := by decide +kernel
theorem d67_57 : decode (tBc 67) 57 = .ok (.aload_n 0, 1) := by decide +kernel
theorem d67_58 : decode (tBc 67) 58 = .ok (.getfield 15, 3) := by decide +kernel
theorem d67_61 : decode (tBc 67) 61 = .ok (.iload_n 3, 1) := by decide +kernel
theorem d67_62 : decode (tBc 67) 62 = .ok (.aload_n 0, 1) := by decide +kernel
theorem d67_63 : decode (tBc 67) 63 = .ok (.getfield 22, 3) := by decide +kernel
theorem d67_66 : decode (tBc 67) 66 = .ok (.iload 4, 2) := by decide +kernel
theorem d67_68 : decode (tBc 67) 68 = .ok (.iaload, 1) := by decide +kernel
theorem d67_69 : decode (tBc 67) 69 = .ok (.aload_n 0, 1) := by decide +kernel
theorem d67_70 : decode (tBc 67) 70 = .ok (.getfield 18, 3) := by decide +kernel
theorem d67_73 : decode (tBc 67) 73 = .ok (.iload 4, 2) := by decide +kernel
theorem d67_75 : decode (tBc 67) 75 = .ok (.iaload, 1) := by decide +kernel
theorem d67_76 : decode (tBc 67) 76 = .ok (.isub, 1) := by decide +kernel
theorem d67_77 : decode (tBc 67) 77 = .ok (.invokestatic 151, 3) := by decide +kernel
theorem d67_80 : decode (tBc 67) 80 = .ok (.iload_n 3, 1) := by decide +kernel
theorem d67_81 : decode (tBc 67) 81 = .ok (.aload_n 0, 1) := by decide +kernel
theorem d67_82 : decode (tBc 67) 82 = .ok (.getfield 22, 3) := by decide +kernel
theorem d67_85 : decode (tBc 67) 85 = .ok (.iload 4, 2) := by decide +kernel
theorem d67_87 : decode (tBc 67) 87 = .ok (.iaload, 1) := by decide +kernel
theorem d67_88 : decode (tBc 67) 88 = .ok (.aload_n 0, 1) := by decide +kernel
theorem d67_89 : decode (tBc 67) 89 = .ok (.getfield 18, 3) := by decide +kernel
theorem d67_92 : decode (tBc 67) 92 = .ok (.iload 4, 2) := by decide +kernel
theorem d67_94 : decode (tBc 67) 94 = .ok (.iaload, 1) := by decide +kernel
theorem d67_95 : decode (tBc 67) 95 = .ok (.isub, 1) := by decide +kernel
theorem d67_96 : decode (tBc 67) 96 = .ok (.iadd, 1) := by decide +kernel
theorem d67_97 : decode (tBc 67) 97 = .ok (.istore_n 3, 1) := by decide +kernel
theorem d67_98 : decode (tBc 67) 98 = .ok (.iinc 4 1, 3) := by decide +kernel
theorem d67_101 : decode (tBc 67) 101 = .ok (.goto (-81), 3) := by decide +kernel
theorem d67_104 : decode (tBc 67) 104 = .ok (.iload_n 2, 1) := by decide +kernel
theorem d67_105 : decode (tBc 67) 105 = .ok (.ifCond .eq 11, 3) := by decide +kernel
theorem d67_108 : decode (tBc 67) 108 = .ok (.aload_n 0, 1) := by decide +kernel
theorem d67_109 : decode (tBc 67) 109 = .ok (.getfield 15, 3) := by decide +kernel
theorem d67_112 : decode (tBc 67) 112 = .ok (.iload_n 3, 1) := by decide +kernel
theorem d67_113 : decode (tBc 67) 113 = .ok (.bipush 41, 2) := by decide +kernel
theorem d67_115 : decode (tBc 67) 115 = .ok (.castore, 1) := by decide +kernel
theorem d67_116 : decode (tBc 67) 116 = .ok (.return_, 1) := by decide +kernel
theorem d68_0 : decode (tBc 68) 0 = .ok (.aload_n 0, 1) := by decide +kernel
theorem d68_1 : decode (tBc 68) 1 = .ok (.invokespecial 3, 3) := by decide +kernel
theorem d68_4 : decode (tBc 68) 4 = .ok (.aload_n 0, 1) := by decide +kernel
theorem d68_5 : decode (tBc 68) 5 = .ok (.bipush 50, 2) := by decide +kernel
theorem d68_7 : decode (tBc 68) 7 = .ok (.newarray .int, 2) := by decide +kernel
theorem d68_9 : decode (tBc 68) 9 = .ok (.putfield 9, 3) := by decide +kernel
theorem d68_12 : decode (tBc 68) 12 = .ok (.aload_n 0, 1) := by decide +kernel
theorem d68_13 : decode (tBc 68) 13 = .ok (.bipush 50, 2) := by decide +kernel
theorem d68_15 : decode (tBc 68) 15 = .ok (.newarray .char, 2) := by decide +kernel
theorem d68_17 : decode (tBc 68) 17 = .ok (.putfield 15, 3) := by decide +kernel
theorem d68_20 : decode (tBc 68) 20 = .ok (.aload_n 0, 1) := by decide +kernel
theorem d68_21 : decode (tBc 68) 21 = .ok (.bipush 50, 2) := by decide +kernel
theorem d68_23 : decode (tBc 68) 23 = .ok (.newarray .boolean, 2) := by decide +kernel
theorem d68_25 : decode (tBc 68) 25 = .ok (.putfield 19, 3) := by decide +kernel
theorem d68_28 : decode (tBc 68) 28 = .ok (.aload_n 0, 1) := by decide +kernel
theorem d68_29 : decode (tBc 68) 29 = .ok (.bipush 50, 2) := by decide +kernel
theorem d68_31 : decode (tBc 68) 31 = .ok (.newarray .int, 2) := by decide +kernel
theorem d68_33 : decode (tBc 68) 33 = .ok (.putfield 23, 3) := by decide +kernel
theorem d68_36 : decode (tBc 68) 36 = .ok (.aload_n 0, 1) := by decide +kernel
theorem d68_37 : decode (tBc 68) 37 = .ok (.bipush 120, 2) := by decide +kernel
theorem d68_39 : decode (tBc 68) 39 = .ok (.newarray .char, 2) := by decide +kernel
theorem d68_41 : decode (tBc 68) 41 = .ok (.putfield 26, 3) := by decide +kernel
theorem d68_44 : decode (tBc 68) 44 = .ok (.return_, 1) := by decide +kernel
theorem d69_0 : decode (tBc 69) 0 = .ok (.aload_n 0, 1) := by decide +kernel
theorem d69_1 : decode (tBc 69) 1 = .ok (.iconst 0, 1) := by decide +kernel
theorem d69_2 : decode (tBc 69) 2 = .ok (.putfield 35, 3) := by decide +kernel
theorem d69_5 : decode (tBc 69) 5 = .ok (.iconst 0, 1) := by decide +kernel
theorem d69_6 : decode (tBc 69) 6 = .ok (.istore_n 3, 1) := by decide +kernel
theorem d69_7 : decode (tBc 69) 7 = .ok (.iload_n 3, 1) := by decide +kernel
theorem d69_8 : decode (tBc 69) 8 = .ok (.iload_n 2, 1) := by decide +kernel
theorem d69_9 : decode (tBc 69) 9 = .ok (.if_icmp .ge 36, 3) := by decide +kernel
theorem d69_12 : decode (tBc 69) 12 = .ok (.aload_n 1, 1) := by decide +kernel
theorem d69_13 : decode (tBc 69) 13 = .ok (.iload_n 3, 1) := by decide +kernel
theorem d69_14 : decode (tBc 69) 14 = .ok (.caload, 1) := by decide +kernel
theorem d69_15 : decode (tBc 69) 15 = .ok (.bipush 32, 2) := by decide +kernel
theorem d69_17 : decode (tBc 69) 17 = .ok (.if_icmp .eq 22, 3) := by decide +kernel
theorem d69_20 : decode (tBc 69) 20 = .ok (.aload_n 0, 1) := by decide +kernel
theorem d69_21 : decode (tBc 69) 21 = .ok (.getfield 26, 3) := by decide +kernel
theorem d69_24 : decode (tBc 69) 24 = .ok (.aload_n 0, 1) := by decide +kernel
theorem d69_25 : decode (tBc 69) 25 = .ok (.dup, 1) := by decide +kernel
theorem d69_26 : decode (tBc 69) 26 = .ok (.getfield 35, 3) := by decide +kernel
theorem d69_29 : decode (tBc 69) 29 = .ok (.dup_x1, 1) := by decide +kernel
theorem d69_30 : decode (tBc 69) 30 = .ok (.iconst 1, 1) := by decide +kernel
theorem d69_31 : decode (tBc 69) 31 = .ok (.iadd, 1) := by decide +kernel
theorem d69_32 : decode (tBc 69) 32 = .ok (.putfield 35, 3) := by decide +kernel
theorem d69_35 : decode (tBc 69) 35 = .ok (.aload_n 1, 1) := by decide +kernel
theorem d69_36 : decode (tBc 69) 36 = .ok (.iload_n 3, 1) := by decide +kernel
theorem d69_37 : decode (tBc 69) 37 = .ok (.caload, 1) := by decide +kernel
theorem d69_38 : decode (tBc 69) 38 = .ok (.castore, 1) := by decide +kernel
theorem d69_39 : decode (tBc 69) 39 = .ok (.iinc 3 1, 3) := by decide +kernel
theorem d69_42 : decode (tBc 69) 42 = .ok (.goto (-35), 3) := by decide +kernel
theorem d69_45 : decode (tBc 69) 45 = .ok (.aload_n 0, 1) := by decide +kernel
theorem d69_46 : decode (tBc 69) 46 = .ok (.iconst 0, 1) := by decide +kernel
theorem d69_47 : decode (tBc 69) 47 = .ok (.putfield 39, 3) := by decide +kernel
theorem d69_50 : decode (tBc 69) 50 = .ok (.aload_n 0, 1) := by decide +kernel
theorem d69_51 : decode (tBc 69) 51 = .ok (.iconst 0, 1) := by decide +kernel
theorem d69_52 : decode (tBc 69) 52 = .ok (.putfield 42, 3) := by decide +kernel
theorem d69_55 : decode (tBc 69) 55 = .ok (.aload_n 0, 1) := by decide +kernel
theorem d69_56 : decode (tBc 69) 56 = .ok (.iconst 1, 1) := by decide +kernel
theorem d69_57 : decode (tBc 69) 57 = .ok (.iconst 0, 1) := by decide +kernel
theorem d69_58 : decode (tBc 69) 58 = .ok (.invokevirtual 45, 3) := by decide +kernel
theorem d69_61 : decode (tBc 69) 61 = .ok (.aload_n 0, 1) := by decide +kernel
theorem d69_62 : decode (tBc 69) 62 = .ok (.getfield 42, 3) := by decide +kernel
theorem d69_65 : decode (tBc 69) 65 = .ok (.aload_n 0, 1) := by decide +kernel
theorem d69_66 : decode (tBc 69) 66 = .ok (.getfield 35, 3) := by decide +kernel
theorem d69_69 : decode (tBc 69) 69 = .ok (.if_icmp .ge 11, 3) := by decide +kernel
theorem d69_72 : decode (tBc 69) 72 = .ok (.new 49, 3) := by decide +kernel
theorem d69_75 : decode (tBc 69) 75 = .ok (.dup, 1) := by decide +kernel
theorem d69_76 : decode (tBc 69) 76 = .ok (.invokespecial 51, 3) := by decide +kernel
theorem d69_79 : decode (tBc 69) 79 = .ok (.athrow, 1) := by decide +kernel
theorem d69_80 : decode (tBc 69) 80 = .ok (.return_, 1) := by decide +kernel
theorem d70_0 : decode (tBc 70) 0 = .ok (.aload_n 0, 1) := by decide +kernel
theorem d70_1 : decode (tBc 70) 1 = .ok (.iload_n 1, 1) := by decide +kernel
theorem d70_2 : decode (tBc 70) 2 = .ok (.iload_n 2, 1) := by decide +kernel
theorem d70_3 : decode (tBc 70) 3 = .ok (.invokevirtual 52, 3) := by decide +kernel
theorem d70_6 : decode (tBc 70) 6 = .ok (.aload_n 0, 1) := by decide +kernel
theorem d70_7 : decode (tBc 70) 7 = .ok (.getfield 42, 3) := by decide +kernel
theorem d70_10 : decode (tBc 70) 10 = .ok (.aload_n 0, 1) := by decide +kernel
theorem d70_11 : decode (tBc 70) 11 = .ok (.getfield 35, 3) := by decide +kernel
theorem d70_14 : decode (tBc 70) 14 = .ok (.if_icmp .ge 36, 3) := by decide +kernel
theorem d70_17 : decode (tBc 70) 17 = .ok (.aload_n 0, 1) := by decide +kernel
theorem d70_18 : decode (tBc 70) 18 = .ok (.getfield 26, 3) := by decide +kernel
theorem d70_21 : decode (tBc 70) 21 = .ok (.aload_n 0, 1) := by decide +kernel
theorem d70_22 : decode (tBc 70) 22 = .ok (.getfield 42, 3) := by decide +kernel
theorem d70_25 : decode (tBc 70) 25 = .ok (.caload, 1) := by decide +kernel
theorem d70_26 : decode (tBc 70) 26 = .ok (.bipush 124, 2) := by decide +kernel
theorem d70_28 : decode (tBc 70) 28 = .ok (.if_icmp .ne 22, 3) := by decide +kernel
theorem d70_31 : decode (tBc 70) 31 = .ok (.aload_n 0, 1) := by decide +kernel
theorem d70_32 : decode (tBc 70) 32 = .ok (.dup, 1) := by decide +kernel
theorem d70_33 : decode (tBc 70) 33 = .ok (.getfield 42, 3) := by decide +kernel
theorem d70_36 : decode (tBc 70) 36 = .ok (.iconst 1, 1) := by decide +kernel
theorem d70_37 : decode (tBc 70) 37 = .ok (.iadd, 1) := by decide +kernel
theorem d70_38 : decode (tBc 70) 38 = .ok (.putfield 42, 3) := by decide +kernel
theorem d70_41 : decode (tBc 70) 41 = .ok (.aload_n 0, 1) := by decide +kernel
theorem d70_42 : decode (tBc 70) 42 = .ok (.iload_n 1, 1) := by decide +kernel
theorem d70_43 : decode (tBc 70) 43 = .ok (.iload_n 2, 1) := by decide +kernel
theorem d70_44 : decode (tBc 70) 44 = .ok (.invokevirtual 52, 3) := by decide +kernel
theorem d70_47 : decode (tBc 70) 47 = .ok (.goto (-41), 3) := by decide +kernel
theorem d70_50 : decode (tBc 70) 50 = .ok (.return_, 1) := by decide +kernel
theorem d71_0 : decode (tBc 71) 0 = .ok (.iload_n 1, 1) := by decide +kernel
theorem d71_1 : decode (tBc 71) 1 = .ok (.bipush 8, 2) := by decide +kernel
theorem d71_3 : decode (tBc 71) 3 = .ok (.if_icmp .le 11, 3) := by decide +kernel
theorem d71_6 : decode (tBc 71) 6 = .ok (.new 55, 3) := by decide +kernel
theorem d71_9 : decode (tBc 71) 9 = .ok (.dup, 1) := by decide +kernel
theorem d71_10 : decode (tBc 71) 10 = .ok (.invokespecial 57, 3) := by decide +kernel
theorem d71_13 : decode (tBc 71) 13 = .ok (.athrow, 1) := by decide +kernel
theorem d71_14 : decode (tBc 71) 14 = .ok (.aload_n 0, 1) := by decide +kernel
theorem d71_15 : decode (tBc 71) 15 = .ok (.invokevirtual 58, 3) := by decide +kernel
theorem d71_18 : decode (tBc 71) 18 = .ok (.istore_n 3, 1) := by decide +kernel
theorem d71_19 : decode (tBc 71) 19 = .ok (.iload_n 3, 1) := by decide +kernel
theorem d71_20 : decode (tBc 71) 20 = .ok (.bipush 48, 2) := by decide +kernel
theorem d71_22 : decode (tBc 71) 22 = .ok (.if_icmp .ne 16, 3) := by decide +kernel
theorem d71_25 : decode (tBc 71) 25 = .ok (.aload_n 0, 1) := by decide +kernel
theorem d71_26 : decode (tBc 71) 26 = .ok (.dup, 1) := by decide +kernel
theorem d71_27 : decode (tBc 71) 27 = .ok (.getfield 42, 3) := by decide +kernel
theorem d71_30 : decode (tBc 71) 30 = .ok (.iconst 1, 1) := by decide +kernel
theorem d71_31 : decode (tBc 71) 31 = .ok (.iadd, 1) := by decide +kernel
theorem d71_32 : decode (tBc 71) 32 = .ok (.putfield 42, 3) := by decide +kernel
theorem d71_35 : decode (tBc 71) 35 = .ok (.goto 77, 3) := by decide +kernel
theorem d71_38 : decode (tBc 71) 38 = .ok (.iload_n 3, 1) := by decide +kernel
theorem d71_39 : decode (tBc 71) 39 = .ok (.bipush 40, 2) := by decide +kernel
theorem d71_41 : decode (tBc 71) 41 = .ok (.if_icmp .ne 30, 3) := by decide +kernel
theorem d71_44 : decode (tBc 71) 44 = .ok (.aload_n 0, 1) := by decide +kernel
theorem d71_45 : decode (tBc 71) 45 = .ok (.dup, 1) := by decide +kernel
theorem d71_46 : decode (tBc 71) 46 = .ok (.getfield 42, 3) := by decide +kernel
theorem d71_49 : decode (tBc 71) 49 = .ok (.iconst 1, 1) := by decide +kernel
theorem d71_50 : decode (tBc 71) 50 = .ok (.iadd, 1) := by decide +kernel
theorem d71_51 : decode (tBc 71) 51 = .ok (.putfield 42, 3) := by decide +kernel
theorem d71_54 : decode (tBc 71) 54 = .ok (.aload_n 0, 1) := by decide +kernel
theorem d71_55 : decode (tBc 71) 55 = .ok (.iload_n 1, 1) := by decide +kernel
theorem d71_56 : decode (tBc 71) 56 = .ok (.iconst 1, 1) := by decide +kernel
theorem d71_57 : decode (tBc 71) 57 = .ok (.iadd, 1) := by decide +kernel
theorem d71_58 : decode (tBc 71) 58 = .ok (.iload_n 2, 1) := by decide +kernel
theorem d71_59 : decode (tBc 71) 59 = .ok (.invokevirtual 45, 3) := by decide +kernel
theorem d71_62 : decode (tBc 71) 62 = .ok (.aload_n 0, 1) := by decide +kernel
theorem d71_63 : decode (tBc 71) 63 = .ok (.bipush 41, 2) := by decide +kernel
theorem d71_65 : decode (tBc 71) 65 = .ok (.invokevirtual 62, 3) := by decide +kernel
theorem d71_68 : decode (tBc 71) 68 = .ok (.goto 44, 3) := by decide +kernel
theorem d71_71 : decode (tBc 71) 71 = .ok (.iload_n 3, 1) := by decide +kernel
theorem d71_72 : decode (tBc 71) 72 = .ok (.bipush 39, 2) := by decide +kernel
theorem d71_74 : decode (tBc 71) 74 = .ok (.if_icmp .ne 11, 3) := by decide +kernel
theorem d71_77 : decode (tBc 71) 77 = .ok (.aload_n 0, 1) := by decide +kernel
theorem d71_78 : decode (tBc 71) 78 = .ok (.iload_n 2, 1) := by decide +kernel
theorem d71_79 : decode (tBc 71) 79 = .ok (.invokevirtual 66, 3) := by decide +kernel
theorem d71_82 : decode (tBc 71) 82 = .ok (.goto 30, 3) := by decide +kernel
theorem d71_85 : decode (tBc 71) 85 = .ok (.iload_n 3, 1) := by decide +kernel
theorem d71_86 : decode (tBc 71) 86 = .ok (.bipush 97, 2) := by decide +kernel
theorem d71_88 : decode (tBc 71) 88 = .ok (.if_icmp .lt 18, 3) := by decide +kernel
theorem d71_91 : decode (tBc 71) 91 = .ok (.iload_n 3, 1) := by decide +kernel
theorem d71_92 : decode (tBc 71) 92 = .ok (.bipush 122, 2) := by decide +kernel
theorem d71_94 : decode (tBc 71) 94 = .ok (.if_icmp .gt 12, 3) := by decide +kernel
theorem d71_97 : decode (tBc 71) 97 = .ok (.aload_n 0, 1) := by decide +kernel
theorem d71_98 : decode (tBc 71) 98 = .ok (.iload_n 1, 1) := by decide +kernel
theorem d71_99 : decode (tBc 71) 99 = .ok (.iload_n 2, 1) := by decide +kernel
theorem d71_100 : decode (tBc 71) 100 = .ok (.invokevirtual 70, 3) := by decide +kernel
theorem d71_103 : decode (tBc 71) 103 = .ok (.goto 9, 3) := by decide +kernel
theorem d71_106 : decode (tBc 71) 106 = .ok (.aload_n 0, 1) := by decide +kernel
theorem d71_107 : decode (tBc 71) 107 = .ok (.iload_n 1, 1) := by decide +kernel
theorem d71_108 : decode (tBc 71) 108 = .ok (.iload_n 2, 1) := by decide +kernel
theorem d71_109 : decode (tBc 71) 109 = .ok (.invokevirtual 73, 3) := by decide +kernel
theorem d71_112 : decode (tBc 71) 112 = .ok (.return_, 1) := by decide +kernel
theorem d72_0 : decode (tBc 72) 0 = .ok (.aload_n 0, 1) := by decide +kernel
theorem d72_1 : decode (tBc 72) 1 = .ok (.getfield 42, 3) := by decide +kernel
theorem d72_4 : decode (tBc 72) 4 = .ok (.aload_n 0, 1) := by decide +kernel
theorem d72_5 : decode (tBc 72) 5 = .ok (.getfield 35, 3) := by decide +kernel
theorem d72_8 : decode (tBc 72) 8 = .ok (.if_icmp .ge 15, 3) := by decide +kernel
theorem d72_11 : decode (tBc 72) 11 = .ok (.aload_n 0, 1) := by decide +kernel
theorem d72_12 : decode (tBc 72) 12 = .ok (.getfield 26, 3) := by decide +kernel
theorem d72_15 : decode (tBc 72) 15 = .ok (.aload_n 0, 1) := by decide +kernel
theorem d72_16 : decode (tBc 72) 16 = .ok (.getfield 42, 3) := by decide +kernel
theorem d72_19 : decode (tBc 72) 19 = .ok (.caload, 1) := by decide +kernel
theorem d72_20 : decode (tBc 72) 20 = .ok (.goto 4, 3) := by decide +kernel
theorem d72_23 : decode (tBc 72) 23 = .ok (.iconst 0, 1) := by decide +kernel
theorem d72_24 : decode (tBc 72) 24 = .ok (.ireturn, 1) := by decide +kernel
theorem d73_0 : decode (tBc 73) 0 = .ok (.aload_n 0, 1) := by decide +kernel
theorem d73_1 : decode (tBc 73) 1 = .ok (.invokevirtual 58, 3) := by decide +kernel
theorem d73_4 : decode (tBc 73) 4 = .ok (.iload_n 1, 1) := by decide +kernel
theorem d73_5 : decode (tBc 73) 5 = .ok (.if_icmp .eq 11, 3) := by decide +kernel
theorem d73_8 : decode (tBc 73) 8 = .ok (.new 49, 3) := by decide +kernel
theorem d73_11 : decode (tBc 73) 11 = .ok (.dup, 1) := by decide +kernel
theorem d73_12 : decode (tBc 73) 12 = .ok (.invokespecial 51, 3) := by decide +kernel
theorem d73_15 : decode (tBc 73) 15 = .ok (.athrow, 1) := by decide +kernel
theorem d73_16 : decode (tBc 73) 16 = .ok (.aload_n 0, 1) := by decide +kernel
theorem d73_17 : decode (tBc 73) 17 = .ok (.dup, 1) := by decide +kernel
theorem d73_18 : decode (tBc 73) 18 = .ok (.getfield 42, 3) := by decide +kernel
theorem d73_21 : decode (tBc 73) 21 = .ok (.iconst 1, 1) := by decide +kernel
theorem d73_22 : decode (tBc 73) 22 = .ok (.iadd, 1) := by decide +kernel
theorem d73_23 : decode (tBc 73) 23 = .ok (.putfield 42, 3) := by decide +kernel
theorem d73_26 : decode (tBc 73) 26 = .ok (.return_, 1) := by decide +kernel
theorem d74_0 : decode (tBc 74) 0 = .ok (.aload_n 0, 1) := by decide +kernel
theorem d74_1 : decode (tBc 74) 1 = .ok (.iconst 5, 1) := by decide +kernel
theorem d74_2 : decode (tBc 74) 2 = .ok (.iconst 0, 1) := by decide +kernel
theorem d74_3 : decode (tBc 74) 3 = .ok (.invokevirtual 76, 3) := by decide +kernel
theorem d74_6 : decode (tBc 74) 6 = .ok (.istore_n 2, 1) := by decide +kernel
theorem d74_7 : decode (tBc 74) 7 = .ok (.aload_n 0, 1) := by decide +kernel
theorem d74_8 : decode (tBc 74) 8 = .ok (.dup, 1) := by decide +kernel
theorem d74_9 : decode (tBc 74) 9 = .ok (.getfield 42, 3) := by decide +kernel
theorem d74_12 : decode (tBc 74) 12 = .ok (.iconst 1, 1) := by decide +kernel
theorem d74_13 : decode (tBc 74) 13 = .ok (.iadd, 1) := by decide +kernel
theorem d74_14 : decode (tBc 74) 14 = .ok (.putfield 42, 3) := by decide +kernel
theorem d74_17 : decode (tBc 74) 17 = .ok (.aload_n 0, 1) := by decide +kernel
theorem d74_18 : decode (tBc 74) 18 = .ok (.getfield 15, 3) := by decide +kernel
theorem d74_21 : decode (tBc 74) 21 = .ok (.iload_n 2, 1) := by decide +kernel
theorem d74_22 : decode (tBc 74) 22 = .ok (.aload_n 0, 1) := by decide +kernel
theorem d74_23 : decode (tBc 74) 23 = .ok (.iload_n 1, 1) := by decide +kernel
theorem d74_24 : decode (tBc 74) 24 = .ok (.invokevirtual 80, 3) := by decide +kernel
theorem d74_27 : decode (tBc 74) 27 = .ok (.castore, 1) := by decide +kernel
theorem d74_28 : decode (tBc 74) 28 = .ok (.return_, 1) := by decide +kernel
theorem d75_0 : decode (tBc 75) 0 = .ok (.aload_n 0, 1) := by decide +kernel
theorem d75_1 : decode (tBc 75) 1 = .ok (.getfield 39, 3) := by decide +kernel
theorem d75_4 : decode (tBc 75) 4 = .ok (.bipush 50, 2) := by decide +kernel
theorem d75_6 : decode (tBc 75) 6 = .ok (.if_icmp .lt 11, 3) := by decide +kernel
theorem d75_9 : decode (tBc 75) 9 = .ok (.new 55, 3) := by decide +kernel
theorem d75_12 : decode (tBc 75) 12 = .ok (.dup, 1) := by decide +kernel
theorem d75_13 : decode (tBc 75) 13 = .ok (.invokespecial 57, 3) := by decide +kernel
theorem d75_16 : decode (tBc 75) 16 = .ok (.athrow, 1) := by decide +kernel
theorem d75_17 : decode (tBc 75) 17 = .ok (.aload_n 0, 1) := by decide +kernel
theorem d75_18 : decode (tBc 75) 18 = .ok (.dup, 1) := by decide +kernel
theorem d75_19 : decode (tBc 75) 19 = .ok (.getfield 39, 3) := by decide +kernel
theorem d75_22 : decode (tBc 75) 22 = .ok (.dup_x1, 1) := by decide +kernel
theorem d75_23 : decode (tBc 75) 23 = .ok (.iconst 1, 1) := by decide +kernel
theorem d75_24 : decode (tBc 75) 24 = .ok (.iadd, 1) := by decide +kernel
theorem d75_25 : decode (tBc 75) 25 = .ok (.putfield 39, 3) := by decide +kernel
theorem d75_28 : decode (tBc 75) 28 = .ok (.istore_n 3, 1) := by decide +kernel
theorem d75_29 : decode (tBc 75) 29 = .ok (.aload_n 0, 1) := by decide +kernel
theorem d75_30 : decode (tBc 75) 30 = .ok (.getfield 9, 3) := by decide +kernel
theorem d75_33 : decode (tBc 75) 33 = .ok (.iload_n 3, 1) := by decide +kernel
theorem d75_34 : decode (tBc 75) 34 = .ok (.iload_n 1, 1) := by decide +kernel
theorem d75_35 : decode (tBc 75) 35 = .ok (.iastore, 1) := by decide +kernel
theorem d75_36 : decode (tBc 75) 36 = .ok (.aload_n 0, 1) := by decide +kernel
theorem d75_37 : decode (tBc 75) 37 = .ok (.getfield 19, 3) := by decide +kernel
theorem d75_40 : decode (tBc 75) 40 = .ok (.iload_n 3, 1) := by decide +kernel
theorem d75_41 : decode (tBc 75) 41 = .ok (.iload_n 2, 1) := by decide +kernel
theorem d75_42 : decode (tBc 75) 42 = .ok (.bastore, 1) := by decide +kernel
theorem d75_43 : decode (tBc 75) 43 = .ok (.aload_n 0, 1) := by decide +kernel
theorem d75_44 : decode (tBc 75) 44 = .ok (.getfield 23, 3) := by decide +kernel
theorem d75_47 : decode (tBc 75) 47 = .ok (.iload_n 3, 1) := by decide +kernel
theorem d75_48 : decode (tBc 75) 48 = .ok (.aload_n 0, 1) := by decide +kernel
theorem d75_49 : decode (tBc 75) 49 = .ok (.getfield 39, 3) := by decide +kernel
theorem d75_52 : decode (tBc 75) 52 = .ok (.iastore, 1) := by decide +kernel
theorem d75_53 : decode (tBc 75) 53 = .ok (.iload_n 3, 1) := by decide +kernel
theorem d75_54 : decode (tBc 75) 54 = .ok (.ireturn, 1) := by decide +kernel
theorem d76_0 : decode (tBc 76) 0 = .ok (.aload_n 0, 1) := by decide +kernel
theorem d76_1 : decode (tBc 76) 1 = .ok (.invokevirtual 58, 3) := by decide +kernel
theorem d76_4 : decode (tBc 76) 4 = .ok (.istore_n 2, 1) := by decide +kernel
theorem d76_5 : decode (tBc 76) 5 = .ok (.iload_n 2, 1) := by decide +kernel
theorem d76_6 : decode (tBc 76) 6 = .ok (.invokestatic 99, 3) := by decide +kernel
theorem d76_9 : decode (tBc 76) 9 = .ok (.ifCond .eq 16, 3) := by decide +kernel
theorem d76_12 : decode (tBc 76) 12 = .ok (.iload_n 1, 1) := by decide +kernel
theorem d76_13 : decode (tBc 76) 13 = .ok (.iload_n 2, 1) := by decide +kernel
theorem d76_14 : decode (tBc 76) 14 = .ok (.invokestatic 95, 3) := by decide +kernel
theorem d76_17 : decode (tBc 76) 17 = .ok (.iand, 1) := by decide +kernel
theorem d76_18 : decode (tBc 76) 18 = .ok (.ifCond .eq 7, 3) := by decide +kernel
theorem d76_21 : decode (tBc 76) 21 = .ok (.iconst 1, 1) := by decide +kernel
theorem d76_22 : decode (tBc 76) 22 = .ok (.goto 4, 3) := by decide +kernel
theorem d76_25 : decode (tBc 76) 25 = .ok (.iconst 0, 1) := by decide +kernel
theorem d76_26 : decode (tBc 76) 26 = .ok (.istore_n 3, 1) := by decide +kernel
theorem d76_27 : decode (tBc 76) 27 = .ok (.iload_n 3, 1) := by decide +kernel
theorem d76_28 : decode (tBc 76) 28 = .ok (.ifCond .ne 23, 3) := by decide +kernel
theorem d76_31 : decode (tBc 76) 31 = .ok (.iload_n 2, 1) := by decide +kernel
theorem d76_32 : decode (tBc 76) 32 = .ok (.bipush 97, 2) := by decide +kernel
theorem d76_34 : decode (tBc 76) 34 = .ok (.if_icmp .lt 9, 3) := by decide +kernel
theorem d76_37 : decode (tBc 76) 37 = .ok (.iload_n 2, 1) := by decide +kernel
theorem d76_38 : decode (tBc 76) 38 = .ok (.bipush 102, 2) := by decide +kernel
theorem d76_40 : decode (tBc 76) 40 = .ok (.if_icmp .le 11, 3) := by decide +kernel
theorem d76_43 : decode (tBc 76) 43 = .ok (.new 49, 3) := by decide +kernel
theorem d76_46 : decode (tBc 76) 46 = .ok (.dup, 1) := by decide +kernel
theorem d76_47 : decode (tBc 76) 47 = .ok (.invokespecial 51, 3) := by decide +kernel
theorem d76_50 : decode (tBc 76) 50 = .ok (.athrow, 1) := by decide +kernel
theorem d76_51 : decode (tBc 76) 51 = .ok (.aload_n 0, 1) := by decide +kernel
theorem d76_52 : decode (tBc 76) 52 = .ok (.dup, 1) := by decide +kernel
theorem d76_53 : decode (tBc 76) 53 = .ok (.getfield 42, 3) := by decide +kernel
theorem d76_56 : decode (tBc 76) 56 = .ok (.iconst 1, 1) := by decide +kernel
theorem d76_57 : decode (tBc 76) 57 = .ok (.iadd, 1) := by decide +kernel
theorem d76_58 : decode (tBc 76) 58 = .ok (.putfield 42, 3) := by decide +kernel
theorem d76_61 : decode (tBc 76) 61 = .ok (.iload_n 2, 1) := by decide +kernel
theorem d76_62 : decode (tBc 76) 62 = .ok (.ireturn, 1) := by decide +kernel
theorem d77_0 : decode (tBc 77) 0 = .ok (.iload_n 0, 1) := by decide +kernel
theorem d77_1 : decode (tBc 77) 1 = .ok (.bipush 120, 2) := by decide +kernel
theorem d77_3 : decode (tBc 77) 3 = .ok (.if_icmp .lt 13, 3) := by decide +kernel
theorem d77_6 : decode (tBc 77) 6 = .ok (.iload_n 0, 1) := by decide +kernel
theorem d77_7 : decode (tBc 77) 7 = .ok (.bipush 122, 2) := by decide +kernel
theorem d77_9 : decode (tBc 77) 9 = .ok (.if_icmp .gt 7, 3) := by decide +kernel
theorem d77_12 : decode (tBc 77) 12 = .ok (.iconst 1, 1) := by decide +kernel
theorem d77_13 : decode (tBc 77) 13 = .ok (.goto 4, 3) := by decide +kernel
theorem d77_16 : decode (tBc 77) 16 = .ok (.iconst 0, 1) := by decide +kernel
theorem d77_17 : decode (tBc 77) 17 = .ok (.ireturn, 1) := by decide +kernel
theorem d78_0 : decode (tBc 78) 0 = .ok (.iconst 1, 1) := by decide +kernel
theorem d78_1 : decode (tBc 78) 1 = .ok (.iload_n 0, 1) := by decide +kernel
theorem d78_2 : decode (tBc 78) 2 = .ok (.bipush 120, 2) := by decide +kernel
theorem d78_4 : decode (tBc 78) 4 = .ok (.isub, 1) := by decide +kernel
theorem d78_5 : decode (tBc 78) 5 = .ok (.ishl, 1) := by decide +kernel
theorem d78_6 : decode (tBc 78) 6 = .ok (.ireturn, 1) := by decide +kernel
theorem d79_0 : decode (tBc 79) 0 = .ok (.aload_n 0, 1) := by decide +kernel
theorem d79_1 : decode (tBc 79) 1 = .ok (.iconst 4, 1) := by decide +kernel
theorem d79_2 : decode (tBc 79) 2 = .ok (.iconst 0, 1) := by decide +kernel
theorem d79_3 : decode (tBc 79) 3 = .ok (.invokevirtual 76, 3) := by decide +kernel
theorem d79_6 : decode (tBc 79) 6 = .ok (.istore_n 3, 1) := by decide +kernel
theorem d79_7 : decode (tBc 79) 7 = .ok (.aload_n 0, 1) := by decide +kernel
theorem d79_8 : decode (tBc 79) 8 = .ok (.getfield 15, 3) := by decide +kernel
theorem d79_11 : decode (tBc 79) 11 = .ok (.iload_n 3, 1) := by decide +kernel
theorem d79_12 : decode (tBc 79) 12 = .ok (.aload_n 0, 1) := by decide +kernel
theorem d79_13 : decode (tBc 79) 13 = .ok (.iload_n 2, 1) := by decide +kernel
theorem d79_14 : decode (tBc 79) 14 = .ok (.invokevirtual 80, 3) := by decide +kernel
theorem d79_17 : decode (tBc 79) 17 = .ok (.castore, 1) := by decide +kernel
theorem d79_18 : decode (tBc 79) 18 = .ok (.aload_n 0, 1) := by decide +kernel
theorem d79_19 : decode (tBc 79) 19 = .ok (.bipush 91, 2) := by decide +kernel
theorem d79_21 : decode (tBc 79) 21 = .ok (.invokevirtual 62, 3) := by decide +kernel
theorem d79_24 : decode (tBc 79) 24 = .ok (.aload_n 0, 1) := by decide +kernel
theorem d79_25 : decode (tBc 79) 25 = .ok (.iload_n 1, 1) := by decide +kernel
theorem d79_26 : decode (tBc 79) 26 = .ok (.iconst 1, 1) := by decide +kernel
theorem d79_27 : decode (tBc 79) 27 = .ok (.iadd, 1) := by decide +kernel
theorem d79_28 : decode (tBc 79) 28 = .ok (.iload_n 2, 1) := by decide +kernel
theorem d79_29 : decode (tBc 79) 29 = .ok (.invokevirtual 45, 3) := by decide +kernel
theorem d79_32 : decode (tBc 79) 32 = .ok (.aload_n 0, 1) := by decide +kernel
theorem d79_33 : decode (tBc 79) 33 = .ok (.bipush 93, 2) := by decide +kernel
theorem d79_35 : decode (tBc 79) 35 = .ok (.invokevirtual 62, 3) := by decide +kernel
theorem d79_38 : decode (tBc 79) 38 = .ok (.aload_n 0, 1) := by decide +kernel
theorem d79_39 : decode (tBc 79) 39 = .ok (.getfield 23, 3) := by decide +kernel
theorem d79_42 : decode (tBc 79) 42 = .ok (.iload_n 3, 1) := by decide +kernel
theorem d79_43 : decode (tBc 79) 43 = .ok (.aload_n 0, 1) := by decide +kernel
theorem d79_44 : decode (tBc 79) 44 = .ok (.getfield 39, 3) := by decide +kernel
theorem d79_47 : decode (tBc 79) 47 = .ok (.iastore, 1) := by decide +kernel
theorem d79_48 : decode (tBc 79) 48 = .ok (.return_, 1) := by decide +kernel
theorem d80_0 : decode (tBc 80) 0 = .ok (.aload_n 0, 1) := by decide +kernel
theorem d80_1 : decode (tBc 80) 1 = .ok (.invokevirtual 58, 3) := by decide +kernel
theorem d80_4 : decode (tBc 80) 4 = .ok (.bipush 33, 2) := by decide +kernel
theorem d80_6 : decode (tBc 80) 6 = .ok (.if_icmp .ne 7, 3) := by decide +kernel
theorem d80_9 : decode (tBc 80) 9 = .ok (.iconst 1, 1) := by decide +kernel
theorem d80_10 : decode (tBc 80) 10 = .ok (.goto 4, 3) := by decide +kernel
theorem d80_13 : decode (tBc 80) 13 = .ok (.iconst 0, 1) := by decide +kernel
theorem d80_14 : decode (tBc 80) 14 = .ok (.istore_n 3, 1) := by decide +kernel
theorem d80_15 : decode (tBc 80) 15 = .ok (.iload_n 3, 1) := by decide +kernel
theorem d80_16 : decode (tBc 80) 16 = .ok (.ifCond .eq 13, 3) := by decide +kernel
theorem d80_19 : decode (tBc 80) 19 = .ok (.aload_n 0, 1) := by decide +kernel
theorem d80_20 : decode (tBc 80) 20 = .ok (.dup, 1) := by decide +kernel
theorem d80_21 : decode (tBc 80) 21 = .ok (.getfield 42, 3) := by decide +kernel
theorem d80_24 : decode (tBc 80) 24 = .ok (.iconst 1, 1) := by decide +kernel
theorem d80_25 : decode (tBc 80) 25 = .ok (.iadd, 1) := by decide +kernel
theorem d80_26 : decode (tBc 80) 26 = .ok (.putfield 42, 3) := by decide +kernel
theorem d80_29 : decode (tBc 80) 29 = .ok (.ldc 84, 2) := by decide +kernel
theorem d80_31 : decode (tBc 80) 31 = .ok (.aload_n 0, 1) := by decide +kernel
theorem d80_32 : decode (tBc 80) 32 = .ok (.invokevirtual 58, 3) := by decide +kernel
theorem d80_35 : decode (tBc 80) 35 = .ok (.invokevirtual 86, 3) := by decide +kernel
theorem d80_38 : decode (tBc 80) 38 = .ok (.istore 4, 2) := by decide +kernel
theorem d80_40 : decode (tBc 80) 40 = .ok (.iload 4, 2) := by decide +kernel
theorem d80_42 : decode (tBc 80) 42 = .ok (.ifCond .ge 11, 3) := by decide +kernel
theorem d80_45 : decode (tBc 80) 45 = .ok (.new 49, 3) := by decide +kernel
theorem d80_48 : decode (tBc 80) 48 = .ok (.dup, 1) := by decide +kernel
theorem d80_49 : decode (tBc 80) 49 = .ok (.invokespecial 51, 3) := by decide +kernel
theorem d80_52 : decode (tBc 80) 52 = .ok (.athrow, 1) := by decide +kernel
theorem d80_53 : decode (tBc 80) 53 = .ok (.aload_n 0, 1) := by decide +kernel
theorem d80_54 : decode (tBc 80) 54 = .ok (.iload 4, 2) := by decide +kernel
theorem d80_56 : decode (tBc 80) 56 = .ok (.iload_n 3, 1) := by decide +kernel
theorem d80_57 : decode (tBc 80) 57 = .ok (.invokevirtual 76, 3) := by decide +kernel
theorem d80_60 : decode (tBc 80) 60 = .ok (.istore 5, 2) := by decide +kernel
theorem d80_62 : decode (tBc 80) 62 = .ok (.aload_n 0, 1) := by decide +kernel
theorem d80_63 : decode (tBc 80) 63 = .ok (.dup, 1) := by decide +kernel
theorem d80_64 : decode (tBc 80) 64 = .ok (.getfield 42, 3) := by decide +kernel
theorem d80_67 : decode (tBc 80) 67 = .ok (.iconst 1, 1) := by decide +kernel
theorem d80_68 : decode (tBc 80) 68 = .ok (.iadd, 1) := by decide +kernel
theorem d80_69 : decode (tBc 80) 69 = .ok (.putfield 42, 3) := by decide +kernel
theorem d80_72 : decode (tBc 80) 72 = .ok (.iload_n 2, 1) := by decide +kernel
theorem d80_73 : decode (tBc 80) 73 = .ok (.istore 6, 2) := by decide +kernel
theorem d80_75 : decode (tBc 80) 75 = .ok (.iload 4, 2) := by decide +kernel
theorem d80_77 : decode (tBc 80) 77 = .ok (.iconst 3, 1) := by decide +kernel
theorem d80_78 : decode (tBc 80) 78 = .ok (.if_icmp .ne 32, 3) := by decide +kernel
theorem d80_81 : decode (tBc 80) 81 = .ok (.aload_n 0, 1) := by decide +kernel
theorem d80_82 : decode (tBc 80) 82 = .ok (.getfield 15, 3) := by decide +kernel
theorem d80_85 : decode (tBc 80) 85 = .ok (.iload 5, 2) := by decide +kernel
theorem d80_87 : decode (tBc 80) 87 = .ok (.aload_n 0, 1) := by decide +kernel
theorem d80_88 : decode (tBc 80) 88 = .ok (.invokevirtual 92, 3) := by decide +kernel
theorem d80_91 : decode (tBc 80) 91 = .ok (.castore, 1) := by decide +kernel
theorem d80_92 : decode (tBc 80) 92 = .ok (.iload 6, 2) := by decide +kernel
theorem d80_94 : decode (tBc 80) 94 = .ok (.aload_n 0, 1) := by decide +kernel
theorem d80_95 : decode (tBc 80) 95 = .ok (.getfield 15, 3) := by decide +kernel
theorem d80_98 : decode (tBc 80) 98 = .ok (.iload 5, 2) := by decide +kernel
theorem d80_100 : decode (tBc 80) 100 = .ok (.caload, 1) := by decide +kernel
theorem d80_101 : decode (tBc 80) 101 = .ok (.invokestatic 95, 3) := by decide +kernel
theorem d80_104 : decode (tBc 80) 104 = .ok (.ior, 1) := by decide +kernel
theorem d80_105 : decode (tBc 80) 105 = .ok (.istore 6, 2) := by decide +kernel
theorem d80_107 : decode (tBc 80) 107 = .ok (.goto 15, 3) := by decide +kernel
theorem d80_110 : decode (tBc 80) 110 = .ok (.aload_n 0, 1) := by decide +kernel
theorem d80_111 : decode (tBc 80) 111 = .ok (.getfield 15, 3) := by decide +kernel
theorem d80_114 : decode (tBc 80) 114 = .ok (.iload 5, 2) := by decide +kernel
theorem d80_116 : decode (tBc 80) 116 = .ok (.aload_n 0, 1) := by decide +kernel
theorem d80_117 : decode (tBc 80) 117 = .ok (.iload_n 2, 1) := by decide +kernel
theorem d80_118 : decode (tBc 80) 118 = .ok (.invokevirtual 80, 3) := by decide +kernel
theorem d80_121 : decode (tBc 80) 121 = .ok (.castore, 1) := by decide +kernel
theorem d80_122 : decode (tBc 80) 122 = .ok (.aload_n 0, 1) := by decide +kernel
theorem d80_123 : decode (tBc 80) 123 = .ok (.bipush 46, 2) := by decide +kernel
theorem d80_125 : decode (tBc 80) 125 = .ok (.invokevirtual 62, 3) := by decide +kernel
theorem d80_128 : decode (tBc 80) 128 = .ok (.aload_n 0, 1) := by decide +kernel
theorem d80_129 : decode (tBc 80) 129 = .ok (.iload_n 1, 1) := by decide +kernel
theorem d80_130 : decode (tBc 80) 130 = .ok (.iconst 1, 1) := by decide +kernel
theorem d80_131 : decode (tBc 80) 131 = .ok (.iadd, 1) := by decide +kernel
theorem d80_132 : decode (tBc 80) 132 = .ok (.iload 6, 2) := by decide +kernel
theorem d80_134 : decode (tBc 80) 134 = .ok (.invokevirtual 52, 3) := by decide +kernel
theorem d80_137 : decode (tBc 80) 137 = .ok (.aload_n 0, 1) := by decide +kernel
theorem d80_138 : decode (tBc 80) 138 = .ok (.getfield 23, 3) := by decide +kernel
theorem d80_141 : decode (tBc 80) 141 = .ok (.iload 5, 2) := by decide +kernel
theorem d80_143 : decode (tBc 80) 143 = .ok (.aload_n 0, 1) := by decide +kernel
theorem d80_144 : decode (tBc 80) 144 = .ok (.getfield 39, 3) := by decide +kernel
theorem d80_147 : decode (tBc 80) 147 = .ok (.iastore, 1) := by decide +kernel
theorem d80_148 : decode (tBc 80) 148 = .ok (.return_, 1) := by decide +kernel
theorem d81_0 : decode (tBc 81) 0 = .ok (.aload_n 0, 1) := by decide +kernel
theorem d81_1 : decode (tBc 81) 1 = .ok (.invokevirtual 58, 3) := by decide +kernel
theorem d81_4 : decode (tBc 81) 4 = .ok (.istore_n 1, 1) := by decide +kernel
theorem d81_5 : decode (tBc 81) 5 = .ok (.iload_n 1, 1) := by decide +kernel
theorem d81_6 : decode (tBc 81) 6 = .ok (.invokestatic 99, 3) := by decide +kernel
theorem d81_9 : decode (tBc 81) 9 = .ok (.ifCond .ne 11, 3) := by decide +kernel
theorem d81_12 : decode (tBc 81) 12 = .ok (.new 49, 3) := by decide +kernel
theorem d81_15 : decode (tBc 81) 15 = .ok (.dup, 1) := by decide +kernel
theorem d81_16 : decode (tBc 81) 16 = .ok (.invokespecial 51, 3) := by decide +kernel
theorem d81_19 : decode (tBc 81) 19 = .ok (.athrow, 1) := by decide +kernel
theorem d81_20 : decode (tBc 81) 20 = .ok (.aload_n 0, 1) := by decide +kernel
theorem d81_21 : decode (tBc 81) 21 = .ok (.dup, 1) := by decide +kernel
theorem d81_22 : decode (tBc 81) 22 = .ok (.getfield 42, 3) := by decide +kernel
theorem d81_25 : decode (tBc 81) 25 = .ok (.iconst 1, 1) := by decide +kernel
theorem d81_26 : decode (tBc 81) 26 = .ok (.iadd, 1) := by decide +kernel
theorem d81_27 : decode (tBc 81) 27 = .ok (.putfield 42, 3) := by decide +kernel
theorem d81_30 : decode (tBc 81) 30 = .ok (.iload_n 1, 1) := by decide +kernel
theorem d81_31 : decode (tBc 81) 31 = .ok (.ireturn, 1) := by decide +kernel
theorem d82_0 : decode (tBc 82) 0 = .ok (.iload_n 1, 1) := by decide +kernel
theorem d82_1 : decode (tBc 82) 1 = .ok (.iconst 1, 1) := by decide +kernel
theorem d82_2 : decode (tBc 82) 2 = .ok (.iadd, 1) := by decide +kernel
theorem d82_3 : decode (tBc 82) 3 = .ok (.aload_n 0, 1) := by decide +kernel
theorem d82_4 : decode (tBc 82) 4 = .ok (.getfield 23, 3) := by decide +kernel
theorem d82_7 : decode (tBc 82) 7 = .ok (.iload_n 1, 1) := by decide +kernel
theorem d82_8 : decode (tBc 82) 8 = .ok (.iaload, 1) := by decide +kernel
theorem d82_9 : decode (tBc 82) 9 = .ok (.invokestatic 29, 3) := by decide +kernel
theorem d82_12 : decode (tBc 82) 12 = .ok (.ireturn, 1) := by decide +kernel
theorem d83_0 : decode (tBc 83) 0 = .ok (.aload_n 0, 1) := by decide +kernel
theorem d83_1 : decode (tBc 83) 1 = .ok (.invokespecial 3, 3) := by decide +kernel
theorem d83_4 : decode (tBc 83) 4 = .ok (.aload_n 0, 1) := by decide +kernel
theorem d83_5 : decode (tBc 83) 5 = .ok (.iload_n 1, 1) := by decide +kernel
theorem d83_6 : decode (tBc 83) 6 = .ok (.newarray .int, 2) := by decide +kernel
theorem d83_8 : decode (tBc 83) 8 = .ok (.putfield 9, 3) := by decide +kernel
theorem d83_11 : decode (tBc 83) 11 = .ok (.aload_n 0, 1) := by decide +kernel
theorem d83_12 : decode (tBc 83) 12 = .ok (.iload_n 1, 1) := by decide +kernel
theorem d83_13 : decode (tBc 83) 13 = .ok (.newarray .int, 2) := by decide +kernel
theorem d83_15 : decode (tBc 83) 15 = .ok (.putfield 15, 3) := by decide +kernel
theorem d83_18 : decode (tBc 83) 18 = .ok (.aload_n 0, 1) := by decide +kernel
theorem d83_19 : decode (tBc 83) 19 = .ok (.iload_n 1, 1) := by decide +kernel
theorem d83_20 : decode (tBc 83) 20 = .ok (.newarray .int, 2) := by decide +kernel
theorem d83_22 : decode (tBc 83) 22 = .ok (.putfield 18, 3) := by decide +kernel
theorem d83_25 : decode (tBc 83) 25 = .ok (.aload_n 0, 1) := by decide +kernel
theorem d83_26 : decode (tBc 83) 26 = .ok (.iload_n 1, 1) := by decide +kernel
theorem d83_27 : decode (tBc 83) 27 = .ok (.newarray .int, 2) := by decide +kernel
theorem d83_29 : decode (tBc 83) 29 = .ok (.putfield 21, 3) := by decide +kernel
theorem d83_32 : decode (tBc 83) 32 = .ok (.aload_n 0, 1) := by decide +kernel
theorem d83_33 : decode (tBc 83) 33 = .ok (.iload_n 1, 1) := by decide +kernel
theorem d83_34 : decode (tBc 83) 34 = .ok (.newarray .int, 2) := by decide +kernel
theorem d83_36 : decode (tBc 83) 36 = .ok (.putfield 24, 3) := by decide +kernel
theorem d83_39 : decode (tBc 83) 39 = .ok (.return_, 1) := by decide +kernel
theorem d84_0 : decode (tBc 84) 0 = .ok (.aload_n 0, 1) := by decide +kernel
theorem d84_1 : decode (tBc 84) 1 = .ok (.getfield 27, 3) := by decide +kernel
theorem d84_4 : decode (tBc 84) 4 = .ok (.aload_n 0, 1) := by decide +kernel
theorem d84_5 : decode (tBc 84) 5 = .ok (.getfield 9, 3) := by decide +kernel
theorem d84_8 : decode (tBc 84) 8 = .ok (.arraylength, 1) := by decide +kernel
theorem d84_9 : decode (tBc 84) 9 = .ok (.if_icmp .lt 5, 3) := by decide +kernel
theorem d84_12 : decode (tBc 84) 12 = .ok (.iconst 0, 1) := by decide +kernel
theorem d84_13 : decode (tBc 84) 13 = .ok (.ireturn, 1) := by decide +kernel
theorem d84_14 : decode (tBc 84) 14 = .ok (.aload_n 0, 1) := by decide +kernel
theorem d84_15 : decode (tBc 84) 15 = .ok (.getfield 9, 3) := by decide +kernel
theorem d84_18 : decode (tBc 84) 18 = .ok (.aload_n 0, 1) := by decide +kernel
theorem d84_19 : decode (tBc 84) 19 = .ok (.getfield 27, 3) := by decide +kernel
theorem d84_22 : decode (tBc 84) 22 = .ok (.iload_n 1, 1) := by decide +kernel
theorem d84_23 : decode (tBc 84) 23 = .ok (.iastore, 1) := by decide +kernel
theorem d84_24 : decode (tBc 84) 24 = .ok (.aload_n 0, 1) := by decide +kernel
theorem d84_25 : decode (tBc 84) 25 = .ok (.getfield 15, 3) := by decide +kernel
theorem d84_28 : decode (tBc 84) 28 = .ok (.aload_n 0, 1) := by decide +kernel
theorem d84_29 : decode (tBc 84) 29 = .ok (.getfield 27, 3) := by decide +kernel
theorem d84_32 : decode (tBc 84) 32 = .ok (.iload_n 2, 1) := by decide +kernel
theorem d84_33 : decode (tBc 84) 33 = .ok (.iastore, 1) := by decide +kernel
theorem d84_34 : decode (tBc 84) 34 = .ok (.aload_n 0, 1) := by decide +kernel
theorem d84_35 : decode (tBc 84) 35 = .ok (.getfield 18, 3) := by decide +kernel
theorem d84_38 : decode (tBc 84) 38 = .ok (.aload_n 0, 1) := by decide +kernel
theorem d84_39 : decode (tBc 84) 39 = .ok (.getfield 27, 3) := by decide +kernel
theorem d84_42 : decode (tBc 84) 42 = .ok (.iload_n 3, 1) := by decide +kernel
theorem d84_43 : decode (tBc 84) 43 = .ok (.iastore, 1) := by decide +kernel
theorem d84_44 : decode (tBc 84) 44 = .ok (.aload_n 0, 1) := by decide +kernel
theorem d84_45 : decode (tBc 84) 45 = .ok (.getfield 21, 3) := by decide +kernel
theorem d84_48 : decode (tBc 84) 48 = .ok (.aload_n 0, 1) := by decide +kernel
theorem d84_49 : decode (tBc 84) 49 = .ok (.getfield 27, 3) := by decide +kernel
theorem d84_52 : decode (tBc 84) 52 = .ok (.iload 4, 2) := by decide +kernel
theorem d84_54 : decode (tBc 84) 54 = .ok (.iastore, 1) := by decide +kernel
theorem d84_55 : decode (tBc 84) 55 = .ok (.aload_n 0, 1) := by decide +kernel
theorem d84_56 : decode (tBc 84) 56 = .ok (.getfield 24, 3) := by decide +kernel
theorem d84_59 : decode (tBc 84) 59 = .ok (.aload_n 0, 1) := by decide +kernel
theorem d84_60 : decode (tBc 84) 60 = .ok (.getfield 27, 3) := by decide +kernel
theorem d84_63 : decode (tBc 84) 63 = .ok (.iload 5, 2) := by decide +kernel
theorem d84_65 : decode (tBc 84) 65 = .ok (.iastore, 1) := by decide +kernel
theorem d84_66 : decode (tBc 84) 66 = .ok (.aload_n 0, 1) := by decide +kernel
theorem d84_67 : decode (tBc 84) 67 = .ok (.dup, 1) := by decide +kernel
theorem d84_68 : decode (tBc 84) 68 = .ok (.getfield 27, 3) := by decide +kernel
theorem d84_71 : decode (tBc 84) 71 = .ok (.iconst 1, 1) := by decide +kernel
theorem d84_72 : decode (tBc 84) 72 = .ok (.iadd, 1) := by decide +kernel
theorem d84_73 : decode (tBc 84) 73 = .ok (.putfield 27, 3) := by decide +kernel
theorem d84_76 : decode (tBc 84) 76 = .ok (.iconst 1, 1) := by decide +kernel
theorem d84_77 : decode (tBc 84) 77 = .ok (.ireturn, 1) := by decide +kernel
theorem d85_0 : decode (tBc 85) 0 = .ok (.iconst 0, 1) := by decide +kernel
theorem d85_1 : decode (tBc 85) 1 = .ok (.istore_n 2, 1) := by decide +kernel
theorem d85_2 : decode (tBc 85) 2 = .ok (.iload_n 2, 1) := by decide +kernel
theorem d85_3 : decode (tBc 85) 3 = .ok (.aload_n 0, 1) := by decide +kernel
theorem d85_4 : decode (tBc 85) 4 = .ok (.getfield 27, 3) := by decide +kernel
theorem d85_7 : decode (tBc 85) 7 = .ok (.if_icmp .ge 21, 3) := by decide +kernel
theorem d85_10 : decode (tBc 85) 10 = .ok (.aload_n 0, 1) := by decide +kernel
theorem d85_11 : decode (tBc 85) 11 = .ok (.getfield 9, 3) := by decide +kernel
theorem d85_14 : decode (tBc 85) 14 = .ok (.iload_n 2, 1) := by decide +kernel
theorem d85_15 : decode (tBc 85) 15 = .ok (.iaload, 1) := by decide +kernel
theorem d85_16 : decode (tBc 85) 16 = .ok (.iload_n 1, 1) := by decide +kernel
theorem d85_17 : decode (tBc 85) 17 = .ok (.if_icmp .ne 5, 3) := by decide +kernel
theorem d85_20 : decode (tBc 85) 20 = .ok (.iload_n 2, 1) := by decide +kernel
theorem d85_21 : decode (tBc 85) 21 = .ok (.ireturn, 1) := by decide +kernel
theorem d85_22 : decode (tBc 85) 22 = .ok (.iinc 2 1, 3) := by decide +kernel
theorem d85_25 : decode (tBc 85) 25 = .ok (.goto (-23), 3) := by decide +kernel
theorem d85_28 : decode (tBc 85) 28 = .ok (.iconst (-1), 1) := by decide +kernel
theorem d85_29 : decode (tBc 85) 29 = .ok (.ireturn, 1) := by decide +kernel
theorem d86_0 : decode (tBc 86) 0 = .ok (.aload_n 0, 1) := by decide +kernel
theorem d86_1 : decode (tBc 86) 1 = .ok (.aload_n 1, 1) := by decide +kernel
theorem d86_2 : decode (tBc 86) 2 = .ok (.getfield 27, 3) := by decide +kernel
theorem d86_5 : decode (tBc 86) 5 = .ok (.aload_n 0, 1) := by decide +kernel
theorem d86_6 : decode (tBc 86) 6 = .ok (.getfield 9, 3) := by decide +kernel
theorem d86_9 : decode (tBc 86) 9 = .ok (.arraylength, 1) := by decide +kernel
theorem d86_10 : decode (tBc 86) 10 = .ok (.invokestatic 31, 3) := by decide +kernel
theorem d86_13 : decode (tBc 86) 13 = .ok (.putfield 27, 3) := by decide +kernel
theorem d86_16 : decode (tBc 86) 16 = .ok (.aload_n 1, 1) := by decide +kernel
theorem d86_17 : decode (tBc 86) 17 = .ok (.getfield 9, 3) := by decide +kernel
theorem d86_20 : decode (tBc 86) 20 = .ok (.iconst 0, 1) := by decide +kernel
theorem d86_21 : decode (tBc 86) 21 = .ok (.aload_n 0, 1) := by decide +kernel
theorem d86_22 : decode (tBc 86) 22 = .ok (.getfield 9, 3) := by decide +kernel
theorem d86_25 : decode (tBc 86) 25 = .ok (.iconst 0, 1) := by decide +kernel
theorem d86_26 : decode (tBc 86) 26 = .ok (.aload_n 0, 1) := by decide +kernel
theorem d86_27 : decode (tBc 86) 27 = .ok (.getfield 27, 3) := by decide +kernel
theorem d86_30 : decode (tBc 86) 30 = .ok (.invokestatic 37, 3) := by decide +kernel
theorem d86_33 : decode (tBc 86) 33 = .ok (.aload_n 1, 1) := by decide +kernel
theorem d86_34 : decode (tBc 86) 34 = .ok (.getfield 15, 3) := by decide +kernel
theorem d86_37 : decode (tBc 86) 37 = .ok (.iconst 0, 1) := by decide +kernel
theorem d86_38 : decode (tBc 86) 38 = .ok (.aload_n 0, 1) := by decide +kernel
theorem d86_39 : decode (tBc 86) 39 = .ok (.getfield 15, 3) := by decide +kernel
theorem d86_42 : decode (tBc 86) 42 = .ok (.iconst 0, 1) := by decide +kernel
theorem d86_43 : decode (tBc 86) 43 = .ok (.aload_n 0, 1) := by decide +kernel
theorem d86_44 : decode (tBc 86) 44 = .ok (.getfield 27, 3) := by decide +kernel
theorem d86_47 : decode (tBc 86) 47 = .ok (.invokestatic 37, 3) := by decide +kernel
theorem d86_50 : decode (tBc 86) 50 = .ok (.aload_n 1, 1) := by decide +kernel
theorem d86_51 : decode (tBc 86) 51 = .ok (.getfield 18, 3) := by decide +kernel
theorem d86_54 : decode (tBc 86) 54 = .ok (.iconst 0, 1) := by decide +kernel
theorem d86_55 : decode (tBc 86) 55 = .ok (.aload_n 0, 1) := by decide +kernel
theorem d86_56 : decode (tBc 86) 56 = .ok (.getfield 18, 3) := by decide +kernel
theorem d86_59 : decode (tBc 86) 59 = .ok (.iconst 0, 1) := by decide +kernel
theorem d86_60 : decode (tBc 86) 60 = .ok (.aload_n 0, 1) := by decide +kernel
theorem d86_61 : decode (tBc 86) 61 = .ok (.getfield 27, 3) := by decide +kernel
theorem d86_64 : decode (tBc 86) 64 = .ok (.invokestatic 37, 3) := by decide +kernel
theorem d86_67 : decode (tBc 86) 67 = .ok (.aload_n 1, 1) := by decide +kernel
theorem d86_68 : decode (tBc 86) 68 = .ok (.getfield 21, 3) := by decide +kernel
theorem d86_71 : decode (tBc 86) 71 = .ok (.iconst 0, 1) := by decide +kernel
theorem d86_72 : decode (tBc 86) 72 = .ok (.aload_n 0, 1) := by decide +kernel
theorem d86_73 : decode (tBc 86) 73 = .ok (.getfield 21, 3) := by decide +kernel
theorem d86_76 : decode (tBc 86) 76 = .ok (.iconst 0, 1) := by decide +kernel
theorem d86_77 : decode (tBc 86) 77 = .ok (.aload_n 0, 1) := by decide +kernel
theorem d86_78 : decode (tBc 86) 78 = .ok (.getfield 27, 3) := by decide +kernel
theorem d86_81 : decode (tBc 86) 81 = .ok (.invokestatic 37, 3) := by decide +kernel
theorem d86_84 : decode (tBc 86) 84 = .ok (.aload_n 1, 1) := by decide +kernel
theorem d86_85 : decode (tBc 86) 85 = .ok (.getfield 24, 3) := by decide +kernel
theorem d86_88 : decode (tBc 86) 88 = .ok (.iconst 0, 1) := by decide +kernel
theorem d86_89 : decode (tBc 86) 89 = .ok (.aload_n 0, 1) := by decide +kernel
theorem d86_90 : decode (tBc 86) 90 = .ok (.getfield 24, 3) := by decide +kernel
theorem d86_93 : decode (tBc 86) 93 = .ok (.iconst 0, 1) := by decide +kernel
theorem d86_94 : decode (tBc 86) 94 = .ok (.aload_n 0, 1) := by decide +kernel
theorem d86_95 : decode (tBc 86) 95 = .ok (.getfield 27, 3) := by decide +kernel
theorem d86_98 : decode (tBc 86) 98 = .ok (.invokestatic 37, 3) := by decide +kernel
theorem d86_101 : decode (tBc 86) 101 = .ok (.return_, 1) := by decide +kernel
theorem d87_0 : decode (tBc 87) 0 = .ok (.iload_n 1, 1) := by decide +kernel
theorem d87_1 : decode (tBc 87) 1 = .ok (.ifCond .lt 11, 3) := by decide +kernel
theorem d87_4 : decode (tBc 87) 4 = .ok (.iload_n 1, 1) := by decide +kernel
theorem d87_5 : decode (tBc 87) 5 = .ok (.aload_n 0, 1) := by decide +kernel
theorem d87_6 : decode (tBc 87) 6 = .ok (.getfield 27, 3) := by decide +kernel
theorem d87_9 : decode (tBc 87) 9 = .ok (.if_icmp .lt 4, 3) := by decide +kernel
theorem d87_12 : decode (tBc 87) 12 = .ok (.return_, 1) := by decide +kernel
theorem d87_13 : decode (tBc 87) 13 = .ok (.aload_n 0, 1) := by decide +kernel
theorem d87_14 : decode (tBc 87) 14 = .ok (.dup, 1) := by decide +kernel
theorem d87_15 : decode (tBc 87) 15 = .ok (.getfield 27, 3) := by decide +kernel
theorem d87_18 : decode (tBc 87) 18 = .ok (.iconst 1, 1) := by decide +kernel
theorem d87_19 : decode (tBc 87) 19 = .ok (.isub, 1) := by decide +kernel
theorem d87_20 : decode (tBc 87) 20 = .ok (.putfield 27, 3) := by decide +kernel
theorem d87_23 : decode (tBc 87) 23 = .ok (.iload_n 1, 1) := by decide +kernel
theorem d87_24 : decode (tBc 87) 24 = .ok (.istore_n 2, 1) := by decide +kernel
theorem d87_25 : decode (tBc 87) 25 = .ok (.iload_n 2, 1) := by decide +kernel
theorem d87_26 : decode (tBc 87) 26 = .ok (.aload_n 0, 1) := by decide +kernel
theorem d87_27 : decode (tBc 87) 27 = .ok (.getfield 27, 3) := by decide +kernel
theorem d87_30 : decode (tBc 87) 30 = .ok (.if_icmp .ge 79, 3) := by decide +kernel
theorem d87_33 : decode (tBc 87) 33 = .ok (.aload_n 0, 1) := by decide +kernel
theorem d87_34 : decode (tBc 87) 34 = .ok (.getfield 9, 3) := by decide +kernel
theorem d87_37 : decode (tBc 87) 37 = .ok (.iload_n 2, 1) := by decide +kernel
theorem d87_38 : decode (tBc 87) 38 = .ok (.aload_n 0, 1) := by decide +kernel
theorem d87_39 : decode (tBc 87) 39 = .ok (.getfield 9, 3) := by decide +kernel
theorem d87_42 : decode (tBc 87) 42 = .ok (.iload_n 2, 1) := by decide +kernel
theorem d87_43 : decode (tBc 87) 43 = .ok (.iconst 1, 1) := by decide +kernel
theorem d87_44 : decode (tBc 87) 44 = .ok (.iadd, 1) := by decide +kernel
theorem d87_45 : decode (tBc 87) 45 = .ok (.iaload, 1) := by decide +kernel
theorem d87_46 : decode (tBc 87) 46 = .ok (.iastore, 1) := by decide +kernel
theorem d87_47 : decode (tBc 87) 47 = .ok (.aload_n 0, 1) := by decide +kernel
theorem d87_48 : decode (tBc 87) 48 = .ok (.getfield 15, 3) := by decide +kernel
theorem d87_51 : decode (tBc 87) 51 = .ok (.iload_n 2, 1) := by decide +kernel
theorem d87_52 : decode (tBc 87) 52 = .ok (.aload_n 0, 1) := by decide +kernel
theorem d87_53 : decode (tBc 87) 53 = .ok (.getfield 15, 3) := by decide +kernel
theorem d87_56 : decode (tBc 87) 56 = .ok (.iload_n 2, 1) := by decide +kernel
theorem d87_57 : decode (tBc 87) 57 = .ok (.iconst 1, 1) := by decide +kernel
theorem d87_58 : decode (tBc 87) 58 = .ok (.iadd, 1) := by decide +kernel
theorem d87_59 : decode (tBc 87) 59 = .ok (.iaload, 1) := by decide +kernel
theorem d87_60 : decode (tBc 87) 60 = .ok (.iastore, 1) := by decide +kernel
theorem d87_61 : decode (tBc 87) 61 = .ok (.aload_n 0, 1) := by decide +kernel
theorem d87_62 : decode (tBc 87) 62 = .ok (.getfield 18, 3) := by decide +kernel
theorem d87_65 : decode (tBc 87) 65 = .ok (.iload_n 2, 1) := by decide +kernel
theorem d87_66 : decode (tBc 87) 66 = .ok (.aload_n 0, 1) := by decide +kernel
theorem d87_67 : decode (tBc 87) 67 = .ok (.getfield 18, 3) := by decide +kernel
theorem d87_70 : decode (tBc 87) 70 = .ok (.iload_n 2, 1) := by decide +kernel
theorem d87_71 : decode (tBc 87) 71 = .ok (.iconst 1, 1) := by decide +kernel
theorem d87_72 : decode (tBc 87) 72 = .ok (.iadd, 1) := by decide +kernel
theorem d87_73 : decode (tBc 87) 73 = .ok (.iaload, 1) := by decide +kernel
theorem d87_74 : decode (tBc 87) 74 = .ok (.iastore, 1) := by decide +kernel
theorem d87_75 : decode (tBc 87) 75 = .ok (.aload_n 0, 1) := by decide +kernel
theorem d87_76 : decode (tBc 87) 76 = .ok (.getfield 21, 3) := by decide +kernel
theorem d87_79 : decode (tBc 87) 79 = .ok (.iload_n 2, 1) := by decide +kernel
theorem d87_80 : decode (tBc 87) 80 = .ok (.aload_n 0, 1) := by decide +kernel
theorem d87_81 : decode (tBc 87) 81 = .ok (.getfield 21, 3) := by decide +kernel
theorem d87_84 : decode (tBc 87) 84 = .ok (.iload_n 2, 1) := by decide +kernel
theorem d87_85 : decode (tBc 87) 85 = .ok (.iconst 1, 1) := by decide +kernel
theorem d87_86 : decode (tBc 87) 86 = .ok (.iadd, 1) := by decide +kernel
theorem d87_87 : decode (tBc 87) 87 = .ok (.iaload, 1) := by decide +kernel
theorem d87_88 : decode (tBc 87) 88 = .ok (.iastore, 1) := by decide +kernel
theorem d87_89 : decode (tBc 87) 89 = .ok (.aload_n 0, 1) := by decide +kernel
theorem d87_90 : decode (tBc 87) 90 = .ok (.getfield 24, 3) := by decide +kernel
theorem d87_93 : decode (tBc 87) 93 = .ok (.iload_n 2, 1) := by decide +kernel
theorem d87_94 : decode (tBc 87) 94 = .ok (.aload_n 0, 1) := by decide +kernel
theorem d87_95 : decode (tBc 87) 95 = .ok (.getfield 24, 3) := by decide +kernel
theorem d87_98 : decode (tBc 87) 98 = .ok (.iload_n 2, 1) := by decide +kernel
theorem d87_99 : decode (tBc 87) 99 = .ok (.iconst 1, 1) := by decide +kernel
theorem d87_100 : decode (tBc 87) 100 = .ok (.iadd, 1) := by decide +kernel
theorem d87_101 : decode (tBc 87) 101 = .ok (.iaload, 1) := by decide +kernel
theorem d87_102 : decode (tBc 87) 102 = .ok (.iastore, 1) := by decide +kernel
theorem d87_103 : decode (tBc 87) 103 = .ok (.iinc 2 1, 3) := by decide +kernel
theorem d87_106 : decode (tBc 87) 106 = .ok (.goto (-81), 3) := by decide +kernel
theorem d87_109 : decode (tBc 87) 109 = .ok (.return_, 1) := by decide +kernel
theorem d88_0 : decode (tBc 88) 0 = .ok (.iconst 0, 1) := by decide +kernel
theorem d88_1 : decode (tBc 88) 1 = .ok (.istore_n 3, 1) := by decide +kernel
theorem d88_2 : decode (tBc 88) 2 = .ok (.iload_n 3, 1) := by decide +kernel
theorem d88_3 : decode (tBc 88) 3 = .ok (.aload_n 0, 1) := by decide +kernel
theorem d88_4 : decode (tBc 88) 4 = .ok (.getfield 27, 3) := by decide +kernel
theorem d88_7 : decode (tBc 88) 7 = .ok (.if_icmp .ge 26, 3) := by decide +kernel
theorem d88_10 : decode (tBc 88) 10 = .ok (.aload_n 0, 1) := by decide +kernel
theorem d88_11 : decode (tBc 88) 11 = .ok (.getfield 15, 3) := by decide +kernel
theorem d88_14 : decode (tBc 88) 14 = .ok (.iload_n 3, 1) := by decide +kernel
theorem d88_15 : decode (tBc 88) 15 = .ok (.iaload, 1) := by decide +kernel
theorem d88_16 : decode (tBc 88) 16 = .ok (.iload_n 1, 1) := by decide +kernel
theorem d88_17 : decode (tBc 88) 17 = .ok (.if_icmp .ne 10, 3) := by decide +kernel
theorem d88_20 : decode (tBc 88) 20 = .ok (.aload_n 0, 1) := by decide +kernel
theorem d88_21 : decode (tBc 88) 21 = .ok (.getfield 15, 3) := by decide +kernel
theorem d88_24 : decode (tBc 88) 24 = .ok (.iload_n 3, 1) := by decide +kernel
theorem d88_25 : decode (tBc 88) 25 = .ok (.iload_n 2, 1) := by decide +kernel
theorem d88_26 : decode (tBc 88) 26 = .ok (.iastore, 1) := by decide +kernel
theorem d88_27 : decode (tBc 88) 27 = .ok (.iinc 3 1, 3) := by decide +kernel
theorem d88_30 : decode (tBc 88) 30 = .ok (.goto (-28), 3) := by decide +kernel
theorem d88_33 : decode (tBc 88) 33 = .ok (.return_, 1) := by decide +kernel
theorem d163_0 : decode (tBc 163) 0 = .ok (.iload_n 0, 1) := by decide +kernel
theorem d163_1 : decode (tBc 163) 1 = .ok (.iload_n 1, 1) := by decide +kernel
theorem d163_2 : decode (tBc 163) 2 = .ok (.if_icmp .lt 7, 3) := by decide +kernel
theorem d163_5 : decode (tBc 163) 5 = .ok (.iload_n 0, 1) := by decide +kernel
theorem d163_6 : decode (tBc 163) 6 = .ok (.goto 4, 3) := by decide +kernel
theorem d163_9 : decode (tBc 163) 9 = .ok (.iload_n 1, 1) := by decide +kernel
theorem d163_10 : decode (tBc 163) 10 = .ok (.ireturn, 1) := by decide +kernel
theorem d164_0 : decode (tBc 164) 0 = .ok (.iload_n 0, 1) := by decide +kernel
theorem d164_1 : decode (tBc 164) 1 = .ok (.iload_n 1, 1) := by decide +kernel
theorem d164_2 : decode (tBc 164) 2 = .ok (.if_icmp .gt 7, 3) := by decide +kernel
theorem d164_5 : decode (tBc 164) 5 = .ok (.iload_n 0, 1) := by decide +kernel
theorem d164_6 : decode (tBc 164) 6 = .ok (.goto 4, 3) := by decide +kernel
theorem d164_9 : decode (tBc 164) 9 = .ok (.iload_n 1, 1) := by decide +kernel
theorem d164_10 : decode (tBc 164) 10 = .ok (.ireturn, 1) := by decide +kernel
theorem d165_0 : decode (tBc 165) 0 = .ok (.iload_n 0, 1) := by decide +kernel
theorem d165_1 : decode (tBc 165) 1 = .ok (.iload_n 1, 1) := by decide +kernel
theorem d165_2 : decode (tBc 165) 2 = .ok (.if_icmp .ge 7, 3) := by decide +kernel
theorem d165_5 : decode (tBc 165) 5 = .ok (.iconst (-1), 1) := by decide +kernel
theorem d165_6 : decode (tBc 165) 6 = .ok (.goto 13, 3) := by decide +kernel
theorem d165_9 : decode (tBc 165) 9 = .ok (.iload_n 0, 1) := by decide +kernel
theorem d165_10 : decode (tBc 165) 10 = .ok (.iload_n 1, 1) := by decide +kernel
theorem d165_11 : decode (tBc 165) 11 = .ok (.if_icmp .ne 7, 3) := by decide +kernel
theorem d165_14 : decode (tBc 165) 14 = .ok (.iconst 0, 1) := by decide +kernel
theorem d165_15 : decode (tBc 165) 15 = .ok (.goto 4, 3) := by decide +kernel
theorem d165_18 : decode (tBc 165) 18 = .ok (.iconst 1, 1) := by decide +kernel
theorem d165_19 : decode (tBc 165) 19 = .ok (.ireturn, 1) := by decide +kernel
theorem d166_0 : decode (tBc 166) 0 = .ok (.aload_n 0, 1) := by decide +kernel
theorem d166_1 : decode (tBc 166) 1 = .ok (.iload_n 1, 1) := by decide +kernel
theorem d166_2 : decode (tBc 166) 2 = .ok (.iconst 0, 1) := by decide +kernel
theorem d166_3 : decode (tBc 166) 3 = .ok (.invokevirtual 633, 3) := by decide +kernel
theorem d166_6 : decode (tBc 166) 6 = .ok (.ireturn, 1) := by decide +kernel
theorem d167_0 : decode (tBc 167) 0 = .ok (.aload_n 0, 1) := by decide +kernel
theorem d167_1 : decode (tBc 167) 1 = .ok (.invokevirtual 492, 3) := by decide +kernel
theorem d167_4 : decode (tBc 167) 4 = .ok (.ifCond .eq 19, 3) := by decide +kernel
theorem d167_7 : decode (tBc 167) 7 = .ok (.aload_n 0, 1) := by decide +kernel
theorem d167_8 : decode (tBc 167) 8 = .ok (.getfield 9, 3) := by decide +kernel
theorem d167_11 : decode (tBc 167) 11 = .ok (.iload_n 1, 1) := by decide +kernel
theorem d167_12 : decode (tBc 167) 12 = .ok (.iload_n 2, 1) := by decide +kernel
theorem d167_13 : decode (tBc 167) 13 = .ok (.aload_n 0, 1) := by decide +kernel
theorem d167_14 : decode (tBc 167) 14 = .ok (.invokevirtual 505, 3) := by decide +kernel
theorem d167_17 : decode (tBc 167) 17 = .ok (.invokestatic 637, 3) := by decide +kernel
theorem d167_20 : decode (tBc 167) 20 = .ok (.goto 16, 3) := by decide +kernel
theorem d167_23 : decode (tBc 167) 23 = .ok (.aload_n 0, 1) := by decide +kernel
theorem d167_24 : decode (tBc 167) 24 = .ok (.getfield 9, 3) := by decide +kernel
theorem d167_27 : decode (tBc 167) 27 = .ok (.iload_n 1, 1) := by decide +kernel
theorem d167_28 : decode (tBc 167) 28 = .ok (.iload_n 2, 1) := by decide +kernel
theorem d167_29 : decode (tBc 167) 29 = .ok (.aload_n 0, 1) := by decide +kernel
theorem d167_30 : decode (tBc 167) 30 = .ok (.invokevirtual 505, 3) := by decide +kernel
theorem d167_33 : decode (tBc 167) 33 = .ok (.invokestatic 640, 3) := by decide +kernel
theorem d167_36 : decode (tBc 167) 36 = .ok (.ireturn, 1) := by decide +kernel
theorem d168_0 : decode (tBc 168) 0 = .ok (.getstatic 38, 3) := by decide +kernel
theorem d168_3 : decode (tBc 168) 3 = .ok (.ifCond .eq 14, 3) := by decide +kernel
theorem d168_6 : decode (tBc 168) 6 = .ok (.aload_n 0, 1) := by decide +kernel
theorem d168_7 : decode (tBc 168) 7 = .ok (.getfield 15, 3) := by decide +kernel
theorem d168_10 : decode (tBc 168) 10 = .ok (.ifCond .ne 7, 3) := by decide +kernel
theorem d168_13 : decode (tBc 168) 13 = .ok (.iconst 1, 1) := by decide +kernel
theorem d168_14 : decode (tBc 168) 14 = .ok (.goto 4, 3) := by decide +kernel
theorem d168_17 : decode (tBc 168) 17 = .ok (.iconst 0, 1) := by decide +kernel
theorem d168_18 : decode (tBc 168) 18 = .ok (.ireturn, 1) := by decide +kernel
theorem d169_0 : decode (tBc 169) 0 = .ok (.aload_n 0, 1) := by decide +kernel
theorem d169_1 : decode (tBc 169) 1 = .ok (.getfield 9, 3) := by decide +kernel
theorem d169_4 : decode (tBc 169) 4 = .ok (.arraylength, 1) := by decide +kernel
theorem d169_5 : decode (tBc 169) 5 = .ok (.aload_n 0, 1) := by decide +kernel
theorem d169_6 : decode (tBc 169) 6 = .ok (.invokevirtual 335, 3) := by decide +kernel
theorem d169_9 : decode (tBc 169) 9 = .ok (.ishr, 1) := by decide +kernel
theorem d169_10 : decode (tBc 169) 10 = .ok (.ireturn, 1) := by decide +kernel
theorem d170_0 : decode (tBc 170) 0 = .ok (.getstatic 38, 3) := by decide +kernel
theorem d170_3 : decode (tBc 170) 3 = .ok (.ifCond .eq 10, 3) := by decide +kernel
theorem d170_6 : decode (tBc 170) 6 = .ok (.aload_n 0, 1) := by decide +kernel
theorem d170_7 : decode (tBc 170) 7 = .ok (.getfield 15, 3) := by decide +kernel
theorem d170_10 : decode (tBc 170) 10 = .ok (.goto 4, 3) := by decide +kernel
theorem d170_13 : decode (tBc 170) 13 = .ok (.iconst 1, 1) := by decide +kernel
theorem d170_14 : decode (tBc 170) 14 = .ok (.ireturn, 1) := by decide +kernel
theorem d171_0 : decode (tBc 171) 0 = .ok (.aload_n 0, 1) := by decide +kernel
theorem d171_1 : decode (tBc 171) 1 = .ok (.invokevirtual 492, 3) := by decide +kernel
theorem d171_4 : decode (tBc 171) 4 = .ok (.ifCond .eq 12, 3) := by decide +kernel
theorem d171_7 : decode (tBc 171) 7 = .ok (.aload_n 0, 1) := by decide +kernel
theorem d171_8 : decode (tBc 171) 8 = .ok (.getfield 9, 3) := by decide +kernel
theorem d171_11 : decode (tBc 171) 11 = .ok (.iload_n 1, 1) := by decide +kernel
theorem d171_12 : decode (tBc 171) 12 = .ok (.invokestatic 495, 3) := by decide +kernel
theorem d171_15 : decode (tBc 171) 15 = .ok (.ireturn, 1) := by decide +kernel
theorem d171_16 : decode (tBc 171) 16 = .ok (.aload_n 0, 1) := by decide +kernel
theorem d171_17 : decode (tBc 171) 17 = .ok (.getfield 9, 3) := by decide +kernel
theorem d171_20 : decode (tBc 171) 20 = .ok (.iload_n 1, 1) := by decide +kernel
theorem d171_21 : decode (tBc 171) 21 = .ok (.invokestatic 498, 3) := by decide +kernel
theorem d171_24 : decode (tBc 171) 24 = .ok (.ireturn, 1) := by decide +kernel
theorem d172_0 : decode (tBc 172) 0 = .ok (.iload_n 0, 1) := by decide +kernel
theorem d172_1 : decode (tBc 172) 1 = .ok (.iload_n 1, 1) := by decide +kernel
theorem d172_2 : decode (tBc 172) 2 = .ok (.getstatic 1053, 3) := by decide +kernel
theorem d172_5 : decode (tBc 172) 5 = .ok (.invokestatic 1059, 3) := by decide +kernel
theorem d172_8 : decode (tBc 172) 8 = .ok (.pop, 1) := by decide +kernel
theorem d172_9 : decode (tBc 172) 9 = .ok (.return_, 1) := by decide +kernel
theorem d173_0 : decode (tBc 173) 0 = .ok (.iload_n 1, 1) := by decide +kernel
theorem d173_1 : decode (tBc 173) 1 = .ok (.invokestatic 88, 3) := by decide +kernel
theorem d173_4 : decode (tBc 173) 4 = .ok (.ifCond .ne 5, 3) := by decide +kernel
theorem d173_7 : decode (tBc 173) 7 = .ok (.iconst (-1), 1) := by decide +kernel
theorem d173_8 : decode (tBc 173) 8 = .ok (.ireturn, 1) := by decide +kernel
theorem d173_9 : decode (tBc 173) 9 = .ok (.iload_n 2, 1) := by decide +kernel
theorem d173_10 : decode (tBc 173) 10 = .ok (.iconst 0, 1) := by decide +kernel
theorem d173_11 : decode (tBc 173) 11 = .ok (.invokestatic 92, 3) := by decide +kernel
theorem d173_14 : decode (tBc 173) 14 = .ok (.istore_n 2, 1) := by decide +kernel
theorem d173_15 : decode (tBc 173) 15 = .ok (.iload_n 3, 1) := by decide +kernel
theorem d173_16 : decode (tBc 173) 16 = .ok (.aload_n 0, 1) := by decide +kernel
theorem d173_17 : decode (tBc 173) 17 = .ok (.arraylength, 1) := by decide +kernel
theorem d173_18 : decode (tBc 173) 18 = .ok (.invokestatic 38, 3) := by decide +kernel
theorem d173_21 : decode (tBc 173) 21 = .ok (.istore_n 3, 1) := by decide +kernel
theorem d173_22 : decode (tBc 173) 22 = .ok (.iload_n 2, 1) := by decide +kernel
theorem d173_23 : decode (tBc 173) 23 = .ok (.iload_n 3, 1) := by decide +kernel
theorem d173_24 : decode (tBc 173) 24 = .ok (.if_icmp .lt 5, 3) := by decide +kernel
theorem d173_27 : decode (tBc 173) 27 = .ok (.iconst (-1), 1) := by decide +kernel
theorem d173_28 : decode (tBc 173) 28 = .ok (.ireturn, 1) := by decide +kernel
theorem d173_29 : decode (tBc 173) 29 = .ok (.aload_n 0, 1) := by decide +kernel
theorem d173_30 : decode (tBc 173) 30 = .ok (.iload_n 1, 1) := by decide +kernel
theorem d173_31 : decode (tBc 173) 31 = .ok (.iload_n 2, 1) := by decide +kernel
theorem d173_32 : decode (tBc 173) 32 = .ok (.iload_n 3, 1) := by decide +kernel
theorem d173_33 : decode (tBc 173) 33 = .ok (.invokestatic 95, 3) := by decide +kernel
theorem d173_36 : decode (tBc 173) 36 = .ok (.ireturn, 1) := by decide +kernel
theorem d174_0 : decode (tBc 174) 0 = .ok (.iload_n 0, 1) := by decide +kernel
theorem d174_1 : decode (tBc 174) 1 = .ok (.ifCond .lt 14, 3) := by decide +kernel
theorem d174_4 : decode (tBc 174) 4 = .ok (.iload_n 0, 1) := by decide +kernel
theorem d174_5 : decode (tBc 174) 5 = .ok (.sipush 255, 3) := by decide +kernel
theorem d174_8 : decode (tBc 174) 8 = .ok (.if_icmp .gt 7, 3) := by decide +kernel
theorem d174_11 : decode (tBc 174) 11 = .ok (.iconst 1, 1) := by decide +kernel
theorem d174_12 : decode (tBc 174) 12 = .ok (.goto 4, 3) := by decide +kernel
theorem d174_15 : decode (tBc 174) 15 = .ok (.iconst 0, 1) := by decide +kernel
theorem d174_16 : decode (tBc 174) 16 = .ok (.ireturn, 1) := by decide +kernel
theorem d175_0 : decode (tBc 175) 0 = .ok (.iload_n 1, 1) := by decide +kernel
theorem d175_1 : decode (tBc 175) 1 = .ok (.i2b, 1) := by decide +kernel
theorem d175_2 : decode (tBc 175) 2 = .ok (.istore 4, 2) := by decide +kernel
theorem d175_4 : decode (tBc 175) 4 = .ok (.iload_n 2, 1) := by decide +kernel
theorem d175_5 : decode (tBc 175) 5 = .ok (.istore 5, 2) := by decide +kernel
theorem d175_7 : decode (tBc 175) 7 = .ok (.iload 5, 2) := by decide +kernel
theorem d175_9 : decode (tBc 175) 9 = .ok (.iload_n 3, 1) := by decide +kernel
theorem d175_10 : decode (tBc 175) 10 = .ok (.if_icmp .ge 21, 3) := by decide +kernel
theorem d175_13 : decode (tBc 175) 13 = .ok (.aload_n 0, 1) := by decide +kernel
theorem d175_14 : decode (tBc 175) 14 = .ok (.iload 5, 2) := by decide +kernel
theorem d175_16 : decode (tBc 175) 16 = .ok (.baload, 1) := by decide +kernel
theorem d175_17 : decode (tBc 175) 17 = .ok (.iload 4, 2) := by decide +kernel
theorem d175_19 : decode (tBc 175) 19 = .ok (.if_icmp .ne 6, 3) := by decide +kernel
theorem d175_22 : decode (tBc 175) 22 = .ok (.iload 5, 2) := by decide +kernel
theorem d175_24 : decode (tBc 175) 24 = .ok (.ireturn, 1) := by decide +kernel
theorem d175_25 : decode (tBc 175) 25 = .ok (.iinc 5 1, 3) := by decide +kernel
theorem d175_28 : decode (tBc 175) 28 = .ok (.goto (-21), 3) := by decide +kernel
theorem d175_31 : decode (tBc 175) 31 = .ok (.iconst (-1), 1) := by decide +kernel
theorem d175_32 : decode (tBc 175) 32 = .ok (.ireturn, 1) := by decide +kernel
theorem d176_0 : decode (tBc 176) 0 = .ok (.iload_n 1, 1) := by decide +kernel
theorem d176_1 : decode (tBc 176) 1 = .ok (.aload_n 0, 1) := by decide +kernel
theorem d176_2 : decode (tBc 176) 2 = .ok (.arraylength, 1) := by decide +kernel
theorem d176_3 : decode (tBc 176) 3 = .ok (.invokestatic 9, 3) := by decide +kernel
theorem d176_6 : decode (tBc 176) 6 = .ok (.aload_n 0, 1) := by decide +kernel
theorem d176_7 : decode (tBc 176) 7 = .ok (.iload_n 1, 1) := by decide +kernel
theorem d176_8 : decode (tBc 176) 8 = .ok (.baload, 1) := by decide +kernel
theorem d176_9 : decode (tBc 176) 9 = .ok (.sipush 255, 3) := by decide +kernel
theorem d176_12 : decode (tBc 176) 12 = .ok (.iand, 1) := by decide +kernel
theorem d176_13 : decode (tBc 176) 13 = .ok (.i2c, 1) := by decide +kernel
theorem d176_14 : decode (tBc 176) 14 = .ok (.ireturn, 1) := by decide +kernel
theorem d177_0 : decode (tBc 177) 0 = .ok (.iload_n 0, 1) := by decide +kernel
theorem d177_1 : decode (tBc 177) 1 = .ok (.ifCond .lt 8, 3) := by decide +kernel
theorem d177_4 : decode (tBc 177) 4 = .ok (.iload_n 0, 1) := by decide +kernel
theorem d177_5 : decode (tBc 177) 5 = .ok (.iload_n 1, 1) := by decide +kernel
theorem d177_6 : decode (tBc 177) 6 = .ok (.if_icmp .lt 10, 3) := by decide +kernel
theorem d177_9 : decode (tBc 177) 9 = .ok (.aload_n 2, 1) := by decide +kernel
theorem d177_10 : decode (tBc 177) 10 = .ok (.iload_n 0, 1) := by decide +kernel
theorem d177_11 : decode (tBc 177) 11 = .ok (.iload_n 1, 1) := by decide +kernel
theorem d177_12 : decode (tBc 177) 12 = .ok (.invokestatic 95, 3) := by decide +kernel
theorem d177_15 : decode (tBc 177) 15 = .ok (.athrow, 1) := by decide +kernel
theorem d177_16 : decode (tBc 177) 16 = .ok (.iload_n 0, 1) := by decide +kernel
theorem d177_17 : decode (tBc 177) 17 = .ok (.ireturn, 1) := by decide +kernel
