/-! Rows that decode each instruction. Written by wip/whole/gen/mktab.py. -/
theorem d151_0 : decode (tBc 151) 0 = .ok (.aload 4, 2) := by decide +kernel
theorem d151_2 : decode (tBc 151) 2 = .ok (.iconst 0, 1) := by decide +kernel
theorem d151_3 : decode (tBc 151) 3 = .ok (.aload_n 0, 1) := by decide +kernel
theorem d151_4 : decode (tBc 151) 4 = .ok (.lload_n 1, 1) := by decide +kernel
theorem d151_5 : decode (tBc 151) 5 = .ok (.iload_n 3, 1) := by decide +kernel
theorem d151_6 : decode (tBc 151) 6 = .ok (.invokevirtual 7, 3) := by decide +kernel
theorem d151_9 : decode (tBc 151) 9 = .ok (.i2l, 1) := by decide +kernel
theorem d151_10 : decode (tBc 151) 10 = .ok (.lastore, 1) := by decide +kernel
theorem d151_11 : decode (tBc 151) 11 = .ok (.goto 11, 3) := by decide +kernel
theorem d151_14 : decode (tBc 151) 14 = .ok (.astore 5, 2) := by decide +kernel
theorem d151_16 : decode (tBc 151) 16 = .ok (.iconst 1, 1) := by decide +kernel
theorem d151_17 : decode (tBc 151) 17 = .ok (.ireturn, 1) := by decide +kernel
theorem d151_18 : decode (tBc 151) 18 = .ok (.astore 5, 2) := by decide +kernel
theorem d151_20 : decode (tBc 151) 20 = .ok (.iconst 2, 1) := by decide +kernel
theorem d151_21 : decode (tBc 151) 21 = .ok (.ireturn, 1) := by decide +kernel
theorem d151_22 : decode (tBc 151) 22 = .ok (.iconst 0, 1) := by decide +kernel
theorem d151_23 : decode (tBc 151) 23 = .ok (.ireturn, 1) := by decide +kernel
theorem d152_0 : decode (tBc 152) 0 = .ok (.aload_n 1, 1) := by decide +kernel
theorem d152_1 : decode (tBc 152) 1 = .ok (.iconst 0, 1) := by decide +kernel
theorem d152_2 : decode (tBc 152) 2 = .ok (.aload_n 0, 1) := by decide +kernel
theorem d152_3 : decode (tBc 152) 3 = .ok (.invokevirtual 17, 3) := by decide +kernel
theorem d152_6 : decode (tBc 152) 6 = .ok (.i2l, 1) := by decide +kernel
theorem d152_7 : decode (tBc 152) 7 = .ok (.lastore, 1) := by decide +kernel
theorem d152_8 : decode (tBc 152) 8 = .ok (.goto 12, 3) := by decide +kernel
theorem d152_11 : decode (tBc 152) 11 = .ok (.astore_n 2, 1) := by decide +kernel
theorem d152_12 : decode (tBc 152) 12 = .ok (.iconst 1, 1) := by decide +kernel
theorem d152_13 : decode (tBc 152) 13 = .ok (.ireturn, 1) := by decide +kernel
theorem d152_14 : decode (tBc 152) 14 = .ok (.astore_n 2, 1) := by decide +kernel
theorem d152_15 : decode (tBc 152) 15 = .ok (.iconst 2, 1) := by decide +kernel
theorem d152_16 : decode (tBc 152) 16 = .ok (.ireturn, 1) := by decide +kernel
theorem d152_17 : decode (tBc 152) 17 = .ok (.astore_n 2, 1) := by decide +kernel
theorem d152_18 : decode (tBc 152) 18 = .ok (.iconst 3, 1) := by decide +kernel
theorem d152_19 : decode (tBc 152) 19 = .ok (.ireturn, 1) := by decide +kernel
theorem d152_20 : decode (tBc 152) 20 = .ok (.iconst 0, 1) := by decide +kernel
theorem d152_21 : decode (tBc 152) 21 = .ok (.ireturn, 1) := by decide +kernel
theorem d153_0 : decode (tBc 153) 0 = .ok (.aload_n 3, 1) := by decide +kernel
theorem d153_1 : decode (tBc 153) 1 = .ok (.iconst 0, 1) := by decide +kernel
theorem d153_2 : decode (tBc 153) 2 = .ok (.aload_n 0, 1) := by decide +kernel
theorem d153_3 : decode (tBc 153) 3 = .ok (.iload_n 1, 1) := by decide +kernel
theorem d153_4 : decode (tBc 153) 4 = .ok (.iload_n 2, 1) := by decide +kernel
theorem d153_5 : decode (tBc 153) 5 = .ok (.invokevirtual 23, 3) := by decide +kernel
theorem d153_8 : decode (tBc 153) 8 = .ok (.i2l, 1) := by decide +kernel
theorem d153_9 : decode (tBc 153) 9 = .ok (.lastore, 1) := by decide +kernel
theorem d153_10 : decode (tBc 153) 10 = .ok (.goto 7, 3) := by decide +kernel
theorem d153_13 : decode (tBc 153) 13 = .ok (.astore 4, 2) := by decide +kernel
theorem d153_15 : decode (tBc 153) 15 = .ok (.iconst 1, 1) := by decide +kernel
theorem d153_16 : decode (tBc 153) 16 = .ok (.ireturn, 1) := by decide +kernel
theorem d153_17 : decode (tBc 153) 17 = .ok (.iconst 0, 1) := by decide +kernel
theorem d153_18 : decode (tBc 153) 18 = .ok (.ireturn, 1) := by decide +kernel
theorem d154_0 : decode (tBc 154) 0 = .ok (.aload_n 2, 1) := by decide +kernel
theorem d154_1 : decode (tBc 154) 1 = .ok (.iconst 0, 1) := by decide +kernel
theorem d154_2 : decode (tBc 154) 2 = .ok (.aload_n 0, 1) := by decide +kernel
theorem d154_3 : decode (tBc 154) 3 = .ok (.iload_n 1, 1) := by decide +kernel
theorem d154_4 : decode (tBc 154) 4 = .ok (.invokevirtual 29, 3) := by decide +kernel
theorem d154_7 : decode (tBc 154) 7 = .ok (.i2l, 1) := by decide +kernel
theorem d154_8 : decode (tBc 154) 8 = .ok (.lastore, 1) := by decide +kernel
theorem d154_9 : decode (tBc 154) 9 = .ok (.goto 9, 3) := by decide +kernel
theorem d154_12 : decode (tBc 154) 12 = .ok (.astore_n 3, 1) := by decide +kernel
theorem d154_13 : decode (tBc 154) 13 = .ok (.iconst 1, 1) := by decide +kernel
theorem d154_14 : decode (tBc 154) 14 = .ok (.ireturn, 1) := by decide +kernel
theorem d154_15 : decode (tBc 154) 15 = .ok (.astore_n 3, 1) := by decide +kernel
theorem d154_16 : decode (tBc 154) 16 = .ok (.iconst 2, 1) := by decide +kernel
theorem d154_17 : decode (tBc 154) 17 = .ok (.ireturn, 1) := by decide +kernel
theorem d154_18 : decode (tBc 154) 18 = .ok (.iconst 0, 1) := by decide +kernel
theorem d154_19 : decode (tBc 154) 19 = .ok (.ireturn, 1) := by decide +kernel
theorem d155_0 : decode (tBc 155) 0 = .ok (.aload_n 2, 1) := by decide +kernel
theorem d155_1 : decode (tBc 155) 1 = .ok (.iconst 0, 1) := by decide +kernel
theorem d155_2 : decode (tBc 155) 2 = .ok (.aload_n 0, 1) := by decide +kernel
theorem d155_3 : decode (tBc 155) 3 = .ok (.iload_n 1, 1) := by decide +kernel
theorem d155_4 : decode (tBc 155) 4 = .ok (.invokevirtual 33, 3) := by decide +kernel
theorem d155_7 : decode (tBc 155) 7 = .ok (.i2l, 1) := by decide +kernel
theorem d155_8 : decode (tBc 155) 8 = .ok (.lastore, 1) := by decide +kernel
theorem d155_9 : decode (tBc 155) 9 = .ok (.goto 9, 3) := by decide +kernel
theorem d155_12 : decode (tBc 155) 12 = .ok (.astore_n 3, 1) := by decide +kernel
theorem d155_13 : decode (tBc 155) 13 = .ok (.iconst 1, 1) := by decide +kernel
theorem d155_14 : decode (tBc 155) 14 = .ok (.ireturn, 1) := by decide +kernel
theorem d155_15 : decode (tBc 155) 15 = .ok (.astore_n 3, 1) := by decide +kernel
theorem d155_16 : decode (tBc 155) 16 = .ok (.iconst 2, 1) := by decide +kernel
theorem d155_17 : decode (tBc 155) 17 = .ok (.ireturn, 1) := by decide +kernel
theorem d155_18 : decode (tBc 155) 18 = .ok (.iconst 0, 1) := by decide +kernel
theorem d155_19 : decode (tBc 155) 19 = .ok (.ireturn, 1) := by decide +kernel
theorem d156_0 : decode (tBc 156) 0 = .ok (.aload_n 2, 1) := by decide +kernel
theorem d156_1 : decode (tBc 156) 1 = .ok (.iconst 0, 1) := by decide +kernel
theorem d156_2 : decode (tBc 156) 2 = .ok (.aload_n 0, 1) := by decide +kernel
theorem d156_3 : decode (tBc 156) 3 = .ok (.iload_n 1, 1) := by decide +kernel
theorem d156_4 : decode (tBc 156) 4 = .ok (.invokevirtual 36, 3) := by decide +kernel
theorem d156_7 : decode (tBc 156) 7 = .ok (.i2l, 1) := by decide +kernel
theorem d156_8 : decode (tBc 156) 8 = .ok (.lastore, 1) := by decide +kernel
theorem d156_9 : decode (tBc 156) 9 = .ok (.goto 6, 3) := by decide +kernel
theorem d156_12 : decode (tBc 156) 12 = .ok (.astore_n 3, 1) := by decide +kernel
theorem d156_13 : decode (tBc 156) 13 = .ok (.iconst 1, 1) := by decide +kernel
theorem d156_14 : decode (tBc 156) 14 = .ok (.ireturn, 1) := by decide +kernel
theorem d156_15 : decode (tBc 156) 15 = .ok (.iconst 0, 1) := by decide +kernel
theorem d156_16 : decode (tBc 156) 16 = .ok (.ireturn, 1) := by decide +kernel
theorem d157_0 : decode (tBc 157) 0 = .ok (.aload_n 2, 1) := by decide +kernel
theorem d157_1 : decode (tBc 157) 1 = .ok (.iconst 0, 1) := by decide +kernel
theorem d157_2 : decode (tBc 157) 2 = .ok (.aload_n 0, 1) := by decide +kernel
theorem d157_3 : decode (tBc 157) 3 = .ok (.iload_n 1, 1) := by decide +kernel
theorem d157_4 : decode (tBc 157) 4 = .ok (.invokevirtual 39, 3) := by decide +kernel
theorem d157_7 : decode (tBc 157) 7 = .ok (.i2l, 1) := by decide +kernel
theorem d157_8 : decode (tBc 157) 8 = .ok (.lastore, 1) := by decide +kernel
theorem d157_9 : decode (tBc 157) 9 = .ok (.goto 6, 3) := by decide +kernel
theorem d157_12 : decode (tBc 157) 12 = .ok (.astore_n 3, 1) := by decide +kernel
theorem d157_13 : decode (tBc 157) 13 = .ok (.iconst 1, 1) := by decide +kernel
theorem d157_14 : decode (tBc 157) 14 = .ok (.ireturn, 1) := by decide +kernel
theorem d157_15 : decode (tBc 157) 15 = .ok (.iconst 0, 1) := by decide +kernel
theorem d157_16 : decode (tBc 157) 16 = .ok (.ireturn, 1) := by decide +kernel
theorem d158_0 : decode (tBc 158) 0 = .ok (.aload_n 2, 1) := by decide +kernel
theorem d158_1 : decode (tBc 158) 1 = .ok (.iconst 0, 1) := by decide +kernel
theorem d158_2 : decode (tBc 158) 2 = .ok (.aload_n 0, 1) := by decide +kernel
theorem d158_3 : decode (tBc 158) 3 = .ok (.iload_n 1, 1) := by decide +kernel
theorem d158_4 : decode (tBc 158) 4 = .ok (.invokevirtual 42, 3) := by decide +kernel
theorem d158_7 : decode (tBc 158) 7 = .ok (.i2l, 1) := by decide +kernel
theorem d158_8 : decode (tBc 158) 8 = .ok (.lastore, 1) := by decide +kernel
theorem d158_9 : decode (tBc 158) 9 = .ok (.goto 6, 3) := by decide +kernel
theorem d158_12 : decode (tBc 158) 12 = .ok (.astore_n 3, 1) := by decide +kernel
theorem d158_13 : decode (tBc 158) 13 = .ok (.iconst 1, 1) := by decide +kernel
theorem d158_14 : decode (tBc 158) 14 = .ok (.ireturn, 1) := by decide +kernel
theorem d158_15 : decode (tBc 158) 15 = .ok (.iconst 0, 1) := by decide +kernel
theorem d158_16 : decode (tBc 158) 16 = .ok (.ireturn, 1) := by decide +kernel
theorem d159_0 : decode (tBc 159) 0 = .ok (.aload_n 2, 1) := by decide +kernel
theorem d159_1 : decode (tBc 159) 1 = .ok (.iconst 0, 1) := by decide +kernel
theorem d159_2 : decode (tBc 159) 2 = .ok (.aload_n 0, 1) := by decide +kernel
theorem d159_3 : decode (tBc 159) 3 = .ok (.iload_n 1, 1) := by decide +kernel
theorem d159_4 : decode (tBc 159) 4 = .ok (.invokevirtual 45, 3) := by decide +kernel
theorem d159_7 : decode (tBc 159) 7 = .ok (.ifCond .eq 7, 3) := by decide +kernel
theorem d159_10 : decode (tBc 159) 10 = .ok (.lconst 1, 1) := by decide +kernel
theorem d159_11 : decode (tBc 159) 11 = .ok (.goto 4, 3) := by decide +kernel
theorem d159_14 : decode (tBc 159) 14 = .ok (.lconst 0, 1) := by decide +kernel
theorem d159_15 : decode (tBc 159) 15 = .ok (.lastore, 1) := by decide +kernel
theorem d159_16 : decode (tBc 159) 16 = .ok (.goto 9, 3) := by decide +kernel
theorem d159_19 : decode (tBc 159) 19 = .ok (.astore_n 3, 1) := by decide +kernel
theorem d159_20 : decode (tBc 159) 20 = .ok (.iconst 1, 1) := by decide +kernel
theorem d159_21 : decode (tBc 159) 21 = .ok (.ireturn, 1) := by decide +kernel
theorem d159_22 : decode (tBc 159) 22 = .ok (.astore_n 3, 1) := by decide +kernel
theorem d159_23 : decode (tBc 159) 23 = .ok (.iconst 2, 1) := by decide +kernel
theorem d159_24 : decode (tBc 159) 24 = .ok (.ireturn, 1) := by decide +kernel
theorem d159_25 : decode (tBc 159) 25 = .ok (.iconst 0, 1) := by decide +kernel
theorem d159_26 : decode (tBc 159) 26 = .ok (.ireturn, 1) := by decide +kernel
theorem d160_0 : decode (tBc 160) 0 = .ok (.aload_n 3, 1) := by decide +kernel
theorem d160_1 : decode (tBc 160) 1 = .ok (.iconst 0, 1) := by decide +kernel
theorem d160_2 : decode (tBc 160) 2 = .ok (.aload_n 0, 1) := by decide +kernel
theorem d160_3 : decode (tBc 160) 3 = .ok (.iload_n 1, 1) := by decide +kernel
theorem d160_4 : decode (tBc 160) 4 = .ok (.iload_n 2, 1) := by decide +kernel
theorem d160_5 : decode (tBc 160) 5 = .ok (.invokevirtual 51, 3) := by decide +kernel
theorem d160_8 : decode (tBc 160) 8 = .ok (.ifCond .eq 7, 3) := by decide +kernel
theorem d160_11 : decode (tBc 160) 11 = .ok (.lconst 1, 1) := by decide +kernel
theorem d160_12 : decode (tBc 160) 12 = .ok (.goto 4, 3) := by decide +kernel
theorem d160_15 : decode (tBc 160) 15 = .ok (.lconst 0, 1) := by decide +kernel
theorem d160_16 : decode (tBc 160) 16 = .ok (.lastore, 1) := by decide +kernel
theorem d160_17 : decode (tBc 160) 17 = .ok (.goto 7, 3) := by decide +kernel
theorem d160_20 : decode (tBc 160) 20 = .ok (.astore 4, 2) := by decide +kernel
theorem d160_22 : decode (tBc 160) 22 = .ok (.iconst 1, 1) := by decide +kernel
theorem d160_23 : decode (tBc 160) 23 = .ok (.ireturn, 1) := by decide +kernel
theorem d160_24 : decode (tBc 160) 24 = .ok (.iconst 0, 1) := by decide +kernel
theorem d160_25 : decode (tBc 160) 25 = .ok (.ireturn, 1) := by decide +kernel
theorem d161_0 : decode (tBc 161) 0 = .ok (.aload 4, 2) := by decide +kernel
theorem d161_2 : decode (tBc 161) 2 = .ok (.iconst 0, 1) := by decide +kernel
theorem d161_3 : decode (tBc 161) 3 = .ok (.aload_n 0, 1) := by decide +kernel
theorem d161_4 : decode (tBc 161) 4 = .ok (.iload_n 1, 1) := by decide +kernel
theorem d161_5 : decode (tBc 161) 5 = .ok (.iload_n 2, 1) := by decide +kernel
theorem d161_6 : decode (tBc 161) 6 = .ok (.iload_n 3, 1) := by decide +kernel
theorem d161_7 : decode (tBc 161) 7 = .ok (.invokevirtual 55, 3) := by decide +kernel
theorem d161_10 : decode (tBc 161) 10 = .ok (.i2l, 1) := by decide +kernel
theorem d161_11 : decode (tBc 161) 11 = .ok (.lastore, 1) := by decide +kernel
theorem d161_12 : decode (tBc 161) 12 = .ok (.goto 7, 3) := by decide +kernel
theorem d161_15 : decode (tBc 161) 15 = .ok (.astore 5, 2) := by decide +kernel
theorem d161_17 : decode (tBc 161) 17 = .ok (.iconst 1, 1) := by decide +kernel
theorem d161_18 : decode (tBc 161) 18 = .ok (.ireturn, 1) := by decide +kernel
theorem d161_19 : decode (tBc 161) 19 = .ok (.iconst 0, 1) := by decide +kernel
theorem d161_20 : decode (tBc 161) 20 = .ok (.ireturn, 1) := by decide +kernel
theorem d162_0 : decode (tBc 162) 0 = .ok (.aload_n 2, 1) := by decide +kernel
theorem d162_1 : decode (tBc 162) 1 = .ok (.iconst 0, 1) := by decide +kernel
theorem d162_2 : decode (tBc 162) 2 = .ok (.aload_n 0, 1) := by decide +kernel
theorem d162_3 : decode (tBc 162) 3 = .ok (.iload_n 1, 1) := by decide +kernel
theorem d162_4 : decode (tBc 162) 4 = .ok (.invokevirtual 59, 3) := by decide +kernel
theorem d162_7 : decode (tBc 162) 7 = .ok (.i2l, 1) := by decide +kernel
theorem d162_8 : decode (tBc 162) 8 = .ok (.lastore, 1) := by decide +kernel
theorem d162_9 : decode (tBc 162) 9 = .ok (.goto 6, 3) := by decide +kernel
theorem d162_12 : decode (tBc 162) 12 = .ok (.astore_n 3, 1) := by decide +kernel
theorem d162_13 : decode (tBc 162) 13 = .ok (.iconst 1, 1) := by decide +kernel
theorem d162_14 : decode (tBc 162) 14 = .ok (.ireturn, 1) := by decide +kernel
theorem d162_15 : decode (tBc 162) 15 = .ok (.iconst 0, 1) := by decide +kernel
theorem d162_16 : decode (tBc 162) 16 = .ok (.ireturn, 1) := by decide +kernel
theorem d178_0 : decode (tBc 178) 0 = .ok (.new 8, 3) := by decide +kernel
theorem d178_3 : decode (tBc 178) 3 = .ok (.dup, 1) := by decide +kernel
theorem d178_4 : decode (tBc 178) 4 = .ok (.invokespecial 62, 3) := by decide +kernel
theorem d178_7 : decode (tBc 178) 7 = .ok (.astore_n 1, 1) := by decide +kernel
theorem d178_8 : decode (tBc 178) 8 = .ok (.new 63, 3) := by decide +kernel
theorem d178_11 : decode (tBc 178) 11 = .ok (.dup, 1) := by decide +kernel
theorem d178_12 : decode (tBc 178) 12 = .ok (.invokespecial 65, 3) := by decide +kernel
theorem d178_15 : decode (tBc 178) 15 = .ok (.astore_n 2, 1) := by decide +kernel
theorem d178_16 : decode (tBc 178) 16 = .ok (.iconst 1, 1) := by decide +kernel
theorem d178_17 : decode (tBc 178) 17 = .ok (.newarray .long, 2) := by decide +kernel
theorem d178_19 : decode (tBc 178) 19 = .ok (.astore_n 3, 1) := by decide +kernel
theorem d178_20 : decode (tBc 178) 20 = .ok (.iconst 0, 1) := by decide +kernel
theorem d178_21 : decode (tBc 178) 21 = .ok (.istore 4, 2) := by decide +kernel
theorem d178_23 : decode (tBc 178) 23 = .ok (.iload 4, 2) := by decide +kernel
theorem d178_25 : decode (tBc 178) 25 = .ok (.aload_n 0, 1) := by decide +kernel
theorem d178_26 : decode (tBc 178) 26 = .ok (.arraylength, 1) := by decide +kernel
theorem d178_27 : decode (tBc 178) 27 = .ok (.iconst 4, 1) := by decide +kernel
theorem d178_28 : decode (tBc 178) 28 = .ok (.isub, 1) := by decide +kernel
theorem d178_29 : decode (tBc 178) 29 = .ok (.if_icmp .gt 877, 3) := by decide +kernel
theorem d178_32 : decode (tBc 178) 32 = .ok (.aload_n 0, 1) := by decide +kernel
theorem d178_33 : decode (tBc 178) 33 = .ok (.iload 4, 2) := by decide +kernel
theorem d178_35 : decode (tBc 178) 35 = .ok (.iaload, 1) := by decide +kernel
theorem d178_36 : decode (tBc 178) 36 = .ok (.bipush 15, 2) := by decide +kernel
theorem d178_38 : decode (tBc 178) 38 = .ok (.iand, 1) := by decide +kernel
theorem d178_39 : decode (tBc 178) 39 = .ok (.tableswitch 861 0 13 #[69, 169, 182, 226, 239, 307, 363, 419, 475, 531, 587, 650, 725, 805], 69) := by decide +kernel
theorem d178_108 : decode (tBc 178) 108 = .ok (.aload_n 1, 1) := by decide +kernel
theorem d178_109 : decode (tBc 178) 109 = .ok (.aload_n 0, 1) := by decide +kernel
theorem d178_110 : decode (tBc 178) 110 = .ok (.iload 4, 2) := by decide +kernel
theorem d178_112 : decode (tBc 178) 112 = .ok (.iconst 1, 1) := by decide +kernel
theorem d178_113 : decode (tBc 178) 113 = .ok (.iadd, 1) := by decide +kernel
theorem d178_114 : decode (tBc 178) 114 = .ok (.iaload, 1) := by decide +kernel
theorem d178_115 : decode (tBc 178) 115 = .ok (.i2l, 1) := by decide +kernel
theorem d178_116 : decode (tBc 178) 116 = .ok (.bipush 32, 2) := by decide +kernel
theorem d178_118 : decode (tBc 178) 118 = .ok (.lshl, 1) := by decide +kernel
theorem d178_119 : decode (tBc 178) 119 = .ok (.aload_n 0, 1) := by decide +kernel
theorem d178_120 : decode (tBc 178) 120 = .ok (.iload 4, 2) := by decide +kernel
theorem d178_122 : decode (tBc 178) 122 = .ok (.iconst 2, 1) := by decide +kernel
theorem d178_123 : decode (tBc 178) 123 = .ok (.iadd, 1) := by decide +kernel
theorem d178_124 : decode (tBc 178) 124 = .ok (.iaload, 1) := by decide +kernel
theorem d178_125 : decode (tBc 178) 125 = .ok (.i2l, 1) := by decide +kernel
theorem d178_126 : decode (tBc 178) 126 = .ok (.ldc2_w 66, 3) := by decide +kernel
theorem d178_129 : decode (tBc 178) 129 = .ok (.land, 1) := by decide +kernel
theorem d178_130 : decode (tBc 178) 130 = .ok (.lor, 1) := by decide +kernel
theorem d178_131 : decode (tBc 178) 131 = .ok (.aload_n 0, 1) := by decide +kernel
theorem d178_132 : decode (tBc 178) 132 = .ok (.iload 4, 2) := by decide +kernel
theorem d178_134 : decode (tBc 178) 134 = .ok (.iconst 3, 1) := by decide +kernel
theorem d178_135 : decode (tBc 178) 135 = .ok (.iadd, 1) := by decide +kernel
theorem d178_136 : decode (tBc 178) 136 = .ok (.iaload, 1) := by decide +kernel
theorem d178_137 : decode (tBc 178) 137 = .ok (.aload_n 3, 1) := by decide +kernel
theorem d178_138 : decode (tBc 178) 138 = .ok (.invokestatic 68, 3) := by decide +kernel
theorem d178_141 : decode (tBc 178) 141 = .ok (.istore 5, 2) := by decide +kernel
theorem d178_143 : decode (tBc 178) 143 = .ok (.aload_n 2, 1) := by decide +kernel
theorem d178_144 : decode (tBc 178) 144 = .ok (.aload_n 0, 1) := by decide +kernel
theorem d178_145 : decode (tBc 178) 145 = .ok (.iload 4, 2) := by decide +kernel
theorem d178_147 : decode (tBc 178) 147 = .ok (.iconst 1, 1) := by decide +kernel
theorem d178_148 : decode (tBc 178) 148 = .ok (.iadd, 1) := by decide +kernel
theorem d178_149 : decode (tBc 178) 149 = .ok (.iaload, 1) := by decide +kernel
theorem d178_150 : decode (tBc 178) 150 = .ok (.i2l, 1) := by decide +kernel
theorem d178_151 : decode (tBc 178) 151 = .ok (.bipush 32, 2) := by decide +kernel
theorem d178_153 : decode (tBc 178) 153 = .ok (.lshl, 1) := by decide +kernel
theorem d178_154 : decode (tBc 178) 154 = .ok (.aload_n 0, 1) := by decide +kernel
theorem d178_155 : decode (tBc 178) 155 = .ok (.iload 4, 2) := by decide +kernel
theorem d178_157 : decode (tBc 178) 157 = .ok (.iconst 2, 1) := by decide +kernel
theorem d178_158 : decode (tBc 178) 158 = .ok (.iadd, 1) := by decide +kernel
theorem d178_159 : decode (tBc 178) 159 = .ok (.iaload, 1) := by decide +kernel
theorem d178_160 : decode (tBc 178) 160 = .ok (.i2l, 1) := by decide +kernel
theorem d178_161 : decode (tBc 178) 161 = .ok (.ldc2_w 66, 3) := by decide +kernel
theorem d178_164 : decode (tBc 178) 164 = .ok (.land, 1) := by decide +kernel
theorem d178_165 : decode (tBc 178) 165 = .ok (.lor, 1) := by decide +kernel
theorem d178_166 : decode (tBc 178) 166 = .ok (.aload_n 0, 1) := by decide +kernel
theorem d178_167 : decode (tBc 178) 167 = .ok (.iload 4, 2) := by decide +kernel
theorem d178_169 : decode (tBc 178) 169 = .ok (.iconst 3, 1) := by decide +kernel
theorem d178_170 : decode (tBc 178) 170 = .ok (.iadd, 1) := by decide +kernel
theorem d178_171 : decode (tBc 178) 171 = .ok (.iaload, 1) := by decide +kernel
theorem d178_172 : decode (tBc 178) 172 = .ok (.invokevirtual 73, 3) := by decide +kernel
theorem d178_175 : decode (tBc 178) 175 = .ok (.istore 6, 2) := by decide +kernel
theorem d178_177 : decode (tBc 178) 177 = .ok (.aload_n 2, 1) := by decide +kernel
theorem d178_178 : decode (tBc 178) 178 = .ok (.invokevirtual 74, 3) := by decide +kernel
theorem d178_181 : decode (tBc 178) 181 = .ok (.iload 5, 2) := by decide +kernel
theorem d178_183 : decode (tBc 178) 183 = .ok (.if_icmp .eq 5, 3) := by decide +kernel
theorem d178_186 : decode (tBc 178) 186 = .ok (.iconst 0, 1) := by decide +kernel
theorem d178_187 : decode (tBc 178) 187 = .ok (.ireturn, 1) := by decide +kernel
theorem d178_188 : decode (tBc 178) 188 = .ok (.iload 5, 2) := by decide +kernel
theorem d178_190 : decode (tBc 178) 190 = .ok (.ifCond .ne 15, 3) := by decide +kernel
theorem d178_193 : decode (tBc 178) 193 = .ok (.aload_n 3, 1) := by decide +kernel
theorem d178_194 : decode (tBc 178) 194 = .ok (.iconst 0, 1) := by decide +kernel
theorem d178_195 : decode (tBc 178) 195 = .ok (.laload, 1) := by decide +kernel
theorem d178_196 : decode (tBc 178) 196 = .ok (.iload 6, 2) := by decide +kernel
theorem d178_198 : decode (tBc 178) 198 = .ok (.i2l, 1) := by decide +kernel
theorem d178_199 : decode (tBc 178) 199 = .ok (.lcmp, 1) := by decide +kernel
theorem d178_200 : decode (tBc 178) 200 = .ok (.ifCond .eq 5, 3) := by decide +kernel
theorem d178_203 : decode (tBc 178) 203 = .ok (.iconst 0, 1) := by decide +kernel
theorem d178_204 : decode (tBc 178) 204 = .ok (.ireturn, 1) := by decide +kernel
theorem d178_205 : decode (tBc 178) 205 = .ok (.goto 695, 3) := by decide +kernel
theorem d178_208 : decode (tBc 178) 208 = .ok (.aload_n 1, 1) := by decide +kernel
theorem d178_209 : decode (tBc 178) 209 = .ok (.invokevirtual 77, 3) := by decide +kernel
theorem d178_212 : decode (tBc 178) 212 = .ok (.aload_n 2, 1) := by decide +kernel
theorem d178_213 : decode (tBc 178) 213 = .ok (.invokevirtual 80, 3) := by decide +kernel
theorem d178_216 : decode (tBc 178) 216 = .ok (.if_icmp .eq 684, 3) := by decide +kernel
theorem d178_219 : decode (tBc 178) 219 = .ok (.iconst 0, 1) := by decide +kernel
theorem d178_220 : decode (tBc 178) 220 = .ok (.ireturn, 1) := by decide +kernel
theorem d178_221 : decode (tBc 178) 221 = .ok (.aload_n 1, 1) := by decide +kernel
theorem d178_222 : decode (tBc 178) 222 = .ok (.aload_n 3, 1) := by decide +kernel
theorem d178_223 : decode (tBc 178) 223 = .ok (.invokestatic 81, 3) := by decide +kernel
theorem d178_226 : decode (tBc 178) 226 = .ok (.istore 5, 2) := by decide +kernel
theorem d178_228 : decode (tBc 178) 228 = .ok (.aload_n 2, 1) := by decide +kernel
theorem d178_229 : decode (tBc 178) 229 = .ok (.invokevirtual 84, 3) := by decide +kernel
theorem d178_232 : decode (tBc 178) 232 = .ok (.istore 6, 2) := by decide +kernel
theorem d178_234 : decode (tBc 178) 234 = .ok (.aload_n 2, 1) := by decide +kernel
theorem d178_235 : decode (tBc 178) 235 = .ok (.invokevirtual 74, 3) := by decide +kernel
theorem d178_238 : decode (tBc 178) 238 = .ok (.iload 5, 2) := by decide +kernel
theorem d178_240 : decode (tBc 178) 240 = .ok (.if_icmp .eq 5, 3) := by decide +kernel
theorem d178_243 : decode (tBc 178) 243 = .ok (.iconst 0, 1) := by decide +kernel
theorem d178_244 : decode (tBc 178) 244 = .ok (.ireturn, 1) := by decide +kernel
theorem d178_245 : decode (tBc 178) 245 = .ok (.iload 5, 2) := by decide +kernel
theorem d178_247 : decode (tBc 178) 247 = .ok (.ifCond .ne 15, 3) := by decide +kernel
theorem d178_250 : decode (tBc 178) 250 = .ok (.aload_n 3, 1) := by decide +kernel
theorem d178_251 : decode (tBc 178) 251 = .ok (.iconst 0, 1) := by decide +kernel
theorem d178_252 : decode (tBc 178) 252 = .ok (.laload, 1) := by decide +kernel
theorem d178_253 : decode (tBc 178) 253 = .ok (.iload 6, 2) := by decide +kernel
theorem d178_255 : decode (tBc 178) 255 = .ok (.i2l, 1) := by decide +kernel
theorem d178_256 : decode (tBc 178) 256 = .ok (.lcmp, 1) := by decide +kernel
theorem d178_257 : decode (tBc 178) 257 = .ok (.ifCond .eq 5, 3) := by decide +kernel
theorem d178_260 : decode (tBc 178) 260 = .ok (.iconst 0, 1) := by decide +kernel
theorem d178_261 : decode (tBc 178) 261 = .ok (.ireturn, 1) := by decide +kernel
theorem d178_262 : decode (tBc 178) 262 = .ok (.goto 638, 3) := by decide +kernel
theorem d178_265 : decode (tBc 178) 265 = .ok (.aload_n 1, 1) := by decide +kernel
theorem d178_266 : decode (tBc 178) 266 = .ok (.invokevirtual 85, 3) := by decide +kernel
theorem d178_269 : decode (tBc 178) 269 = .ok (.aload_n 2, 1) := by decide +kernel
theorem d178_270 : decode (tBc 178) 270 = .ok (.invokevirtual 88, 3) := by decide +kernel
theorem d178_273 : decode (tBc 178) 273 = .ok (.if_icmp .eq 627, 3) := by decide +kernel
theorem d178_276 : decode (tBc 178) 276 = .ok (.iconst 0, 1) := by decide +kernel
theorem d178_277 : decode (tBc 178) 277 = .ok (.ireturn, 1) := by decide +kernel
theorem d178_278 : decode (tBc 178) 278 = .ok (.aload_n 1, 1) := by decide +kernel
theorem d178_279 : decode (tBc 178) 279 = .ok (.aload_n 0, 1) := by decide +kernel
theorem d178_280 : decode (tBc 178) 280 = .ok (.iload 4, 2) := by decide +kernel
theorem d178_282 : decode (tBc 178) 282 = .ok (.iconst 1, 1) := by decide +kernel
theorem d178_283 : decode (tBc 178) 283 = .ok (.iadd, 1) := by decide +kernel
theorem d178_284 : decode (tBc 178) 284 = .ok (.iaload, 1) := by decide +kernel
theorem d178_285 : decode (tBc 178) 285 = .ok (.aload_n 0, 1) := by decide +kernel
theorem d178_286 : decode (tBc 178) 286 = .ok (.iload 4, 2) := by decide +kernel
theorem d178_288 : decode (tBc 178) 288 = .ok (.iconst 2, 1) := by decide +kernel
theorem d178_289 : decode (tBc 178) 289 = .ok (.iadd, 1) := by decide +kernel
theorem d178_290 : decode (tBc 178) 290 = .ok (.iaload, 1) := by decide +kernel
theorem d178_291 : decode (tBc 178) 291 = .ok (.aload_n 3, 1) := by decide +kernel
theorem d178_292 : decode (tBc 178) 292 = .ok (.invokestatic 89, 3) := by decide +kernel
theorem d178_295 : decode (tBc 178) 295 = .ok (.istore 5, 2) := by decide +kernel
theorem d178_297 : decode (tBc 178) 297 = .ok (.aload_n 2, 1) := by decide +kernel
theorem d178_298 : decode (tBc 178) 298 = .ok (.aload_n 0, 1) := by decide +kernel
theorem d178_299 : decode (tBc 178) 299 = .ok (.iload 4, 2) := by decide +kernel
theorem d178_301 : decode (tBc 178) 301 = .ok (.iconst 1, 1) := by decide +kernel
theorem d178_302 : decode (tBc 178) 302 = .ok (.iadd, 1) := by decide +kernel
theorem d178_303 : decode (tBc 178) 303 = .ok (.iaload, 1) := by decide +kernel
theorem d178_304 : decode (tBc 178) 304 = .ok (.aload_n 0, 1) := by decide +kernel
theorem d178_305 : decode (tBc 178) 305 = .ok (.iload 4, 2) := by decide +kernel
theorem d178_307 : decode (tBc 178) 307 = .ok (.iconst 2, 1) := by decide +kernel
theorem d178_308 : decode (tBc 178) 308 = .ok (.iadd, 1) := by decide +kernel
theorem d178_309 : decode (tBc 178) 309 = .ok (.iaload, 1) := by decide +kernel
theorem d178_310 : decode (tBc 178) 310 = .ok (.invokevirtual 92, 3) := by decide +kernel
theorem d178_313 : decode (tBc 178) 313 = .ok (.istore 6, 2) := by decide +kernel
theorem d178_315 : decode (tBc 178) 315 = .ok (.aload_n 2, 1) := by decide +kernel
theorem d178_316 : decode (tBc 178) 316 = .ok (.invokevirtual 74, 3) := by decide +kernel
theorem d178_319 : decode (tBc 178) 319 = .ok (.iload 5, 2) := by decide +kernel
theorem d178_321 : decode (tBc 178) 321 = .ok (.if_icmp .eq 5, 3) := by decide +kernel
theorem d178_324 : decode (tBc 178) 324 = .ok (.iconst 0, 1) := by decide +kernel
theorem d178_325 : decode (tBc 178) 325 = .ok (.ireturn, 1) := by decide +kernel
theorem d178_326 : decode (tBc 178) 326 = .ok (.iload 5, 2) := by decide +kernel
theorem d178_328 : decode (tBc 178) 328 = .ok (.ifCond .ne 15, 3) := by decide +kernel
theorem d178_331 : decode (tBc 178) 331 = .ok (.aload_n 3, 1) := by decide +kernel
theorem d178_332 : decode (tBc 178) 332 = .ok (.iconst 0, 1) := by decide +kernel
theorem d178_333 : decode (tBc 178) 333 = .ok (.laload, 1) := by decide +kernel
theorem d178_334 : decode (tBc 178) 334 = .ok (.iload 6, 2) := by decide +kernel
theorem d178_336 : decode (tBc 178) 336 = .ok (.i2l, 1) := by decide +kernel
theorem d178_337 : decode (tBc 178) 337 = .ok (.lcmp, 1) := by decide +kernel
theorem d178_338 : decode (tBc 178) 338 = .ok (.ifCond .eq 5, 3) := by decide +kernel
theorem d178_341 : decode (tBc 178) 341 = .ok (.iconst 0, 1) := by decide +kernel
theorem d178_342 : decode (tBc 178) 342 = .ok (.ireturn, 1) := by decide +kernel
theorem d178_343 : decode (tBc 178) 343 = .ok (.goto 557, 3) := by decide +kernel
theorem d178_346 : decode (tBc 178) 346 = .ok (.aload_n 1, 1) := by decide +kernel
theorem d178_347 : decode (tBc 178) 347 = .ok (.aload_n 0, 1) := by decide +kernel
theorem d178_348 : decode (tBc 178) 348 = .ok (.iload 4, 2) := by decide +kernel
theorem d178_350 : decode (tBc 178) 350 = .ok (.iconst 1, 1) := by decide +kernel
theorem d178_351 : decode (tBc 178) 351 = .ok (.iadd, 1) := by decide +kernel
theorem d178_352 : decode (tBc 178) 352 = .ok (.iaload, 1) := by decide +kernel
theorem d178_353 : decode (tBc 178) 353 = .ok (.aload_n 3, 1) := by decide +kernel
theorem d178_354 : decode (tBc 178) 354 = .ok (.invokestatic 93, 3) := by decide +kernel
theorem d178_357 : decode (tBc 178) 357 = .ok (.istore 5, 2) := by decide +kernel
theorem d178_359 : decode (tBc 178) 359 = .ok (.aload_n 2, 1) := by decide +kernel
theorem d178_360 : decode (tBc 178) 360 = .ok (.aload_n 0, 1) := by decide +kernel
theorem d178_361 : decode (tBc 178) 361 = .ok (.iload 4, 2) := by decide +kernel
theorem d178_363 : decode (tBc 178) 363 = .ok (.iconst 1, 1) := by decide +kernel
theorem d178_364 : decode (tBc 178) 364 = .ok (.iadd, 1) := by decide +kernel
theorem d178_365 : decode (tBc 178) 365 = .ok (.iaload, 1) := by decide +kernel
theorem d178_366 : decode (tBc 178) 366 = .ok (.invokevirtual 96, 3) := by decide +kernel
theorem d178_369 : decode (tBc 178) 369 = .ok (.istore 6, 2) := by decide +kernel
theorem d178_371 : decode (tBc 178) 371 = .ok (.aload_n 2, 1) := by decide +kernel
theorem d178_372 : decode (tBc 178) 372 = .ok (.invokevirtual 74, 3) := by decide +kernel
theorem d178_375 : decode (tBc 178) 375 = .ok (.iload 5, 2) := by decide +kernel
theorem d178_377 : decode (tBc 178) 377 = .ok (.if_icmp .eq 5, 3) := by decide +kernel
theorem d178_380 : decode (tBc 178) 380 = .ok (.iconst 0, 1) := by decide +kernel
theorem d178_381 : decode (tBc 178) 381 = .ok (.ireturn, 1) := by decide +kernel
theorem d178_382 : decode (tBc 178) 382 = .ok (.iload 5, 2) := by decide +kernel
theorem d178_384 : decode (tBc 178) 384 = .ok (.ifCond .ne 15, 3) := by decide +kernel
theorem d178_387 : decode (tBc 178) 387 = .ok (.aload_n 3, 1) := by decide +kernel
theorem d178_388 : decode (tBc 178) 388 = .ok (.iconst 0, 1) := by decide +kernel
theorem d178_389 : decode (tBc 178) 389 = .ok (.laload, 1) := by decide +kernel
theorem d178_390 : decode (tBc 178) 390 = .ok (.iload 6, 2) := by decide +kernel
theorem d178_392 : decode (tBc 178) 392 = .ok (.i2l, 1) := by decide +kernel
theorem d178_393 : decode (tBc 178) 393 = .ok (.lcmp, 1) := by decide +kernel
theorem d178_394 : decode (tBc 178) 394 = .ok (.ifCond .eq 5, 3) := by decide +kernel
theorem d178_397 : decode (tBc 178) 397 = .ok (.iconst 0, 1) := by decide +kernel
theorem d178_398 : decode (tBc 178) 398 = .ok (.ireturn, 1) := by decide +kernel
theorem d178_399 : decode (tBc 178) 399 = .ok (.goto 501, 3) := by decide +kernel
theorem d178_402 : decode (tBc 178) 402 = .ok (.aload_n 1, 1) := by decide +kernel
theorem d178_403 : decode (tBc 178) 403 = .ok (.aload_n 0, 1) := by decide +kernel
theorem d178_404 : decode (tBc 178) 404 = .ok (.iload 4, 2) := by decide +kernel
theorem d178_406 : decode (tBc 178) 406 = .ok (.iconst 1, 1) := by decide +kernel
theorem d178_407 : decode (tBc 178) 407 = .ok (.iadd, 1) := by decide +kernel
theorem d178_408 : decode (tBc 178) 408 = .ok (.iaload, 1) := by decide +kernel
theorem d178_409 : decode (tBc 178) 409 = .ok (.aload_n 3, 1) := by decide +kernel
theorem d178_410 : decode (tBc 178) 410 = .ok (.invokestatic 97, 3) := by decide +kernel
theorem d178_413 : decode (tBc 178) 413 = .ok (.istore 5, 2) := by decide +kernel
theorem d178_415 : decode (tBc 178) 415 = .ok (.aload_n 2, 1) := by decide +kernel
theorem d178_416 : decode (tBc 178) 416 = .ok (.aload_n 0, 1) := by decide +kernel
theorem d178_417 : decode (tBc 178) 417 = .ok (.iload 4, 2) := by decide +kernel
theorem d178_419 : decode (tBc 178) 419 = .ok (.iconst 1, 1) := by decide +kernel
theorem d178_420 : decode (tBc 178) 420 = .ok (.iadd, 1) := by decide +kernel
theorem d178_421 : decode (tBc 178) 421 = .ok (.iaload, 1) := by decide +kernel
theorem d178_422 : decode (tBc 178) 422 = .ok (.invokevirtual 99, 3) := by decide +kernel
theorem d178_425 : decode (tBc 178) 425 = .ok (.istore 6, 2) := by decide +kernel
theorem d178_427 : decode (tBc 178) 427 = .ok (.aload_n 2, 1) := by decide +kernel
theorem d178_428 : decode (tBc 178) 428 = .ok (.invokevirtual 74, 3) := by decide +kernel
theorem d178_431 : decode (tBc 178) 431 = .ok (.iload 5, 2) := by decide +kernel
theorem d178_433 : decode (tBc 178) 433 = .ok (.if_icmp .eq 5, 3) := by decide +kernel
theorem d178_436 : decode (tBc 178) 436 = .ok (.iconst 0, 1) := by decide +kernel
theorem d178_437 : decode (tBc 178) 437 = .ok (.ireturn, 1) := by decide +kernel
theorem d178_438 : decode (tBc 178) 438 = .ok (.iload 5, 2) := by decide +kernel
theorem d178_440 : decode (tBc 178) 440 = .ok (.ifCond .ne 15, 3) := by decide +kernel
theorem d178_443 : decode (tBc 178) 443 = .ok (.aload_n 3, 1) := by decide +kernel
theorem d178_444 : decode (tBc 178) 444 = .ok (.iconst 0, 1) := by decide +kernel
theorem d178_445 : decode (tBc 178) 445 = .ok (.laload, 1) := by decide +kernel
theorem d178_446 : decode (tBc 178) 446 = .ok (.iload 6, 2) := by decide +kernel
theorem d178_448 : decode (tBc 178) 448 = .ok (.i2l, 1) := by decide +kernel
theorem d178_449 : decode (tBc 178) 449 = .ok (.lcmp, 1) := by decide +kernel
theorem d178_450 : decode (tBc 178) 450 = .ok (.ifCond .eq 5, 3) := by decide +kernel
theorem d178_453 : decode (tBc 178) 453 = .ok (.iconst 0, 1) := by decide +kernel
theorem d178_454 : decode (tBc 178) 454 = .ok (.ireturn, 1) := by decide +kernel
theorem d178_455 : decode (tBc 178) 455 = .ok (.goto 445, 3) := by decide +kernel
theorem d178_458 : decode (tBc 178) 458 = .ok (.aload_n 1, 1) := by decide +kernel
theorem d178_459 : decode (tBc 178) 459 = .ok (.aload_n 0, 1) := by decide +kernel
theorem d178_460 : decode (tBc 178) 460 = .ok (.iload 4, 2) := by decide +kernel
theorem d178_462 : decode (tBc 178) 462 = .ok (.iconst 1, 1) := by decide +kernel
theorem d178_463 : decode (tBc 178) 463 = .ok (.iadd, 1) := by decide +kernel
theorem d178_464 : decode (tBc 178) 464 = .ok (.iaload, 1) := by decide +kernel
theorem d178_465 : decode (tBc 178) 465 = .ok (.aload_n 3, 1) := by decide +kernel
theorem d178_466 : decode (tBc 178) 466 = .ok (.invokestatic 100, 3) := by decide +kernel
theorem d178_469 : decode (tBc 178) 469 = .ok (.istore 5, 2) := by decide +kernel
theorem d178_471 : decode (tBc 178) 471 = .ok (.aload_n 2, 1) := by decide +kernel
theorem d178_472 : decode (tBc 178) 472 = .ok (.aload_n 0, 1) := by decide +kernel
theorem d178_473 : decode (tBc 178) 473 = .ok (.iload 4, 2) := by decide +kernel
theorem d178_475 : decode (tBc 178) 475 = .ok (.iconst 1, 1) := by decide +kernel
theorem d178_476 : decode (tBc 178) 476 = .ok (.iadd, 1) := by decide +kernel
theorem d178_477 : decode (tBc 178) 477 = .ok (.iaload, 1) := by decide +kernel
theorem d178_478 : decode (tBc 178) 478 = .ok (.invokevirtual 102, 3) := by decide +kernel
theorem d178_481 : decode (tBc 178) 481 = .ok (.istore 6, 2) := by decide +kernel
theorem d178_483 : decode (tBc 178) 483 = .ok (.aload_n 2, 1) := by decide +kernel
theorem d178_484 : decode (tBc 178) 484 = .ok (.invokevirtual 74, 3) := by decide +kernel
theorem d178_487 : decode (tBc 178) 487 = .ok (.iload 5, 2) := by decide +kernel
theorem d178_489 : decode (tBc 178) 489 = .ok (.if_icmp .eq 5, 3) := by decide +kernel
theorem d178_492 : decode (tBc 178) 492 = .ok (.iconst 0, 1) := by decide +kernel
theorem d178_493 : decode (tBc 178) 493 = .ok (.ireturn, 1) := by decide +kernel
theorem d178_494 : decode (tBc 178) 494 = .ok (.iload 5, 2) := by decide +kernel
theorem d178_496 : decode (tBc 178) 496 = .ok (.ifCond .ne 15, 3) := by decide +kernel
theorem d178_499 : decode (tBc 178) 499 = .ok (.aload_n 3, 1) := by decide +kernel
theorem d178_500 : decode (tBc 178) 500 = .ok (.iconst 0, 1) := by decide +kernel
theorem d178_501 : decode (tBc 178) 501 = .ok (.laload, 1) := by decide +kernel
theorem d178_502 : decode (tBc 178) 502 = .ok (.iload 6, 2) := by decide +kernel
theorem d178_504 : decode (tBc 178) 504 = .ok (.i2l, 1) := by decide +kernel
theorem d178_505 : decode (tBc 178) 505 = .ok (.lcmp, 1) := by decide +kernel
theorem d178_506 : decode (tBc 178) 506 = .ok (.ifCond .eq 5, 3) := by decide +kernel
theorem d178_509 : decode (tBc 178) 509 = .ok (.iconst 0, 1) := by decide +kernel
theorem d178_510 : decode (tBc 178) 510 = .ok (.ireturn, 1) := by decide +kernel
theorem d178_511 : decode (tBc 178) 511 = .ok (.goto 389, 3) := by decide +kernel
theorem d178_514 : decode (tBc 178) 514 = .ok (.aload_n 1, 1) := by decide +kernel
theorem d178_515 : decode (tBc 178) 515 = .ok (.aload_n 0, 1) := by decide +kernel
theorem d178_516 : decode (tBc 178) 516 = .ok (.iload 4, 2) := by decide +kernel
theorem d178_518 : decode (tBc 178) 518 = .ok (.iconst 1, 1) := by decide +kernel
theorem d178_519 : decode (tBc 178) 519 = .ok (.iadd, 1) := by decide +kernel
theorem d178_520 : decode (tBc 178) 520 = .ok (.iaload, 1) := by decide +kernel
theorem d178_521 : decode (tBc 178) 521 = .ok (.aload_n 3, 1) := by decide +kernel
theorem d178_522 : decode (tBc 178) 522 = .ok (.invokestatic 103, 3) := by decide +kernel
theorem d178_525 : decode (tBc 178) 525 = .ok (.istore 5, 2) := by decide +kernel
theorem d178_527 : decode (tBc 178) 527 = .ok (.aload_n 2, 1) := by decide +kernel
theorem d178_528 : decode (tBc 178) 528 = .ok (.aload_n 0, 1) := by decide +kernel
theorem d178_529 : decode (tBc 178) 529 = .ok (.iload 4, 2) := by decide +kernel
theorem d178_531 : decode (tBc 178) 531 = .ok (.iconst 1, 1) := by decide +kernel
theorem d178_532 : decode (tBc 178) 532 = .ok (.iadd, 1) := by decide +kernel
theorem d178_533 : decode (tBc 178) 533 = .ok (.iaload, 1) := by decide +kernel
theorem d178_534 : decode (tBc 178) 534 = .ok (.invokevirtual 105, 3) := by decide +kernel
theorem d178_537 : decode (tBc 178) 537 = .ok (.istore 6, 2) := by decide +kernel
theorem d178_539 : decode (tBc 178) 539 = .ok (.aload_n 2, 1) := by decide +kernel
theorem d178_540 : decode (tBc 178) 540 = .ok (.invokevirtual 74, 3) := by decide +kernel
theorem d178_543 : decode (tBc 178) 543 = .ok (.iload 5, 2) := by decide +kernel
theorem d178_545 : decode (tBc 178) 545 = .ok (.if_icmp .eq 5, 3) := by decide +kernel
theorem d178_548 : decode (tBc 178) 548 = .ok (.iconst 0, 1) := by decide +kernel
theorem d178_549 : decode (tBc 178) 549 = .ok (.ireturn, 1) := by decide +kernel
theorem d178_550 : decode (tBc 178) 550 = .ok (.iload 5, 2) := by decide +kernel
theorem d178_552 : decode (tBc 178) 552 = .ok (.ifCond .ne 15, 3) := by decide +kernel
theorem d178_555 : decode (tBc 178) 555 = .ok (.aload_n 3, 1) := by decide +kernel
theorem d178_556 : decode (tBc 178) 556 = .ok (.iconst 0, 1) := by decide +kernel
theorem d178_557 : decode (tBc 178) 557 = .ok (.laload, 1) := by decide +kernel
theorem d178_558 : decode (tBc 178) 558 = .ok (.iload 6, 2) := by decide +kernel
theorem d178_560 : decode (tBc 178) 560 = .ok (.i2l, 1) := by decide +kernel
theorem d178_561 : decode (tBc 178) 561 = .ok (.lcmp, 1) := by decide +kernel
theorem d178_562 : decode (tBc 178) 562 = .ok (.ifCond .eq 5, 3) := by decide +kernel
theorem d178_565 : decode (tBc 178) 565 = .ok (.iconst 0, 1) := by decide +kernel
theorem d178_566 : decode (tBc 178) 566 = .ok (.ireturn, 1) := by decide +kernel
theorem d178_567 : decode (tBc 178) 567 = .ok (.goto 333, 3) := by decide +kernel
theorem d178_570 : decode (tBc 178) 570 = .ok (.aload_n 1, 1) := by decide +kernel
theorem d178_571 : decode (tBc 178) 571 = .ok (.aload_n 0, 1) := by decide +kernel
theorem d178_572 : decode (tBc 178) 572 = .ok (.iload 4, 2) := by decide +kernel
theorem d178_574 : decode (tBc 178) 574 = .ok (.iconst 1, 1) := by decide +kernel
theorem d178_575 : decode (tBc 178) 575 = .ok (.iadd, 1) := by decide +kernel
theorem d178_576 : decode (tBc 178) 576 = .ok (.iaload, 1) := by decide +kernel
theorem d178_577 : decode (tBc 178) 577 = .ok (.aload_n 3, 1) := by decide +kernel
theorem d178_578 : decode (tBc 178) 578 = .ok (.invokestatic 106, 3) := by decide +kernel
theorem d178_581 : decode (tBc 178) 581 = .ok (.istore 5, 2) := by decide +kernel
theorem d178_583 : decode (tBc 178) 583 = .ok (.aload_n 2, 1) := by decide +kernel
theorem d178_584 : decode (tBc 178) 584 = .ok (.aload_n 0, 1) := by decide +kernel
theorem d178_585 : decode (tBc 178) 585 = .ok (.iload 4, 2) := by decide +kernel
theorem d178_587 : decode (tBc 178) 587 = .ok (.iconst 1, 1) := by decide +kernel
theorem d178_588 : decode (tBc 178) 588 = .ok (.iadd, 1) := by decide +kernel
theorem d178_589 : decode (tBc 178) 589 = .ok (.iaload, 1) := by decide +kernel
theorem d178_590 : decode (tBc 178) 590 = .ok (.invokevirtual 108, 3) := by decide +kernel
theorem d178_593 : decode (tBc 178) 593 = .ok (.istore 6, 2) := by decide +kernel
theorem d178_595 : decode (tBc 178) 595 = .ok (.aload_n 2, 1) := by decide +kernel
theorem d178_596 : decode (tBc 178) 596 = .ok (.invokevirtual 74, 3) := by decide +kernel
theorem d178_599 : decode (tBc 178) 599 = .ok (.iload 5, 2) := by decide +kernel
theorem d178_601 : decode (tBc 178) 601 = .ok (.if_icmp .eq 5, 3) := by decide +kernel
theorem d178_604 : decode (tBc 178) 604 = .ok (.iconst 0, 1) := by decide +kernel
theorem d178_605 : decode (tBc 178) 605 = .ok (.ireturn, 1) := by decide +kernel
theorem d178_606 : decode (tBc 178) 606 = .ok (.iload 5, 2) := by decide +kernel
theorem d178_608 : decode (tBc 178) 608 = .ok (.ifCond .ne 15, 3) := by decide +kernel
theorem d178_611 : decode (tBc 178) 611 = .ok (.aload_n 3, 1) := by decide +kernel
theorem d178_612 : decode (tBc 178) 612 = .ok (.iconst 0, 1) := by decide +kernel
theorem d178_613 : decode (tBc 178) 613 = .ok (.laload, 1) := by decide +kernel
theorem d178_614 : decode (tBc 178) 614 = .ok (.iload 6, 2) := by decide +kernel
theorem d178_616 : decode (tBc 178) 616 = .ok (.i2l, 1) := by decide +kernel
theorem d178_617 : decode (tBc 178) 617 = .ok (.lcmp, 1) := by decide +kernel
theorem d178_618 : decode (tBc 178) 618 = .ok (.ifCond .eq 5, 3) := by decide +kernel
theorem d178_621 : decode (tBc 178) 621 = .ok (.iconst 0, 1) := by decide +kernel
theorem d178_622 : decode (tBc 178) 622 = .ok (.ireturn, 1) := by decide +kernel
theorem d178_623 : decode (tBc 178) 623 = .ok (.goto 277, 3) := by decide +kernel
theorem d178_626 : decode (tBc 178) 626 = .ok (.aload_n 1, 1) := by decide +kernel
theorem d178_627 : decode (tBc 178) 627 = .ok (.aload_n 0, 1) := by decide +kernel
theorem d178_628 : decode (tBc 178) 628 = .ok (.iload 4, 2) := by decide +kernel
theorem d178_630 : decode (tBc 178) 630 = .ok (.iconst 1, 1) := by decide +kernel
theorem d178_631 : decode (tBc 178) 631 = .ok (.iadd, 1) := by decide +kernel
theorem d178_632 : decode (tBc 178) 632 = .ok (.iaload, 1) := by decide +kernel
theorem d178_633 : decode (tBc 178) 633 = .ok (.aload_n 3, 1) := by decide +kernel
theorem d178_634 : decode (tBc 178) 634 = .ok (.invokestatic 109, 3) := by decide +kernel
theorem d178_637 : decode (tBc 178) 637 = .ok (.istore 5, 2) := by decide +kernel
theorem d178_639 : decode (tBc 178) 639 = .ok (.aload_n 2, 1) := by decide +kernel
theorem d178_640 : decode (tBc 178) 640 = .ok (.aload_n 0, 1) := by decide +kernel
theorem d178_641 : decode (tBc 178) 641 = .ok (.iload 4, 2) := by decide +kernel
theorem d178_643 : decode (tBc 178) 643 = .ok (.iconst 1, 1) := by decide +kernel
theorem d178_644 : decode (tBc 178) 644 = .ok (.iadd, 1) := by decide +kernel
theorem d178_645 : decode (tBc 178) 645 = .ok (.iaload, 1) := by decide +kernel
theorem d178_646 : decode (tBc 178) 646 = .ok (.invokevirtual 111, 3) := by decide +kernel
theorem d178_649 : decode (tBc 178) 649 = .ok (.istore 6, 2) := by decide +kernel
theorem d178_651 : decode (tBc 178) 651 = .ok (.aload_n 2, 1) := by decide +kernel
theorem d178_652 : decode (tBc 178) 652 = .ok (.invokevirtual 74, 3) := by decide +kernel
theorem d178_655 : decode (tBc 178) 655 = .ok (.iload 5, 2) := by decide +kernel
theorem d178_657 : decode (tBc 178) 657 = .ok (.if_icmp .eq 5, 3) := by decide +kernel
theorem d178_660 : decode (tBc 178) 660 = .ok (.iconst 0, 1) := by decide +kernel
theorem d178_661 : decode (tBc 178) 661 = .ok (.ireturn, 1) := by decide +kernel
theorem d178_662 : decode (tBc 178) 662 = .ok (.iload 5, 2) := by decide +kernel
theorem d178_664 : decode (tBc 178) 664 = .ok (.ifCond .ne 22, 3) := by decide +kernel
theorem d178_667 : decode (tBc 178) 667 = .ok (.aload_n 3, 1) := by decide +kernel
theorem d178_668 : decode (tBc 178) 668 = .ok (.iconst 0, 1) := by decide +kernel
theorem d178_669 : decode (tBc 178) 669 = .ok (.laload, 1) := by decide +kernel
theorem d178_670 : decode (tBc 178) 670 = .ok (.iload 6, 2) := by decide +kernel
theorem d178_672 : decode (tBc 178) 672 = .ok (.ifCond .eq 7, 3) := by decide +kernel
theorem d178_675 : decode (tBc 178) 675 = .ok (.lconst 1, 1) := by decide +kernel
theorem d178_676 : decode (tBc 178) 676 = .ok (.goto 4, 3) := by decide +kernel
theorem d178_679 : decode (tBc 178) 679 = .ok (.lconst 0, 1) := by decide +kernel
theorem d178_680 : decode (tBc 178) 680 = .ok (.lcmp, 1) := by decide +kernel
theorem d178_681 : decode (tBc 178) 681 = .ok (.ifCond .eq 5, 3) := by decide +kernel
theorem d178_684 : decode (tBc 178) 684 = .ok (.iconst 0, 1) := by decide +kernel
theorem d178_685 : decode (tBc 178) 685 = .ok (.ireturn, 1) := by decide +kernel
theorem d178_686 : decode (tBc 178) 686 = .ok (.goto 214, 3) := by decide +kernel
theorem d178_689 : decode (tBc 178) 689 = .ok (.aload_n 1, 1) := by decide +kernel
theorem d178_690 : decode (tBc 178) 690 = .ok (.aload_n 0, 1) := by decide +kernel
theorem d178_691 : decode (tBc 178) 691 = .ok (.iload 4, 2) := by decide +kernel
theorem d178_693 : decode (tBc 178) 693 = .ok (.iconst 1, 1) := by decide +kernel
theorem d178_694 : decode (tBc 178) 694 = .ok (.iadd, 1) := by decide +kernel
theorem d178_695 : decode (tBc 178) 695 = .ok (.iaload, 1) := by decide +kernel
theorem d178_696 : decode (tBc 178) 696 = .ok (.aload_n 0, 1) := by decide +kernel
theorem d178_697 : decode (tBc 178) 697 = .ok (.iload 4, 2) := by decide +kernel
theorem d178_699 : decode (tBc 178) 699 = .ok (.iconst 2, 1) := by decide +kernel
theorem d178_700 : decode (tBc 178) 700 = .ok (.iadd, 1) := by decide +kernel
theorem d178_701 : decode (tBc 178) 701 = .ok (.iaload, 1) := by decide +kernel
theorem d178_702 : decode (tBc 178) 702 = .ok (.aload_n 3, 1) := by decide +kernel
theorem d178_703 : decode (tBc 178) 703 = .ok (.invokestatic 112, 3) := by decide +kernel
theorem d178_706 : decode (tBc 178) 706 = .ok (.istore 5, 2) := by decide +kernel
theorem d178_708 : decode (tBc 178) 708 = .ok (.aload_n 2, 1) := by decide +kernel
theorem d178_709 : decode (tBc 178) 709 = .ok (.aload_n 0, 1) := by decide +kernel
theorem d178_710 : decode (tBc 178) 710 = .ok (.iload 4, 2) := by decide +kernel
theorem d178_712 : decode (tBc 178) 712 = .ok (.iconst 1, 1) := by decide +kernel
theorem d178_713 : decode (tBc 178) 713 = .ok (.iadd, 1) := by decide +kernel
theorem d178_714 : decode (tBc 178) 714 = .ok (.iaload, 1) := by decide +kernel
theorem d178_715 : decode (tBc 178) 715 = .ok (.aload_n 0, 1) := by decide +kernel
theorem d178_716 : decode (tBc 178) 716 = .ok (.iload 4, 2) := by decide +kernel
theorem d178_718 : decode (tBc 178) 718 = .ok (.iconst 2, 1) := by decide +kernel
theorem d178_719 : decode (tBc 178) 719 = .ok (.iadd, 1) := by decide +kernel
theorem d178_720 : decode (tBc 178) 720 = .ok (.iaload, 1) := by decide +kernel
theorem d178_721 : decode (tBc 178) 721 = .ok (.invokevirtual 114, 3) := by decide +kernel
theorem d178_724 : decode (tBc 178) 724 = .ok (.istore 6, 2) := by decide +kernel
theorem d178_726 : decode (tBc 178) 726 = .ok (.aload_n 2, 1) := by decide +kernel
theorem d178_727 : decode (tBc 178) 727 = .ok (.invokevirtual 74, 3) := by decide +kernel
theorem d178_730 : decode (tBc 178) 730 = .ok (.iload 5, 2) := by decide +kernel
theorem d178_732 : decode (tBc 178) 732 = .ok (.if_icmp .eq 5, 3) := by decide +kernel
theorem d178_735 : decode (tBc 178) 735 = .ok (.iconst 0, 1) := by decide +kernel
theorem d178_736 : decode (tBc 178) 736 = .ok (.ireturn, 1) := by decide +kernel
theorem d178_737 : decode (tBc 178) 737 = .ok (.iload 5, 2) := by decide +kernel
theorem d178_739 : decode (tBc 178) 739 = .ok (.ifCond .ne 22, 3) := by decide +kernel
theorem d178_742 : decode (tBc 178) 742 = .ok (.aload_n 3, 1) := by decide +kernel
theorem d178_743 : decode (tBc 178) 743 = .ok (.iconst 0, 1) := by decide +kernel
theorem d178_744 : decode (tBc 178) 744 = .ok (.laload, 1) := by decide +kernel
theorem d178_745 : decode (tBc 178) 745 = .ok (.iload 6, 2) := by decide +kernel
theorem d178_747 : decode (tBc 178) 747 = .ok (.ifCond .eq 7, 3) := by decide +kernel
theorem d178_750 : decode (tBc 178) 750 = .ok (.lconst 1, 1) := by decide +kernel
theorem d178_751 : decode (tBc 178) 751 = .ok (.goto 4, 3) := by decide +kernel
theorem d178_754 : decode (tBc 178) 754 = .ok (.lconst 0, 1) := by decide +kernel
theorem d178_755 : decode (tBc 178) 755 = .ok (.lcmp, 1) := by decide +kernel
theorem d178_756 : decode (tBc 178) 756 = .ok (.ifCond .eq 5, 3) := by decide +kernel
theorem d178_759 : decode (tBc 178) 759 = .ok (.iconst 0, 1) := by decide +kernel
theorem d178_760 : decode (tBc 178) 760 = .ok (.ireturn, 1) := by decide +kernel
theorem d178_761 : decode (tBc 178) 761 = .ok (.goto 139, 3) := by decide +kernel
theorem d178_764 : decode (tBc 178) 764 = .ok (.aload_n 1, 1) := by decide +kernel
theorem d178_765 : decode (tBc 178) 765 = .ok (.aload_n 0, 1) := by decide +kernel
theorem d178_766 : decode (tBc 178) 766 = .ok (.iload 4, 2) := by decide +kernel
theorem d178_768 : decode (tBc 178) 768 = .ok (.iconst 1, 1) := by decide +kernel
theorem d178_769 : decode (tBc 178) 769 = .ok (.iadd, 1) := by decide +kernel
theorem d178_770 : decode (tBc 178) 770 = .ok (.iaload, 1) := by decide +kernel
theorem d178_771 : decode (tBc 178) 771 = .ok (.aload_n 0, 1) := by decide +kernel
theorem d178_772 : decode (tBc 178) 772 = .ok (.iload 4, 2) := by decide +kernel
theorem d178_774 : decode (tBc 178) 774 = .ok (.iconst 2, 1) := by decide +kernel
theorem d178_775 : decode (tBc 178) 775 = .ok (.iadd, 1) := by decide +kernel
theorem d178_776 : decode (tBc 178) 776 = .ok (.iaload, 1) := by decide +kernel
theorem d178_777 : decode (tBc 178) 777 = .ok (.aload_n 0, 1) := by decide +kernel
theorem d178_778 : decode (tBc 178) 778 = .ok (.iload 4, 2) := by decide +kernel
theorem d178_780 : decode (tBc 178) 780 = .ok (.iconst 3, 1) := by decide +kernel
theorem d178_781 : decode (tBc 178) 781 = .ok (.iadd, 1) := by decide +kernel
theorem d178_782 : decode (tBc 178) 782 = .ok (.iaload, 1) := by decide +kernel
theorem d178_783 : decode (tBc 178) 783 = .ok (.aload_n 3, 1) := by decide +kernel
theorem d178_784 : decode (tBc 178) 784 = .ok (.invokestatic 115, 3) := by decide +kernel
theorem d178_787 : decode (tBc 178) 787 = .ok (.istore 5, 2) := by decide +kernel
theorem d178_789 : decode (tBc 178) 789 = .ok (.aload_n 2, 1) := by decide +kernel
theorem d178_790 : decode (tBc 178) 790 = .ok (.aload_n 0, 1) := by decide +kernel
theorem d178_791 : decode (tBc 178) 791 = .ok (.iload 4, 2) := by decide +kernel
theorem d178_793 : decode (tBc 178) 793 = .ok (.iconst 1, 1) := by decide +kernel
theorem d178_794 : decode (tBc 178) 794 = .ok (.iadd, 1) := by decide +kernel
theorem d178_795 : decode (tBc 178) 795 = .ok (.iaload, 1) := by decide +kernel
theorem d178_796 : decode (tBc 178) 796 = .ok (.aload_n 0, 1) := by decide +kernel
theorem d178_797 : decode (tBc 178) 797 = .ok (.iload 4, 2) := by decide +kernel
theorem d178_799 : decode (tBc 178) 799 = .ok (.iconst 2, 1) := by decide +kernel
theorem d178_800 : decode (tBc 178) 800 = .ok (.iadd, 1) := by decide +kernel
theorem d178_801 : decode (tBc 178) 801 = .ok (.iaload, 1) := by decide +kernel
theorem d178_802 : decode (tBc 178) 802 = .ok (.aload_n 0, 1) := by decide +kernel
theorem d178_803 : decode (tBc 178) 803 = .ok (.iload 4, 2) := by decide +kernel
theorem d178_805 : decode (tBc 178) 805 = .ok (.iconst 3, 1) := by decide +kernel
theorem d178_806 : decode (tBc 178) 806 = .ok (.iadd, 1) := by decide +kernel
theorem d178_807 : decode (tBc 178) 807 = .ok (.iaload, 1) := by decide +kernel
theorem d178_808 : decode (tBc 178) 808 = .ok (.invokevirtual 118, 3) := by decide +kernel
theorem d178_811 : decode (tBc 178) 811 = .ok (.istore 6, 2) := by decide +kernel
theorem d178_813 : decode (tBc 178) 813 = .ok (.aload_n 2, 1) := by decide +kernel
theorem d178_814 : decode (tBc 178) 814 = .ok (.invokevirtual 74, 3) := by decide +kernel
theorem d178_817 : decode (tBc 178) 817 = .ok (.iload 5, 2) := by decide +kernel
theorem d178_819 : decode (tBc 178) 819 = .ok (.if_icmp .eq 5, 3) := by decide +kernel
theorem d178_822 : decode (tBc 178) 822 = .ok (.iconst 0, 1) := by decide +kernel
theorem d178_823 : decode (tBc 178) 823 = .ok (.ireturn, 1) := by decide +kernel
theorem d178_824 : decode (tBc 178) 824 = .ok (.iload 5, 2) := by decide +kernel
theorem d178_826 : decode (tBc 178) 826 = .ok (.ifCond .ne 15, 3) := by decide +kernel
theorem d178_829 : decode (tBc 178) 829 = .ok (.aload_n 3, 1) := by decide +kernel
theorem d178_830 : decode (tBc 178) 830 = .ok (.iconst 0, 1) := by decide +kernel
theorem d178_831 : decode (tBc 178) 831 = .ok (.laload, 1) := by decide +kernel
theorem d178_832 : decode (tBc 178) 832 = .ok (.iload 6, 2) := by decide +kernel
theorem d178_834 : decode (tBc 178) 834 = .ok (.i2l, 1) := by decide +kernel
theorem d178_835 : decode (tBc 178) 835 = .ok (.lcmp, 1) := by decide +kernel
theorem d178_836 : decode (tBc 178) 836 = .ok (.ifCond .eq 5, 3) := by decide +kernel
theorem d178_839 : decode (tBc 178) 839 = .ok (.iconst 0, 1) := by decide +kernel
theorem d178_840 : decode (tBc 178) 840 = .ok (.ireturn, 1) := by decide +kernel
theorem d178_841 : decode (tBc 178) 841 = .ok (.goto 59, 3) := by decide +kernel
theorem d178_844 : decode (tBc 178) 844 = .ok (.aload_n 1, 1) := by decide +kernel
theorem d178_845 : decode (tBc 178) 845 = .ok (.aload_n 0, 1) := by decide +kernel
theorem d178_846 : decode (tBc 178) 846 = .ok (.iload 4, 2) := by decide +kernel
theorem d178_848 : decode (tBc 178) 848 = .ok (.iconst 1, 1) := by decide +kernel
theorem d178_849 : decode (tBc 178) 849 = .ok (.iadd, 1) := by decide +kernel
theorem d178_850 : decode (tBc 178) 850 = .ok (.iaload, 1) := by decide +kernel
theorem d178_851 : decode (tBc 178) 851 = .ok (.aload_n 3, 1) := by decide +kernel
theorem d178_852 : decode (tBc 178) 852 = .ok (.invokestatic 119, 3) := by decide +kernel
theorem d178_855 : decode (tBc 178) 855 = .ok (.istore 5, 2) := by decide +kernel
theorem d178_857 : decode (tBc 178) 857 = .ok (.aload_n 2, 1) := by decide +kernel
theorem d178_858 : decode (tBc 178) 858 = .ok (.aload_n 0, 1) := by decide +kernel
theorem d178_859 : decode (tBc 178) 859 = .ok (.iload 4, 2) := by decide +kernel
theorem d178_861 : decode (tBc 178) 861 = .ok (.iconst 1, 1) := by decide +kernel
theorem d178_862 : decode (tBc 178) 862 = .ok (.iadd, 1) := by decide +kernel
theorem d178_863 : decode (tBc 178) 863 = .ok (.iaload, 1) := by decide +kernel
theorem d178_864 : decode (tBc 178) 864 = .ok (.invokevirtual 121, 3) := by decide +kernel
theorem d178_867 : decode (tBc 178) 867 = .ok (.istore 6, 2) := by decide +kernel
theorem d178_869 : decode (tBc 178) 869 = .ok (.aload_n 2, 1) := by decide +kernel
theorem d178_870 : decode (tBc 178) 870 = .ok (.invokevirtual 74, 3) := by decide +kernel
theorem d178_873 : decode (tBc 178) 873 = .ok (.iload 5, 2) := by decide +kernel
theorem d178_875 : decode (tBc 178) 875 = .ok (.if_icmp .eq 5, 3) := by decide +kernel
theorem d178_878 : decode (tBc 178) 878 = .ok (.iconst 0, 1) := by decide +kernel
theorem d178_879 : decode (tBc 178) 879 = .ok (.ireturn, 1) := by decide +kernel
theorem d178_880 : decode (tBc 178) 880 = .ok (.iload 5, 2) := by decide +kernel
theorem d178_882 : decode (tBc 178) 882 = .ok (.ifCond .ne 15, 3) := by decide +kernel
theorem d178_885 : decode (tBc 178) 885 = .ok (.aload_n 3, 1) := by decide +kernel
theorem d178_886 : decode (tBc 178) 886 = .ok (.iconst 0, 1) := by decide +kernel
theorem d178_887 : decode (tBc 178) 887 = .ok (.laload, 1) := by decide +kernel
theorem d178_888 : decode (tBc 178) 888 = .ok (.iload 6, 2) := by decide +kernel
theorem d178_890 : decode (tBc 178) 890 = .ok (.i2l, 1) := by decide +kernel
theorem d178_891 : decode (tBc 178) 891 = .ok (.lcmp, 1) := by decide +kernel
theorem d178_892 : decode (tBc 178) 892 = .ok (.ifCond .eq 5, 3) := by decide +kernel
theorem d178_895 : decode (tBc 178) 895 = .ok (.iconst 0, 1) := by decide +kernel
theorem d178_896 : decode (tBc 178) 896 = .ok (.ireturn, 1) := by decide +kernel
theorem d178_897 : decode (tBc 178) 897 = .ok (.goto 3, 3) := by decide +kernel
theorem d178_900 : decode (tBc 178) 900 = .ok (.iinc 4 4, 3) := by decide +kernel
theorem d178_903 : decode (tBc 178) 903 = .ok (.goto (-880), 3) := by decide +kernel
theorem d178_906 : decode (tBc 178) 906 = .ok (.iconst 1, 1) := by decide +kernel
theorem d178_907 : decode (tBc 178) 907 = .ok (.ireturn, 1) := by decide +kernel
