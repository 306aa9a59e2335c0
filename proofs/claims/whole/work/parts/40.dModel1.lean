/-! Rows that decode each instruction. Written by wip/whole/gen/mktab.py. -/
theorem d89_0 : decode (tBc 89) 0 = .ok (.aload_n 0, 1) := by decide +kernel
theorem d89_1 : decode (tBc 89) 1 = .ok (.invokespecial 1, 3) := by decide +kernel
theorem d89_4 : decode (tBc 89) 4 = .ok (.aload_n 0, 1) := by decide +kernel
theorem d89_5 : decode (tBc 89) 5 = .ok (.bipush 120, 2) := by decide +kernel
theorem d89_7 : decode (tBc 89) 7 = .ok (.newarray .int, 2) := by decide +kernel
theorem d89_9 : decode (tBc 89) 9 = .ok (.putfield 7, 3) := by decide +kernel
theorem d89_12 : decode (tBc 89) 12 = .ok (.aload_n 0, 1) := by decide +kernel
theorem d89_13 : decode (tBc 89) 13 = .ok (.bipush 120, 2) := by decide +kernel
theorem d89_15 : decode (tBc 89) 15 = .ok (.newarray .int, 2) := by decide +kernel
theorem d89_17 : decode (tBc 89) 17 = .ok (.putfield 13, 3) := by decide +kernel
theorem d89_20 : decode (tBc 89) 20 = .ok (.aload_n 0, 1) := by decide +kernel
theorem d89_21 : decode (tBc 89) 21 = .ok (.bipush 51, 2) := by decide +kernel
theorem d89_23 : decode (tBc 89) 23 = .ok (.newarray .int, 2) := by decide +kernel
theorem d89_25 : decode (tBc 89) 25 = .ok (.putfield 16, 3) := by decide +kernel
theorem d89_28 : decode (tBc 89) 28 = .ok (.aload_n 0, 1) := by decide +kernel
theorem d89_29 : decode (tBc 89) 29 = .ok (.bipush 51, 2) := by decide +kernel
theorem d89_31 : decode (tBc 89) 31 = .ok (.newarray .boolean, 2) := by decide +kernel
theorem d89_33 : decode (tBc 89) 33 = .ok (.putfield 19, 3) := by decide +kernel
theorem d89_36 : decode (tBc 89) 36 = .ok (.aload_n 0, 1) := by decide +kernel
theorem d89_37 : decode (tBc 89) 37 = .ok (.bipush 51, 2) := by decide +kernel
theorem d89_39 : decode (tBc 89) 39 = .ok (.newarray .int, 2) := by decide +kernel
theorem d89_41 : decode (tBc 89) 41 = .ok (.putfield 23, 3) := by decide +kernel
theorem d89_44 : decode (tBc 89) 44 = .ok (.aload_n 0, 1) := by decide +kernel
theorem d89_45 : decode (tBc 89) 45 = .ok (.bipush 51, 2) := by decide +kernel
theorem d89_47 : decode (tBc 89) 47 = .ok (.newarray .int, 2) := by decide +kernel
theorem d89_49 : decode (tBc 89) 49 = .ok (.putfield 26, 3) := by decide +kernel
theorem d89_52 : decode (tBc 89) 52 = .ok (.aload_n 0, 1) := by decide +kernel
theorem d89_53 : decode (tBc 89) 53 = .ok (.bipush 51, 2) := by decide +kernel
theorem d89_55 : decode (tBc 89) 55 = .ok (.newarray .int, 2) := by decide +kernel
theorem d89_57 : decode (tBc 89) 57 = .ok (.putfield 29, 3) := by decide +kernel
theorem d89_60 : decode (tBc 89) 60 = .ok (.aload_n 0, 1) := by decide +kernel
theorem d89_61 : decode (tBc 89) 61 = .ok (.bipush 51, 2) := by decide +kernel
theorem d89_63 : decode (tBc 89) 63 = .ok (.newarray .int, 2) := by decide +kernel
theorem d89_65 : decode (tBc 89) 65 = .ok (.putfield 32, 3) := by decide +kernel
theorem d89_68 : decode (tBc 89) 68 = .ok (.aload_n 0, 1) := by decide +kernel
theorem d89_69 : decode (tBc 89) 69 = .ok (.bipush 20, 2) := by decide +kernel
theorem d89_71 : decode (tBc 89) 71 = .ok (.newarray .int, 2) := by decide +kernel
theorem d89_73 : decode (tBc 89) 73 = .ok (.putfield 35, 3) := by decide +kernel
theorem d89_76 : decode (tBc 89) 76 = .ok (.aload_n 0, 1) := by decide +kernel
theorem d89_77 : decode (tBc 89) 77 = .ok (.bipush 20, 2) := by decide +kernel
theorem d89_79 : decode (tBc 89) 79 = .ok (.newarray .int, 2) := by decide +kernel
theorem d89_81 : decode (tBc 89) 81 = .ok (.putfield 38, 3) := by decide +kernel
theorem d89_84 : decode (tBc 89) 84 = .ok (.aload_n 0, 1) := by decide +kernel
theorem d89_85 : decode (tBc 89) 85 = .ok (.bipush 20, 2) := by decide +kernel
theorem d89_87 : decode (tBc 89) 87 = .ok (.newarray .int, 2) := by decide +kernel
theorem d89_89 : decode (tBc 89) 89 = .ok (.putfield 41, 3) := by decide +kernel
theorem d89_92 : decode (tBc 89) 92 = .ok (.aload_n 0, 1) := by decide +kernel
theorem d89_93 : decode (tBc 89) 93 = .ok (.bipush 21, 2) := by decide +kernel
theorem d89_95 : decode (tBc 89) 95 = .ok (.newarray .int, 2) := by decide +kernel
theorem d89_97 : decode (tBc 89) 97 = .ok (.putfield 44, 3) := by decide +kernel
theorem d89_100 : decode (tBc 89) 100 = .ok (.aload_n 0, 1) := by decide +kernel
theorem d89_101 : decode (tBc 89) 101 = .ok (.bipush 21, 2) := by decide +kernel
theorem d89_103 : decode (tBc 89) 103 = .ok (.newarray .int, 2) := by decide +kernel
theorem d89_105 : decode (tBc 89) 105 = .ok (.putfield 47, 3) := by decide +kernel
theorem d89_108 : decode (tBc 89) 108 = .ok (.aload_n 0, 1) := by decide +kernel
theorem d89_109 : decode (tBc 89) 109 = .ok (.bipush 21, 2) := by decide +kernel
theorem d89_111 : decode (tBc 89) 111 = .ok (.newarray .int, 2) := by decide +kernel
theorem d89_113 : decode (tBc 89) 113 = .ok (.putfield 50, 3) := by decide +kernel
theorem d89_116 : decode (tBc 89) 116 = .ok (.aload_n 0, 1) := by decide +kernel
theorem d89_117 : decode (tBc 89) 117 = .ok (.bipush 40, 2) := by decide +kernel
theorem d89_119 : decode (tBc 89) 119 = .ok (.newarray .int, 2) := by decide +kernel
theorem d89_121 : decode (tBc 89) 121 = .ok (.putfield 53, 3) := by decide +kernel
theorem d89_124 : decode (tBc 89) 124 = .ok (.aload_n 0, 1) := by decide +kernel
theorem d89_125 : decode (tBc 89) 125 = .ok (.bipush 40, 2) := by decide +kernel
theorem d89_127 : decode (tBc 89) 127 = .ok (.newarray .int, 2) := by decide +kernel
theorem d89_129 : decode (tBc 89) 129 = .ok (.putfield 56, 3) := by decide +kernel
theorem d89_132 : decode (tBc 89) 132 = .ok (.aload_n 0, 1) := by decide +kernel
theorem d89_133 : decode (tBc 89) 133 = .ok (.bipush 40, 2) := by decide +kernel
theorem d89_135 : decode (tBc 89) 135 = .ok (.newarray .int, 2) := by decide +kernel
theorem d89_137 : decode (tBc 89) 137 = .ok (.putfield 59, 3) := by decide +kernel
theorem d89_140 : decode (tBc 89) 140 = .ok (.aload_n 0, 1) := by decide +kernel
theorem d89_141 : decode (tBc 89) 141 = .ok (.bipush 40, 2) := by decide +kernel
theorem d89_143 : decode (tBc 89) 143 = .ok (.newarray .int, 2) := by decide +kernel
theorem d89_145 : decode (tBc 89) 145 = .ok (.putfield 62, 3) := by decide +kernel
theorem d89_148 : decode (tBc 89) 148 = .ok (.aload_n 0, 1) := by decide +kernel
theorem d89_149 : decode (tBc 89) 149 = .ok (.bipush 30, 2) := by decide +kernel
theorem d89_151 : decode (tBc 89) 151 = .ok (.newarray .int, 2) := by decide +kernel
theorem d89_153 : decode (tBc 89) 153 = .ok (.putfield 65, 3) := by decide +kernel
theorem d89_156 : decode (tBc 89) 156 = .ok (.aload_n 0, 1) := by decide +kernel
theorem d89_157 : decode (tBc 89) 157 = .ok (.bipush 30, 2) := by decide +kernel
theorem d89_159 : decode (tBc 89) 159 = .ok (.newarray .int, 2) := by decide +kernel
theorem d89_161 : decode (tBc 89) 161 = .ok (.putfield 68, 3) := by decide +kernel
theorem d89_164 : decode (tBc 89) 164 = .ok (.aload_n 0, 1) := by decide +kernel
theorem d89_165 : decode (tBc 89) 165 = .ok (.bipush 30, 2) := by decide +kernel
theorem d89_167 : decode (tBc 89) 167 = .ok (.newarray .int, 2) := by decide +kernel
theorem d89_169 : decode (tBc 89) 169 = .ok (.putfield 71, 3) := by decide +kernel
theorem d89_172 : decode (tBc 89) 172 = .ok (.aload_n 0, 1) := by decide +kernel
theorem d89_173 : decode (tBc 89) 173 = .ok (.sipush 2040, 3) := by decide +kernel
theorem d89_176 : decode (tBc 89) 176 = .ok (.newarray .int, 2) := by decide +kernel
theorem d89_178 : decode (tBc 89) 178 = .ok (.putfield 74, 3) := by decide +kernel
theorem d89_181 : decode (tBc 89) 181 = .ok (.aload_n 0, 1) := by decide +kernel
theorem d89_182 : decode (tBc 89) 182 = .ok (.bipush 40, 2) := by decide +kernel
theorem d89_184 : decode (tBc 89) 184 = .ok (.newarray .int, 2) := by decide +kernel
theorem d89_186 : decode (tBc 89) 186 = .ok (.putfield 77, 3) := by decide +kernel
theorem d89_189 : decode (tBc 89) 189 = .ok (.aload_n 0, 1) := by decide +kernel
theorem d89_190 : decode (tBc 89) 190 = .ok (.bipush 51, 2) := by decide +kernel
theorem d89_192 : decode (tBc 89) 192 = .ok (.newarray .int, 2) := by decide +kernel
theorem d89_194 : decode (tBc 89) 194 = .ok (.putfield 80, 3) := by decide +kernel
theorem d89_197 : decode (tBc 89) 197 = .ok (.aload_n 0, 1) := by decide +kernel
theorem d89_198 : decode (tBc 89) 198 = .ok (.bipush 60, 2) := by decide +kernel
theorem d89_200 : decode (tBc 89) 200 = .ok (.newarray .int, 2) := by decide +kernel
theorem d89_202 : decode (tBc 89) 202 = .ok (.putfield 83, 3) := by decide +kernel
theorem d89_205 : decode (tBc 89) 205 = .ok (.aload_n 0, 1) := by decide +kernel
theorem d89_206 : decode (tBc 89) 206 = .ok (.bipush 60, 2) := by decide +kernel
theorem d89_208 : decode (tBc 89) 208 = .ok (.newarray .int, 2) := by decide +kernel
theorem d89_210 : decode (tBc 89) 210 = .ok (.putfield 86, 3) := by decide +kernel
theorem d89_213 : decode (tBc 89) 213 = .ok (.aload_n 0, 1) := by decide +kernel
theorem d89_214 : decode (tBc 89) 214 = .ok (.sipush 900, 3) := by decide +kernel
theorem d89_217 : decode (tBc 89) 217 = .ok (.newarray .int, 2) := by decide +kernel
theorem d89_219 : decode (tBc 89) 219 = .ok (.putfield 89, 3) := by decide +kernel
theorem d89_222 : decode (tBc 89) 222 = .ok (.aload_n 0, 1) := by decide +kernel
theorem d89_223 : decode (tBc 89) 223 = .ok (.bipush 120, 2) := by decide +kernel
theorem d89_225 : decode (tBc 89) 225 = .ok (.newarray .int, 2) := by decide +kernel
theorem d89_227 : decode (tBc 89) 227 = .ok (.putfield 92, 3) := by decide +kernel
theorem d89_230 : decode (tBc 89) 230 = .ok (.aload_n 0, 1) := by decide +kernel
theorem d89_231 : decode (tBc 89) 231 = .ok (.bipush 120, 2) := by decide +kernel
theorem d89_233 : decode (tBc 89) 233 = .ok (.newarray .int, 2) := by decide +kernel
theorem d89_235 : decode (tBc 89) 235 = .ok (.putfield 95, 3) := by decide +kernel
theorem d89_238 : decode (tBc 89) 238 = .ok (.aload_n 0, 1) := by decide +kernel
theorem d89_239 : decode (tBc 89) 239 = .ok (.bipush 40, 2) := by decide +kernel
theorem d89_241 : decode (tBc 89) 241 = .ok (.newarray .int, 2) := by decide +kernel
theorem d89_243 : decode (tBc 89) 243 = .ok (.putfield 98, 3) := by decide +kernel
theorem d89_246 : decode (tBc 89) 246 = .ok (.aload_n 0, 1) := by decide +kernel
theorem d89_247 : decode (tBc 89) 247 = .ok (.bipush 40, 2) := by decide +kernel
theorem d89_249 : decode (tBc 89) 249 = .ok (.newarray .int, 2) := by decide +kernel
theorem d89_251 : decode (tBc 89) 251 = .ok (.putfield 101, 3) := by decide +kernel
theorem d89_254 : decode (tBc 89) 254 = .ok (.aload_n 0, 1) := by decide +kernel
theorem d89_255 : decode (tBc 89) 255 = .ok (.bipush 40, 2) := by decide +kernel
theorem d89_257 : decode (tBc 89) 257 = .ok (.newarray .int, 2) := by decide +kernel
theorem d89_259 : decode (tBc 89) 259 = .ok (.putfield 104, 3) := by decide +kernel
theorem d89_262 : decode (tBc 89) 262 = .ok (.aload_n 0, 1) := by decide +kernel
theorem d89_263 : decode (tBc 89) 263 = .ok (.bipush 40, 2) := by decide +kernel
theorem d89_265 : decode (tBc 89) 265 = .ok (.newarray .int, 2) := by decide +kernel
theorem d89_267 : decode (tBc 89) 267 = .ok (.putfield 107, 3) := by decide +kernel
theorem d89_270 : decode (tBc 89) 270 = .ok (.aload_n 0, 1) := by decide +kernel
theorem d89_271 : decode (tBc 89) 271 = .ok (.bipush 40, 2) := by decide +kernel
theorem d89_273 : decode (tBc 89) 273 = .ok (.newarray .int, 2) := by decide +kernel
theorem d89_275 : decode (tBc 89) 275 = .ok (.putfield 110, 3) := by decide +kernel
theorem d89_278 : decode (tBc 89) 278 = .ok (.aload_n 0, 1) := by decide +kernel
theorem d89_279 : decode (tBc 89) 279 = .ok (.iconst 3, 1) := by decide +kernel
theorem d89_280 : decode (tBc 89) 280 = .ok (.newarray .int, 2) := by decide +kernel
theorem d89_282 : decode (tBc 89) 282 = .ok (.dup, 1) := by decide +kernel
theorem d89_283 : decode (tBc 89) 283 = .ok (.iconst 0, 1) := by decide +kernel
theorem d89_284 : decode (tBc 89) 284 = .ok (.iconst (-1), 1) := by decide +kernel
theorem d89_285 : decode (tBc 89) 285 = .ok (.iastore, 1) := by decide +kernel
theorem d89_286 : decode (tBc 89) 286 = .ok (.dup, 1) := by decide +kernel
theorem d89_287 : decode (tBc 89) 287 = .ok (.iconst 1, 1) := by decide +kernel
theorem d89_288 : decode (tBc 89) 288 = .ok (.iconst (-1), 1) := by decide +kernel
theorem d89_289 : decode (tBc 89) 289 = .ok (.iastore, 1) := by decide +kernel
theorem d89_290 : decode (tBc 89) 290 = .ok (.dup, 1) := by decide +kernel
theorem d89_291 : decode (tBc 89) 291 = .ok (.iconst 2, 1) := by decide +kernel
theorem d89_292 : decode (tBc 89) 292 = .ok (.iconst (-1), 1) := by decide +kernel
theorem d89_293 : decode (tBc 89) 293 = .ok (.iastore, 1) := by decide +kernel
theorem d89_294 : decode (tBc 89) 294 = .ok (.putfield 113, 3) := by decide +kernel
theorem d89_297 : decode (tBc 89) 297 = .ok (.aload_n 0, 1) := by decide +kernel
theorem d89_298 : decode (tBc 89) 298 = .ok (.bipush 90, 2) := by decide +kernel
theorem d89_300 : decode (tBc 89) 300 = .ok (.newarray .long, 2) := by decide +kernel
theorem d89_302 : decode (tBc 89) 302 = .ok (.putfield 116, 3) := by decide +kernel
theorem d89_305 : decode (tBc 89) 305 = .ok (.aload_n 0, 1) := by decide +kernel
theorem d89_306 : decode (tBc 89) 306 = .ok (.sipush 10048, 3) := by decide +kernel
theorem d89_309 : decode (tBc 89) 309 = .ok (.newarray .int, 2) := by decide +kernel
theorem d89_311 : decode (tBc 89) 311 = .ok (.putfield 120, 3) := by decide +kernel
theorem d89_314 : decode (tBc 89) 314 = .ok (.aload_n 0, 1) := by decide +kernel
theorem d89_315 : decode (tBc 89) 315 = .ok (.bipush 31, 2) := by decide +kernel
theorem d89_317 : decode (tBc 89) 317 = .ok (.newarray .int, 2) := by decide +kernel
theorem d89_319 : decode (tBc 89) 319 = .ok (.putfield 123, 3) := by decide +kernel
theorem d89_322 : decode (tBc 89) 322 = .ok (.aload_n 0, 1) := by decide +kernel
theorem d89_323 : decode (tBc 89) 323 = .ok (.sipush 930, 3) := by decide +kernel
theorem d89_326 : decode (tBc 89) 326 = .ok (.newarray .long, 2) := by decide +kernel
theorem d89_328 : decode (tBc 89) 328 = .ok (.putfield 126, 3) := by decide +kernel
theorem d89_331 : decode (tBc 89) 331 = .ok (.aload_n 0, 1) := by decide +kernel
theorem d89_332 : decode (tBc 89) 332 = .ok (.bipush 31, 2) := by decide +kernel
theorem d89_334 : decode (tBc 89) 334 = .ok (.newarray .int, 2) := by decide +kernel
theorem d89_336 : decode (tBc 89) 336 = .ok (.putfield 129, 3) := by decide +kernel
theorem d89_339 : decode (tBc 89) 339 = .ok (.aload_n 0, 1) := by decide +kernel
theorem d89_340 : decode (tBc 89) 340 = .ok (.sipush 700, 3) := by decide +kernel
theorem d89_343 : decode (tBc 89) 343 = .ok (.newarray .int, 2) := by decide +kernel
theorem d89_345 : decode (tBc 89) 345 = .ok (.putfield 132, 3) := by decide +kernel
theorem d89_348 : decode (tBc 89) 348 = .ok (.aload_n 0, 1) := by decide +kernel
theorem d89_349 : decode (tBc 89) 349 = .ok (.bipush 120, 2) := by decide +kernel
theorem d89_351 : decode (tBc 89) 351 = .ok (.newarray .int, 2) := by decide +kernel
theorem d89_353 : decode (tBc 89) 353 = .ok (.putfield 135, 3) := by decide +kernel
theorem d89_356 : decode (tBc 89) 356 = .ok (.aload_n 0, 1) := by decide +kernel
theorem d89_357 : decode (tBc 89) 357 = .ok (.invokevirtual 138, 3) := by decide +kernel
theorem d89_360 : decode (tBc 89) 360 = .ok (.return_, 1) := by decide +kernel
theorem d90_0 : decode (tBc 90) 0 = .ok (.iconst 0, 1) := by decide +kernel
theorem d90_1 : decode (tBc 90) 1 = .ok (.istore_n 1, 1) := by decide +kernel
theorem d90_2 : decode (tBc 90) 2 = .ok (.iload_n 1, 1) := by decide +kernel
theorem d90_3 : decode (tBc 90) 3 = .ok (.bipush 21, 2) := by decide +kernel
theorem d90_5 : decode (tBc 90) 5 = .ok (.if_icmp .ge 16, 3) := by decide +kernel
theorem d90_8 : decode (tBc 90) 8 = .ok (.aload_n 0, 1) := by decide +kernel
theorem d90_9 : decode (tBc 90) 9 = .ok (.getfield 44, 3) := by decide +kernel
theorem d90_12 : decode (tBc 90) 12 = .ok (.iload_n 1, 1) := by decide +kernel
theorem d90_13 : decode (tBc 90) 13 = .ok (.iconst (-1), 1) := by decide +kernel
theorem d90_14 : decode (tBc 90) 14 = .ok (.iastore, 1) := by decide +kernel
theorem d90_15 : decode (tBc 90) 15 = .ok (.iinc 1 1, 3) := by decide +kernel
theorem d90_18 : decode (tBc 90) 18 = .ok (.goto (-16), 3) := by decide +kernel
theorem d90_21 : decode (tBc 90) 21 = .ok (.iconst 0, 1) := by decide +kernel
theorem d90_22 : decode (tBc 90) 22 = .ok (.istore_n 1, 1) := by decide +kernel
theorem d90_23 : decode (tBc 90) 23 = .ok (.iload_n 1, 1) := by decide +kernel
theorem d90_24 : decode (tBc 90) 24 = .ok (.bipush 40, 2) := by decide +kernel
theorem d90_26 : decode (tBc 90) 26 = .ok (.if_icmp .ge 16, 3) := by decide +kernel
theorem d90_29 : decode (tBc 90) 29 = .ok (.aload_n 0, 1) := by decide +kernel
theorem d90_30 : decode (tBc 90) 30 = .ok (.getfield 53, 3) := by decide +kernel
theorem d90_33 : decode (tBc 90) 33 = .ok (.iload_n 1, 1) := by decide +kernel
theorem d90_34 : decode (tBc 90) 34 = .ok (.iconst (-1), 1) := by decide +kernel
theorem d90_35 : decode (tBc 90) 35 = .ok (.iastore, 1) := by decide +kernel
theorem d90_36 : decode (tBc 90) 36 = .ok (.iinc 1 1, 3) := by decide +kernel
theorem d90_39 : decode (tBc 90) 39 = .ok (.goto (-16), 3) := by decide +kernel
theorem d90_42 : decode (tBc 90) 42 = .ok (.iconst 0, 1) := by decide +kernel
theorem d90_43 : decode (tBc 90) 43 = .ok (.istore_n 1, 1) := by decide +kernel
theorem d90_44 : decode (tBc 90) 44 = .ok (.iload_n 1, 1) := by decide +kernel
theorem d90_45 : decode (tBc 90) 45 = .ok (.bipush 30, 2) := by decide +kernel
theorem d90_47 : decode (tBc 90) 47 = .ok (.if_icmp .ge 16, 3) := by decide +kernel
theorem d90_50 : decode (tBc 90) 50 = .ok (.aload_n 0, 1) := by decide +kernel
theorem d90_51 : decode (tBc 90) 51 = .ok (.getfield 65, 3) := by decide +kernel
theorem d90_54 : decode (tBc 90) 54 = .ok (.iload_n 1, 1) := by decide +kernel
theorem d90_55 : decode (tBc 90) 55 = .ok (.iconst (-1), 1) := by decide +kernel
theorem d90_56 : decode (tBc 90) 56 = .ok (.iastore, 1) := by decide +kernel
theorem d90_57 : decode (tBc 90) 57 = .ok (.iinc 1 1, 3) := by decide +kernel
theorem d90_60 : decode (tBc 90) 60 = .ok (.goto (-16), 3) := by decide +kernel
theorem d90_63 : decode (tBc 90) 63 = .ok (.aload_n 0, 1) := by decide +kernel
theorem d90_64 : decode (tBc 90) 64 = .ok (.iconst 0, 1) := by decide +kernel
theorem d90_65 : decode (tBc 90) 65 = .ok (.putfield 209, 3) := by decide +kernel
theorem d90_68 : decode (tBc 90) 68 = .ok (.aload_n 0, 1) := by decide +kernel
theorem d90_69 : decode (tBc 90) 69 = .ok (.iconst 0, 1) := by decide +kernel
theorem d90_70 : decode (tBc 90) 70 = .ok (.putfield 212, 3) := by decide +kernel
theorem d90_73 : decode (tBc 90) 73 = .ok (.aload_n 0, 1) := by decide +kernel
theorem d90_74 : decode (tBc 90) 74 = .ok (.iconst 0, 1) := by decide +kernel
theorem d90_75 : decode (tBc 90) 75 = .ok (.putfield 215, 3) := by decide +kernel
theorem d90_78 : decode (tBc 90) 78 = .ok (.iconst 0, 1) := by decide +kernel
theorem d90_79 : decode (tBc 90) 79 = .ok (.istore_n 1, 1) := by decide +kernel
theorem d90_80 : decode (tBc 90) 80 = .ok (.iload_n 1, 1) := by decide +kernel
theorem d90_81 : decode (tBc 90) 81 = .ok (.sipush 2040, 3) := by decide +kernel
theorem d90_84 : decode (tBc 90) 84 = .ok (.if_icmp .ge 16, 3) := by decide +kernel
theorem d90_87 : decode (tBc 90) 87 = .ok (.aload_n 0, 1) := by decide +kernel
theorem d90_88 : decode (tBc 90) 88 = .ok (.getfield 74, 3) := by decide +kernel
theorem d90_91 : decode (tBc 90) 91 = .ok (.iload_n 1, 1) := by decide +kernel
theorem d90_92 : decode (tBc 90) 92 = .ok (.iconst (-1), 1) := by decide +kernel
theorem d90_93 : decode (tBc 90) 93 = .ok (.iastore, 1) := by decide +kernel
theorem d90_94 : decode (tBc 90) 94 = .ok (.iinc 1 1, 3) := by decide +kernel
theorem d90_97 : decode (tBc 90) 97 = .ok (.goto (-17), 3) := by decide +kernel
theorem d90_100 : decode (tBc 90) 100 = .ok (.aload_n 0, 1) := by decide +kernel
theorem d90_101 : decode (tBc 90) 101 = .ok (.iconst 1, 1) := by decide +kernel
theorem d90_102 : decode (tBc 90) 102 = .ok (.putfield 219, 3) := by decide +kernel
theorem d90_105 : decode (tBc 90) 105 = .ok (.aload_n 0, 1) := by decide +kernel
theorem d90_106 : decode (tBc 90) 106 = .ok (.getfield 89, 3) := by decide +kernel
theorem d90_109 : decode (tBc 90) 109 = .ok (.iconst 0, 1) := by decide +kernel
theorem d90_110 : decode (tBc 90) 110 = .ok (.bipush 48, 2) := by decide +kernel
theorem d90_112 : decode (tBc 90) 112 = .ok (.iastore, 1) := by decide +kernel
theorem d90_113 : decode (tBc 90) 113 = .ok (.return_, 1) := by decide +kernel
theorem d91_0 : decode (tBc 91) 0 = .ok (.aload_n 0, 1) := by decide +kernel
theorem d91_1 : decode (tBc 91) 1 = .ok (.getfield 141, 3) := by decide +kernel
theorem d91_4 : decode (tBc 91) 4 = .ok (.ireturn, 1) := by decide +kernel
theorem d92_0 : decode (tBc 92) 0 = .ok (.aload_n 0, 1) := by decide +kernel
theorem d92_1 : decode (tBc 92) 1 = .ok (.iconst 0, 1) := by decide +kernel
theorem d92_2 : decode (tBc 92) 2 = .ok (.putfield 141, 3) := by decide +kernel
theorem d92_5 : decode (tBc 92) 5 = .ok (.iload_n 3, 1) := by decide +kernel
theorem d92_6 : decode (tBc 92) 6 = .ok (.iconst 1, 1) := by decide +kernel
theorem d92_7 : decode (tBc 92) 7 = .ok (.bipush 8, 2) := by decide +kernel
theorem d92_9 : decode (tBc 92) 9 = .ok (.invokestatic 148, 3) := by decide +kernel
theorem d92_12 : decode (tBc 92) 12 = .ok (.ifCond .ne 9, 3) := by decide +kernel
theorem d92_15 : decode (tBc 92) 15 = .ok (.aload_n 0, 1) := by decide +kernel
theorem d92_16 : decode (tBc 92) 16 = .ok (.iconst 1, 1) := by decide +kernel
theorem d92_17 : decode (tBc 92) 17 = .ok (.invokevirtual 152, 3) := by decide +kernel
theorem d92_20 : decode (tBc 92) 20 = .ok (.ireturn, 1) := by decide +kernel
theorem d92_21 : decode (tBc 92) 21 = .ok (.iconst 1, 1) := by decide +kernel
theorem d92_22 : decode (tBc 92) 22 = .ok (.istore 4, 2) := by decide +kernel
theorem d92_24 : decode (tBc 92) 24 = .ok (.iconst 0, 1) := by decide +kernel
theorem d92_25 : decode (tBc 92) 25 = .ok (.istore 5, 2) := by decide +kernel
theorem d92_27 : decode (tBc 92) 27 = .ok (.iload 5, 2) := by decide +kernel
theorem d92_29 : decode (tBc 92) 29 = .ok (.iload_n 3, 1) := by decide +kernel
theorem d92_30 : decode (tBc 92) 30 = .ok (.if_icmp .ge 43, 3) := by decide +kernel
theorem d92_33 : decode (tBc 92) 33 = .ok (.iload 4, 2) := by decide +kernel
theorem d92_35 : decode (tBc 92) 35 = .ok (.ifCond .eq 29, 3) := by decide +kernel
theorem d92_38 : decode (tBc 92) 38 = .ok (.lload_n 1, 1) := by decide +kernel
theorem d92_39 : decode (tBc 92) 39 = .ok (.bipush 8, 2) := by decide +kernel
theorem d92_41 : decode (tBc 92) 41 = .ok (.iload 5, 2) := by decide +kernel
theorem d92_43 : decode (tBc 92) 43 = .ok (.imul, 1) := by decide +kernel
theorem d92_44 : decode (tBc 92) 44 = .ok (.lshr, 1) := by decide +kernel
theorem d92_45 : decode (tBc 92) 45 = .ok (.ldc2_w 156, 3) := by decide +kernel
theorem d92_48 : decode (tBc 92) 48 = .ok (.land, 1) := by decide +kernel
theorem d92_49 : decode (tBc 92) 49 = .ok (.l2i, 1) := by decide +kernel
theorem d92_50 : decode (tBc 92) 50 = .ok (.bipush 32, 2) := by decide +kernel
theorem d92_52 : decode (tBc 92) 52 = .ok (.bipush 126, 2) := by decide +kernel
theorem d92_54 : decode (tBc 92) 54 = .ok (.invokestatic 148, 3) := by decide +kernel
theorem d92_57 : decode (tBc 92) 57 = .ok (.ifCond .eq 7, 3) := by decide +kernel
theorem d92_60 : decode (tBc 92) 60 = .ok (.iconst 1, 1) := by decide +kernel
theorem d92_61 : decode (tBc 92) 61 = .ok (.goto 4, 3) := by decide +kernel
theorem d92_64 : decode (tBc 92) 64 = .ok (.iconst 0, 1) := by decide +kernel
theorem d92_65 : decode (tBc 92) 65 = .ok (.istore 4, 2) := by decide +kernel
theorem d92_67 : decode (tBc 92) 67 = .ok (.iinc 5 1, 3) := by decide +kernel
theorem d92_70 : decode (tBc 92) 70 = .ok (.goto (-43), 3) := by decide +kernel
theorem d92_73 : decode (tBc 92) 73 = .ok (.iload 4, 2) := by decide +kernel
theorem d92_75 : decode (tBc 92) 75 = .ok (.ifCond .ne 9, 3) := by decide +kernel
theorem d92_78 : decode (tBc 92) 78 = .ok (.aload_n 0, 1) := by decide +kernel
theorem d92_79 : decode (tBc 92) 79 = .ok (.iconst 1, 1) := by decide +kernel
theorem d92_80 : decode (tBc 92) 80 = .ok (.invokevirtual 152, 3) := by decide +kernel
theorem d92_83 : decode (tBc 92) 83 = .ok (.ireturn, 1) := by decide +kernel
theorem d92_84 : decode (tBc 92) 84 = .ok (.aload_n 0, 1) := by decide +kernel
theorem d92_85 : decode (tBc 92) 85 = .ok (.getfield 158, 3) := by decide +kernel
theorem d92_88 : decode (tBc 92) 88 = .ok (.iload_n 3, 1) := by decide +kernel
theorem d92_89 : decode (tBc 92) 89 = .ok (.iadd, 1) := by decide +kernel
theorem d92_90 : decode (tBc 92) 90 = .ok (.bipush 120, 2) := by decide +kernel
theorem d92_92 : decode (tBc 92) 92 = .ok (.if_icmp .le 9, 3) := by decide +kernel
theorem d92_95 : decode (tBc 92) 95 = .ok (.aload_n 0, 1) := by decide +kernel
theorem d92_96 : decode (tBc 92) 96 = .ok (.iconst 2, 1) := by decide +kernel
theorem d92_97 : decode (tBc 92) 97 = .ok (.invokevirtual 152, 3) := by decide +kernel
theorem d92_100 : decode (tBc 92) 100 = .ok (.ireturn, 1) := by decide +kernel
theorem d92_101 : decode (tBc 92) 101 = .ok (.iconst 0, 1) := by decide +kernel
theorem d92_102 : decode (tBc 92) 102 = .ok (.istore 5, 2) := by decide +kernel
theorem d92_104 : decode (tBc 92) 104 = .ok (.iload 5, 2) := by decide +kernel
theorem d92_106 : decode (tBc 92) 106 = .ok (.iload_n 3, 1) := by decide +kernel
theorem d92_107 : decode (tBc 92) 107 = .ok (.if_icmp .ge 33, 3) := by decide +kernel
theorem d92_110 : decode (tBc 92) 110 = .ok (.aload_n 0, 1) := by decide +kernel
theorem d92_111 : decode (tBc 92) 111 = .ok (.getfield 7, 3) := by decide +kernel
theorem d92_114 : decode (tBc 92) 114 = .ok (.aload_n 0, 1) := by decide +kernel
theorem d92_115 : decode (tBc 92) 115 = .ok (.getfield 158, 3) := by decide +kernel
theorem d92_118 : decode (tBc 92) 118 = .ok (.iload 5, 2) := by decide +kernel
theorem d92_120 : decode (tBc 92) 120 = .ok (.iadd, 1) := by decide +kernel
theorem d92_121 : decode (tBc 92) 121 = .ok (.lload_n 1, 1) := by decide +kernel
theorem d92_122 : decode (tBc 92) 122 = .ok (.bipush 8, 2) := by decide +kernel
theorem d92_124 : decode (tBc 92) 124 = .ok (.iload 5, 2) := by decide +kernel
theorem d92_126 : decode (tBc 92) 126 = .ok (.imul, 1) := by decide +kernel
theorem d92_127 : decode (tBc 92) 127 = .ok (.lshr, 1) := by decide +kernel
theorem d92_128 : decode (tBc 92) 128 = .ok (.ldc2_w 156, 3) := by decide +kernel
theorem d92_131 : decode (tBc 92) 131 = .ok (.land, 1) := by decide +kernel
theorem d92_132 : decode (tBc 92) 132 = .ok (.l2i, 1) := by decide +kernel
theorem d92_133 : decode (tBc 92) 133 = .ok (.iastore, 1) := by decide +kernel
theorem d92_134 : decode (tBc 92) 134 = .ok (.iinc 5 1, 3) := by decide +kernel
theorem d92_137 : decode (tBc 92) 137 = .ok (.goto (-33), 3) := by decide +kernel
theorem d92_140 : decode (tBc 92) 140 = .ok (.aload_n 0, 1) := by decide +kernel
theorem d92_141 : decode (tBc 92) 141 = .ok (.dup, 1) := by decide +kernel
theorem d92_142 : decode (tBc 92) 142 = .ok (.getfield 158, 3) := by decide +kernel
theorem d92_145 : decode (tBc 92) 145 = .ok (.iload_n 3, 1) := by decide +kernel
theorem d92_146 : decode (tBc 92) 146 = .ok (.iadd, 1) := by decide +kernel
theorem d92_147 : decode (tBc 92) 147 = .ok (.putfield 158, 3) := by decide +kernel
theorem d92_150 : decode (tBc 92) 150 = .ok (.aload_n 0, 1) := by decide +kernel
theorem d92_151 : decode (tBc 92) 151 = .ok (.getfield 158, 3) := by decide +kernel
theorem d92_154 : decode (tBc 92) 154 = .ok (.ireturn, 1) := by decide +kernel
theorem d93_0 : decode (tBc 93) 0 = .ok (.iload_n 0, 1) := by decide +kernel
theorem d93_1 : decode (tBc 93) 1 = .ok (.iload_n 1, 1) := by decide +kernel
theorem d93_2 : decode (tBc 93) 2 = .ok (.if_icmp .lt 12, 3) := by decide +kernel
theorem d93_5 : decode (tBc 93) 5 = .ok (.iload_n 0, 1) := by decide +kernel
theorem d93_6 : decode (tBc 93) 6 = .ok (.iload_n 2, 1) := by decide +kernel
theorem d93_7 : decode (tBc 93) 7 = .ok (.if_icmp .gt 7, 3) := by decide +kernel
theorem d93_10 : decode (tBc 93) 10 = .ok (.iconst 1, 1) := by decide +kernel
theorem d93_11 : decode (tBc 93) 11 = .ok (.goto 4, 3) := by decide +kernel
theorem d93_14 : decode (tBc 93) 14 = .ok (.iconst 0, 1) := by decide +kernel
theorem d93_15 : decode (tBc 93) 15 = .ok (.ireturn, 1) := by decide +kernel
theorem d94_0 : decode (tBc 94) 0 = .ok (.aload_n 0, 1) := by decide +kernel
theorem d94_1 : decode (tBc 94) 1 = .ok (.iload_n 1, 1) := by decide +kernel
theorem d94_2 : decode (tBc 94) 2 = .ok (.putfield 141, 3) := by decide +kernel
theorem d94_5 : decode (tBc 94) 5 = .ok (.iconst 0, 1) := by decide +kernel
theorem d94_6 : decode (tBc 94) 6 = .ok (.ireturn, 1) := by decide +kernel
theorem d95_0 : decode (tBc 95) 0 = .ok (.aload_n 0, 1) := by decide +kernel
theorem d95_1 : decode (tBc 95) 1 = .ok (.iconst 0, 1) := by decide +kernel
theorem d95_2 : decode (tBc 95) 2 = .ok (.putfield 141, 3) := by decide +kernel
theorem d95_5 : decode (tBc 95) 5 = .ok (.aload_n 0, 1) := by decide +kernel
theorem d95_6 : decode (tBc 95) 6 = .ok (.getfield 158, 3) := by decide +kernel
theorem d95_9 : decode (tBc 95) 9 = .ok (.istore_n 1, 1) := by decide +kernel
theorem d95_10 : decode (tBc 95) 10 = .ok (.aload_n 0, 1) := by decide +kernel
theorem d95_11 : decode (tBc 95) 11 = .ok (.iconst 0, 1) := by decide +kernel
theorem d95_12 : decode (tBc 95) 12 = .ok (.putfield 158, 3) := by decide +kernel
theorem d95_15 : decode (tBc 95) 15 = .ok (.iload_n 1, 1) := by decide +kernel
theorem d95_16 : decode (tBc 95) 16 = .ok (.ireturn, 1) := by decide +kernel
theorem d96_0 : decode (tBc 96) 0 = .ok (.aload_n 0, 1) := by decide +kernel
theorem d96_1 : decode (tBc 96) 1 = .ok (.iconst 0, 1) := by decide +kernel
theorem d96_2 : decode (tBc 96) 2 = .ok (.putfield 141, 3) := by decide +kernel
theorem d96_5 : decode (tBc 96) 5 = .ok (.aload_n 0, 1) := by decide +kernel
theorem d96_6 : decode (tBc 96) 6 = .ok (.iconst 0, 1) := by decide +kernel
theorem d96_7 : decode (tBc 96) 7 = .ok (.putfield 145, 3) := by decide +kernel
theorem d96_10 : decode (tBc 96) 10 = .ok (.aload_n 0, 1) := by decide +kernel
theorem d96_11 : decode (tBc 96) 11 = .ok (.iconst 0, 1) := by decide +kernel
theorem d96_12 : decode (tBc 96) 12 = .ok (.putfield 316, 3) := by decide +kernel
theorem d96_15 : decode (tBc 96) 15 = .ok (.aload_n 0, 1) := by decide +kernel
theorem d96_16 : decode (tBc 96) 16 = .ok (.invokevirtual 138, 3) := by decide +kernel
theorem d96_19 : decode (tBc 96) 19 = .ok (.aload_n 0, 1) := by decide +kernel
theorem d96_20 : decode (tBc 96) 20 = .ok (.invokevirtual 319, 3) := by decide +kernel
theorem d96_23 : decode (tBc 96) 23 = .ok (.aload_n 0, 1) := by decide +kernel
theorem d96_24 : decode (tBc 96) 24 = .ok (.getfield 145, 3) := by decide +kernel
theorem d96_27 : decode (tBc 96) 27 = .ok (.ifCond .ne 34, 3) := by decide +kernel
theorem d96_30 : decode (tBc 96) 30 = .ok (.aload_n 0, 1) := by decide +kernel
theorem d96_31 : decode (tBc 96) 31 = .ok (.bipush 50, 2) := by decide +kernel
theorem d96_33 : decode (tBc 96) 33 = .ok (.iconst 0, 1) := by decide +kernel
theorem d96_34 : decode (tBc 96) 34 = .ok (.iconst 0, 1) := by decide +kernel
theorem d96_35 : decode (tBc 96) 35 = .ok (.invokevirtual 310, 3) := by decide +kernel
theorem d96_38 : decode (tBc 96) 38 = .ok (.aload_n 0, 1) := by decide +kernel
theorem d96_39 : decode (tBc 96) 39 = .ok (.getfield 215, 3) := by decide +kernel
theorem d96_42 : decode (tBc 96) 42 = .ok (.ifCond .ne 7, 3) := by decide +kernel
theorem d96_45 : decode (tBc 96) 45 = .ok (.aload_n 0, 1) := by decide +kernel
theorem d96_46 : decode (tBc 96) 46 = .ok (.invokevirtual 313, 3) := by decide +kernel
theorem d96_49 : decode (tBc 96) 49 = .ok (.aload_n 0, 1) := by decide +kernel
theorem d96_50 : decode (tBc 96) 50 = .ok (.getfield 215, 3) := by decide +kernel
theorem d96_53 : decode (tBc 96) 53 = .ok (.ifCond .eq 8, 3) := by decide +kernel
theorem d96_56 : decode (tBc 96) 56 = .ok (.aload_n 0, 1) := by decide +kernel
theorem d96_57 : decode (tBc 96) 57 = .ok (.iconst 3, 1) := by decide +kernel
theorem d96_58 : decode (tBc 96) 58 = .ok (.invokevirtual 170, 3) := by decide +kernel
theorem d96_61 : decode (tBc 96) 61 = .ok (.aload_n 0, 1) := by decide +kernel
theorem d96_62 : decode (tBc 96) 62 = .ok (.getfield 145, 3) := by decide +kernel
theorem d96_65 : decode (tBc 96) 65 = .ok (.ifCond .le 20, 3) := by decide +kernel
theorem d96_68 : decode (tBc 96) 68 = .ok (.aload_n 0, 1) := by decide +kernel
theorem d96_69 : decode (tBc 96) 69 = .ok (.invokevirtual 138, 3) := by decide +kernel
theorem d96_72 : decode (tBc 96) 72 = .ok (.aload_n 0, 1) := by decide +kernel
theorem d96_73 : decode (tBc 96) 73 = .ok (.invokevirtual 322, 3) := by decide +kernel
theorem d96_76 : decode (tBc 96) 76 = .ok (.aload_n 0, 1) := by decide +kernel
theorem d96_77 : decode (tBc 96) 77 = .ok (.aload_n 0, 1) := by decide +kernel
theorem d96_78 : decode (tBc 96) 78 = .ok (.getfield 145, 3) := by decide +kernel
theorem d96_81 : decode (tBc 96) 81 = .ok (.invokevirtual 152, 3) := by decide +kernel
theorem d96_84 : decode (tBc 96) 84 = .ok (.ireturn, 1) := by decide +kernel
theorem d96_85 : decode (tBc 96) 85 = .ok (.aload_n 0, 1) := by decide +kernel
theorem d96_86 : decode (tBc 96) 86 = .ok (.invokevirtual 322, 3) := by decide +kernel
theorem d96_89 : decode (tBc 96) 89 = .ok (.aload_n 0, 1) := by decide +kernel
theorem d96_90 : decode (tBc 96) 90 = .ok (.getfield 167, 3) := by decide +kernel
theorem d96_93 : decode (tBc 96) 93 = .ok (.ireturn, 1) := by decide +kernel
theorem d97_0 : decode (tBc 97) 0 = .ok (.aload_n 0, 1) := by decide +kernel
theorem d97_1 : decode (tBc 97) 1 = .ok (.iconst 0, 1) := by decide +kernel
theorem d97_2 : decode (tBc 97) 2 = .ok (.putfield 164, 3) := by decide +kernel
theorem d97_5 : decode (tBc 97) 5 = .ok (.iconst 0, 1) := by decide +kernel
theorem d97_6 : decode (tBc 97) 6 = .ok (.istore_n 1, 1) := by decide +kernel
theorem d97_7 : decode (tBc 97) 7 = .ok (.iload_n 1, 1) := by decide +kernel
theorem d97_8 : decode (tBc 97) 8 = .ok (.aload_n 0, 1) := by decide +kernel
theorem d97_9 : decode (tBc 97) 9 = .ok (.getfield 158, 3) := by decide +kernel
theorem d97_12 : decode (tBc 97) 12 = .ok (.if_icmp .ge 45, 3) := by decide +kernel
theorem d97_15 : decode (tBc 97) 15 = .ok (.aload_n 0, 1) := by decide +kernel
theorem d97_16 : decode (tBc 97) 16 = .ok (.getfield 7, 3) := by decide +kernel
theorem d97_19 : decode (tBc 97) 19 = .ok (.iload_n 1, 1) := by decide +kernel
theorem d97_20 : decode (tBc 97) 20 = .ok (.iaload, 1) := by decide +kernel
theorem d97_21 : decode (tBc 97) 21 = .ok (.bipush 32, 2) := by decide +kernel
theorem d97_23 : decode (tBc 97) 23 = .ok (.if_icmp .eq 28, 3) := by decide +kernel
theorem d97_26 : decode (tBc 97) 26 = .ok (.aload_n 0, 1) := by decide +kernel
theorem d97_27 : decode (tBc 97) 27 = .ok (.getfield 13, 3) := by decide +kernel
theorem d97_30 : decode (tBc 97) 30 = .ok (.aload_n 0, 1) := by decide +kernel
theorem d97_31 : decode (tBc 97) 31 = .ok (.getfield 164, 3) := by decide +kernel
theorem d97_34 : decode (tBc 97) 34 = .ok (.aload_n 0, 1) := by decide +kernel
theorem d97_35 : decode (tBc 97) 35 = .ok (.getfield 7, 3) := by decide +kernel
theorem d97_38 : decode (tBc 97) 38 = .ok (.iload_n 1, 1) := by decide +kernel
theorem d97_39 : decode (tBc 97) 39 = .ok (.iaload, 1) := by decide +kernel
theorem d97_40 : decode (tBc 97) 40 = .ok (.iastore, 1) := by decide +kernel
theorem d97_41 : decode (tBc 97) 41 = .ok (.aload_n 0, 1) := by decide +kernel
theorem d97_42 : decode (tBc 97) 42 = .ok (.dup, 1) := by decide +kernel
theorem d97_43 : decode (tBc 97) 43 = .ok (.getfield 164, 3) := by decide +kernel
theorem d97_46 : decode (tBc 97) 46 = .ok (.iconst 1, 1) := by decide +kernel
theorem d97_47 : decode (tBc 97) 47 = .ok (.iadd, 1) := by decide +kernel
theorem d97_48 : decode (tBc 97) 48 = .ok (.putfield 164, 3) := by decide +kernel
theorem d97_51 : decode (tBc 97) 51 = .ok (.iinc 1 1, 3) := by decide +kernel
theorem d97_54 : decode (tBc 97) 54 = .ok (.goto (-47), 3) := by decide +kernel
theorem d97_57 : decode (tBc 97) 57 = .ok (.aload_n 0, 1) := by decide +kernel
theorem d97_58 : decode (tBc 97) 58 = .ok (.iconst 0, 1) := by decide +kernel
theorem d97_59 : decode (tBc 97) 59 = .ok (.putfield 161, 3) := by decide +kernel
theorem d97_62 : decode (tBc 97) 62 = .ok (.aload_n 0, 1) := by decide +kernel
theorem d97_63 : decode (tBc 97) 63 = .ok (.iconst 0, 1) := by decide +kernel
theorem d97_64 : decode (tBc 97) 64 = .ok (.putfield 167, 3) := by decide +kernel
theorem d97_67 : decode (tBc 97) 67 = .ok (.aload_n 0, 1) := by decide +kernel
theorem d97_68 : decode (tBc 97) 68 = .ok (.iconst 0, 1) := by decide +kernel
theorem d97_69 : decode (tBc 97) 69 = .ok (.putfield 174, 3) := by decide +kernel
theorem d97_72 : decode (tBc 97) 72 = .ok (.aload_n 0, 1) := by decide +kernel
theorem d97_73 : decode (tBc 97) 73 = .ok (.getfield 26, 3) := by decide +kernel
theorem d97_76 : decode (tBc 97) 76 = .ok (.bipush 50, 2) := by decide +kernel
theorem d97_78 : decode (tBc 97) 78 = .ok (.iconst (-1), 1) := by decide +kernel
theorem d97_79 : decode (tBc 97) 79 = .ok (.iastore, 1) := by decide +kernel
theorem d97_80 : decode (tBc 97) 80 = .ok (.aload_n 0, 1) := by decide +kernel
theorem d97_81 : decode (tBc 97) 81 = .ok (.iconst 0, 1) := by decide +kernel
theorem d97_82 : decode (tBc 97) 82 = .ok (.bipush 50, 2) := by decide +kernel
theorem d97_84 : decode (tBc 97) 84 = .ok (.iconst 0, 1) := by decide +kernel
theorem d97_85 : decode (tBc 97) 85 = .ok (.invokevirtual 194, 3) := by decide +kernel
theorem d97_88 : decode (tBc 97) 88 = .ok (.iconst 1, 1) := by decide +kernel
theorem d97_89 : decode (tBc 97) 89 = .ok (.istore_n 1, 1) := by decide +kernel
theorem d97_90 : decode (tBc 97) 90 = .ok (.iload_n 1, 1) := by decide +kernel
theorem d97_91 : decode (tBc 97) 91 = .ok (.ifCond .eq 55, 3) := by decide +kernel
theorem d97_94 : decode (tBc 97) 94 = .ok (.aload_n 0, 1) := by decide +kernel
theorem d97_95 : decode (tBc 97) 95 = .ok (.getfield 145, 3) := by decide +kernel
theorem d97_98 : decode (tBc 97) 98 = .ok (.ifCond .ne 48, 3) := by decide +kernel
theorem d97_101 : decode (tBc 97) 101 = .ok (.aload_n 0, 1) := by decide +kernel
theorem d97_102 : decode (tBc 97) 102 = .ok (.invokevirtual 202, 3) := by decide +kernel
theorem d97_105 : decode (tBc 97) 105 = .ok (.ifCond .eq 25, 3) := by decide +kernel
theorem d97_108 : decode (tBc 97) 108 = .ok (.aload_n 0, 1) := by decide +kernel
theorem d97_109 : decode (tBc 97) 109 = .ok (.getfield 145, 3) := by decide +kernel
theorem d97_112 : decode (tBc 97) 112 = .ok (.ifCond .ne 14, 3) := by decide +kernel
theorem d97_115 : decode (tBc 97) 115 = .ok (.aload_n 0, 1) := by decide +kernel
theorem d97_116 : decode (tBc 97) 116 = .ok (.invokevirtual 206, 3) := by decide +kernel
theorem d97_119 : decode (tBc 97) 119 = .ok (.ifCond .eq 7, 3) := by decide +kernel
theorem d97_122 : decode (tBc 97) 122 = .ok (.iconst 1, 1) := by decide +kernel
theorem d97_123 : decode (tBc 97) 123 = .ok (.goto 19, 3) := by decide +kernel
theorem d97_126 : decode (tBc 97) 126 = .ok (.iconst 0, 1) := by decide +kernel
theorem d97_127 : decode (tBc 97) 127 = .ok (.goto 15, 3) := by decide +kernel
theorem d97_130 : decode (tBc 97) 130 = .ok (.aload_n 0, 1) := by decide +kernel
theorem d97_131 : decode (tBc 97) 131 = .ok (.getfield 145, 3) := by decide +kernel
theorem d97_134 : decode (tBc 97) 134 = .ok (.ifCond .ne 7, 3) := by decide +kernel
theorem d97_137 : decode (tBc 97) 137 = .ok (.iconst 1, 1) := by decide +kernel
theorem d97_138 : decode (tBc 97) 138 = .ok (.goto 4, 3) := by decide +kernel
theorem d97_141 : decode (tBc 97) 141 = .ok (.iconst 0, 1) := by decide +kernel
theorem d97_142 : decode (tBc 97) 142 = .ok (.istore_n 1, 1) := by decide +kernel
theorem d97_143 : decode (tBc 97) 143 = .ok (.goto (-53), 3) := by decide +kernel
theorem d97_146 : decode (tBc 97) 146 = .ok (.return_, 1) := by decide +kernel
theorem d98_0 : decode (tBc 98) 0 = .ok (.aload_n 0, 1) := by decide +kernel
theorem d98_1 : decode (tBc 98) 1 = .ok (.getfield 35, 3) := by decide +kernel
theorem d98_4 : decode (tBc 98) 4 = .ok (.aload_n 0, 1) := by decide +kernel
theorem d98_5 : decode (tBc 98) 5 = .ok (.getfield 174, 3) := by decide +kernel
theorem d98_8 : decode (tBc 98) 8 = .ok (.iload_n 1, 1) := by decide +kernel
theorem d98_9 : decode (tBc 98) 9 = .ok (.iastore, 1) := by decide +kernel
theorem d98_10 : decode (tBc 98) 10 = .ok (.aload_n 0, 1) := by decide +kernel
theorem d98_11 : decode (tBc 98) 11 = .ok (.getfield 38, 3) := by decide +kernel
theorem d98_14 : decode (tBc 98) 14 = .ok (.aload_n 0, 1) := by decide +kernel
theorem d98_15 : decode (tBc 98) 15 = .ok (.getfield 174, 3) := by decide +kernel
theorem d98_18 : decode (tBc 98) 18 = .ok (.iload_n 2, 1) := by decide +kernel
theorem d98_19 : decode (tBc 98) 19 = .ok (.iastore, 1) := by decide +kernel
theorem d98_20 : decode (tBc 98) 20 = .ok (.aload_n 0, 1) := by decide +kernel
theorem d98_21 : decode (tBc 98) 21 = .ok (.getfield 41, 3) := by decide +kernel
theorem d98_24 : decode (tBc 98) 24 = .ok (.aload_n 0, 1) := by decide +kernel
theorem d98_25 : decode (tBc 98) 25 = .ok (.getfield 174, 3) := by decide +kernel
theorem d98_28 : decode (tBc 98) 28 = .ok (.iload_n 3, 1) := by decide +kernel
theorem d98_29 : decode (tBc 98) 29 = .ok (.iastore, 1) := by decide +kernel
theorem d98_30 : decode (tBc 98) 30 = .ok (.aload_n 0, 1) := by decide +kernel
theorem d98_31 : decode (tBc 98) 31 = .ok (.dup, 1) := by decide +kernel
theorem d98_32 : decode (tBc 98) 32 = .ok (.getfield 174, 3) := by decide +kernel
theorem d98_35 : decode (tBc 98) 35 = .ok (.iconst 1, 1) := by decide +kernel
theorem d98_36 : decode (tBc 98) 36 = .ok (.iadd, 1) := by decide +kernel
theorem d98_37 : decode (tBc 98) 37 = .ok (.putfield 174, 3) := by decide +kernel
theorem d98_40 : decode (tBc 98) 40 = .ok (.return_, 1) := by decide +kernel
theorem d99_0 : decode (tBc 99) 0 = .ok (.aload_n 0, 1) := by decide +kernel
theorem d99_1 : decode (tBc 99) 1 = .ok (.getfield 174, 3) := by decide +kernel
theorem d99_4 : decode (tBc 99) 4 = .ok (.bipush 8, 2) := by decide +kernel
theorem d99_6 : decode (tBc 99) 6 = .ok (.if_icmp .le 10, 3) := by decide +kernel
theorem d99_9 : decode (tBc 99) 9 = .ok (.aload_n 0, 1) := by decide +kernel
theorem d99_10 : decode (tBc 99) 10 = .ok (.iconst 2, 1) := by decide +kernel
theorem d99_11 : decode (tBc 99) 11 = .ok (.invokevirtual 170, 3) := by decide +kernel
theorem d99_14 : decode (tBc 99) 14 = .ok (.iconst 0, 1) := by decide +kernel
theorem d99_15 : decode (tBc 99) 15 = .ok (.ireturn, 1) := by decide +kernel
theorem d99_16 : decode (tBc 99) 16 = .ok (.aload_n 0, 1) := by decide +kernel
theorem d99_17 : decode (tBc 99) 17 = .ok (.invokevirtual 177, 3) := by decide +kernel
theorem d99_20 : decode (tBc 99) 20 = .ok (.istore_n 1, 1) := by decide +kernel
theorem d99_21 : decode (tBc 99) 21 = .ok (.iload_n 1, 1) := by decide +kernel
theorem d99_22 : decode (tBc 99) 22 = .ok (.bipush 48, 2) := by decide +kernel
theorem d99_24 : decode (tBc 99) 24 = .ok (.if_icmp .ne 15, 3) := by decide +kernel
theorem d99_27 : decode (tBc 99) 27 = .ok (.aload_n 0, 1) := by decide +kernel
theorem d99_28 : decode (tBc 99) 28 = .ok (.dup, 1) := by decide +kernel
theorem d99_29 : decode (tBc 99) 29 = .ok (.getfield 161, 3) := by decide +kernel
theorem d99_32 : decode (tBc 99) 32 = .ok (.iconst 1, 1) := by decide +kernel
theorem d99_33 : decode (tBc 99) 33 = .ok (.iadd, 1) := by decide +kernel
theorem d99_34 : decode (tBc 99) 34 = .ok (.putfield 161, 3) := by decide +kernel
theorem d99_37 : decode (tBc 99) 37 = .ok (.iconst 1, 1) := by decide +kernel
theorem d99_38 : decode (tBc 99) 38 = .ok (.ireturn, 1) := by decide +kernel
theorem d99_39 : decode (tBc 99) 39 = .ok (.iload_n 1, 1) := by decide +kernel
theorem d99_40 : decode (tBc 99) 40 = .ok (.bipush 40, 2) := by decide +kernel
theorem d99_42 : decode (tBc 99) 42 = .ok (.if_icmp .ne 43, 3) := by decide +kernel
theorem d99_45 : decode (tBc 99) 45 = .ok (.aload_n 0, 1) := by decide +kernel
theorem d99_46 : decode (tBc 99) 46 = .ok (.dup, 1) := by decide +kernel
theorem d99_47 : decode (tBc 99) 47 = .ok (.getfield 161, 3) := by decide +kernel
theorem d99_50 : decode (tBc 99) 50 = .ok (.iconst 1, 1) := by decide +kernel
theorem d99_51 : decode (tBc 99) 51 = .ok (.iadd, 1) := by decide +kernel
theorem d99_52 : decode (tBc 99) 52 = .ok (.putfield 161, 3) := by decide +kernel
theorem d99_55 : decode (tBc 99) 55 = .ok (.aload_n 0, 1) := by decide +kernel
theorem d99_56 : decode (tBc 99) 56 = .ok (.iconst 2, 1) := by decide +kernel
theorem d99_57 : decode (tBc 99) 57 = .ok (.aload_n 0, 1) := by decide +kernel
theorem d99_58 : decode (tBc 99) 58 = .ok (.getfield 38, 3) := by decide +kernel
theorem d99_61 : decode (tBc 99) 61 = .ok (.aload_n 0, 1) := by decide +kernel
theorem d99_62 : decode (tBc 99) 62 = .ok (.getfield 174, 3) := by decide +kernel
theorem d99_65 : decode (tBc 99) 65 = .ok (.iconst 1, 1) := by decide +kernel
theorem d99_66 : decode (tBc 99) 66 = .ok (.isub, 1) := by decide +kernel
theorem d99_67 : decode (tBc 99) 67 = .ok (.iaload, 1) := by decide +kernel
theorem d99_68 : decode (tBc 99) 68 = .ok (.aload_n 0, 1) := by decide +kernel
theorem d99_69 : decode (tBc 99) 69 = .ok (.getfield 41, 3) := by decide +kernel
theorem d99_72 : decode (tBc 99) 72 = .ok (.aload_n 0, 1) := by decide +kernel
theorem d99_73 : decode (tBc 99) 73 = .ok (.getfield 174, 3) := by decide +kernel
theorem d99_76 : decode (tBc 99) 76 = .ok (.iconst 1, 1) := by decide +kernel
theorem d99_77 : decode (tBc 99) 77 = .ok (.isub, 1) := by decide +kernel
theorem d99_78 : decode (tBc 99) 78 = .ok (.iaload, 1) := by decide +kernel
theorem d99_79 : decode (tBc 99) 79 = .ok (.invokevirtual 194, 3) := by decide +kernel
theorem d99_82 : decode (tBc 99) 82 = .ok (.goto 182, 3) := by decide +kernel
theorem d99_85 : decode (tBc 99) 85 = .ok (.iload_n 1, 1) := by decide +kernel
theorem d99_86 : decode (tBc 99) 86 = .ok (.bipush 39, 2) := by decide +kernel
theorem d99_88 : decode (tBc 99) 88 = .ok (.if_icmp .ne 39, 3) := by decide +kernel
theorem d99_91 : decode (tBc 99) 91 = .ok (.aload_n 0, 1) := by decide +kernel
theorem d99_92 : decode (tBc 99) 92 = .ok (.iconst 1, 1) := by decide +kernel
theorem d99_93 : decode (tBc 99) 93 = .ok (.iconst 0, 1) := by decide +kernel
theorem d99_94 : decode (tBc 99) 94 = .ok (.invokevirtual 184, 3) := by decide +kernel
theorem d99_97 : decode (tBc 99) 97 = .ok (.istore_n 2, 1) := by decide +kernel
theorem d99_98 : decode (tBc 99) 98 = .ok (.aload_n 0, 1) := by decide +kernel
theorem d99_99 : decode (tBc 99) 99 = .ok (.dup, 1) := by decide +kernel
theorem d99_100 : decode (tBc 99) 100 = .ok (.getfield 161, 3) := by decide +kernel
theorem d99_103 : decode (tBc 99) 103 = .ok (.iconst 1, 1) := by decide +kernel
theorem d99_104 : decode (tBc 99) 104 = .ok (.iadd, 1) := by decide +kernel
theorem d99_105 : decode (tBc 99) 105 = .ok (.putfield 161, 3) := by decide +kernel
theorem d99_108 : decode (tBc 99) 108 = .ok (.aload_n 0, 1) := by decide +kernel
theorem d99_109 : decode (tBc 99) 109 = .ok (.getfield 145, 3) := by decide +kernel
theorem d99_112 : decode (tBc 99) 112 = .ok (.ifCond .ne 13, 3) := by decide +kernel
theorem d99_115 : decode (tBc 99) 115 = .ok (.aload_n 0, 1) := by decide +kernel
theorem d99_116 : decode (tBc 99) 116 = .ok (.getfield 23, 3) := by decide +kernel
theorem d99_119 : decode (tBc 99) 119 = .ok (.iload_n 2, 1) := by decide +kernel
theorem d99_120 : decode (tBc 99) 120 = .ok (.aload_n 0, 1) := by decide +kernel
theorem d99_121 : decode (tBc 99) 121 = .ok (.invokevirtual 188, 3) := by decide +kernel
theorem d99_124 : decode (tBc 99) 124 = .ok (.iastore, 1) := by decide +kernel
theorem d99_125 : decode (tBc 99) 125 = .ok (.iconst 1, 1) := by decide +kernel
theorem d99_126 : decode (tBc 99) 126 = .ok (.ireturn, 1) := by decide +kernel
theorem d99_127 : decode (tBc 99) 127 = .ok (.iload_n 1, 1) := by decide +kernel
theorem d99_128 : decode (tBc 99) 128 = .ok (.invokestatic 181, 3) := by decide +kernel
theorem d99_131 : decode (tBc 99) 131 = .ok (.ifCond .lt 11, 3) := by decide +kernel
theorem d99_134 : decode (tBc 99) 134 = .ok (.aload_n 0, 1) := by decide +kernel
theorem d99_135 : decode (tBc 99) 135 = .ok (.iconst 0, 1) := by decide +kernel
theorem d99_136 : decode (tBc 99) 136 = .ok (.invokevirtual 198, 3) := by decide +kernel
theorem d99_139 : decode (tBc 99) 139 = .ok (.goto 125, 3) := by decide +kernel
theorem d99_142 : decode (tBc 99) 142 = .ok (.iload_n 1, 1) := by decide +kernel
theorem d99_143 : decode (tBc 99) 143 = .ok (.bipush 33, 2) := by decide +kernel
theorem d99_145 : decode (tBc 99) 145 = .ok (.if_icmp .ne 39, 3) := by decide +kernel
theorem d99_148 : decode (tBc 99) 148 = .ok (.aload_n 0, 1) := by decide +kernel
theorem d99_149 : decode (tBc 99) 149 = .ok (.dup, 1) := by decide +kernel
theorem d99_150 : decode (tBc 99) 150 = .ok (.getfield 161, 3) := by decide +kernel
theorem d99_153 : decode (tBc 99) 153 = .ok (.iconst 1, 1) := by decide +kernel
theorem d99_154 : decode (tBc 99) 154 = .ok (.iadd, 1) := by decide +kernel
theorem d99_155 : decode (tBc 99) 155 = .ok (.putfield 161, 3) := by decide +kernel
theorem d99_158 : decode (tBc 99) 158 = .ok (.aload_n 0, 1) := by decide +kernel
theorem d99_159 : decode (tBc 99) 159 = .ok (.invokevirtual 177, 3) := by decide +kernel
theorem d99_162 : decode (tBc 99) 162 = .ok (.invokestatic 181, 3) := by decide +kernel
theorem d99_165 : decode (tBc 99) 165 = .ok (.ifCond .ge 11, 3) := by decide +kernel
theorem d99_168 : decode (tBc 99) 168 = .ok (.aload_n 0, 1) := by decide +kernel
theorem d99_169 : decode (tBc 99) 169 = .ok (.iconst 1, 1) := by decide +kernel
theorem d99_170 : decode (tBc 99) 170 = .ok (.invokevirtual 170, 3) := by decide +kernel
theorem d99_173 : decode (tBc 99) 173 = .ok (.goto 91, 3) := by decide +kernel
theorem d99_176 : decode (tBc 99) 176 = .ok (.aload_n 0, 1) := by decide +kernel
theorem d99_177 : decode (tBc 99) 177 = .ok (.iconst 1, 1) := by decide +kernel
theorem d99_178 : decode (tBc 99) 178 = .ok (.invokevirtual 198, 3) := by decide +kernel
theorem d99_181 : decode (tBc 99) 181 = .ok (.goto 83, 3) := by decide +kernel
theorem d99_184 : decode (tBc 99) 184 = .ok (.iload_n 1, 1) := by decide +kernel
theorem d99_185 : decode (tBc 99) 185 = .ok (.bipush 97, 2) := by decide +kernel
theorem d99_187 : decode (tBc 99) 187 = .ok (.bipush 122, 2) := by decide +kernel
theorem d99_189 : decode (tBc 99) 189 = .ok (.invokestatic 148, 3) := by decide +kernel
theorem d99_192 : decode (tBc 99) 192 = .ok (.ifCond .eq 67, 3) := by decide +kernel
theorem d99_195 : decode (tBc 99) 195 = .ok (.aload_n 0, 1) := by decide +kernel
theorem d99_196 : decode (tBc 99) 196 = .ok (.iconst 0, 1) := by decide +kernel
theorem d99_197 : decode (tBc 99) 197 = .ok (.iconst 0, 1) := by decide +kernel
theorem d99_198 : decode (tBc 99) 198 = .ok (.invokevirtual 184, 3) := by decide +kernel
theorem d99_201 : decode (tBc 99) 201 = .ok (.istore_n 2, 1) := by decide +kernel
theorem d99_202 : decode (tBc 99) 202 = .ok (.aload_n 0, 1) := by decide +kernel
theorem d99_203 : decode (tBc 99) 203 = .ok (.getfield 145, 3) := by decide +kernel
theorem d99_206 : decode (tBc 99) 206 = .ok (.ifCond .ne 13, 3) := by decide +kernel
theorem d99_209 : decode (tBc 99) 209 = .ok (.aload_n 0, 1) := by decide +kernel
theorem d99_210 : decode (tBc 99) 210 = .ok (.getfield 23, 3) := by decide +kernel
theorem d99_213 : decode (tBc 99) 213 = .ok (.iload_n 2, 1) := by decide +kernel
theorem d99_214 : decode (tBc 99) 214 = .ok (.aload_n 0, 1) := by decide +kernel
theorem d99_215 : decode (tBc 99) 215 = .ok (.invokevirtual 188, 3) := by decide +kernel
theorem d99_218 : decode (tBc 99) 218 = .ok (.iastore, 1) := by decide +kernel
theorem d99_219 : decode (tBc 99) 219 = .ok (.aload_n 0, 1) := by decide +kernel
theorem d99_220 : decode (tBc 99) 220 = .ok (.getfield 145, 3) := by decide +kernel
theorem d99_223 : decode (tBc 99) 223 = .ok (.ifCond .ne 9, 3) := by decide +kernel
theorem d99_226 : decode (tBc 99) 226 = .ok (.aload_n 0, 1) := by decide +kernel
theorem d99_227 : decode (tBc 99) 227 = .ok (.bipush 91, 2) := by decide +kernel
theorem d99_229 : decode (tBc 99) 229 = .ok (.invokevirtual 191, 3) := by decide +kernel
theorem d99_232 : decode (tBc 99) 232 = .ok (.aload_n 0, 1) := by decide +kernel
theorem d99_233 : decode (tBc 99) 233 = .ok (.getfield 145, 3) := by decide +kernel
theorem d99_236 : decode (tBc 99) 236 = .ok (.ifCond .ne 20, 3) := by decide +kernel
theorem d99_239 : decode (tBc 99) 239 = .ok (.aload_n 0, 1) := by decide +kernel
theorem d99_240 : decode (tBc 99) 240 = .ok (.iconst 1, 1) := by decide +kernel
theorem d99_241 : decode (tBc 99) 241 = .ok (.iload_n 2, 1) := by decide +kernel
theorem d99_242 : decode (tBc 99) 242 = .ok (.aload_n 0, 1) := by decide +kernel
theorem d99_243 : decode (tBc 99) 243 = .ok (.getfield 41, 3) := by decide +kernel
theorem d99_246 : decode (tBc 99) 246 = .ok (.aload_n 0, 1) := by decide +kernel
theorem d99_247 : decode (tBc 99) 247 = .ok (.getfield 174, 3) := by decide +kernel
theorem d99_250 : decode (tBc 99) 250 = .ok (.iconst 1, 1) := by decide +kernel
theorem d99_251 : decode (tBc 99) 251 = .ok (.isub, 1) := by decide +kernel
theorem d99_252 : decode (tBc 99) 252 = .ok (.iaload, 1) := by decide +kernel
theorem d99_253 : decode (tBc 99) 253 = .ok (.invokevirtual 194, 3) := by decide +kernel
theorem d99_256 : decode (tBc 99) 256 = .ok (.goto 8, 3) := by decide +kernel
theorem d99_259 : decode (tBc 99) 259 = .ok (.aload_n 0, 1) := by decide +kernel
theorem d99_260 : decode (tBc 99) 260 = .ok (.iconst 1, 1) := by decide +kernel
theorem d99_261 : decode (tBc 99) 261 = .ok (.invokevirtual 170, 3) := by decide +kernel
theorem d99_264 : decode (tBc 99) 264 = .ok (.iconst 0, 1) := by decide +kernel
theorem d99_265 : decode (tBc 99) 265 = .ok (.ireturn, 1) := by decide +kernel
theorem d100_0 : decode (tBc 100) 0 = .ok (.aload_n 0, 1) := by decide +kernel
theorem d100_1 : decode (tBc 100) 1 = .ok (.aload_n 0, 1) := by decide +kernel
theorem d100_2 : decode (tBc 100) 2 = .ok (.getfield 145, 3) := by decide +kernel
theorem d100_5 : decode (tBc 100) 5 = .ok (.ifCond .ne 7, 3) := by decide +kernel
theorem d100_8 : decode (tBc 100) 8 = .ok (.iload_n 1, 1) := by decide +kernel
theorem d100_9 : decode (tBc 100) 9 = .ok (.goto 7, 3) := by decide +kernel
theorem d100_12 : decode (tBc 100) 12 = .ok (.aload_n 0, 1) := by decide +kernel
theorem d100_13 : decode (tBc 100) 13 = .ok (.getfield 145, 3) := by decide +kernel
theorem d100_16 : decode (tBc 100) 16 = .ok (.putfield 145, 3) := by decide +kernel
theorem d100_19 : decode (tBc 100) 19 = .ok (.return_, 1) := by decide +kernel
theorem d101_0 : decode (tBc 101) 0 = .ok (.aload_n 0, 1) := by decide +kernel
theorem d101_1 : decode (tBc 101) 1 = .ok (.getfield 161, 3) := by decide +kernel
theorem d101_4 : decode (tBc 101) 4 = .ok (.aload_n 0, 1) := by decide +kernel
theorem d101_5 : decode (tBc 101) 5 = .ok (.getfield 164, 3) := by decide +kernel
theorem d101_8 : decode (tBc 101) 8 = .ok (.if_icmp .ge 15, 3) := by decide +kernel
theorem d101_11 : decode (tBc 101) 11 = .ok (.aload_n 0, 1) := by decide +kernel
theorem d101_12 : decode (tBc 101) 12 = .ok (.getfield 13, 3) := by decide +kernel
theorem d101_15 : decode (tBc 101) 15 = .ok (.aload_n 0, 1) := by decide +kernel
theorem d101_16 : decode (tBc 101) 16 = .ok (.getfield 161, 3) := by decide +kernel
theorem d101_19 : decode (tBc 101) 19 = .ok (.iaload, 1) := by decide +kernel
theorem d101_20 : decode (tBc 101) 20 = .ok (.goto 4, 3) := by decide +kernel
theorem d101_23 : decode (tBc 101) 23 = .ok (.iconst (-1), 1) := by decide +kernel
theorem d101_24 : decode (tBc 101) 24 = .ok (.ireturn, 1) := by decide +kernel
theorem d102_0 : decode (tBc 102) 0 = .ok (.aload_n 0, 1) := by decide +kernel
theorem d102_1 : decode (tBc 102) 1 = .ok (.getfield 167, 3) := by decide +kernel
theorem d102_4 : decode (tBc 102) 4 = .ok (.bipush 50, 2) := by decide +kernel
theorem d102_6 : decode (tBc 102) 6 = .ok (.if_icmp .ne 10, 3) := by decide +kernel
theorem d102_9 : decode (tBc 102) 9 = .ok (.aload_n 0, 1) := by decide +kernel
theorem d102_10 : decode (tBc 102) 10 = .ok (.iconst 2, 1) := by decide +kernel
theorem d102_11 : decode (tBc 102) 11 = .ok (.invokevirtual 170, 3) := by decide +kernel
theorem d102_14 : decode (tBc 102) 14 = .ok (.iconst 0, 1) := by decide +kernel
theorem d102_15 : decode (tBc 102) 15 = .ok (.ireturn, 1) := by decide +kernel
theorem d102_16 : decode (tBc 102) 16 = .ok (.aload_n 0, 1) := by decide +kernel
theorem d102_17 : decode (tBc 102) 17 = .ok (.getfield 167, 3) := by decide +kernel
theorem d102_20 : decode (tBc 102) 20 = .ok (.istore_n 3, 1) := by decide +kernel
theorem d102_21 : decode (tBc 102) 21 = .ok (.aload_n 0, 1) := by decide +kernel
theorem d102_22 : decode (tBc 102) 22 = .ok (.dup, 1) := by decide +kernel
theorem d102_23 : decode (tBc 102) 23 = .ok (.getfield 167, 3) := by decide +kernel
theorem d102_26 : decode (tBc 102) 26 = .ok (.iconst 1, 1) := by decide +kernel
theorem d102_27 : decode (tBc 102) 27 = .ok (.iadd, 1) := by decide +kernel
theorem d102_28 : decode (tBc 102) 28 = .ok (.putfield 167, 3) := by decide +kernel
theorem d102_31 : decode (tBc 102) 31 = .ok (.aload_n 0, 1) := by decide +kernel
theorem d102_32 : decode (tBc 102) 32 = .ok (.getfield 16, 3) := by decide +kernel
theorem d102_35 : decode (tBc 102) 35 = .ok (.iload_n 3, 1) := by decide +kernel
theorem d102_36 : decode (tBc 102) 36 = .ok (.iload_n 1, 1) := by decide +kernel
theorem d102_37 : decode (tBc 102) 37 = .ok (.iastore, 1) := by decide +kernel
theorem d102_38 : decode (tBc 102) 38 = .ok (.aload_n 0, 1) := by decide +kernel
theorem d102_39 : decode (tBc 102) 39 = .ok (.getfield 19, 3) := by decide +kernel
theorem d102_42 : decode (tBc 102) 42 = .ok (.iload_n 3, 1) := by decide +kernel
theorem d102_43 : decode (tBc 102) 43 = .ok (.iload_n 2, 1) := by decide +kernel
theorem d102_44 : decode (tBc 102) 44 = .ok (.bastore, 1) := by decide +kernel
theorem d102_45 : decode (tBc 102) 45 = .ok (.aload_n 0, 1) := by decide +kernel
theorem d102_46 : decode (tBc 102) 46 = .ok (.getfield 26, 3) := by decide +kernel
theorem d102_49 : decode (tBc 102) 49 = .ok (.iload_n 3, 1) := by decide +kernel
theorem d102_50 : decode (tBc 102) 50 = .ok (.iconst (-1), 1) := by decide +kernel
theorem d102_51 : decode (tBc 102) 51 = .ok (.iastore, 1) := by decide +kernel
theorem d102_52 : decode (tBc 102) 52 = .ok (.aload_n 0, 1) := by decide +kernel
theorem d102_53 : decode (tBc 102) 53 = .ok (.getfield 32, 3) := by decide +kernel
theorem d102_56 : decode (tBc 102) 56 = .ok (.iload_n 3, 1) := by decide +kernel
theorem d102_57 : decode (tBc 102) 57 = .ok (.iconst (-1), 1) := by decide +kernel
theorem d102_58 : decode (tBc 102) 58 = .ok (.iastore, 1) := by decide +kernel
theorem d102_59 : decode (tBc 102) 59 = .ok (.aload_n 0, 1) := by decide +kernel
theorem d102_60 : decode (tBc 102) 60 = .ok (.getfield 38, 3) := by decide +kernel
theorem d102_63 : decode (tBc 102) 63 = .ok (.aload_n 0, 1) := by decide +kernel
theorem d102_64 : decode (tBc 102) 64 = .ok (.getfield 174, 3) := by decide +kernel
theorem d102_67 : decode (tBc 102) 67 = .ok (.iconst 1, 1) := by decide +kernel
theorem d102_68 : decode (tBc 102) 68 = .ok (.isub, 1) := by decide +kernel
theorem d102_69 : decode (tBc 102) 69 = .ok (.iaload, 1) := by decide +kernel
theorem d102_70 : decode (tBc 102) 70 = .ok (.istore 4, 2) := by decide +kernel
theorem d102_72 : decode (tBc 102) 72 = .ok (.aload_n 0, 1) := by decide +kernel
theorem d102_73 : decode (tBc 102) 73 = .ok (.getfield 26, 3) := by decide +kernel
theorem d102_76 : decode (tBc 102) 76 = .ok (.iload 4, 2) := by decide +kernel
theorem d102_78 : decode (tBc 102) 78 = .ok (.iaload, 1) := by decide +kernel
theorem d102_79 : decode (tBc 102) 79 = .ok (.ifCond .ge 14, 3) := by decide +kernel
theorem d102_82 : decode (tBc 102) 82 = .ok (.aload_n 0, 1) := by decide +kernel
theorem d102_83 : decode (tBc 102) 83 = .ok (.getfield 26, 3) := by decide +kernel
theorem d102_86 : decode (tBc 102) 86 = .ok (.iload 4, 2) := by decide +kernel
theorem d102_88 : decode (tBc 102) 88 = .ok (.iload_n 3, 1) := by decide +kernel
theorem d102_89 : decode (tBc 102) 89 = .ok (.iastore, 1) := by decide +kernel
theorem d102_90 : decode (tBc 102) 90 = .ok (.goto 16, 3) := by decide +kernel
theorem d102_93 : decode (tBc 102) 93 = .ok (.aload_n 0, 1) := by decide +kernel
theorem d102_94 : decode (tBc 102) 94 = .ok (.getfield 32, 3) := by decide +kernel
theorem d102_97 : decode (tBc 102) 97 = .ok (.aload_n 0, 1) := by decide +kernel
theorem d102_98 : decode (tBc 102) 98 = .ok (.getfield 29, 3) := by decide +kernel
theorem d102_101 : decode (tBc 102) 101 = .ok (.iload 4, 2) := by decide +kernel
theorem d102_103 : decode (tBc 102) 103 = .ok (.iaload, 1) := by decide +kernel
theorem d102_104 : decode (tBc 102) 104 = .ok (.iload_n 3, 1) := by decide +kernel
theorem d102_105 : decode (tBc 102) 105 = .ok (.iastore, 1) := by decide +kernel
theorem d102_106 : decode (tBc 102) 106 = .ok (.aload_n 0, 1) := by decide +kernel
theorem d102_107 : decode (tBc 102) 107 = .ok (.getfield 29, 3) := by decide +kernel
theorem d102_110 : decode (tBc 102) 110 = .ok (.iload 4, 2) := by decide +kernel
theorem d102_112 : decode (tBc 102) 112 = .ok (.iload_n 3, 1) := by decide +kernel
theorem d102_113 : decode (tBc 102) 113 = .ok (.iastore, 1) := by decide +kernel
theorem d102_114 : decode (tBc 102) 114 = .ok (.iload_n 3, 1) := by decide +kernel
theorem d102_115 : decode (tBc 102) 115 = .ok (.ireturn, 1) := by decide +kernel
theorem d103_0 : decode (tBc 103) 0 = .ok (.aload_n 0, 1) := by decide +kernel
theorem d103_1 : decode (tBc 103) 1 = .ok (.invokevirtual 177, 3) := by decide +kernel
theorem d103_4 : decode (tBc 103) 4 = .ok (.istore_n 1, 1) := by decide +kernel
theorem d103_5 : decode (tBc 103) 5 = .ok (.iload_n 1, 1) := by decide +kernel
theorem d103_6 : decode (tBc 103) 6 = .ok (.bipush 120, 2) := by decide +kernel
theorem d103_8 : decode (tBc 103) 8 = .ok (.bipush 122, 2) := by decide +kernel
theorem d103_10 : decode (tBc 103) 10 = .ok (.invokestatic 148, 3) := by decide +kernel
theorem d103_13 : decode (tBc 103) 13 = .ok (.ifCond .eq 29, 3) := by decide +kernel
theorem d103_16 : decode (tBc 103) 16 = .ok (.aload_n 0, 1) := by decide +kernel
theorem d103_17 : decode (tBc 103) 17 = .ok (.getfield 41, 3) := by decide +kernel
theorem d103_20 : decode (tBc 103) 20 = .ok (.aload_n 0, 1) := by decide +kernel
theorem d103_21 : decode (tBc 103) 21 = .ok (.getfield 174, 3) := by decide +kernel
theorem d103_24 : decode (tBc 103) 24 = .ok (.iconst 1, 1) := by decide +kernel
theorem d103_25 : decode (tBc 103) 25 = .ok (.isub, 1) := by decide +kernel
theorem d103_26 : decode (tBc 103) 26 = .ok (.iaload, 1) := by decide +kernel
theorem d103_27 : decode (tBc 103) 27 = .ok (.iload_n 1, 1) := by decide +kernel
theorem d103_28 : decode (tBc 103) 28 = .ok (.bipush 120, 2) := by decide +kernel
theorem d103_30 : decode (tBc 103) 30 = .ok (.isub, 1) := by decide +kernel
theorem d103_31 : decode (tBc 103) 31 = .ok (.ishr, 1) := by decide +kernel
theorem d103_32 : decode (tBc 103) 32 = .ok (.iconst 1, 1) := by decide +kernel
theorem d103_33 : decode (tBc 103) 33 = .ok (.iand, 1) := by decide +kernel
theorem d103_34 : decode (tBc 103) 34 = .ok (.iconst 1, 1) := by decide +kernel
theorem d103_35 : decode (tBc 103) 35 = .ok (.if_icmp .ne 7, 3) := by decide +kernel
theorem d103_38 : decode (tBc 103) 38 = .ok (.iconst 1, 1) := by decide +kernel
theorem d103_39 : decode (tBc 103) 39 = .ok (.goto 4, 3) := by decide +kernel
theorem d103_42 : decode (tBc 103) 42 = .ok (.iconst 0, 1) := by decide +kernel
theorem d103_43 : decode (tBc 103) 43 = .ok (.istore_n 2, 1) := by decide +kernel
theorem d103_44 : decode (tBc 103) 44 = .ok (.iload_n 1, 1) := by decide +kernel
theorem d103_45 : decode (tBc 103) 45 = .ok (.bipush 97, 2) := by decide +kernel
theorem d103_47 : decode (tBc 103) 47 = .ok (.bipush 102, 2) := by decide +kernel
theorem d103_49 : decode (tBc 103) 49 = .ok (.invokestatic 148, 3) := by decide +kernel
theorem d103_52 : decode (tBc 103) 52 = .ok (.ifCond .ne 14, 3) := by decide +kernel
theorem d103_55 : decode (tBc 103) 55 = .ok (.iload_n 2, 1) := by decide +kernel
theorem d103_56 : decode (tBc 103) 56 = .ok (.ifCond .ne 10, 3) := by decide +kernel
theorem d103_59 : decode (tBc 103) 59 = .ok (.aload_n 0, 1) := by decide +kernel
theorem d103_60 : decode (tBc 103) 60 = .ok (.iconst 1, 1) := by decide +kernel
theorem d103_61 : decode (tBc 103) 61 = .ok (.invokevirtual 170, 3) := by decide +kernel
theorem d103_64 : decode (tBc 103) 64 = .ok (.iconst 0, 1) := by decide +kernel
theorem d103_65 : decode (tBc 103) 65 = .ok (.ireturn, 1) := by decide +kernel
theorem d103_66 : decode (tBc 103) 66 = .ok (.aload_n 0, 1) := by decide +kernel
theorem d103_67 : decode (tBc 103) 67 = .ok (.dup, 1) := by decide +kernel
theorem d103_68 : decode (tBc 103) 68 = .ok (.getfield 161, 3) := by decide +kernel
theorem d103_71 : decode (tBc 103) 71 = .ok (.iconst 1, 1) := by decide +kernel
theorem d103_72 : decode (tBc 103) 72 = .ok (.iadd, 1) := by decide +kernel
theorem d103_73 : decode (tBc 103) 73 = .ok (.putfield 161, 3) := by decide +kernel
theorem d103_76 : decode (tBc 103) 76 = .ok (.iload_n 2, 1) := by decide +kernel
theorem d103_77 : decode (tBc 103) 77 = .ok (.ifCond .eq 13, 3) := by decide +kernel
theorem d103_80 : decode (tBc 103) 80 = .ok (.bipush 6, 2) := by decide +kernel
theorem d103_82 : decode (tBc 103) 82 = .ok (.iload_n 1, 1) := by decide +kernel
theorem d103_83 : decode (tBc 103) 83 = .ok (.iadd, 1) := by decide +kernel
theorem d103_84 : decode (tBc 103) 84 = .ok (.bipush 120, 2) := by decide +kernel
theorem d103_86 : decode (tBc 103) 86 = .ok (.isub, 1) := by decide +kernel
theorem d103_87 : decode (tBc 103) 87 = .ok (.goto 7, 3) := by decide +kernel
theorem d103_90 : decode (tBc 103) 90 = .ok (.iload_n 1, 1) := by decide +kernel
theorem d103_91 : decode (tBc 103) 91 = .ok (.bipush 97, 2) := by decide +kernel
theorem d103_93 : decode (tBc 103) 93 = .ok (.isub, 1) := by decide +kernel
theorem d103_94 : decode (tBc 103) 94 = .ok (.ireturn, 1) := by decide +kernel
theorem d104_0 : decode (tBc 104) 0 = .ok (.iload_n 0, 1) := by decide +kernel
theorem d104_1 : decode (tBc 104) 1 = .ok (.bipush 62, 2) := by decide +kernel
theorem d104_3 : decode (tBc 104) 3 = .ok (.if_icmp .ne 7, 3) := by decide +kernel
theorem d104_6 : decode (tBc 104) 6 = .ok (.iconst 2, 1) := by decide +kernel
theorem d104_7 : decode (tBc 104) 7 = .ok (.goto 34, 3) := by decide +kernel
theorem d104_10 : decode (tBc 104) 10 = .ok (.iload_n 0, 1) := by decide +kernel
theorem d104_11 : decode (tBc 104) 11 = .ok (.bipush 60, 2) := by decide +kernel
theorem d104_13 : decode (tBc 104) 13 = .ok (.if_icmp .ne 7, 3) := by decide +kernel
theorem d104_16 : decode (tBc 104) 16 = .ok (.iconst 3, 1) := by decide +kernel
theorem d104_17 : decode (tBc 104) 17 = .ok (.goto 24, 3) := by decide +kernel
theorem d104_20 : decode (tBc 104) 20 = .ok (.iload_n 0, 1) := by decide +kernel
theorem d104_21 : decode (tBc 104) 21 = .ok (.bipush 94, 2) := by decide +kernel
theorem d104_23 : decode (tBc 104) 23 = .ok (.if_icmp .ne 7, 3) := by decide +kernel
theorem d104_26 : decode (tBc 104) 26 = .ok (.iconst 4, 1) := by decide +kernel
theorem d104_27 : decode (tBc 104) 27 = .ok (.goto 14, 3) := by decide +kernel
theorem d104_30 : decode (tBc 104) 30 = .ok (.iload_n 0, 1) := by decide +kernel
theorem d104_31 : decode (tBc 104) 31 = .ok (.bipush 63, 2) := by decide +kernel
theorem d104_33 : decode (tBc 104) 33 = .ok (.if_icmp .ne 7, 3) := by decide +kernel
theorem d104_36 : decode (tBc 104) 36 = .ok (.iconst 5, 1) := by decide +kernel
theorem d104_37 : decode (tBc 104) 37 = .ok (.goto 4, 3) := by decide +kernel
theorem d104_40 : decode (tBc 104) 40 = .ok (.iconst (-1), 1) := by decide +kernel
theorem d104_41 : decode (tBc 104) 41 = .ok (.ireturn, 1) := by decide +kernel
theorem d105_0 : decode (tBc 105) 0 = .ok (.aload_n 0, 1) := by decide +kernel
theorem d105_1 : decode (tBc 105) 1 = .ok (.invokevirtual 177, 3) := by decide +kernel
theorem d105_4 : decode (tBc 105) 4 = .ok (.invokestatic 181, 3) := by decide +kernel
theorem d105_7 : decode (tBc 105) 7 = .ok (.istore_n 2, 1) := by decide +kernel
theorem d105_8 : decode (tBc 105) 8 = .ok (.aload_n 0, 1) := by decide +kernel
theorem d105_9 : decode (tBc 105) 9 = .ok (.dup, 1) := by decide +kernel
theorem d105_10 : decode (tBc 105) 10 = .ok (.getfield 161, 3) := by decide +kernel
theorem d105_13 : decode (tBc 105) 13 = .ok (.iconst 1, 1) := by decide +kernel
theorem d105_14 : decode (tBc 105) 14 = .ok (.iadd, 1) := by decide +kernel
theorem d105_15 : decode (tBc 105) 15 = .ok (.putfield 161, 3) := by decide +kernel
theorem d105_18 : decode (tBc 105) 18 = .ok (.aload_n 0, 1) := by decide +kernel
theorem d105_19 : decode (tBc 105) 19 = .ok (.iload_n 2, 1) := by decide +kernel
theorem d105_20 : decode (tBc 105) 20 = .ok (.iload_n 1, 1) := by decide +kernel
theorem d105_21 : decode (tBc 105) 21 = .ok (.invokevirtual 184, 3) := by decide +kernel
theorem d105_24 : decode (tBc 105) 24 = .ok (.istore_n 3, 1) := by decide +kernel
theorem d105_25 : decode (tBc 105) 25 = .ok (.aload_n 0, 1) := by decide +kernel
theorem d105_26 : decode (tBc 105) 26 = .ok (.getfield 145, 3) := by decide +kernel
theorem d105_29 : decode (tBc 105) 29 = .ok (.ifCond .le 4, 3) := by decide +kernel
theorem d105_32 : decode (tBc 105) 32 = .ok (.return_, 1) := by decide +kernel
theorem d105_33 : decode (tBc 105) 33 = .ok (.aload_n 0, 1) := by decide +kernel
theorem d105_34 : decode (tBc 105) 34 = .ok (.getfield 41, 3) := by decide +kernel
theorem d105_37 : decode (tBc 105) 37 = .ok (.aload_n 0, 1) := by decide +kernel
theorem d105_38 : decode (tBc 105) 38 = .ok (.getfield 174, 3) := by decide +kernel
theorem d105_41 : decode (tBc 105) 41 = .ok (.iconst 1, 1) := by decide +kernel
theorem d105_42 : decode (tBc 105) 42 = .ok (.isub, 1) := by decide +kernel
theorem d105_43 : decode (tBc 105) 43 = .ok (.iaload, 1) := by decide +kernel
theorem d105_44 : decode (tBc 105) 44 = .ok (.istore 4, 2) := by decide +kernel
theorem d105_46 : decode (tBc 105) 46 = .ok (.iload_n 2, 1) := by decide +kernel
theorem d105_47 : decode (tBc 105) 47 = .ok (.iconst 5, 1) := by decide +kernel
theorem d105_48 : decode (tBc 105) 48 = .ok (.if_icmp .ne 66, 3) := by decide +kernel
theorem d105_51 : decode (tBc 105) 51 = .ok (.aload_n 0, 1) := by decide +kernel
theorem d105_52 : decode (tBc 105) 52 = .ok (.invokevirtual 177, 3) := by decide +kernel
theorem d105_55 : decode (tBc 105) 55 = .ok (.bipush 120, 2) := by decide +kernel
theorem d105_57 : decode (tBc 105) 57 = .ok (.bipush 122, 2) := by decide +kernel
theorem d105_59 : decode (tBc 105) 59 = .ok (.invokestatic 148, 3) := by decide +kernel
theorem d105_62 : decode (tBc 105) 62 = .ok (.ifCond .ne 9, 3) := by decide +kernel
theorem d105_65 : decode (tBc 105) 65 = .ok (.aload_n 0, 1) := by decide +kernel
theorem d105_66 : decode (tBc 105) 66 = .ok (.iconst 1, 1) := by decide +kernel
theorem d105_67 : decode (tBc 105) 67 = .ok (.invokevirtual 170, 3) := by decide +kernel
theorem d105_70 : decode (tBc 105) 70 = .ok (.return_, 1) := by decide +kernel
theorem d105_71 : decode (tBc 105) 71 = .ok (.aload_n 0, 1) := by decide +kernel
theorem d105_72 : decode (tBc 105) 72 = .ok (.getfield 23, 3) := by decide +kernel
theorem d105_75 : decode (tBc 105) 75 = .ok (.iload_n 3, 1) := by decide +kernel
theorem d105_76 : decode (tBc 105) 76 = .ok (.bipush 6, 2) := by decide +kernel
theorem d105_78 : decode (tBc 105) 78 = .ok (.aload_n 0, 1) := by decide +kernel
theorem d105_79 : decode (tBc 105) 79 = .ok (.invokevirtual 177, 3) := by decide +kernel
theorem d105_82 : decode (tBc 105) 82 = .ok (.iadd, 1) := by decide +kernel
theorem d105_83 : decode (tBc 105) 83 = .ok (.bipush 120, 2) := by decide +kernel
theorem d105_85 : decode (tBc 105) 85 = .ok (.isub, 1) := by decide +kernel
theorem d105_86 : decode (tBc 105) 86 = .ok (.iastore, 1) := by decide +kernel
theorem d105_87 : decode (tBc 105) 87 = .ok (.iload 4, 2) := by decide +kernel
theorem d105_89 : decode (tBc 105) 89 = .ok (.iconst 1, 1) := by decide +kernel
theorem d105_90 : decode (tBc 105) 90 = .ok (.aload_n 0, 1) := by decide +kernel
theorem d105_91 : decode (tBc 105) 91 = .ok (.invokevirtual 177, 3) := by decide +kernel
theorem d105_94 : decode (tBc 105) 94 = .ok (.bipush 120, 2) := by decide +kernel
theorem d105_96 : decode (tBc 105) 96 = .ok (.isub, 1) := by decide +kernel
theorem d105_97 : decode (tBc 105) 97 = .ok (.ishl, 1) := by decide +kernel
theorem d105_98 : decode (tBc 105) 98 = .ok (.ior, 1) := by decide +kernel
theorem d105_99 : decode (tBc 105) 99 = .ok (.istore 4, 2) := by decide +kernel
theorem d105_101 : decode (tBc 105) 101 = .ok (.aload_n 0, 1) := by decide +kernel
theorem d105_102 : decode (tBc 105) 102 = .ok (.dup, 1) := by decide +kernel
theorem d105_103 : decode (tBc 105) 103 = .ok (.getfield 161, 3) := by decide +kernel
theorem d105_106 : decode (tBc 105) 106 = .ok (.iconst 1, 1) := by decide +kernel
theorem d105_107 : decode (tBc 105) 107 = .ok (.iadd, 1) := by decide +kernel
theorem d105_108 : decode (tBc 105) 108 = .ok (.putfield 161, 3) := by decide +kernel
theorem d105_111 : decode (tBc 105) 111 = .ok (.goto 13, 3) := by decide +kernel
theorem d105_114 : decode (tBc 105) 114 = .ok (.aload_n 0, 1) := by decide +kernel
theorem d105_115 : decode (tBc 105) 115 = .ok (.getfield 23, 3) := by decide +kernel
theorem d105_118 : decode (tBc 105) 118 = .ok (.iload_n 3, 1) := by decide +kernel
theorem d105_119 : decode (tBc 105) 119 = .ok (.aload_n 0, 1) := by decide +kernel
theorem d105_120 : decode (tBc 105) 120 = .ok (.invokevirtual 188, 3) := by decide +kernel
theorem d105_123 : decode (tBc 105) 123 = .ok (.iastore, 1) := by decide +kernel
theorem d105_124 : decode (tBc 105) 124 = .ok (.aload_n 0, 1) := by decide +kernel
theorem d105_125 : decode (tBc 105) 125 = .ok (.getfield 145, 3) := by decide +kernel
theorem d105_128 : decode (tBc 105) 128 = .ok (.ifCond .ne 9, 3) := by decide +kernel
theorem d105_131 : decode (tBc 105) 131 = .ok (.aload_n 0, 1) := by decide +kernel
theorem d105_132 : decode (tBc 105) 132 = .ok (.bipush 46, 2) := by decide +kernel
theorem d105_134 : decode (tBc 105) 134 = .ok (.invokevirtual 191, 3) := by decide +kernel
theorem d105_137 : decode (tBc 105) 137 = .ok (.aload_n 0, 1) := by decide +kernel
theorem d105_138 : decode (tBc 105) 138 = .ok (.getfield 145, 3) := by decide +kernel
theorem d105_141 : decode (tBc 105) 141 = .ok (.ifCond .ne 11, 3) := by decide +kernel
theorem d105_144 : decode (tBc 105) 144 = .ok (.aload_n 0, 1) := by decide +kernel
theorem d105_145 : decode (tBc 105) 145 = .ok (.iconst 3, 1) := by decide +kernel
theorem d105_146 : decode (tBc 105) 146 = .ok (.iload_n 3, 1) := by decide +kernel
theorem d105_147 : decode (tBc 105) 147 = .ok (.iload 4, 2) := by decide +kernel
theorem d105_149 : decode (tBc 105) 149 = .ok (.invokevirtual 194, 3) := by decide +kernel
theorem d105_152 : decode (tBc 105) 152 = .ok (.return_, 1) := by decide +kernel
theorem d106_0 : decode (tBc 106) 0 = .ok (.aload_n 0, 1) := by decide +kernel
theorem d106_1 : decode (tBc 106) 1 = .ok (.invokevirtual 177, 3) := by decide +kernel
theorem d106_4 : decode (tBc 106) 4 = .ok (.iload_n 1, 1) := by decide +kernel
theorem d106_5 : decode (tBc 106) 5 = .ok (.if_icmp .eq 11, 3) := by decide +kernel
theorem d106_8 : decode (tBc 106) 8 = .ok (.aload_n 0, 1) := by decide +kernel
theorem d106_9 : decode (tBc 106) 9 = .ok (.iconst 1, 1) := by decide +kernel
theorem d106_10 : decode (tBc 106) 10 = .ok (.invokevirtual 170, 3) := by decide +kernel
theorem d106_13 : decode (tBc 106) 13 = .ok (.goto 13, 3) := by decide +kernel
theorem d106_16 : decode (tBc 106) 16 = .ok (.aload_n 0, 1) := by decide +kernel
theorem d106_17 : decode (tBc 106) 17 = .ok (.dup, 1) := by decide +kernel
theorem d106_18 : decode (tBc 106) 18 = .ok (.getfield 161, 3) := by decide +kernel
theorem d106_21 : decode (tBc 106) 21 = .ok (.iconst 1, 1) := by decide +kernel
theorem d106_22 : decode (tBc 106) 22 = .ok (.iadd, 1) := by decide +kernel
theorem d106_23 : decode (tBc 106) 23 = .ok (.putfield 161, 3) := by decide +kernel
theorem d106_26 : decode (tBc 106) 26 = .ok (.return_, 1) := by decide +kernel
theorem d107_0 : decode (tBc 107) 0 = .ok (.iconst 0, 1) := by decide +kernel
theorem d107_1 : decode (tBc 107) 1 = .ok (.istore_n 1, 1) := by decide +kernel
theorem d107_2 : decode (tBc 107) 2 = .ok (.iconst 1, 1) := by decide +kernel
theorem d107_3 : decode (tBc 107) 3 = .ok (.istore_n 2, 1) := by decide +kernel
theorem d107_4 : decode (tBc 107) 4 = .ok (.iload_n 2, 1) := by decide +kernel
theorem d107_5 : decode (tBc 107) 5 = .ok (.ifCond .eq 125, 3) := by decide +kernel
theorem d107_8 : decode (tBc 107) 8 = .ok (.aload_n 0, 1) := by decide +kernel
theorem d107_9 : decode (tBc 107) 9 = .ok (.getfield 145, 3) := by decide +kernel
theorem d107_12 : decode (tBc 107) 12 = .ok (.ifCond .ne 118, 3) := by decide +kernel
theorem d107_15 : decode (tBc 107) 15 = .ok (.aload_n 0, 1) := by decide +kernel
theorem d107_16 : decode (tBc 107) 16 = .ok (.getfield 174, 3) := by decide +kernel
theorem d107_19 : decode (tBc 107) 19 = .ok (.ifCond .le 111, 3) := by decide +kernel
theorem d107_22 : decode (tBc 107) 22 = .ok (.iload_n 1, 1) := by decide +kernel
theorem d107_23 : decode (tBc 107) 23 = .ok (.ifCond .ne 107, 3) := by decide +kernel
theorem d107_26 : decode (tBc 107) 26 = .ok (.aload_n 0, 1) := by decide +kernel
theorem d107_27 : decode (tBc 107) 27 = .ok (.getfield 35, 3) := by decide +kernel
theorem d107_30 : decode (tBc 107) 30 = .ok (.aload_n 0, 1) := by decide +kernel
theorem d107_31 : decode (tBc 107) 31 = .ok (.getfield 174, 3) := by decide +kernel
theorem d107_34 : decode (tBc 107) 34 = .ok (.iconst 1, 1) := by decide +kernel
theorem d107_35 : decode (tBc 107) 35 = .ok (.isub, 1) := by decide +kernel
theorem d107_36 : decode (tBc 107) 36 = .ok (.iaload, 1) := by decide +kernel
theorem d107_37 : decode (tBc 107) 37 = .ok (.istore_n 3, 1) := by decide +kernel
theorem d107_38 : decode (tBc 107) 38 = .ok (.iload_n 3, 1) := by decide +kernel
theorem d107_39 : decode (tBc 107) 39 = .ok (.iconst 3, 1) := by decide +kernel
theorem d107_40 : decode (tBc 107) 40 = .ok (.if_icmp .ne 16, 3) := by decide +kernel
theorem d107_43 : decode (tBc 107) 43 = .ok (.aload_n 0, 1) := by decide +kernel
theorem d107_44 : decode (tBc 107) 44 = .ok (.dup, 1) := by decide +kernel
theorem d107_45 : decode (tBc 107) 45 = .ok (.getfield 174, 3) := by decide +kernel
theorem d107_48 : decode (tBc 107) 48 = .ok (.iconst 1, 1) := by decide +kernel
theorem d107_49 : decode (tBc 107) 49 = .ok (.isub, 1) := by decide +kernel
theorem d107_50 : decode (tBc 107) 50 = .ok (.putfield 174, 3) := by decide +kernel
theorem d107_53 : decode (tBc 107) 53 = .ok (.goto 74, 3) := by decide +kernel
theorem d107_56 : decode (tBc 107) 56 = .ok (.aload_n 0, 1) := by decide +kernel
theorem d107_57 : decode (tBc 107) 57 = .ok (.invokevirtual 177, 3) := by decide +kernel
theorem d107_60 : decode (tBc 107) 60 = .ok (.bipush 124, 2) := by decide +kernel
theorem d107_62 : decode (tBc 107) 62 = .ok (.if_icmp .ne 18, 3) := by decide +kernel
theorem d107_65 : decode (tBc 107) 65 = .ok (.aload_n 0, 1) := by decide +kernel
theorem d107_66 : decode (tBc 107) 66 = .ok (.dup, 1) := by decide +kernel
theorem d107_67 : decode (tBc 107) 67 = .ok (.getfield 161, 3) := by decide +kernel
theorem d107_70 : decode (tBc 107) 70 = .ok (.iconst 1, 1) := by decide +kernel
theorem d107_71 : decode (tBc 107) 71 = .ok (.iadd, 1) := by decide +kernel
theorem d107_72 : decode (tBc 107) 72 = .ok (.putfield 161, 3) := by decide +kernel
theorem d107_75 : decode (tBc 107) 75 = .ok (.iconst 1, 1) := by decide +kernel
theorem d107_76 : decode (tBc 107) 76 = .ok (.istore_n 1, 1) := by decide +kernel
theorem d107_77 : decode (tBc 107) 77 = .ok (.goto 50, 3) := by decide +kernel
theorem d107_80 : decode (tBc 107) 80 = .ok (.iload_n 3, 1) := by decide +kernel
theorem d107_81 : decode (tBc 107) 81 = .ok (.ifCond .ne 20, 3) := by decide +kernel
theorem d107_84 : decode (tBc 107) 84 = .ok (.iconst 0, 1) := by decide +kernel
theorem d107_85 : decode (tBc 107) 85 = .ok (.istore_n 2, 1) := by decide +kernel
theorem d107_86 : decode (tBc 107) 86 = .ok (.aload_n 0, 1) := by decide +kernel
theorem d107_87 : decode (tBc 107) 87 = .ok (.invokevirtual 177, 3) := by decide +kernel
theorem d107_90 : decode (tBc 107) 90 = .ok (.ifCond .lt 37, 3) := by decide +kernel
theorem d107_93 : decode (tBc 107) 93 = .ok (.aload_n 0, 1) := by decide +kernel
theorem d107_94 : decode (tBc 107) 94 = .ok (.iconst 1, 1) := by decide +kernel
theorem d107_95 : decode (tBc 107) 95 = .ok (.invokevirtual 170, 3) := by decide +kernel
theorem d107_98 : decode (tBc 107) 98 = .ok (.goto 29, 3) := by decide +kernel
theorem d107_101 : decode (tBc 107) 101 = .ok (.aload_n 0, 1) := by decide +kernel
theorem d107_102 : decode (tBc 107) 102 = .ok (.iload_n 3, 1) := by decide +kernel
theorem d107_103 : decode (tBc 107) 103 = .ok (.iconst 1, 1) := by decide +kernel
theorem d107_104 : decode (tBc 107) 104 = .ok (.if_icmp .ne 8, 3) := by decide +kernel
theorem d107_107 : decode (tBc 107) 107 = .ok (.bipush 93, 2) := by decide +kernel
theorem d107_109 : decode (tBc 107) 109 = .ok (.goto 5, 3) := by decide +kernel
theorem d107_112 : decode (tBc 107) 112 = .ok (.bipush 41, 2) := by decide +kernel
theorem d107_114 : decode (tBc 107) 114 = .ok (.invokevirtual 191, 3) := by decide +kernel
theorem d107_117 : decode (tBc 107) 117 = .ok (.aload_n 0, 1) := by decide +kernel
theorem d107_118 : decode (tBc 107) 118 = .ok (.dup, 1) := by decide +kernel
theorem d107_119 : decode (tBc 107) 119 = .ok (.getfield 174, 3) := by decide +kernel
theorem d107_122 : decode (tBc 107) 122 = .ok (.iconst 1, 1) := by decide +kernel
theorem d107_123 : decode (tBc 107) 123 = .ok (.isub, 1) := by decide +kernel
theorem d107_124 : decode (tBc 107) 124 = .ok (.putfield 174, 3) := by decide +kernel
theorem d107_127 : decode (tBc 107) 127 = .ok (.goto (-123), 3) := by decide +kernel
theorem d107_130 : decode (tBc 107) 130 = .ok (.iload_n 1, 1) := by decide +kernel
theorem d107_131 : decode (tBc 107) 131 = .ok (.ireturn, 1) := by decide +kernel
theorem d108_0 : decode (tBc 108) 0 = .ok (.aload_n 0, 1) := by decide +kernel
theorem d108_1 : decode (tBc 108) 1 = .ok (.iconst 1, 1) := by decide +kernel
theorem d108_2 : decode (tBc 108) 2 = .ok (.putfield 222, 3) := by decide +kernel
theorem d108_5 : decode (tBc 108) 5 = .ok (.aload_n 0, 1) := by decide +kernel
theorem d108_6 : decode (tBc 108) 6 = .ok (.getfield 83, 3) := by decide +kernel
theorem d108_9 : decode (tBc 108) 9 = .ok (.iconst 0, 1) := by decide +kernel
theorem d108_10 : decode (tBc 108) 10 = .ok (.aload_n 0, 1) := by decide +kernel
theorem d108_11 : decode (tBc 108) 11 = .ok (.getfield 26, 3) := by decide +kernel
theorem d108_14 : decode (tBc 108) 14 = .ok (.iload_n 1, 1) := by decide +kernel
theorem d108_15 : decode (tBc 108) 15 = .ok (.iaload, 1) := by decide +kernel
theorem d108_16 : decode (tBc 108) 16 = .ok (.iastore, 1) := by decide +kernel
theorem d108_17 : decode (tBc 108) 17 = .ok (.aload_n 0, 1) := by decide +kernel
theorem d108_18 : decode (tBc 108) 18 = .ok (.getfield 86, 3) := by decide +kernel
theorem d108_21 : decode (tBc 108) 21 = .ok (.iconst 0, 1) := by decide +kernel
theorem d108_22 : decode (tBc 108) 22 = .ok (.iload_n 2, 1) := by decide +kernel
theorem d108_23 : decode (tBc 108) 23 = .ok (.iastore, 1) := by decide +kernel
theorem d108_24 : decode (tBc 108) 24 = .ok (.aload_n 0, 1) := by decide +kernel
theorem d108_25 : decode (tBc 108) 25 = .ok (.getfield 222, 3) := by decide +kernel
theorem d108_28 : decode (tBc 108) 28 = .ok (.ifCond .le 212, 3) := by decide +kernel
theorem d108_31 : decode (tBc 108) 31 = .ok (.aload_n 0, 1) := by decide +kernel
theorem d108_32 : decode (tBc 108) 32 = .ok (.getfield 215, 3) := by decide +kernel
theorem d108_35 : decode (tBc 108) 35 = .ok (.ifCond .ne 205, 3) := by decide +kernel
theorem d108_38 : decode (tBc 108) 38 = .ok (.aload_n 0, 1) := by decide +kernel
theorem d108_39 : decode (tBc 108) 39 = .ok (.getfield 83, 3) := by decide +kernel
theorem d108_42 : decode (tBc 108) 42 = .ok (.aload_n 0, 1) := by decide +kernel
theorem d108_43 : decode (tBc 108) 43 = .ok (.getfield 222, 3) := by decide +kernel
theorem d108_46 : decode (tBc 108) 46 = .ok (.iconst 1, 1) := by decide +kernel
theorem d108_47 : decode (tBc 108) 47 = .ok (.isub, 1) := by decide +kernel
theorem d108_48 : decode (tBc 108) 48 = .ok (.iaload, 1) := by decide +kernel
theorem d108_49 : decode (tBc 108) 49 = .ok (.istore 4, 2) := by decide +kernel
theorem d108_51 : decode (tBc 108) 51 = .ok (.aload_n 0, 1) := by decide +kernel
theorem d108_52 : decode (tBc 108) 52 = .ok (.getfield 86, 3) := by decide +kernel
theorem d108_55 : decode (tBc 108) 55 = .ok (.aload_n 0, 1) := by decide +kernel
theorem d108_56 : decode (tBc 108) 56 = .ok (.getfield 222, 3) := by decide +kernel
theorem d108_59 : decode (tBc 108) 59 = .ok (.iconst 1, 1) := by decide +kernel
theorem d108_60 : decode (tBc 108) 60 = .ok (.isub, 1) := by decide +kernel
theorem d108_61 : decode (tBc 108) 61 = .ok (.iaload, 1) := by decide +kernel
theorem d108_62 : decode (tBc 108) 62 = .ok (.istore 5, 2) := by decide +kernel
theorem d108_64 : decode (tBc 108) 64 = .ok (.aload_n 0, 1) := by decide +kernel
theorem d108_65 : decode (tBc 108) 65 = .ok (.dup, 1) := by decide +kernel
theorem d108_66 : decode (tBc 108) 66 = .ok (.getfield 222, 3) := by decide +kernel
theorem d108_69 : decode (tBc 108) 69 = .ok (.iconst 1, 1) := by decide +kernel
theorem d108_70 : decode (tBc 108) 70 = .ok (.isub, 1) := by decide +kernel
theorem d108_71 : decode (tBc 108) 71 = .ok (.putfield 222, 3) := by decide +kernel
theorem d108_74 : decode (tBc 108) 74 = .ok (.iload 4, 2) := by decide +kernel
theorem d108_76 : decode (tBc 108) 76 = .ok (.ifCond .lt 161, 3) := by decide +kernel
theorem d108_79 : decode (tBc 108) 79 = .ok (.aload_n 0, 1) := by decide +kernel
theorem d108_80 : decode (tBc 108) 80 = .ok (.getfield 83, 3) := by decide +kernel
theorem d108_83 : decode (tBc 108) 83 = .ok (.aload_n 0, 1) := by decide +kernel
theorem d108_84 : decode (tBc 108) 84 = .ok (.getfield 222, 3) := by decide +kernel
theorem d108_87 : decode (tBc 108) 87 = .ok (.aload_n 0, 1) := by decide +kernel
theorem d108_88 : decode (tBc 108) 88 = .ok (.getfield 32, 3) := by decide +kernel
theorem d108_91 : decode (tBc 108) 91 = .ok (.iload 4, 2) := by decide +kernel
theorem d108_93 : decode (tBc 108) 93 = .ok (.iaload, 1) := by decide +kernel
theorem d108_94 : decode (tBc 108) 94 = .ok (.iastore, 1) := by decide +kernel
theorem d108_95 : decode (tBc 108) 95 = .ok (.aload_n 0, 1) := by decide +kernel
theorem d108_96 : decode (tBc 108) 96 = .ok (.getfield 86, 3) := by decide +kernel
theorem d108_99 : decode (tBc 108) 99 = .ok (.aload_n 0, 1) := by decide +kernel
theorem d108_100 : decode (tBc 108) 100 = .ok (.getfield 222, 3) := by decide +kernel
theorem d108_103 : decode (tBc 108) 103 = .ok (.iload 5, 2) := by decide +kernel
theorem d108_105 : decode (tBc 108) 105 = .ok (.iastore, 1) := by decide +kernel
theorem d108_106 : decode (tBc 108) 106 = .ok (.aload_n 0, 1) := by decide +kernel
theorem d108_107 : decode (tBc 108) 107 = .ok (.dup, 1) := by decide +kernel
theorem d108_108 : decode (tBc 108) 108 = .ok (.getfield 222, 3) := by decide +kernel
theorem d108_111 : decode (tBc 108) 111 = .ok (.iconst 1, 1) := by decide +kernel
theorem d108_112 : decode (tBc 108) 112 = .ok (.iadd, 1) := by decide +kernel
theorem d108_113 : decode (tBc 108) 113 = .ok (.putfield 222, 3) := by decide +kernel
theorem d108_116 : decode (tBc 108) 116 = .ok (.aload_n 0, 1) := by decide +kernel
theorem d108_117 : decode (tBc 108) 117 = .ok (.getfield 16, 3) := by decide +kernel
theorem d108_120 : decode (tBc 108) 120 = .ok (.iload 4, 2) := by decide +kernel
theorem d108_122 : decode (tBc 108) 122 = .ok (.iaload, 1) := by decide +kernel
theorem d108_123 : decode (tBc 108) 123 = .ok (.ifCond .ne 63, 3) := by decide +kernel
theorem d108_126 : decode (tBc 108) 126 = .ok (.aload_n 0, 1) := by decide +kernel
theorem d108_127 : decode (tBc 108) 127 = .ok (.aload_n 0, 1) := by decide +kernel
theorem d108_128 : decode (tBc 108) 128 = .ok (.aload_n 0, 1) := by decide +kernel
theorem d108_129 : decode (tBc 108) 129 = .ok (.getfield 23, 3) := by decide +kernel
theorem d108_132 : decode (tBc 108) 132 = .ok (.iload 4, 2) := by decide +kernel
theorem d108_134 : decode (tBc 108) 134 = .ok (.iaload, 1) := by decide +kernel
theorem d108_135 : decode (tBc 108) 135 = .ok (.iload_n 3, 1) := by decide +kernel
theorem d108_136 : decode (tBc 108) 136 = .ok (.invokevirtual 225, 3) := by decide +kernel
theorem d108_139 : decode (tBc 108) 139 = .ok (.iload 5, 2) := by decide +kernel
theorem d108_141 : decode (tBc 108) 141 = .ok (.invokevirtual 229, 3) := by decide +kernel
theorem d108_144 : decode (tBc 108) 144 = .ok (.istore 6, 2) := by decide +kernel
theorem d108_146 : decode (tBc 108) 146 = .ok (.aload_n 0, 1) := by decide +kernel
theorem d108_147 : decode (tBc 108) 147 = .ok (.getfield 83, 3) := by decide +kernel
theorem d108_150 : decode (tBc 108) 150 = .ok (.aload_n 0, 1) := by decide +kernel
theorem d108_151 : decode (tBc 108) 151 = .ok (.getfield 222, 3) := by decide +kernel
theorem d108_154 : decode (tBc 108) 154 = .ok (.aload_n 0, 1) := by decide +kernel
theorem d108_155 : decode (tBc 108) 155 = .ok (.getfield 26, 3) := by decide +kernel
theorem d108_158 : decode (tBc 108) 158 = .ok (.iload 4, 2) := by decide +kernel
theorem d108_160 : decode (tBc 108) 160 = .ok (.iaload, 1) := by decide +kernel
theorem d108_161 : decode (tBc 108) 161 = .ok (.iastore, 1) := by decide +kernel
theorem d108_162 : decode (tBc 108) 162 = .ok (.aload_n 0, 1) := by decide +kernel
theorem d108_163 : decode (tBc 108) 163 = .ok (.getfield 86, 3) := by decide +kernel
theorem d108_166 : decode (tBc 108) 166 = .ok (.aload_n 0, 1) := by decide +kernel
theorem d108_167 : decode (tBc 108) 167 = .ok (.getfield 222, 3) := by decide +kernel
theorem d108_170 : decode (tBc 108) 170 = .ok (.iload 6, 2) := by decide +kernel
theorem d108_172 : decode (tBc 108) 172 = .ok (.iastore, 1) := by decide +kernel
theorem d108_173 : decode (tBc 108) 173 = .ok (.aload_n 0, 1) := by decide +kernel
theorem d108_174 : decode (tBc 108) 174 = .ok (.dup, 1) := by decide +kernel
theorem d108_175 : decode (tBc 108) 175 = .ok (.getfield 222, 3) := by decide +kernel
theorem d108_178 : decode (tBc 108) 178 = .ok (.iconst 1, 1) := by decide +kernel
theorem d108_179 : decode (tBc 108) 179 = .ok (.iadd, 1) := by decide +kernel
theorem d108_180 : decode (tBc 108) 180 = .ok (.putfield 222, 3) := by decide +kernel
theorem d108_183 : decode (tBc 108) 183 = .ok (.goto 44, 3) := by decide +kernel
theorem d108_186 : decode (tBc 108) 186 = .ok (.aload_n 0, 1) := by decide +kernel
theorem d108_187 : decode (tBc 108) 187 = .ok (.getfield 16, 3) := by decide +kernel
theorem d108_190 : decode (tBc 108) 190 = .ok (.iload 4, 2) := by decide +kernel
theorem d108_192 : decode (tBc 108) 192 = .ok (.iaload, 1) := by decide +kernel
theorem d108_193 : decode (tBc 108) 193 = .ok (.iconst 1, 1) := by decide +kernel
theorem d108_194 : decode (tBc 108) 194 = .ok (.if_icmp .ne 24, 3) := by decide +kernel
theorem d108_197 : decode (tBc 108) 197 = .ok (.aload_n 0, 1) := by decide +kernel
theorem d108_198 : decode (tBc 108) 198 = .ok (.aload_n 0, 1) := by decide +kernel
theorem d108_199 : decode (tBc 108) 199 = .ok (.aload_n 0, 1) := by decide +kernel
theorem d108_200 : decode (tBc 108) 200 = .ok (.getfield 23, 3) := by decide +kernel
theorem d108_203 : decode (tBc 108) 203 = .ok (.iload 4, 2) := by decide +kernel
theorem d108_205 : decode (tBc 108) 205 = .ok (.iaload, 1) := by decide +kernel
theorem d108_206 : decode (tBc 108) 206 = .ok (.iload_n 3, 1) := by decide +kernel
theorem d108_207 : decode (tBc 108) 207 = .ok (.invokevirtual 225, 3) := by decide +kernel
theorem d108_210 : decode (tBc 108) 210 = .ok (.iload 5, 2) := by decide +kernel
theorem d108_212 : decode (tBc 108) 212 = .ok (.invokevirtual 232, 3) := by decide +kernel
theorem d108_215 : decode (tBc 108) 215 = .ok (.goto 12, 3) := by decide +kernel
theorem d108_218 : decode (tBc 108) 218 = .ok (.aload_n 0, 1) := by decide +kernel
theorem d108_219 : decode (tBc 108) 219 = .ok (.iload 4, 2) := by decide +kernel
theorem d108_221 : decode (tBc 108) 221 = .ok (.iload 5, 2) := by decide +kernel
theorem d108_223 : decode (tBc 108) 223 = .ok (.iload_n 3, 1) := by decide +kernel
theorem d108_224 : decode (tBc 108) 224 = .ok (.invokevirtual 236, 3) := by decide +kernel
theorem d108_227 : decode (tBc 108) 227 = .ok (.aload_n 0, 1) := by decide +kernel
theorem d108_228 : decode (tBc 108) 228 = .ok (.dup, 1) := by decide +kernel
theorem d108_229 : decode (tBc 108) 229 = .ok (.getfield 209, 3) := by decide +kernel
theorem d108_232 : decode (tBc 108) 232 = .ok (.iconst 1, 1) := by decide +kernel
theorem d108_233 : decode (tBc 108) 233 = .ok (.iadd, 1) := by decide +kernel
theorem d108_234 : decode (tBc 108) 234 = .ok (.putfield 209, 3) := by decide +kernel
theorem d108_237 : decode (tBc 108) 237 = .ok (.goto (-213), 3) := by decide +kernel
theorem d108_240 : decode (tBc 108) 240 = .ok (.return_, 1) := by decide +kernel
theorem d109_0 : decode (tBc 109) 0 = .ok (.iload_n 1, 1) := by decide +kernel
theorem d109_1 : decode (tBc 109) 1 = .ok (.bipush 6, 2) := by decide +kernel
theorem d109_3 : decode (tBc 109) 3 = .ok (.if_icmp .ge 7, 3) := by decide +kernel
theorem d109_6 : decode (tBc 109) 6 = .ok (.iload_n 1, 1) := by decide +kernel
theorem d109_7 : decode (tBc 109) 7 = .ok (.goto 16, 3) := by decide +kernel
theorem d109_10 : decode (tBc 109) 10 = .ok (.iload_n 2, 1) := by decide +kernel
theorem d109_11 : decode (tBc 109) 11 = .ok (.iconst 4, 1) := by decide +kernel
theorem d109_12 : decode (tBc 109) 12 = .ok (.iload_n 1, 1) := by decide +kernel
theorem d109_13 : decode (tBc 109) 13 = .ok (.bipush 6, 2) := by decide +kernel
theorem d109_15 : decode (tBc 109) 15 = .ok (.isub, 1) := by decide +kernel
theorem d109_16 : decode (tBc 109) 16 = .ok (.imul, 1) := by decide +kernel
theorem d109_17 : decode (tBc 109) 17 = .ok (.ishr, 1) := by decide +kernel
theorem d109_18 : decode (tBc 109) 18 = .ok (.bipush 15, 2) := by decide +kernel
theorem d109_20 : decode (tBc 109) 20 = .ok (.iand, 1) := by decide +kernel
theorem d109_21 : decode (tBc 109) 21 = .ok (.iconst 1, 1) := by decide +kernel
theorem d109_22 : decode (tBc 109) 22 = .ok (.isub, 1) := by decide +kernel
theorem d109_23 : decode (tBc 109) 23 = .ok (.ireturn, 1) := by decide +kernel
theorem d110_0 : decode (tBc 110) 0 = .ok (.iconst 1, 1) := by decide +kernel
theorem d110_1 : decode (tBc 110) 1 = .ok (.istore_n 3, 1) := by decide +kernel
theorem d110_2 : decode (tBc 110) 2 = .ok (.iload_n 3, 1) := by decide +kernel
theorem d110_3 : decode (tBc 110) 3 = .ok (.bipush 21, 2) := by decide +kernel
theorem d110_5 : decode (tBc 110) 5 = .ok (.if_icmp .ge 18, 3) := by decide +kernel
theorem d110_8 : decode (tBc 110) 8 = .ok (.aload_n 0, 1) := by decide +kernel
theorem d110_9 : decode (tBc 110) 9 = .ok (.getfield 44, 3) := by decide +kernel
theorem d110_12 : decode (tBc 110) 12 = .ok (.iload_n 3, 1) := by decide +kernel
theorem d110_13 : decode (tBc 110) 13 = .ok (.iaload, 1) := by decide +kernel
theorem d110_14 : decode (tBc 110) 14 = .ok (.ifCond .lt 9, 3) := by decide +kernel
theorem d110_17 : decode (tBc 110) 17 = .ok (.iinc 3 1, 3) := by decide +kernel
theorem d110_20 : decode (tBc 110) 20 = .ok (.goto (-18), 3) := by decide +kernel
theorem d110_23 : decode (tBc 110) 23 = .ok (.iload_n 3, 1) := by decide +kernel
theorem d110_24 : decode (tBc 110) 24 = .ok (.bipush 21, 2) := by decide +kernel
theorem d110_26 : decode (tBc 110) 26 = .ok (.if_icmp .ne 10, 3) := by decide +kernel
theorem d110_29 : decode (tBc 110) 29 = .ok (.aload_n 0, 1) := by decide +kernel
theorem d110_30 : decode (tBc 110) 30 = .ok (.iconst 1, 1) := by decide +kernel
theorem d110_31 : decode (tBc 110) 31 = .ok (.putfield 215, 3) := by decide +kernel
theorem d110_34 : decode (tBc 110) 34 = .ok (.iconst 0, 1) := by decide +kernel
theorem d110_35 : decode (tBc 110) 35 = .ok (.ireturn, 1) := by decide +kernel
theorem d110_36 : decode (tBc 110) 36 = .ok (.aload_n 0, 1) := by decide +kernel
theorem d110_37 : decode (tBc 110) 37 = .ok (.getfield 44, 3) := by decide +kernel
theorem d110_40 : decode (tBc 110) 40 = .ok (.iload_n 3, 1) := by decide +kernel
theorem d110_41 : decode (tBc 110) 41 = .ok (.aload_n 0, 1) := by decide +kernel
theorem d110_42 : decode (tBc 110) 42 = .ok (.getfield 209, 3) := by decide +kernel
theorem d110_45 : decode (tBc 110) 45 = .ok (.iastore, 1) := by decide +kernel
theorem d110_46 : decode (tBc 110) 46 = .ok (.aload_n 0, 1) := by decide +kernel
theorem d110_47 : decode (tBc 110) 47 = .ok (.getfield 47, 3) := by decide +kernel
theorem d110_50 : decode (tBc 110) 50 = .ok (.iload_n 3, 1) := by decide +kernel
theorem d110_51 : decode (tBc 110) 51 = .ok (.iload_n 1, 1) := by decide +kernel
theorem d110_52 : decode (tBc 110) 52 = .ok (.iastore, 1) := by decide +kernel
theorem d110_53 : decode (tBc 110) 53 = .ok (.aload_n 0, 1) := by decide +kernel
theorem d110_54 : decode (tBc 110) 54 = .ok (.getfield 50, 3) := by decide +kernel
theorem d110_57 : decode (tBc 110) 57 = .ok (.iload_n 3, 1) := by decide +kernel
theorem d110_58 : decode (tBc 110) 58 = .ok (.iload_n 2, 1) := by decide +kernel
theorem d110_59 : decode (tBc 110) 59 = .ok (.iastore, 1) := by decide +kernel
theorem d110_60 : decode (tBc 110) 60 = .ok (.iload_n 3, 1) := by decide +kernel
theorem d110_61 : decode (tBc 110) 61 = .ok (.ireturn, 1) := by decide +kernel
theorem d111_0 : decode (tBc 111) 0 = .ok (.iconst 0, 1) := by decide +kernel
theorem d111_1 : decode (tBc 111) 1 = .ok (.istore_n 3, 1) := by decide +kernel
theorem d111_2 : decode (tBc 111) 2 = .ok (.iload_n 3, 1) := by decide +kernel
theorem d111_3 : decode (tBc 111) 3 = .ok (.bipush 30, 2) := by decide +kernel
theorem d111_5 : decode (tBc 111) 5 = .ok (.if_icmp .ge 18, 3) := by decide +kernel
theorem d111_8 : decode (tBc 111) 8 = .ok (.aload_n 0, 1) := by decide +kernel
theorem d111_9 : decode (tBc 111) 9 = .ok (.getfield 65, 3) := by decide +kernel
theorem d111_12 : decode (tBc 111) 12 = .ok (.iload_n 3, 1) := by decide +kernel
theorem d111_13 : decode (tBc 111) 13 = .ok (.iaload, 1) := by decide +kernel
theorem d111_14 : decode (tBc 111) 14 = .ok (.ifCond .lt 9, 3) := by decide +kernel
theorem d111_17 : decode (tBc 111) 17 = .ok (.iinc 3 1, 3) := by decide +kernel
theorem d111_20 : decode (tBc 111) 20 = .ok (.goto (-18), 3) := by decide +kernel
theorem d111_23 : decode (tBc 111) 23 = .ok (.aload_n 0, 1) := by decide +kernel
theorem d111_24 : decode (tBc 111) 24 = .ok (.aload_n 0, 1) := by decide +kernel
theorem d111_25 : decode (tBc 111) 25 = .ok (.getfield 215, 3) := by decide +kernel
theorem d111_28 : decode (tBc 111) 28 = .ok (.ifCond .ne 9, 3) := by decide +kernel
theorem d111_31 : decode (tBc 111) 31 = .ok (.iload_n 3, 1) := by decide +kernel
theorem d111_32 : decode (tBc 111) 32 = .ok (.bipush 30, 2) := by decide +kernel
theorem d111_34 : decode (tBc 111) 34 = .ok (.if_icmp .ne 7, 3) := by decide +kernel
theorem d111_37 : decode (tBc 111) 37 = .ok (.iconst 1, 1) := by decide +kernel
theorem d111_38 : decode (tBc 111) 38 = .ok (.goto 4, 3) := by decide +kernel
theorem d111_41 : decode (tBc 111) 41 = .ok (.iconst 0, 1) := by decide +kernel
theorem d111_42 : decode (tBc 111) 42 = .ok (.putfield 215, 3) := by decide +kernel
theorem d111_45 : decode (tBc 111) 45 = .ok (.aload_n 0, 1) := by decide +kernel
theorem d111_46 : decode (tBc 111) 46 = .ok (.getfield 215, 3) := by decide +kernel
theorem d111_49 : decode (tBc 111) 49 = .ok (.ifCond .eq 4, 3) := by decide +kernel
theorem d111_52 : decode (tBc 111) 52 = .ok (.return_, 1) := by decide +kernel
theorem d111_53 : decode (tBc 111) 53 = .ok (.aload_n 0, 1) := by decide +kernel
theorem d111_54 : decode (tBc 111) 54 = .ok (.getfield 65, 3) := by decide +kernel
theorem d111_57 : decode (tBc 111) 57 = .ok (.iload_n 3, 1) := by decide +kernel
theorem d111_58 : decode (tBc 111) 58 = .ok (.aload_n 0, 1) := by decide +kernel
theorem d111_59 : decode (tBc 111) 59 = .ok (.getfield 209, 3) := by decide +kernel
theorem d111_62 : decode (tBc 111) 62 = .ok (.iastore, 1) := by decide +kernel
theorem d111_63 : decode (tBc 111) 63 = .ok (.aload_n 0, 1) := by decide +kernel
theorem d111_64 : decode (tBc 111) 64 = .ok (.getfield 68, 3) := by decide +kernel
theorem d111_67 : decode (tBc 111) 67 = .ok (.iload_n 3, 1) := by decide +kernel
theorem d111_68 : decode (tBc 111) 68 = .ok (.iload_n 1, 1) := by decide +kernel
theorem d111_69 : decode (tBc 111) 69 = .ok (.iastore, 1) := by decide +kernel
theorem d111_70 : decode (tBc 111) 70 = .ok (.aload_n 0, 1) := by decide +kernel
theorem d111_71 : decode (tBc 111) 71 = .ok (.getfield 71, 3) := by decide +kernel
theorem d111_74 : decode (tBc 111) 74 = .ok (.iload_n 3, 1) := by decide +kernel
theorem d111_75 : decode (tBc 111) 75 = .ok (.iload_n 2, 1) := by decide +kernel
theorem d111_76 : decode (tBc 111) 76 = .ok (.iastore, 1) := by decide +kernel
theorem d111_77 : decode (tBc 111) 77 = .ok (.return_, 1) := by decide +kernel
theorem d112_0 : decode (tBc 112) 0 = .ok (.iconst 0, 1) := by decide +kernel
theorem d112_1 : decode (tBc 112) 1 = .ok (.istore 4, 2) := by decide +kernel
theorem d112_3 : decode (tBc 112) 3 = .ok (.iload 4, 2) := by decide +kernel
theorem d112_5 : decode (tBc 112) 5 = .ok (.bipush 40, 2) := by decide +kernel
theorem d112_7 : decode (tBc 112) 7 = .ok (.if_icmp .ge 19, 3) := by decide +kernel
theorem d112_10 : decode (tBc 112) 10 = .ok (.aload_n 0, 1) := by decide +kernel
theorem d112_11 : decode (tBc 112) 11 = .ok (.getfield 53, 3) := by decide +kernel
theorem d112_14 : decode (tBc 112) 14 = .ok (.iload 4, 2) := by decide +kernel
theorem d112_16 : decode (tBc 112) 16 = .ok (.iaload, 1) := by decide +kernel
theorem d112_17 : decode (tBc 112) 17 = .ok (.ifCond .lt 9, 3) := by decide +kernel
theorem d112_20 : decode (tBc 112) 20 = .ok (.iinc 4 1, 3) := by decide +kernel
theorem d112_23 : decode (tBc 112) 23 = .ok (.goto (-20), 3) := by decide +kernel
theorem d112_26 : decode (tBc 112) 26 = .ok (.aload_n 0, 1) := by decide +kernel
theorem d112_27 : decode (tBc 112) 27 = .ok (.aload_n 0, 1) := by decide +kernel
theorem d112_28 : decode (tBc 112) 28 = .ok (.getfield 215, 3) := by decide +kernel
theorem d112_31 : decode (tBc 112) 31 = .ok (.ifCond .ne 10, 3) := by decide +kernel
theorem d112_34 : decode (tBc 112) 34 = .ok (.iload 4, 2) := by decide +kernel
theorem d112_36 : decode (tBc 112) 36 = .ok (.bipush 40, 2) := by decide +kernel
theorem d112_38 : decode (tBc 112) 38 = .ok (.if_icmp .ne 7, 3) := by decide +kernel
theorem d112_41 : decode (tBc 112) 41 = .ok (.iconst 1, 1) := by decide +kernel
theorem d112_42 : decode (tBc 112) 42 = .ok (.goto 4, 3) := by decide +kernel
theorem d112_45 : decode (tBc 112) 45 = .ok (.iconst 0, 1) := by decide +kernel
theorem d112_46 : decode (tBc 112) 46 = .ok (.putfield 215, 3) := by decide +kernel
theorem d112_49 : decode (tBc 112) 49 = .ok (.aload_n 0, 1) := by decide +kernel
theorem d112_50 : decode (tBc 112) 50 = .ok (.getfield 215, 3) := by decide +kernel
theorem d112_53 : decode (tBc 112) 53 = .ok (.ifCond .eq 4, 3) := by decide +kernel
theorem d112_56 : decode (tBc 112) 56 = .ok (.return_, 1) := by decide +kernel
theorem d112_57 : decode (tBc 112) 57 = .ok (.aload_n 0, 1) := by decide +kernel
theorem d112_58 : decode (tBc 112) 58 = .ok (.getfield 53, 3) := by decide +kernel
theorem d112_61 : decode (tBc 112) 61 = .ok (.iload 4, 2) := by decide +kernel
theorem d112_63 : decode (tBc 112) 63 = .ok (.aload_n 0, 1) := by decide +kernel
theorem d112_64 : decode (tBc 112) 64 = .ok (.getfield 209, 3) := by decide +kernel
theorem d112_67 : decode (tBc 112) 67 = .ok (.iastore, 1) := by decide +kernel
theorem d112_68 : decode (tBc 112) 68 = .ok (.aload_n 0, 1) := by decide +kernel
theorem d112_69 : decode (tBc 112) 69 = .ok (.getfield 56, 3) := by decide +kernel
theorem d112_72 : decode (tBc 112) 72 = .ok (.iload 4, 2) := by decide +kernel
theorem d112_74 : decode (tBc 112) 74 = .ok (.iload_n 1, 1) := by decide +kernel
theorem d112_75 : decode (tBc 112) 75 = .ok (.iastore, 1) := by decide +kernel
theorem d112_76 : decode (tBc 112) 76 = .ok (.aload_n 0, 1) := by decide +kernel
theorem d112_77 : decode (tBc 112) 77 = .ok (.getfield 59, 3) := by decide +kernel
theorem d112_80 : decode (tBc 112) 80 = .ok (.iload 4, 2) := by decide +kernel
theorem d112_82 : decode (tBc 112) 82 = .ok (.iload_n 2, 1) := by decide +kernel
theorem d112_83 : decode (tBc 112) 83 = .ok (.iastore, 1) := by decide +kernel
theorem d112_84 : decode (tBc 112) 84 = .ok (.aload_n 0, 1) := by decide +kernel
theorem d112_85 : decode (tBc 112) 85 = .ok (.getfield 62, 3) := by decide +kernel
theorem d112_88 : decode (tBc 112) 88 = .ok (.iload 4, 2) := by decide +kernel
theorem d112_90 : decode (tBc 112) 90 = .ok (.iload_n 3, 1) := by decide +kernel
theorem d112_91 : decode (tBc 112) 91 = .ok (.iastore, 1) := by decide +kernel
theorem d112_92 : decode (tBc 112) 92 = .ok (.return_, 1) := by decide +kernel
theorem d113_0 : decode (tBc 113) 0 = .ok (.aload_n 0, 1) := by decide +kernel
theorem d113_1 : decode (tBc 113) 1 = .ok (.iconst 0, 1) := by decide +kernel
theorem d113_2 : decode (tBc 113) 2 = .ok (.putfield 239, 3) := by decide +kernel
theorem d113_5 : decode (tBc 113) 5 = .ok (.aload_n 0, 1) := by decide +kernel
theorem d113_6 : decode (tBc 113) 6 = .ok (.iconst 0, 1) := by decide +kernel
theorem d113_7 : decode (tBc 113) 7 = .ok (.putfield 248, 3) := by decide +kernel
theorem d113_10 : decode (tBc 113) 10 = .ok (.aload_n 0, 1) := by decide +kernel
theorem d113_11 : decode (tBc 113) 11 = .ok (.iconst 0, 1) := by decide +kernel
theorem d113_12 : decode (tBc 113) 12 = .ok (.putfield 245, 3) := by decide +kernel
theorem d113_15 : decode (tBc 113) 15 = .ok (.aload_n 0, 1) := by decide +kernel
theorem d113_16 : decode (tBc 113) 16 = .ok (.iconst 0, 1) := by decide +kernel
theorem d113_17 : decode (tBc 113) 17 = .ok (.iconst 0, 1) := by decide +kernel
theorem d113_18 : decode (tBc 113) 18 = .ok (.iconst 1, 1) := by decide +kernel
theorem d113_19 : decode (tBc 113) 19 = .ok (.iconst 0, 1) := by decide +kernel
theorem d113_20 : decode (tBc 113) 20 = .ok (.invokevirtual 270, 3) := by decide +kernel
theorem d113_23 : decode (tBc 113) 23 = .ok (.aload_n 0, 1) := by decide +kernel
theorem d113_24 : decode (tBc 113) 24 = .ok (.getfield 245, 3) := by decide +kernel
theorem d113_27 : decode (tBc 113) 27 = .ok (.ifCond .le 84, 3) := by decide +kernel
theorem d113_30 : decode (tBc 113) 30 = .ok (.aload_n 0, 1) := by decide +kernel
theorem d113_31 : decode (tBc 113) 31 = .ok (.getfield 215, 3) := by decide +kernel
theorem d113_34 : decode (tBc 113) 34 = .ok (.ifCond .ne 77, 3) := by decide +kernel
theorem d113_37 : decode (tBc 113) 37 = .ok (.aload_n 0, 1) := by decide +kernel
theorem d113_38 : decode (tBc 113) 38 = .ok (.getfield 98, 3) := by decide +kernel
theorem d113_41 : decode (tBc 113) 41 = .ok (.aload_n 0, 1) := by decide +kernel
theorem d113_42 : decode (tBc 113) 42 = .ok (.getfield 245, 3) := by decide +kernel
theorem d113_45 : decode (tBc 113) 45 = .ok (.iconst 1, 1) := by decide +kernel
theorem d113_46 : decode (tBc 113) 46 = .ok (.isub, 1) := by decide +kernel
theorem d113_47 : decode (tBc 113) 47 = .ok (.iaload, 1) := by decide +kernel
theorem d113_48 : decode (tBc 113) 48 = .ok (.ifCond .ne 16, 3) := by decide +kernel
theorem d113_51 : decode (tBc 113) 51 = .ok (.aload_n 0, 1) := by decide +kernel
theorem d113_52 : decode (tBc 113) 52 = .ok (.aload_n 0, 1) := by decide +kernel
theorem d113_53 : decode (tBc 113) 53 = .ok (.getfield 245, 3) := by decide +kernel
theorem d113_56 : decode (tBc 113) 56 = .ok (.iconst 1, 1) := by decide +kernel
theorem d113_57 : decode (tBc 113) 57 = .ok (.isub, 1) := by decide +kernel
theorem d113_58 : decode (tBc 113) 58 = .ok (.invokevirtual 286, 3) := by decide +kernel
theorem d113_61 : decode (tBc 113) 61 = .ok (.goto 13, 3) := by decide +kernel
theorem d113_64 : decode (tBc 113) 64 = .ok (.aload_n 0, 1) := by decide +kernel
theorem d113_65 : decode (tBc 113) 65 = .ok (.aload_n 0, 1) := by decide +kernel
theorem d113_66 : decode (tBc 113) 66 = .ok (.getfield 245, 3) := by decide +kernel
theorem d113_69 : decode (tBc 113) 69 = .ok (.iconst 1, 1) := by decide +kernel
theorem d113_70 : decode (tBc 113) 70 = .ok (.isub, 1) := by decide +kernel
theorem d113_71 : decode (tBc 113) 71 = .ok (.invokevirtual 289, 3) := by decide +kernel
theorem d113_74 : decode (tBc 113) 74 = .ok (.aload_n 0, 1) := by decide +kernel
theorem d113_75 : decode (tBc 113) 75 = .ok (.aload_n 0, 1) := by decide +kernel
theorem d113_76 : decode (tBc 113) 76 = .ok (.getfield 215, 3) := by decide +kernel
theorem d113_79 : decode (tBc 113) 79 = .ok (.ifCond .ne 21, 3) := by decide +kernel
theorem d113_82 : decode (tBc 113) 82 = .ok (.aload_n 0, 1) := by decide +kernel
theorem d113_83 : decode (tBc 113) 83 = .ok (.getfield 248, 3) := by decide +kernel
theorem d113_86 : decode (tBc 113) 86 = .ok (.bipush 100, 2) := by decide +kernel
theorem d113_88 : decode (tBc 113) 88 = .ok (.if_icmp .gt 12, 3) := by decide +kernel
theorem d113_91 : decode (tBc 113) 91 = .ok (.aload_n 0, 1) := by decide +kernel
theorem d113_92 : decode (tBc 113) 92 = .ok (.getfield 245, 3) := by decide +kernel
theorem d113_95 : decode (tBc 113) 95 = .ok (.bipush 36, 2) := by decide +kernel
theorem d113_97 : decode (tBc 113) 97 = .ok (.if_icmp .le 7, 3) := by decide +kernel
theorem d113_100 : decode (tBc 113) 100 = .ok (.iconst 1, 1) := by decide +kernel
theorem d113_101 : decode (tBc 113) 101 = .ok (.goto 4, 3) := by decide +kernel
theorem d113_104 : decode (tBc 113) 104 = .ok (.iconst 0, 1) := by decide +kernel
theorem d113_105 : decode (tBc 113) 105 = .ok (.putfield 215, 3) := by decide +kernel
theorem d113_108 : decode (tBc 113) 108 = .ok (.goto (-85), 3) := by decide +kernel
theorem d113_111 : decode (tBc 113) 111 = .ok (.aload_n 0, 1) := by decide +kernel
theorem d113_112 : decode (tBc 113) 112 = .ok (.aload_n 0, 1) := by decide +kernel
theorem d113_113 : decode (tBc 113) 113 = .ok (.getfield 215, 3) := by decide +kernel
theorem d113_116 : decode (tBc 113) 116 = .ok (.ifCond .ne 13, 3) := by decide +kernel
theorem d113_119 : decode (tBc 113) 119 = .ok (.aload_n 0, 1) := by decide +kernel
theorem d113_120 : decode (tBc 113) 120 = .ok (.getfield 219, 3) := by decide +kernel
theorem d113_123 : decode (tBc 113) 123 = .ok (.sipush 240, 3) := by decide +kernel
theorem d113_126 : decode (tBc 113) 126 = .ok (.if_icmp .le 7, 3) := by decide +kernel
theorem d113_129 : decode (tBc 113) 129 = .ok (.iconst 1, 1) := by decide +kernel
theorem d113_130 : decode (tBc 113) 130 = .ok (.goto 4, 3) := by decide +kernel
theorem d113_133 : decode (tBc 113) 133 = .ok (.iconst 0, 1) := by decide +kernel
theorem d113_134 : decode (tBc 113) 134 = .ok (.putfield 215, 3) := by decide +kernel
theorem d113_137 : decode (tBc 113) 137 = .ok (.return_, 1) := by decide +kernel
theorem d114_0 : decode (tBc 114) 0 = .ok (.aload_n 0, 1) := by decide +kernel
theorem d114_1 : decode (tBc 114) 1 = .ok (.getfield 98, 3) := by decide +kernel
theorem d114_4 : decode (tBc 114) 4 = .ok (.aload_n 0, 1) := by decide +kernel
theorem d114_5 : decode (tBc 114) 5 = .ok (.getfield 245, 3) := by decide +kernel
theorem d114_8 : decode (tBc 114) 8 = .ok (.iload_n 1, 1) := by decide +kernel
theorem d114_9 : decode (tBc 114) 9 = .ok (.iastore, 1) := by decide +kernel
theorem d114_10 : decode (tBc 114) 10 = .ok (.aload_n 0, 1) := by decide +kernel
theorem d114_11 : decode (tBc 114) 11 = .ok (.getfield 101, 3) := by decide +kernel
theorem d114_14 : decode (tBc 114) 14 = .ok (.aload_n 0, 1) := by decide +kernel
theorem d114_15 : decode (tBc 114) 15 = .ok (.getfield 245, 3) := by decide +kernel
theorem d114_18 : decode (tBc 114) 18 = .ok (.iload_n 2, 1) := by decide +kernel
theorem d114_19 : decode (tBc 114) 19 = .ok (.iastore, 1) := by decide +kernel
theorem d114_20 : decode (tBc 114) 20 = .ok (.aload_n 0, 1) := by decide +kernel
theorem d114_21 : decode (tBc 114) 21 = .ok (.getfield 104, 3) := by decide +kernel
theorem d114_24 : decode (tBc 114) 24 = .ok (.aload_n 0, 1) := by decide +kernel
theorem d114_25 : decode (tBc 114) 25 = .ok (.getfield 245, 3) := by decide +kernel
theorem d114_28 : decode (tBc 114) 28 = .ok (.iload_n 3, 1) := by decide +kernel
theorem d114_29 : decode (tBc 114) 29 = .ok (.iastore, 1) := by decide +kernel
theorem d114_30 : decode (tBc 114) 30 = .ok (.aload_n 0, 1) := by decide +kernel
theorem d114_31 : decode (tBc 114) 31 = .ok (.getfield 107, 3) := by decide +kernel
theorem d114_34 : decode (tBc 114) 34 = .ok (.aload_n 0, 1) := by decide +kernel
theorem d114_35 : decode (tBc 114) 35 = .ok (.getfield 245, 3) := by decide +kernel
theorem d114_38 : decode (tBc 114) 38 = .ok (.aload_n 0, 1) := by decide +kernel
theorem d114_39 : decode (tBc 114) 39 = .ok (.getfield 248, 3) := by decide +kernel
theorem d114_42 : decode (tBc 114) 42 = .ok (.iastore, 1) := by decide +kernel
theorem d114_43 : decode (tBc 114) 43 = .ok (.aload_n 0, 1) := by decide +kernel
theorem d114_44 : decode (tBc 114) 44 = .ok (.getfield 110, 3) := by decide +kernel
theorem d114_47 : decode (tBc 114) 47 = .ok (.aload_n 0, 1) := by decide +kernel
theorem d114_48 : decode (tBc 114) 48 = .ok (.getfield 245, 3) := by decide +kernel
theorem d114_51 : decode (tBc 114) 51 = .ok (.iload 4, 2) := by decide +kernel
theorem d114_53 : decode (tBc 114) 53 = .ok (.iastore, 1) := by decide +kernel
theorem d114_54 : decode (tBc 114) 54 = .ok (.aload_n 0, 1) := by decide +kernel
theorem d114_55 : decode (tBc 114) 55 = .ok (.dup, 1) := by decide +kernel
theorem d114_56 : decode (tBc 114) 56 = .ok (.getfield 245, 3) := by decide +kernel
theorem d114_59 : decode (tBc 114) 59 = .ok (.iconst 1, 1) := by decide +kernel
theorem d114_60 : decode (tBc 114) 60 = .ok (.iadd, 1) := by decide +kernel
theorem d114_61 : decode (tBc 114) 61 = .ok (.putfield 245, 3) := by decide +kernel
theorem d114_64 : decode (tBc 114) 64 = .ok (.return_, 1) := by decide +kernel
theorem d115_0 : decode (tBc 115) 0 = .ok (.aload_n 0, 1) := by decide +kernel
theorem d115_1 : decode (tBc 115) 1 = .ok (.getfield 101, 3) := by decide +kernel
theorem d115_4 : decode (tBc 115) 4 = .ok (.iload_n 1, 1) := by decide +kernel
theorem d115_5 : decode (tBc 115) 5 = .ok (.iaload, 1) := by decide +kernel
theorem d115_6 : decode (tBc 115) 6 = .ok (.istore_n 2, 1) := by decide +kernel
theorem d115_7 : decode (tBc 115) 7 = .ok (.aload_n 0, 1) := by decide +kernel
theorem d115_8 : decode (tBc 115) 8 = .ok (.getfield 104, 3) := by decide +kernel
theorem d115_11 : decode (tBc 115) 11 = .ok (.iload_n 1, 1) := by decide +kernel
theorem d115_12 : decode (tBc 115) 12 = .ok (.iaload, 1) := by decide +kernel
theorem d115_13 : decode (tBc 115) 13 = .ok (.istore_n 3, 1) := by decide +kernel
theorem d115_14 : decode (tBc 115) 14 = .ok (.aload_n 0, 1) := by decide +kernel
theorem d115_15 : decode (tBc 115) 15 = .ok (.getfield 104, 3) := by decide +kernel
theorem d115_18 : decode (tBc 115) 18 = .ok (.iload_n 1, 1) := by decide +kernel
theorem d115_19 : decode (tBc 115) 19 = .ok (.dup2, 1) := by decide +kernel
theorem d115_20 : decode (tBc 115) 20 = .ok (.iaload, 1) := by decide +kernel
theorem d115_21 : decode (tBc 115) 21 = .ok (.iconst 1, 1) := by decide +kernel
theorem d115_22 : decode (tBc 115) 22 = .ok (.iadd, 1) := by decide +kernel
theorem d115_23 : decode (tBc 115) 23 = .ok (.iastore, 1) := by decide +kernel
theorem d115_24 : decode (tBc 115) 24 = .ok (.iload_n 3, 1) := by decide +kernel
theorem d115_25 : decode (tBc 115) 25 = .ok (.bipush 21, 2) := by decide +kernel
theorem d115_27 : decode (tBc 115) 27 = .ok (.if_icmp .ge 55, 3) := by decide +kernel
theorem d115_30 : decode (tBc 115) 30 = .ok (.iload_n 3, 1) := by decide +kernel
theorem d115_31 : decode (tBc 115) 31 = .ok (.ifCond .le 194, 3) := by decide +kernel
theorem d115_34 : decode (tBc 115) 34 = .ok (.aload_n 0, 1) := by decide +kernel
theorem d115_35 : decode (tBc 115) 35 = .ok (.getfield 44, 3) := by decide +kernel
theorem d115_38 : decode (tBc 115) 38 = .ok (.iload_n 3, 1) := by decide +kernel
theorem d115_39 : decode (tBc 115) 39 = .ok (.iaload, 1) := by decide +kernel
theorem d115_40 : decode (tBc 115) 40 = .ok (.ifCond .lt 185, 3) := by decide +kernel
theorem d115_43 : decode (tBc 115) 43 = .ok (.aload_n 0, 1) := by decide +kernel
theorem d115_44 : decode (tBc 115) 44 = .ok (.getfield 50, 3) := by decide +kernel
theorem d115_47 : decode (tBc 115) 47 = .ok (.iload_n 3, 1) := by decide +kernel
theorem d115_48 : decode (tBc 115) 48 = .ok (.iaload, 1) := by decide +kernel
theorem d115_49 : decode (tBc 115) 49 = .ok (.iload_n 2, 1) := by decide +kernel
theorem d115_50 : decode (tBc 115) 50 = .ok (.if_icmp .ne 175, 3) := by decide +kernel
theorem d115_53 : decode (tBc 115) 53 = .ok (.aload_n 0, 1) := by decide +kernel
theorem d115_54 : decode (tBc 115) 54 = .ok (.invokevirtual 258, 3) := by decide +kernel
theorem d115_57 : decode (tBc 115) 57 = .ok (.aload_n 0, 1) := by decide +kernel
theorem d115_58 : decode (tBc 115) 58 = .ok (.aload_n 0, 1) := by decide +kernel
theorem d115_59 : decode (tBc 115) 59 = .ok (.getfield 47, 3) := by decide +kernel
theorem d115_62 : decode (tBc 115) 62 = .ok (.iload_n 3, 1) := by decide +kernel
theorem d115_63 : decode (tBc 115) 63 = .ok (.iaload, 1) := by decide +kernel
theorem d115_64 : decode (tBc 115) 64 = .ok (.invokevirtual 261, 3) := by decide +kernel
theorem d115_67 : decode (tBc 115) 67 = .ok (.aload_n 0, 1) := by decide +kernel
theorem d115_68 : decode (tBc 115) 68 = .ok (.invokevirtual 267, 3) := by decide +kernel
theorem d115_71 : decode (tBc 115) 71 = .ok (.aload_n 0, 1) := by decide +kernel
theorem d115_72 : decode (tBc 115) 72 = .ok (.iconst 0, 1) := by decide +kernel
theorem d115_73 : decode (tBc 115) 73 = .ok (.iload_n 3, 1) := by decide +kernel
theorem d115_74 : decode (tBc 115) 74 = .ok (.iconst 0, 1) := by decide +kernel
theorem d115_75 : decode (tBc 115) 75 = .ok (.iconst 0, 1) := by decide +kernel
theorem d115_76 : decode (tBc 115) 76 = .ok (.invokevirtual 270, 3) := by decide +kernel
theorem d115_79 : decode (tBc 115) 79 = .ok (.goto 146, 3) := by decide +kernel
theorem d115_82 : decode (tBc 115) 82 = .ok (.iload_n 3, 1) := by decide +kernel
theorem d115_83 : decode (tBc 115) 83 = .ok (.bipush 61, 2) := by decide +kernel
theorem d115_85 : decode (tBc 115) 85 = .ok (.if_icmp .ge 58, 3) := by decide +kernel
theorem d115_88 : decode (tBc 115) 88 = .ok (.iload_n 3, 1) := by decide +kernel
theorem d115_89 : decode (tBc 115) 89 = .ok (.bipush 21, 2) := by decide +kernel
theorem d115_91 : decode (tBc 115) 91 = .ok (.isub, 1) := by decide +kernel
theorem d115_92 : decode (tBc 115) 92 = .ok (.istore 4, 2) := by decide +kernel
theorem d115_94 : decode (tBc 115) 94 = .ok (.aload_n 0, 1) := by decide +kernel
theorem d115_95 : decode (tBc 115) 95 = .ok (.getfield 53, 3) := by decide +kernel
theorem d115_98 : decode (tBc 115) 98 = .ok (.iload 4, 2) := by decide +kernel
theorem d115_100 : decode (tBc 115) 100 = .ok (.iaload, 1) := by decide +kernel
theorem d115_101 : decode (tBc 115) 101 = .ok (.ifCond .lt 39, 3) := by decide +kernel
theorem d115_104 : decode (tBc 115) 104 = .ok (.aload_n 0, 1) := by decide +kernel
theorem d115_105 : decode (tBc 115) 105 = .ok (.getfield 59, 3) := by decide +kernel
theorem d115_108 : decode (tBc 115) 108 = .ok (.iload 4, 2) := by decide +kernel
theorem d115_110 : decode (tBc 115) 110 = .ok (.iaload, 1) := by decide +kernel
theorem d115_111 : decode (tBc 115) 111 = .ok (.iload_n 2, 1) := by decide +kernel
theorem d115_112 : decode (tBc 115) 112 = .ok (.if_icmp .ne 28, 3) := by decide +kernel
theorem d115_115 : decode (tBc 115) 115 = .ok (.aload_n 0, 1) := by decide +kernel
theorem d115_116 : decode (tBc 115) 116 = .ok (.iload 4, 2) := by decide +kernel
theorem d115_118 : decode (tBc 115) 118 = .ok (.putfield 274, 3) := by decide +kernel
theorem d115_121 : decode (tBc 115) 121 = .ok (.aload_n 0, 1) := by decide +kernel
theorem d115_122 : decode (tBc 115) 122 = .ok (.aload_n 0, 1) := by decide +kernel
theorem d115_123 : decode (tBc 115) 123 = .ok (.getfield 56, 3) := by decide +kernel
theorem d115_126 : decode (tBc 115) 126 = .ok (.iload 4, 2) := by decide +kernel
theorem d115_128 : decode (tBc 115) 128 = .ok (.iaload, 1) := by decide +kernel
theorem d115_129 : decode (tBc 115) 129 = .ok (.aload_n 0, 1) := by decide +kernel
theorem d115_130 : decode (tBc 115) 130 = .ok (.getfield 62, 3) := by decide +kernel
theorem d115_133 : decode (tBc 115) 133 = .ok (.iload 4, 2) := by decide +kernel
theorem d115_135 : decode (tBc 115) 135 = .ok (.iaload, 1) := by decide +kernel
theorem d115_136 : decode (tBc 115) 136 = .ok (.iconst 0, 1) := by decide +kernel
theorem d115_137 : decode (tBc 115) 137 = .ok (.invokevirtual 277, 3) := by decide +kernel
theorem d115_140 : decode (tBc 115) 140 = .ok (.goto 85, 3) := by decide +kernel
theorem d115_143 : decode (tBc 115) 143 = .ok (.iload_n 3, 1) := by decide +kernel
theorem d115_144 : decode (tBc 115) 144 = .ok (.bipush 91, 2) := by decide +kernel
theorem d115_146 : decode (tBc 115) 146 = .ok (.if_icmp .ge 49, 3) := by decide +kernel
theorem d115_149 : decode (tBc 115) 149 = .ok (.iload_n 3, 1) := by decide +kernel
theorem d115_150 : decode (tBc 115) 150 = .ok (.bipush 21, 2) := by decide +kernel
theorem d115_152 : decode (tBc 115) 152 = .ok (.isub, 1) := by decide +kernel
theorem d115_153 : decode (tBc 115) 153 = .ok (.bipush 40, 2) := by decide +kernel
theorem d115_155 : decode (tBc 115) 155 = .ok (.isub, 1) := by decide +kernel
theorem d115_156 : decode (tBc 115) 156 = .ok (.istore 4, 2) := by decide +kernel
theorem d115_158 : decode (tBc 115) 158 = .ok (.aload_n 0, 1) := by decide +kernel
theorem d115_159 : decode (tBc 115) 159 = .ok (.getfield 65, 3) := by decide +kernel
theorem d115_162 : decode (tBc 115) 162 = .ok (.iload 4, 2) := by decide +kernel
theorem d115_164 : decode (tBc 115) 164 = .ok (.iaload, 1) := by decide +kernel
theorem d115_165 : decode (tBc 115) 165 = .ok (.ifCond .lt 27, 3) := by decide +kernel
theorem d115_168 : decode (tBc 115) 168 = .ok (.aload_n 0, 1) := by decide +kernel
theorem d115_169 : decode (tBc 115) 169 = .ok (.getfield 71, 3) := by decide +kernel
theorem d115_172 : decode (tBc 115) 172 = .ok (.iload 4, 2) := by decide +kernel
theorem d115_174 : decode (tBc 115) 174 = .ok (.iaload, 1) := by decide +kernel
theorem d115_175 : decode (tBc 115) 175 = .ok (.iload_n 2, 1) := by decide +kernel
theorem d115_176 : decode (tBc 115) 176 = .ok (.if_icmp .ne 16, 3) := by decide +kernel
theorem d115_179 : decode (tBc 115) 179 = .ok (.aload_n 0, 1) := by decide +kernel
theorem d115_180 : decode (tBc 115) 180 = .ok (.aload_n 0, 1) := by decide +kernel
theorem d115_181 : decode (tBc 115) 181 = .ok (.getfield 68, 3) := by decide +kernel
theorem d115_184 : decode (tBc 115) 184 = .ok (.iload 4, 2) := by decide +kernel
theorem d115_186 : decode (tBc 115) 186 = .ok (.iaload, 1) := by decide +kernel
theorem d115_187 : decode (tBc 115) 187 = .ok (.iconst 0, 1) := by decide +kernel
theorem d115_188 : decode (tBc 115) 188 = .ok (.iconst 0, 1) := by decide +kernel
theorem d115_189 : decode (tBc 115) 189 = .ok (.invokevirtual 280, 3) := by decide +kernel
theorem d115_192 : decode (tBc 115) 192 = .ok (.goto 33, 3) := by decide +kernel
theorem d115_195 : decode (tBc 115) 195 = .ok (.aload_n 0, 1) := by decide +kernel
theorem d115_196 : decode (tBc 115) 196 = .ok (.dup, 1) := by decide +kernel
theorem d115_197 : decode (tBc 115) 197 = .ok (.getfield 245, 3) := by decide +kernel
theorem d115_200 : decode (tBc 115) 200 = .ok (.iconst 1, 1) := by decide +kernel
theorem d115_201 : decode (tBc 115) 201 = .ok (.isub, 1) := by decide +kernel
theorem d115_202 : decode (tBc 115) 202 = .ok (.putfield 245, 3) := by decide +kernel
theorem d115_205 : decode (tBc 115) 205 = .ok (.aload_n 0, 1) := by decide +kernel
theorem d115_206 : decode (tBc 115) 206 = .ok (.aload_n 0, 1) := by decide +kernel
theorem d115_207 : decode (tBc 115) 207 = .ok (.getfield 107, 3) := by decide +kernel
theorem d115_210 : decode (tBc 115) 210 = .ok (.iload_n 1, 1) := by decide +kernel
theorem d115_211 : decode (tBc 115) 211 = .ok (.iaload, 1) := by decide +kernel
theorem d115_212 : decode (tBc 115) 212 = .ok (.iload_n 2, 1) := by decide +kernel
theorem d115_213 : decode (tBc 115) 213 = .ok (.ifCond .ne 7, 3) := by decide +kernel
theorem d115_216 : decode (tBc 115) 216 = .ok (.iconst 0, 1) := by decide +kernel
theorem d115_217 : decode (tBc 115) 217 = .ok (.goto 5, 3) := by decide +kernel
theorem d115_220 : decode (tBc 115) 220 = .ok (.bipush 91, 2) := by decide +kernel
theorem d115_222 : decode (tBc 115) 222 = .ok (.invokevirtual 283, 3) := by decide +kernel
theorem d115_225 : decode (tBc 115) 225 = .ok (.return_, 1) := by decide +kernel
theorem d116_0 : decode (tBc 116) 0 = .ok (.aload_n 0, 1) := by decide +kernel
theorem d116_1 : decode (tBc 116) 1 = .ok (.getfield 92, 3) := by decide +kernel
theorem d116_4 : decode (tBc 116) 4 = .ok (.aload_n 0, 1) := by decide +kernel
theorem d116_5 : decode (tBc 116) 5 = .ok (.getfield 248, 3) := by decide +kernel
theorem d116_8 : decode (tBc 116) 8 = .ok (.aload_n 0, 1) := by decide +kernel
theorem d116_9 : decode (tBc 116) 9 = .ok (.getfield 239, 3) := by decide +kernel
theorem d116_12 : decode (tBc 116) 12 = .ok (.iastore, 1) := by decide +kernel
theorem d116_13 : decode (tBc 116) 13 = .ok (.aload_n 0, 1) := by decide +kernel
theorem d116_14 : decode (tBc 116) 14 = .ok (.dup, 1) := by decide +kernel
theorem d116_15 : decode (tBc 116) 15 = .ok (.getfield 248, 3) := by decide +kernel
theorem d116_18 : decode (tBc 116) 18 = .ok (.iconst 1, 1) := by decide +kernel
theorem d116_19 : decode (tBc 116) 19 = .ok (.iadd, 1) := by decide +kernel
theorem d116_20 : decode (tBc 116) 20 = .ok (.putfield 248, 3) := by decide +kernel
theorem d116_23 : decode (tBc 116) 23 = .ok (.return_, 1) := by decide +kernel
theorem d117_0 : decode (tBc 117) 0 = .ok (.aload_n 0, 1) := by decide +kernel
theorem d117_1 : decode (tBc 117) 1 = .ok (.iload_n 1, 1) := by decide +kernel
theorem d117_2 : decode (tBc 117) 2 = .ok (.bipush 6, 2) := by decide +kernel
theorem d117_4 : decode (tBc 117) 4 = .ok (.if_icmp .ge 10, 3) := by decide +kernel
theorem d117_7 : decode (tBc 117) 7 = .ok (.bipush 97, 2) := by decide +kernel
theorem d117_9 : decode (tBc 117) 9 = .ok (.iload_n 1, 1) := by decide +kernel
theorem d117_10 : decode (tBc 117) 10 = .ok (.iadd, 1) := by decide +kernel
theorem d117_11 : decode (tBc 117) 11 = .ok (.goto 7, 3) := by decide +kernel
theorem d117_14 : decode (tBc 117) 14 = .ok (.bipush 114, 2) := by decide +kernel
theorem d117_16 : decode (tBc 117) 16 = .ok (.iload_n 1, 1) := by decide +kernel
theorem d117_17 : decode (tBc 117) 17 = .ok (.iadd, 1) := by decide +kernel
theorem d117_18 : decode (tBc 117) 18 = .ok (.invokevirtual 242, 3) := by decide +kernel
theorem d117_21 : decode (tBc 117) 21 = .ok (.return_, 1) := by decide +kernel
theorem d118_0 : decode (tBc 118) 0 = .ok (.aload_n 0, 1) := by decide +kernel
theorem d118_1 : decode (tBc 118) 1 = .ok (.getfield 89, 3) := by decide +kernel
theorem d118_4 : decode (tBc 118) 4 = .ok (.aload_n 0, 1) := by decide +kernel
theorem d118_5 : decode (tBc 118) 5 = .ok (.getfield 239, 3) := by decide +kernel
theorem d118_8 : decode (tBc 118) 8 = .ok (.iload_n 1, 1) := by decide +kernel
theorem d118_9 : decode (tBc 118) 9 = .ok (.iastore, 1) := by decide +kernel
theorem d118_10 : decode (tBc 118) 10 = .ok (.aload_n 0, 1) := by decide +kernel
theorem d118_11 : decode (tBc 118) 11 = .ok (.dup, 1) := by decide +kernel
theorem d118_12 : decode (tBc 118) 12 = .ok (.getfield 239, 3) := by decide +kernel
theorem d118_15 : decode (tBc 118) 15 = .ok (.iconst 1, 1) := by decide +kernel
theorem d118_16 : decode (tBc 118) 16 = .ok (.iadd, 1) := by decide +kernel
theorem d118_17 : decode (tBc 118) 17 = .ok (.putfield 239, 3) := by decide +kernel
theorem d118_20 : decode (tBc 118) 20 = .ok (.aload_n 0, 1) := by decide +kernel
theorem d118_21 : decode (tBc 118) 21 = .ok (.aload_n 0, 1) := by decide +kernel
theorem d118_22 : decode (tBc 118) 22 = .ok (.getfield 215, 3) := by decide +kernel
theorem d118_25 : decode (tBc 118) 25 = .ok (.ifCond .ne 13, 3) := by decide +kernel
theorem d118_28 : decode (tBc 118) 28 = .ok (.aload_n 0, 1) := by decide +kernel
theorem d118_29 : decode (tBc 118) 29 = .ok (.getfield 239, 3) := by decide +kernel
theorem d118_32 : decode (tBc 118) 32 = .ok (.sipush 640, 3) := by decide +kernel
theorem d118_35 : decode (tBc 118) 35 = .ok (.if_icmp .le 7, 3) := by decide +kernel
theorem d118_38 : decode (tBc 118) 38 = .ok (.iconst 1, 1) := by decide +kernel
theorem d118_39 : decode (tBc 118) 39 = .ok (.goto 4, 3) := by decide +kernel
theorem d118_42 : decode (tBc 118) 42 = .ok (.iconst 0, 1) := by decide +kernel
theorem d118_43 : decode (tBc 118) 43 = .ok (.putfield 215, 3) := by decide +kernel
theorem d118_46 : decode (tBc 118) 46 = .ok (.aload_n 0, 1) := by decide +kernel
theorem d118_47 : decode (tBc 118) 47 = .ok (.aload_n 0, 1) := by decide +kernel
theorem d118_48 : decode (tBc 118) 48 = .ok (.getfield 239, 3) := by decide +kernel
theorem d118_51 : decode (tBc 118) 51 = .ok (.sipush 640, 3) := by decide +kernel
theorem d118_54 : decode (tBc 118) 54 = .ok (.if_icmp .le 9, 3) := by decide +kernel
theorem d118_57 : decode (tBc 118) 57 = .ok (.sipush 640, 3) := by decide +kernel
theorem d118_60 : decode (tBc 118) 60 = .ok (.goto 7, 3) := by decide +kernel
theorem d118_63 : decode (tBc 118) 63 = .ok (.aload_n 0, 1) := by decide +kernel
theorem d118_64 : decode (tBc 118) 64 = .ok (.getfield 239, 3) := by decide +kernel
theorem d118_67 : decode (tBc 118) 67 = .ok (.putfield 239, 3) := by decide +kernel
theorem d118_70 : decode (tBc 118) 70 = .ok (.return_, 1) := by decide +kernel
theorem d119_0 : decode (tBc 119) 0 = .ok (.aload_n 0, 1) := by decide +kernel
theorem d119_1 : decode (tBc 119) 1 = .ok (.getfield 135, 3) := by decide +kernel
theorem d119_4 : decode (tBc 119) 4 = .ok (.aload_n 0, 1) := by decide +kernel
theorem d119_5 : decode (tBc 119) 5 = .ok (.getfield 248, 3) := by decide +kernel
theorem d119_8 : decode (tBc 119) 8 = .ok (.iconst 1, 1) := by decide +kernel
theorem d119_9 : decode (tBc 119) 9 = .ok (.isub, 1) := by decide +kernel
theorem d119_10 : decode (tBc 119) 10 = .ok (.aload_n 0, 1) := by decide +kernel
theorem d119_11 : decode (tBc 119) 11 = .ok (.getfield 239, 3) := by decide +kernel
theorem d119_14 : decode (tBc 119) 14 = .ok (.aload_n 0, 1) := by decide +kernel
theorem d119_15 : decode (tBc 119) 15 = .ok (.getfield 92, 3) := by decide +kernel
theorem d119_18 : decode (tBc 119) 18 = .ok (.aload_n 0, 1) := by decide +kernel
theorem d119_19 : decode (tBc 119) 19 = .ok (.getfield 248, 3) := by decide +kernel
theorem d119_22 : decode (tBc 119) 22 = .ok (.iconst 1, 1) := by decide +kernel
theorem d119_23 : decode (tBc 119) 23 = .ok (.isub, 1) := by decide +kernel
theorem d119_24 : decode (tBc 119) 24 = .ok (.iaload, 1) := by decide +kernel
theorem d119_25 : decode (tBc 119) 25 = .ok (.isub, 1) := by decide +kernel
theorem d119_26 : decode (tBc 119) 26 = .ok (.iastore, 1) := by decide +kernel
theorem d119_27 : decode (tBc 119) 27 = .ok (.return_, 1) := by decide +kernel
