/-! The model's constructor. Written by wip/whole/gen/ca3.py. -/
def zM (m b i : Nat) : Int := if b = m + 35 ∧ i < 3 then -1 else 0
theorem zM_0 {m b i : Nat} (h : b ≠ m + 35) : zM m b i = 0 := if_neg (fun hh => h hh.1)
theorem c89 {P : Pg} {d : Nat} {u : Mm} {a : Nat} (hs : mS u a = some (100 + 8, 67)) (ha1 : mT u = a + 1) : Ec P (d + 1) 89 [vR a] u (fun r v => r = .inl none ∧ ∃ w g', v = sI w g' ∧ Ar u w a mdF 42 16463 (zM a) ∧ MdA w a ∧ AlQ (mI w) g' a) := by
  have ha : a < mT u := by omega
  have rest : ∀ v35, Ar u v35 a mdF 35 4513 (zM a) → Ef P (d + 1) 89 297 [some (vR a)] [] v35 (fun r v => r = .inl none ∧ ∃ w g', v = sI w g' ∧ Ar u w a mdF 42 16463 (zM a) ∧ MdA w a ∧ AlQ (mI w) g' a) := by
    intro v35 A35
    refine ef_aload_n (pc := 297) d89_297 rfl ?_
    refine ef_bipush (pc := 298) d89_298 (by decide) ?_
    refine ef_mk (pc := 300) (pc2 := 302) (n := 90) d89_300 d89_302 rfl rfl rfl (by decide) pf_89_116 hs (by decide) A35 ha rfl (by decide +kernel) (fun i => zM_0 (by omega)) ?_
    intro v36 A36
    refine ef_aload_n (pc := 305) d89_305 rfl ?_
    refine ef_sipush (pc := 306) d89_306 (by decide) ?_
    refine ef_mk (pc := 309) (pc2 := 311) (n := 10048) d89_309 d89_311 rfl rfl rfl (by decide) pf_89_120 hs (by decide) A36 ha rfl (by decide +kernel) (fun i => zM_0 (by omega)) ?_
    intro v37 A37
    refine ef_aload_n (pc := 314) d89_314 rfl ?_
    refine ef_bipush (pc := 315) d89_315 (by decide) ?_
    refine ef_mk (pc := 317) (pc2 := 319) (n := 31) d89_317 d89_319 rfl rfl rfl (by decide) pf_89_123 hs (by decide) A37 ha rfl (by decide +kernel) (fun i => zM_0 (by omega)) ?_
    intro v38 A38
    refine ef_aload_n (pc := 322) d89_322 rfl ?_
    refine ef_sipush (pc := 323) d89_323 (by decide) ?_
    refine ef_mk (pc := 326) (pc2 := 328) (n := 930) d89_326 d89_328 rfl rfl rfl (by decide) pf_89_126 hs (by decide) A38 ha rfl (by decide +kernel) (fun i => zM_0 (by omega)) ?_
    intro v39 A39
    refine ef_aload_n (pc := 331) d89_331 rfl ?_
    refine ef_bipush (pc := 332) d89_332 (by decide) ?_
    refine ef_mk (pc := 334) (pc2 := 336) (n := 31) d89_334 d89_336 rfl rfl rfl (by decide) pf_89_129 hs (by decide) A39 ha rfl (by decide +kernel) (fun i => zM_0 (by omega)) ?_
    intro v40 A40
    refine ef_aload_n (pc := 339) d89_339 rfl ?_
    refine ef_sipush (pc := 340) d89_340 (by decide) ?_
    refine ef_mk (pc := 343) (pc2 := 345) (n := 700) d89_343 d89_345 rfl rfl rfl (by decide) pf_89_132 hs (by decide) A40 ha rfl (by decide +kernel) (fun i => zM_0 (by omega)) ?_
    intro v41 A41
    refine ef_aload_n (pc := 348) d89_348 rfl ?_
    refine ef_bipush (pc := 349) d89_349 (by decide) ?_
    refine ef_mk (pc := 351) (pc2 := 353) (n := 120) d89_351 d89_353 rfl rfl rfl (by decide) pf_89_135 hs (by decide) A41 ha rfl (by decide +kernel) (fun i => zM_0 (by omega)) ?_
    intro v42 A42
    have hM : MdA v42 a := by
      refine ⟨((A42.2.2.1 a ha).2.1).trans hs, fun j hj => ?_⟩
      obtain ⟨-, p2, p3⟩ := A42.2.2.2 j hj
      rw [ha1] at p2 p3
      exact ⟨p2, p3⟩
    have hs42 := hM.1
    refine ef_aload_n (pc := 356) d89_356 rfl ?_
    refine ef_callV (pc := 357) d89_357 lm_8_138 (as := []) rfl rfl (by assumption) rfl rfl (by decide) (Nat.le_of_ble_eq_true rfl) rfl (Nat.le_of_ble_eq_true rfl) ?_
    refine Ec.imp (Ec.deep (Nat.zero_le _) (c90 (d := 0) (g := mI v42) hM)) ?_
    rintro r357 u357 ⟨g', rfl, rfl, q1⟩
    refine ef_vret (pc := 360) d89_360 rfl ?_
    exact ⟨rfl, v42, g', rfl, A42, hM, q1⟩
  have A0 : Ar u u a mdF 0 0 (zM a) := Ar.zero
  change Ef P _ 89 0 [some (vR a)] [] _ _
  refine ef_aload_n (pc := 0) d89_0 rfl ?_
  refine ef_biI (pc := 1) d89_1 lm_8_1 (as := [_]) rfl rfl (by decide) (Nat.le_of_ble_eq_true rfl) (rfl) ?_
  refine ef_aload_n (pc := 4) d89_4 rfl ?_
  refine ef_bipush (pc := 5) d89_5 (by decide) ?_
  refine ef_mk (pc := 7) (pc2 := 9) (n := 120) d89_7 d89_9 rfl rfl rfl (by decide) pf_89_7 hs (by decide) A0 ha rfl (by decide +kernel) (fun i => zM_0 (by omega)) ?_
  intro v1 A1
  refine ef_aload_n (pc := 12) d89_12 rfl ?_
  refine ef_bipush (pc := 13) d89_13 (by decide) ?_
  refine ef_mk (pc := 15) (pc2 := 17) (n := 120) d89_15 d89_17 rfl rfl rfl (by decide) pf_89_13 hs (by decide) A1 ha rfl (by decide +kernel) (fun i => zM_0 (by omega)) ?_
  intro v2 A2
  refine ef_aload_n (pc := 20) d89_20 rfl ?_
  refine ef_bipush (pc := 21) d89_21 (by decide) ?_
  refine ef_mk (pc := 23) (pc2 := 25) (n := 51) d89_23 d89_25 rfl rfl rfl (by decide) pf_89_16 hs (by decide) A2 ha rfl (by decide +kernel) (fun i => zM_0 (by omega)) ?_
  intro v3 A3
  refine ef_aload_n (pc := 28) d89_28 rfl ?_
  refine ef_bipush (pc := 29) d89_29 (by decide) ?_
  refine ef_mk (pc := 31) (pc2 := 33) (n := 51) d89_31 d89_33 rfl rfl rfl (by decide) pf_89_19 hs (by decide) A3 ha rfl (by decide +kernel) (fun i => zM_0 (by omega)) ?_
  intro v4 A4
  refine ef_aload_n (pc := 36) d89_36 rfl ?_
  refine ef_bipush (pc := 37) d89_37 (by decide) ?_
  refine ef_mk (pc := 39) (pc2 := 41) (n := 51) d89_39 d89_41 rfl rfl rfl (by decide) pf_89_23 hs (by decide) A4 ha rfl (by decide +kernel) (fun i => zM_0 (by omega)) ?_
  intro v5 A5
  refine ef_aload_n (pc := 44) d89_44 rfl ?_
  refine ef_bipush (pc := 45) d89_45 (by decide) ?_
  refine ef_mk (pc := 47) (pc2 := 49) (n := 51) d89_47 d89_49 rfl rfl rfl (by decide) pf_89_26 hs (by decide) A5 ha rfl (by decide +kernel) (fun i => zM_0 (by omega)) ?_
  intro v6 A6
  refine ef_aload_n (pc := 52) d89_52 rfl ?_
  refine ef_bipush (pc := 53) d89_53 (by decide) ?_
  refine ef_mk (pc := 55) (pc2 := 57) (n := 51) d89_55 d89_57 rfl rfl rfl (by decide) pf_89_29 hs (by decide) A6 ha rfl (by decide +kernel) (fun i => zM_0 (by omega)) ?_
  intro v7 A7
  refine ef_aload_n (pc := 60) d89_60 rfl ?_
  refine ef_bipush (pc := 61) d89_61 (by decide) ?_
  refine ef_mk (pc := 63) (pc2 := 65) (n := 51) d89_63 d89_65 rfl rfl rfl (by decide) pf_89_32 hs (by decide) A7 ha rfl (by decide +kernel) (fun i => zM_0 (by omega)) ?_
  intro v8 A8
  refine ef_aload_n (pc := 68) d89_68 rfl ?_
  refine ef_bipush (pc := 69) d89_69 (by decide) ?_
  refine ef_mk (pc := 71) (pc2 := 73) (n := 20) d89_71 d89_73 rfl rfl rfl (by decide) pf_89_35 hs (by decide) A8 ha rfl (by decide +kernel) (fun i => zM_0 (by omega)) ?_
  intro v9 A9
  refine ef_aload_n (pc := 76) d89_76 rfl ?_
  refine ef_bipush (pc := 77) d89_77 (by decide) ?_
  refine ef_mk (pc := 79) (pc2 := 81) (n := 20) d89_79 d89_81 rfl rfl rfl (by decide) pf_89_38 hs (by decide) A9 ha rfl (by decide +kernel) (fun i => zM_0 (by omega)) ?_
  intro v10 A10
  refine ef_aload_n (pc := 84) d89_84 rfl ?_
  refine ef_bipush (pc := 85) d89_85 (by decide) ?_
  refine ef_mk (pc := 87) (pc2 := 89) (n := 20) d89_87 d89_89 rfl rfl rfl (by decide) pf_89_41 hs (by decide) A10 ha rfl (by decide +kernel) (fun i => zM_0 (by omega)) ?_
  intro v11 A11
  refine ef_aload_n (pc := 92) d89_92 rfl ?_
  refine ef_bipush (pc := 93) d89_93 (by decide) ?_
  refine ef_mk (pc := 95) (pc2 := 97) (n := 21) d89_95 d89_97 rfl rfl rfl (by decide) pf_89_44 hs (by decide) A11 ha rfl (by decide +kernel) (fun i => zM_0 (by omega)) ?_
  intro v12 A12
  refine ef_aload_n (pc := 100) d89_100 rfl ?_
  refine ef_bipush (pc := 101) d89_101 (by decide) ?_
  refine ef_mk (pc := 103) (pc2 := 105) (n := 21) d89_103 d89_105 rfl rfl rfl (by decide) pf_89_47 hs (by decide) A12 ha rfl (by decide +kernel) (fun i => zM_0 (by omega)) ?_
  intro v13 A13
  refine ef_aload_n (pc := 108) d89_108 rfl ?_
  refine ef_bipush (pc := 109) d89_109 (by decide) ?_
  refine ef_mk (pc := 111) (pc2 := 113) (n := 21) d89_111 d89_113 rfl rfl rfl (by decide) pf_89_50 hs (by decide) A13 ha rfl (by decide +kernel) (fun i => zM_0 (by omega)) ?_
  intro v14 A14
  refine ef_aload_n (pc := 116) d89_116 rfl ?_
  refine ef_bipush (pc := 117) d89_117 (by decide) ?_
  refine ef_mk (pc := 119) (pc2 := 121) (n := 40) d89_119 d89_121 rfl rfl rfl (by decide) pf_89_53 hs (by decide) A14 ha rfl (by decide +kernel) (fun i => zM_0 (by omega)) ?_
  intro v15 A15
  refine ef_aload_n (pc := 124) d89_124 rfl ?_
  refine ef_bipush (pc := 125) d89_125 (by decide) ?_
  refine ef_mk (pc := 127) (pc2 := 129) (n := 40) d89_127 d89_129 rfl rfl rfl (by decide) pf_89_56 hs (by decide) A15 ha rfl (by decide +kernel) (fun i => zM_0 (by omega)) ?_
  intro v16 A16
  refine ef_aload_n (pc := 132) d89_132 rfl ?_
  refine ef_bipush (pc := 133) d89_133 (by decide) ?_
  refine ef_mk (pc := 135) (pc2 := 137) (n := 40) d89_135 d89_137 rfl rfl rfl (by decide) pf_89_59 hs (by decide) A16 ha rfl (by decide +kernel) (fun i => zM_0 (by omega)) ?_
  intro v17 A17
  refine ef_aload_n (pc := 140) d89_140 rfl ?_
  refine ef_bipush (pc := 141) d89_141 (by decide) ?_
  refine ef_mk (pc := 143) (pc2 := 145) (n := 40) d89_143 d89_145 rfl rfl rfl (by decide) pf_89_62 hs (by decide) A17 ha rfl (by decide +kernel) (fun i => zM_0 (by omega)) ?_
  intro v18 A18
  refine ef_aload_n (pc := 148) d89_148 rfl ?_
  refine ef_bipush (pc := 149) d89_149 (by decide) ?_
  refine ef_mk (pc := 151) (pc2 := 153) (n := 30) d89_151 d89_153 rfl rfl rfl (by decide) pf_89_65 hs (by decide) A18 ha rfl (by decide +kernel) (fun i => zM_0 (by omega)) ?_
  intro v19 A19
  refine ef_aload_n (pc := 156) d89_156 rfl ?_
  refine ef_bipush (pc := 157) d89_157 (by decide) ?_
  refine ef_mk (pc := 159) (pc2 := 161) (n := 30) d89_159 d89_161 rfl rfl rfl (by decide) pf_89_68 hs (by decide) A19 ha rfl (by decide +kernel) (fun i => zM_0 (by omega)) ?_
  intro v20 A20
  refine ef_aload_n (pc := 164) d89_164 rfl ?_
  refine ef_bipush (pc := 165) d89_165 (by decide) ?_
  refine ef_mk (pc := 167) (pc2 := 169) (n := 30) d89_167 d89_169 rfl rfl rfl (by decide) pf_89_71 hs (by decide) A20 ha rfl (by decide +kernel) (fun i => zM_0 (by omega)) ?_
  intro v21 A21
  refine ef_aload_n (pc := 172) d89_172 rfl ?_
  refine ef_sipush (pc := 173) d89_173 (by decide) ?_
  refine ef_mk (pc := 176) (pc2 := 178) (n := 2040) d89_176 d89_178 rfl rfl rfl (by decide) pf_89_74 hs (by decide) A21 ha rfl (by decide +kernel) (fun i => zM_0 (by omega)) ?_
  intro v22 A22
  refine ef_aload_n (pc := 181) d89_181 rfl ?_
  refine ef_bipush (pc := 182) d89_182 (by decide) ?_
  refine ef_mk (pc := 184) (pc2 := 186) (n := 40) d89_184 d89_186 rfl rfl rfl (by decide) pf_89_77 hs (by decide) A22 ha rfl (by decide +kernel) (fun i => zM_0 (by omega)) ?_
  intro v23 A23
  refine ef_aload_n (pc := 189) d89_189 rfl ?_
  refine ef_bipush (pc := 190) d89_190 (by decide) ?_
  refine ef_mk (pc := 192) (pc2 := 194) (n := 51) d89_192 d89_194 rfl rfl rfl (by decide) pf_89_80 hs (by decide) A23 ha rfl (by decide +kernel) (fun i => zM_0 (by omega)) ?_
  intro v24 A24
  refine ef_aload_n (pc := 197) d89_197 rfl ?_
  refine ef_bipush (pc := 198) d89_198 (by decide) ?_
  refine ef_mk (pc := 200) (pc2 := 202) (n := 60) d89_200 d89_202 rfl rfl rfl (by decide) pf_89_83 hs (by decide) A24 ha rfl (by decide +kernel) (fun i => zM_0 (by omega)) ?_
  intro v25 A25
  refine ef_aload_n (pc := 205) d89_205 rfl ?_
  refine ef_bipush (pc := 206) d89_206 (by decide) ?_
  refine ef_mk (pc := 208) (pc2 := 210) (n := 60) d89_208 d89_210 rfl rfl rfl (by decide) pf_89_86 hs (by decide) A25 ha rfl (by decide +kernel) (fun i => zM_0 (by omega)) ?_
  intro v26 A26
  refine ef_aload_n (pc := 213) d89_213 rfl ?_
  refine ef_sipush (pc := 214) d89_214 (by decide) ?_
  refine ef_mk (pc := 217) (pc2 := 219) (n := 900) d89_217 d89_219 rfl rfl rfl (by decide) pf_89_89 hs (by decide) A26 ha rfl (by decide +kernel) (fun i => zM_0 (by omega)) ?_
  intro v27 A27
  refine ef_aload_n (pc := 222) d89_222 rfl ?_
  refine ef_bipush (pc := 223) d89_223 (by decide) ?_
  refine ef_mk (pc := 225) (pc2 := 227) (n := 120) d89_225 d89_227 rfl rfl rfl (by decide) pf_89_92 hs (by decide) A27 ha rfl (by decide +kernel) (fun i => zM_0 (by omega)) ?_
  intro v28 A28
  refine ef_aload_n (pc := 230) d89_230 rfl ?_
  refine ef_bipush (pc := 231) d89_231 (by decide) ?_
  refine ef_mk (pc := 233) (pc2 := 235) (n := 120) d89_233 d89_235 rfl rfl rfl (by decide) pf_89_95 hs (by decide) A28 ha rfl (by decide +kernel) (fun i => zM_0 (by omega)) ?_
  intro v29 A29
  refine ef_aload_n (pc := 238) d89_238 rfl ?_
  refine ef_bipush (pc := 239) d89_239 (by decide) ?_
  refine ef_mk (pc := 241) (pc2 := 243) (n := 40) d89_241 d89_243 rfl rfl rfl (by decide) pf_89_98 hs (by decide) A29 ha rfl (by decide +kernel) (fun i => zM_0 (by omega)) ?_
  intro v30 A30
  refine ef_aload_n (pc := 246) d89_246 rfl ?_
  refine ef_bipush (pc := 247) d89_247 (by decide) ?_
  refine ef_mk (pc := 249) (pc2 := 251) (n := 40) d89_249 d89_251 rfl rfl rfl (by decide) pf_89_101 hs (by decide) A30 ha rfl (by decide +kernel) (fun i => zM_0 (by omega)) ?_
  intro v31 A31
  refine ef_aload_n (pc := 254) d89_254 rfl ?_
  refine ef_bipush (pc := 255) d89_255 (by decide) ?_
  refine ef_mk (pc := 257) (pc2 := 259) (n := 40) d89_257 d89_259 rfl rfl rfl (by decide) pf_89_104 hs (by decide) A31 ha rfl (by decide +kernel) (fun i => zM_0 (by omega)) ?_
  intro v32 A32
  refine ef_aload_n (pc := 262) d89_262 rfl ?_
  refine ef_bipush (pc := 263) d89_263 (by decide) ?_
  refine ef_mk (pc := 265) (pc2 := 267) (n := 40) d89_265 d89_267 rfl rfl rfl (by decide) pf_89_107 hs (by decide) A32 ha rfl (by decide +kernel) (fun i => zM_0 (by omega)) ?_
  intro v33 A33
  refine ef_aload_n (pc := 270) d89_270 rfl ?_
  refine ef_bipush (pc := 271) d89_271 (by decide) ?_
  refine ef_mk (pc := 273) (pc2 := 275) (n := 40) d89_273 d89_275 rfl rfl rfl (by decide) pf_89_110 hs (by decide) A33 ha rfl (by decide +kernel) (fun i => zM_0 (by omega)) ?_
  intro v34 A34
  refine ef_aload_n (pc := 278) d89_278 rfl ?_
  refine ef_iconst (pc := 279) d89_279 (by decide) ?_
  have nT := A34.1
  refine ef_newa (pc := 280) d89_280 rfl (n := 3) rfl (by decide) ?_
  have hS3 : mS (mNew v34 0 3) (mT v34) = some (0, 3) := by rw [mS_new, if_pos rfl]
  refine ef_dup (pc := 282) d89_282 rfl ?_
  refine ef_iconst (pc := 283) d89_283 (by decide) ?_
  refine ef_iconst (pc := 284) d89_284 (by decide) ?_
  refine ef_iast (pc := 285) d89_285 (i := 0) (w := (-1)) (by assumption) (rfl) (by omega) (rfl) ?_
  refine ef_dup (pc := 286) d89_286 rfl ?_
  refine ef_iconst (pc := 287) d89_287 (by decide) ?_
  refine ef_iconst (pc := 288) d89_288 (by decide) ?_
  refine ef_iast (pc := 289) d89_289 (i := 1) (w := (-1)) (by assumption) (rfl) (by omega) (rfl) ?_
  refine ef_dup (pc := 290) d89_290 rfl ?_
  refine ef_iconst (pc := 291) d89_291 (by decide) ?_
  refine ef_iconst (pc := 292) d89_292 (by decide) ?_
  refine ef_iast (pc := 293) d89_293 (i := 2) (w := (-1)) (by assumption) (rfl) (by omega) (rfl) ?_
  refine ef_putR (r := some (mT v34)) (pc := 294) d89_294 pf_89_113 (show mS (mNew v34 0 3) a = _ by rw [mS_new, if_neg (by omega), (A34.2.2.1 a ha).2.1]; exact hs) (by decide) ?_
  have A35 := A34.putg (w := (sI (mNew v34 0 3) (u2 (u2 (u2 (mI (mNew v34 0 3)) (mT v34) 0 (-1)) (mT v34) 1 (-1)) (mT v34) 2 (-1)))) (f := 50) (kd := 0) (n := 3) ha rfl (by decide +kernel) rfl rfl (fun b hb => ⟨?_, ?_, ?_⟩) hS3 (fun i => ?_)
  rotate_left
  · show u2 (u2 (u2 (mI (mNew v34 0 3)) (mT v34) 0 (-1)) (mT v34) 1 (-1)) (mT v34) 2 (-1) b = _
    rw [u2_ne hb, u2_ne hb, u2_ne hb, mI_new, if_neg hb]
  · show mS (mNew v34 0 3) b = _
    rw [mS_new, if_neg hb]
  · show mF (mNew v34 0 3) b = _
    rw [mF_new, if_neg hb]
  · show u2 (u2 (u2 (mI (mNew v34 0 3)) (mT v34) 0 (-1)) (mT v34) 1 (-1)) (mT v34) 2 (-1) (mT v34) i = _
    by_cases h2 : i = 2
    · subst h2; rw [u2_at]; exact (if_pos ⟨by omega, by decide⟩).symm
    · rw [u2_ni h2]
      by_cases h1 : i = 1
      · subst h1; rw [u2_at]; exact (if_pos ⟨by omega, by decide⟩).symm
      · rw [u2_ni h1]
        by_cases h0 : i = 0
        · subst h0; rw [u2_at]; exact (if_pos ⟨by omega, by decide⟩).symm
        · rw [u2_ni h0, mI_new, if_pos rfl]; exact (if_neg (fun hh => by omega)).symm
  exact rest _ A35
