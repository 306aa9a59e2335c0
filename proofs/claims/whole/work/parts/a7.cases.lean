/-! The law's loop. Written by wip/whole/gen/ca7.py. -/
theorem ef_scLen {P : Pg} {d pc : Nat} {ls : List (Option Vl)} {st : List Vl} {u : Mm} {Q : Option Vl ⊕ (Nat × Nat) → Mm → Prop} (hd : decode (pBc P 178) pc = .ok (.arraylength, 1)) (hs : mS u (pB P) = none) (hne : pB P ≠ pSv P) (k : Ef P d 178 (pc + 1) ls (vI (pLn P) :: st) u Q) : Ef P d 178 pc ls (vR (pB P) :: st) u Q :=
  Ef.sp hd rfl (by simp [stp, goS, kLen, hs]) rfl rfl rfl (by simp [sps, hne]) k
theorem ef_scI {P : Pg} {d pc i : Nat} {ls : List (Option Vl)} {st : List Vl} {u : Mm} {Q : Option Vl ⊕ (Nat × Nat) → Mm → Prop} {x : Int} (hd : decode (pBc P 178) pc = .ok (.iaload, 1)) (hs : mS u (pB P) = none) (hx : x = (i : Int)) (hi : i < pLn P) (k : Ef P d 178 (pc + 1) ls (vI (pX P i) :: st) u Q) : Ef P d 178 pc ls (vI x :: vR (pB P) :: st) u Q := by
  subst hx
  refine Ef.sp hd rfl (by simp [stp, goS, kEl, hs]) rfl rfl rfl (st' := vI (pX P i) :: st) ?_ k
  simp [sps]
  omega
theorem L0 {P : Pg} {h n : Nat} {u : Mm} {g : Nat → Nat → Int} {v5 v6 : Option Vl} (hX : ∀ i, inR (pX P i)) (hb : pB P < h) (hp : pSv P < h) (hn : 4 * n + 4 ≤ pLn P) (hL : pLn P ≤ 2048) (nxt : ∀ (u : Mm) (g : Nat → Nat → Int) (v5 v6 : Option Vl), LI h (n + 1) u g → Ef P 100 178 900 [some (vR (pB P)), some (vR h), some (vR (h + 710)), some (vR (h + 753)), some (vI ((4 * n : Nat) : Int)), v5, v6] [] (sI u g) (fun r u' => r = .inl (some (vI 1)) ∧ mT u' ≤ h + 601024 ∧ mU u' ≤ 7293034)) (H : LI h n u g) : Ef P 100 178 108 [some (vR (pB P)), some (vR h), some (vR (h + 710)), some (vR (h + 753)), some (vI ((4 * n : Nat) : Int)), v5, v6] [] (sI u g) (fun r u' => r = .inl (some (vI 1)) ∧ mT u' ≤ h + 601024 ∧ mU u' ≤ 7293034) := by
  obtain ⟨hM0, ho0, hh0, hu0, -, -⟩ := H.md
  have hub := hu0 _ hb
  have hm0 := hM0.1
  refine ef_aload_n (pc := 108) d178_108 rfl ?_
  refine ef_aload_n (pc := 109) d178_109 rfl ?_
  refine ef_iload (pc := 110) d178_110 rfl ?_
  refine ef_iconst (pc := 112) d178_112 (by decide) ?_
  refine ef_iadd (pc := 113) d178_113 (z := ((4 * n + 1 : Nat) : Int)) (by omega) ⟨by omega, by omega⟩ ?_
  refine ef_scI (pc := 114) d178_114 (i := 4 * n + 1) (by assumption) (rfl) (by omega) ?_
  refine ef_i2l (pc := 115) d178_115 ?_
  refine ef_bipush (pc := 116) d178_116 (by decide) ?_
  refine ef_lshl (pc := 118) d178_118 ?_
  refine ef_aload_n (pc := 119) d178_119 rfl ?_
  refine ef_iload (pc := 120) d178_120 rfl ?_
  refine ef_iconst (pc := 122) d178_122 (by decide) ?_
  refine ef_iadd (pc := 123) d178_123 (z := ((4 * n + 2 : Nat) : Int)) (by omega) ⟨by omega, by omega⟩ ?_
  refine ef_scI (pc := 124) d178_124 (i := 4 * n + 2) (by assumption) (rfl) (by omega) ?_
  refine ef_i2l (pc := 125) d178_125 ?_
  refine ef_ldc2 (pc := 126) d178_126 (show tLl 9 66 = some 4294967295 by decide +kernel) ?_
  refine ef_land (pc := 129) d178_129 ?_
  refine ef_lor (pc := 130) d178_130 ?_
  refine ef_aload_n (pc := 131) d178_131 rfl ?_
  refine ef_iload (pc := 132) d178_132 rfl ?_
  refine ef_iconst (pc := 134) d178_134 (by decide) ?_
  refine ef_iadd (pc := 135) d178_135 (z := ((4 * n + 3 : Nat) : Int)) (by omega) ⟨by omega, by omega⟩ ?_
  refine ef_scI (pc := 136) d178_136 (i := 4 * n + 3) (by assumption) (rfl) (by omega) ?_
  refine ef_aload_n (pc := 137) d178_137 rfl ?_
  refine ef_callS (pc := 138) d178_138 lm_9_68 (as := [_, _, _, _]) rfl rfl rfl (Nat.le_of_ble_eq_true rfl) rfl (Nat.le_of_ble_eq_true rfl) ?_
  refine Ec.imp (Ec.deep (show 70 ≤ 99 by decide) (st0 (by omega) (H := H))) ?_
  rintro r138 u138 ⟨kz, z, v, g1, rfl, rfl, hm1, hu1, hnx⟩
  have hub1 := hu1 _ hb
  refine ef_istore (pc := 141) d178_141 (ls' := [_, _, _, _, _, _, _]) rfl ?_
  refine ef_aload_n (pc := 143) d178_143 rfl ?_
  refine ef_aload_n (pc := 144) d178_144 rfl ?_
  refine ef_iload (pc := 145) d178_145 rfl ?_
  refine ef_iconst (pc := 147) d178_147 (by decide) ?_
  refine ef_iadd (pc := 148) d178_148 (z := ((4 * n + 1 : Nat) : Int)) (by omega) ⟨by omega, by omega⟩ ?_
  refine ef_scI (pc := 149) d178_149 (i := 4 * n + 1) (by assumption) (rfl) (by omega) ?_
  try simp (disch := omega) only [u2_ne, u2_at, u2_ni, ur_ne, ur_eq]
  refine ef_i2l (pc := 150) d178_150 ?_
  refine ef_bipush (pc := 151) d178_151 (by decide) ?_
  refine ef_lshl (pc := 153) d178_153 ?_
  refine ef_aload_n (pc := 154) d178_154 rfl ?_
  refine ef_iload (pc := 155) d178_155 rfl ?_
  refine ef_iconst (pc := 157) d178_157 (by decide) ?_
  refine ef_iadd (pc := 158) d178_158 (z := ((4 * n + 2 : Nat) : Int)) (by omega) ⟨by omega, by omega⟩ ?_
  refine ef_scI (pc := 159) d178_159 (i := 4 * n + 2) (by assumption) (rfl) (by omega) ?_
  try simp (disch := omega) only [u2_ne, u2_at, u2_ni, ur_ne, ur_eq]
  refine ef_i2l (pc := 160) d178_160 ?_
  refine ef_ldc2 (pc := 161) d178_161 (show tLl 9 66 = some 4294967295 by decide +kernel) ?_
  refine ef_land (pc := 164) d178_164 ?_
  refine ef_lor (pc := 165) d178_165 ?_
  refine ef_aload_n (pc := 166) d178_166 rfl ?_
  refine ef_iload (pc := 167) d178_167 rfl ?_
  refine ef_iconst (pc := 169) d178_169 (by decide) ?_
  refine ef_iadd (pc := 170) d178_170 (z := ((4 * n + 3 : Nat) : Int)) (by omega) ⟨by omega, by omega⟩ ?_
  refine ef_scI (pc := 171) d178_171 (i := 4 * n + 3) (by assumption) (rfl) (by omega) ?_
  try simp (disch := omega) only [u2_ne, u2_at, u2_ni, ur_ne, ur_eq]
  refine ef_callV (pc := 172) d178_172 lm_9_73 (as := [_, _]) rfl rfl (by assumption) rfl rfl (by decide) (Nat.le_of_ble_eq_true rfl) rfl (Nat.le_of_ble_eq_true rfl) ?_
  refine Ec.imp (Ec.deep (show 70 ≤ 99 by decide) hnx) ?_
  rintro r172 u172 ⟨x0, v2, g2, rfl, rfl, e0, hk0, hI2⟩
  obtain ⟨hM2, ho2, hh2, hu2, -, -⟩ := hI2.md
  have hm2 := hM2.1
  refine ef_istore (pc := 175) d178_175 (ls' := [_, _, _, _, _, _, _]) rfl ?_
  refine ef_aload_n (pc := 177) d178_177 rfl ?_
  refine ef_callV (pc := 178) d178_178 lm_9_74 (as := []) rfl rfl (by assumption) rfl rfl (by decide) (Nat.le_of_ble_eq_true rfl) rfl (Nat.le_of_ble_eq_true rfl) ?_
  refine Ec.imp (Ec.deep (Nat.zero_le _) (c91 (d := 0) hM2)) ?_
  rintro r178 u178 ⟨rfl, rfl⟩
  rw [e0]
  refine ef_iload (pc := 181) d178_181 rfl ?_
  refine ef_icmp_eqT (pc := 183) d178_183 (t := 188) rfl (rfl) ?_
  refine ef_iload (pc := 188) d178_188 rfl ?_
  refine ef_if_ne (pc := 190) d178_190 (t := 205) rfl (fun h190 => ?_) (fun h190 => ?_)
  · refine ef_goto (pc := 205) d178_205 (t := 900) rfl ?_
    exact nxt v2 g2 _ _ hI2
  · obtain ⟨hx0, hl0⟩ := hk0 (by omega)
    refine ef_aload_n (pc := 193) d178_193 rfl ?_
    refine ef_iconst (pc := 194) d178_194 (by decide) ?_
    refine eg_lald (pc := 195) d178_195 (i := 0) (by assumption) (rfl) (by omega) ?_
    try simp (disch := omega) only [u2_ne, u2_at, u2_ni, ur_ne, ur_eq]
    rw [hl0]
    refine ef_iload (pc := 196) d178_196 rfl ?_
    refine ef_i2l (pc := 198) d178_198 ?_
    refine ef_lcmp (pc := 199) d178_199 ?_
    refine ef_if_eqT (pc := 200) d178_200 (t := 205) rfl (by rw [hx0]; exact lcz.mpr rfl) ?_
    refine ef_goto (pc := 205) d178_205 (t := 900) rfl ?_
    exact nxt v2 g2 _ _ hI2
theorem L1 {P : Pg} {h n : Nat} {u : Mm} {g : Nat → Nat → Int} {v5 v6 : Option Vl} (hX : ∀ i, inR (pX P i)) (hb : pB P < h) (hp : pSv P < h) (hn : 4 * n + 4 ≤ pLn P) (hL : pLn P ≤ 2048) (nxt : ∀ (u : Mm) (g : Nat → Nat → Int) (v5 v6 : Option Vl), LI h (n + 1) u g → Ef P 100 178 900 [some (vR (pB P)), some (vR h), some (vR (h + 710)), some (vR (h + 753)), some (vI ((4 * n : Nat) : Int)), v5, v6] [] (sI u g) (fun r u' => r = .inl (some (vI 1)) ∧ mT u' ≤ h + 601024 ∧ mU u' ≤ 7293034)) (H : LI h n u g) : Ef P 100 178 208 [some (vR (pB P)), some (vR h), some (vR (h + 710)), some (vR (h + 753)), some (vI ((4 * n : Nat) : Int)), v5, v6] [] (sI u g) (fun r u' => r = .inl (some (vI 1)) ∧ mT u' ≤ h + 601024 ∧ mU u' ≤ 7293034) := by
  obtain ⟨hM0, ho0, hh0, hu0, -, -⟩ := H.md
  have hub := hu0 _ hb
  have hm0 := hM0.1
  refine ef_aload_n (pc := 208) d178_208 rfl ?_
  refine ef_callV (pc := 209) d178_209 lm_9_77 (as := []) rfl rfl (by assumption) rfl rfl (by decide) (Nat.le_of_ble_eq_true rfl) rfl (Nat.le_of_ble_eq_true rfl) ?_
  refine Ec.imp (Ec.deep (show 70 ≤ 99 by decide) (st1 (by omega) H)) ?_
  rintro r209 u209 ⟨z, v, g1, rfl, rfl, hm1, hnx⟩
  refine ef_aload_n (pc := 212) d178_212 rfl ?_
  refine ef_callV (pc := 213) d178_213 lm_9_80 (as := []) rfl rfl (by assumption) rfl rfl (by decide) (Nat.le_of_ble_eq_true rfl) rfl (Nat.le_of_ble_eq_true rfl) ?_
  refine Ec.imp (Ec.deep (show 70 ≤ 99 by decide) hnx) ?_
  rintro r213 u213 ⟨v2, g2, rfl, rfl, hI2⟩
  refine ef_icmp_eqT (pc := 216) d178_216 (t := 900) rfl (rfl) ?_
  exact nxt v2 g2 _ _ hI2
theorem L2 {P : Pg} {h n : Nat} {u : Mm} {g : Nat → Nat → Int} {v5 v6 : Option Vl} (hX : ∀ i, inR (pX P i)) (hb : pB P < h) (hp : pSv P < h) (hn : 4 * n + 4 ≤ pLn P) (hL : pLn P ≤ 2048) (nxt : ∀ (u : Mm) (g : Nat → Nat → Int) (v5 v6 : Option Vl), LI h (n + 1) u g → Ef P 100 178 900 [some (vR (pB P)), some (vR h), some (vR (h + 710)), some (vR (h + 753)), some (vI ((4 * n : Nat) : Int)), v5, v6] [] (sI u g) (fun r u' => r = .inl (some (vI 1)) ∧ mT u' ≤ h + 601024 ∧ mU u' ≤ 7293034)) (H : LI h n u g) : Ef P 100 178 221 [some (vR (pB P)), some (vR h), some (vR (h + 710)), some (vR (h + 753)), some (vI ((4 * n : Nat) : Int)), v5, v6] [] (sI u g) (fun r u' => r = .inl (some (vI 1)) ∧ mT u' ≤ h + 601024 ∧ mU u' ≤ 7293034) := by
  obtain ⟨hM0, ho0, hh0, hu0, -, -⟩ := H.md
  have hub := hu0 _ hb
  have hm0 := hM0.1
  refine ef_aload_n (pc := 221) d178_221 rfl ?_
  refine ef_aload_n (pc := 222) d178_222 rfl ?_
  refine ef_callS (pc := 223) d178_223 lm_9_81 (as := [_, _]) rfl rfl rfl (Nat.le_of_ble_eq_true rfl) rfl (Nat.le_of_ble_eq_true rfl) ?_
  refine Ec.imp (Ec.deep (show 70 ≤ 99 by decide) (st2 (by omega) (hp := hp) (H := H))) ?_
  rintro r223 u223 ⟨kz, z, v, g1, rfl, rfl, hm1, hu1, hnx⟩
  have hub1 := hu1 _ hb
  refine ef_istore (pc := 226) d178_226 (ls' := [_, _, _, _, _, _, _]) rfl ?_
  refine ef_aload_n (pc := 228) d178_228 rfl ?_
  refine ef_callV (pc := 229) d178_229 lm_9_84 (as := []) rfl rfl (by assumption) rfl rfl (by decide) (Nat.le_of_ble_eq_true rfl) rfl (Nat.le_of_ble_eq_true rfl) ?_
  refine Ec.imp (Ec.deep (show 70 ≤ 99 by decide) hnx) ?_
  rintro r229 u229 ⟨x0, v2, g2, rfl, rfl, e0, hk0, hI2⟩
  obtain ⟨hM2, ho2, hh2, hu2, -, -⟩ := hI2.md
  have hm2 := hM2.1
  refine ef_istore (pc := 232) d178_232 (ls' := [_, _, _, _, _, _, _]) rfl ?_
  refine ef_aload_n (pc := 234) d178_234 rfl ?_
  refine ef_callV (pc := 235) d178_235 lm_9_74 (as := []) rfl rfl (by assumption) rfl rfl (by decide) (Nat.le_of_ble_eq_true rfl) rfl (Nat.le_of_ble_eq_true rfl) ?_
  refine Ec.imp (Ec.deep (Nat.zero_le _) (c91 (d := 0) hM2)) ?_
  rintro r235 u235 ⟨rfl, rfl⟩
  rw [e0]
  refine ef_iload (pc := 238) d178_238 rfl ?_
  refine ef_icmp_eqT (pc := 240) d178_240 (t := 245) rfl (rfl) ?_
  refine ef_iload (pc := 245) d178_245 rfl ?_
  refine ef_if_ne (pc := 247) d178_247 (t := 262) rfl (fun h247 => ?_) (fun h247 => ?_)
  · refine ef_goto (pc := 262) d178_262 (t := 900) rfl ?_
    exact nxt v2 g2 _ _ hI2
  · obtain ⟨hx0, hl0⟩ := hk0 (by omega)
    refine ef_aload_n (pc := 250) d178_250 rfl ?_
    refine ef_iconst (pc := 251) d178_251 (by decide) ?_
    refine eg_lald (pc := 252) d178_252 (i := 0) (by assumption) (rfl) (by omega) ?_
    try simp (disch := omega) only [u2_ne, u2_at, u2_ni, ur_ne, ur_eq]
    rw [hl0]
    refine ef_iload (pc := 253) d178_253 rfl ?_
    refine ef_i2l (pc := 255) d178_255 ?_
    refine ef_lcmp (pc := 256) d178_256 ?_
    refine ef_if_eqT (pc := 257) d178_257 (t := 262) rfl (by rw [hx0]; exact lcz.mpr rfl) ?_
    refine ef_goto (pc := 262) d178_262 (t := 900) rfl ?_
    exact nxt v2 g2 _ _ hI2
theorem L3 {P : Pg} {h n : Nat} {u : Mm} {g : Nat → Nat → Int} {v5 v6 : Option Vl} (hX : ∀ i, inR (pX P i)) (hb : pB P < h) (hp : pSv P < h) (hn : 4 * n + 4 ≤ pLn P) (hL : pLn P ≤ 2048) (nxt : ∀ (u : Mm) (g : Nat → Nat → Int) (v5 v6 : Option Vl), LI h (n + 1) u g → Ef P 100 178 900 [some (vR (pB P)), some (vR h), some (vR (h + 710)), some (vR (h + 753)), some (vI ((4 * n : Nat) : Int)), v5, v6] [] (sI u g) (fun r u' => r = .inl (some (vI 1)) ∧ mT u' ≤ h + 601024 ∧ mU u' ≤ 7293034)) (H : LI h n u g) : Ef P 100 178 265 [some (vR (pB P)), some (vR h), some (vR (h + 710)), some (vR (h + 753)), some (vI ((4 * n : Nat) : Int)), v5, v6] [] (sI u g) (fun r u' => r = .inl (some (vI 1)) ∧ mT u' ≤ h + 601024 ∧ mU u' ≤ 7293034) := by
  obtain ⟨hM0, ho0, hh0, hu0, -, -⟩ := H.md
  have hub := hu0 _ hb
  have hm0 := hM0.1
  refine ef_aload_n (pc := 265) d178_265 rfl ?_
  refine ef_callV (pc := 266) d178_266 lm_9_85 (as := []) rfl rfl (by assumption) rfl rfl (by decide) (Nat.le_of_ble_eq_true rfl) rfl (Nat.le_of_ble_eq_true rfl) ?_
  refine Ec.imp (Ec.deep (show 70 ≤ 99 by decide) (st3 (by omega) H)) ?_
  rintro r266 u266 ⟨z, v, g1, rfl, rfl, hm1, hnx⟩
  refine ef_aload_n (pc := 269) d178_269 rfl ?_
  refine ef_callV (pc := 270) d178_270 lm_9_88 (as := []) rfl rfl (by assumption) rfl rfl (by decide) (Nat.le_of_ble_eq_true rfl) rfl (Nat.le_of_ble_eq_true rfl) ?_
  refine Ec.imp (Ec.deep (show 70 ≤ 99 by decide) hnx) ?_
  rintro r270 u270 ⟨v2, g2, rfl, rfl, hI2⟩
  refine ef_icmp_eqT (pc := 273) d178_273 (t := 900) rfl (rfl) ?_
  exact nxt v2 g2 _ _ hI2
theorem L4 {P : Pg} {h n : Nat} {u : Mm} {g : Nat → Nat → Int} {v5 v6 : Option Vl} (hX : ∀ i, inR (pX P i)) (hb : pB P < h) (hp : pSv P < h) (hn : 4 * n + 4 ≤ pLn P) (hL : pLn P ≤ 2048) (nxt : ∀ (u : Mm) (g : Nat → Nat → Int) (v5 v6 : Option Vl), LI h (n + 1) u g → Ef P 100 178 900 [some (vR (pB P)), some (vR h), some (vR (h + 710)), some (vR (h + 753)), some (vI ((4 * n : Nat) : Int)), v5, v6] [] (sI u g) (fun r u' => r = .inl (some (vI 1)) ∧ mT u' ≤ h + 601024 ∧ mU u' ≤ 7293034)) (H : LI h n u g) : Ef P 100 178 278 [some (vR (pB P)), some (vR h), some (vR (h + 710)), some (vR (h + 753)), some (vI ((4 * n : Nat) : Int)), v5, v6] [] (sI u g) (fun r u' => r = .inl (some (vI 1)) ∧ mT u' ≤ h + 601024 ∧ mU u' ≤ 7293034) := by
  obtain ⟨hM0, ho0, hh0, hu0, -, -⟩ := H.md
  have hub := hu0 _ hb
  have hm0 := hM0.1
  refine ef_aload_n (pc := 278) d178_278 rfl ?_
  refine ef_aload_n (pc := 279) d178_279 rfl ?_
  refine ef_iload (pc := 280) d178_280 rfl ?_
  refine ef_iconst (pc := 282) d178_282 (by decide) ?_
  refine ef_iadd (pc := 283) d178_283 (z := ((4 * n + 1 : Nat) : Int)) (by omega) ⟨by omega, by omega⟩ ?_
  refine ef_scI (pc := 284) d178_284 (i := 4 * n + 1) (by assumption) (rfl) (by omega) ?_
  refine ef_aload_n (pc := 285) d178_285 rfl ?_
  refine ef_iload (pc := 286) d178_286 rfl ?_
  refine ef_iconst (pc := 288) d178_288 (by decide) ?_
  refine ef_iadd (pc := 289) d178_289 (z := ((4 * n + 2 : Nat) : Int)) (by omega) ⟨by omega, by omega⟩ ?_
  refine ef_scI (pc := 290) d178_290 (i := 4 * n + 2) (by assumption) (rfl) (by omega) ?_
  refine ef_aload_n (pc := 291) d178_291 rfl ?_
  refine ef_callS (pc := 292) d178_292 lm_9_89 (as := [_, _, _, _]) rfl rfl rfl (Nat.le_of_ble_eq_true rfl) rfl (Nat.le_of_ble_eq_true rfl) ?_
  refine Ec.imp (Ec.deep (show 70 ≤ 99 by decide) (st4 (by omega) (hi := hX _) (H := H))) ?_
  rintro r292 u292 ⟨kz, z, v, g1, rfl, rfl, hm1, hu1, hnx⟩
  have hub1 := hu1 _ hb
  refine ef_istore (pc := 295) d178_295 (ls' := [_, _, _, _, _, _, _]) rfl ?_
  refine ef_aload_n (pc := 297) d178_297 rfl ?_
  refine ef_aload_n (pc := 298) d178_298 rfl ?_
  refine ef_iload (pc := 299) d178_299 rfl ?_
  refine ef_iconst (pc := 301) d178_301 (by decide) ?_
  refine ef_iadd (pc := 302) d178_302 (z := ((4 * n + 1 : Nat) : Int)) (by omega) ⟨by omega, by omega⟩ ?_
  refine ef_scI (pc := 303) d178_303 (i := 4 * n + 1) (by assumption) (rfl) (by omega) ?_
  try simp (disch := omega) only [u2_ne, u2_at, u2_ni, ur_ne, ur_eq]
  refine ef_aload_n (pc := 304) d178_304 rfl ?_
  refine ef_iload (pc := 305) d178_305 rfl ?_
  refine ef_iconst (pc := 307) d178_307 (by decide) ?_
  refine ef_iadd (pc := 308) d178_308 (z := ((4 * n + 2 : Nat) : Int)) (by omega) ⟨by omega, by omega⟩ ?_
  refine ef_scI (pc := 309) d178_309 (i := 4 * n + 2) (by assumption) (rfl) (by omega) ?_
  try simp (disch := omega) only [u2_ne, u2_at, u2_ni, ur_ne, ur_eq]
  refine ef_callV (pc := 310) d178_310 lm_9_92 (as := [_, _]) rfl rfl (by assumption) rfl rfl (by decide) (Nat.le_of_ble_eq_true rfl) rfl (Nat.le_of_ble_eq_true rfl) ?_
  refine Ec.imp (Ec.deep (show 70 ≤ 99 by decide) hnx) ?_
  rintro r310 u310 ⟨x0, v2, g2, rfl, rfl, e0, hk0, hI2⟩
  obtain ⟨hM2, ho2, hh2, hu2, -, -⟩ := hI2.md
  have hm2 := hM2.1
  refine ef_istore (pc := 313) d178_313 (ls' := [_, _, _, _, _, _, _]) rfl ?_
  refine ef_aload_n (pc := 315) d178_315 rfl ?_
  refine ef_callV (pc := 316) d178_316 lm_9_74 (as := []) rfl rfl (by assumption) rfl rfl (by decide) (Nat.le_of_ble_eq_true rfl) rfl (Nat.le_of_ble_eq_true rfl) ?_
  refine Ec.imp (Ec.deep (Nat.zero_le _) (c91 (d := 0) hM2)) ?_
  rintro r316 u316 ⟨rfl, rfl⟩
  rw [e0]
  refine ef_iload (pc := 319) d178_319 rfl ?_
  refine ef_icmp_eqT (pc := 321) d178_321 (t := 326) rfl (rfl) ?_
  refine ef_iload (pc := 326) d178_326 rfl ?_
  refine ef_if_ne (pc := 328) d178_328 (t := 343) rfl (fun h328 => ?_) (fun h328 => ?_)
  · refine ef_goto (pc := 343) d178_343 (t := 900) rfl ?_
    exact nxt v2 g2 _ _ hI2
  · obtain ⟨hx0, hl0⟩ := hk0 (by omega)
    refine ef_aload_n (pc := 331) d178_331 rfl ?_
    refine ef_iconst (pc := 332) d178_332 (by decide) ?_
    refine eg_lald (pc := 333) d178_333 (i := 0) (by assumption) (rfl) (by omega) ?_
    try simp (disch := omega) only [u2_ne, u2_at, u2_ni, ur_ne, ur_eq]
    rw [hl0]
    refine ef_iload (pc := 334) d178_334 rfl ?_
    refine ef_i2l (pc := 336) d178_336 ?_
    refine ef_lcmp (pc := 337) d178_337 ?_
    refine ef_if_eqT (pc := 338) d178_338 (t := 343) rfl (by rw [hx0]; exact lcz.mpr rfl) ?_
    refine ef_goto (pc := 343) d178_343 (t := 900) rfl ?_
    exact nxt v2 g2 _ _ hI2
theorem L5 {P : Pg} {h n : Nat} {u : Mm} {g : Nat → Nat → Int} {v5 v6 : Option Vl} (hX : ∀ i, inR (pX P i)) (hb : pB P < h) (hp : pSv P < h) (hn : 4 * n + 4 ≤ pLn P) (hL : pLn P ≤ 2048) (nxt : ∀ (u : Mm) (g : Nat → Nat → Int) (v5 v6 : Option Vl), LI h (n + 1) u g → Ef P 100 178 900 [some (vR (pB P)), some (vR h), some (vR (h + 710)), some (vR (h + 753)), some (vI ((4 * n : Nat) : Int)), v5, v6] [] (sI u g) (fun r u' => r = .inl (some (vI 1)) ∧ mT u' ≤ h + 601024 ∧ mU u' ≤ 7293034)) (H : LI h n u g) : Ef P 100 178 346 [some (vR (pB P)), some (vR h), some (vR (h + 710)), some (vR (h + 753)), some (vI ((4 * n : Nat) : Int)), v5, v6] [] (sI u g) (fun r u' => r = .inl (some (vI 1)) ∧ mT u' ≤ h + 601024 ∧ mU u' ≤ 7293034) := by
  obtain ⟨hM0, ho0, hh0, hu0, -, -⟩ := H.md
  have hub := hu0 _ hb
  have hm0 := hM0.1
  refine ef_aload_n (pc := 346) d178_346 rfl ?_
  refine ef_aload_n (pc := 347) d178_347 rfl ?_
  refine ef_iload (pc := 348) d178_348 rfl ?_
  refine ef_iconst (pc := 350) d178_350 (by decide) ?_
  refine ef_iadd (pc := 351) d178_351 (z := ((4 * n + 1 : Nat) : Int)) (by omega) ⟨by omega, by omega⟩ ?_
  refine ef_scI (pc := 352) d178_352 (i := 4 * n + 1) (by assumption) (rfl) (by omega) ?_
  refine ef_aload_n (pc := 353) d178_353 rfl ?_
  refine ef_callS (pc := 354) d178_354 lm_9_93 (as := [_, _, _]) rfl rfl rfl (Nat.le_of_ble_eq_true rfl) rfl (Nat.le_of_ble_eq_true rfl) ?_
  refine Ec.imp (Ec.deep (show 70 ≤ 99 by decide) (st5 (by omega) (hp := hp) (hi := hX _) (H := H))) ?_
  rintro r354 u354 ⟨kz, z, v, g1, rfl, rfl, hm1, hu1, hnx⟩
  have hub1 := hu1 _ hb
  refine ef_istore (pc := 357) d178_357 (ls' := [_, _, _, _, _, _, _]) rfl ?_
  refine ef_aload_n (pc := 359) d178_359 rfl ?_
  refine ef_aload_n (pc := 360) d178_360 rfl ?_
  refine ef_iload (pc := 361) d178_361 rfl ?_
  refine ef_iconst (pc := 363) d178_363 (by decide) ?_
  refine ef_iadd (pc := 364) d178_364 (z := ((4 * n + 1 : Nat) : Int)) (by omega) ⟨by omega, by omega⟩ ?_
  refine ef_scI (pc := 365) d178_365 (i := 4 * n + 1) (by assumption) (rfl) (by omega) ?_
  try simp (disch := omega) only [u2_ne, u2_at, u2_ni, ur_ne, ur_eq]
  refine ef_callV (pc := 366) d178_366 lm_9_96 (as := [_]) rfl rfl (by assumption) rfl rfl (by decide) (Nat.le_of_ble_eq_true rfl) rfl (Nat.le_of_ble_eq_true rfl) ?_
  refine Ec.imp (Ec.deep (show 70 ≤ 99 by decide) hnx) ?_
  rintro r366 u366 ⟨x0, v2, g2, rfl, rfl, e0, hk0, hI2⟩
  obtain ⟨hM2, ho2, hh2, hu2, -, -⟩ := hI2.md
  have hm2 := hM2.1
  refine ef_istore (pc := 369) d178_369 (ls' := [_, _, _, _, _, _, _]) rfl ?_
  refine ef_aload_n (pc := 371) d178_371 rfl ?_
  refine ef_callV (pc := 372) d178_372 lm_9_74 (as := []) rfl rfl (by assumption) rfl rfl (by decide) (Nat.le_of_ble_eq_true rfl) rfl (Nat.le_of_ble_eq_true rfl) ?_
  refine Ec.imp (Ec.deep (Nat.zero_le _) (c91 (d := 0) hM2)) ?_
  rintro r372 u372 ⟨rfl, rfl⟩
  rw [e0]
  refine ef_iload (pc := 375) d178_375 rfl ?_
  refine ef_icmp_eqT (pc := 377) d178_377 (t := 382) rfl (rfl) ?_
  refine ef_iload (pc := 382) d178_382 rfl ?_
  refine ef_if_ne (pc := 384) d178_384 (t := 399) rfl (fun h384 => ?_) (fun h384 => ?_)
  · refine ef_goto (pc := 399) d178_399 (t := 900) rfl ?_
    exact nxt v2 g2 _ _ hI2
  · obtain ⟨hx0, hl0⟩ := hk0 (by omega)
    refine ef_aload_n (pc := 387) d178_387 rfl ?_
    refine ef_iconst (pc := 388) d178_388 (by decide) ?_
    refine eg_lald (pc := 389) d178_389 (i := 0) (by assumption) (rfl) (by omega) ?_
    try simp (disch := omega) only [u2_ne, u2_at, u2_ni, ur_ne, ur_eq]
    rw [hl0]
    refine ef_iload (pc := 390) d178_390 rfl ?_
    refine ef_i2l (pc := 392) d178_392 ?_
    refine ef_lcmp (pc := 393) d178_393 ?_
    refine ef_if_eqT (pc := 394) d178_394 (t := 399) rfl (by rw [hx0]; exact lcz.mpr rfl) ?_
    refine ef_goto (pc := 399) d178_399 (t := 900) rfl ?_
    exact nxt v2 g2 _ _ hI2
theorem L6 {P : Pg} {h n : Nat} {u : Mm} {g : Nat → Nat → Int} {v5 v6 : Option Vl} (hX : ∀ i, inR (pX P i)) (hb : pB P < h) (hp : pSv P < h) (hn : 4 * n + 4 ≤ pLn P) (hL : pLn P ≤ 2048) (nxt : ∀ (u : Mm) (g : Nat → Nat → Int) (v5 v6 : Option Vl), LI h (n + 1) u g → Ef P 100 178 900 [some (vR (pB P)), some (vR h), some (vR (h + 710)), some (vR (h + 753)), some (vI ((4 * n : Nat) : Int)), v5, v6] [] (sI u g) (fun r u' => r = .inl (some (vI 1)) ∧ mT u' ≤ h + 601024 ∧ mU u' ≤ 7293034)) (H : LI h n u g) : Ef P 100 178 402 [some (vR (pB P)), some (vR h), some (vR (h + 710)), some (vR (h + 753)), some (vI ((4 * n : Nat) : Int)), v5, v6] [] (sI u g) (fun r u' => r = .inl (some (vI 1)) ∧ mT u' ≤ h + 601024 ∧ mU u' ≤ 7293034) := by
  obtain ⟨hM0, ho0, hh0, hu0, -, -⟩ := H.md
  have hub := hu0 _ hb
  have hm0 := hM0.1
  refine ef_aload_n (pc := 402) d178_402 rfl ?_
  refine ef_aload_n (pc := 403) d178_403 rfl ?_
  refine ef_iload (pc := 404) d178_404 rfl ?_
  refine ef_iconst (pc := 406) d178_406 (by decide) ?_
  refine ef_iadd (pc := 407) d178_407 (z := ((4 * n + 1 : Nat) : Int)) (by omega) ⟨by omega, by omega⟩ ?_
  refine ef_scI (pc := 408) d178_408 (i := 4 * n + 1) (by assumption) (rfl) (by omega) ?_
  refine ef_aload_n (pc := 409) d178_409 rfl ?_
  refine ef_callS (pc := 410) d178_410 lm_9_97 (as := [_, _, _]) rfl rfl rfl (Nat.le_of_ble_eq_true rfl) rfl (Nat.le_of_ble_eq_true rfl) ?_
  refine Ec.imp (Ec.deep (show 70 ≤ 99 by decide) (st6 (by omega) (hp := hp) (H := H))) ?_
  rintro r410 u410 ⟨kz, z, v, g1, rfl, rfl, hm1, hu1, hnx⟩
  have hub1 := hu1 _ hb
  refine ef_istore (pc := 413) d178_413 (ls' := [_, _, _, _, _, _, _]) rfl ?_
  refine ef_aload_n (pc := 415) d178_415 rfl ?_
  refine ef_aload_n (pc := 416) d178_416 rfl ?_
  refine ef_iload (pc := 417) d178_417 rfl ?_
  refine ef_iconst (pc := 419) d178_419 (by decide) ?_
  refine ef_iadd (pc := 420) d178_420 (z := ((4 * n + 1 : Nat) : Int)) (by omega) ⟨by omega, by omega⟩ ?_
  refine ef_scI (pc := 421) d178_421 (i := 4 * n + 1) (by assumption) (rfl) (by omega) ?_
  try simp (disch := omega) only [u2_ne, u2_at, u2_ni, ur_ne, ur_eq]
  refine ef_callV (pc := 422) d178_422 lm_9_99 (as := [_]) rfl rfl (by assumption) rfl rfl (by decide) (Nat.le_of_ble_eq_true rfl) rfl (Nat.le_of_ble_eq_true rfl) ?_
  refine Ec.imp (Ec.deep (show 70 ≤ 99 by decide) hnx) ?_
  rintro r422 u422 ⟨x0, v2, g2, rfl, rfl, e0, hk0, hI2⟩
  obtain ⟨hM2, ho2, hh2, hu2, -, -⟩ := hI2.md
  have hm2 := hM2.1
  refine ef_istore (pc := 425) d178_425 (ls' := [_, _, _, _, _, _, _]) rfl ?_
  refine ef_aload_n (pc := 427) d178_427 rfl ?_
  refine ef_callV (pc := 428) d178_428 lm_9_74 (as := []) rfl rfl (by assumption) rfl rfl (by decide) (Nat.le_of_ble_eq_true rfl) rfl (Nat.le_of_ble_eq_true rfl) ?_
  refine Ec.imp (Ec.deep (Nat.zero_le _) (c91 (d := 0) hM2)) ?_
  rintro r428 u428 ⟨rfl, rfl⟩
  rw [e0]
  refine ef_iload (pc := 431) d178_431 rfl ?_
  refine ef_icmp_eqT (pc := 433) d178_433 (t := 438) rfl (rfl) ?_
  refine ef_iload (pc := 438) d178_438 rfl ?_
  refine ef_if_ne (pc := 440) d178_440 (t := 455) rfl (fun h440 => ?_) (fun h440 => ?_)
  · refine ef_goto (pc := 455) d178_455 (t := 900) rfl ?_
    exact nxt v2 g2 _ _ hI2
  · obtain ⟨hx0, hl0⟩ := hk0 (by omega)
    refine ef_aload_n (pc := 443) d178_443 rfl ?_
    refine ef_iconst (pc := 444) d178_444 (by decide) ?_
    refine eg_lald (pc := 445) d178_445 (i := 0) (by assumption) (rfl) (by omega) ?_
    try simp (disch := omega) only [u2_ne, u2_at, u2_ni, ur_ne, ur_eq]
    rw [hl0]
    refine ef_iload (pc := 446) d178_446 rfl ?_
    refine ef_i2l (pc := 448) d178_448 ?_
    refine ef_lcmp (pc := 449) d178_449 ?_
    refine ef_if_eqT (pc := 450) d178_450 (t := 455) rfl (by rw [hx0]; exact lcz.mpr rfl) ?_
    refine ef_goto (pc := 455) d178_455 (t := 900) rfl ?_
    exact nxt v2 g2 _ _ hI2
theorem L7 {P : Pg} {h n : Nat} {u : Mm} {g : Nat → Nat → Int} {v5 v6 : Option Vl} (hX : ∀ i, inR (pX P i)) (hb : pB P < h) (hp : pSv P < h) (hn : 4 * n + 4 ≤ pLn P) (hL : pLn P ≤ 2048) (nxt : ∀ (u : Mm) (g : Nat → Nat → Int) (v5 v6 : Option Vl), LI h (n + 1) u g → Ef P 100 178 900 [some (vR (pB P)), some (vR h), some (vR (h + 710)), some (vR (h + 753)), some (vI ((4 * n : Nat) : Int)), v5, v6] [] (sI u g) (fun r u' => r = .inl (some (vI 1)) ∧ mT u' ≤ h + 601024 ∧ mU u' ≤ 7293034)) (H : LI h n u g) : Ef P 100 178 458 [some (vR (pB P)), some (vR h), some (vR (h + 710)), some (vR (h + 753)), some (vI ((4 * n : Nat) : Int)), v5, v6] [] (sI u g) (fun r u' => r = .inl (some (vI 1)) ∧ mT u' ≤ h + 601024 ∧ mU u' ≤ 7293034) := by
  obtain ⟨hM0, ho0, hh0, hu0, -, -⟩ := H.md
  have hub := hu0 _ hb
  have hm0 := hM0.1
  refine ef_aload_n (pc := 458) d178_458 rfl ?_
  refine ef_aload_n (pc := 459) d178_459 rfl ?_
  refine ef_iload (pc := 460) d178_460 rfl ?_
  refine ef_iconst (pc := 462) d178_462 (by decide) ?_
  refine ef_iadd (pc := 463) d178_463 (z := ((4 * n + 1 : Nat) : Int)) (by omega) ⟨by omega, by omega⟩ ?_
  refine ef_scI (pc := 464) d178_464 (i := 4 * n + 1) (by assumption) (rfl) (by omega) ?_
  refine ef_aload_n (pc := 465) d178_465 rfl ?_
  refine ef_callS (pc := 466) d178_466 lm_9_100 (as := [_, _, _]) rfl rfl rfl (Nat.le_of_ble_eq_true rfl) rfl (Nat.le_of_ble_eq_true rfl) ?_
  refine Ec.imp (Ec.deep (show 70 ≤ 99 by decide) (st7 (by omega) (H := H))) ?_
  rintro r466 u466 ⟨kz, z, v, g1, rfl, rfl, hm1, hu1, hnx⟩
  have hub1 := hu1 _ hb
  refine ef_istore (pc := 469) d178_469 (ls' := [_, _, _, _, _, _, _]) rfl ?_
  refine ef_aload_n (pc := 471) d178_471 rfl ?_
  refine ef_aload_n (pc := 472) d178_472 rfl ?_
  refine ef_iload (pc := 473) d178_473 rfl ?_
  refine ef_iconst (pc := 475) d178_475 (by decide) ?_
  refine ef_iadd (pc := 476) d178_476 (z := ((4 * n + 1 : Nat) : Int)) (by omega) ⟨by omega, by omega⟩ ?_
  refine ef_scI (pc := 477) d178_477 (i := 4 * n + 1) (by assumption) (rfl) (by omega) ?_
  try simp (disch := omega) only [u2_ne, u2_at, u2_ni, ur_ne, ur_eq]
  refine ef_callV (pc := 478) d178_478 lm_9_102 (as := [_]) rfl rfl (by assumption) rfl rfl (by decide) (Nat.le_of_ble_eq_true rfl) rfl (Nat.le_of_ble_eq_true rfl) ?_
  refine Ec.imp (Ec.deep (show 70 ≤ 99 by decide) hnx) ?_
  rintro r478 u478 ⟨x0, v2, g2, rfl, rfl, e0, hk0, hI2⟩
  obtain ⟨hM2, ho2, hh2, hu2, -, -⟩ := hI2.md
  have hm2 := hM2.1
  refine ef_istore (pc := 481) d178_481 (ls' := [_, _, _, _, _, _, _]) rfl ?_
  refine ef_aload_n (pc := 483) d178_483 rfl ?_
  refine ef_callV (pc := 484) d178_484 lm_9_74 (as := []) rfl rfl (by assumption) rfl rfl (by decide) (Nat.le_of_ble_eq_true rfl) rfl (Nat.le_of_ble_eq_true rfl) ?_
  refine Ec.imp (Ec.deep (Nat.zero_le _) (c91 (d := 0) hM2)) ?_
  rintro r484 u484 ⟨rfl, rfl⟩
  rw [e0]
  refine ef_iload (pc := 487) d178_487 rfl ?_
  refine ef_icmp_eqT (pc := 489) d178_489 (t := 494) rfl (rfl) ?_
  refine ef_iload (pc := 494) d178_494 rfl ?_
  refine ef_if_ne (pc := 496) d178_496 (t := 511) rfl (fun h496 => ?_) (fun h496 => ?_)
  · refine ef_goto (pc := 511) d178_511 (t := 900) rfl ?_
    exact nxt v2 g2 _ _ hI2
  · obtain ⟨hx0, hl0⟩ := hk0 (by omega)
    refine ef_aload_n (pc := 499) d178_499 rfl ?_
    refine ef_iconst (pc := 500) d178_500 (by decide) ?_
    refine eg_lald (pc := 501) d178_501 (i := 0) (by assumption) (rfl) (by omega) ?_
    try simp (disch := omega) only [u2_ne, u2_at, u2_ni, ur_ne, ur_eq]
    rw [hl0]
    refine ef_iload (pc := 502) d178_502 rfl ?_
    refine ef_i2l (pc := 504) d178_504 ?_
    refine ef_lcmp (pc := 505) d178_505 ?_
    refine ef_if_eqT (pc := 506) d178_506 (t := 511) rfl (by rw [hx0]; exact lcz.mpr rfl) ?_
    refine ef_goto (pc := 511) d178_511 (t := 900) rfl ?_
    exact nxt v2 g2 _ _ hI2
theorem L8 {P : Pg} {h n : Nat} {u : Mm} {g : Nat → Nat → Int} {v5 v6 : Option Vl} (hX : ∀ i, inR (pX P i)) (hb : pB P < h) (hp : pSv P < h) (hn : 4 * n + 4 ≤ pLn P) (hL : pLn P ≤ 2048) (nxt : ∀ (u : Mm) (g : Nat → Nat → Int) (v5 v6 : Option Vl), LI h (n + 1) u g → Ef P 100 178 900 [some (vR (pB P)), some (vR h), some (vR (h + 710)), some (vR (h + 753)), some (vI ((4 * n : Nat) : Int)), v5, v6] [] (sI u g) (fun r u' => r = .inl (some (vI 1)) ∧ mT u' ≤ h + 601024 ∧ mU u' ≤ 7293034)) (H : LI h n u g) : Ef P 100 178 514 [some (vR (pB P)), some (vR h), some (vR (h + 710)), some (vR (h + 753)), some (vI ((4 * n : Nat) : Int)), v5, v6] [] (sI u g) (fun r u' => r = .inl (some (vI 1)) ∧ mT u' ≤ h + 601024 ∧ mU u' ≤ 7293034) := by
  obtain ⟨hM0, ho0, hh0, hu0, -, -⟩ := H.md
  have hub := hu0 _ hb
  have hm0 := hM0.1
  refine ef_aload_n (pc := 514) d178_514 rfl ?_
  refine ef_aload_n (pc := 515) d178_515 rfl ?_
  refine ef_iload (pc := 516) d178_516 rfl ?_
  refine ef_iconst (pc := 518) d178_518 (by decide) ?_
  refine ef_iadd (pc := 519) d178_519 (z := ((4 * n + 1 : Nat) : Int)) (by omega) ⟨by omega, by omega⟩ ?_
  refine ef_scI (pc := 520) d178_520 (i := 4 * n + 1) (by assumption) (rfl) (by omega) ?_
  refine ef_aload_n (pc := 521) d178_521 rfl ?_
  refine ef_callS (pc := 522) d178_522 lm_9_103 (as := [_, _, _]) rfl rfl rfl (Nat.le_of_ble_eq_true rfl) rfl (Nat.le_of_ble_eq_true rfl) ?_
  refine Ec.imp (Ec.deep (show 70 ≤ 99 by decide) (st8 (by omega) (hi := hX _) (H := H))) ?_
  rintro r522 u522 ⟨kz, z, v, g1, rfl, rfl, hm1, hu1, hnx⟩
  have hub1 := hu1 _ hb
  refine ef_istore (pc := 525) d178_525 (ls' := [_, _, _, _, _, _, _]) rfl ?_
  refine ef_aload_n (pc := 527) d178_527 rfl ?_
  refine ef_aload_n (pc := 528) d178_528 rfl ?_
  refine ef_iload (pc := 529) d178_529 rfl ?_
  refine ef_iconst (pc := 531) d178_531 (by decide) ?_
  refine ef_iadd (pc := 532) d178_532 (z := ((4 * n + 1 : Nat) : Int)) (by omega) ⟨by omega, by omega⟩ ?_
  refine ef_scI (pc := 533) d178_533 (i := 4 * n + 1) (by assumption) (rfl) (by omega) ?_
  try simp (disch := omega) only [u2_ne, u2_at, u2_ni, ur_ne, ur_eq]
  refine ef_callV (pc := 534) d178_534 lm_9_105 (as := [_]) rfl rfl (by assumption) rfl rfl (by decide) (Nat.le_of_ble_eq_true rfl) rfl (Nat.le_of_ble_eq_true rfl) ?_
  refine Ec.imp (Ec.deep (show 70 ≤ 99 by decide) hnx) ?_
  rintro r534 u534 ⟨x0, v2, g2, rfl, rfl, e0, hk0, hI2⟩
  obtain ⟨hM2, ho2, hh2, hu2, -, -⟩ := hI2.md
  have hm2 := hM2.1
  refine ef_istore (pc := 537) d178_537 (ls' := [_, _, _, _, _, _, _]) rfl ?_
  refine ef_aload_n (pc := 539) d178_539 rfl ?_
  refine ef_callV (pc := 540) d178_540 lm_9_74 (as := []) rfl rfl (by assumption) rfl rfl (by decide) (Nat.le_of_ble_eq_true rfl) rfl (Nat.le_of_ble_eq_true rfl) ?_
  refine Ec.imp (Ec.deep (Nat.zero_le _) (c91 (d := 0) hM2)) ?_
  rintro r540 u540 ⟨rfl, rfl⟩
  rw [e0]
  refine ef_iload (pc := 543) d178_543 rfl ?_
  refine ef_icmp_eqT (pc := 545) d178_545 (t := 550) rfl (rfl) ?_
  refine ef_iload (pc := 550) d178_550 rfl ?_
  refine ef_if_ne (pc := 552) d178_552 (t := 567) rfl (fun h552 => ?_) (fun h552 => ?_)
  · refine ef_goto (pc := 567) d178_567 (t := 900) rfl ?_
    exact nxt v2 g2 _ _ hI2
  · obtain ⟨hx0, hl0⟩ := hk0 (by omega)
    refine ef_aload_n (pc := 555) d178_555 rfl ?_
    refine ef_iconst (pc := 556) d178_556 (by decide) ?_
    refine eg_lald (pc := 557) d178_557 (i := 0) (by assumption) (rfl) (by omega) ?_
    try simp (disch := omega) only [u2_ne, u2_at, u2_ni, ur_ne, ur_eq]
    rw [hl0]
    refine ef_iload (pc := 558) d178_558 rfl ?_
    refine ef_i2l (pc := 560) d178_560 ?_
    refine ef_lcmp (pc := 561) d178_561 ?_
    refine ef_if_eqT (pc := 562) d178_562 (t := 567) rfl (by rw [hx0]; exact lcz.mpr rfl) ?_
    refine ef_goto (pc := 567) d178_567 (t := 900) rfl ?_
    exact nxt v2 g2 _ _ hI2
theorem L9 {P : Pg} {h n : Nat} {u : Mm} {g : Nat → Nat → Int} {v5 v6 : Option Vl} (hX : ∀ i, inR (pX P i)) (hb : pB P < h) (hp : pSv P < h) (hn : 4 * n + 4 ≤ pLn P) (hL : pLn P ≤ 2048) (nxt : ∀ (u : Mm) (g : Nat → Nat → Int) (v5 v6 : Option Vl), LI h (n + 1) u g → Ef P 100 178 900 [some (vR (pB P)), some (vR h), some (vR (h + 710)), some (vR (h + 753)), some (vI ((4 * n : Nat) : Int)), v5, v6] [] (sI u g) (fun r u' => r = .inl (some (vI 1)) ∧ mT u' ≤ h + 601024 ∧ mU u' ≤ 7293034)) (H : LI h n u g) : Ef P 100 178 570 [some (vR (pB P)), some (vR h), some (vR (h + 710)), some (vR (h + 753)), some (vI ((4 * n : Nat) : Int)), v5, v6] [] (sI u g) (fun r u' => r = .inl (some (vI 1)) ∧ mT u' ≤ h + 601024 ∧ mU u' ≤ 7293034) := by
  obtain ⟨hM0, ho0, hh0, hu0, -, -⟩ := H.md
  have hub := hu0 _ hb
  have hm0 := hM0.1
  refine ef_aload_n (pc := 570) d178_570 rfl ?_
  refine ef_aload_n (pc := 571) d178_571 rfl ?_
  refine ef_iload (pc := 572) d178_572 rfl ?_
  refine ef_iconst (pc := 574) d178_574 (by decide) ?_
  refine ef_iadd (pc := 575) d178_575 (z := ((4 * n + 1 : Nat) : Int)) (by omega) ⟨by omega, by omega⟩ ?_
  refine ef_scI (pc := 576) d178_576 (i := 4 * n + 1) (by assumption) (rfl) (by omega) ?_
  refine ef_aload_n (pc := 577) d178_577 rfl ?_
  refine ef_callS (pc := 578) d178_578 lm_9_106 (as := [_, _, _]) rfl rfl rfl (Nat.le_of_ble_eq_true rfl) rfl (Nat.le_of_ble_eq_true rfl) ?_
  refine Ec.imp (Ec.deep (show 70 ≤ 99 by decide) (st9 (by omega) (H := H))) ?_
  rintro r578 u578 ⟨kz, z, v, g1, rfl, rfl, hm1, hu1, hnx⟩
  have hub1 := hu1 _ hb
  refine ef_istore (pc := 581) d178_581 (ls' := [_, _, _, _, _, _, _]) rfl ?_
  refine ef_aload_n (pc := 583) d178_583 rfl ?_
  refine ef_aload_n (pc := 584) d178_584 rfl ?_
  refine ef_iload (pc := 585) d178_585 rfl ?_
  refine ef_iconst (pc := 587) d178_587 (by decide) ?_
  refine ef_iadd (pc := 588) d178_588 (z := ((4 * n + 1 : Nat) : Int)) (by omega) ⟨by omega, by omega⟩ ?_
  refine ef_scI (pc := 589) d178_589 (i := 4 * n + 1) (by assumption) (rfl) (by omega) ?_
  try simp (disch := omega) only [u2_ne, u2_at, u2_ni, ur_ne, ur_eq]
  refine ef_callV (pc := 590) d178_590 lm_9_108 (as := [_]) rfl rfl (by assumption) rfl rfl (by decide) (Nat.le_of_ble_eq_true rfl) rfl (Nat.le_of_ble_eq_true rfl) ?_
  refine Ec.imp (Ec.deep (show 70 ≤ 99 by decide) hnx) ?_
  rintro r590 u590 ⟨x0, v2, g2, rfl, rfl, e0, hk0, hI2⟩
  obtain ⟨hM2, ho2, hh2, hu2, -, -⟩ := hI2.md
  have hm2 := hM2.1
  refine ef_istore (pc := 593) d178_593 (ls' := [_, _, _, _, _, _, _]) rfl ?_
  refine ef_aload_n (pc := 595) d178_595 rfl ?_
  refine ef_callV (pc := 596) d178_596 lm_9_74 (as := []) rfl rfl (by assumption) rfl rfl (by decide) (Nat.le_of_ble_eq_true rfl) rfl (Nat.le_of_ble_eq_true rfl) ?_
  refine Ec.imp (Ec.deep (Nat.zero_le _) (c91 (d := 0) hM2)) ?_
  rintro r596 u596 ⟨rfl, rfl⟩
  rw [e0]
  refine ef_iload (pc := 599) d178_599 rfl ?_
  refine ef_icmp_eqT (pc := 601) d178_601 (t := 606) rfl (rfl) ?_
  refine ef_iload (pc := 606) d178_606 rfl ?_
  refine ef_if_ne (pc := 608) d178_608 (t := 623) rfl (fun h608 => ?_) (fun h608 => ?_)
  · refine ef_goto (pc := 623) d178_623 (t := 900) rfl ?_
    exact nxt v2 g2 _ _ hI2
  · obtain ⟨hx0, hl0⟩ := hk0 (by omega)
    refine ef_aload_n (pc := 611) d178_611 rfl ?_
    refine ef_iconst (pc := 612) d178_612 (by decide) ?_
    refine eg_lald (pc := 613) d178_613 (i := 0) (by assumption) (rfl) (by omega) ?_
    try simp (disch := omega) only [u2_ne, u2_at, u2_ni, ur_ne, ur_eq]
    rw [hl0]
    refine ef_iload (pc := 614) d178_614 rfl ?_
    refine ef_i2l (pc := 616) d178_616 ?_
    refine ef_lcmp (pc := 617) d178_617 ?_
    refine ef_if_eqT (pc := 618) d178_618 (t := 623) rfl (by rw [hx0]; exact lcz.mpr rfl) ?_
    refine ef_goto (pc := 623) d178_623 (t := 900) rfl ?_
    exact nxt v2 g2 _ _ hI2
theorem L10 {P : Pg} {h n : Nat} {u : Mm} {g : Nat → Nat → Int} {v5 v6 : Option Vl} (hX : ∀ i, inR (pX P i)) (hb : pB P < h) (hp : pSv P < h) (hn : 4 * n + 4 ≤ pLn P) (hL : pLn P ≤ 2048) (nxt : ∀ (u : Mm) (g : Nat → Nat → Int) (v5 v6 : Option Vl), LI h (n + 1) u g → Ef P 100 178 900 [some (vR (pB P)), some (vR h), some (vR (h + 710)), some (vR (h + 753)), some (vI ((4 * n : Nat) : Int)), v5, v6] [] (sI u g) (fun r u' => r = .inl (some (vI 1)) ∧ mT u' ≤ h + 601024 ∧ mU u' ≤ 7293034)) (H : LI h n u g) : Ef P 100 178 626 [some (vR (pB P)), some (vR h), some (vR (h + 710)), some (vR (h + 753)), some (vI ((4 * n : Nat) : Int)), v5, v6] [] (sI u g) (fun r u' => r = .inl (some (vI 1)) ∧ mT u' ≤ h + 601024 ∧ mU u' ≤ 7293034) := by
  obtain ⟨hM0, ho0, hh0, hu0, -, -⟩ := H.md
  have hub := hu0 _ hb
  have hm0 := hM0.1
  refine ef_aload_n (pc := 626) d178_626 rfl ?_
  refine ef_aload_n (pc := 627) d178_627 rfl ?_
  refine ef_iload (pc := 628) d178_628 rfl ?_
  refine ef_iconst (pc := 630) d178_630 (by decide) ?_
  refine ef_iadd (pc := 631) d178_631 (z := ((4 * n + 1 : Nat) : Int)) (by omega) ⟨by omega, by omega⟩ ?_
  refine ef_scI (pc := 632) d178_632 (i := 4 * n + 1) (by assumption) (rfl) (by omega) ?_
  refine ef_aload_n (pc := 633) d178_633 rfl ?_
  refine ef_callS (pc := 634) d178_634 lm_9_109 (as := [_, _, _]) rfl rfl rfl (Nat.le_of_ble_eq_true rfl) rfl (Nat.le_of_ble_eq_true rfl) ?_
  refine Ec.imp (Ec.deep (show 70 ≤ 99 by decide) (st10 (by omega) (H := H))) ?_
  rintro r634 u634 ⟨kz, z, v, g1, rfl, rfl, hm1, hu1, hnx⟩
  have hub1 := hu1 _ hb
  refine ef_istore (pc := 637) d178_637 (ls' := [_, _, _, _, _, _, _]) rfl ?_
  refine ef_aload_n (pc := 639) d178_639 rfl ?_
  refine ef_aload_n (pc := 640) d178_640 rfl ?_
  refine ef_iload (pc := 641) d178_641 rfl ?_
  refine ef_iconst (pc := 643) d178_643 (by decide) ?_
  refine ef_iadd (pc := 644) d178_644 (z := ((4 * n + 1 : Nat) : Int)) (by omega) ⟨by omega, by omega⟩ ?_
  refine ef_scI (pc := 645) d178_645 (i := 4 * n + 1) (by assumption) (rfl) (by omega) ?_
  try simp (disch := omega) only [u2_ne, u2_at, u2_ni, ur_ne, ur_eq]
  refine ef_callV (pc := 646) d178_646 lm_9_111 (as := [_]) rfl rfl (by assumption) rfl rfl (by decide) (Nat.le_of_ble_eq_true rfl) rfl (Nat.le_of_ble_eq_true rfl) ?_
  refine Ec.imp (Ec.deep (show 70 ≤ 99 by decide) hnx) ?_
  rintro r646 u646 ⟨x0, v2, g2, rfl, rfl, e0, hk0, hI2⟩
  obtain ⟨hM2, ho2, hh2, hu2, -, -⟩ := hI2.md
  have hm2 := hM2.1
  refine ef_istore (pc := 649) d178_649 (ls' := [_, _, _, _, _, _, _]) rfl ?_
  refine ef_aload_n (pc := 651) d178_651 rfl ?_
  refine ef_callV (pc := 652) d178_652 lm_9_74 (as := []) rfl rfl (by assumption) rfl rfl (by decide) (Nat.le_of_ble_eq_true rfl) rfl (Nat.le_of_ble_eq_true rfl) ?_
  refine Ec.imp (Ec.deep (Nat.zero_le _) (c91 (d := 0) hM2)) ?_
  rintro r652 u652 ⟨rfl, rfl⟩
  rw [e0]
  refine ef_iload (pc := 655) d178_655 rfl ?_
  refine ef_icmp_eqT (pc := 657) d178_657 (t := 662) rfl (rfl) ?_
  refine ef_iload (pc := 662) d178_662 rfl ?_
  refine ef_if_ne (pc := 664) d178_664 (t := 686) rfl (fun h664 => ?_) (fun h664 => ?_)
  · refine ef_goto (pc := 686) d178_686 (t := 900) rfl ?_
    exact nxt v2 g2 _ _ hI2
  · obtain ⟨hx0, hl0⟩ := hk0 (by omega)
    refine ef_aload_n (pc := 667) d178_667 rfl ?_
    refine ef_iconst (pc := 668) d178_668 (by decide) ?_
    refine eg_lald (pc := 669) d178_669 (i := 0) (by assumption) (rfl) (by omega) ?_
    try simp (disch := omega) only [u2_ne, u2_at, u2_ni, ur_ne, ur_eq]
    rw [hl0]
    refine ef_iload (pc := 670) d178_670 rfl ?_
    refine ef_if_eq (pc := 672) d178_672 (t := 679) rfl (fun h672 => ?_) (fun h672 => ?_)
    · have hxz : x0 = 0 := by omega
      have hlb : lB z = 0 := by unfold lB; rw [if_pos (by omega)]
      refine ef_lconst (pc := 679) d178_679 ?_
      refine ef_lcmp (pc := 680) d178_680 ?_
      refine ef_if_eqT (pc := 681) d178_681 (t := 686) rfl (by rw [hlb]; exact lcz.mpr rfl) ?_
      refine ef_goto (pc := 686) d178_686 (t := 900) rfl ?_
      exact nxt v2 g2 _ _ hI2
    · have hxz : x0 ≠ 0 := by omega
      have hlb : lB z = 1 := by unfold lB; rw [if_neg (by omega)]
      refine ef_lconst (pc := 675) d178_675 ?_
      refine ef_goto (pc := 676) d178_676 (t := 680) rfl ?_
      refine ef_lcmp (pc := 680) d178_680 ?_
      refine ef_if_eqT (pc := 681) d178_681 (t := 686) rfl (by rw [hlb]; exact lcz.mpr rfl) ?_
      refine ef_goto (pc := 686) d178_686 (t := 900) rfl ?_
      exact nxt v2 g2 _ _ hI2
theorem L11 {P : Pg} {h n : Nat} {u : Mm} {g : Nat → Nat → Int} {v5 v6 : Option Vl} (hX : ∀ i, inR (pX P i)) (hb : pB P < h) (hp : pSv P < h) (hn : 4 * n + 4 ≤ pLn P) (hL : pLn P ≤ 2048) (nxt : ∀ (u : Mm) (g : Nat → Nat → Int) (v5 v6 : Option Vl), LI h (n + 1) u g → Ef P 100 178 900 [some (vR (pB P)), some (vR h), some (vR (h + 710)), some (vR (h + 753)), some (vI ((4 * n : Nat) : Int)), v5, v6] [] (sI u g) (fun r u' => r = .inl (some (vI 1)) ∧ mT u' ≤ h + 601024 ∧ mU u' ≤ 7293034)) (H : LI h n u g) : Ef P 100 178 689 [some (vR (pB P)), some (vR h), some (vR (h + 710)), some (vR (h + 753)), some (vI ((4 * n : Nat) : Int)), v5, v6] [] (sI u g) (fun r u' => r = .inl (some (vI 1)) ∧ mT u' ≤ h + 601024 ∧ mU u' ≤ 7293034) := by
  obtain ⟨hM0, ho0, hh0, hu0, -, -⟩ := H.md
  have hub := hu0 _ hb
  have hm0 := hM0.1
  refine ef_aload_n (pc := 689) d178_689 rfl ?_
  refine ef_aload_n (pc := 690) d178_690 rfl ?_
  refine ef_iload (pc := 691) d178_691 rfl ?_
  refine ef_iconst (pc := 693) d178_693 (by decide) ?_
  refine ef_iadd (pc := 694) d178_694 (z := ((4 * n + 1 : Nat) : Int)) (by omega) ⟨by omega, by omega⟩ ?_
  refine ef_scI (pc := 695) d178_695 (i := 4 * n + 1) (by assumption) (rfl) (by omega) ?_
  refine ef_aload_n (pc := 696) d178_696 rfl ?_
  refine ef_iload (pc := 697) d178_697 rfl ?_
  refine ef_iconst (pc := 699) d178_699 (by decide) ?_
  refine ef_iadd (pc := 700) d178_700 (z := ((4 * n + 2 : Nat) : Int)) (by omega) ⟨by omega, by omega⟩ ?_
  refine ef_scI (pc := 701) d178_701 (i := 4 * n + 2) (by assumption) (rfl) (by omega) ?_
  refine ef_aload_n (pc := 702) d178_702 rfl ?_
  refine ef_callS (pc := 703) d178_703 lm_9_112 (as := [_, _, _, _]) rfl rfl rfl (Nat.le_of_ble_eq_true rfl) rfl (Nat.le_of_ble_eq_true rfl) ?_
  refine Ec.imp (Ec.deep (show 70 ≤ 99 by decide) (st11 (by omega) (H := H))) ?_
  rintro r703 u703 ⟨kz, z, v, g1, rfl, rfl, hm1, hu1, hnx⟩
  have hub1 := hu1 _ hb
  refine ef_istore (pc := 706) d178_706 (ls' := [_, _, _, _, _, _, _]) rfl ?_
  refine ef_aload_n (pc := 708) d178_708 rfl ?_
  refine ef_aload_n (pc := 709) d178_709 rfl ?_
  refine ef_iload (pc := 710) d178_710 rfl ?_
  refine ef_iconst (pc := 712) d178_712 (by decide) ?_
  refine ef_iadd (pc := 713) d178_713 (z := ((4 * n + 1 : Nat) : Int)) (by omega) ⟨by omega, by omega⟩ ?_
  refine ef_scI (pc := 714) d178_714 (i := 4 * n + 1) (by assumption) (rfl) (by omega) ?_
  try simp (disch := omega) only [u2_ne, u2_at, u2_ni, ur_ne, ur_eq]
  refine ef_aload_n (pc := 715) d178_715 rfl ?_
  refine ef_iload (pc := 716) d178_716 rfl ?_
  refine ef_iconst (pc := 718) d178_718 (by decide) ?_
  refine ef_iadd (pc := 719) d178_719 (z := ((4 * n + 2 : Nat) : Int)) (by omega) ⟨by omega, by omega⟩ ?_
  refine ef_scI (pc := 720) d178_720 (i := 4 * n + 2) (by assumption) (rfl) (by omega) ?_
  try simp (disch := omega) only [u2_ne, u2_at, u2_ni, ur_ne, ur_eq]
  refine ef_callV (pc := 721) d178_721 lm_9_114 (as := [_, _]) rfl rfl (by assumption) rfl rfl (by decide) (Nat.le_of_ble_eq_true rfl) rfl (Nat.le_of_ble_eq_true rfl) ?_
  refine Ec.imp (Ec.deep (show 70 ≤ 99 by decide) hnx) ?_
  rintro r721 u721 ⟨x0, v2, g2, rfl, rfl, e0, hk0, hI2⟩
  obtain ⟨hM2, ho2, hh2, hu2, -, -⟩ := hI2.md
  have hm2 := hM2.1
  refine ef_istore (pc := 724) d178_724 (ls' := [_, _, _, _, _, _, _]) rfl ?_
  refine ef_aload_n (pc := 726) d178_726 rfl ?_
  refine ef_callV (pc := 727) d178_727 lm_9_74 (as := []) rfl rfl (by assumption) rfl rfl (by decide) (Nat.le_of_ble_eq_true rfl) rfl (Nat.le_of_ble_eq_true rfl) ?_
  refine Ec.imp (Ec.deep (Nat.zero_le _) (c91 (d := 0) hM2)) ?_
  rintro r727 u727 ⟨rfl, rfl⟩
  rw [e0]
  refine ef_iload (pc := 730) d178_730 rfl ?_
  refine ef_icmp_eqT (pc := 732) d178_732 (t := 737) rfl (rfl) ?_
  refine ef_iload (pc := 737) d178_737 rfl ?_
  refine ef_if_ne (pc := 739) d178_739 (t := 761) rfl (fun h739 => ?_) (fun h739 => ?_)
  · refine ef_goto (pc := 761) d178_761 (t := 900) rfl ?_
    exact nxt v2 g2 _ _ hI2
  · obtain ⟨hx0, hl0⟩ := hk0 (by omega)
    refine ef_aload_n (pc := 742) d178_742 rfl ?_
    refine ef_iconst (pc := 743) d178_743 (by decide) ?_
    refine eg_lald (pc := 744) d178_744 (i := 0) (by assumption) (rfl) (by omega) ?_
    try simp (disch := omega) only [u2_ne, u2_at, u2_ni, ur_ne, ur_eq]
    rw [hl0]
    refine ef_iload (pc := 745) d178_745 rfl ?_
    refine ef_if_eq (pc := 747) d178_747 (t := 754) rfl (fun h747 => ?_) (fun h747 => ?_)
    · have hxz : x0 = 0 := by omega
      have hlb : lB z = 0 := by unfold lB; rw [if_pos (by omega)]
      refine ef_lconst (pc := 754) d178_754 ?_
      refine ef_lcmp (pc := 755) d178_755 ?_
      refine ef_if_eqT (pc := 756) d178_756 (t := 761) rfl (by rw [hlb]; exact lcz.mpr rfl) ?_
      refine ef_goto (pc := 761) d178_761 (t := 900) rfl ?_
      exact nxt v2 g2 _ _ hI2
    · have hxz : x0 ≠ 0 := by omega
      have hlb : lB z = 1 := by unfold lB; rw [if_neg (by omega)]
      refine ef_lconst (pc := 750) d178_750 ?_
      refine ef_goto (pc := 751) d178_751 (t := 755) rfl ?_
      refine ef_lcmp (pc := 755) d178_755 ?_
      refine ef_if_eqT (pc := 756) d178_756 (t := 761) rfl (by rw [hlb]; exact lcz.mpr rfl) ?_
      refine ef_goto (pc := 761) d178_761 (t := 900) rfl ?_
      exact nxt v2 g2 _ _ hI2
theorem L12 {P : Pg} {h n : Nat} {u : Mm} {g : Nat → Nat → Int} {v5 v6 : Option Vl} (hX : ∀ i, inR (pX P i)) (hb : pB P < h) (hp : pSv P < h) (hn : 4 * n + 4 ≤ pLn P) (hL : pLn P ≤ 2048) (nxt : ∀ (u : Mm) (g : Nat → Nat → Int) (v5 v6 : Option Vl), LI h (n + 1) u g → Ef P 100 178 900 [some (vR (pB P)), some (vR h), some (vR (h + 710)), some (vR (h + 753)), some (vI ((4 * n : Nat) : Int)), v5, v6] [] (sI u g) (fun r u' => r = .inl (some (vI 1)) ∧ mT u' ≤ h + 601024 ∧ mU u' ≤ 7293034)) (H : LI h n u g) : Ef P 100 178 764 [some (vR (pB P)), some (vR h), some (vR (h + 710)), some (vR (h + 753)), some (vI ((4 * n : Nat) : Int)), v5, v6] [] (sI u g) (fun r u' => r = .inl (some (vI 1)) ∧ mT u' ≤ h + 601024 ∧ mU u' ≤ 7293034) := by
  obtain ⟨hM0, ho0, hh0, hu0, -, -⟩ := H.md
  have hub := hu0 _ hb
  have hm0 := hM0.1
  refine ef_aload_n (pc := 764) d178_764 rfl ?_
  refine ef_aload_n (pc := 765) d178_765 rfl ?_
  refine ef_iload (pc := 766) d178_766 rfl ?_
  refine ef_iconst (pc := 768) d178_768 (by decide) ?_
  refine ef_iadd (pc := 769) d178_769 (z := ((4 * n + 1 : Nat) : Int)) (by omega) ⟨by omega, by omega⟩ ?_
  refine ef_scI (pc := 770) d178_770 (i := 4 * n + 1) (by assumption) (rfl) (by omega) ?_
  refine ef_aload_n (pc := 771) d178_771 rfl ?_
  refine ef_iload (pc := 772) d178_772 rfl ?_
  refine ef_iconst (pc := 774) d178_774 (by decide) ?_
  refine ef_iadd (pc := 775) d178_775 (z := ((4 * n + 2 : Nat) : Int)) (by omega) ⟨by omega, by omega⟩ ?_
  refine ef_scI (pc := 776) d178_776 (i := 4 * n + 2) (by assumption) (rfl) (by omega) ?_
  refine ef_aload_n (pc := 777) d178_777 rfl ?_
  refine ef_iload (pc := 778) d178_778 rfl ?_
  refine ef_iconst (pc := 780) d178_780 (by decide) ?_
  refine ef_iadd (pc := 781) d178_781 (z := ((4 * n + 3 : Nat) : Int)) (by omega) ⟨by omega, by omega⟩ ?_
  refine ef_scI (pc := 782) d178_782 (i := 4 * n + 3) (by assumption) (rfl) (by omega) ?_
  refine ef_aload_n (pc := 783) d178_783 rfl ?_
  refine ef_callS (pc := 784) d178_784 lm_9_115 (as := [_, _, _, _, _]) rfl rfl rfl (Nat.le_of_ble_eq_true rfl) rfl (Nat.le_of_ble_eq_true rfl) ?_
  refine Ec.imp (Ec.deep (show 70 ≤ 99 by decide) (st12 (by omega) (hp := hp) (H := H))) ?_
  rintro r784 u784 ⟨kz, z, v, g1, rfl, rfl, hm1, hu1, hnx⟩
  have hub1 := hu1 _ hb
  refine ef_istore (pc := 787) d178_787 (ls' := [_, _, _, _, _, _, _]) rfl ?_
  refine ef_aload_n (pc := 789) d178_789 rfl ?_
  refine ef_aload_n (pc := 790) d178_790 rfl ?_
  refine ef_iload (pc := 791) d178_791 rfl ?_
  refine ef_iconst (pc := 793) d178_793 (by decide) ?_
  refine ef_iadd (pc := 794) d178_794 (z := ((4 * n + 1 : Nat) : Int)) (by omega) ⟨by omega, by omega⟩ ?_
  refine ef_scI (pc := 795) d178_795 (i := 4 * n + 1) (by assumption) (rfl) (by omega) ?_
  try simp (disch := omega) only [u2_ne, u2_at, u2_ni, ur_ne, ur_eq]
  refine ef_aload_n (pc := 796) d178_796 rfl ?_
  refine ef_iload (pc := 797) d178_797 rfl ?_
  refine ef_iconst (pc := 799) d178_799 (by decide) ?_
  refine ef_iadd (pc := 800) d178_800 (z := ((4 * n + 2 : Nat) : Int)) (by omega) ⟨by omega, by omega⟩ ?_
  refine ef_scI (pc := 801) d178_801 (i := 4 * n + 2) (by assumption) (rfl) (by omega) ?_
  try simp (disch := omega) only [u2_ne, u2_at, u2_ni, ur_ne, ur_eq]
  refine ef_aload_n (pc := 802) d178_802 rfl ?_
  refine ef_iload (pc := 803) d178_803 rfl ?_
  refine ef_iconst (pc := 805) d178_805 (by decide) ?_
  refine ef_iadd (pc := 806) d178_806 (z := ((4 * n + 3 : Nat) : Int)) (by omega) ⟨by omega, by omega⟩ ?_
  refine ef_scI (pc := 807) d178_807 (i := 4 * n + 3) (by assumption) (rfl) (by omega) ?_
  try simp (disch := omega) only [u2_ne, u2_at, u2_ni, ur_ne, ur_eq]
  refine ef_callV (pc := 808) d178_808 lm_9_118 (as := [_, _, _]) rfl rfl (by assumption) rfl rfl (by decide) (Nat.le_of_ble_eq_true rfl) rfl (Nat.le_of_ble_eq_true rfl) ?_
  refine Ec.imp (Ec.deep (show 70 ≤ 99 by decide) hnx) ?_
  rintro r808 u808 ⟨x0, v2, g2, rfl, rfl, e0, hk0, hI2⟩
  obtain ⟨hM2, ho2, hh2, hu2, -, -⟩ := hI2.md
  have hm2 := hM2.1
  refine ef_istore (pc := 811) d178_811 (ls' := [_, _, _, _, _, _, _]) rfl ?_
  refine ef_aload_n (pc := 813) d178_813 rfl ?_
  refine ef_callV (pc := 814) d178_814 lm_9_74 (as := []) rfl rfl (by assumption) rfl rfl (by decide) (Nat.le_of_ble_eq_true rfl) rfl (Nat.le_of_ble_eq_true rfl) ?_
  refine Ec.imp (Ec.deep (Nat.zero_le _) (c91 (d := 0) hM2)) ?_
  rintro r814 u814 ⟨rfl, rfl⟩
  rw [e0]
  refine ef_iload (pc := 817) d178_817 rfl ?_
  refine ef_icmp_eqT (pc := 819) d178_819 (t := 824) rfl (rfl) ?_
  refine ef_iload (pc := 824) d178_824 rfl ?_
  refine ef_if_ne (pc := 826) d178_826 (t := 841) rfl (fun h826 => ?_) (fun h826 => ?_)
  · refine ef_goto (pc := 841) d178_841 (t := 900) rfl ?_
    exact nxt v2 g2 _ _ hI2
  · obtain ⟨hx0, hl0⟩ := hk0 (by omega)
    refine ef_aload_n (pc := 829) d178_829 rfl ?_
    refine ef_iconst (pc := 830) d178_830 (by decide) ?_
    refine eg_lald (pc := 831) d178_831 (i := 0) (by assumption) (rfl) (by omega) ?_
    try simp (disch := omega) only [u2_ne, u2_at, u2_ni, ur_ne, ur_eq]
    rw [hl0]
    refine ef_iload (pc := 832) d178_832 rfl ?_
    refine ef_i2l (pc := 834) d178_834 ?_
    refine ef_lcmp (pc := 835) d178_835 ?_
    refine ef_if_eqT (pc := 836) d178_836 (t := 841) rfl (by rw [hx0]; exact lcz.mpr rfl) ?_
    refine ef_goto (pc := 841) d178_841 (t := 900) rfl ?_
    exact nxt v2 g2 _ _ hI2
theorem L13 {P : Pg} {h n : Nat} {u : Mm} {g : Nat → Nat → Int} {v5 v6 : Option Vl} (hX : ∀ i, inR (pX P i)) (hb : pB P < h) (hp : pSv P < h) (hn : 4 * n + 4 ≤ pLn P) (hL : pLn P ≤ 2048) (nxt : ∀ (u : Mm) (g : Nat → Nat → Int) (v5 v6 : Option Vl), LI h (n + 1) u g → Ef P 100 178 900 [some (vR (pB P)), some (vR h), some (vR (h + 710)), some (vR (h + 753)), some (vI ((4 * n : Nat) : Int)), v5, v6] [] (sI u g) (fun r u' => r = .inl (some (vI 1)) ∧ mT u' ≤ h + 601024 ∧ mU u' ≤ 7293034)) (H : LI h n u g) : Ef P 100 178 844 [some (vR (pB P)), some (vR h), some (vR (h + 710)), some (vR (h + 753)), some (vI ((4 * n : Nat) : Int)), v5, v6] [] (sI u g) (fun r u' => r = .inl (some (vI 1)) ∧ mT u' ≤ h + 601024 ∧ mU u' ≤ 7293034) := by
  obtain ⟨hM0, ho0, hh0, hu0, -, -⟩ := H.md
  have hub := hu0 _ hb
  have hm0 := hM0.1
  refine ef_aload_n (pc := 844) d178_844 rfl ?_
  refine ef_aload_n (pc := 845) d178_845 rfl ?_
  refine ef_iload (pc := 846) d178_846 rfl ?_
  refine ef_iconst (pc := 848) d178_848 (by decide) ?_
  refine ef_iadd (pc := 849) d178_849 (z := ((4 * n + 1 : Nat) : Int)) (by omega) ⟨by omega, by omega⟩ ?_
  refine ef_scI (pc := 850) d178_850 (i := 4 * n + 1) (by assumption) (rfl) (by omega) ?_
  refine ef_aload_n (pc := 851) d178_851 rfl ?_
  refine ef_callS (pc := 852) d178_852 lm_9_119 (as := [_, _, _]) rfl rfl rfl (Nat.le_of_ble_eq_true rfl) rfl (Nat.le_of_ble_eq_true rfl) ?_
  refine Ec.imp (Ec.deep (show 70 ≤ 99 by decide) (st13 (by omega) (H := H))) ?_
  rintro r852 u852 ⟨kz, z, v, g1, rfl, rfl, hm1, hu1, hnx⟩
  have hub1 := hu1 _ hb
  refine ef_istore (pc := 855) d178_855 (ls' := [_, _, _, _, _, _, _]) rfl ?_
  refine ef_aload_n (pc := 857) d178_857 rfl ?_
  refine ef_aload_n (pc := 858) d178_858 rfl ?_
  refine ef_iload (pc := 859) d178_859 rfl ?_
  refine ef_iconst (pc := 861) d178_861 (by decide) ?_
  refine ef_iadd (pc := 862) d178_862 (z := ((4 * n + 1 : Nat) : Int)) (by omega) ⟨by omega, by omega⟩ ?_
  refine ef_scI (pc := 863) d178_863 (i := 4 * n + 1) (by assumption) (rfl) (by omega) ?_
  try simp (disch := omega) only [u2_ne, u2_at, u2_ni, ur_ne, ur_eq]
  refine ef_callV (pc := 864) d178_864 lm_9_121 (as := [_]) rfl rfl (by assumption) rfl rfl (by decide) (Nat.le_of_ble_eq_true rfl) rfl (Nat.le_of_ble_eq_true rfl) ?_
  refine Ec.imp (Ec.deep (show 70 ≤ 99 by decide) hnx) ?_
  rintro r864 u864 ⟨x0, v2, g2, rfl, rfl, e0, hk0, hI2⟩
  obtain ⟨hM2, ho2, hh2, hu2, -, -⟩ := hI2.md
  have hm2 := hM2.1
  refine ef_istore (pc := 867) d178_867 (ls' := [_, _, _, _, _, _, _]) rfl ?_
  refine ef_aload_n (pc := 869) d178_869 rfl ?_
  refine ef_callV (pc := 870) d178_870 lm_9_74 (as := []) rfl rfl (by assumption) rfl rfl (by decide) (Nat.le_of_ble_eq_true rfl) rfl (Nat.le_of_ble_eq_true rfl) ?_
  refine Ec.imp (Ec.deep (Nat.zero_le _) (c91 (d := 0) hM2)) ?_
  rintro r870 u870 ⟨rfl, rfl⟩
  rw [e0]
  refine ef_iload (pc := 873) d178_873 rfl ?_
  refine ef_icmp_eqT (pc := 875) d178_875 (t := 880) rfl (rfl) ?_
  refine ef_iload (pc := 880) d178_880 rfl ?_
  refine ef_if_ne (pc := 882) d178_882 (t := 897) rfl (fun h882 => ?_) (fun h882 => ?_)
  · refine ef_goto (pc := 897) d178_897 (t := 900) rfl ?_
    exact nxt v2 g2 _ _ hI2
  · obtain ⟨hx0, hl0⟩ := hk0 (by omega)
    refine ef_aload_n (pc := 885) d178_885 rfl ?_
    refine ef_iconst (pc := 886) d178_886 (by decide) ?_
    refine eg_lald (pc := 887) d178_887 (i := 0) (by assumption) (rfl) (by omega) ?_
    try simp (disch := omega) only [u2_ne, u2_at, u2_ni, ur_ne, ur_eq]
    rw [hl0]
    refine ef_iload (pc := 888) d178_888 rfl ?_
    refine ef_i2l (pc := 890) d178_890 ?_
    refine ef_lcmp (pc := 891) d178_891 ?_
    refine ef_if_eqT (pc := 892) d178_892 (t := 897) rfl (by rw [hx0]; exact lcz.mpr rfl) ?_
    refine ef_goto (pc := 897) d178_897 (t := 900) rfl ?_
    exact nxt v2 g2 _ _ hI2
