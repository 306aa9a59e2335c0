/-! The model: states saved and loaded. Written by wip/whole/gen/c98.py. -/
def SvR (g : Nat → Nat → Int) (m : Nat) (st : Nat → Int) (b : Nat) : Prop := (∀ i, i < 21 → st (b + i) = g (m + 12) i ∧ st (b + 21 + i) = g (m + 13) i ∧ st (b + 42 + i) = g (m + 14) i) ∧ (∀ i, i < 40 → st (b + 63 + i) = g (m + 15) i ∧ st (b + 103 + i) = g (m + 16) i ∧ st (b + 143 + i) = g (m + 17) i ∧ st (b + 183 + i) = g (m + 18) i) ∧ (∀ i, i < 30 → st (b + 223 + i) = g (m + 19) i ∧ st (b + 253 + i) = g (m + 20) i ∧ st (b + 283 + i) = g (m + 21) i) ∧ st (b + 313) = g m 28
theorem c137 {P : Pg} {d : Nat} {u : Mm} {g : Nat → Nat → Int} {m : Nat} {k b : Nat} (hM : MdA u m) (hk : k < 32) (hb : b = 314 * k) : Ec P d 137 [vR m, vI (k : Int)] (sI u g) (fun x u' => ∃ g', u' = sI u g' ∧ x = .inl none ∧ SvR g m (g' (m + 37)) b ∧ (∀ j, j < b ∨ b + 314 ≤ j → g' (m + 37) j = g (m + 37) j) ∧ ∀ a, a ≠ m + 37 → g' a = g a) := by
  have s0 := hM.1
  have f18 : mF u m 18 = some (m + 12) := (hM.2 11 (by decide)).1
  have s18 : mS u (m + 12) = some (0, 21) := (hM.2 11 (by decide)).2
  have f19 : mF u m 19 = some (m + 13) := (hM.2 12 (by decide)).1
  have s19 : mS u (m + 13) = some (0, 21) := (hM.2 12 (by decide)).2
  have f20 : mF u m 20 = some (m + 14) := (hM.2 13 (by decide)).1
  have s20 : mS u (m + 14) = some (0, 21) := (hM.2 13 (by decide)).2
  have f21 : mF u m 21 = some (m + 15) := (hM.2 14 (by decide)).1
  have s21 : mS u (m + 15) = some (0, 40) := (hM.2 14 (by decide)).2
  have f22 : mF u m 22 = some (m + 16) := (hM.2 15 (by decide)).1
  have s22 : mS u (m + 16) = some (0, 40) := (hM.2 15 (by decide)).2
  have f23 : mF u m 23 = some (m + 17) := (hM.2 16 (by decide)).1
  have s23 : mS u (m + 17) = some (0, 40) := (hM.2 16 (by decide)).2
  have f24 : mF u m 24 = some (m + 18) := (hM.2 17 (by decide)).1
  have s24 : mS u (m + 18) = some (0, 40) := (hM.2 17 (by decide)).2
  have f25 : mF u m 25 = some (m + 19) := (hM.2 18 (by decide)).1
  have s25 : mS u (m + 19) = some (0, 30) := (hM.2 18 (by decide)).2
  have f26 : mF u m 26 = some (m + 20) := (hM.2 19 (by decide)).1
  have s26 : mS u (m + 20) = some (0, 30) := (hM.2 19 (by decide)).2
  have f27 : mF u m 27 = some (m + 21) := (hM.2 20 (by decide)).1
  have s27 : mS u (m + 21) = some (0, 30) := (hM.2 20 (by decide)).2
  have f59 : mF u m 59 = some (m + 37) := (hM.2 36 (by decide)).1
  have s59 : mS u (m + 37) = some (0, 10048) := (hM.2 36 (by decide)).2
  have fin : ∀ (g1 : Nat → Nat → Int) (v3 : Option Vl), (∀ i, i < 21 → g1 (m + 37) (b + i) = g (m + 12) i ∧ g1 (m + 37) (b + 21 + i) = g (m + 13) i ∧ g1 (m + 37) (b + 42 + i) = g (m + 14) i) → (∀ i, i < 40 → g1 (m + 37) (b + 63 + i) = g (m + 15) i ∧ g1 (m + 37) (b + 103 + i) = g (m + 16) i ∧ g1 (m + 37) (b + 143 + i) = g (m + 17) i ∧ g1 (m + 37) (b + 183 + i) = g (m + 18) i) → (∀ i, i < 30 → g1 (m + 37) (b + 223 + i) = g (m + 19) i ∧ g1 (m + 37) (b + 253 + i) = g (m + 20) i ∧ g1 (m + 37) (b + 283 + i) = g (m + 21) i) → (∀ j, j < b ∨ b + 314 ≤ j → g1 (m + 37) j = g (m + 37) j) → (∀ a, a ≠ m + 37 → g1 a = g a) → Ef P d 137 220 [some (vR m), some (vI (k : Int)), some (vI (b : Int)), v3] [] (sI u g1) (fun x u' => ∃ g', u' = sI u g' ∧ x = .inl none ∧ SvR g m (g' (m + 37)) b ∧ (∀ j, j < b ∨ b + 314 ≤ j → g' (m + 37) j = g (m + 37) j) ∧ ∀ a, a ≠ m + 37 → g' a = g a) := by
    intro g1 v3 r0 r1 r2 rf ro
    have h28 : g1 m 28 = g m 28 := by rw [ro _ (by omega)]
    refine ef_aload_n (pc := 220) d137_220 rfl ?_
    refine eg_getR (pc := 221) d137_221 lf_8_120 (by assumption) (by decide) (by assumption) ?_
    refine ef_iload_n (pc := 224) d137_224 rfl ?_
    refine ef_sipush (pc := 225) d137_225 (by decide) ?_
    refine ef_iadd (pc := 228) d137_228 (z := ((b + 313 : Nat) : Int)) (by omega) ⟨by omega, by omega⟩ ?_
    refine ef_aload_n (pc := 229) d137_229 rfl ?_
    refine eg_getI (pc := 230) d137_230 lf_8_209 (by assumption) (by decide) ?_
    rw [h28]
    refine eg_iast (pc := 233) d137_233 (i := b + 313) (by assumption) (rfl) (by omega) rfl ?_
    refine ef_vret (pc := 234) d137_234 rfl ?_
    refine ⟨_, rfl, rfl, ⟨fun i hi => ?_, fun i hi => ?_, fun i hi => ?_, u2_at⟩, fun j hj => by rw [u2_ni (by omega)]; exact rf j hj, fun a ha => by rw [u2_ne ha]; exact ro a ha⟩
    · simp (disch := omega) only [u2_ni]; exact r0 i hi
    · simp (disch := omega) only [u2_ni]; exact r1 i hi
    · simp (disch := omega) only [u2_ni]; exact r2 i hi
  have l2 : ∀ i, i ≤ 30 → ∀ (g1 : Nat → Nat → Int), (∀ i, i < 21 → g1 (m + 37) (b + i) = g (m + 12) i ∧ g1 (m + 37) (b + 21 + i) = g (m + 13) i ∧ g1 (m + 37) (b + 42 + i) = g (m + 14) i) → (∀ i, i < 40 → g1 (m + 37) (b + 63 + i) = g (m + 15) i ∧ g1 (m + 37) (b + 103 + i) = g (m + 16) i ∧ g1 (m + 37) (b + 143 + i) = g (m + 17) i ∧ g1 (m + 37) (b + 183 + i) = g (m + 18) i) → (∀ x, x < i → g1 (m + 37) (b + 223 + x) = g (m + 19) x ∧ g1 (m + 37) (b + 253 + x) = g (m + 20) x ∧ g1 (m + 37) (b + 283 + x) = g (m + 21) x) → (∀ j, j < b ∨ b + 314 ≤ j → g1 (m + 37) j = g (m + 37) j) → (∀ a, a ≠ m + 37 → g1 a = g a) → Ef P d 137 154 [some (vR m), some (vI (k : Int)), some (vI (b : Int)), some (vI (i : Int))] [] (sI u g1) (fun x u' => ∃ g', u' = sI u g' ∧ x = .inl none ∧ SvR g m (g' (m + 37)) b ∧ (∀ j, j < b ∨ b + 314 ≤ j → g' (m + 37) j = g (m + 37) j) ∧ ∀ a, a ≠ m + 37 → g' a = g a) := by
    refine nat_loop 30 ?_
    intro i hi ih g1 r0 r1 rc rf ro
    have e19 : g1 (m + 19) i = g (m + 19) i := by rw [ro _ (by omega)]
    have e20 : g1 (m + 20) i = g (m + 20) i := by rw [ro _ (by omega)]
    have e21 : g1 (m + 21) i = g (m + 21) i := by rw [ro _ (by omega)]
    refine ef_iload_n (pc := 154) d137_154 rfl ?_
    refine ef_bipush (pc := 155) d137_155 (by decide) ?_
    refine ef_icmp_ge (pc := 157) d137_157 (t := 220) rfl (fun h157 => ?_) (fun h157 => ?_)
    · have hii : i = 30 := by omega
      subst hii
      exact fin g1 _ r0 r1 rc rf ro
    · refine ef_aload_n (pc := 160) d137_160 rfl ?_
      refine eg_getR (pc := 161) d137_161 lf_8_120 (by assumption) (by decide) (by assumption) ?_
      refine ef_iload_n (pc := 164) d137_164 rfl ?_
      refine ef_sipush (pc := 165) d137_165 (by decide) ?_
      refine ef_iadd (pc := 168) d137_168 (z := ((b + 223 : Nat) : Int)) (by omega) ⟨by omega, by omega⟩ ?_
      refine ef_iload_n (pc := 169) d137_169 rfl ?_
      refine ef_iadd (pc := 170) d137_170 (z := ((b + 223 + i : Nat) : Int)) (by omega) ⟨by omega, by omega⟩ ?_
      refine ef_aload_n (pc := 171) d137_171 rfl ?_
      refine eg_getR (pc := 172) d137_172 lf_8_65 (by assumption) (by decide) (by assumption) ?_
      refine ef_iload_n (pc := 175) d137_175 rfl ?_
      refine eg_iald (pc := 176) d137_176 (i := i) (by assumption) (rfl) (by omega) ?_
      rw [e19]
      refine eg_iast (pc := 177) d137_177 (i := b + 223 + i) (by assumption) (rfl) (by omega) rfl ?_
      refine ef_aload_n (pc := 178) d137_178 rfl ?_
      refine eg_getR (pc := 179) d137_179 lf_8_120 (by assumption) (by decide) (by assumption) ?_
      refine ef_iload_n (pc := 182) d137_182 rfl ?_
      refine ef_sipush (pc := 183) d137_183 (by decide) ?_
      refine ef_iadd (pc := 186) d137_186 (z := ((b + 253 : Nat) : Int)) (by omega) ⟨by omega, by omega⟩ ?_
      refine ef_iload_n (pc := 187) d137_187 rfl ?_
      refine ef_iadd (pc := 188) d137_188 (z := ((b + 253 + i : Nat) : Int)) (by omega) ⟨by omega, by omega⟩ ?_
      refine ef_aload_n (pc := 189) d137_189 rfl ?_
      refine eg_getR (pc := 190) d137_190 lf_8_68 (by assumption) (by decide) (by assumption) ?_
      refine ef_iload_n (pc := 193) d137_193 rfl ?_
      refine eg_iald (pc := 194) d137_194 (i := i) (by assumption) (rfl) (by omega) ?_
      rw [u2_ne (by omega), e20]
      refine eg_iast (pc := 195) d137_195 (i := b + 253 + i) (by assumption) (rfl) (by omega) rfl ?_
      refine ef_aload_n (pc := 196) d137_196 rfl ?_
      refine eg_getR (pc := 197) d137_197 lf_8_120 (by assumption) (by decide) (by assumption) ?_
      refine ef_iload_n (pc := 200) d137_200 rfl ?_
      refine ef_sipush (pc := 201) d137_201 (by decide) ?_
      refine ef_iadd (pc := 204) d137_204 (z := ((b + 283 : Nat) : Int)) (by omega) ⟨by omega, by omega⟩ ?_
      refine ef_iload_n (pc := 205) d137_205 rfl ?_
      refine ef_iadd (pc := 206) d137_206 (z := ((b + 283 + i : Nat) : Int)) (by omega) ⟨by omega, by omega⟩ ?_
      refine ef_aload_n (pc := 207) d137_207 rfl ?_
      refine eg_getR (pc := 208) d137_208 lf_8_71 (by assumption) (by decide) (by assumption) ?_
      refine ef_iload_n (pc := 211) d137_211 rfl ?_
      refine eg_iald (pc := 212) d137_212 (i := i) (by assumption) (rfl) (by omega) ?_
      rw [u2_ne (by omega), u2_ne (by omega), e21]
      refine eg_iast (pc := 213) d137_213 (i := b + 283 + i) (by assumption) (rfl) (by omega) rfl ?_
      refine ef_iinc (pc := 214) d137_214 (ls' := [_, _, _, _]) (z := ((i + 1 : Nat) : Int)) rfl (by decide) (by omega) ⟨by omega, by omega⟩ rfl ?_
      refine ef_goto (pc := 217) d137_217 (t := 154) rfl ?_
      refine ih (by omega) _ (fun x hx => by simp (disch := omega) only [u2_ni]; exact r0 x hx) (fun x hx => by simp (disch := omega) only [u2_ni]; exact r1 x hx) (fun x hx => ?_) (fun j hj => by simp (disch := omega) only [u2_ni]; exact rf j hj) (fun a ha => by simp (disch := omega) only [u2_ne]; exact ro a ha)
      by_cases hxi : x = i
      · subst hxi; simp (disch := omega) only [u2_ni, u2_at]; exact ⟨trivial, trivial, trivial⟩
      · simp (disch := omega) only [u2_ni]; exact rc x (by omega)
  have l1 : ∀ i, i ≤ 40 → ∀ (g1 : Nat → Nat → Int), (∀ i, i < 21 → g1 (m + 37) (b + i) = g (m + 12) i ∧ g1 (m + 37) (b + 21 + i) = g (m + 13) i ∧ g1 (m + 37) (b + 42 + i) = g (m + 14) i) → (∀ x, x < i → g1 (m + 37) (b + 63 + x) = g (m + 15) x ∧ g1 (m + 37) (b + 103 + x) = g (m + 16) x ∧ g1 (m + 37) (b + 143 + x) = g (m + 17) x ∧ g1 (m + 37) (b + 183 + x) = g (m + 18) x) → (∀ j, j < b ∨ b + 314 ≤ j → g1 (m + 37) j = g (m + 37) j) → (∀ a, a ≠ m + 37 → g1 a = g a) → Ef P d 137 70 [some (vR m), some (vI (k : Int)), some (vI (b : Int)), some (vI (i : Int))] [] (sI u g1) (fun x u' => ∃ g', u' = sI u g' ∧ x = .inl none ∧ SvR g m (g' (m + 37)) b ∧ (∀ j, j < b ∨ b + 314 ≤ j → g' (m + 37) j = g (m + 37) j) ∧ ∀ a, a ≠ m + 37 → g' a = g a) := by
    refine nat_loop 40 ?_
    intro i hi ih g1 r0 rc rf ro
    have e15 : g1 (m + 15) i = g (m + 15) i := by rw [ro _ (by omega)]
    have e16 : g1 (m + 16) i = g (m + 16) i := by rw [ro _ (by omega)]
    have e17 : g1 (m + 17) i = g (m + 17) i := by rw [ro _ (by omega)]
    have e18 : g1 (m + 18) i = g (m + 18) i := by rw [ro _ (by omega)]
    refine ef_iload_n (pc := 70) d137_70 rfl ?_
    refine ef_bipush (pc := 71) d137_71 (by decide) ?_
    refine ef_icmp_ge (pc := 73) d137_73 (t := 152) rfl (fun h73 => ?_) (fun h73 => ?_)
    · have hii : i = 40 := by omega
      subst hii
      refine ef_iconst (pc := 152) d137_152 (by decide) ?_
      refine ef_istore_n (pc := 153) d137_153 (ls' := [_, _, _, _]) rfl ?_
      exact l2 0 (by omega) g1 r0 rc (fun x hx => absurd hx (by omega)) rf ro
    · refine ef_aload_n (pc := 76) d137_76 rfl ?_
      refine eg_getR (pc := 77) d137_77 lf_8_120 (by assumption) (by decide) (by assumption) ?_
      refine ef_iload_n (pc := 80) d137_80 rfl ?_
      refine ef_bipush (pc := 81) d137_81 (by decide) ?_
      refine ef_iadd (pc := 83) d137_83 (z := ((b + 63 : Nat) : Int)) (by omega) ⟨by omega, by omega⟩ ?_
      refine ef_iload_n (pc := 84) d137_84 rfl ?_
      refine ef_iadd (pc := 85) d137_85 (z := ((b + 63 + i : Nat) : Int)) (by omega) ⟨by omega, by omega⟩ ?_
      refine ef_aload_n (pc := 86) d137_86 rfl ?_
      refine eg_getR (pc := 87) d137_87 lf_8_53 (by assumption) (by decide) (by assumption) ?_
      refine ef_iload_n (pc := 90) d137_90 rfl ?_
      refine eg_iald (pc := 91) d137_91 (i := i) (by assumption) (rfl) (by omega) ?_
      rw [e15]
      refine eg_iast (pc := 92) d137_92 (i := b + 63 + i) (by assumption) (rfl) (by omega) rfl ?_
      refine ef_aload_n (pc := 93) d137_93 rfl ?_
      refine eg_getR (pc := 94) d137_94 lf_8_120 (by assumption) (by decide) (by assumption) ?_
      refine ef_iload_n (pc := 97) d137_97 rfl ?_
      refine ef_bipush (pc := 98) d137_98 (by decide) ?_
      refine ef_iadd (pc := 100) d137_100 (z := ((b + 103 : Nat) : Int)) (by omega) ⟨by omega, by omega⟩ ?_
      refine ef_iload_n (pc := 101) d137_101 rfl ?_
      refine ef_iadd (pc := 102) d137_102 (z := ((b + 103 + i : Nat) : Int)) (by omega) ⟨by omega, by omega⟩ ?_
      refine ef_aload_n (pc := 103) d137_103 rfl ?_
      refine eg_getR (pc := 104) d137_104 lf_8_56 (by assumption) (by decide) (by assumption) ?_
      refine ef_iload_n (pc := 107) d137_107 rfl ?_
      refine eg_iald (pc := 108) d137_108 (i := i) (by assumption) (rfl) (by omega) ?_
      rw [u2_ne (by omega), e16]
      refine eg_iast (pc := 109) d137_109 (i := b + 103 + i) (by assumption) (rfl) (by omega) rfl ?_
      refine ef_aload_n (pc := 110) d137_110 rfl ?_
      refine eg_getR (pc := 111) d137_111 lf_8_120 (by assumption) (by decide) (by assumption) ?_
      refine ef_iload_n (pc := 114) d137_114 rfl ?_
      refine ef_sipush (pc := 115) d137_115 (by decide) ?_
      refine ef_iadd (pc := 118) d137_118 (z := ((b + 143 : Nat) : Int)) (by omega) ⟨by omega, by omega⟩ ?_
      refine ef_iload_n (pc := 119) d137_119 rfl ?_
      refine ef_iadd (pc := 120) d137_120 (z := ((b + 143 + i : Nat) : Int)) (by omega) ⟨by omega, by omega⟩ ?_
      refine ef_aload_n (pc := 121) d137_121 rfl ?_
      refine eg_getR (pc := 122) d137_122 lf_8_59 (by assumption) (by decide) (by assumption) ?_
      refine ef_iload_n (pc := 125) d137_125 rfl ?_
      refine eg_iald (pc := 126) d137_126 (i := i) (by assumption) (rfl) (by omega) ?_
      rw [u2_ne (by omega), u2_ne (by omega), e17]
      refine eg_iast (pc := 127) d137_127 (i := b + 143 + i) (by assumption) (rfl) (by omega) rfl ?_
      refine ef_aload_n (pc := 128) d137_128 rfl ?_
      refine eg_getR (pc := 129) d137_129 lf_8_120 (by assumption) (by decide) (by assumption) ?_
      refine ef_iload_n (pc := 132) d137_132 rfl ?_
      refine ef_sipush (pc := 133) d137_133 (by decide) ?_
      refine ef_iadd (pc := 136) d137_136 (z := ((b + 183 : Nat) : Int)) (by omega) ⟨by omega, by omega⟩ ?_
      refine ef_iload_n (pc := 137) d137_137 rfl ?_
      refine ef_iadd (pc := 138) d137_138 (z := ((b + 183 + i : Nat) : Int)) (by omega) ⟨by omega, by omega⟩ ?_
      refine ef_aload_n (pc := 139) d137_139 rfl ?_
      refine eg_getR (pc := 140) d137_140 lf_8_62 (by assumption) (by decide) (by assumption) ?_
      refine ef_iload_n (pc := 143) d137_143 rfl ?_
      refine eg_iald (pc := 144) d137_144 (i := i) (by assumption) (rfl) (by omega) ?_
      rw [u2_ne (by omega), u2_ne (by omega), u2_ne (by omega), e18]
      refine eg_iast (pc := 145) d137_145 (i := b + 183 + i) (by assumption) (rfl) (by omega) rfl ?_
      refine ef_iinc (pc := 146) d137_146 (ls' := [_, _, _, _]) (z := ((i + 1 : Nat) : Int)) rfl (by decide) (by omega) ⟨by omega, by omega⟩ rfl ?_
      refine ef_goto (pc := 149) d137_149 (t := 70) rfl ?_
      refine ih (by omega) _ (fun x hx => by simp (disch := omega) only [u2_ni]; exact r0 x hx) (fun x hx => ?_) (fun j hj => by simp (disch := omega) only [u2_ni]; exact rf j hj) (fun a ha => by simp (disch := omega) only [u2_ne]; exact ro a ha)
      by_cases hxi : x = i
      · subst hxi; simp (disch := omega) only [u2_ni, u2_at]; exact ⟨trivial, trivial, trivial, trivial⟩
      · simp (disch := omega) only [u2_ni]; exact rc x (by omega)
  have l0 : ∀ i, i ≤ 21 → ∀ (g1 : Nat → Nat → Int), (∀ x, x < i → g1 (m + 37) (b + x) = g (m + 12) x ∧ g1 (m + 37) (b + 21 + x) = g (m + 13) x ∧ g1 (m + 37) (b + 42 + x) = g (m + 14) x) → (∀ j, j < b ∨ b + 314 ≤ j → g1 (m + 37) j = g (m + 37) j) → (∀ a, a ≠ m + 37 → g1 a = g a) → Ef P d 137 8 [some (vR m), some (vI (k : Int)), some (vI (b : Int)), some (vI (i : Int))] [] (sI u g1) (fun x u' => ∃ g', u' = sI u g' ∧ x = .inl none ∧ SvR g m (g' (m + 37)) b ∧ (∀ j, j < b ∨ b + 314 ≤ j → g' (m + 37) j = g (m + 37) j) ∧ ∀ a, a ≠ m + 37 → g' a = g a) := by
    refine nat_loop 21 ?_
    intro i hi ih g1  rc rf ro
    have e12 : g1 (m + 12) i = g (m + 12) i := by rw [ro _ (by omega)]
    have e13 : g1 (m + 13) i = g (m + 13) i := by rw [ro _ (by omega)]
    have e14 : g1 (m + 14) i = g (m + 14) i := by rw [ro _ (by omega)]
    refine ef_iload_n (pc := 8) d137_8 rfl ?_
    refine ef_bipush (pc := 9) d137_9 (by decide) ?_
    refine ef_icmp_ge (pc := 11) d137_11 (t := 68) rfl (fun h11 => ?_) (fun h11 => ?_)
    · have hii : i = 21 := by omega
      subst hii
      refine ef_iconst (pc := 68) d137_68 (by decide) ?_
      refine ef_istore_n (pc := 69) d137_69 (ls' := [_, _, _, _]) rfl ?_
      exact l1 0 (by omega) g1  rc (fun x hx => absurd hx (by omega)) rf ro
    · refine ef_aload_n (pc := 14) d137_14 rfl ?_
      refine eg_getR (pc := 15) d137_15 lf_8_120 (by assumption) (by decide) (by assumption) ?_
      refine ef_iload_n (pc := 18) d137_18 rfl ?_
      refine ef_iload_n (pc := 19) d137_19 rfl ?_
      refine ef_iadd (pc := 20) d137_20 (z := ((b + i : Nat) : Int)) (by omega) ⟨by omega, by omega⟩ ?_
      refine ef_aload_n (pc := 21) d137_21 rfl ?_
      refine eg_getR (pc := 22) d137_22 lf_8_44 (by assumption) (by decide) (by assumption) ?_
      refine ef_iload_n (pc := 25) d137_25 rfl ?_
      refine eg_iald (pc := 26) d137_26 (i := i) (by assumption) (rfl) (by omega) ?_
      rw [e12]
      refine eg_iast (pc := 27) d137_27 (i := b + i) (by assumption) (rfl) (by omega) rfl ?_
      refine ef_aload_n (pc := 28) d137_28 rfl ?_
      refine eg_getR (pc := 29) d137_29 lf_8_120 (by assumption) (by decide) (by assumption) ?_
      refine ef_iload_n (pc := 32) d137_32 rfl ?_
      refine ef_bipush (pc := 33) d137_33 (by decide) ?_
      refine ef_iadd (pc := 35) d137_35 (z := ((b + 21 : Nat) : Int)) (by omega) ⟨by omega, by omega⟩ ?_
      refine ef_iload_n (pc := 36) d137_36 rfl ?_
      refine ef_iadd (pc := 37) d137_37 (z := ((b + 21 + i : Nat) : Int)) (by omega) ⟨by omega, by omega⟩ ?_
      refine ef_aload_n (pc := 38) d137_38 rfl ?_
      refine eg_getR (pc := 39) d137_39 lf_8_47 (by assumption) (by decide) (by assumption) ?_
      refine ef_iload_n (pc := 42) d137_42 rfl ?_
      refine eg_iald (pc := 43) d137_43 (i := i) (by assumption) (rfl) (by omega) ?_
      rw [u2_ne (by omega), e13]
      refine eg_iast (pc := 44) d137_44 (i := b + 21 + i) (by assumption) (rfl) (by omega) rfl ?_
      refine ef_aload_n (pc := 45) d137_45 rfl ?_
      refine eg_getR (pc := 46) d137_46 lf_8_120 (by assumption) (by decide) (by assumption) ?_
      refine ef_iload_n (pc := 49) d137_49 rfl ?_
      refine ef_bipush (pc := 50) d137_50 (by decide) ?_
      refine ef_iadd (pc := 52) d137_52 (z := ((b + 42 : Nat) : Int)) (by omega) ⟨by omega, by omega⟩ ?_
      refine ef_iload_n (pc := 53) d137_53 rfl ?_
      refine ef_iadd (pc := 54) d137_54 (z := ((b + 42 + i : Nat) : Int)) (by omega) ⟨by omega, by omega⟩ ?_
      refine ef_aload_n (pc := 55) d137_55 rfl ?_
      refine eg_getR (pc := 56) d137_56 lf_8_50 (by assumption) (by decide) (by assumption) ?_
      refine ef_iload_n (pc := 59) d137_59 rfl ?_
      refine eg_iald (pc := 60) d137_60 (i := i) (by assumption) (rfl) (by omega) ?_
      rw [u2_ne (by omega), u2_ne (by omega), e14]
      refine eg_iast (pc := 61) d137_61 (i := b + 42 + i) (by assumption) (rfl) (by omega) rfl ?_
      refine ef_iinc (pc := 62) d137_62 (ls' := [_, _, _, _]) (z := ((i + 1 : Nat) : Int)) rfl (by decide) (by omega) ⟨by omega, by omega⟩ rfl ?_
      refine ef_goto (pc := 65) d137_65 (t := 8) rfl ?_
      refine ih (by omega) _  (fun x hx => ?_) (fun j hj => by simp (disch := omega) only [u2_ni]; exact rf j hj) (fun a ha => by simp (disch := omega) only [u2_ne]; exact ro a ha)
      by_cases hxi : x = i
      · subst hxi; simp (disch := omega) only [u2_ni, u2_at]; exact ⟨trivial, trivial, trivial⟩
      · simp (disch := omega) only [u2_ni]; exact rc x (by omega)
  change Ef P _ 137 0 [some (vR m), some (vI (k : Int)), none, none] [] _ _
  refine ef_sipush (pc := 0) d137_0 (by decide) ?_
  refine ef_iload_n (pc := 3) d137_3 rfl ?_
  refine ef_imul (pc := 4) d137_4 (z := (b : Int)) (by omega) ⟨by omega, by omega⟩ ?_
  refine ef_istore_n (pc := 5) d137_5 (ls' := [_, _, _, _]) rfl ?_
  refine ef_iconst (pc := 6) d137_6 (by decide) ?_
  refine ef_istore_n (pc := 7) d137_7 (ls' := [_, _, _, _]) rfl ?_
  exact l0 0 (by omega) g (fun x hx => absurd hx (by omega)) (fun j hj => rfl) (fun a ha => rfl)
theorem c139 {P : Pg} {d : Nat} {u : Mm} {g : Nat → Nat → Int} {m : Nat} {k b : Nat} (hM : MdA u m) (hk : k < 32) (hb : b = 314 * k) : Ec P d 139 [vR m, vI (k : Int)] (sI u g) (fun x u' => ∃ g', u' = sI u g' ∧ x = .inl none ∧ SvR g' m (g (m + 37)) b ∧ g' m 30 = 0 ∧ (∀ a, a ≠ m → (a < m + 12 ∨ m + 21 < a) → g' a = g a) ∧ ∀ f, f ≠ 28 → f ≠ 30 → g' m f = g m f) := by
  have s0 := hM.1
  have f18 : mF u m 18 = some (m + 12) := (hM.2 11 (by decide)).1
  have s18 : mS u (m + 12) = some (0, 21) := (hM.2 11 (by decide)).2
  have f19 : mF u m 19 = some (m + 13) := (hM.2 12 (by decide)).1
  have s19 : mS u (m + 13) = some (0, 21) := (hM.2 12 (by decide)).2
  have f20 : mF u m 20 = some (m + 14) := (hM.2 13 (by decide)).1
  have s20 : mS u (m + 14) = some (0, 21) := (hM.2 13 (by decide)).2
  have f21 : mF u m 21 = some (m + 15) := (hM.2 14 (by decide)).1
  have s21 : mS u (m + 15) = some (0, 40) := (hM.2 14 (by decide)).2
  have f22 : mF u m 22 = some (m + 16) := (hM.2 15 (by decide)).1
  have s22 : mS u (m + 16) = some (0, 40) := (hM.2 15 (by decide)).2
  have f23 : mF u m 23 = some (m + 17) := (hM.2 16 (by decide)).1
  have s23 : mS u (m + 17) = some (0, 40) := (hM.2 16 (by decide)).2
  have f24 : mF u m 24 = some (m + 18) := (hM.2 17 (by decide)).1
  have s24 : mS u (m + 18) = some (0, 40) := (hM.2 17 (by decide)).2
  have f25 : mF u m 25 = some (m + 19) := (hM.2 18 (by decide)).1
  have s25 : mS u (m + 19) = some (0, 30) := (hM.2 18 (by decide)).2
  have f26 : mF u m 26 = some (m + 20) := (hM.2 19 (by decide)).1
  have s26 : mS u (m + 20) = some (0, 30) := (hM.2 19 (by decide)).2
  have f27 : mF u m 27 = some (m + 21) := (hM.2 20 (by decide)).1
  have s27 : mS u (m + 21) = some (0, 30) := (hM.2 20 (by decide)).2
  have f59 : mF u m 59 = some (m + 37) := (hM.2 36 (by decide)).1
  have s59 : mS u (m + 37) = some (0, 10048) := (hM.2 36 (by decide)).2
  have fin : ∀ (g1 : Nat → Nat → Int) (v3 : Option Vl), (∀ i, i < 21 → g (m + 37) (b + i) = g1 (m + 12) i ∧ g (m + 37) (b + 21 + i) = g1 (m + 13) i ∧ g (m + 37) (b + 42 + i) = g1 (m + 14) i) → (∀ i, i < 40 → g (m + 37) (b + 63 + i) = g1 (m + 15) i ∧ g (m + 37) (b + 103 + i) = g1 (m + 16) i ∧ g (m + 37) (b + 143 + i) = g1 (m + 17) i ∧ g (m + 37) (b + 183 + i) = g1 (m + 18) i) → (∀ i, i < 30 → g (m + 37) (b + 223 + i) = g1 (m + 19) i ∧ g (m + 37) (b + 253 + i) = g1 (m + 20) i ∧ g (m + 37) (b + 283 + i) = g1 (m + 21) i) → (∀ a, (a < m + 12 ∨ m + 21 < a) → g1 a = g a) → Ef P d 139 220 [some (vR m), some (vI (k : Int)), some (vI (b : Int)), v3] [] (sI u g1) (fun x u' => ∃ g', u' = sI u g' ∧ x = .inl none ∧ SvR g' m (g (m + 37)) b ∧ g' m 30 = 0 ∧ (∀ a, a ≠ m → (a < m + 12 ∨ m + 21 < a) → g' a = g a) ∧ ∀ f, f ≠ 28 → f ≠ 30 → g' m f = g m f) := by
    intro g1 v3 r0 r1 r2 ro
    have h37 : g1 (m + 37) = g (m + 37) := ro _ (by omega)
    refine ef_aload_n (pc := 220) d139_220 rfl ?_
    refine ef_aload_n (pc := 221) d139_221 rfl ?_
    refine eg_getR (pc := 222) d139_222 lf_8_120 (by assumption) (by decide) (by assumption) ?_
    refine ef_iload_n (pc := 225) d139_225 rfl ?_
    refine ef_sipush (pc := 226) d139_226 (by decide) ?_
    refine ef_iadd (pc := 229) d139_229 (z := ((b + 313 : Nat) : Int)) (by omega) ⟨by omega, by omega⟩ ?_
    refine eg_iald (pc := 230) d139_230 (i := b + 313) (by assumption) (rfl) (by omega) ?_
    rw [h37]
    refine eg_putI (pc := 231) d139_231 pf_139_209 (by assumption) (by decide) ?_
    refine ef_aload_n (pc := 234) d139_234 rfl ?_
    refine ef_iconst (pc := 235) d139_235 (by decide) ?_
    refine eg_putZ (pc := 236) d139_236 pf_139_215 (by assumption) (by decide) (by omega) ?_
    refine ef_vret (pc := 239) d139_239 rfl ?_
    refine ⟨_, rfl, rfl, ⟨fun i hi => ?_, fun i hi => ?_, fun i hi => ?_, ?_⟩, u2_at, fun a h1 h2 => by rw [u2_ne h1, u2_ne h1]; exact ro a h2, fun f h1 h2 => by rw [u2_ni h2, u2_ni h1, ro _ (by omega)]⟩
    · simp (disch := omega) only [u2_ne]; exact r0 i hi
    · simp (disch := omega) only [u2_ne]; exact r1 i hi
    · simp (disch := omega) only [u2_ne]; exact r2 i hi
    · rw [u2_ni (by decide), u2_at]
  have l2 : ∀ i, i ≤ 30 → ∀ (g1 : Nat → Nat → Int), (∀ i, i < 21 → g (m + 37) (b + i) = g1 (m + 12) i ∧ g (m + 37) (b + 21 + i) = g1 (m + 13) i ∧ g (m + 37) (b + 42 + i) = g1 (m + 14) i) → (∀ i, i < 40 → g (m + 37) (b + 63 + i) = g1 (m + 15) i ∧ g (m + 37) (b + 103 + i) = g1 (m + 16) i ∧ g (m + 37) (b + 143 + i) = g1 (m + 17) i ∧ g (m + 37) (b + 183 + i) = g1 (m + 18) i) → (∀ x, x < i → g (m + 37) (b + 223 + x) = g1 (m + 19) x ∧ g (m + 37) (b + 253 + x) = g1 (m + 20) x ∧ g (m + 37) (b + 283 + x) = g1 (m + 21) x) → (∀ a, (a < m + 12 ∨ m + 21 < a) → g1 a = g a) → Ef P d 139 154 [some (vR m), some (vI (k : Int)), some (vI (b : Int)), some (vI (i : Int))] [] (sI u g1) (fun x u' => ∃ g', u' = sI u g' ∧ x = .inl none ∧ SvR g' m (g (m + 37)) b ∧ g' m 30 = 0 ∧ (∀ a, a ≠ m → (a < m + 12 ∨ m + 21 < a) → g' a = g a) ∧ ∀ f, f ≠ 28 → f ≠ 30 → g' m f = g m f) := by
    refine nat_loop 30 ?_
    intro i hi ih g1 r0 r1 rc ro
    have h37 : g1 (m + 37) = g (m + 37) := ro _ (by omega)
    refine ef_iload_n (pc := 154) d139_154 rfl ?_
    refine ef_bipush (pc := 155) d139_155 (by decide) ?_
    refine ef_icmp_ge (pc := 157) d139_157 (t := 220) rfl (fun h157 => ?_) (fun h157 => ?_)
    · have hii : i = 30 := by omega
      subst hii
      exact fin g1 _ r0 r1 rc ro
    · refine ef_aload_n (pc := 160) d139_160 rfl ?_
      refine eg_getR (pc := 161) d139_161 lf_8_65 (by assumption) (by decide) (by assumption) ?_
      refine ef_iload_n (pc := 164) d139_164 rfl ?_
      refine ef_aload_n (pc := 165) d139_165 rfl ?_
      refine eg_getR (pc := 166) d139_166 lf_8_120 (by assumption) (by decide) (by assumption) ?_
      refine ef_iload_n (pc := 169) d139_169 rfl ?_
      refine ef_sipush (pc := 170) d139_170 (by decide) ?_
      refine ef_iadd (pc := 173) d139_173 (z := ((b + 223 : Nat) : Int)) (by omega) ⟨by omega, by omega⟩ ?_
      refine ef_iload_n (pc := 174) d139_174 rfl ?_
      refine ef_iadd (pc := 175) d139_175 (z := ((b + 223 + i : Nat) : Int)) (by omega) ⟨by omega, by omega⟩ ?_
      refine eg_iald (pc := 176) d139_176 (i := b + 223 + i) (by assumption) (rfl) (by omega) ?_
      rw [h37]
      refine eg_iast (pc := 177) d139_177 (i := i) (by assumption) (rfl) (by omega) rfl ?_
      refine ef_aload_n (pc := 178) d139_178 rfl ?_
      refine eg_getR (pc := 179) d139_179 lf_8_68 (by assumption) (by decide) (by assumption) ?_
      refine ef_iload_n (pc := 182) d139_182 rfl ?_
      refine ef_aload_n (pc := 183) d139_183 rfl ?_
      refine eg_getR (pc := 184) d139_184 lf_8_120 (by assumption) (by decide) (by assumption) ?_
      refine ef_iload_n (pc := 187) d139_187 rfl ?_
      refine ef_sipush (pc := 188) d139_188 (by decide) ?_
      refine ef_iadd (pc := 191) d139_191 (z := ((b + 253 : Nat) : Int)) (by omega) ⟨by omega, by omega⟩ ?_
      refine ef_iload_n (pc := 192) d139_192 rfl ?_
      refine ef_iadd (pc := 193) d139_193 (z := ((b + 253 + i : Nat) : Int)) (by omega) ⟨by omega, by omega⟩ ?_
      refine eg_iald (pc := 194) d139_194 (i := b + 253 + i) (by assumption) (rfl) (by omega) ?_
      rw [u2_ne (by omega), h37]
      refine eg_iast (pc := 195) d139_195 (i := i) (by assumption) (rfl) (by omega) rfl ?_
      refine ef_aload_n (pc := 196) d139_196 rfl ?_
      refine eg_getR (pc := 197) d139_197 lf_8_71 (by assumption) (by decide) (by assumption) ?_
      refine ef_iload_n (pc := 200) d139_200 rfl ?_
      refine ef_aload_n (pc := 201) d139_201 rfl ?_
      refine eg_getR (pc := 202) d139_202 lf_8_120 (by assumption) (by decide) (by assumption) ?_
      refine ef_iload_n (pc := 205) d139_205 rfl ?_
      refine ef_sipush (pc := 206) d139_206 (by decide) ?_
      refine ef_iadd (pc := 209) d139_209 (z := ((b + 283 : Nat) : Int)) (by omega) ⟨by omega, by omega⟩ ?_
      refine ef_iload_n (pc := 210) d139_210 rfl ?_
      refine ef_iadd (pc := 211) d139_211 (z := ((b + 283 + i : Nat) : Int)) (by omega) ⟨by omega, by omega⟩ ?_
      refine eg_iald (pc := 212) d139_212 (i := b + 283 + i) (by assumption) (rfl) (by omega) ?_
      rw [u2_ne (by omega), u2_ne (by omega), h37]
      refine eg_iast (pc := 213) d139_213 (i := i) (by assumption) (rfl) (by omega) rfl ?_
      refine ef_iinc (pc := 214) d139_214 (ls' := [_, _, _, _]) (z := ((i + 1 : Nat) : Int)) rfl (by decide) (by omega) ⟨by omega, by omega⟩ rfl ?_
      refine ef_goto (pc := 217) d139_217 (t := 154) rfl ?_
      refine ih (by omega) _ (fun x hx => by simp (disch := omega) only [u2_ne]; exact r0 x hx) (fun x hx => by simp (disch := omega) only [u2_ne]; exact r1 x hx) (fun x hx => ?_) (fun a ha => by simp (disch := omega) only [u2_ne]; exact ro a ha)
      by_cases hxi : x = i
      · subst hxi; simp (disch := omega) only [u2_ne, u2_at]; exact ⟨trivial, trivial, trivial⟩
      · simp (disch := omega) only [u2_ne, u2_ni]; exact rc x (by omega)
  have l1 : ∀ i, i ≤ 40 → ∀ (g1 : Nat → Nat → Int), (∀ i, i < 21 → g (m + 37) (b + i) = g1 (m + 12) i ∧ g (m + 37) (b + 21 + i) = g1 (m + 13) i ∧ g (m + 37) (b + 42 + i) = g1 (m + 14) i) → (∀ x, x < i → g (m + 37) (b + 63 + x) = g1 (m + 15) x ∧ g (m + 37) (b + 103 + x) = g1 (m + 16) x ∧ g (m + 37) (b + 143 + x) = g1 (m + 17) x ∧ g (m + 37) (b + 183 + x) = g1 (m + 18) x) → (∀ a, (a < m + 12 ∨ m + 21 < a) → g1 a = g a) → Ef P d 139 70 [some (vR m), some (vI (k : Int)), some (vI (b : Int)), some (vI (i : Int))] [] (sI u g1) (fun x u' => ∃ g', u' = sI u g' ∧ x = .inl none ∧ SvR g' m (g (m + 37)) b ∧ g' m 30 = 0 ∧ (∀ a, a ≠ m → (a < m + 12 ∨ m + 21 < a) → g' a = g a) ∧ ∀ f, f ≠ 28 → f ≠ 30 → g' m f = g m f) := by
    refine nat_loop 40 ?_
    intro i hi ih g1 r0 rc ro
    have h37 : g1 (m + 37) = g (m + 37) := ro _ (by omega)
    refine ef_iload_n (pc := 70) d139_70 rfl ?_
    refine ef_bipush (pc := 71) d139_71 (by decide) ?_
    refine ef_icmp_ge (pc := 73) d139_73 (t := 152) rfl (fun h73 => ?_) (fun h73 => ?_)
    · have hii : i = 40 := by omega
      subst hii
      refine ef_iconst (pc := 152) d139_152 (by decide) ?_
      refine ef_istore_n (pc := 153) d139_153 (ls' := [_, _, _, _]) rfl ?_
      exact l2 0 (by omega) g1 r0 rc (fun x hx => absurd hx (by omega)) ro
    · refine ef_aload_n (pc := 76) d139_76 rfl ?_
      refine eg_getR (pc := 77) d139_77 lf_8_53 (by assumption) (by decide) (by assumption) ?_
      refine ef_iload_n (pc := 80) d139_80 rfl ?_
      refine ef_aload_n (pc := 81) d139_81 rfl ?_
      refine eg_getR (pc := 82) d139_82 lf_8_120 (by assumption) (by decide) (by assumption) ?_
      refine ef_iload_n (pc := 85) d139_85 rfl ?_
      refine ef_bipush (pc := 86) d139_86 (by decide) ?_
      refine ef_iadd (pc := 88) d139_88 (z := ((b + 63 : Nat) : Int)) (by omega) ⟨by omega, by omega⟩ ?_
      refine ef_iload_n (pc := 89) d139_89 rfl ?_
      refine ef_iadd (pc := 90) d139_90 (z := ((b + 63 + i : Nat) : Int)) (by omega) ⟨by omega, by omega⟩ ?_
      refine eg_iald (pc := 91) d139_91 (i := b + 63 + i) (by assumption) (rfl) (by omega) ?_
      rw [h37]
      refine eg_iast (pc := 92) d139_92 (i := i) (by assumption) (rfl) (by omega) rfl ?_
      refine ef_aload_n (pc := 93) d139_93 rfl ?_
      refine eg_getR (pc := 94) d139_94 lf_8_56 (by assumption) (by decide) (by assumption) ?_
      refine ef_iload_n (pc := 97) d139_97 rfl ?_
      refine ef_aload_n (pc := 98) d139_98 rfl ?_
      refine eg_getR (pc := 99) d139_99 lf_8_120 (by assumption) (by decide) (by assumption) ?_
      refine ef_iload_n (pc := 102) d139_102 rfl ?_
      refine ef_bipush (pc := 103) d139_103 (by decide) ?_
      refine ef_iadd (pc := 105) d139_105 (z := ((b + 103 : Nat) : Int)) (by omega) ⟨by omega, by omega⟩ ?_
      refine ef_iload_n (pc := 106) d139_106 rfl ?_
      refine ef_iadd (pc := 107) d139_107 (z := ((b + 103 + i : Nat) : Int)) (by omega) ⟨by omega, by omega⟩ ?_
      refine eg_iald (pc := 108) d139_108 (i := b + 103 + i) (by assumption) (rfl) (by omega) ?_
      rw [u2_ne (by omega), h37]
      refine eg_iast (pc := 109) d139_109 (i := i) (by assumption) (rfl) (by omega) rfl ?_
      refine ef_aload_n (pc := 110) d139_110 rfl ?_
      refine eg_getR (pc := 111) d139_111 lf_8_59 (by assumption) (by decide) (by assumption) ?_
      refine ef_iload_n (pc := 114) d139_114 rfl ?_
      refine ef_aload_n (pc := 115) d139_115 rfl ?_
      refine eg_getR (pc := 116) d139_116 lf_8_120 (by assumption) (by decide) (by assumption) ?_
      refine ef_iload_n (pc := 119) d139_119 rfl ?_
      refine ef_sipush (pc := 120) d139_120 (by decide) ?_
      refine ef_iadd (pc := 123) d139_123 (z := ((b + 143 : Nat) : Int)) (by omega) ⟨by omega, by omega⟩ ?_
      refine ef_iload_n (pc := 124) d139_124 rfl ?_
      refine ef_iadd (pc := 125) d139_125 (z := ((b + 143 + i : Nat) : Int)) (by omega) ⟨by omega, by omega⟩ ?_
      refine eg_iald (pc := 126) d139_126 (i := b + 143 + i) (by assumption) (rfl) (by omega) ?_
      rw [u2_ne (by omega), u2_ne (by omega), h37]
      refine eg_iast (pc := 127) d139_127 (i := i) (by assumption) (rfl) (by omega) rfl ?_
      refine ef_aload_n (pc := 128) d139_128 rfl ?_
      refine eg_getR (pc := 129) d139_129 lf_8_62 (by assumption) (by decide) (by assumption) ?_
      refine ef_iload_n (pc := 132) d139_132 rfl ?_
      refine ef_aload_n (pc := 133) d139_133 rfl ?_
      refine eg_getR (pc := 134) d139_134 lf_8_120 (by assumption) (by decide) (by assumption) ?_
      refine ef_iload_n (pc := 137) d139_137 rfl ?_
      refine ef_sipush (pc := 138) d139_138 (by decide) ?_
      refine ef_iadd (pc := 141) d139_141 (z := ((b + 183 : Nat) : Int)) (by omega) ⟨by omega, by omega⟩ ?_
      refine ef_iload_n (pc := 142) d139_142 rfl ?_
      refine ef_iadd (pc := 143) d139_143 (z := ((b + 183 + i : Nat) : Int)) (by omega) ⟨by omega, by omega⟩ ?_
      refine eg_iald (pc := 144) d139_144 (i := b + 183 + i) (by assumption) (rfl) (by omega) ?_
      rw [u2_ne (by omega), u2_ne (by omega), u2_ne (by omega), h37]
      refine eg_iast (pc := 145) d139_145 (i := i) (by assumption) (rfl) (by omega) rfl ?_
      refine ef_iinc (pc := 146) d139_146 (ls' := [_, _, _, _]) (z := ((i + 1 : Nat) : Int)) rfl (by decide) (by omega) ⟨by omega, by omega⟩ rfl ?_
      refine ef_goto (pc := 149) d139_149 (t := 70) rfl ?_
      refine ih (by omega) _ (fun x hx => by simp (disch := omega) only [u2_ne]; exact r0 x hx) (fun x hx => ?_) (fun a ha => by simp (disch := omega) only [u2_ne]; exact ro a ha)
      by_cases hxi : x = i
      · subst hxi; simp (disch := omega) only [u2_ne, u2_at]; exact ⟨trivial, trivial, trivial, trivial⟩
      · simp (disch := omega) only [u2_ne, u2_ni]; exact rc x (by omega)
  have l0 : ∀ i, i ≤ 21 → ∀ (g1 : Nat → Nat → Int), (∀ x, x < i → g (m + 37) (b + x) = g1 (m + 12) x ∧ g (m + 37) (b + 21 + x) = g1 (m + 13) x ∧ g (m + 37) (b + 42 + x) = g1 (m + 14) x) → (∀ a, (a < m + 12 ∨ m + 21 < a) → g1 a = g a) → Ef P d 139 8 [some (vR m), some (vI (k : Int)), some (vI (b : Int)), some (vI (i : Int))] [] (sI u g1) (fun x u' => ∃ g', u' = sI u g' ∧ x = .inl none ∧ SvR g' m (g (m + 37)) b ∧ g' m 30 = 0 ∧ (∀ a, a ≠ m → (a < m + 12 ∨ m + 21 < a) → g' a = g a) ∧ ∀ f, f ≠ 28 → f ≠ 30 → g' m f = g m f) := by
    refine nat_loop 21 ?_
    intro i hi ih g1  rc ro
    have h37 : g1 (m + 37) = g (m + 37) := ro _ (by omega)
    refine ef_iload_n (pc := 8) d139_8 rfl ?_
    refine ef_bipush (pc := 9) d139_9 (by decide) ?_
    refine ef_icmp_ge (pc := 11) d139_11 (t := 68) rfl (fun h11 => ?_) (fun h11 => ?_)
    · have hii : i = 21 := by omega
      subst hii
      refine ef_iconst (pc := 68) d139_68 (by decide) ?_
      refine ef_istore_n (pc := 69) d139_69 (ls' := [_, _, _, _]) rfl ?_
      exact l1 0 (by omega) g1  rc (fun x hx => absurd hx (by omega)) ro
    · refine ef_aload_n (pc := 14) d139_14 rfl ?_
      refine eg_getR (pc := 15) d139_15 lf_8_44 (by assumption) (by decide) (by assumption) ?_
      refine ef_iload_n (pc := 18) d139_18 rfl ?_
      refine ef_aload_n (pc := 19) d139_19 rfl ?_
      refine eg_getR (pc := 20) d139_20 lf_8_120 (by assumption) (by decide) (by assumption) ?_
      refine ef_iload_n (pc := 23) d139_23 rfl ?_
      refine ef_iload_n (pc := 24) d139_24 rfl ?_
      refine ef_iadd (pc := 25) d139_25 (z := ((b + i : Nat) : Int)) (by omega) ⟨by omega, by omega⟩ ?_
      refine eg_iald (pc := 26) d139_26 (i := b + i) (by assumption) (rfl) (by omega) ?_
      rw [h37]
      refine eg_iast (pc := 27) d139_27 (i := i) (by assumption) (rfl) (by omega) rfl ?_
      refine ef_aload_n (pc := 28) d139_28 rfl ?_
      refine eg_getR (pc := 29) d139_29 lf_8_47 (by assumption) (by decide) (by assumption) ?_
      refine ef_iload_n (pc := 32) d139_32 rfl ?_
      refine ef_aload_n (pc := 33) d139_33 rfl ?_
      refine eg_getR (pc := 34) d139_34 lf_8_120 (by assumption) (by decide) (by assumption) ?_
      refine ef_iload_n (pc := 37) d139_37 rfl ?_
      refine ef_bipush (pc := 38) d139_38 (by decide) ?_
      refine ef_iadd (pc := 40) d139_40 (z := ((b + 21 : Nat) : Int)) (by omega) ⟨by omega, by omega⟩ ?_
      refine ef_iload_n (pc := 41) d139_41 rfl ?_
      refine ef_iadd (pc := 42) d139_42 (z := ((b + 21 + i : Nat) : Int)) (by omega) ⟨by omega, by omega⟩ ?_
      refine eg_iald (pc := 43) d139_43 (i := b + 21 + i) (by assumption) (rfl) (by omega) ?_
      rw [u2_ne (by omega), h37]
      refine eg_iast (pc := 44) d139_44 (i := i) (by assumption) (rfl) (by omega) rfl ?_
      refine ef_aload_n (pc := 45) d139_45 rfl ?_
      refine eg_getR (pc := 46) d139_46 lf_8_50 (by assumption) (by decide) (by assumption) ?_
      refine ef_iload_n (pc := 49) d139_49 rfl ?_
      refine ef_aload_n (pc := 50) d139_50 rfl ?_
      refine eg_getR (pc := 51) d139_51 lf_8_120 (by assumption) (by decide) (by assumption) ?_
      refine ef_iload_n (pc := 54) d139_54 rfl ?_
      refine ef_bipush (pc := 55) d139_55 (by decide) ?_
      refine ef_iadd (pc := 57) d139_57 (z := ((b + 42 : Nat) : Int)) (by omega) ⟨by omega, by omega⟩ ?_
      refine ef_iload_n (pc := 58) d139_58 rfl ?_
      refine ef_iadd (pc := 59) d139_59 (z := ((b + 42 + i : Nat) : Int)) (by omega) ⟨by omega, by omega⟩ ?_
      refine eg_iald (pc := 60) d139_60 (i := b + 42 + i) (by assumption) (rfl) (by omega) ?_
      rw [u2_ne (by omega), u2_ne (by omega), h37]
      refine eg_iast (pc := 61) d139_61 (i := i) (by assumption) (rfl) (by omega) rfl ?_
      refine ef_iinc (pc := 62) d139_62 (ls' := [_, _, _, _]) (z := ((i + 1 : Nat) : Int)) rfl (by decide) (by omega) ⟨by omega, by omega⟩ rfl ?_
      refine ef_goto (pc := 65) d139_65 (t := 8) rfl ?_
      refine ih (by omega) _  (fun x hx => ?_) (fun a ha => by simp (disch := omega) only [u2_ne]; exact ro a ha)
      by_cases hxi : x = i
      · subst hxi; simp (disch := omega) only [u2_ne, u2_at]; exact ⟨trivial, trivial, trivial⟩
      · simp (disch := omega) only [u2_ne, u2_ni]; exact rc x (by omega)
  change Ef P _ 139 0 [some (vR m), some (vI (k : Int)), none, none] [] _ _
  refine ef_sipush (pc := 0) d139_0 (by decide) ?_
  refine ef_iload_n (pc := 3) d139_3 rfl ?_
  refine ef_imul (pc := 4) d139_4 (z := (b : Int)) (by omega) ⟨by omega, by omega⟩ ?_
  refine ef_istore_n (pc := 5) d139_5 (ls' := [_, _, _, _]) rfl ?_
  refine ef_iconst (pc := 6) d139_6 (by decide) ?_
  refine ef_istore_n (pc := 7) d139_7 (ls' := [_, _, _, _]) rfl ?_
  exact l0 0 (by omega) g (fun x hx => absurd hx (by omega)) (fun a ha => rfl)
/-- a loaded block is the saved state -/
theorem SvR.rel {g g' : Nat → Nat → Int} {m b : Nat} {st : Nat → Int} {A : SS} (h : Rel g m A) (h1 : SvR g m st b) (h2 : SvR g' m st b) : Rel g' m A := by
  obtain ⟨a1, a2, a3, a4⟩ := h1
  obtain ⟨b1, b2, b3, b4⟩ := h2
  have e : ∀ q, q < 21 → g' (m + 12) q = g (m + 12) q ∧ g' (m + 13) q = g (m + 13) q ∧ g' (m + 14) q = g (m + 14) q := fun q hq => by
    obtain ⟨x1, x2, x3⟩ := a1 q hq
    obtain ⟨y1, y2, y3⟩ := b1 q hq
    exact ⟨y1.symm.trans x1, y2.symm.trans x2, y3.symm.trans x3⟩
  have eg : ∀ q, q < 40 → g' (m + 15) q = g (m + 15) q ∧ g' (m + 16) q = g (m + 16) q ∧ g' (m + 17) q = g (m + 17) q ∧ g' (m + 18) q = g (m + 18) q := fun q hq => by
    obtain ⟨x1, x2, x3, x4⟩ := a2 q hq
    obtain ⟨y1, y2, y3, y4⟩ := b2 q hq
    exact ⟨y1.symm.trans x1, y2.symm.trans x2, y3.symm.trans x3, y4.symm.trans x4⟩
  have em : ∀ q, q < 30 → g' (m + 19) q = g (m + 19) q ∧ g' (m + 20) q = g (m + 20) q ∧ g' (m + 21) q = g (m + 21) q := fun q hq => by
    obtain ⟨x1, x2, x3⟩ := a3 q hq
    obtain ⟨y1, y2, y3⟩ := b3 q hq
    exact ⟨y1.symm.trans x1, y2.symm.trans x2, y3.symm.trans x3⟩
  have hkp : KpP m g g' := fun q _ hq2 _ => (e q hq2).1
  obtain ⟨⟨p1, p2, p3⟩, ⟨g1, g2, g3⟩, ⟨m1, m2, m3⟩, n1⟩ := h
  refine ⟨⟨?_, ?_, ?_⟩, ⟨?_, ?_, ?_⟩, ⟨?_, ?_, ?_⟩, (b4.symm.trans a4).trans n1⟩
  · intro q h1 h2 h3
    obtain ⟨e1, e2, e3⟩ := e q h2
    rw [e1] at h3
    obtain ⟨x, hx, x1, x2, x3⟩ := p1 q h1 h2 h3
    exact ⟨x, hx, by rw [e1]; exact x1, by rw [e2]; exact x2, by rw [e3]; exact x3.kp hkp⟩
  · intro x hx
    obtain ⟨q, h1, h2, h3⟩ := p2 x hx
    exact ⟨q, h1, h2, by rw [(e q h2).1]; exact h3⟩
  · intro q q' h1 h2 h3 h4 h5 h6
    rw [(e q h2).1] at h5 h6
    rw [(e q' h4).1] at h6
    exact p3 q q' h1 h2 h3 h4 h5 h6
  · intro q h2 h3
    obtain ⟨e1, e2, e3, e4⟩ := eg q h2
    rw [e1] at h3
    obtain ⟨x, hx, x1, x2, x3, x4⟩ := g1 q h2 h3
    exact ⟨x, hx, by rw [e1]; exact x1, by rw [e2]; exact x2, by rw [e3]; exact x3.kp hkp, by rw [e4]; exact x4⟩
  · intro x hx
    obtain ⟨q, h2, h3⟩ := g2 x hx
    exact ⟨q, h2, by rw [(eg q h2).1]; exact h3⟩
  · intro q q' h2 h4 h5 h6
    rw [(eg q h2).1] at h5 h6
    rw [(eg q' h4).1] at h6
    exact g3 q q' h2 h4 h5 h6
  · intro q h2 h3
    obtain ⟨e1, e2, e3⟩ := em q h2
    rw [e1] at h3
    obtain ⟨x, hx, x1, x2, x3⟩ := m1 q h2 h3
    exact ⟨x, hx, by rw [e1]; exact x1, by rw [e2]; exact x2, by rw [e3]; exact x3.kp hkp⟩
  · intro x hx
    obtain ⟨q, h2, h3⟩ := m2 x hx
    exact ⟨q, h2, by rw [(em q h2).1]; exact h3⟩
  · intro q q' h2 h4 h5 h6
    rw [(em q h2).1] at h5 h6
    rw [(em q' h4).1] at h6
    exact m3 q q' h2 h4 h5 h6
