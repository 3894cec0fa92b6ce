/-! The reference's constructor. -/
theorem x_bastW2 {g : GG} {r : MR} {cn ck : Nat} {lay : Lay} {M M0 : Mem} {pc : Nat} {L : List (Nat × AV)} {st : List AV} {K : KK} {W : Nat → Int} {a i n : Nat} {x : Int} {rf : Nat → Option Nat} (hd : decode r.2.1 pc = .ok (.bastore, 1)) (hk : lay.1 a = some (3, n, rf)) (hw : g.2.1 ≤ a) (hi : i < n) (hx : -128 ≤ x ∧ x ≤ 127) (h : ∀ j, j < i → M a j = W j) (hW : W i = x) (hf : ∀ y j, y ≠ a → M y j = M0 y j) (k : ∀ M2 : Mem, (∀ y j, y ≠ a → M2 y j = M0 y j) → (∀ j, j < i + 1 → M2 a j = W j) → X g r cn ck lay M2 (pc + 1) L st K) : X g r cn ck lay M pc L (vI x :: vI i :: vR a :: st) K :=
  x_bastW hd hk hw hi hx h hW (fun M2 e1 e2 => k M2 (fun y j hy => (e1 y j hy).trans (hf y j hy)) e2)

set_option maxRecDepth 100000 in
theorem sp_X5_init {g : GG} {lay : Lay} {M : Mem} {K : KK} {a : Nat} (hk : lay.1 a = some (0, 5, fun _ => none)) (hw : g.2.1 ≤ a) (hlt : a + 1 = lay.2) (k : ∀ lay2 M2, lay2.2 = lay.2 + 12 → Bel a lay lay2 M M2 → MoL lay2 a → RowT tNew (M2 (a + 1)) → Wd M2 a → (∀ i, M2 a i = if i = 18 then -1 else M a i) → (∀ x i, a + 2 ≤ x → x ≤ a + 12 → x ≠ a + 10 → M2 x i = 0) → K (.inl none) lay2 M2) : X g m_X5_init 0 0 lay M 0 [(0, vR a)] [] K := by
  refine x_aload_n (pc := 0) dX5_init_0 rfl rfl ?_
  refine x_super (pc := 1) kiO5 dX5_init_1 (by decide) ⟨by decide, by decide⟩ ?_
  refine x_aload_n (pc := 4) dX5_init_4 rfl rfl ?_
  refine x_sipush (pc := 5) dX5_init_5 (by decide) ?_
  refine x_arrf (pc := 8) (n := 280) ffX5_7 rfl rfl (by decide) na0 dX5_init_8 dX5_init_10 hk hw (by omega) (by decide) ⟨by decide, by decide⟩ rfl (fun l1 M1 z1 e1 n1 a1 m1 w1 => ?_)
  refine x_aload_n (pc := 13) dX5_init_13 rfl rfl ?_
  refine x_sipush (pc := 14) dX5_init_14 (by decide) ?_
  refine x_arrf (pc := 17) (n := 280) ffX5_13 rfl rfl (by decide) na0 dX5_init_17 dX5_init_19 a1 hw (by omega) (by decide) ⟨by decide, by decide⟩ rfl (fun l2 M2 z2 e2 n2 a2 m2 w2 => ?_)
  refine x_aload_n (pc := 22) dX5_init_22 rfl rfl ?_
  refine x_sipush (pc := 23) dX5_init_23 (by decide) ?_
  refine x_arrf (pc := 26) (n := 3360) ffX5_16 rfl rfl (by decide) na0 dX5_init_26 dX5_init_28 a2 hw (by omega) (by decide) ⟨by decide, by decide⟩ rfl (fun l3 M3 z3 e3 n3 a3 m3 w3 => ?_)
  refine x_aload_n (pc := 31) dX5_init_31 rfl rfl ?_
  refine x_sipush (pc := 32) dX5_init_32 (by decide) ?_
  refine x_arrf (pc := 35) (n := 560) ffX5_19 rfl rfl (by decide) na0 dX5_init_35 dX5_init_37 a3 hw (by omega) (by decide) ⟨by decide, by decide⟩ rfl (fun l4 M4 z4 e4 n4 a4 m4 w4 => ?_)
  refine x_aload_n (pc := 40) dX5_init_40 rfl rfl ?_
  refine x_iconst (pc := 41) dX5_init_41 ?_
  refine x_arrf (pc := 42) (n := 2) ffX5_22 rfl rfl (by decide) na3 dX5_init_42 dX5_init_44 a4 hw (by omega) (by decide) ⟨by decide, by decide⟩ rfl (fun l5 M5 z5 e5 n5 a5 m5 w5 => ?_)
  refine x_aload_n (pc := 47) dX5_init_47 rfl rfl ?_
  refine x_bipush (pc := 48) dX5_init_48 (by decide) ?_
  refine x_arrf (pc := 50) (n := 9) ffX5_26 rfl rfl (by decide) na0 dX5_init_50 dX5_init_52 a5 hw (by omega) (by decide) ⟨by decide, by decide⟩ rfl (fun l6 M6 z6 e6 n6 a6 m6 w6 => ?_)
  refine x_aload_n (pc := 55) dX5_init_55 rfl rfl ?_
  refine x_sipush (pc := 56) dX5_init_56 (by decide) ?_
  refine x_arrf (pc := 59) (n := 3008) ffX5_29 rfl rfl (by decide) na0 dX5_init_59 dX5_init_61 a6 hw (by omega) (by decide) ⟨by decide, by decide⟩ rfl (fun l7 M7 z7 e7 n7 a7 m7 w7 => ?_)
  refine x_aload_n (pc := 64) dX5_init_64 rfl rfl ?_
  refine x_bipush (pc := 65) dX5_init_65 (by decide) ?_
  refine x_arrf (pc := 67) (n := 9) ffX5_32 rfl rfl (by decide) na0 dX5_init_67 dX5_init_69 a7 hw (by omega) (by decide) ⟨by decide, by decide⟩ rfl (fun l8 M8 z8 e8 n8 a8 m8 w8 => ?_)
  refine x_aload_n (pc := 72) dX5_init_72 rfl rfl ?_
  refine x_sipush (pc := 73) dX5_init_73 (by decide) ?_
  refine x_arrf (pc := 76) (n := 600) ffX5_35 rfl rfl (by decide) na2 dX5_init_76 dX5_init_78 a8 hw (by omega) (by decide) ⟨by decide, by decide⟩ rfl (fun l9 M9 z9 e9 n9 a9 m9 w9 => ?_)
  refine x_aload_n (pc := 81) dX5_init_81 rfl rfl ?_
  refine x_iconst (pc := 82) dX5_init_82 ?_
  refine x_puti (pc := 83) fnX5_39 dX5_init_83 a9 hw rfl ⟨by omega, by omega⟩ ?_
  refine x_aload_n (pc := 86) dX5_init_86 rfl rfl ?_
  refine x_bipush (pc := 87) dX5_init_87 (by decide) ?_
  refine x_newaG (pc := 89) (n := 69) rfl (by decide) na2 dX5_init_89 (by decide) ⟨by decide, by decide⟩ (fun l10 M10 z10 e10 n10 m10 w10 => ?_)
  have hw10 : g.2.1 ≤ l9.2 := by omega
  refine x_dup (pc := 91) dX5_init_91 rfl ?_
  refine x_iconst (pc := 92) dX5_init_92 ?_
  refine x_bipush (pc := 93) dX5_init_93 (by decide) ?_
  refine x_bastW2 (M0 := M10) (W := wdB) (pc := 95) (i := 0) dX5_init_95 n10 hw10 (by decide) ⟨by decide, by decide⟩ (fun j hj => absurd hj (by omega)) (by decide) (fun y j _ => rfl) (fun B0 f0 h0 => ?_)
  refine x_dup (pc := 96) dX5_init_96 rfl ?_
  refine x_iconst (pc := 97) dX5_init_97 ?_
  refine x_bipush (pc := 98) dX5_init_98 (by decide) ?_
  refine x_bastW2 (M0 := M10) (W := wdB) (pc := 100) (i := 1) dX5_init_100 n10 hw10 (by decide) ⟨by decide, by decide⟩ h0 (by decide) f0 (fun B1 f1 h1 => ?_)
  clear f0 h0
  refine x_dup (pc := 101) dX5_init_101 rfl ?_
  refine x_iconst (pc := 102) dX5_init_102 ?_
  refine x_bipush (pc := 103) dX5_init_103 (by decide) ?_
  refine x_bastW2 (M0 := M10) (W := wdB) (pc := 105) (i := 2) dX5_init_105 n10 hw10 (by decide) ⟨by decide, by decide⟩ h1 (by decide) f1 (fun B2 f2 h2 => ?_)
  clear f1 h1
  refine x_dup (pc := 106) dX5_init_106 rfl ?_
  refine x_iconst (pc := 107) dX5_init_107 ?_
  refine x_bipush (pc := 108) dX5_init_108 (by decide) ?_
  refine x_bastW2 (M0 := M10) (W := wdB) (pc := 110) (i := 3) dX5_init_110 n10 hw10 (by decide) ⟨by decide, by decide⟩ h2 (by decide) f2 (fun B3 f3 h3 => ?_)
  clear f2 h2
  refine x_dup (pc := 111) dX5_init_111 rfl ?_
  refine x_iconst (pc := 112) dX5_init_112 ?_
  refine x_bipush (pc := 113) dX5_init_113 (by decide) ?_
  refine x_bastW2 (M0 := M10) (W := wdB) (pc := 115) (i := 4) dX5_init_115 n10 hw10 (by decide) ⟨by decide, by decide⟩ h3 (by decide) f3 (fun B4 f4 h4 => ?_)
  clear f3 h3
  refine x_dup (pc := 116) dX5_init_116 rfl ?_
  refine x_iconst (pc := 117) dX5_init_117 ?_
  refine x_bipush (pc := 118) dX5_init_118 (by decide) ?_
  refine x_bastW2 (M0 := M10) (W := wdB) (pc := 120) (i := 5) dX5_init_120 n10 hw10 (by decide) ⟨by decide, by decide⟩ h4 (by decide) f4 (fun B5 f5 h5 => ?_)
  clear f4 h4
  refine x_dup (pc := 121) dX5_init_121 rfl ?_
  refine x_bipush (pc := 122) dX5_init_122 (by decide) ?_
  refine x_bipush (pc := 124) dX5_init_124 (by decide) ?_
  refine x_bastW2 (M0 := M10) (W := wdB) (pc := 126) (i := 6) dX5_init_126 n10 hw10 (by decide) ⟨by decide, by decide⟩ h5 (by decide) f5 (fun B6 f6 h6 => ?_)
  clear f5 h5
  refine x_dup (pc := 127) dX5_init_127 rfl ?_
  refine x_bipush (pc := 128) dX5_init_128 (by decide) ?_
  refine x_bipush (pc := 130) dX5_init_130 (by decide) ?_
  refine x_bastW2 (M0 := M10) (W := wdB) (pc := 132) (i := 7) dX5_init_132 n10 hw10 (by decide) ⟨by decide, by decide⟩ h6 (by decide) f6 (fun B7 f7 h7 => ?_)
  clear f6 h6
  refine x_dup (pc := 133) dX5_init_133 rfl ?_
  refine x_bipush (pc := 134) dX5_init_134 (by decide) ?_
  refine x_bipush (pc := 136) dX5_init_136 (by decide) ?_
  refine x_bastW2 (M0 := M10) (W := wdB) (pc := 138) (i := 8) dX5_init_138 n10 hw10 (by decide) ⟨by decide, by decide⟩ h7 (by decide) f7 (fun B8 f8 h8 => ?_)
  clear f7 h7
  refine x_dup (pc := 139) dX5_init_139 rfl ?_
  refine x_bipush (pc := 140) dX5_init_140 (by decide) ?_
  refine x_bipush (pc := 142) dX5_init_142 (by decide) ?_
  refine x_bastW2 (M0 := M10) (W := wdB) (pc := 144) (i := 9) dX5_init_144 n10 hw10 (by decide) ⟨by decide, by decide⟩ h8 (by decide) f8 (fun B9 f9 h9 => ?_)
  clear f8 h8
  refine x_dup (pc := 145) dX5_init_145 rfl ?_
  refine x_bipush (pc := 146) dX5_init_146 (by decide) ?_
  refine x_bipush (pc := 148) dX5_init_148 (by decide) ?_
  refine x_bastW2 (M0 := M10) (W := wdB) (pc := 150) (i := 10) dX5_init_150 n10 hw10 (by decide) ⟨by decide, by decide⟩ h9 (by decide) f9 (fun B10 f10 h10 => ?_)
  clear f9 h9
  refine x_dup (pc := 151) dX5_init_151 rfl ?_
  refine x_bipush (pc := 152) dX5_init_152 (by decide) ?_
  refine x_bipush (pc := 154) dX5_init_154 (by decide) ?_
  refine x_bastW2 (M0 := M10) (W := wdB) (pc := 156) (i := 11) dX5_init_156 n10 hw10 (by decide) ⟨by decide, by decide⟩ h10 (by decide) f10 (fun B11 f11 h11 => ?_)
  clear f10 h10
  refine x_dup (pc := 157) dX5_init_157 rfl ?_
  refine x_bipush (pc := 158) dX5_init_158 (by decide) ?_
  refine x_bipush (pc := 160) dX5_init_160 (by decide) ?_
  refine x_bastW2 (M0 := M10) (W := wdB) (pc := 162) (i := 12) dX5_init_162 n10 hw10 (by decide) ⟨by decide, by decide⟩ h11 (by decide) f11 (fun B12 f12 h12 => ?_)
  clear f11 h11
  refine x_dup (pc := 163) dX5_init_163 rfl ?_
  refine x_bipush (pc := 164) dX5_init_164 (by decide) ?_
  refine x_bipush (pc := 166) dX5_init_166 (by decide) ?_
  refine x_bastW2 (M0 := M10) (W := wdB) (pc := 168) (i := 13) dX5_init_168 n10 hw10 (by decide) ⟨by decide, by decide⟩ h12 (by decide) f12 (fun B13 f13 h13 => ?_)
  clear f12 h12
  refine x_dup (pc := 169) dX5_init_169 rfl ?_
  refine x_bipush (pc := 170) dX5_init_170 (by decide) ?_
  refine x_bipush (pc := 172) dX5_init_172 (by decide) ?_
  refine x_bastW2 (M0 := M10) (W := wdB) (pc := 174) (i := 14) dX5_init_174 n10 hw10 (by decide) ⟨by decide, by decide⟩ h13 (by decide) f13 (fun B14 f14 h14 => ?_)
  clear f13 h13
  refine x_dup (pc := 175) dX5_init_175 rfl ?_
  refine x_bipush (pc := 176) dX5_init_176 (by decide) ?_
  refine x_bipush (pc := 178) dX5_init_178 (by decide) ?_
  refine x_bastW2 (M0 := M10) (W := wdB) (pc := 180) (i := 15) dX5_init_180 n10 hw10 (by decide) ⟨by decide, by decide⟩ h14 (by decide) f14 (fun B15 f15 h15 => ?_)
  clear f14 h14
  refine x_dup (pc := 181) dX5_init_181 rfl ?_
  refine x_bipush (pc := 182) dX5_init_182 (by decide) ?_
  refine x_bipush (pc := 184) dX5_init_184 (by decide) ?_
  refine x_bastW2 (M0 := M10) (W := wdB) (pc := 186) (i := 16) dX5_init_186 n10 hw10 (by decide) ⟨by decide, by decide⟩ h15 (by decide) f15 (fun B16 f16 h16 => ?_)
  clear f15 h15
  refine x_dup (pc := 187) dX5_init_187 rfl ?_
  refine x_bipush (pc := 188) dX5_init_188 (by decide) ?_
  refine x_bipush (pc := 190) dX5_init_190 (by decide) ?_
  refine x_bastW2 (M0 := M10) (W := wdB) (pc := 192) (i := 17) dX5_init_192 n10 hw10 (by decide) ⟨by decide, by decide⟩ h16 (by decide) f16 (fun B17 f17 h17 => ?_)
  clear f16 h16
  refine x_dup (pc := 193) dX5_init_193 rfl ?_
  refine x_bipush (pc := 194) dX5_init_194 (by decide) ?_
  refine x_bipush (pc := 196) dX5_init_196 (by decide) ?_
  refine x_bastW2 (M0 := M10) (W := wdB) (pc := 198) (i := 18) dX5_init_198 n10 hw10 (by decide) ⟨by decide, by decide⟩ h17 (by decide) f17 (fun B18 f18 h18 => ?_)
  clear f17 h17
  refine x_dup (pc := 199) dX5_init_199 rfl ?_
  refine x_bipush (pc := 200) dX5_init_200 (by decide) ?_
  refine x_bipush (pc := 202) dX5_init_202 (by decide) ?_
  refine x_bastW2 (M0 := M10) (W := wdB) (pc := 204) (i := 19) dX5_init_204 n10 hw10 (by decide) ⟨by decide, by decide⟩ h18 (by decide) f18 (fun B19 f19 h19 => ?_)
  clear f18 h18
  refine x_dup (pc := 205) dX5_init_205 rfl ?_
  refine x_bipush (pc := 206) dX5_init_206 (by decide) ?_
  refine x_bipush (pc := 208) dX5_init_208 (by decide) ?_
  refine x_bastW2 (M0 := M10) (W := wdB) (pc := 210) (i := 20) dX5_init_210 n10 hw10 (by decide) ⟨by decide, by decide⟩ h19 (by decide) f19 (fun B20 f20 h20 => ?_)
  clear f19 h19
  refine x_dup (pc := 211) dX5_init_211 rfl ?_
  refine x_bipush (pc := 212) dX5_init_212 (by decide) ?_
  refine x_bipush (pc := 214) dX5_init_214 (by decide) ?_
  refine x_bastW2 (M0 := M10) (W := wdB) (pc := 216) (i := 21) dX5_init_216 n10 hw10 (by decide) ⟨by decide, by decide⟩ h20 (by decide) f20 (fun B21 f21 h21 => ?_)
  clear f20 h20
  refine x_dup (pc := 217) dX5_init_217 rfl ?_
  refine x_bipush (pc := 218) dX5_init_218 (by decide) ?_
  refine x_bipush (pc := 220) dX5_init_220 (by decide) ?_
  refine x_bastW2 (M0 := M10) (W := wdB) (pc := 222) (i := 22) dX5_init_222 n10 hw10 (by decide) ⟨by decide, by decide⟩ h21 (by decide) f21 (fun B22 f22 h22 => ?_)
  clear f21 h21
  refine x_dup (pc := 223) dX5_init_223 rfl ?_
  refine x_bipush (pc := 224) dX5_init_224 (by decide) ?_
  refine x_bipush (pc := 226) dX5_init_226 (by decide) ?_
  refine x_bastW2 (M0 := M10) (W := wdB) (pc := 228) (i := 23) dX5_init_228 n10 hw10 (by decide) ⟨by decide, by decide⟩ h22 (by decide) f22 (fun B23 f23 h23 => ?_)
  clear f22 h22
  refine x_dup (pc := 229) dX5_init_229 rfl ?_
  refine x_bipush (pc := 230) dX5_init_230 (by decide) ?_
  refine x_bipush (pc := 232) dX5_init_232 (by decide) ?_
  refine x_bastW2 (M0 := M10) (W := wdB) (pc := 234) (i := 24) dX5_init_234 n10 hw10 (by decide) ⟨by decide, by decide⟩ h23 (by decide) f23 (fun B24 f24 h24 => ?_)
  clear f23 h23
  refine x_dup (pc := 235) dX5_init_235 rfl ?_
  refine x_bipush (pc := 236) dX5_init_236 (by decide) ?_
  refine x_bipush (pc := 238) dX5_init_238 (by decide) ?_
  refine x_bastW2 (M0 := M10) (W := wdB) (pc := 240) (i := 25) dX5_init_240 n10 hw10 (by decide) ⟨by decide, by decide⟩ h24 (by decide) f24 (fun B25 f25 h25 => ?_)
  clear f24 h24
  refine x_dup (pc := 241) dX5_init_241 rfl ?_
  refine x_bipush (pc := 242) dX5_init_242 (by decide) ?_
  refine x_bipush (pc := 244) dX5_init_244 (by decide) ?_
  refine x_bastW2 (M0 := M10) (W := wdB) (pc := 246) (i := 26) dX5_init_246 n10 hw10 (by decide) ⟨by decide, by decide⟩ h25 (by decide) f25 (fun B26 f26 h26 => ?_)
  clear f25 h25
  refine x_dup (pc := 247) dX5_init_247 rfl ?_
  refine x_bipush (pc := 248) dX5_init_248 (by decide) ?_
  refine x_bipush (pc := 250) dX5_init_250 (by decide) ?_
  refine x_bastW2 (M0 := M10) (W := wdB) (pc := 252) (i := 27) dX5_init_252 n10 hw10 (by decide) ⟨by decide, by decide⟩ h26 (by decide) f26 (fun B27 f27 h27 => ?_)
  clear f26 h26
  refine x_dup (pc := 253) dX5_init_253 rfl ?_
  refine x_bipush (pc := 254) dX5_init_254 (by decide) ?_
  refine x_bipush (pc := 256) dX5_init_256 (by decide) ?_
  refine x_bastW2 (M0 := M10) (W := wdB) (pc := 258) (i := 28) dX5_init_258 n10 hw10 (by decide) ⟨by decide, by decide⟩ h27 (by decide) f27 (fun B28 f28 h28 => ?_)
  clear f27 h27
  refine x_dup (pc := 259) dX5_init_259 rfl ?_
  refine x_bipush (pc := 260) dX5_init_260 (by decide) ?_
  refine x_bipush (pc := 262) dX5_init_262 (by decide) ?_
  refine x_bastW2 (M0 := M10) (W := wdB) (pc := 264) (i := 29) dX5_init_264 n10 hw10 (by decide) ⟨by decide, by decide⟩ h28 (by decide) f28 (fun B29 f29 h29 => ?_)
  clear f28 h28
  refine x_dup (pc := 265) dX5_init_265 rfl ?_
  refine x_bipush (pc := 266) dX5_init_266 (by decide) ?_
  refine x_bipush (pc := 268) dX5_init_268 (by decide) ?_
  refine x_bastW2 (M0 := M10) (W := wdB) (pc := 270) (i := 30) dX5_init_270 n10 hw10 (by decide) ⟨by decide, by decide⟩ h29 (by decide) f29 (fun B30 f30 h30 => ?_)
  clear f29 h29
  refine x_dup (pc := 271) dX5_init_271 rfl ?_
  refine x_bipush (pc := 272) dX5_init_272 (by decide) ?_
  refine x_bipush (pc := 274) dX5_init_274 (by decide) ?_
  refine x_bastW2 (M0 := M10) (W := wdB) (pc := 276) (i := 31) dX5_init_276 n10 hw10 (by decide) ⟨by decide, by decide⟩ h30 (by decide) f30 (fun B31 f31 h31 => ?_)
  clear f30 h30
  refine x_dup (pc := 277) dX5_init_277 rfl ?_
  refine x_bipush (pc := 278) dX5_init_278 (by decide) ?_
  refine x_bipush (pc := 280) dX5_init_280 (by decide) ?_
  refine x_bastW2 (M0 := M10) (W := wdB) (pc := 282) (i := 32) dX5_init_282 n10 hw10 (by decide) ⟨by decide, by decide⟩ h31 (by decide) f31 (fun B32 f32 h32 => ?_)
  clear f31 h31
  refine x_dup (pc := 283) dX5_init_283 rfl ?_
  refine x_bipush (pc := 284) dX5_init_284 (by decide) ?_
  refine x_bipush (pc := 286) dX5_init_286 (by decide) ?_
  refine x_bastW2 (M0 := M10) (W := wdB) (pc := 288) (i := 33) dX5_init_288 n10 hw10 (by decide) ⟨by decide, by decide⟩ h32 (by decide) f32 (fun B33 f33 h33 => ?_)
  clear f32 h32
  refine x_dup (pc := 289) dX5_init_289 rfl ?_
  refine x_bipush (pc := 290) dX5_init_290 (by decide) ?_
  refine x_bipush (pc := 292) dX5_init_292 (by decide) ?_
  refine x_bastW2 (M0 := M10) (W := wdB) (pc := 294) (i := 34) dX5_init_294 n10 hw10 (by decide) ⟨by decide, by decide⟩ h33 (by decide) f33 (fun B34 f34 h34 => ?_)
  clear f33 h33
  refine x_dup (pc := 295) dX5_init_295 rfl ?_
  refine x_bipush (pc := 296) dX5_init_296 (by decide) ?_
  refine x_bipush (pc := 298) dX5_init_298 (by decide) ?_
  refine x_bastW2 (M0 := M10) (W := wdB) (pc := 300) (i := 35) dX5_init_300 n10 hw10 (by decide) ⟨by decide, by decide⟩ h34 (by decide) f34 (fun B35 f35 h35 => ?_)
  clear f34 h34
  refine x_dup (pc := 301) dX5_init_301 rfl ?_
  refine x_bipush (pc := 302) dX5_init_302 (by decide) ?_
  refine x_bipush (pc := 304) dX5_init_304 (by decide) ?_
  refine x_bastW2 (M0 := M10) (W := wdB) (pc := 306) (i := 36) dX5_init_306 n10 hw10 (by decide) ⟨by decide, by decide⟩ h35 (by decide) f35 (fun B36 f36 h36 => ?_)
  clear f35 h35
  refine x_dup (pc := 307) dX5_init_307 rfl ?_
  refine x_bipush (pc := 308) dX5_init_308 (by decide) ?_
  refine x_bipush (pc := 310) dX5_init_310 (by decide) ?_
  refine x_bastW2 (M0 := M10) (W := wdB) (pc := 312) (i := 37) dX5_init_312 n10 hw10 (by decide) ⟨by decide, by decide⟩ h36 (by decide) f36 (fun B37 f37 h37 => ?_)
  clear f36 h36
  refine x_dup (pc := 313) dX5_init_313 rfl ?_
  refine x_bipush (pc := 314) dX5_init_314 (by decide) ?_
  refine x_bipush (pc := 316) dX5_init_316 (by decide) ?_
  refine x_bastW2 (M0 := M10) (W := wdB) (pc := 318) (i := 38) dX5_init_318 n10 hw10 (by decide) ⟨by decide, by decide⟩ h37 (by decide) f37 (fun B38 f38 h38 => ?_)
  clear f37 h37
  refine x_dup (pc := 319) dX5_init_319 rfl ?_
  refine x_bipush (pc := 320) dX5_init_320 (by decide) ?_
  refine x_bipush (pc := 322) dX5_init_322 (by decide) ?_
  refine x_bastW2 (M0 := M10) (W := wdB) (pc := 324) (i := 39) dX5_init_324 n10 hw10 (by decide) ⟨by decide, by decide⟩ h38 (by decide) f38 (fun B39 f39 h39 => ?_)
  clear f38 h38
  refine x_dup (pc := 325) dX5_init_325 rfl ?_
  refine x_bipush (pc := 326) dX5_init_326 (by decide) ?_
  refine x_bipush (pc := 328) dX5_init_328 (by decide) ?_
  refine x_bastW2 (M0 := M10) (W := wdB) (pc := 330) (i := 40) dX5_init_330 n10 hw10 (by decide) ⟨by decide, by decide⟩ h39 (by decide) f39 (fun B40 f40 h40 => ?_)
  clear f39 h39
  refine x_dup (pc := 331) dX5_init_331 rfl ?_
  refine x_bipush (pc := 332) dX5_init_332 (by decide) ?_
  refine x_bipush (pc := 334) dX5_init_334 (by decide) ?_
  refine x_bastW2 (M0 := M10) (W := wdB) (pc := 336) (i := 41) dX5_init_336 n10 hw10 (by decide) ⟨by decide, by decide⟩ h40 (by decide) f40 (fun B41 f41 h41 => ?_)
  clear f40 h40
  refine x_dup (pc := 337) dX5_init_337 rfl ?_
  refine x_bipush (pc := 338) dX5_init_338 (by decide) ?_
  refine x_bipush (pc := 340) dX5_init_340 (by decide) ?_
  refine x_bastW2 (M0 := M10) (W := wdB) (pc := 342) (i := 42) dX5_init_342 n10 hw10 (by decide) ⟨by decide, by decide⟩ h41 (by decide) f41 (fun B42 f42 h42 => ?_)
  clear f41 h41
  refine x_dup (pc := 343) dX5_init_343 rfl ?_
  refine x_bipush (pc := 344) dX5_init_344 (by decide) ?_
  refine x_bipush (pc := 346) dX5_init_346 (by decide) ?_
  refine x_bastW2 (M0 := M10) (W := wdB) (pc := 348) (i := 43) dX5_init_348 n10 hw10 (by decide) ⟨by decide, by decide⟩ h42 (by decide) f42 (fun B43 f43 h43 => ?_)
  clear f42 h42
  refine x_dup (pc := 349) dX5_init_349 rfl ?_
  refine x_bipush (pc := 350) dX5_init_350 (by decide) ?_
  refine x_bipush (pc := 352) dX5_init_352 (by decide) ?_
  refine x_bastW2 (M0 := M10) (W := wdB) (pc := 354) (i := 44) dX5_init_354 n10 hw10 (by decide) ⟨by decide, by decide⟩ h43 (by decide) f43 (fun B44 f44 h44 => ?_)
  clear f43 h43
  refine x_dup (pc := 355) dX5_init_355 rfl ?_
  refine x_bipush (pc := 356) dX5_init_356 (by decide) ?_
  refine x_bipush (pc := 358) dX5_init_358 (by decide) ?_
  refine x_bastW2 (M0 := M10) (W := wdB) (pc := 360) (i := 45) dX5_init_360 n10 hw10 (by decide) ⟨by decide, by decide⟩ h44 (by decide) f44 (fun B45 f45 h45 => ?_)
  clear f44 h44
  refine x_dup (pc := 361) dX5_init_361 rfl ?_
  refine x_bipush (pc := 362) dX5_init_362 (by decide) ?_
  refine x_bipush (pc := 364) dX5_init_364 (by decide) ?_
  refine x_bastW2 (M0 := M10) (W := wdB) (pc := 366) (i := 46) dX5_init_366 n10 hw10 (by decide) ⟨by decide, by decide⟩ h45 (by decide) f45 (fun B46 f46 h46 => ?_)
  clear f45 h45
  refine x_dup (pc := 367) dX5_init_367 rfl ?_
  refine x_bipush (pc := 368) dX5_init_368 (by decide) ?_
  refine x_bipush (pc := 370) dX5_init_370 (by decide) ?_
  refine x_bastW2 (M0 := M10) (W := wdB) (pc := 372) (i := 47) dX5_init_372 n10 hw10 (by decide) ⟨by decide, by decide⟩ h46 (by decide) f46 (fun B47 f47 h47 => ?_)
  clear f46 h46
  refine x_dup (pc := 373) dX5_init_373 rfl ?_
  refine x_bipush (pc := 374) dX5_init_374 (by decide) ?_
  refine x_bipush (pc := 376) dX5_init_376 (by decide) ?_
  refine x_bastW2 (M0 := M10) (W := wdB) (pc := 378) (i := 48) dX5_init_378 n10 hw10 (by decide) ⟨by decide, by decide⟩ h47 (by decide) f47 (fun B48 f48 h48 => ?_)
  clear f47 h47
  refine x_dup (pc := 379) dX5_init_379 rfl ?_
  refine x_bipush (pc := 380) dX5_init_380 (by decide) ?_
  refine x_bipush (pc := 382) dX5_init_382 (by decide) ?_
  refine x_bastW2 (M0 := M10) (W := wdB) (pc := 384) (i := 49) dX5_init_384 n10 hw10 (by decide) ⟨by decide, by decide⟩ h48 (by decide) f48 (fun B49 f49 h49 => ?_)
  clear f48 h48
  refine x_dup (pc := 385) dX5_init_385 rfl ?_
  refine x_bipush (pc := 386) dX5_init_386 (by decide) ?_
  refine x_bipush (pc := 388) dX5_init_388 (by decide) ?_
  refine x_bastW2 (M0 := M10) (W := wdB) (pc := 390) (i := 50) dX5_init_390 n10 hw10 (by decide) ⟨by decide, by decide⟩ h49 (by decide) f49 (fun B50 f50 h50 => ?_)
  clear f49 h49
  refine x_dup (pc := 391) dX5_init_391 rfl ?_
  refine x_bipush (pc := 392) dX5_init_392 (by decide) ?_
  refine x_bipush (pc := 394) dX5_init_394 (by decide) ?_
  refine x_bastW2 (M0 := M10) (W := wdB) (pc := 396) (i := 51) dX5_init_396 n10 hw10 (by decide) ⟨by decide, by decide⟩ h50 (by decide) f50 (fun B51 f51 h51 => ?_)
  clear f50 h50
  refine x_dup (pc := 397) dX5_init_397 rfl ?_
  refine x_bipush (pc := 398) dX5_init_398 (by decide) ?_
  refine x_bipush (pc := 400) dX5_init_400 (by decide) ?_
  refine x_bastW2 (M0 := M10) (W := wdB) (pc := 402) (i := 52) dX5_init_402 n10 hw10 (by decide) ⟨by decide, by decide⟩ h51 (by decide) f51 (fun B52 f52 h52 => ?_)
  clear f51 h51
  refine x_dup (pc := 403) dX5_init_403 rfl ?_
  refine x_bipush (pc := 404) dX5_init_404 (by decide) ?_
  refine x_bipush (pc := 406) dX5_init_406 (by decide) ?_
  refine x_bastW2 (M0 := M10) (W := wdB) (pc := 408) (i := 53) dX5_init_408 n10 hw10 (by decide) ⟨by decide, by decide⟩ h52 (by decide) f52 (fun B53 f53 h53 => ?_)
  clear f52 h52
  refine x_dup (pc := 409) dX5_init_409 rfl ?_
  refine x_bipush (pc := 410) dX5_init_410 (by decide) ?_
  refine x_bipush (pc := 412) dX5_init_412 (by decide) ?_
  refine x_bastW2 (M0 := M10) (W := wdB) (pc := 414) (i := 54) dX5_init_414 n10 hw10 (by decide) ⟨by decide, by decide⟩ h53 (by decide) f53 (fun B54 f54 h54 => ?_)
  clear f53 h53
  refine x_dup (pc := 415) dX5_init_415 rfl ?_
  refine x_bipush (pc := 416) dX5_init_416 (by decide) ?_
  refine x_bipush (pc := 418) dX5_init_418 (by decide) ?_
  refine x_bastW2 (M0 := M10) (W := wdB) (pc := 420) (i := 55) dX5_init_420 n10 hw10 (by decide) ⟨by decide, by decide⟩ h54 (by decide) f54 (fun B55 f55 h55 => ?_)
  clear f54 h54
  refine x_dup (pc := 421) dX5_init_421 rfl ?_
  refine x_bipush (pc := 422) dX5_init_422 (by decide) ?_
  refine x_bipush (pc := 424) dX5_init_424 (by decide) ?_
  refine x_bastW2 (M0 := M10) (W := wdB) (pc := 426) (i := 56) dX5_init_426 n10 hw10 (by decide) ⟨by decide, by decide⟩ h55 (by decide) f55 (fun B56 f56 h56 => ?_)
  clear f55 h55
  refine x_dup (pc := 427) dX5_init_427 rfl ?_
  refine x_bipush (pc := 428) dX5_init_428 (by decide) ?_
  refine x_bipush (pc := 430) dX5_init_430 (by decide) ?_
  refine x_bastW2 (M0 := M10) (W := wdB) (pc := 432) (i := 57) dX5_init_432 n10 hw10 (by decide) ⟨by decide, by decide⟩ h56 (by decide) f56 (fun B57 f57 h57 => ?_)
  clear f56 h56
  refine x_dup (pc := 433) dX5_init_433 rfl ?_
  refine x_bipush (pc := 434) dX5_init_434 (by decide) ?_
  refine x_bipush (pc := 436) dX5_init_436 (by decide) ?_
  refine x_bastW2 (M0 := M10) (W := wdB) (pc := 438) (i := 58) dX5_init_438 n10 hw10 (by decide) ⟨by decide, by decide⟩ h57 (by decide) f57 (fun B58 f58 h58 => ?_)
  clear f57 h57
  refine x_dup (pc := 439) dX5_init_439 rfl ?_
  refine x_bipush (pc := 440) dX5_init_440 (by decide) ?_
  refine x_bipush (pc := 442) dX5_init_442 (by decide) ?_
  refine x_bastW2 (M0 := M10) (W := wdB) (pc := 444) (i := 59) dX5_init_444 n10 hw10 (by decide) ⟨by decide, by decide⟩ h58 (by decide) f58 (fun B59 f59 h59 => ?_)
  clear f58 h58
  refine x_dup (pc := 445) dX5_init_445 rfl ?_
  refine x_bipush (pc := 446) dX5_init_446 (by decide) ?_
  refine x_bipush (pc := 448) dX5_init_448 (by decide) ?_
  refine x_bastW2 (M0 := M10) (W := wdB) (pc := 450) (i := 60) dX5_init_450 n10 hw10 (by decide) ⟨by decide, by decide⟩ h59 (by decide) f59 (fun B60 f60 h60 => ?_)
  clear f59 h59
  refine x_dup (pc := 451) dX5_init_451 rfl ?_
  refine x_bipush (pc := 452) dX5_init_452 (by decide) ?_
  refine x_bipush (pc := 454) dX5_init_454 (by decide) ?_
  refine x_bastW2 (M0 := M10) (W := wdB) (pc := 456) (i := 61) dX5_init_456 n10 hw10 (by decide) ⟨by decide, by decide⟩ h60 (by decide) f60 (fun B61 f61 h61 => ?_)
  clear f60 h60
  refine x_dup (pc := 457) dX5_init_457 rfl ?_
  refine x_bipush (pc := 458) dX5_init_458 (by decide) ?_
  refine x_bipush (pc := 460) dX5_init_460 (by decide) ?_
  refine x_bastW2 (M0 := M10) (W := wdB) (pc := 462) (i := 62) dX5_init_462 n10 hw10 (by decide) ⟨by decide, by decide⟩ h61 (by decide) f61 (fun B62 f62 h62 => ?_)
  clear f61 h61
  refine x_dup (pc := 463) dX5_init_463 rfl ?_
  refine x_bipush (pc := 464) dX5_init_464 (by decide) ?_
  refine x_bipush (pc := 466) dX5_init_466 (by decide) ?_
  refine x_bastW2 (M0 := M10) (W := wdB) (pc := 468) (i := 63) dX5_init_468 n10 hw10 (by decide) ⟨by decide, by decide⟩ h62 (by decide) f62 (fun B63 f63 h63 => ?_)
  clear f62 h62
  refine x_dup (pc := 469) dX5_init_469 rfl ?_
  refine x_bipush (pc := 470) dX5_init_470 (by decide) ?_
  refine x_bipush (pc := 472) dX5_init_472 (by decide) ?_
  refine x_bastW2 (M0 := M10) (W := wdB) (pc := 474) (i := 64) dX5_init_474 n10 hw10 (by decide) ⟨by decide, by decide⟩ h63 (by decide) f63 (fun B64 f64 h64 => ?_)
  clear f63 h63
  refine x_dup (pc := 475) dX5_init_475 rfl ?_
  refine x_bipush (pc := 476) dX5_init_476 (by decide) ?_
  refine x_bipush (pc := 478) dX5_init_478 (by decide) ?_
  refine x_bastW2 (M0 := M10) (W := wdB) (pc := 480) (i := 65) dX5_init_480 n10 hw10 (by decide) ⟨by decide, by decide⟩ h64 (by decide) f64 (fun B65 f65 h65 => ?_)
  clear f64 h64
  refine x_dup (pc := 481) dX5_init_481 rfl ?_
  refine x_bipush (pc := 482) dX5_init_482 (by decide) ?_
  refine x_bipush (pc := 484) dX5_init_484 (by decide) ?_
  refine x_bastW2 (M0 := M10) (W := wdB) (pc := 486) (i := 66) dX5_init_486 n10 hw10 (by decide) ⟨by decide, by decide⟩ h65 (by decide) f65 (fun B66 f66 h66 => ?_)
  clear f65 h65
  refine x_dup (pc := 487) dX5_init_487 rfl ?_
  refine x_bipush (pc := 488) dX5_init_488 (by decide) ?_
  refine x_bipush (pc := 490) dX5_init_490 (by decide) ?_
  refine x_bastW2 (M0 := M10) (W := wdB) (pc := 492) (i := 67) dX5_init_492 n10 hw10 (by decide) ⟨by decide, by decide⟩ h66 (by decide) f66 (fun B67 f67 h67 => ?_)
  clear f66 h66
  refine x_dup (pc := 493) dX5_init_493 rfl ?_
  refine x_bipush (pc := 494) dX5_init_494 (by decide) ?_
  refine x_bipush (pc := 496) dX5_init_496 (by decide) ?_
  refine x_bastW2 (M0 := M10) (W := wdB) (pc := 498) (i := 68) dX5_init_498 n10 hw10 (by decide) ⟨by decide, by decide⟩ h67 (by decide) f67 (fun B68 f68 h68 => ?_)
  clear f67 h67
  refine x_putrG (pc := 499) ffX5_43 rfl dX5_init_499 ((e10 _ (by omega)).trans a9) hw rfl (fun l11 z11 e11 a11 => ?_)
  refine x_aload_n (pc := 502) dX5_init_502 rfl rfl ?_
  refine x_sipush (pc := 503) dX5_init_503 (by decide) ?_
  refine x_arrf (pc := 506) (n := 246) ffX5_46 rfl rfl (by decide) na0 dX5_init_506 dX5_init_508 a11 hw (by omega) (by decide) ⟨by decide, by decide⟩ rfl (fun l12 M12 z12 e12 n12 a12 m12 w12 => ?_)
  refine x_aload_n (pc := 511) dX5_init_511 rfl rfl ?_
  refine x_sipush (pc := 512) dX5_init_512 (by decide) ?_
  refine x_arrf (pc := 515) (n := 1024) ffX5_49 rfl rfl (by decide) na2 dX5_init_515 dX5_init_517 a12 hw (by omega) (by decide) ⟨by decide, by decide⟩ rfl (fun l13 M13 z13 e13 n13 a13 m13 w13 => ?_)
  refine X.re (k' := (0, 5, fun j => match j with | 1 => some (a + 1) | 2 => some (a + 2) | 3 => some (a + 3) | 5 => some (a + 4) | 6 => some (a + 5) | 7 => some (a + 6) | 8 => some (a + 7) | 10 => some (a + 8) | 11 => some (a + 9) | 19 => some (a + 10) | 21 => some (a + 11) | _ => some (a + 12))) a13 ⟨rfl, rfl, fun _ => ?_, fun z => absurd rfl z⟩ ?_
  · intro j hj
    match j, hj with
    | 0, h => cases h
    | 1, _ => exact congrArg some (by omega)
    | 2, _ => exact congrArg some (by omega)
    | 3, _ => exact congrArg some (by omega)
    | 4, h => cases h
    | 5, _ => exact congrArg some (by omega)
    | 6, _ => exact congrArg some (by omega)
    | 7, _ => exact congrArg some (by omega)
    | 8, _ => exact congrArg some (by omega)
    | 9, h => cases h
    | 10, _ => exact congrArg some (by omega)
    | 11, _ => exact congrArg some (by omega)
    | 12, h => cases h
    | 13, h => cases h
    | 14, h => cases h
    | 15, h => cases h
    | 16, h => cases h
    | 17, h => cases h
    | 18, h => cases h
    | 19, _ => exact congrArg some (by omega)
    | 20, h => cases h
    | 21, _ => exact congrArg some (by omega)
    | 22, h => cases h
    | 23, h => cases h
    | 24, _ => exact congrArg some (by omega)
    | 25, h => cases h
    | j + 26, h => cases h
  · have hC : MoL (lput l13 a (0, 5, fun j => match j with | 1 => some (a + 1) | 2 => some (a + 2) | 3 => some (a + 3) | 5 => some (a + 4) | 6 => some (a + 5) | 7 => some (a + 6) | 8 => some (a + 7) | 10 => some (a + 8) | 11 => some (a + 9) | 19 => some (a + 10) | 21 => some (a + 11) | _ => some (a + 12))) a := ⟨lput_at, (lput_ne (by omega)).trans ((e13 _ (by omega) (by omega)).trans ((e12 _ (by omega) (by omega)).trans ((e11 _ (by omega)).trans ((e10 _ (by omega)).trans ((e9 _ (by omega) (by omega)).trans ((e8 _ (by omega) (by omega)).trans ((e7 _ (by omega) (by omega)).trans ((e6 _ (by omega) (by omega)).trans ((e5 _ (by omega) (by omega)).trans ((e4 _ (by omega) (by omega)).trans ((e3 _ (by omega) (by omega)).trans ((e2 _ (by omega) (by omega)).trans (by rw [show a + 1 = lay.2 by omega]; exact n1))))))))))))), (lput_ne (by omega)).trans ((e13 _ (by omega) (by omega)).trans ((e12 _ (by omega) (by omega)).trans ((e11 _ (by omega)).trans ((e10 _ (by omega)).trans ((e9 _ (by omega) (by omega)).trans ((e8 _ (by omega) (by omega)).trans ((e7 _ (by omega) (by omega)).trans ((e6 _ (by omega) (by omega)).trans ((e5 _ (by omega) (by omega)).trans ((e4 _ (by omega) (by omega)).trans ((e3 _ (by omega) (by omega)).trans (by rw [show a + 2 = l1.2 by omega]; exact n2)))))))))))), (lput_ne (by omega)).trans ((e13 _ (by omega) (by omega)).trans ((e12 _ (by omega) (by omega)).trans ((e11 _ (by omega)).trans ((e10 _ (by omega)).trans ((e9 _ (by omega) (by omega)).trans ((e8 _ (by omega) (by omega)).trans ((e7 _ (by omega) (by omega)).trans ((e6 _ (by omega) (by omega)).trans ((e5 _ (by omega) (by omega)).trans ((e4 _ (by omega) (by omega)).trans (by rw [show a + 3 = l2.2 by omega]; exact n3))))))))))), (lput_ne (by omega)).trans ((e13 _ (by omega) (by omega)).trans ((e12 _ (by omega) (by omega)).trans ((e11 _ (by omega)).trans ((e10 _ (by omega)).trans ((e9 _ (by omega) (by omega)).trans ((e8 _ (by omega) (by omega)).trans ((e7 _ (by omega) (by omega)).trans ((e6 _ (by omega) (by omega)).trans ((e5 _ (by omega) (by omega)).trans (by rw [show a + 4 = l3.2 by omega]; exact n4)))))))))), (lput_ne (by omega)).trans ((e13 _ (by omega) (by omega)).trans ((e12 _ (by omega) (by omega)).trans ((e11 _ (by omega)).trans ((e10 _ (by omega)).trans ((e9 _ (by omega) (by omega)).trans ((e8 _ (by omega) (by omega)).trans ((e7 _ (by omega) (by omega)).trans ((e6 _ (by omega) (by omega)).trans (by rw [show a + 5 = l4.2 by omega]; exact n5))))))))), (lput_ne (by omega)).trans ((e13 _ (by omega) (by omega)).trans ((e12 _ (by omega) (by omega)).trans ((e11 _ (by omega)).trans ((e10 _ (by omega)).trans ((e9 _ (by omega) (by omega)).trans ((e8 _ (by omega) (by omega)).trans ((e7 _ (by omega) (by omega)).trans (by rw [show a + 6 = l5.2 by omega]; exact n6)))))))), (lput_ne (by omega)).trans ((e13 _ (by omega) (by omega)).trans ((e12 _ (by omega) (by omega)).trans ((e11 _ (by omega)).trans ((e10 _ (by omega)).trans ((e9 _ (by omega) (by omega)).trans ((e8 _ (by omega) (by omega)).trans (by rw [show a + 7 = l6.2 by omega]; exact n7))))))), (lput_ne (by omega)).trans ((e13 _ (by omega) (by omega)).trans ((e12 _ (by omega) (by omega)).trans ((e11 _ (by omega)).trans ((e10 _ (by omega)).trans ((e9 _ (by omega) (by omega)).trans (by rw [show a + 8 = l7.2 by omega]; exact n8)))))), (lput_ne (by omega)).trans ((e13 _ (by omega) (by omega)).trans ((e12 _ (by omega) (by omega)).trans ((e11 _ (by omega)).trans ((e10 _ (by omega)).trans (by rw [show a + 9 = l8.2 by omega]; exact n9))))), (lput_ne (by omega)).trans ((e13 _ (by omega) (by omega)).trans ((e12 _ (by omega) (by omega)).trans ((e11 _ (by omega)).trans (by rw [show a + 10 = l9.2 by omega]; exact n10)))), (lput_ne (by omega)).trans ((e13 _ (by omega) (by omega)).trans (by rw [show a + 11 = l11.2 by omega]; exact n12)), (lput_ne (by omega)).trans (by rw [show a + 12 = l12.2 by omega]; exact n13)⟩
    refine x_aload_n (pc := 520) dX5_init_520 rfl rfl ?_
    refine x_callV (pc := 521) [] rfl kX5_52 dX5_init_521 hC.1 rfl rfl (by decide) (Nat.le_of_ble_eq_true rfl) (Nat.le_of_ble_eq_true rfl) (by decide) ?_
    refine sp_X5_begins hC hw (fun M15 hF15 hT15 => ?_)
    refine ⟨none, rfl, ?_⟩
    refine x_vret (pc := 524) dX5_init_524 rfl (by decide) (by decide) ?_
    refine k _ _ (by show l13.2 = _; omega) ⟨fun x h => (lput_ne (by omega)).trans ((e13 x (by omega) (by omega)).trans ((e12 x (by omega) (by omega)).trans ((e11 x (by omega)).trans ((e10 x (by omega)).trans ((e9 x (by omega) (by omega)).trans ((e8 x (by omega) (by omega)).trans ((e7 x (by omega) (by omega)).trans ((e6 x (by omega) (by omega)).trans ((e5 x (by omega) (by omega)).trans ((e4 x (by omega) (by omega)).trans ((e3 x (by omega) (by omega)).trans ((e2 x (by omega) (by omega)).trans ((e1 x (by omega) (by omega)).trans rfl))))))))))))), fun x i h => (hF15 x i (by omega)).trans ((m13 x i (by omega)).trans ((m12 x i (by omega)).trans ((f68 x i (by omega)).trans ((m10 x i (by omega)).trans ((mset_nea (by omega)).trans ((m9 x i (by omega)).trans ((m8 x i (by omega)).trans ((m7 x i (by omega)).trans ((m6 x i (by omega)).trans ((m5 x i (by omega)).trans ((m4 x i (by omega)).trans ((m3 x i (by omega)).trans ((m2 x i (by omega)).trans ((m1 x i (by omega)).trans rfl))))))))))))))⟩ hC hT15 (fun i hi => ?_) (fun i => ?_) (fun x i h1 h2 h3 => ?_)
    · rw [hF15 _ _ (by omega), m13 _ _ (by omega), m12 _ _ (by omega), show a + 10 = l9.2 by omega]
      exact h68 i hi
    · rw [hF15 _ _ (by omega), m13 _ _ (by omega), m12 _ _ (by omega), f68 _ _ (by omega), m10 _ _ (by omega)]
      by_cases h4 : i = 18
      · subst h4
        rw [mset_same, if_pos rfl]
      · rw [if_neg h4]
        exact (mset_nei h4).trans ((m9 a i (by omega)).trans ((m8 a i (by omega)).trans ((m7 a i (by omega)).trans ((m6 a i (by omega)).trans ((m5 a i (by omega)).trans ((m4 a i (by omega)).trans ((m3 a i (by omega)).trans ((m2 a i (by omega)).trans (m1 a i (by omega))))))))))
    · rw [hF15 _ _ (by omega)]
      have hx : x = a + 2 ∨ x = a + 3 ∨ x = a + 4 ∨ x = a + 5 ∨ x = a + 6 ∨ x = a + 7 ∨ x = a + 8 ∨ x = a + 9 ∨ x = a + 11 ∨ x = a + 12 := by omega
      rcases hx with rfl | rfl | rfl | rfl | rfl | rfl | rfl | rfl | rfl | rfl
      · exact ((m13 _ i (by omega)).trans ((m12 _ i (by omega)).trans ((f68 _ i (by omega)).trans ((m10 _ i (by omega)).trans ((mset_nea (by omega)).trans ((m9 _ i (by omega)).trans ((m8 _ i (by omega)).trans ((m7 _ i (by omega)).trans ((m6 _ i (by omega)).trans ((m5 _ i (by omega)).trans ((m4 _ i (by omega)).trans ((m3 _ i (by omega)).trans (by rw [show a + 2 = l1.2 by omega]; exact w2 i)))))))))))))
      · exact ((m13 _ i (by omega)).trans ((m12 _ i (by omega)).trans ((f68 _ i (by omega)).trans ((m10 _ i (by omega)).trans ((mset_nea (by omega)).trans ((m9 _ i (by omega)).trans ((m8 _ i (by omega)).trans ((m7 _ i (by omega)).trans ((m6 _ i (by omega)).trans ((m5 _ i (by omega)).trans ((m4 _ i (by omega)).trans (by rw [show a + 3 = l2.2 by omega]; exact w3 i))))))))))))
      · exact ((m13 _ i (by omega)).trans ((m12 _ i (by omega)).trans ((f68 _ i (by omega)).trans ((m10 _ i (by omega)).trans ((mset_nea (by omega)).trans ((m9 _ i (by omega)).trans ((m8 _ i (by omega)).trans ((m7 _ i (by omega)).trans ((m6 _ i (by omega)).trans ((m5 _ i (by omega)).trans (by rw [show a + 4 = l3.2 by omega]; exact w4 i)))))))))))
      · exact ((m13 _ i (by omega)).trans ((m12 _ i (by omega)).trans ((f68 _ i (by omega)).trans ((m10 _ i (by omega)).trans ((mset_nea (by omega)).trans ((m9 _ i (by omega)).trans ((m8 _ i (by omega)).trans ((m7 _ i (by omega)).trans ((m6 _ i (by omega)).trans (by rw [show a + 5 = l4.2 by omega]; exact w5 i))))))))))
      · exact ((m13 _ i (by omega)).trans ((m12 _ i (by omega)).trans ((f68 _ i (by omega)).trans ((m10 _ i (by omega)).trans ((mset_nea (by omega)).trans ((m9 _ i (by omega)).trans ((m8 _ i (by omega)).trans ((m7 _ i (by omega)).trans (by rw [show a + 6 = l5.2 by omega]; exact w6 i)))))))))
      · exact ((m13 _ i (by omega)).trans ((m12 _ i (by omega)).trans ((f68 _ i (by omega)).trans ((m10 _ i (by omega)).trans ((mset_nea (by omega)).trans ((m9 _ i (by omega)).trans ((m8 _ i (by omega)).trans (by rw [show a + 7 = l6.2 by omega]; exact w7 i))))))))
      · exact ((m13 _ i (by omega)).trans ((m12 _ i (by omega)).trans ((f68 _ i (by omega)).trans ((m10 _ i (by omega)).trans ((mset_nea (by omega)).trans ((m9 _ i (by omega)).trans (by rw [show a + 8 = l7.2 by omega]; exact w8 i)))))))
      · exact ((m13 _ i (by omega)).trans ((m12 _ i (by omega)).trans ((f68 _ i (by omega)).trans ((m10 _ i (by omega)).trans ((mset_nea (by omega)).trans (by rw [show a + 9 = l8.2 by omega]; exact w9 i))))))
      · exact ((m13 _ i (by omega)).trans (by rw [show a + 11 = l11.2 by omega]; exact w12 i))
      · exact (by rw [show a + 12 = l12.2 by omega]; exact w13 i)
