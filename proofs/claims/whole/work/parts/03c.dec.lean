theorem dX5_init_0 : decode cX5_init 0 = .ok (.aload_n 0, 1) := by decide +kernel
theorem dX5_init_1 : decode cX5_init 1 = .ok (.invokespecial 1, 3) := by decide +kernel
theorem dX5_init_4 : decode cX5_init 4 = .ok (.aload_n 0, 1) := by decide +kernel
theorem dX5_init_5 : decode cX5_init 5 = .ok (.sipush 280, 3) := by decide +kernel
theorem dX5_init_8 : decode cX5_init 8 = .ok (.newarray .int, 2) := by decide +kernel
theorem dX5_init_10 : decode cX5_init 10 = .ok (.putfield 7, 3) := by decide +kernel
theorem dX5_init_13 : decode cX5_init 13 = .ok (.aload_n 0, 1) := by decide +kernel
theorem dX5_init_14 : decode cX5_init 14 = .ok (.sipush 280, 3) := by decide +kernel
theorem dX5_init_17 : decode cX5_init 17 = .ok (.newarray .int, 2) := by decide +kernel
theorem dX5_init_19 : decode cX5_init 19 = .ok (.putfield 13, 3) := by decide +kernel
theorem dX5_init_22 : decode cX5_init 22 = .ok (.aload_n 0, 1) := by decide +kernel
theorem dX5_init_23 : decode cX5_init 23 = .ok (.sipush 3360, 3) := by decide +kernel
theorem dX5_init_26 : decode cX5_init 26 = .ok (.newarray .int, 2) := by decide +kernel
theorem dX5_init_28 : decode cX5_init 28 = .ok (.putfield 16, 3) := by decide +kernel
theorem dX5_init_31 : decode cX5_init 31 = .ok (.aload_n 0, 1) := by decide +kernel
theorem dX5_init_32 : decode cX5_init 32 = .ok (.sipush 560, 3) := by decide +kernel
theorem dX5_init_35 : decode cX5_init 35 = .ok (.newarray .int, 2) := by decide +kernel
theorem dX5_init_37 : decode cX5_init 37 = .ok (.putfield 19, 3) := by decide +kernel
theorem dX5_init_40 : decode cX5_init 40 = .ok (.aload_n 0, 1) := by decide +kernel
theorem dX5_init_41 : decode cX5_init 41 = .ok (.iconst 2, 1) := by decide +kernel
theorem dX5_init_42 : decode cX5_init 42 = .ok (.newarray .boolean, 2) := by decide +kernel
theorem dX5_init_44 : decode cX5_init 44 = .ok (.putfield 22, 3) := by decide +kernel
theorem dX5_init_47 : decode cX5_init 47 = .ok (.aload_n 0, 1) := by decide +kernel
theorem dX5_init_48 : decode cX5_init 48 = .ok (.bipush 9, 2) := by decide +kernel
theorem dX5_init_50 : decode cX5_init 50 = .ok (.newarray .int, 2) := by decide +kernel
theorem dX5_init_52 : decode cX5_init 52 = .ok (.putfield 26, 3) := by decide +kernel
theorem dX5_init_55 : decode cX5_init 55 = .ok (.aload_n 0, 1) := by decide +kernel
theorem dX5_init_56 : decode cX5_init 56 = .ok (.sipush 3008, 3) := by decide +kernel
theorem dX5_init_59 : decode cX5_init 59 = .ok (.newarray .int, 2) := by decide +kernel
theorem dX5_init_61 : decode cX5_init 61 = .ok (.putfield 29, 3) := by decide +kernel
theorem dX5_init_64 : decode cX5_init 64 = .ok (.aload_n 0, 1) := by decide +kernel
theorem dX5_init_65 : decode cX5_init 65 = .ok (.bipush 9, 2) := by decide +kernel
theorem dX5_init_67 : decode cX5_init 67 = .ok (.newarray .int, 2) := by decide +kernel
theorem dX5_init_69 : decode cX5_init 69 = .ok (.putfield 32, 3) := by decide +kernel
theorem dX5_init_72 : decode cX5_init 72 = .ok (.aload_n 0, 1) := by decide +kernel
theorem dX5_init_73 : decode cX5_init 73 = .ok (.sipush 600, 3) := by decide +kernel
theorem dX5_init_76 : decode cX5_init 76 = .ok (.newarray .byte, 2) := by decide +kernel
theorem dX5_init_78 : decode cX5_init 78 = .ok (.putfield 35, 3) := by decide +kernel
theorem dX5_init_81 : decode cX5_init 81 = .ok (.aload_n 0, 1) := by decide +kernel
theorem dX5_init_82 : decode cX5_init 82 = .ok (.iconst (-1), 1) := by decide +kernel
theorem dX5_init_83 : decode cX5_init 83 = .ok (.putfield 39, 3) := by decide +kernel
theorem dX5_init_86 : decode cX5_init 86 = .ok (.aload_n 0, 1) := by decide +kernel
theorem dX5_init_87 : decode cX5_init 87 = .ok (.bipush 69, 2) := by decide +kernel
theorem dX5_init_89 : decode cX5_init 89 = .ok (.newarray .byte, 2) := by decide +kernel
theorem dX5_init_91 : decode cX5_init 91 = .ok (.dup, 1) := by decide +kernel
theorem dX5_init_92 : decode cX5_init 92 = .ok (.iconst 0, 1) := by decide +kernel
theorem dX5_init_93 : decode cX5_init 93 = .ok (.bipush 112, 2) := by decide +kernel
theorem dX5_init_95 : decode cX5_init 95 = .ok (.bastore, 1) := by decide +kernel
theorem dX5_init_96 : decode cX5_init 96 = .ok (.dup, 1) := by decide +kernel
theorem dX5_init_97 : decode cX5_init 97 = .ok (.iconst 1, 1) := by decide +kernel
theorem dX5_init_98 : decode cX5_init 98 = .ok (.bipush 111, 2) := by decide +kernel
theorem dX5_init_100 : decode cX5_init 100 = .ok (.bastore, 1) := by decide +kernel
theorem dX5_init_101 : decode cX5_init 101 = .ok (.dup, 1) := by decide +kernel
theorem dX5_init_102 : decode cX5_init 102 = .ok (.iconst 2, 1) := by decide +kernel
theorem dX5_init_103 : decode cX5_init 103 = .ok (.bipush 119, 2) := by decide +kernel
theorem dX5_init_105 : decode cX5_init 105 = .ok (.bastore, 1) := by decide +kernel
theorem dX5_init_106 : decode cX5_init 106 = .ok (.dup, 1) := by decide +kernel
theorem dX5_init_107 : decode cX5_init 107 = .ok (.iconst 3, 1) := by decide +kernel
theorem dX5_init_108 : decode cX5_init 108 = .ok (.bipush 101, 2) := by decide +kernel
theorem dX5_init_110 : decode cX5_init 110 = .ok (.bastore, 1) := by decide +kernel
theorem dX5_init_111 : decode cX5_init 111 = .ok (.dup, 1) := by decide +kernel
theorem dX5_init_112 : decode cX5_init 112 = .ok (.iconst 4, 1) := by decide +kernel
theorem dX5_init_113 : decode cX5_init 113 = .ok (.bipush 114, 2) := by decide +kernel
theorem dX5_init_115 : decode cX5_init 115 = .ok (.bastore, 1) := by decide +kernel
theorem dX5_init_116 : decode cX5_init 116 = .ok (.dup, 1) := by decide +kernel
theorem dX5_init_117 : decode cX5_init 117 = .ok (.iconst 5, 1) := by decide +kernel
theorem dX5_init_118 : decode cX5_init 118 = .ok (.bipush 115, 2) := by decide +kernel
theorem dX5_init_120 : decode cX5_init 120 = .ok (.bastore, 1) := by decide +kernel
theorem dX5_init_121 : decode cX5_init 121 = .ok (.dup, 1) := by decide +kernel
theorem dX5_init_122 : decode cX5_init 122 = .ok (.bipush 6, 2) := by decide +kernel
theorem dX5_init_124 : decode cX5_init 124 = .ok (.bipush 32, 2) := by decide +kernel
theorem dX5_init_126 : decode cX5_init 126 = .ok (.bastore, 1) := by decide +kernel
theorem dX5_init_127 : decode cX5_init 127 = .ok (.dup, 1) := by decide +kernel
theorem dX5_init_128 : decode cX5_init 128 = .ok (.bipush 7, 2) := by decide +kernel
theorem dX5_init_130 : decode cX5_init 130 = .ok (.bipush 98, 2) := by decide +kernel
theorem dX5_init_132 : decode cX5_init 132 = .ok (.bastore, 1) := by decide +kernel
theorem dX5_init_133 : decode cX5_init 133 = .ok (.dup, 1) := by decide +kernel
theorem dX5_init_134 : decode cX5_init 134 = .ok (.bipush 8, 2) := by decide +kernel
theorem dX5_init_136 : decode cX5_init 136 = .ok (.bipush 97, 2) := by decide +kernel
theorem dX5_init_138 : decode cX5_init 138 = .ok (.bastore, 1) := by decide +kernel
theorem dX5_init_139 : decode cX5_init 139 = .ok (.dup, 1) := by decide +kernel
theorem dX5_init_140 : decode cX5_init 140 = .ok (.bipush 9, 2) := by decide +kernel
theorem dX5_init_142 : decode cX5_init 142 = .ok (.bipush 114, 2) := by decide +kernel
theorem dX5_init_144 : decode cX5_init 144 = .ok (.bastore, 1) := by decide +kernel
theorem dX5_init_145 : decode cX5_init 145 = .ok (.dup, 1) := by decide +kernel
theorem dX5_init_146 : decode cX5_init 146 = .ok (.bipush 10, 2) := by decide +kernel
theorem dX5_init_148 : decode cX5_init 148 = .ok (.bipush 32, 2) := by decide +kernel
theorem dX5_init_150 : decode cX5_init 150 = .ok (.bastore, 1) := by decide +kernel
theorem dX5_init_151 : decode cX5_init 151 = .ok (.dup, 1) := by decide +kernel
theorem dX5_init_152 : decode cX5_init 152 = .ok (.bipush 11, 2) := by decide +kernel
theorem dX5_init_154 : decode cX5_init 154 = .ok (.bipush 116, 2) := by decide +kernel
theorem dX5_init_156 : decode cX5_init 156 = .ok (.bastore, 1) := by decide +kernel
theorem dX5_init_157 : decode cX5_init 157 = .ok (.dup, 1) := by decide +kernel
theorem dX5_init_158 : decode cX5_init 158 = .ok (.bipush 12, 2) := by decide +kernel
theorem dX5_init_160 : decode cX5_init 160 = .ok (.bipush 117, 2) := by decide +kernel
theorem dX5_init_162 : decode cX5_init 162 = .ok (.bastore, 1) := by decide +kernel
theorem dX5_init_163 : decode cX5_init 163 = .ok (.dup, 1) := by decide +kernel
theorem dX5_init_164 : decode cX5_init 164 = .ok (.bipush 13, 2) := by decide +kernel
theorem dX5_init_166 : decode cX5_init 166 = .ok (.bipush 114, 2) := by decide +kernel
theorem dX5_init_168 : decode cX5_init 168 = .ok (.bastore, 1) := by decide +kernel
theorem dX5_init_169 : decode cX5_init 169 = .ok (.dup, 1) := by decide +kernel
theorem dX5_init_170 : decode cX5_init 170 = .ok (.bipush 14, 2) := by decide +kernel
theorem dX5_init_172 : decode cX5_init 172 = .ok (.bipush 110, 2) := by decide +kernel
theorem dX5_init_174 : decode cX5_init 174 = .ok (.bastore, 1) := by decide +kernel
theorem dX5_init_175 : decode cX5_init 175 = .ok (.dup, 1) := by decide +kernel
theorem dX5_init_176 : decode cX5_init 176 = .ok (.bipush 15, 2) := by decide +kernel
theorem dX5_init_178 : decode cX5_init 178 = .ok (.bipush 115, 2) := by decide +kernel
theorem dX5_init_180 : decode cX5_init 180 = .ok (.bastore, 1) := by decide +kernel
theorem dX5_init_181 : decode cX5_init 181 = .ok (.dup, 1) := by decide +kernel
theorem dX5_init_182 : decode cX5_init 182 = .ok (.bipush 16, 2) := by decide +kernel
theorem dX5_init_184 : decode cX5_init 184 = .ok (.bipush 32, 2) := by decide +kernel
theorem dX5_init_186 : decode cX5_init 186 = .ok (.bastore, 1) := by decide +kernel
theorem dX5_init_187 : decode cX5_init 187 = .ok (.dup, 1) := by decide +kernel
theorem dX5_init_188 : decode cX5_init 188 = .ok (.bipush 17, 2) := by decide +kernel
theorem dX5_init_190 : decode cX5_init 190 = .ok (.bipush 114, 2) := by decide +kernel
theorem dX5_init_192 : decode cX5_init 192 = .ok (.bastore, 1) := by decide +kernel
theorem dX5_init_193 : decode cX5_init 193 = .ok (.dup, 1) := by decide +kernel
theorem dX5_init_194 : decode cX5_init 194 = .ok (.bipush 18, 2) := by decide +kernel
theorem dX5_init_196 : decode cX5_init 196 = .ok (.bipush 101, 2) := by decide +kernel
theorem dX5_init_198 : decode cX5_init 198 = .ok (.bastore, 1) := by decide +kernel
theorem dX5_init_199 : decode cX5_init 199 = .ok (.dup, 1) := by decide +kernel
theorem dX5_init_200 : decode cX5_init 200 = .ok (.bipush 19, 2) := by decide +kernel
theorem dX5_init_202 : decode cX5_init 202 = .ok (.bipush 97, 2) := by decide +kernel
theorem dX5_init_204 : decode cX5_init 204 = .ok (.bastore, 1) := by decide +kernel
theorem dX5_init_205 : decode cX5_init 205 = .ok (.dup, 1) := by decide +kernel
theorem dX5_init_206 : decode cX5_init 206 = .ok (.bipush 20, 2) := by decide +kernel
theorem dX5_init_208 : decode cX5_init 208 = .ok (.bipush 99, 2) := by decide +kernel
theorem dX5_init_210 : decode cX5_init 210 = .ok (.bastore, 1) := by decide +kernel
theorem dX5_init_211 : decode cX5_init 211 = .ok (.dup, 1) := by decide +kernel
theorem dX5_init_212 : decode cX5_init 212 = .ok (.bipush 21, 2) := by decide +kernel
theorem dX5_init_214 : decode cX5_init 214 = .ok (.bipush 104, 2) := by decide +kernel
theorem dX5_init_216 : decode cX5_init 216 = .ok (.bastore, 1) := by decide +kernel
theorem dX5_init_217 : decode cX5_init 217 = .ok (.dup, 1) := by decide +kernel
theorem dX5_init_218 : decode cX5_init 218 = .ok (.bipush 22, 2) := by decide +kernel
theorem dX5_init_220 : decode cX5_init 220 = .ok (.bipush 32, 2) := by decide +kernel
theorem dX5_init_222 : decode cX5_init 222 = .ok (.bastore, 1) := by decide +kernel
theorem dX5_init_223 : decode cX5_init 223 = .ok (.dup, 1) := by decide +kernel
theorem dX5_init_224 : decode cX5_init 224 = .ok (.bipush 23, 2) := by decide +kernel
theorem dX5_init_226 : decode cX5_init 226 = .ok (.bipush 103, 2) := by decide +kernel
theorem dX5_init_228 : decode cX5_init 228 = .ok (.bastore, 1) := by decide +kernel
theorem dX5_init_229 : decode cX5_init 229 = .ok (.dup, 1) := by decide +kernel
theorem dX5_init_230 : decode cX5_init 230 = .ok (.bipush 24, 2) := by decide +kernel
theorem dX5_init_232 : decode cX5_init 232 = .ok (.bipush 111, 2) := by decide +kernel
theorem dX5_init_234 : decode cX5_init 234 = .ok (.bastore, 1) := by decide +kernel
theorem dX5_init_235 : decode cX5_init 235 = .ok (.dup, 1) := by decide +kernel
theorem dX5_init_236 : decode cX5_init 236 = .ok (.bipush 25, 2) := by decide +kernel
theorem dX5_init_238 : decode cX5_init 238 = .ok (.bipush 97, 2) := by decide +kernel
theorem dX5_init_240 : decode cX5_init 240 = .ok (.bastore, 1) := by decide +kernel
theorem dX5_init_241 : decode cX5_init 241 = .ok (.dup, 1) := by decide +kernel
theorem dX5_init_242 : decode cX5_init 242 = .ok (.bipush 26, 2) := by decide +kernel
theorem dX5_init_244 : decode cX5_init 244 = .ok (.bipush 108, 2) := by decide +kernel
theorem dX5_init_246 : decode cX5_init 246 = .ok (.bastore, 1) := by decide +kernel
theorem dX5_init_247 : decode cX5_init 247 = .ok (.dup, 1) := by decide +kernel
theorem dX5_init_248 : decode cX5_init 248 = .ok (.bipush 27, 2) := by decide +kernel
theorem dX5_init_250 : decode cX5_init 250 = .ok (.bipush 32, 2) := by decide +kernel
theorem dX5_init_252 : decode cX5_init 252 = .ok (.bastore, 1) := by decide +kernel
theorem dX5_init_253 : decode cX5_init 253 = .ok (.dup, 1) := by decide +kernel
theorem dX5_init_254 : decode cX5_init 254 = .ok (.bipush 28, 2) := by decide +kernel
theorem dX5_init_256 : decode cX5_init 256 = .ok (.bipush 112, 2) := by decide +kernel
theorem dX5_init_258 : decode cX5_init 258 = .ok (.bastore, 1) := by decide +kernel
theorem dX5_init_259 : decode cX5_init 259 = .ok (.dup, 1) := by decide +kernel
theorem dX5_init_260 : decode cX5_init 260 = .ok (.bipush 29, 2) := by decide +kernel
theorem dX5_init_262 : decode cX5_init 262 = .ok (.bipush 117, 2) := by decide +kernel
theorem dX5_init_264 : decode cX5_init 264 = .ok (.bastore, 1) := by decide +kernel
theorem dX5_init_265 : decode cX5_init 265 = .ok (.dup, 1) := by decide +kernel
theorem dX5_init_266 : decode cX5_init 266 = .ok (.bipush 30, 2) := by decide +kernel
theorem dX5_init_268 : decode cX5_init 268 = .ok (.bipush 114, 2) := by decide +kernel
theorem dX5_init_270 : decode cX5_init 270 = .ok (.bastore, 1) := by decide +kernel
theorem dX5_init_271 : decode cX5_init 271 = .ok (.dup, 1) := by decide +kernel
theorem dX5_init_272 : decode cX5_init 272 = .ok (.bipush 31, 2) := by decide +kernel
theorem dX5_init_274 : decode cX5_init 274 = .ok (.bipush 115, 2) := by decide +kernel
theorem dX5_init_276 : decode cX5_init 276 = .ok (.bastore, 1) := by decide +kernel
theorem dX5_init_277 : decode cX5_init 277 = .ok (.dup, 1) := by decide +kernel
theorem dX5_init_278 : decode cX5_init 278 = .ok (.bipush 32, 2) := by decide +kernel
theorem dX5_init_280 : decode cX5_init 280 = .ok (.bipush 101, 2) := by decide +kernel
theorem dX5_init_282 : decode cX5_init 282 = .ok (.bastore, 1) := by decide +kernel
theorem dX5_init_283 : decode cX5_init 283 = .ok (.dup, 1) := by decide +kernel
theorem dX5_init_284 : decode cX5_init 284 = .ok (.bipush 33, 2) := by decide +kernel
theorem dX5_init_286 : decode cX5_init 286 = .ok (.bipush 32, 2) := by decide +kernel
theorem dX5_init_288 : decode cX5_init 288 = .ok (.bastore, 1) := by decide +kernel
theorem dX5_init_289 : decode cX5_init 289 = .ok (.dup, 1) := by decide +kernel
theorem dX5_init_290 : decode cX5_init 290 = .ok (.bipush 34, 2) := by decide +kernel
theorem dX5_init_292 : decode cX5_init 292 = .ok (.bipush 115, 2) := by decide +kernel
theorem dX5_init_294 : decode cX5_init 294 = .ok (.bastore, 1) := by decide +kernel
theorem dX5_init_295 : decode cX5_init 295 = .ok (.dup, 1) := by decide +kernel
theorem dX5_init_296 : decode cX5_init 296 = .ok (.bipush 35, 2) := by decide +kernel
theorem dX5_init_298 : decode cX5_init 298 = .ok (.bipush 116, 2) := by decide +kernel
theorem dX5_init_300 : decode cX5_init 300 = .ok (.bastore, 1) := by decide +kernel
theorem dX5_init_301 : decode cX5_init 301 = .ok (.dup, 1) := by decide +kernel
theorem dX5_init_302 : decode cX5_init 302 = .ok (.bipush 36, 2) := by decide +kernel
theorem dX5_init_304 : decode cX5_init 304 = .ok (.bipush 97, 2) := by decide +kernel
theorem dX5_init_306 : decode cX5_init 306 = .ok (.bastore, 1) := by decide +kernel
theorem dX5_init_307 : decode cX5_init 307 = .ok (.dup, 1) := by decide +kernel
theorem dX5_init_308 : decode cX5_init 308 = .ok (.bipush 37, 2) := by decide +kernel
theorem dX5_init_310 : decode cX5_init 310 = .ok (.bipush 114, 2) := by decide +kernel
theorem dX5_init_312 : decode cX5_init 312 = .ok (.bastore, 1) := by decide +kernel
theorem dX5_init_313 : decode cX5_init 313 = .ok (.dup, 1) := by decide +kernel
theorem dX5_init_314 : decode cX5_init 314 = .ok (.bipush 38, 2) := by decide +kernel
theorem dX5_init_316 : decode cX5_init 316 = .ok (.bipush 116, 2) := by decide +kernel
theorem dX5_init_318 : decode cX5_init 318 = .ok (.bastore, 1) := by decide +kernel
theorem dX5_init_319 : decode cX5_init 319 = .ok (.dup, 1) := by decide +kernel
theorem dX5_init_320 : decode cX5_init 320 = .ok (.bipush 39, 2) := by decide +kernel
theorem dX5_init_322 : decode cX5_init 322 = .ok (.bipush 32, 2) := by decide +kernel
theorem dX5_init_324 : decode cX5_init 324 = .ok (.bastore, 1) := by decide +kernel
theorem dX5_init_325 : decode cX5_init 325 = .ok (.dup, 1) := by decide +kernel
theorem dX5_init_326 : decode cX5_init 326 = .ok (.bipush 40, 2) := by decide +kernel
theorem dX5_init_328 : decode cX5_init 328 = .ok (.bipush 108, 2) := by decide +kernel
theorem dX5_init_330 : decode cX5_init 330 = .ok (.bastore, 1) := by decide +kernel
theorem dX5_init_331 : decode cX5_init 331 = .ok (.dup, 1) := by decide +kernel
theorem dX5_init_332 : decode cX5_init 332 = .ok (.bipush 41, 2) := by decide +kernel
theorem dX5_init_334 : decode cX5_init 334 = .ok (.bipush 97, 2) := by decide +kernel
theorem dX5_init_336 : decode cX5_init 336 = .ok (.bastore, 1) := by decide +kernel
theorem dX5_init_337 : decode cX5_init 337 = .ok (.dup, 1) := by decide +kernel
theorem dX5_init_338 : decode cX5_init 338 = .ok (.bipush 42, 2) := by decide +kernel
theorem dX5_init_340 : decode cX5_init 340 = .ok (.bipush 121, 2) := by decide +kernel
theorem dX5_init_342 : decode cX5_init 342 = .ok (.bastore, 1) := by decide +kernel
theorem dX5_init_343 : decode cX5_init 343 = .ok (.dup, 1) := by decide +kernel
theorem dX5_init_344 : decode cX5_init 344 = .ok (.bipush 43, 2) := by decide +kernel
theorem dX5_init_346 : decode cX5_init 346 = .ok (.bipush 32, 2) := by decide +kernel
theorem dX5_init_348 : decode cX5_init 348 = .ok (.bastore, 1) := by decide +kernel
theorem dX5_init_349 : decode cX5_init 349 = .ok (.dup, 1) := by decide +kernel
theorem dX5_init_350 : decode cX5_init 350 = .ok (.bipush 44, 2) := by decide +kernel
theorem dX5_init_352 : decode cX5_init 352 = .ok (.bipush 99, 2) := by decide +kernel
theorem dX5_init_354 : decode cX5_init 354 = .ok (.bastore, 1) := by decide +kernel
theorem dX5_init_355 : decode cX5_init 355 = .ok (.dup, 1) := by decide +kernel
theorem dX5_init_356 : decode cX5_init 356 = .ok (.bipush 45, 2) := by decide +kernel
theorem dX5_init_358 : decode cX5_init 358 = .ok (.bipush 108, 2) := by decide +kernel
theorem dX5_init_360 : decode cX5_init 360 = .ok (.bastore, 1) := by decide +kernel
theorem dX5_init_361 : decode cX5_init 361 = .ok (.dup, 1) := by decide +kernel
theorem dX5_init_362 : decode cX5_init 362 = .ok (.bipush 46, 2) := by decide +kernel
theorem dX5_init_364 : decode cX5_init 364 = .ok (.bipush 97, 2) := by decide +kernel
theorem dX5_init_366 : decode cX5_init 366 = .ok (.bastore, 1) := by decide +kernel
theorem dX5_init_367 : decode cX5_init 367 = .ok (.dup, 1) := by decide +kernel
theorem dX5_init_368 : decode cX5_init 368 = .ok (.bipush 47, 2) := by decide +kernel
theorem dX5_init_370 : decode cX5_init 370 = .ok (.bipush 105, 2) := by decide +kernel
theorem dX5_init_372 : decode cX5_init 372 = .ok (.bastore, 1) := by decide +kernel
theorem dX5_init_373 : decode cX5_init 373 = .ok (.dup, 1) := by decide +kernel
theorem dX5_init_374 : decode cX5_init 374 = .ok (.bipush 48, 2) := by decide +kernel
theorem dX5_init_376 : decode cX5_init 376 = .ok (.bipush 109, 2) := by decide +kernel
theorem dX5_init_378 : decode cX5_init 378 = .ok (.bastore, 1) := by decide +kernel
theorem dX5_init_379 : decode cX5_init 379 = .ok (.dup, 1) := by decide +kernel
theorem dX5_init_380 : decode cX5_init 380 = .ok (.bipush 49, 2) := by decide +kernel
theorem dX5_init_382 : decode cX5_init 382 = .ok (.bipush 32, 2) := by decide +kernel
theorem dX5_init_384 : decode cX5_init 384 = .ok (.bastore, 1) := by decide +kernel
theorem dX5_init_385 : decode cX5_init 385 = .ok (.dup, 1) := by decide +kernel
theorem dX5_init_386 : decode cX5_init 386 = .ok (.bipush 50, 2) := by decide +kernel
theorem dX5_init_388 : decode cX5_init 388 = .ok (.bipush 112, 2) := by decide +kernel
theorem dX5_init_390 : decode cX5_init 390 = .ok (.bastore, 1) := by decide +kernel
theorem dX5_init_391 : decode cX5_init 391 = .ok (.dup, 1) := by decide +kernel
theorem dX5_init_392 : decode cX5_init 392 = .ok (.bipush 51, 2) := by decide +kernel
theorem dX5_init_394 : decode cX5_init 394 = .ok (.bipush 97, 2) := by decide +kernel
theorem dX5_init_396 : decode cX5_init 396 = .ok (.bastore, 1) := by decide +kernel
theorem dX5_init_397 : decode cX5_init 397 = .ok (.dup, 1) := by decide +kernel
theorem dX5_init_398 : decode cX5_init 398 = .ok (.bipush 52, 2) := by decide +kernel
theorem dX5_init_400 : decode cX5_init 400 = .ok (.bipush 115, 2) := by decide +kernel
theorem dX5_init_402 : decode cX5_init 402 = .ok (.bastore, 1) := by decide +kernel
theorem dX5_init_403 : decode cX5_init 403 = .ok (.dup, 1) := by decide +kernel
theorem dX5_init_404 : decode cX5_init 404 = .ok (.bipush 53, 2) := by decide +kernel
theorem dX5_init_406 : decode cX5_init 406 = .ok (.bipush 115, 2) := by decide +kernel
theorem dX5_init_408 : decode cX5_init 408 = .ok (.bastore, 1) := by decide +kernel
theorem dX5_init_409 : decode cX5_init 409 = .ok (.dup, 1) := by decide +kernel
theorem dX5_init_410 : decode cX5_init 410 = .ok (.bipush 54, 2) := by decide +kernel
theorem dX5_init_412 : decode cX5_init 412 = .ok (.bipush 32, 2) := by decide +kernel
theorem dX5_init_414 : decode cX5_init 414 = .ok (.bastore, 1) := by decide +kernel
theorem dX5_init_415 : decode cX5_init 415 = .ok (.dup, 1) := by decide +kernel
theorem dX5_init_416 : decode cX5_init 416 = .ok (.bipush 55, 2) := by decide +kernel
theorem dX5_init_418 : decode cX5_init 418 = .ok (.bipush 101, 2) := by decide +kernel
theorem dX5_init_420 : decode cX5_init 420 = .ok (.bastore, 1) := by decide +kernel
theorem dX5_init_421 : decode cX5_init 421 = .ok (.dup, 1) := by decide +kernel
theorem dX5_init_422 : decode cX5_init 422 = .ok (.bipush 56, 2) := by decide +kernel
theorem dX5_init_424 : decode cX5_init 424 = .ok (.bipush 120, 2) := by decide +kernel
theorem dX5_init_426 : decode cX5_init 426 = .ok (.bastore, 1) := by decide +kernel
theorem dX5_init_427 : decode cX5_init 427 = .ok (.dup, 1) := by decide +kernel
theorem dX5_init_428 : decode cX5_init 428 = .ok (.bipush 57, 2) := by decide +kernel
theorem dX5_init_430 : decode cX5_init 430 = .ok (.bipush 97, 2) := by decide +kernel
theorem dX5_init_432 : decode cX5_init 432 = .ok (.bastore, 1) := by decide +kernel
theorem dX5_init_433 : decode cX5_init 433 = .ok (.dup, 1) := by decide +kernel
theorem dX5_init_434 : decode cX5_init 434 = .ok (.bipush 58, 2) := by decide +kernel
theorem dX5_init_436 : decode cX5_init 436 = .ok (.bipush 99, 2) := by decide +kernel
theorem dX5_init_438 : decode cX5_init 438 = .ok (.bastore, 1) := by decide +kernel
theorem dX5_init_439 : decode cX5_init 439 = .ok (.dup, 1) := by decide +kernel
theorem dX5_init_440 : decode cX5_init 440 = .ok (.bipush 59, 2) := by decide +kernel
theorem dX5_init_442 : decode cX5_init 442 = .ok (.bipush 116, 2) := by decide +kernel
theorem dX5_init_444 : decode cX5_init 444 = .ok (.bastore, 1) := by decide +kernel
theorem dX5_init_445 : decode cX5_init 445 = .ok (.dup, 1) := by decide +kernel
theorem dX5_init_446 : decode cX5_init 446 = .ok (.bipush 60, 2) := by decide +kernel
theorem dX5_init_448 : decode cX5_init 448 = .ok (.bipush 108, 2) := by decide +kernel
theorem dX5_init_450 : decode cX5_init 450 = .ok (.bastore, 1) := by decide +kernel
theorem dX5_init_451 : decode cX5_init 451 = .ok (.dup, 1) := by decide +kernel
theorem dX5_init_452 : decode cX5_init 452 = .ok (.bipush 61, 2) := by decide +kernel
theorem dX5_init_454 : decode cX5_init 454 = .ok (.bipush 121, 2) := by decide +kernel
theorem dX5_init_456 : decode cX5_init 456 = .ok (.bastore, 1) := by decide +kernel
theorem dX5_init_457 : decode cX5_init 457 = .ok (.dup, 1) := by decide +kernel
theorem dX5_init_458 : decode cX5_init 458 = .ok (.bipush 62, 2) := by decide +kernel
theorem dX5_init_460 : decode cX5_init 460 = .ok (.bipush 32, 2) := by decide +kernel
theorem dX5_init_462 : decode cX5_init 462 = .ok (.bastore, 1) := by decide +kernel
theorem dX5_init_463 : decode cX5_init 463 = .ok (.dup, 1) := by decide +kernel
theorem dX5_init_464 : decode cX5_init 464 = .ok (.bipush 63, 2) := by decide +kernel
theorem dX5_init_466 : decode cX5_init 466 = .ok (.bipush 108, 2) := by decide +kernel
theorem dX5_init_468 : decode cX5_init 468 = .ok (.bastore, 1) := by decide +kernel
theorem dX5_init_469 : decode cX5_init 469 = .ok (.dup, 1) := by decide +kernel
theorem dX5_init_470 : decode cX5_init 470 = .ok (.bipush 64, 2) := by decide +kernel
theorem dX5_init_472 : decode cX5_init 472 = .ok (.bipush 101, 2) := by decide +kernel
theorem dX5_init_474 : decode cX5_init 474 = .ok (.bastore, 1) := by decide +kernel
theorem dX5_init_475 : decode cX5_init 475 = .ok (.dup, 1) := by decide +kernel
theorem dX5_init_476 : decode cX5_init 476 = .ok (.bipush 65, 2) := by decide +kernel
theorem dX5_init_478 : decode cX5_init 478 = .ok (.bipush 97, 2) := by decide +kernel
theorem dX5_init_480 : decode cX5_init 480 = .ok (.bastore, 1) := by decide +kernel
theorem dX5_init_481 : decode cX5_init 481 = .ok (.dup, 1) := by decide +kernel
theorem dX5_init_482 : decode cX5_init 482 = .ok (.bipush 66, 2) := by decide +kernel
theorem dX5_init_484 : decode cX5_init 484 = .ok (.bipush 115, 2) := by decide +kernel
theorem dX5_init_486 : decode cX5_init 486 = .ok (.bastore, 1) := by decide +kernel
theorem dX5_init_487 : decode cX5_init 487 = .ok (.dup, 1) := by decide +kernel
theorem dX5_init_488 : decode cX5_init 488 = .ok (.bipush 67, 2) := by decide +kernel
theorem dX5_init_490 : decode cX5_init 490 = .ok (.bipush 116, 2) := by decide +kernel
theorem dX5_init_492 : decode cX5_init 492 = .ok (.bastore, 1) := by decide +kernel
theorem dX5_init_493 : decode cX5_init 493 = .ok (.dup, 1) := by decide +kernel
theorem dX5_init_494 : decode cX5_init 494 = .ok (.bipush 68, 2) := by decide +kernel
theorem dX5_init_496 : decode cX5_init 496 = .ok (.bipush 32, 2) := by decide +kernel
theorem dX5_init_498 : decode cX5_init 498 = .ok (.bastore, 1) := by decide +kernel
theorem dX5_init_499 : decode cX5_init 499 = .ok (.putfield 43, 3) := by decide +kernel
theorem dX5_init_502 : decode cX5_init 502 = .ok (.aload_n 0, 1) := by decide +kernel
theorem dX5_init_503 : decode cX5_init 503 = .ok (.sipush 246, 3) := by decide +kernel
theorem dX5_init_506 : decode cX5_init 506 = .ok (.newarray .int, 2) := by decide +kernel
theorem dX5_init_508 : decode cX5_init 508 = .ok (.putfield 46, 3) := by decide +kernel
theorem dX5_init_511 : decode cX5_init 511 = .ok (.aload_n 0, 1) := by decide +kernel
theorem dX5_init_512 : decode cX5_init 512 = .ok (.sipush 1024, 3) := by decide +kernel
theorem dX5_init_515 : decode cX5_init 515 = .ok (.newarray .byte, 2) := by decide +kernel
theorem dX5_init_517 : decode cX5_init 517 = .ok (.putfield 49, 3) := by decide +kernel
theorem dX5_init_520 : decode cX5_init 520 = .ok (.aload_n 0, 1) := by decide +kernel
theorem dX5_init_521 : decode cX5_init 521 = .ok (.invokevirtual 52, 3) := by decide +kernel
theorem dX5_init_524 : decode cX5_init 524 = .ok (.return_, 1) := by decide +kernel
theorem dX5_thrown_0 : decode cX5_thrown 0 = .ok (.aload_n 0, 1) := by decide +kernel
theorem dX5_thrown_1 : decode cX5_thrown 1 = .ok (.getfield 55, 3) := by decide +kernel
theorem dX5_thrown_4 : decode cX5_thrown 4 = .ok (.ireturn, 1) := by decide +kernel
theorem dX5_in_0 : decode cX5_in 0 = .ok (.iload_n 0, 1) := by decide +kernel
theorem dX5_in_1 : decode cX5_in 1 = .ok (.iload_n 1, 1) := by decide +kernel
theorem dX5_in_2 : decode cX5_in 2 = .ok (.if_icmp .lt 12, 3) := by decide +kernel
theorem dX5_in_5 : decode cX5_in 5 = .ok (.iload_n 0, 1) := by decide +kernel
theorem dX5_in_6 : decode cX5_in 6 = .ok (.iload_n 2, 1) := by decide +kernel
theorem dX5_in_7 : decode cX5_in 7 = .ok (.if_icmp .gt 7, 3) := by decide +kernel
theorem dX5_in_10 : decode cX5_in 10 = .ok (.iconst 1, 1) := by decide +kernel
theorem dX5_in_11 : decode cX5_in 11 = .ok (.goto 4, 3) := by decide +kernel
theorem dX5_in_14 : decode cX5_in 14 = .ok (.iconst 0, 1) := by decide +kernel
theorem dX5_in_15 : decode cX5_in 15 = .ok (.ireturn, 1) := by decide +kernel
theorem dX5_copies_0 : decode cX5_copies 0 = .ok (.iconst 0, 1) := by decide +kernel
theorem dX5_copies_1 : decode cX5_copies 1 = .ok (.istore 4, 2) := by decide +kernel
theorem dX5_copies_3 : decode cX5_copies 3 = .ok (.iload 4, 2) := by decide +kernel
theorem dX5_copies_5 : decode cX5_copies 5 = .ok (.sipush 280, 3) := by decide +kernel
theorem dX5_copies_8 : decode cX5_copies 8 = .ok (.if_icmp .ge 21, 3) := by decide +kernel
theorem dX5_copies_11 : decode cX5_copies 11 = .ok (.aload_n 2, 1) := by decide +kernel
theorem dX5_copies_12 : decode cX5_copies 12 = .ok (.iload_n 3, 1) := by decide +kernel
theorem dX5_copies_13 : decode cX5_copies 13 = .ok (.iload 4, 2) := by decide +kernel
theorem dX5_copies_15 : decode cX5_copies 15 = .ok (.iadd, 1) := by decide +kernel
theorem dX5_copies_16 : decode cX5_copies 16 = .ok (.aload_n 0, 1) := by decide +kernel
theorem dX5_copies_17 : decode cX5_copies 17 = .ok (.iload_n 1, 1) := by decide +kernel
theorem dX5_copies_18 : decode cX5_copies 18 = .ok (.iload 4, 2) := by decide +kernel
theorem dX5_copies_20 : decode cX5_copies 20 = .ok (.iadd, 1) := by decide +kernel
theorem dX5_copies_21 : decode cX5_copies 21 = .ok (.iaload, 1) := by decide +kernel
theorem dX5_copies_22 : decode cX5_copies 22 = .ok (.iastore, 1) := by decide +kernel
theorem dX5_copies_23 : decode cX5_copies 23 = .ok (.iinc 4 1, 3) := by decide +kernel
theorem dX5_copies_26 : decode cX5_copies 26 = .ok (.goto (-23), 3) := by decide +kernel
theorem dX5_copies_29 : decode cX5_copies 29 = .ok (.return_, 1) := by decide +kernel
theorem dX5_begins_0 : decode cX5_begins 0 = .ok (.iconst 0, 1) := by decide +kernel
theorem dX5_begins_1 : decode cX5_begins 1 = .ok (.istore_n 1, 1) := by decide +kernel
theorem dX5_begins_2 : decode cX5_begins 2 = .ok (.iload_n 1, 1) := by decide +kernel
theorem dX5_begins_3 : decode cX5_begins 3 = .ok (.sipush 280, 3) := by decide +kernel
theorem dX5_begins_6 : decode cX5_begins 6 = .ok (.if_icmp .ge 16, 3) := by decide +kernel
theorem dX5_begins_9 : decode cX5_begins 9 = .ok (.aload_n 0, 1) := by decide +kernel
theorem dX5_begins_10 : decode cX5_begins 10 = .ok (.getfield 7, 3) := by decide +kernel
theorem dX5_begins_13 : decode cX5_begins 13 = .ok (.iload_n 1, 1) := by decide +kernel
theorem dX5_begins_14 : decode cX5_begins 14 = .ok (.iconst 0, 1) := by decide +kernel
theorem dX5_begins_15 : decode cX5_begins 15 = .ok (.iastore, 1) := by decide +kernel
theorem dX5_begins_16 : decode cX5_begins 16 = .ok (.iinc 1 1, 3) := by decide +kernel
theorem dX5_begins_19 : decode cX5_begins 19 = .ok (.goto (-17), 3) := by decide +kernel
theorem dX5_begins_22 : decode cX5_begins 22 = .ok (.aload_n 0, 1) := by decide +kernel
theorem dX5_begins_23 : decode cX5_begins 23 = .ok (.getfield 7, 3) := by decide +kernel
theorem dX5_begins_26 : decode cX5_begins 26 = .ok (.iconst 0, 1) := by decide +kernel
theorem dX5_begins_27 : decode cX5_begins 27 = .ok (.iconst 5, 1) := by decide +kernel
theorem dX5_begins_28 : decode cX5_begins 28 = .ok (.iastore, 1) := by decide +kernel
theorem dX5_begins_29 : decode cX5_begins 29 = .ok (.aload_n 0, 1) := by decide +kernel
theorem dX5_begins_30 : decode cX5_begins 30 = .ok (.getfield 7, 3) := by decide +kernel
theorem dX5_begins_33 : decode cX5_begins 33 = .ok (.iconst 1, 1) := by decide +kernel
theorem dX5_begins_34 : decode cX5_begins 34 = .ok (.iconst 2, 1) := by decide +kernel
theorem dX5_begins_35 : decode cX5_begins 35 = .ok (.iastore, 1) := by decide +kernel
theorem dX5_begins_36 : decode cX5_begins 36 = .ok (.aload_n 0, 1) := by decide +kernel
theorem dX5_begins_37 : decode cX5_begins 37 = .ok (.getfield 7, 3) := by decide +kernel
theorem dX5_begins_40 : decode cX5_begins 40 = .ok (.iconst 2, 1) := by decide +kernel
theorem dX5_begins_41 : decode cX5_begins 41 = .ok (.bipush 12, 2) := by decide +kernel
theorem dX5_begins_43 : decode cX5_begins 43 = .ok (.iastore, 1) := by decide +kernel
theorem dX5_begins_44 : decode cX5_begins 44 = .ok (.aload_n 0, 1) := by decide +kernel
theorem dX5_begins_45 : decode cX5_begins 45 = .ok (.getfield 7, 3) := by decide +kernel
theorem dX5_begins_48 : decode cX5_begins 48 = .ok (.iconst 3, 1) := by decide +kernel
theorem dX5_begins_49 : decode cX5_begins 49 = .ok (.iconst 5, 1) := by decide +kernel
theorem dX5_begins_50 : decode cX5_begins 50 = .ok (.iastore, 1) := by decide +kernel
theorem dX5_begins_51 : decode cX5_begins 51 = .ok (.aload_n 0, 1) := by decide +kernel
theorem dX5_begins_52 : decode cX5_begins 52 = .ok (.getfield 7, 3) := by decide +kernel
theorem dX5_begins_55 : decode cX5_begins 55 = .ok (.bipush 6, 2) := by decide +kernel
theorem dX5_begins_57 : decode cX5_begins 57 = .ok (.bipush 12, 2) := by decide +kernel
theorem dX5_begins_59 : decode cX5_begins 59 = .ok (.iastore, 1) := by decide +kernel
theorem dX5_begins_60 : decode cX5_begins 60 = .ok (.aload_n 0, 1) := by decide +kernel
theorem dX5_begins_61 : decode cX5_begins 61 = .ok (.getfield 7, 3) := by decide +kernel
theorem dX5_begins_64 : decode cX5_begins 64 = .ok (.bipush 9, 2) := by decide +kernel
theorem dX5_begins_66 : decode cX5_begins 66 = .ok (.iconst (-1), 1) := by decide +kernel
theorem dX5_begins_67 : decode cX5_begins 67 = .ok (.iastore, 1) := by decide +kernel
theorem dX5_begins_68 : decode cX5_begins 68 = .ok (.iconst 0, 1) := by decide +kernel
theorem dX5_begins_69 : decode cX5_begins 69 = .ok (.istore_n 1, 1) := by decide +kernel
theorem dX5_begins_70 : decode cX5_begins 70 = .ok (.iload_n 1, 1) := by decide +kernel
theorem dX5_begins_71 : decode cX5_begins 71 = .ok (.iconst 5, 1) := by decide +kernel
theorem dX5_begins_72 : decode cX5_begins 72 = .ok (.if_icmp .ge 29, 3) := by decide +kernel
theorem dX5_begins_75 : decode cX5_begins 75 = .ok (.aload_n 0, 1) := by decide +kernel
theorem dX5_begins_76 : decode cX5_begins 76 = .ok (.getfield 7, 3) := by decide +kernel
theorem dX5_begins_79 : decode cX5_begins 79 = .ok (.bipush 29, 2) := by decide +kernel
theorem dX5_begins_81 : decode cX5_begins 81 = .ok (.iload_n 1, 1) := by decide +kernel
theorem dX5_begins_82 : decode cX5_begins 82 = .ok (.iadd, 1) := by decide +kernel
theorem dX5_begins_83 : decode cX5_begins 83 = .ok (.iconst (-1), 1) := by decide +kernel
theorem dX5_begins_84 : decode cX5_begins 84 = .ok (.iastore, 1) := by decide +kernel
theorem dX5_begins_85 : decode cX5_begins 85 = .ok (.aload_n 0, 1) := by decide +kernel
theorem dX5_begins_86 : decode cX5_begins 86 = .ok (.getfield 7, 3) := by decide +kernel
theorem dX5_begins_89 : decode cX5_begins 89 = .ok (.bipush 38, 2) := by decide +kernel
theorem dX5_begins_91 : decode cX5_begins 91 = .ok (.iload_n 1, 1) := by decide +kernel
theorem dX5_begins_92 : decode cX5_begins 92 = .ok (.iadd, 1) := by decide +kernel
theorem dX5_begins_93 : decode cX5_begins 93 = .ok (.iconst (-1), 1) := by decide +kernel
theorem dX5_begins_94 : decode cX5_begins 94 = .ok (.iastore, 1) := by decide +kernel
theorem dX5_begins_95 : decode cX5_begins 95 = .ok (.iinc 1 1, 3) := by decide +kernel
theorem dX5_begins_98 : decode cX5_begins 98 = .ok (.goto (-28), 3) := by decide +kernel
theorem dX5_begins_101 : decode cX5_begins 101 = .ok (.return_, 1) := by decide +kernel
theorem dX5_slot_0 : decode cX5_slot 0 = .ok (.bipush 32, 2) := by decide +kernel
theorem dX5_slot_2 : decode cX5_slot 2 = .ok (.iload_n 0, 1) := by decide +kernel
theorem dX5_slot_3 : decode cX5_slot 3 = .ok (.imul, 1) := by decide +kernel
theorem dX5_slot_4 : decode cX5_slot 4 = .ok (.ireturn, 1) := by decide +kernel
theorem dX5_setsLong_0 : decode cX5_setsLong 0 = .ok (.iload_n 1, 1) := by decide +kernel
theorem dX5_setsLong_1 : decode cX5_setsLong 1 = .ok (.invokestatic 58, 3) := by decide +kernel
theorem dX5_setsLong_4 : decode cX5_setsLong 4 = .ok (.istore_n 3, 1) := by decide +kernel
theorem dX5_setsLong_5 : decode cX5_setsLong 5 = .ok (.iconst 0, 1) := by decide +kernel
theorem dX5_setsLong_6 : decode cX5_setsLong 6 = .ok (.istore 4, 2) := by decide +kernel
theorem dX5_setsLong_8 : decode cX5_setsLong 8 = .ok (.iload 4, 2) := by decide +kernel
theorem dX5_setsLong_10 : decode cX5_setsLong 10 = .ok (.bipush 32, 2) := by decide +kernel
theorem dX5_setsLong_12 : decode cX5_setsLong 12 = .ok (.if_icmp .ge 19, 3) := by decide +kernel
theorem dX5_setsLong_15 : decode cX5_setsLong 15 = .ok (.aload_n 0, 1) := by decide +kernel
theorem dX5_setsLong_16 : decode cX5_setsLong 16 = .ok (.getfield 29, 3) := by decide +kernel
theorem dX5_setsLong_19 : decode cX5_setsLong 19 = .ok (.iload_n 3, 1) := by decide +kernel
theorem dX5_setsLong_20 : decode cX5_setsLong 20 = .ok (.iload 4, 2) := by decide +kernel
theorem dX5_setsLong_22 : decode cX5_setsLong 22 = .ok (.iadd, 1) := by decide +kernel
theorem dX5_setsLong_23 : decode cX5_setsLong 23 = .ok (.iconst 0, 1) := by decide +kernel
theorem dX5_setsLong_24 : decode cX5_setsLong 24 = .ok (.iastore, 1) := by decide +kernel
theorem dX5_setsLong_25 : decode cX5_setsLong 25 = .ok (.iinc 4 1, 3) := by decide +kernel
theorem dX5_setsLong_28 : decode cX5_setsLong 28 = .ok (.goto (-20), 3) := by decide +kernel
theorem dX5_setsLong_31 : decode cX5_setsLong 31 = .ok (.aload_n 0, 1) := by decide +kernel
theorem dX5_setsLong_32 : decode cX5_setsLong 32 = .ok (.getfield 29, 3) := by decide +kernel
theorem dX5_setsLong_35 : decode cX5_setsLong 35 = .ok (.iload_n 3, 1) := by decide +kernel
theorem dX5_setsLong_36 : decode cX5_setsLong 36 = .ok (.iload_n 2, 1) := by decide +kernel
theorem dX5_setsLong_37 : decode cX5_setsLong 37 = .ok (.ifCond .le 7, 3) := by decide +kernel
theorem dX5_setsLong_40 : decode cX5_setsLong 40 = .ok (.iconst 1, 1) := by decide +kernel
theorem dX5_setsLong_41 : decode cX5_setsLong 41 = .ok (.goto 12, 3) := by decide +kernel
theorem dX5_setsLong_44 : decode cX5_setsLong 44 = .ok (.iload_n 2, 1) := by decide +kernel
theorem dX5_setsLong_45 : decode cX5_setsLong 45 = .ok (.ifCond .ge 7, 3) := by decide +kernel
theorem dX5_setsLong_48 : decode cX5_setsLong 48 = .ok (.iconst (-1), 1) := by decide +kernel
theorem dX5_setsLong_49 : decode cX5_setsLong 49 = .ok (.goto 4, 3) := by decide +kernel
theorem dX5_setsLong_52 : decode cX5_setsLong 52 = .ok (.iconst 0, 1) := by decide +kernel
theorem dX5_setsLong_53 : decode cX5_setsLong 53 = .ok (.iastore, 1) := by decide +kernel
theorem dX5_setsLong_54 : decode cX5_setsLong 54 = .ok (.aload_n 0, 1) := by decide +kernel
theorem dX5_setsLong_55 : decode cX5_setsLong 55 = .ok (.getfield 29, 3) := by decide +kernel
theorem dX5_setsLong_58 : decode cX5_setsLong 58 = .ok (.iload_n 3, 1) := by decide +kernel
theorem dX5_setsLong_59 : decode cX5_setsLong 59 = .ok (.iconst 1, 1) := by decide +kernel
theorem dX5_setsLong_60 : decode cX5_setsLong 60 = .ok (.iadd, 1) := by decide +kernel
theorem dX5_setsLong_61 : decode cX5_setsLong 61 = .ok (.iload_n 2, 1) := by decide +kernel
theorem dX5_setsLong_62 : decode cX5_setsLong 62 = .ok (.ifCond .ge 8, 3) := by decide +kernel
theorem dX5_setsLong_65 : decode cX5_setsLong 65 = .ok (.iload_n 2, 1) := by decide +kernel
theorem dX5_setsLong_66 : decode cX5_setsLong 66 = .ok (.ineg, 1) := by decide +kernel
theorem dX5_setsLong_67 : decode cX5_setsLong 67 = .ok (.goto 4, 3) := by decide +kernel
theorem dX5_setsLong_70 : decode cX5_setsLong 70 = .ok (.iload_n 2, 1) := by decide +kernel
theorem dX5_setsLong_71 : decode cX5_setsLong 71 = .ok (.iastore, 1) := by decide +kernel
theorem dX5_setsLong_72 : decode cX5_setsLong 72 = .ok (.return_, 1) := by decide +kernel
theorem dX5_copiesLong_0 : decode cX5_copiesLong 0 = .ok (.iconst 0, 1) := by decide +kernel
theorem dX5_copiesLong_1 : decode cX5_copiesLong 1 = .ok (.istore_n 3, 1) := by decide +kernel
theorem dX5_copiesLong_2 : decode cX5_copiesLong 2 = .ok (.iload_n 3, 1) := by decide +kernel
theorem dX5_copiesLong_3 : decode cX5_copiesLong 3 = .ok (.bipush 32, 2) := by decide +kernel
theorem dX5_copiesLong_5 : decode cX5_copiesLong 5 = .ok (.if_icmp .ge 31, 3) := by decide +kernel
theorem dX5_copiesLong_8 : decode cX5_copiesLong 8 = .ok (.aload_n 0, 1) := by decide +kernel
theorem dX5_copiesLong_9 : decode cX5_copiesLong 9 = .ok (.getfield 29, 3) := by decide +kernel
theorem dX5_copiesLong_12 : decode cX5_copiesLong 12 = .ok (.iload_n 2, 1) := by decide +kernel
theorem dX5_copiesLong_13 : decode cX5_copiesLong 13 = .ok (.invokestatic 58, 3) := by decide +kernel
theorem dX5_copiesLong_16 : decode cX5_copiesLong 16 = .ok (.iload_n 3, 1) := by decide +kernel
theorem dX5_copiesLong_17 : decode cX5_copiesLong 17 = .ok (.iadd, 1) := by decide +kernel
theorem dX5_copiesLong_18 : decode cX5_copiesLong 18 = .ok (.aload_n 0, 1) := by decide +kernel
theorem dX5_copiesLong_19 : decode cX5_copiesLong 19 = .ok (.getfield 29, 3) := by decide +kernel
theorem dX5_copiesLong_22 : decode cX5_copiesLong 22 = .ok (.iload_n 1, 1) := by decide +kernel
theorem dX5_copiesLong_23 : decode cX5_copiesLong 23 = .ok (.invokestatic 58, 3) := by decide +kernel
theorem dX5_copiesLong_26 : decode cX5_copiesLong 26 = .ok (.iload_n 3, 1) := by decide +kernel
theorem dX5_copiesLong_27 : decode cX5_copiesLong 27 = .ok (.iadd, 1) := by decide +kernel
theorem dX5_copiesLong_28 : decode cX5_copiesLong 28 = .ok (.iaload, 1) := by decide +kernel
theorem dX5_copiesLong_29 : decode cX5_copiesLong 29 = .ok (.iastore, 1) := by decide +kernel
theorem dX5_copiesLong_30 : decode cX5_copiesLong 30 = .ok (.iinc 3 1, 3) := by decide +kernel
theorem dX5_copiesLong_33 : decode cX5_copiesLong 33 = .ok (.goto (-31), 3) := by decide +kernel
theorem dX5_copiesLong_36 : decode cX5_copiesLong 36 = .ok (.return_, 1) := by decide +kernel
theorem dX5_signOf_0 : decode cX5_signOf 0 = .ok (.aload_n 0, 1) := by decide +kernel
theorem dX5_signOf_1 : decode cX5_signOf 1 = .ok (.getfield 29, 3) := by decide +kernel
theorem dX5_signOf_4 : decode cX5_signOf 4 = .ok (.iload_n 1, 1) := by decide +kernel
theorem dX5_signOf_5 : decode cX5_signOf 5 = .ok (.invokestatic 58, 3) := by decide +kernel
theorem dX5_signOf_8 : decode cX5_signOf 8 = .ok (.iaload, 1) := by decide +kernel
theorem dX5_signOf_9 : decode cX5_signOf 9 = .ok (.ireturn, 1) := by decide +kernel
theorem dX5_partsOf_0 : decode cX5_partsOf 0 = .ok (.iload_n 1, 1) := by decide +kernel
theorem dX5_partsOf_1 : decode cX5_partsOf 1 = .ok (.invokestatic 58, 3) := by decide +kernel
theorem dX5_partsOf_4 : decode cX5_partsOf 4 = .ok (.istore_n 2, 1) := by decide +kernel
theorem dX5_partsOf_5 : decode cX5_partsOf 5 = .ok (.aload_n 0, 1) := by decide +kernel
theorem dX5_partsOf_6 : decode cX5_partsOf 6 = .ok (.getfield 29, 3) := by decide +kernel
theorem dX5_partsOf_9 : decode cX5_partsOf 9 = .ok (.iload_n 2, 1) := by decide +kernel
theorem dX5_partsOf_10 : decode cX5_partsOf 10 = .ok (.iaload, 1) := by decide +kernel
theorem dX5_partsOf_11 : decode cX5_partsOf 11 = .ok (.ifCond .ne 7, 3) := by decide +kernel
theorem dX5_partsOf_14 : decode cX5_partsOf 14 = .ok (.iconst 0, 1) := by decide +kernel
theorem dX5_partsOf_15 : decode cX5_partsOf 15 = .ok (.goto 5, 3) := by decide +kernel
theorem dX5_partsOf_18 : decode cX5_partsOf 18 = .ok (.bipush 31, 2) := by decide +kernel
theorem dX5_partsOf_20 : decode cX5_partsOf 20 = .ok (.istore_n 3, 1) := by decide +kernel
theorem dX5_partsOf_21 : decode cX5_partsOf 21 = .ok (.iload_n 3, 1) := by decide +kernel
theorem dX5_partsOf_22 : decode cX5_partsOf 22 = .ok (.ifCond .le 20, 3) := by decide +kernel
theorem dX5_partsOf_25 : decode cX5_partsOf 25 = .ok (.aload_n 0, 1) := by decide +kernel
theorem dX5_partsOf_26 : decode cX5_partsOf 26 = .ok (.getfield 29, 3) := by decide +kernel
theorem dX5_partsOf_29 : decode cX5_partsOf 29 = .ok (.iload_n 2, 1) := by decide +kernel
theorem dX5_partsOf_30 : decode cX5_partsOf 30 = .ok (.iload_n 3, 1) := by decide +kernel
theorem dX5_partsOf_31 : decode cX5_partsOf 31 = .ok (.iadd, 1) := by decide +kernel
theorem dX5_partsOf_32 : decode cX5_partsOf 32 = .ok (.iaload, 1) := by decide +kernel
theorem dX5_partsOf_33 : decode cX5_partsOf 33 = .ok (.ifCond .ne 9, 3) := by decide +kernel
theorem dX5_partsOf_36 : decode cX5_partsOf 36 = .ok (.iinc 3 (-1), 3) := by decide +kernel
theorem dX5_partsOf_39 : decode cX5_partsOf 39 = .ok (.goto (-18), 3) := by decide +kernel
theorem dX5_partsOf_42 : decode cX5_partsOf 42 = .ok (.iload_n 3, 1) := by decide +kernel
theorem dX5_partsOf_43 : decode cX5_partsOf 43 = .ok (.ireturn, 1) := by decide +kernel
theorem dX5_multiplies_0 : decode cX5_multiplies 0 = .ok (.iload_n 1, 1) := by decide +kernel
theorem dX5_multiplies_1 : decode cX5_multiplies 1 = .ok (.invokestatic 58, 3) := by decide +kernel
theorem dX5_multiplies_4 : decode cX5_multiplies 4 = .ok (.istore 4, 2) := by decide +kernel
theorem dX5_multiplies_6 : decode cX5_multiplies 6 = .ok (.iload_n 2, 1) := by decide +kernel
theorem dX5_multiplies_7 : decode cX5_multiplies 7 = .ok (.invokestatic 58, 3) := by decide +kernel
theorem dX5_multiplies_10 : decode cX5_multiplies 10 = .ok (.istore 5, 2) := by decide +kernel
theorem dX5_multiplies_12 : decode cX5_multiplies 12 = .ok (.iload_n 3, 1) := by decide +kernel
theorem dX5_multiplies_13 : decode cX5_multiplies 13 = .ok (.invokestatic 58, 3) := by decide +kernel
theorem dX5_multiplies_16 : decode cX5_multiplies 16 = .ok (.istore 6, 2) := by decide +kernel
theorem dX5_multiplies_18 : decode cX5_multiplies 18 = .ok (.aload_n 0, 1) := by decide +kernel
theorem dX5_multiplies_19 : decode cX5_multiplies 19 = .ok (.iload_n 1, 1) := by decide +kernel
theorem dX5_multiplies_20 : decode cX5_multiplies 20 = .ok (.invokevirtual 62, 3) := by decide +kernel
theorem dX5_multiplies_23 : decode cX5_multiplies 23 = .ok (.istore 7, 2) := by decide +kernel
theorem dX5_multiplies_25 : decode cX5_multiplies 25 = .ok (.aload_n 0, 1) := by decide +kernel
theorem dX5_multiplies_26 : decode cX5_multiplies 26 = .ok (.iload_n 2, 1) := by decide +kernel
theorem dX5_multiplies_27 : decode cX5_multiplies 27 = .ok (.invokevirtual 62, 3) := by decide +kernel
theorem dX5_multiplies_30 : decode cX5_multiplies 30 = .ok (.istore 8, 2) := by decide +kernel
theorem dX5_multiplies_32 : decode cX5_multiplies 32 = .ok (.aload_n 0, 1) := by decide +kernel
theorem dX5_multiplies_33 : decode cX5_multiplies 33 = .ok (.iload_n 3, 1) := by decide +kernel
theorem dX5_multiplies_34 : decode cX5_multiplies 34 = .ok (.iconst 0, 1) := by decide +kernel
theorem dX5_multiplies_35 : decode cX5_multiplies 35 = .ok (.invokevirtual 65, 3) := by decide +kernel
theorem dX5_multiplies_38 : decode cX5_multiplies 38 = .ok (.iconst 1, 1) := by decide +kernel
theorem dX5_multiplies_39 : decode cX5_multiplies 39 = .ok (.istore 9, 2) := by decide +kernel
theorem dX5_multiplies_41 : decode cX5_multiplies 41 = .ok (.iload 9, 2) := by decide +kernel
theorem dX5_multiplies_43 : decode cX5_multiplies 43 = .ok (.iload 7, 2) := by decide +kernel
theorem dX5_multiplies_45 : decode cX5_multiplies 45 = .ok (.if_icmp .gt 121, 3) := by decide +kernel
theorem dX5_multiplies_48 : decode cX5_multiplies 48 = .ok (.lconst 0, 1) := by decide +kernel
theorem dX5_multiplies_49 : decode cX5_multiplies 49 = .ok (.lstore 10, 2) := by decide +kernel
theorem dX5_multiplies_51 : decode cX5_multiplies 51 = .ok (.iconst 1, 1) := by decide +kernel
theorem dX5_multiplies_52 : decode cX5_multiplies 52 = .ok (.istore 12, 2) := by decide +kernel
theorem dX5_multiplies_54 : decode cX5_multiplies 54 = .ok (.iload 12, 2) := by decide +kernel
theorem dX5_multiplies_56 : decode cX5_multiplies 56 = .ok (.iload 8, 2) := by decide +kernel
theorem dX5_multiplies_58 : decode cX5_multiplies 58 = .ok (.if_icmp .le 10, 3) := by decide +kernel
theorem dX5_multiplies_61 : decode cX5_multiplies 61 = .ok (.lload 10, 2) := by decide +kernel
theorem dX5_multiplies_63 : decode cX5_multiplies 63 = .ok (.lconst 0, 1) := by decide +kernel
theorem dX5_multiplies_64 : decode cX5_multiplies 64 = .ok (.lcmp, 1) := by decide +kernel
theorem dX5_multiplies_65 : decode cX5_multiplies 65 = .ok (.ifCond .le 95, 3) := by decide +kernel
theorem dX5_multiplies_68 : decode cX5_multiplies 68 = .ok (.aload_n 0, 1) := by decide +kernel
theorem dX5_multiplies_69 : decode cX5_multiplies 69 = .ok (.getfield 29, 3) := by decide +kernel
theorem dX5_multiplies_72 : decode cX5_multiplies 72 = .ok (.iload 6, 2) := by decide +kernel
theorem dX5_multiplies_74 : decode cX5_multiplies 74 = .ok (.iload 9, 2) := by decide +kernel
theorem dX5_multiplies_76 : decode cX5_multiplies 76 = .ok (.iadd, 1) := by decide +kernel
theorem dX5_multiplies_77 : decode cX5_multiplies 77 = .ok (.iload 12, 2) := by decide +kernel
theorem dX5_multiplies_79 : decode cX5_multiplies 79 = .ok (.iadd, 1) := by decide +kernel
theorem dX5_multiplies_80 : decode cX5_multiplies 80 = .ok (.iconst 1, 1) := by decide +kernel
theorem dX5_multiplies_81 : decode cX5_multiplies 81 = .ok (.isub, 1) := by decide +kernel
theorem dX5_multiplies_82 : decode cX5_multiplies 82 = .ok (.iaload, 1) := by decide +kernel
theorem dX5_multiplies_83 : decode cX5_multiplies 83 = .ok (.i2l, 1) := by decide +kernel
theorem dX5_multiplies_84 : decode cX5_multiplies 84 = .ok (.lload 10, 2) := by decide +kernel
theorem dX5_multiplies_86 : decode cX5_multiplies 86 = .ok (.ladd, 1) := by decide +kernel
theorem dX5_multiplies_87 : decode cX5_multiplies 87 = .ok (.iload 12, 2) := by decide +kernel
theorem dX5_multiplies_89 : decode cX5_multiplies 89 = .ok (.iload 8, 2) := by decide +kernel
theorem dX5_multiplies_91 : decode cX5_multiplies 91 = .ok (.if_icmp .gt 29, 3) := by decide +kernel
theorem dX5_multiplies_94 : decode cX5_multiplies 94 = .ok (.aload_n 0, 1) := by decide +kernel
theorem dX5_multiplies_95 : decode cX5_multiplies 95 = .ok (.getfield 29, 3) := by decide +kernel
theorem dX5_multiplies_98 : decode cX5_multiplies 98 = .ok (.iload 4, 2) := by decide +kernel
theorem dX5_multiplies_100 : decode cX5_multiplies 100 = .ok (.iload 9, 2) := by decide +kernel
theorem dX5_multiplies_102 : decode cX5_multiplies 102 = .ok (.iadd, 1) := by decide +kernel
theorem dX5_multiplies_103 : decode cX5_multiplies 103 = .ok (.iaload, 1) := by decide +kernel
theorem dX5_multiplies_104 : decode cX5_multiplies 104 = .ok (.i2l, 1) := by decide +kernel
theorem dX5_multiplies_105 : decode cX5_multiplies 105 = .ok (.aload_n 0, 1) := by decide +kernel
theorem dX5_multiplies_106 : decode cX5_multiplies 106 = .ok (.getfield 29, 3) := by decide +kernel
theorem dX5_multiplies_109 : decode cX5_multiplies 109 = .ok (.iload 5, 2) := by decide +kernel
theorem dX5_multiplies_111 : decode cX5_multiplies 111 = .ok (.iload 12, 2) := by decide +kernel
theorem dX5_multiplies_113 : decode cX5_multiplies 113 = .ok (.iadd, 1) := by decide +kernel
theorem dX5_multiplies_114 : decode cX5_multiplies 114 = .ok (.iaload, 1) := by decide +kernel
theorem dX5_multiplies_115 : decode cX5_multiplies 115 = .ok (.i2l, 1) := by decide +kernel
theorem dX5_multiplies_116 : decode cX5_multiplies 116 = .ok (.lmul, 1) := by decide +kernel
theorem dX5_multiplies_117 : decode cX5_multiplies 117 = .ok (.goto 4, 3) := by decide +kernel
theorem dX5_multiplies_120 : decode cX5_multiplies 120 = .ok (.lconst 0, 1) := by decide +kernel
theorem dX5_multiplies_121 : decode cX5_multiplies 121 = .ok (.ladd, 1) := by decide +kernel
theorem dX5_multiplies_122 : decode cX5_multiplies 122 = .ok (.lstore 13, 2) := by decide +kernel
theorem dX5_multiplies_124 : decode cX5_multiplies 124 = .ok (.aload_n 0, 1) := by decide +kernel
theorem dX5_multiplies_125 : decode cX5_multiplies 125 = .ok (.getfield 29, 3) := by decide +kernel
theorem dX5_multiplies_128 : decode cX5_multiplies 128 = .ok (.iload 6, 2) := by decide +kernel
theorem dX5_multiplies_130 : decode cX5_multiplies 130 = .ok (.iload 9, 2) := by decide +kernel
theorem dX5_multiplies_132 : decode cX5_multiplies 132 = .ok (.iadd, 1) := by decide +kernel
theorem dX5_multiplies_133 : decode cX5_multiplies 133 = .ok (.iload 12, 2) := by decide +kernel
theorem dX5_multiplies_135 : decode cX5_multiplies 135 = .ok (.iadd, 1) := by decide +kernel
theorem dX5_multiplies_136 : decode cX5_multiplies 136 = .ok (.iconst 1, 1) := by decide +kernel
theorem dX5_multiplies_137 : decode cX5_multiplies 137 = .ok (.isub, 1) := by decide +kernel
theorem dX5_multiplies_138 : decode cX5_multiplies 138 = .ok (.lload 13, 2) := by decide +kernel
theorem dX5_multiplies_140 : decode cX5_multiplies 140 = .ok (.ldc2_w 69, 3) := by decide +kernel
theorem dX5_multiplies_143 : decode cX5_multiplies 143 = .ok (.lrem, 1) := by decide +kernel
theorem dX5_multiplies_144 : decode cX5_multiplies 144 = .ok (.l2i, 1) := by decide +kernel
theorem dX5_multiplies_145 : decode cX5_multiplies 145 = .ok (.iastore, 1) := by decide +kernel
theorem dX5_multiplies_146 : decode cX5_multiplies 146 = .ok (.lload 13, 2) := by decide +kernel
theorem dX5_multiplies_148 : decode cX5_multiplies 148 = .ok (.ldc2_w 69, 3) := by decide +kernel
theorem dX5_multiplies_151 : decode cX5_multiplies 151 = .ok (.ldiv, 1) := by decide +kernel
theorem dX5_multiplies_152 : decode cX5_multiplies 152 = .ok (.lstore 10, 2) := by decide +kernel
theorem dX5_multiplies_154 : decode cX5_multiplies 154 = .ok (.iinc 12 1, 3) := by decide +kernel
theorem dX5_multiplies_157 : decode cX5_multiplies 157 = .ok (.goto (-103), 3) := by decide +kernel
theorem dX5_multiplies_160 : decode cX5_multiplies 160 = .ok (.iinc 9 1, 3) := by decide +kernel
theorem dX5_multiplies_163 : decode cX5_multiplies 163 = .ok (.goto (-122), 3) := by decide +kernel
theorem dX5_multiplies_166 : decode cX5_multiplies 166 = .ok (.aload_n 0, 1) := by decide +kernel
theorem dX5_multiplies_167 : decode cX5_multiplies 167 = .ok (.getfield 29, 3) := by decide +kernel
theorem dX5_multiplies_170 : decode cX5_multiplies 170 = .ok (.iload 6, 2) := by decide +kernel
theorem dX5_multiplies_172 : decode cX5_multiplies 172 = .ok (.aload_n 0, 1) := by decide +kernel
theorem dX5_multiplies_173 : decode cX5_multiplies 173 = .ok (.getfield 29, 3) := by decide +kernel
theorem dX5_multiplies_176 : decode cX5_multiplies 176 = .ok (.iload 4, 2) := by decide +kernel
theorem dX5_multiplies_178 : decode cX5_multiplies 178 = .ok (.iaload, 1) := by decide +kernel
theorem dX5_multiplies_179 : decode cX5_multiplies 179 = .ok (.aload_n 0, 1) := by decide +kernel
theorem dX5_multiplies_180 : decode cX5_multiplies 180 = .ok (.getfield 29, 3) := by decide +kernel
theorem dX5_multiplies_183 : decode cX5_multiplies 183 = .ok (.iload 5, 2) := by decide +kernel
theorem dX5_multiplies_185 : decode cX5_multiplies 185 = .ok (.iaload, 1) := by decide +kernel
theorem dX5_multiplies_186 : decode cX5_multiplies 186 = .ok (.imul, 1) := by decide +kernel
theorem dX5_multiplies_187 : decode cX5_multiplies 187 = .ok (.iastore, 1) := by decide +kernel
theorem dX5_multiplies_188 : decode cX5_multiplies 188 = .ok (.return_, 1) := by decide +kernel
theorem dX5_multipliesBy_0 : decode cX5_multipliesBy 0 = .ok (.iload_n 1, 1) := by decide +kernel
theorem dX5_multipliesBy_1 : decode cX5_multipliesBy 1 = .ok (.invokestatic 58, 3) := by decide +kernel
theorem dX5_multipliesBy_4 : decode cX5_multipliesBy 4 = .ok (.istore_n 3, 1) := by decide +kernel
theorem dX5_multipliesBy_5 : decode cX5_multipliesBy 5 = .ok (.aload_n 0, 1) := by decide +kernel
theorem dX5_multipliesBy_6 : decode cX5_multipliesBy 6 = .ok (.iload_n 1, 1) := by decide +kernel
theorem dX5_multipliesBy_7 : decode cX5_multipliesBy 7 = .ok (.invokevirtual 62, 3) := by decide +kernel
theorem dX5_multipliesBy_10 : decode cX5_multipliesBy 10 = .ok (.istore 4, 2) := by decide +kernel
theorem dX5_multipliesBy_12 : decode cX5_multipliesBy 12 = .ok (.iload_n 2, 1) := by decide +kernel
theorem dX5_multipliesBy_13 : decode cX5_multipliesBy 13 = .ok (.ifCond .ge 9, 3) := by decide +kernel
theorem dX5_multipliesBy_16 : decode cX5_multipliesBy 16 = .ok (.iload_n 2, 1) := by decide +kernel
theorem dX5_multipliesBy_17 : decode cX5_multipliesBy 17 = .ok (.i2l, 1) := by decide +kernel
theorem dX5_multipliesBy_18 : decode cX5_multipliesBy 18 = .ok (.lneg, 1) := by decide +kernel
theorem dX5_multipliesBy_19 : decode cX5_multipliesBy 19 = .ok (.goto 5, 3) := by decide +kernel
theorem dX5_multipliesBy_22 : decode cX5_multipliesBy 22 = .ok (.iload_n 2, 1) := by decide +kernel
theorem dX5_multipliesBy_23 : decode cX5_multipliesBy 23 = .ok (.i2l, 1) := by decide +kernel
theorem dX5_multipliesBy_24 : decode cX5_multipliesBy 24 = .ok (.lstore 5, 2) := by decide +kernel
theorem dX5_multipliesBy_26 : decode cX5_multipliesBy 26 = .ok (.lconst 0, 1) := by decide +kernel
theorem dX5_multipliesBy_27 : decode cX5_multipliesBy 27 = .ok (.lstore 7, 2) := by decide +kernel
theorem dX5_multipliesBy_29 : decode cX5_multipliesBy 29 = .ok (.iconst 1, 1) := by decide +kernel
theorem dX5_multipliesBy_30 : decode cX5_multipliesBy 30 = .ok (.istore 9, 2) := by decide +kernel
theorem dX5_multipliesBy_32 : decode cX5_multipliesBy 32 = .ok (.iload 9, 2) := by decide +kernel
theorem dX5_multipliesBy_34 : decode cX5_multipliesBy 34 = .ok (.iload 4, 2) := by decide +kernel
theorem dX5_multipliesBy_36 : decode cX5_multipliesBy 36 = .ok (.if_icmp .le 10, 3) := by decide +kernel
theorem dX5_multipliesBy_39 : decode cX5_multipliesBy 39 = .ok (.lload 7, 2) := by decide +kernel
theorem dX5_multipliesBy_41 : decode cX5_multipliesBy 41 = .ok (.lconst 0, 1) := by decide +kernel
theorem dX5_multipliesBy_42 : decode cX5_multipliesBy 42 = .ok (.lcmp, 1) := by decide +kernel
theorem dX5_multipliesBy_43 : decode cX5_multipliesBy 43 = .ok (.ifCond .le 51, 3) := by decide +kernel
theorem dX5_multipliesBy_46 : decode cX5_multipliesBy 46 = .ok (.aload_n 0, 1) := by decide +kernel
theorem dX5_multipliesBy_47 : decode cX5_multipliesBy 47 = .ok (.getfield 29, 3) := by decide +kernel
theorem dX5_multipliesBy_50 : decode cX5_multipliesBy 50 = .ok (.iload_n 3, 1) := by decide +kernel
theorem dX5_multipliesBy_51 : decode cX5_multipliesBy 51 = .ok (.iload 9, 2) := by decide +kernel
theorem dX5_multipliesBy_53 : decode cX5_multipliesBy 53 = .ok (.iadd, 1) := by decide +kernel
theorem dX5_multipliesBy_54 : decode cX5_multipliesBy 54 = .ok (.iaload, 1) := by decide +kernel
theorem dX5_multipliesBy_55 : decode cX5_multipliesBy 55 = .ok (.i2l, 1) := by decide +kernel
theorem dX5_multipliesBy_56 : decode cX5_multipliesBy 56 = .ok (.lload 5, 2) := by decide +kernel
theorem dX5_multipliesBy_58 : decode cX5_multipliesBy 58 = .ok (.lmul, 1) := by decide +kernel
theorem dX5_multipliesBy_59 : decode cX5_multipliesBy 59 = .ok (.lload 7, 2) := by decide +kernel
theorem dX5_multipliesBy_61 : decode cX5_multipliesBy 61 = .ok (.ladd, 1) := by decide +kernel
theorem dX5_multipliesBy_62 : decode cX5_multipliesBy 62 = .ok (.lstore 10, 2) := by decide +kernel
theorem dX5_multipliesBy_64 : decode cX5_multipliesBy 64 = .ok (.aload_n 0, 1) := by decide +kernel
theorem dX5_multipliesBy_65 : decode cX5_multipliesBy 65 = .ok (.getfield 29, 3) := by decide +kernel
theorem dX5_multipliesBy_68 : decode cX5_multipliesBy 68 = .ok (.iload_n 3, 1) := by decide +kernel
theorem dX5_multipliesBy_69 : decode cX5_multipliesBy 69 = .ok (.iload 9, 2) := by decide +kernel
theorem dX5_multipliesBy_71 : decode cX5_multipliesBy 71 = .ok (.iadd, 1) := by decide +kernel
theorem dX5_multipliesBy_72 : decode cX5_multipliesBy 72 = .ok (.lload 10, 2) := by decide +kernel
theorem dX5_multipliesBy_74 : decode cX5_multipliesBy 74 = .ok (.ldc2_w 69, 3) := by decide +kernel
theorem dX5_multipliesBy_77 : decode cX5_multipliesBy 77 = .ok (.lrem, 1) := by decide +kernel
theorem dX5_multipliesBy_78 : decode cX5_multipliesBy 78 = .ok (.l2i, 1) := by decide +kernel
theorem dX5_multipliesBy_79 : decode cX5_multipliesBy 79 = .ok (.iastore, 1) := by decide +kernel
theorem dX5_multipliesBy_80 : decode cX5_multipliesBy 80 = .ok (.lload 10, 2) := by decide +kernel
theorem dX5_multipliesBy_82 : decode cX5_multipliesBy 82 = .ok (.ldc2_w 69, 3) := by decide +kernel
theorem dX5_multipliesBy_85 : decode cX5_multipliesBy 85 = .ok (.ldiv, 1) := by decide +kernel
theorem dX5_multipliesBy_86 : decode cX5_multipliesBy 86 = .ok (.lstore 7, 2) := by decide +kernel
theorem dX5_multipliesBy_88 : decode cX5_multipliesBy 88 = .ok (.iinc 9 1, 3) := by decide +kernel
theorem dX5_multipliesBy_91 : decode cX5_multipliesBy 91 = .ok (.goto (-59), 3) := by decide +kernel
theorem dX5_multipliesBy_94 : decode cX5_multipliesBy 94 = .ok (.aload_n 0, 1) := by decide +kernel
theorem dX5_multipliesBy_95 : decode cX5_multipliesBy 95 = .ok (.getfield 29, 3) := by decide +kernel
theorem dX5_multipliesBy_98 : decode cX5_multipliesBy 98 = .ok (.iload_n 3, 1) := by decide +kernel
theorem dX5_multipliesBy_99 : decode cX5_multipliesBy 99 = .ok (.iload_n 2, 1) := by decide +kernel
theorem dX5_multipliesBy_100 : decode cX5_multipliesBy 100 = .ok (.ifCond .ne 7, 3) := by decide +kernel
theorem dX5_multipliesBy_103 : decode cX5_multipliesBy 103 = .ok (.iconst 0, 1) := by decide +kernel
theorem dX5_multipliesBy_104 : decode cX5_multipliesBy 104 = .ok (.goto 23, 3) := by decide +kernel
theorem dX5_multipliesBy_107 : decode cX5_multipliesBy 107 = .ok (.iload_n 2, 1) := by decide +kernel
theorem dX5_multipliesBy_108 : decode cX5_multipliesBy 108 = .ok (.ifCond .ge 13, 3) := by decide +kernel
theorem dX5_multipliesBy_111 : decode cX5_multipliesBy 111 = .ok (.aload_n 0, 1) := by decide +kernel
theorem dX5_multipliesBy_112 : decode cX5_multipliesBy 112 = .ok (.getfield 29, 3) := by decide +kernel
theorem dX5_multipliesBy_115 : decode cX5_multipliesBy 115 = .ok (.iload_n 3, 1) := by decide +kernel
theorem dX5_multipliesBy_116 : decode cX5_multipliesBy 116 = .ok (.iaload, 1) := by decide +kernel
theorem dX5_multipliesBy_117 : decode cX5_multipliesBy 117 = .ok (.ineg, 1) := by decide +kernel
theorem dX5_multipliesBy_118 : decode cX5_multipliesBy 118 = .ok (.goto 9, 3) := by decide +kernel
theorem dX5_multipliesBy_121 : decode cX5_multipliesBy 121 = .ok (.aload_n 0, 1) := by decide +kernel
theorem dX5_multipliesBy_122 : decode cX5_multipliesBy 122 = .ok (.getfield 29, 3) := by decide +kernel
theorem dX5_multipliesBy_125 : decode cX5_multipliesBy 125 = .ok (.iload_n 3, 1) := by decide +kernel
theorem dX5_multipliesBy_126 : decode cX5_multipliesBy 126 = .ok (.iaload, 1) := by decide +kernel
theorem dX5_multipliesBy_127 : decode cX5_multipliesBy 127 = .ok (.iastore, 1) := by decide +kernel
theorem dX5_multipliesBy_128 : decode cX5_multipliesBy 128 = .ok (.iload_n 2, 1) := by decide +kernel
theorem dX5_multipliesBy_129 : decode cX5_multipliesBy 129 = .ok (.ifCond .ne 9, 3) := by decide +kernel
theorem dX5_multipliesBy_132 : decode cX5_multipliesBy 132 = .ok (.aload_n 0, 1) := by decide +kernel
theorem dX5_multipliesBy_133 : decode cX5_multipliesBy 133 = .ok (.iload_n 1, 1) := by decide +kernel
theorem dX5_multipliesBy_134 : decode cX5_multipliesBy 134 = .ok (.iconst 0, 1) := by decide +kernel
theorem dX5_multipliesBy_135 : decode cX5_multipliesBy 135 = .ok (.invokevirtual 65, 3) := by decide +kernel
theorem dX5_multipliesBy_138 : decode cX5_multipliesBy 138 = .ok (.return_, 1) := by decide +kernel
theorem dX5_comparesAmounts_0 : decode cX5_comparesAmounts 0 = .ok (.aload_n 0, 1) := by decide +kernel
theorem dX5_comparesAmounts_1 : decode cX5_comparesAmounts 1 = .ok (.iload_n 1, 1) := by decide +kernel
theorem dX5_comparesAmounts_2 : decode cX5_comparesAmounts 2 = .ok (.invokevirtual 62, 3) := by decide +kernel
theorem dX5_comparesAmounts_5 : decode cX5_comparesAmounts 5 = .ok (.istore_n 3, 1) := by decide +kernel
theorem dX5_comparesAmounts_6 : decode cX5_comparesAmounts 6 = .ok (.aload_n 0, 1) := by decide +kernel
theorem dX5_comparesAmounts_7 : decode cX5_comparesAmounts 7 = .ok (.iload_n 2, 1) := by decide +kernel
theorem dX5_comparesAmounts_8 : decode cX5_comparesAmounts 8 = .ok (.invokevirtual 62, 3) := by decide +kernel
theorem dX5_comparesAmounts_11 : decode cX5_comparesAmounts 11 = .ok (.istore 4, 2) := by decide +kernel
theorem dX5_comparesAmounts_13 : decode cX5_comparesAmounts 13 = .ok (.iload_n 3, 1) := by decide +kernel
theorem dX5_comparesAmounts_14 : decode cX5_comparesAmounts 14 = .ok (.iload 4, 2) := by decide +kernel
theorem dX5_comparesAmounts_16 : decode cX5_comparesAmounts 16 = .ok (.if_icmp .eq 15, 3) := by decide +kernel
theorem dX5_comparesAmounts_19 : decode cX5_comparesAmounts 19 = .ok (.iload_n 3, 1) := by decide +kernel
theorem dX5_comparesAmounts_20 : decode cX5_comparesAmounts 20 = .ok (.iload 4, 2) := by decide +kernel
theorem dX5_comparesAmounts_22 : decode cX5_comparesAmounts 22 = .ok (.if_icmp .le 7, 3) := by decide +kernel
theorem dX5_comparesAmounts_25 : decode cX5_comparesAmounts 25 = .ok (.iconst 1, 1) := by decide +kernel
theorem dX5_comparesAmounts_26 : decode cX5_comparesAmounts 26 = .ok (.goto 4, 3) := by decide +kernel
theorem dX5_comparesAmounts_29 : decode cX5_comparesAmounts 29 = .ok (.iconst (-1), 1) := by decide +kernel
theorem dX5_comparesAmounts_30 : decode cX5_comparesAmounts 30 = .ok (.ireturn, 1) := by decide +kernel
theorem dX5_comparesAmounts_31 : decode cX5_comparesAmounts 31 = .ok (.iload_n 3, 1) := by decide +kernel
theorem dX5_comparesAmounts_32 : decode cX5_comparesAmounts 32 = .ok (.ifCond .le 34, 3) := by decide +kernel
theorem dX5_comparesAmounts_35 : decode cX5_comparesAmounts 35 = .ok (.aload_n 0, 1) := by decide +kernel
theorem dX5_comparesAmounts_36 : decode cX5_comparesAmounts 36 = .ok (.getfield 29, 3) := by decide +kernel
theorem dX5_comparesAmounts_39 : decode cX5_comparesAmounts 39 = .ok (.iload_n 1, 1) := by decide +kernel
theorem dX5_comparesAmounts_40 : decode cX5_comparesAmounts 40 = .ok (.invokestatic 58, 3) := by decide +kernel
theorem dX5_comparesAmounts_43 : decode cX5_comparesAmounts 43 = .ok (.iload_n 3, 1) := by decide +kernel
theorem dX5_comparesAmounts_44 : decode cX5_comparesAmounts 44 = .ok (.iadd, 1) := by decide +kernel
theorem dX5_comparesAmounts_45 : decode cX5_comparesAmounts 45 = .ok (.iaload, 1) := by decide +kernel
theorem dX5_comparesAmounts_46 : decode cX5_comparesAmounts 46 = .ok (.aload_n 0, 1) := by decide +kernel
theorem dX5_comparesAmounts_47 : decode cX5_comparesAmounts 47 = .ok (.getfield 29, 3) := by decide +kernel
theorem dX5_comparesAmounts_50 : decode cX5_comparesAmounts 50 = .ok (.iload_n 2, 1) := by decide +kernel
theorem dX5_comparesAmounts_51 : decode cX5_comparesAmounts 51 = .ok (.invokestatic 58, 3) := by decide +kernel
theorem dX5_comparesAmounts_54 : decode cX5_comparesAmounts 54 = .ok (.iload_n 3, 1) := by decide +kernel
theorem dX5_comparesAmounts_55 : decode cX5_comparesAmounts 55 = .ok (.iadd, 1) := by decide +kernel
theorem dX5_comparesAmounts_56 : decode cX5_comparesAmounts 56 = .ok (.iaload, 1) := by decide +kernel
theorem dX5_comparesAmounts_57 : decode cX5_comparesAmounts 57 = .ok (.if_icmp .ne 9, 3) := by decide +kernel
theorem dX5_comparesAmounts_60 : decode cX5_comparesAmounts 60 = .ok (.iinc 3 (-1), 3) := by decide +kernel
theorem dX5_comparesAmounts_63 : decode cX5_comparesAmounts 63 = .ok (.goto (-32), 3) := by decide +kernel
theorem dX5_comparesAmounts_66 : decode cX5_comparesAmounts 66 = .ok (.iload_n 3, 1) := by decide +kernel
theorem dX5_comparesAmounts_67 : decode cX5_comparesAmounts 67 = .ok (.ifCond .ne 7, 3) := by decide +kernel
theorem dX5_comparesAmounts_70 : decode cX5_comparesAmounts 70 = .ok (.iconst 0, 1) := by decide +kernel
theorem dX5_comparesAmounts_71 : decode cX5_comparesAmounts 71 = .ok (.goto 33, 3) := by decide +kernel
theorem dX5_comparesAmounts_74 : decode cX5_comparesAmounts 74 = .ok (.aload_n 0, 1) := by decide +kernel
theorem dX5_comparesAmounts_75 : decode cX5_comparesAmounts 75 = .ok (.getfield 29, 3) := by decide +kernel
theorem dX5_comparesAmounts_78 : decode cX5_comparesAmounts 78 = .ok (.iload_n 1, 1) := by decide +kernel
theorem dX5_comparesAmounts_79 : decode cX5_comparesAmounts 79 = .ok (.invokestatic 58, 3) := by decide +kernel
theorem dX5_comparesAmounts_82 : decode cX5_comparesAmounts 82 = .ok (.iload_n 3, 1) := by decide +kernel
theorem dX5_comparesAmounts_83 : decode cX5_comparesAmounts 83 = .ok (.iadd, 1) := by decide +kernel
theorem dX5_comparesAmounts_84 : decode cX5_comparesAmounts 84 = .ok (.iaload, 1) := by decide +kernel
theorem dX5_comparesAmounts_85 : decode cX5_comparesAmounts 85 = .ok (.aload_n 0, 1) := by decide +kernel
theorem dX5_comparesAmounts_86 : decode cX5_comparesAmounts 86 = .ok (.getfield 29, 3) := by decide +kernel
theorem dX5_comparesAmounts_89 : decode cX5_comparesAmounts 89 = .ok (.iload_n 2, 1) := by decide +kernel
theorem dX5_comparesAmounts_90 : decode cX5_comparesAmounts 90 = .ok (.invokestatic 58, 3) := by decide +kernel
theorem dX5_comparesAmounts_93 : decode cX5_comparesAmounts 93 = .ok (.iload_n 3, 1) := by decide +kernel
theorem dX5_comparesAmounts_94 : decode cX5_comparesAmounts 94 = .ok (.iadd, 1) := by decide +kernel
theorem dX5_comparesAmounts_95 : decode cX5_comparesAmounts 95 = .ok (.iaload, 1) := by decide +kernel
theorem dX5_comparesAmounts_96 : decode cX5_comparesAmounts 96 = .ok (.if_icmp .le 7, 3) := by decide +kernel
theorem dX5_comparesAmounts_99 : decode cX5_comparesAmounts 99 = .ok (.iconst 1, 1) := by decide +kernel
theorem dX5_comparesAmounts_100 : decode cX5_comparesAmounts 100 = .ok (.goto 4, 3) := by decide +kernel
theorem dX5_comparesAmounts_103 : decode cX5_comparesAmounts 103 = .ok (.iconst (-1), 1) := by decide +kernel
theorem dX5_comparesAmounts_104 : decode cX5_comparesAmounts 104 = .ok (.ireturn, 1) := by decide +kernel
theorem dX5_addsAmount_0 : decode cX5_addsAmount 0 = .ok (.iload_n 1, 1) := by decide +kernel
theorem dX5_addsAmount_1 : decode cX5_addsAmount 1 = .ok (.invokestatic 58, 3) := by decide +kernel
theorem dX5_addsAmount_4 : decode cX5_addsAmount 4 = .ok (.istore 4, 2) := by decide +kernel
theorem dX5_addsAmount_6 : decode cX5_addsAmount 6 = .ok (.iload_n 2, 1) := by decide +kernel
theorem dX5_addsAmount_7 : decode cX5_addsAmount 7 = .ok (.invokestatic 58, 3) := by decide +kernel
theorem dX5_addsAmount_10 : decode cX5_addsAmount 10 = .ok (.istore 5, 2) := by decide +kernel
theorem dX5_addsAmount_12 : decode cX5_addsAmount 12 = .ok (.aload_n 0, 1) := by decide +kernel
theorem dX5_addsAmount_13 : decode cX5_addsAmount 13 = .ok (.iload_n 2, 1) := by decide +kernel
theorem dX5_addsAmount_14 : decode cX5_addsAmount 14 = .ok (.invokevirtual 62, 3) := by decide +kernel
theorem dX5_addsAmount_17 : decode cX5_addsAmount 17 = .ok (.istore 6, 2) := by decide +kernel
theorem dX5_addsAmount_19 : decode cX5_addsAmount 19 = .ok (.lconst 0, 1) := by decide +kernel
theorem dX5_addsAmount_20 : decode cX5_addsAmount 20 = .ok (.lstore 7, 2) := by decide +kernel
theorem dX5_addsAmount_22 : decode cX5_addsAmount 22 = .ok (.iconst 1, 1) := by decide +kernel
theorem dX5_addsAmount_23 : decode cX5_addsAmount 23 = .ok (.istore 9, 2) := by decide +kernel
theorem dX5_addsAmount_25 : decode cX5_addsAmount 25 = .ok (.iload 9, 2) := by decide +kernel
theorem dX5_addsAmount_27 : decode cX5_addsAmount 27 = .ok (.iload 6, 2) := by decide +kernel
theorem dX5_addsAmount_29 : decode cX5_addsAmount 29 = .ok (.if_icmp .le 10, 3) := by decide +kernel
theorem dX5_addsAmount_32 : decode cX5_addsAmount 32 = .ok (.lload 7, 2) := by decide +kernel
theorem dX5_addsAmount_34 : decode cX5_addsAmount 34 = .ok (.lconst 0, 1) := by decide +kernel
theorem dX5_addsAmount_35 : decode cX5_addsAmount 35 = .ok (.lcmp, 1) := by decide +kernel
theorem dX5_addsAmount_36 : decode cX5_addsAmount 36 = .ok (.ifCond .eq 100, 3) := by decide +kernel
theorem dX5_addsAmount_39 : decode cX5_addsAmount 39 = .ok (.aload_n 0, 1) := by decide +kernel
theorem dX5_addsAmount_40 : decode cX5_addsAmount 40 = .ok (.getfield 29, 3) := by decide +kernel
theorem dX5_addsAmount_43 : decode cX5_addsAmount 43 = .ok (.iload 4, 2) := by decide +kernel
theorem dX5_addsAmount_45 : decode cX5_addsAmount 45 = .ok (.iload 9, 2) := by decide +kernel
theorem dX5_addsAmount_47 : decode cX5_addsAmount 47 = .ok (.iadd, 1) := by decide +kernel
theorem dX5_addsAmount_48 : decode cX5_addsAmount 48 = .ok (.iaload, 1) := by decide +kernel
theorem dX5_addsAmount_49 : decode cX5_addsAmount 49 = .ok (.i2l, 1) := by decide +kernel
theorem dX5_addsAmount_50 : decode cX5_addsAmount 50 = .ok (.lload 7, 2) := by decide +kernel
theorem dX5_addsAmount_52 : decode cX5_addsAmount 52 = .ok (.ladd, 1) := by decide +kernel
theorem dX5_addsAmount_53 : decode cX5_addsAmount 53 = .ok (.iload 9, 2) := by decide +kernel
theorem dX5_addsAmount_55 : decode cX5_addsAmount 55 = .ok (.iload 6, 2) := by decide +kernel
theorem dX5_addsAmount_57 : decode cX5_addsAmount 57 = .ok (.if_icmp .gt 20, 3) := by decide +kernel
theorem dX5_addsAmount_60 : decode cX5_addsAmount 60 = .ok (.iload_n 3, 1) := by decide +kernel
theorem dX5_addsAmount_61 : decode cX5_addsAmount 61 = .ok (.i2l, 1) := by decide +kernel
theorem dX5_addsAmount_62 : decode cX5_addsAmount 62 = .ok (.aload_n 0, 1) := by decide +kernel
theorem dX5_addsAmount_63 : decode cX5_addsAmount 63 = .ok (.getfield 29, 3) := by decide +kernel
theorem dX5_addsAmount_66 : decode cX5_addsAmount 66 = .ok (.iload 5, 2) := by decide +kernel
theorem dX5_addsAmount_68 : decode cX5_addsAmount 68 = .ok (.iload 9, 2) := by decide +kernel
theorem dX5_addsAmount_70 : decode cX5_addsAmount 70 = .ok (.iadd, 1) := by decide +kernel
theorem dX5_addsAmount_71 : decode cX5_addsAmount 71 = .ok (.iaload, 1) := by decide +kernel
theorem dX5_addsAmount_72 : decode cX5_addsAmount 72 = .ok (.i2l, 1) := by decide +kernel
theorem dX5_addsAmount_73 : decode cX5_addsAmount 73 = .ok (.lmul, 1) := by decide +kernel
theorem dX5_addsAmount_74 : decode cX5_addsAmount 74 = .ok (.goto 4, 3) := by decide +kernel
theorem dX5_addsAmount_77 : decode cX5_addsAmount 77 = .ok (.lconst 0, 1) := by decide +kernel
theorem dX5_addsAmount_78 : decode cX5_addsAmount 78 = .ok (.ladd, 1) := by decide +kernel
theorem dX5_addsAmount_79 : decode cX5_addsAmount 79 = .ok (.lstore 10, 2) := by decide +kernel
theorem dX5_addsAmount_81 : decode cX5_addsAmount 81 = .ok (.lload 10, 2) := by decide +kernel
theorem dX5_addsAmount_83 : decode cX5_addsAmount 83 = .ok (.lconst 0, 1) := by decide +kernel
theorem dX5_addsAmount_84 : decode cX5_addsAmount 84 = .ok (.lcmp, 1) := by decide +kernel
theorem dX5_addsAmount_85 : decode cX5_addsAmount 85 = .ok (.ifCond .ge 9, 3) := by decide +kernel
theorem dX5_addsAmount_88 : decode cX5_addsAmount 88 = .ok (.ldc2_w 71, 3) := by decide +kernel
theorem dX5_addsAmount_91 : decode cX5_addsAmount 91 = .ok (.goto 17, 3) := by decide +kernel
theorem dX5_addsAmount_94 : decode cX5_addsAmount 94 = .ok (.lload 10, 2) := by decide +kernel
theorem dX5_addsAmount_96 : decode cX5_addsAmount 96 = .ok (.ldc2_w 69, 3) := by decide +kernel
theorem dX5_addsAmount_99 : decode cX5_addsAmount 99 = .ok (.lcmp, 1) := by decide +kernel
theorem dX5_addsAmount_100 : decode cX5_addsAmount 100 = .ok (.ifCond .lt 7, 3) := by decide +kernel
theorem dX5_addsAmount_103 : decode cX5_addsAmount 103 = .ok (.lconst 1, 1) := by decide +kernel
theorem dX5_addsAmount_104 : decode cX5_addsAmount 104 = .ok (.goto 4, 3) := by decide +kernel
theorem dX5_addsAmount_107 : decode cX5_addsAmount 107 = .ok (.lconst 0, 1) := by decide +kernel
theorem dX5_addsAmount_108 : decode cX5_addsAmount 108 = .ok (.lstore 7, 2) := by decide +kernel
theorem dX5_addsAmount_110 : decode cX5_addsAmount 110 = .ok (.aload_n 0, 1) := by decide +kernel
theorem dX5_addsAmount_111 : decode cX5_addsAmount 111 = .ok (.getfield 29, 3) := by decide +kernel
theorem dX5_addsAmount_114 : decode cX5_addsAmount 114 = .ok (.iload 4, 2) := by decide +kernel
theorem dX5_addsAmount_116 : decode cX5_addsAmount 116 = .ok (.iload 9, 2) := by decide +kernel
theorem dX5_addsAmount_118 : decode cX5_addsAmount 118 = .ok (.iadd, 1) := by decide +kernel
theorem dX5_addsAmount_119 : decode cX5_addsAmount 119 = .ok (.lload 10, 2) := by decide +kernel
theorem dX5_addsAmount_121 : decode cX5_addsAmount 121 = .ok (.lload 7, 2) := by decide +kernel
theorem dX5_addsAmount_123 : decode cX5_addsAmount 123 = .ok (.ldc2_w 69, 3) := by decide +kernel
theorem dX5_addsAmount_126 : decode cX5_addsAmount 126 = .ok (.lmul, 1) := by decide +kernel
theorem dX5_addsAmount_127 : decode cX5_addsAmount 127 = .ok (.lsub, 1) := by decide +kernel
theorem dX5_addsAmount_128 : decode cX5_addsAmount 128 = .ok (.l2i, 1) := by decide +kernel
theorem dX5_addsAmount_129 : decode cX5_addsAmount 129 = .ok (.iastore, 1) := by decide +kernel
theorem dX5_addsAmount_130 : decode cX5_addsAmount 130 = .ok (.iinc 9 1, 3) := by decide +kernel
theorem dX5_addsAmount_133 : decode cX5_addsAmount 133 = .ok (.goto (-108), 3) := by decide +kernel
theorem dX5_addsAmount_136 : decode cX5_addsAmount 136 = .ok (.return_, 1) := by decide +kernel
theorem dX5_addsLong_0 : decode cX5_addsLong 0 = .ok (.aload_n 0, 1) := by decide +kernel
theorem dX5_addsLong_1 : decode cX5_addsLong 1 = .ok (.iload_n 1, 1) := by decide +kernel
theorem dX5_addsLong_2 : decode cX5_addsLong 2 = .ok (.invokevirtual 73, 3) := by decide +kernel
theorem dX5_addsLong_5 : decode cX5_addsLong 5 = .ok (.istore_n 3, 1) := by decide +kernel
theorem dX5_addsLong_6 : decode cX5_addsLong 6 = .ok (.aload_n 0, 1) := by decide +kernel
theorem dX5_addsLong_7 : decode cX5_addsLong 7 = .ok (.iload_n 2, 1) := by decide +kernel
theorem dX5_addsLong_8 : decode cX5_addsLong 8 = .ok (.invokevirtual 73, 3) := by decide +kernel
theorem dX5_addsLong_11 : decode cX5_addsLong 11 = .ok (.istore 4, 2) := by decide +kernel
theorem dX5_addsLong_13 : decode cX5_addsLong 13 = .ok (.iload 4, 2) := by decide +kernel
theorem dX5_addsLong_15 : decode cX5_addsLong 15 = .ok (.ifCond .ne 4, 3) := by decide +kernel
theorem dX5_addsLong_18 : decode cX5_addsLong 18 = .ok (.return_, 1) := by decide +kernel
theorem dX5_addsLong_19 : decode cX5_addsLong 19 = .ok (.iload_n 3, 1) := by decide +kernel
theorem dX5_addsLong_20 : decode cX5_addsLong 20 = .ok (.ifCond .ne 10, 3) := by decide +kernel
theorem dX5_addsLong_23 : decode cX5_addsLong 23 = .ok (.aload_n 0, 1) := by decide +kernel
theorem dX5_addsLong_24 : decode cX5_addsLong 24 = .ok (.iload_n 2, 1) := by decide +kernel
theorem dX5_addsLong_25 : decode cX5_addsLong 25 = .ok (.iload_n 1, 1) := by decide +kernel
theorem dX5_addsLong_26 : decode cX5_addsLong 26 = .ok (.invokevirtual 76, 3) := by decide +kernel
theorem dX5_addsLong_29 : decode cX5_addsLong 29 = .ok (.return_, 1) := by decide +kernel
theorem dX5_addsLong_30 : decode cX5_addsLong 30 = .ok (.iload_n 3, 1) := by decide +kernel
theorem dX5_addsLong_31 : decode cX5_addsLong 31 = .ok (.iload 4, 2) := by decide +kernel
theorem dX5_addsLong_33 : decode cX5_addsLong 33 = .ok (.if_icmp .ne 11, 3) := by decide +kernel
theorem dX5_addsLong_36 : decode cX5_addsLong 36 = .ok (.aload_n 0, 1) := by decide +kernel
theorem dX5_addsLong_37 : decode cX5_addsLong 37 = .ok (.iload_n 1, 1) := by decide +kernel
theorem dX5_addsLong_38 : decode cX5_addsLong 38 = .ok (.iload_n 2, 1) := by decide +kernel
theorem dX5_addsLong_39 : decode cX5_addsLong 39 = .ok (.iconst 1, 1) := by decide +kernel
theorem dX5_addsLong_40 : decode cX5_addsLong 40 = .ok (.invokevirtual 79, 3) := by decide +kernel
theorem dX5_addsLong_43 : decode cX5_addsLong 43 = .ok (.return_, 1) := by decide +kernel
theorem dX5_addsLong_44 : decode cX5_addsLong 44 = .ok (.aload_n 0, 1) := by decide +kernel
theorem dX5_addsLong_45 : decode cX5_addsLong 45 = .ok (.iload_n 1, 1) := by decide +kernel
theorem dX5_addsLong_46 : decode cX5_addsLong 46 = .ok (.iload_n 2, 1) := by decide +kernel
theorem dX5_addsLong_47 : decode cX5_addsLong 47 = .ok (.invokevirtual 83, 3) := by decide +kernel
theorem dX5_addsLong_50 : decode cX5_addsLong 50 = .ok (.istore 5, 2) := by decide +kernel
theorem dX5_addsLong_52 : decode cX5_addsLong 52 = .ok (.iload 5, 2) := by decide +kernel
theorem dX5_addsLong_54 : decode cX5_addsLong 54 = .ok (.ifCond .ne 12, 3) := by decide +kernel
theorem dX5_addsLong_57 : decode cX5_addsLong 57 = .ok (.aload_n 0, 1) := by decide +kernel
theorem dX5_addsLong_58 : decode cX5_addsLong 58 = .ok (.iload_n 1, 1) := by decide +kernel
theorem dX5_addsLong_59 : decode cX5_addsLong 59 = .ok (.iconst 0, 1) := by decide +kernel
theorem dX5_addsLong_60 : decode cX5_addsLong 60 = .ok (.invokevirtual 65, 3) := by decide +kernel
theorem dX5_addsLong_63 : decode cX5_addsLong 63 = .ok (.goto 39, 3) := by decide +kernel
theorem dX5_addsLong_66 : decode cX5_addsLong 66 = .ok (.iload 5, 2) := by decide +kernel
theorem dX5_addsLong_68 : decode cX5_addsLong 68 = .ok (.ifCond .le 13, 3) := by decide +kernel
theorem dX5_addsLong_71 : decode cX5_addsLong 71 = .ok (.aload_n 0, 1) := by decide +kernel
theorem dX5_addsLong_72 : decode cX5_addsLong 72 = .ok (.iload_n 1, 1) := by decide +kernel
theorem dX5_addsLong_73 : decode cX5_addsLong 73 = .ok (.iload_n 2, 1) := by decide +kernel
theorem dX5_addsLong_74 : decode cX5_addsLong 74 = .ok (.iconst (-1), 1) := by decide +kernel
theorem dX5_addsLong_75 : decode cX5_addsLong 75 = .ok (.invokevirtual 79, 3) := by decide +kernel
theorem dX5_addsLong_78 : decode cX5_addsLong 78 = .ok (.goto 24, 3) := by decide +kernel
theorem dX5_addsLong_81 : decode cX5_addsLong 81 = .ok (.aload_n 0, 1) := by decide +kernel
theorem dX5_addsLong_82 : decode cX5_addsLong 82 = .ok (.iload_n 1, 1) := by decide +kernel
theorem dX5_addsLong_83 : decode cX5_addsLong 83 = .ok (.bipush 93, 2) := by decide +kernel
theorem dX5_addsLong_85 : decode cX5_addsLong 85 = .ok (.invokevirtual 76, 3) := by decide +kernel
theorem dX5_addsLong_88 : decode cX5_addsLong 88 = .ok (.aload_n 0, 1) := by decide +kernel
theorem dX5_addsLong_89 : decode cX5_addsLong 89 = .ok (.iload_n 2, 1) := by decide +kernel
theorem dX5_addsLong_90 : decode cX5_addsLong 90 = .ok (.iload_n 1, 1) := by decide +kernel
theorem dX5_addsLong_91 : decode cX5_addsLong 91 = .ok (.invokevirtual 76, 3) := by decide +kernel
theorem dX5_addsLong_94 : decode cX5_addsLong 94 = .ok (.aload_n 0, 1) := by decide +kernel
theorem dX5_addsLong_95 : decode cX5_addsLong 95 = .ok (.iload_n 1, 1) := by decide +kernel
theorem dX5_addsLong_96 : decode cX5_addsLong 96 = .ok (.bipush 93, 2) := by decide +kernel
theorem dX5_addsLong_98 : decode cX5_addsLong 98 = .ok (.iconst (-1), 1) := by decide +kernel
theorem dX5_addsLong_99 : decode cX5_addsLong 99 = .ok (.invokevirtual 79, 3) := by decide +kernel
theorem dX5_addsLong_102 : decode cX5_addsLong 102 = .ok (.return_, 1) := by decide +kernel
theorem dX5_turns_0 : decode cX5_turns 0 = .ok (.aload_n 0, 1) := by decide +kernel
theorem dX5_turns_1 : decode cX5_turns 1 = .ok (.getfield 29, 3) := by decide +kernel
theorem dX5_turns_4 : decode cX5_turns 4 = .ok (.iload_n 1, 1) := by decide +kernel
theorem dX5_turns_5 : decode cX5_turns 5 = .ok (.invokestatic 58, 3) := by decide +kernel
theorem dX5_turns_8 : decode cX5_turns 8 = .ok (.aload_n 0, 1) := by decide +kernel
theorem dX5_turns_9 : decode cX5_turns 9 = .ok (.getfield 29, 3) := by decide +kernel
theorem dX5_turns_12 : decode cX5_turns 12 = .ok (.iload_n 1, 1) := by decide +kernel
theorem dX5_turns_13 : decode cX5_turns 13 = .ok (.invokestatic 58, 3) := by decide +kernel
theorem dX5_turns_16 : decode cX5_turns 16 = .ok (.iaload, 1) := by decide +kernel
theorem dX5_turns_17 : decode cX5_turns 17 = .ok (.ineg, 1) := by decide +kernel
theorem dX5_turns_18 : decode cX5_turns 18 = .ok (.iastore, 1) := by decide +kernel
theorem dX5_turns_19 : decode cX5_turns 19 = .ok (.return_, 1) := by decide +kernel
theorem dX5_at_0 : decode cX5_at 0 = .ok (.bipush 9, 2) := by decide +kernel
theorem dX5_at_2 : decode cX5_at 2 = .ok (.iload_n 0, 1) := by decide +kernel
theorem dX5_at_3 : decode cX5_at 3 = .ok (.imul, 1) := by decide +kernel
theorem dX5_at_4 : decode cX5_at 4 = .ok (.iload_n 1, 1) := by decide +kernel
theorem dX5_at_5 : decode cX5_at 5 = .ok (.iadd, 1) := by decide +kernel
theorem dX5_at_6 : decode cX5_at 6 = .ok (.ireturn, 1) := by decide +kernel
theorem dX5_degreeOf_0 : decode cX5_degreeOf 0 = .ok (.iload_n 2, 1) := by decide +kernel
theorem dX5_degreeOf_1 : decode cX5_degreeOf 1 = .ok (.istore_n 3, 1) := by decide +kernel
theorem dX5_degreeOf_2 : decode cX5_degreeOf 2 = .ok (.iload_n 3, 1) := by decide +kernel
theorem dX5_degreeOf_3 : decode cX5_degreeOf 3 = .ok (.ifCond .lt 21, 3) := by decide +kernel
theorem dX5_degreeOf_6 : decode cX5_degreeOf 6 = .ok (.aload_n 0, 1) := by decide +kernel
theorem dX5_degreeOf_7 : decode cX5_degreeOf 7 = .ok (.iload_n 1, 1) := by decide +kernel
theorem dX5_degreeOf_8 : decode cX5_degreeOf 8 = .ok (.iload_n 3, 1) := by decide +kernel
theorem dX5_degreeOf_9 : decode cX5_degreeOf 9 = .ok (.invokestatic 87, 3) := by decide +kernel
theorem dX5_degreeOf_12 : decode cX5_degreeOf 12 = .ok (.invokevirtual 73, 3) := by decide +kernel
theorem dX5_degreeOf_15 : decode cX5_degreeOf 15 = .ok (.ifCond .ne 9, 3) := by decide +kernel
theorem dX5_degreeOf_18 : decode cX5_degreeOf 18 = .ok (.iinc 3 (-1), 3) := by decide +kernel
theorem dX5_degreeOf_21 : decode cX5_degreeOf 21 = .ok (.goto (-19), 3) := by decide +kernel
theorem dX5_degreeOf_24 : decode cX5_degreeOf 24 = .ok (.iload_n 3, 1) := by decide +kernel
theorem dX5_degreeOf_25 : decode cX5_degreeOf 25 = .ok (.ireturn, 1) := by decide +kernel
theorem dX5_derives_0 : decode cX5_derives 0 = .ok (.iconst 0, 1) := by decide +kernel
theorem dX5_derives_1 : decode cX5_derives 1 = .ok (.istore_n 2, 1) := by decide +kernel
theorem dX5_derives_2 : decode cX5_derives 2 = .ok (.iload_n 2, 1) := by decide +kernel
theorem dX5_derives_3 : decode cX5_derives 3 = .ok (.bipush 9, 2) := by decide +kernel
theorem dX5_derives_5 : decode cX5_derives 5 = .ok (.if_icmp .ge 66, 3) := by decide +kernel
theorem dX5_derives_8 : decode cX5_derives 8 = .ok (.iload_n 2, 1) := by decide +kernel
theorem dX5_derives_9 : decode cX5_derives 9 = .ok (.aload_n 0, 1) := by decide +kernel
theorem dX5_derives_10 : decode cX5_derives 10 = .ok (.getfield 32, 3) := by decide +kernel
theorem dX5_derives_13 : decode cX5_derives 13 = .ok (.iload_n 1, 1) := by decide +kernel
theorem dX5_derives_14 : decode cX5_derives 14 = .ok (.iaload, 1) := by decide +kernel
theorem dX5_derives_15 : decode cX5_derives 15 = .ok (.if_icmp .ge 38, 3) := by decide +kernel
theorem dX5_derives_18 : decode cX5_derives 18 = .ok (.aload_n 0, 1) := by decide +kernel
theorem dX5_derives_19 : decode cX5_derives 19 = .ok (.iload_n 1, 1) := by decide +kernel
theorem dX5_derives_20 : decode cX5_derives 20 = .ok (.iload_n 2, 1) := by decide +kernel
theorem dX5_derives_21 : decode cX5_derives 21 = .ok (.iconst 1, 1) := by decide +kernel
theorem dX5_derives_22 : decode cX5_derives 22 = .ok (.iadd, 1) := by decide +kernel
theorem dX5_derives_23 : decode cX5_derives 23 = .ok (.invokestatic 87, 3) := by decide +kernel
theorem dX5_derives_26 : decode cX5_derives 26 = .ok (.iload_n 1, 1) := by decide +kernel
theorem dX5_derives_27 : decode cX5_derives 27 = .ok (.iconst 1, 1) := by decide +kernel
theorem dX5_derives_28 : decode cX5_derives 28 = .ok (.iadd, 1) := by decide +kernel
theorem dX5_derives_29 : decode cX5_derives 29 = .ok (.iload_n 2, 1) := by decide +kernel
theorem dX5_derives_30 : decode cX5_derives 30 = .ok (.invokestatic 87, 3) := by decide +kernel
theorem dX5_derives_33 : decode cX5_derives 33 = .ok (.invokevirtual 76, 3) := by decide +kernel
theorem dX5_derives_36 : decode cX5_derives 36 = .ok (.aload_n 0, 1) := by decide +kernel
theorem dX5_derives_37 : decode cX5_derives 37 = .ok (.iload_n 1, 1) := by decide +kernel
theorem dX5_derives_38 : decode cX5_derives 38 = .ok (.iconst 1, 1) := by decide +kernel
theorem dX5_derives_39 : decode cX5_derives 39 = .ok (.iadd, 1) := by decide +kernel
theorem dX5_derives_40 : decode cX5_derives 40 = .ok (.iload_n 2, 1) := by decide +kernel
theorem dX5_derives_41 : decode cX5_derives 41 = .ok (.invokestatic 87, 3) := by decide +kernel
theorem dX5_derives_44 : decode cX5_derives 44 = .ok (.iload_n 2, 1) := by decide +kernel
theorem dX5_derives_45 : decode cX5_derives 45 = .ok (.iconst 1, 1) := by decide +kernel
theorem dX5_derives_46 : decode cX5_derives 46 = .ok (.iadd, 1) := by decide +kernel
theorem dX5_derives_47 : decode cX5_derives 47 = .ok (.invokevirtual 90, 3) := by decide +kernel
theorem dX5_derives_50 : decode cX5_derives 50 = .ok (.goto 15, 3) := by decide +kernel
theorem dX5_derives_53 : decode cX5_derives 53 = .ok (.aload_n 0, 1) := by decide +kernel
theorem dX5_derives_54 : decode cX5_derives 54 = .ok (.iload_n 1, 1) := by decide +kernel
theorem dX5_derives_55 : decode cX5_derives 55 = .ok (.iconst 1, 1) := by decide +kernel
theorem dX5_derives_56 : decode cX5_derives 56 = .ok (.iadd, 1) := by decide +kernel
theorem dX5_derives_57 : decode cX5_derives 57 = .ok (.iload_n 2, 1) := by decide +kernel
theorem dX5_derives_58 : decode cX5_derives 58 = .ok (.invokestatic 87, 3) := by decide +kernel
theorem dX5_derives_61 : decode cX5_derives 61 = .ok (.iconst 0, 1) := by decide +kernel
theorem dX5_derives_62 : decode cX5_derives 62 = .ok (.invokevirtual 65, 3) := by decide +kernel
theorem dX5_derives_65 : decode cX5_derives 65 = .ok (.iinc 2 1, 3) := by decide +kernel
theorem dX5_derives_68 : decode cX5_derives 68 = .ok (.goto (-66), 3) := by decide +kernel
theorem dX5_derives_71 : decode cX5_derives 71 = .ok (.return_, 1) := by decide +kernel
theorem dX5_divides_0 : decode cX5_divides 0 = .ok (.iload_n 1, 1) := by decide +kernel
theorem dX5_divides_1 : decode cX5_divides 1 = .ok (.iconst 2, 1) := by decide +kernel
theorem dX5_divides_2 : decode cX5_divides 2 = .ok (.isub, 1) := by decide +kernel
theorem dX5_divides_3 : decode cX5_divides 3 = .ok (.istore_n 2, 1) := by decide +kernel
theorem dX5_divides_4 : decode cX5_divides 4 = .ok (.iload_n 1, 1) := by decide +kernel
theorem dX5_divides_5 : decode cX5_divides 5 = .ok (.iconst 1, 1) := by decide +kernel
theorem dX5_divides_6 : decode cX5_divides 6 = .ok (.isub, 1) := by decide +kernel
theorem dX5_divides_7 : decode cX5_divides 7 = .ok (.istore_n 3, 1) := by decide +kernel
theorem dX5_divides_8 : decode cX5_divides 8 = .ok (.aload_n 0, 1) := by decide +kernel
theorem dX5_divides_9 : decode cX5_divides 9 = .ok (.getfield 32, 3) := by decide +kernel
theorem dX5_divides_12 : decode cX5_divides 12 = .ok (.iload_n 3, 1) := by decide +kernel
theorem dX5_divides_13 : decode cX5_divides 13 = .ok (.iaload, 1) := by decide +kernel
theorem dX5_divides_14 : decode cX5_divides 14 = .ok (.istore 4, 2) := by decide +kernel
theorem dX5_divides_16 : decode cX5_divides 16 = .ok (.aload_n 0, 1) := by decide +kernel
theorem dX5_divides_17 : decode cX5_divides 17 = .ok (.getfield 32, 3) := by decide +kernel
theorem dX5_divides_20 : decode cX5_divides 20 = .ok (.iload_n 2, 1) := by decide +kernel
theorem dX5_divides_21 : decode cX5_divides 21 = .ok (.iaload, 1) := by decide +kernel
theorem dX5_divides_22 : decode cX5_divides 22 = .ok (.istore 5, 2) := by decide +kernel
theorem dX5_divides_24 : decode cX5_divides 24 = .ok (.iload_n 3, 1) := by decide +kernel
theorem dX5_divides_25 : decode cX5_divides 25 = .ok (.iload 4, 2) := by decide +kernel
theorem dX5_divides_27 : decode cX5_divides 27 = .ok (.invokestatic 87, 3) := by decide +kernel
theorem dX5_divides_30 : decode cX5_divides 30 = .ok (.istore 6, 2) := by decide +kernel
theorem dX5_divides_32 : decode cX5_divides 32 = .ok (.iconst 0, 1) := by decide +kernel
theorem dX5_divides_33 : decode cX5_divides 33 = .ok (.istore 7, 2) := by decide +kernel
theorem dX5_divides_35 : decode cX5_divides 35 = .ok (.iload 7, 2) := by decide +kernel
theorem dX5_divides_37 : decode cX5_divides 37 = .ok (.bipush 9, 2) := by decide +kernel
theorem dX5_divides_39 : decode cX5_divides 39 = .ok (.if_icmp .ge 24, 3) := by decide +kernel
theorem dX5_divides_42 : decode cX5_divides 42 = .ok (.aload_n 0, 1) := by decide +kernel
theorem dX5_divides_43 : decode cX5_divides 43 = .ok (.iload_n 2, 1) := by decide +kernel
theorem dX5_divides_44 : decode cX5_divides 44 = .ok (.iload 7, 2) := by decide +kernel
theorem dX5_divides_46 : decode cX5_divides 46 = .ok (.invokestatic 87, 3) := by decide +kernel
theorem dX5_divides_49 : decode cX5_divides 49 = .ok (.bipush 81, 2) := by decide +kernel
theorem dX5_divides_51 : decode cX5_divides 51 = .ok (.iload 7, 2) := by decide +kernel
theorem dX5_divides_53 : decode cX5_divides 53 = .ok (.iadd, 1) := by decide +kernel
theorem dX5_divides_54 : decode cX5_divides 54 = .ok (.invokevirtual 76, 3) := by decide +kernel
theorem dX5_divides_57 : decode cX5_divides 57 = .ok (.iinc 7 1, 3) := by decide +kernel
theorem dX5_divides_60 : decode cX5_divides 60 = .ok (.goto (-25), 3) := by decide +kernel
theorem dX5_divides_63 : decode cX5_divides 63 = .ok (.iload 5, 2) := by decide +kernel
theorem dX5_divides_65 : decode cX5_divides 65 = .ok (.istore 7, 2) := by decide +kernel
theorem dX5_divides_67 : decode cX5_divides 67 = .ok (.iload 7, 2) := by decide +kernel
theorem dX5_divides_69 : decode cX5_divides 69 = .ok (.iload 4, 2) := by decide +kernel
theorem dX5_divides_71 : decode cX5_divides 71 = .ok (.if_icmp .lt 141, 3) := by decide +kernel
theorem dX5_divides_74 : decode cX5_divides 74 = .ok (.aload_n 0, 1) := by decide +kernel
theorem dX5_divides_75 : decode cX5_divides 75 = .ok (.bipush 81, 2) := by decide +kernel
theorem dX5_divides_77 : decode cX5_divides 77 = .ok (.iload 7, 2) := by decide +kernel
theorem dX5_divides_79 : decode cX5_divides 79 = .ok (.iadd, 1) := by decide +kernel
theorem dX5_divides_80 : decode cX5_divides 80 = .ok (.bipush 92, 2) := by decide +kernel
theorem dX5_divides_82 : decode cX5_divides 82 = .ok (.invokevirtual 76, 3) := by decide +kernel
theorem dX5_divides_85 : decode cX5_divides 85 = .ok (.iconst 0, 1) := by decide +kernel
theorem dX5_divides_86 : decode cX5_divides 86 = .ok (.istore 8, 2) := by decide +kernel
theorem dX5_divides_88 : decode cX5_divides 88 = .ok (.iload 8, 2) := by decide +kernel
theorem dX5_divides_90 : decode cX5_divides 90 = .ok (.iload 7, 2) := by decide +kernel
theorem dX5_divides_92 : decode cX5_divides 92 = .ok (.if_icmp .ge 104, 3) := by decide +kernel
theorem dX5_divides_95 : decode cX5_divides 95 = .ok (.aload_n 0, 1) := by decide +kernel
theorem dX5_divides_96 : decode cX5_divides 96 = .ok (.bipush 81, 2) := by decide +kernel
theorem dX5_divides_98 : decode cX5_divides 98 = .ok (.iload 8, 2) := by decide +kernel
theorem dX5_divides_100 : decode cX5_divides 100 = .ok (.iadd, 1) := by decide +kernel
theorem dX5_divides_101 : decode cX5_divides 101 = .ok (.iload 6, 2) := by decide +kernel
theorem dX5_divides_103 : decode cX5_divides 103 = .ok (.bipush 90, 2) := by decide +kernel
theorem dX5_divides_105 : decode cX5_divides 105 = .ok (.invokevirtual 93, 3) := by decide +kernel
theorem dX5_divides_108 : decode cX5_divides 108 = .ok (.aload_n 0, 1) := by decide +kernel
theorem dX5_divides_109 : decode cX5_divides 109 = .ok (.iload 6, 2) := by decide +kernel
theorem dX5_divides_111 : decode cX5_divides 111 = .ok (.invokevirtual 73, 3) := by decide +kernel
theorem dX5_divides_114 : decode cX5_divides 114 = .ok (.ifCond .ge 9, 3) := by decide +kernel
theorem dX5_divides_117 : decode cX5_divides 117 = .ok (.aload_n 0, 1) := by decide +kernel
theorem dX5_divides_118 : decode cX5_divides 118 = .ok (.bipush 90, 2) := by decide +kernel
theorem dX5_divides_120 : decode cX5_divides 120 = .ok (.invokevirtual 96, 3) := by decide +kernel
theorem dX5_divides_123 : decode cX5_divides 123 = .ok (.aload_n 0, 1) := by decide +kernel
theorem dX5_divides_124 : decode cX5_divides 124 = .ok (.bipush 90, 2) := by decide +kernel
theorem dX5_divides_126 : decode cX5_divides 126 = .ok (.bipush 81, 2) := by decide +kernel
theorem dX5_divides_128 : decode cX5_divides 128 = .ok (.iload 8, 2) := by decide +kernel
theorem dX5_divides_130 : decode cX5_divides 130 = .ok (.iadd, 1) := by decide +kernel
theorem dX5_divides_131 : decode cX5_divides 131 = .ok (.invokevirtual 76, 3) := by decide +kernel
theorem dX5_divides_134 : decode cX5_divides 134 = .ok (.iload 8, 2) := by decide +kernel
theorem dX5_divides_136 : decode cX5_divides 136 = .ok (.iload 7, 2) := by decide +kernel
theorem dX5_divides_138 : decode cX5_divides 138 = .ok (.iload 4, 2) := by decide +kernel
theorem dX5_divides_140 : decode cX5_divides 140 = .ok (.isub, 1) := by decide +kernel
theorem dX5_divides_141 : decode cX5_divides 141 = .ok (.if_icmp .lt 49, 3) := by decide +kernel
theorem dX5_divides_144 : decode cX5_divides 144 = .ok (.aload_n 0, 1) := by decide +kernel
theorem dX5_divides_145 : decode cX5_divides 145 = .ok (.bipush 92, 2) := by decide +kernel
theorem dX5_divides_147 : decode cX5_divides 147 = .ok (.iload_n 3, 1) := by decide +kernel
theorem dX5_divides_148 : decode cX5_divides 148 = .ok (.iload 8, 2) := by decide +kernel
theorem dX5_divides_150 : decode cX5_divides 150 = .ok (.iload 7, 2) := by decide +kernel
theorem dX5_divides_152 : decode cX5_divides 152 = .ok (.isub, 1) := by decide +kernel
theorem dX5_divides_153 : decode cX5_divides 153 = .ok (.iload 4, 2) := by decide +kernel
theorem dX5_divides_155 : decode cX5_divides 155 = .ok (.iadd, 1) := by decide +kernel
theorem dX5_divides_156 : decode cX5_divides 156 = .ok (.invokestatic 87, 3) := by decide +kernel
theorem dX5_divides_159 : decode cX5_divides 159 = .ok (.bipush 91, 2) := by decide +kernel
theorem dX5_divides_161 : decode cX5_divides 161 = .ok (.invokevirtual 93, 3) := by decide +kernel
theorem dX5_divides_164 : decode cX5_divides 164 = .ok (.aload_n 0, 1) := by decide +kernel
theorem dX5_divides_165 : decode cX5_divides 165 = .ok (.iload 6, 2) := by decide +kernel
theorem dX5_divides_167 : decode cX5_divides 167 = .ok (.invokevirtual 73, 3) := by decide +kernel
theorem dX5_divides_170 : decode cX5_divides 170 = .ok (.ifCond .le 9, 3) := by decide +kernel
theorem dX5_divides_173 : decode cX5_divides 173 = .ok (.aload_n 0, 1) := by decide +kernel
theorem dX5_divides_174 : decode cX5_divides 174 = .ok (.bipush 91, 2) := by decide +kernel
theorem dX5_divides_176 : decode cX5_divides 176 = .ok (.invokevirtual 96, 3) := by decide +kernel
theorem dX5_divides_179 : decode cX5_divides 179 = .ok (.aload_n 0, 1) := by decide +kernel
theorem dX5_divides_180 : decode cX5_divides 180 = .ok (.bipush 81, 2) := by decide +kernel
theorem dX5_divides_182 : decode cX5_divides 182 = .ok (.iload 8, 2) := by decide +kernel
theorem dX5_divides_184 : decode cX5_divides 184 = .ok (.iadd, 1) := by decide +kernel
theorem dX5_divides_185 : decode cX5_divides 185 = .ok (.bipush 91, 2) := by decide +kernel
theorem dX5_divides_187 : decode cX5_divides 187 = .ok (.invokevirtual 100, 3) := by decide +kernel
theorem dX5_divides_190 : decode cX5_divides 190 = .ok (.iinc 8 1, 3) := by decide +kernel
theorem dX5_divides_193 : decode cX5_divides 193 = .ok (.goto (-105), 3) := by decide +kernel
theorem dX5_divides_196 : decode cX5_divides 196 = .ok (.aload_n 0, 1) := by decide +kernel
theorem dX5_divides_197 : decode cX5_divides 197 = .ok (.bipush 81, 2) := by decide +kernel
theorem dX5_divides_199 : decode cX5_divides 199 = .ok (.iload 7, 2) := by decide +kernel
theorem dX5_divides_201 : decode cX5_divides 201 = .ok (.iadd, 1) := by decide +kernel
theorem dX5_divides_202 : decode cX5_divides 202 = .ok (.iconst 0, 1) := by decide +kernel
theorem dX5_divides_203 : decode cX5_divides 203 = .ok (.invokevirtual 65, 3) := by decide +kernel
theorem dX5_divides_206 : decode cX5_divides 206 = .ok (.iinc 7 (-1), 3) := by decide +kernel
theorem dX5_divides_209 : decode cX5_divides 209 = .ok (.goto (-142), 3) := by decide +kernel
theorem dX5_divides_212 : decode cX5_divides 212 = .ok (.iconst 0, 1) := by decide +kernel
theorem dX5_divides_213 : decode cX5_divides 213 = .ok (.istore 7, 2) := by decide +kernel
theorem dX5_divides_215 : decode cX5_divides 215 = .ok (.iload 7, 2) := by decide +kernel
theorem dX5_divides_217 : decode cX5_divides 217 = .ok (.bipush 9, 2) := by decide +kernel
theorem dX5_divides_219 : decode cX5_divides 219 = .ok (.if_icmp .ge 34, 3) := by decide +kernel
theorem dX5_divides_222 : decode cX5_divides 222 = .ok (.aload_n 0, 1) := by decide +kernel
theorem dX5_divides_223 : decode cX5_divides 223 = .ok (.bipush 81, 2) := by decide +kernel
theorem dX5_divides_225 : decode cX5_divides 225 = .ok (.iload 7, 2) := by decide +kernel
theorem dX5_divides_227 : decode cX5_divides 227 = .ok (.iadd, 1) := by decide +kernel
theorem dX5_divides_228 : decode cX5_divides 228 = .ok (.iload_n 1, 1) := by decide +kernel
theorem dX5_divides_229 : decode cX5_divides 229 = .ok (.iload 7, 2) := by decide +kernel
theorem dX5_divides_231 : decode cX5_divides 231 = .ok (.invokestatic 87, 3) := by decide +kernel
theorem dX5_divides_234 : decode cX5_divides 234 = .ok (.invokevirtual 76, 3) := by decide +kernel
theorem dX5_divides_237 : decode cX5_divides 237 = .ok (.aload_n 0, 1) := by decide +kernel
theorem dX5_divides_238 : decode cX5_divides 238 = .ok (.iload_n 1, 1) := by decide +kernel
theorem dX5_divides_239 : decode cX5_divides 239 = .ok (.iload 7, 2) := by decide +kernel
theorem dX5_divides_241 : decode cX5_divides 241 = .ok (.invokestatic 87, 3) := by decide +kernel
theorem dX5_divides_244 : decode cX5_divides 244 = .ok (.invokevirtual 96, 3) := by decide +kernel
theorem dX5_divides_247 : decode cX5_divides 247 = .ok (.iinc 7 1, 3) := by decide +kernel
theorem dX5_divides_250 : decode cX5_divides 250 = .ok (.goto (-35), 3) := by decide +kernel
theorem dX5_divides_253 : decode cX5_divides 253 = .ok (.aload_n 0, 1) := by decide +kernel
theorem dX5_divides_254 : decode cX5_divides 254 = .ok (.iload_n 1, 1) := by decide +kernel
theorem dX5_divides_255 : decode cX5_divides 255 = .ok (.bipush 8, 2) := by decide +kernel
theorem dX5_divides_257 : decode cX5_divides 257 = .ok (.invokevirtual 103, 3) := by decide +kernel
theorem dX5_divides_260 : decode cX5_divides 260 = .ok (.ireturn, 1) := by decide +kernel
theorem dX5_laysFrom_0 : decode cX5_laysFrom 0 = .ok (.aload_n 0, 1) := by decide +kernel
theorem dX5_laysFrom_1 : decode cX5_laysFrom 1 = .ok (.iconst 0, 1) := by decide +kernel
theorem dX5_laysFrom_2 : decode cX5_laysFrom 2 = .ok (.putfield 106, 3) := by decide +kernel
theorem dX5_laysFrom_5 : decode cX5_laysFrom 5 = .ok (.aload_n 0, 1) := by decide +kernel
theorem dX5_laysFrom_6 : decode cX5_laysFrom 6 = .ok (.getfield 32, 3) := by decide +kernel
theorem dX5_laysFrom_9 : decode cX5_laysFrom 9 = .ok (.iconst 0, 1) := by decide +kernel
theorem dX5_laysFrom_10 : decode cX5_laysFrom 10 = .ok (.aload_n 0, 1) := by decide +kernel
theorem dX5_laysFrom_11 : decode cX5_laysFrom 11 = .ok (.iconst 0, 1) := by decide +kernel
theorem dX5_laysFrom_12 : decode cX5_laysFrom 12 = .ok (.bipush 8, 2) := by decide +kernel
theorem dX5_laysFrom_14 : decode cX5_laysFrom 14 = .ok (.invokevirtual 103, 3) := by decide +kernel
theorem dX5_laysFrom_17 : decode cX5_laysFrom 17 = .ok (.iastore, 1) := by decide +kernel
theorem dX5_laysFrom_18 : decode cX5_laysFrom 18 = .ok (.aload_n 0, 1) := by decide +kernel
theorem dX5_laysFrom_19 : decode cX5_laysFrom 19 = .ok (.getfield 32, 3) := by decide +kernel
theorem dX5_laysFrom_22 : decode cX5_laysFrom 22 = .ok (.iconst 0, 1) := by decide +kernel
theorem dX5_laysFrom_23 : decode cX5_laysFrom 23 = .ok (.iaload, 1) := by decide +kernel
theorem dX5_laysFrom_24 : decode cX5_laysFrom 24 = .ok (.ifCond .ge 4, 3) := by decide +kernel
theorem dX5_laysFrom_27 : decode cX5_laysFrom 27 = .ok (.return_, 1) := by decide +kernel
theorem dX5_laysFrom_28 : decode cX5_laysFrom 28 = .ok (.aload_n 0, 1) := by decide +kernel
theorem dX5_laysFrom_29 : decode cX5_laysFrom 29 = .ok (.iconst 1, 1) := by decide +kernel
theorem dX5_laysFrom_30 : decode cX5_laysFrom 30 = .ok (.putfield 106, 3) := by decide +kernel
theorem dX5_laysFrom_33 : decode cX5_laysFrom 33 = .ok (.aload_n 0, 1) := by decide +kernel
theorem dX5_laysFrom_34 : decode cX5_laysFrom 34 = .ok (.getfield 32, 3) := by decide +kernel
theorem dX5_laysFrom_37 : decode cX5_laysFrom 37 = .ok (.iconst 0, 1) := by decide +kernel
theorem dX5_laysFrom_38 : decode cX5_laysFrom 38 = .ok (.iaload, 1) := by decide +kernel
theorem dX5_laysFrom_39 : decode cX5_laysFrom 39 = .ok (.ifCond .ne 4, 3) := by decide +kernel
theorem dX5_laysFrom_42 : decode cX5_laysFrom 42 = .ok (.return_, 1) := by decide +kernel
theorem dX5_laysFrom_43 : decode cX5_laysFrom 43 = .ok (.aload_n 0, 1) := by decide +kernel
theorem dX5_laysFrom_44 : decode cX5_laysFrom 44 = .ok (.iconst 0, 1) := by decide +kernel
theorem dX5_laysFrom_45 : decode cX5_laysFrom 45 = .ok (.invokevirtual 109, 3) := by decide +kernel
theorem dX5_laysFrom_48 : decode cX5_laysFrom 48 = .ok (.aload_n 0, 1) := by decide +kernel
theorem dX5_laysFrom_49 : decode cX5_laysFrom 49 = .ok (.getfield 32, 3) := by decide +kernel
theorem dX5_laysFrom_52 : decode cX5_laysFrom 52 = .ok (.iconst 1, 1) := by decide +kernel
theorem dX5_laysFrom_53 : decode cX5_laysFrom 53 = .ok (.aload_n 0, 1) := by decide +kernel
theorem dX5_laysFrom_54 : decode cX5_laysFrom 54 = .ok (.getfield 32, 3) := by decide +kernel
theorem dX5_laysFrom_57 : decode cX5_laysFrom 57 = .ok (.iconst 0, 1) := by decide +kernel
theorem dX5_laysFrom_58 : decode cX5_laysFrom 58 = .ok (.iaload, 1) := by decide +kernel
theorem dX5_laysFrom_59 : decode cX5_laysFrom 59 = .ok (.iconst 1, 1) := by decide +kernel
theorem dX5_laysFrom_60 : decode cX5_laysFrom 60 = .ok (.isub, 1) := by decide +kernel
theorem dX5_laysFrom_61 : decode cX5_laysFrom 61 = .ok (.iastore, 1) := by decide +kernel
theorem dX5_laysFrom_62 : decode cX5_laysFrom 62 = .ok (.aload_n 0, 1) := by decide +kernel
theorem dX5_laysFrom_63 : decode cX5_laysFrom 63 = .ok (.iconst 2, 1) := by decide +kernel
theorem dX5_laysFrom_64 : decode cX5_laysFrom 64 = .ok (.putfield 106, 3) := by decide +kernel
theorem dX5_laysFrom_67 : decode cX5_laysFrom 67 = .ok (.aload_n 0, 1) := by decide +kernel
theorem dX5_laysFrom_68 : decode cX5_laysFrom 68 = .ok (.getfield 32, 3) := by decide +kernel
theorem dX5_laysFrom_71 : decode cX5_laysFrom 71 = .ok (.iconst 1, 1) := by decide +kernel
theorem dX5_laysFrom_72 : decode cX5_laysFrom 72 = .ok (.iaload, 1) := by decide +kernel
theorem dX5_laysFrom_73 : decode cX5_laysFrom 73 = .ok (.ifCond .le 7, 3) := by decide +kernel
theorem dX5_laysFrom_76 : decode cX5_laysFrom 76 = .ok (.iconst 1, 1) := by decide +kernel
theorem dX5_laysFrom_77 : decode cX5_laysFrom 77 = .ok (.goto 4, 3) := by decide +kernel
theorem dX5_laysFrom_80 : decode cX5_laysFrom 80 = .ok (.iconst 0, 1) := by decide +kernel
theorem dX5_laysFrom_81 : decode cX5_laysFrom 81 = .ok (.istore_n 1, 1) := by decide +kernel
theorem dX5_laysFrom_82 : decode cX5_laysFrom 82 = .ok (.iload_n 1, 1) := by decide +kernel
theorem dX5_laysFrom_83 : decode cX5_laysFrom 83 = .ok (.ifCond .eq 50, 3) := by decide +kernel
theorem dX5_laysFrom_86 : decode cX5_laysFrom 86 = .ok (.aload_n 0, 1) := by decide +kernel
theorem dX5_laysFrom_87 : decode cX5_laysFrom 87 = .ok (.aload_n 0, 1) := by decide +kernel
theorem dX5_laysFrom_88 : decode cX5_laysFrom 88 = .ok (.getfield 106, 3) := by decide +kernel
theorem dX5_laysFrom_91 : decode cX5_laysFrom 91 = .ok (.invokevirtual 112, 3) := by decide +kernel
theorem dX5_laysFrom_94 : decode cX5_laysFrom 94 = .ok (.istore_n 2, 1) := by decide +kernel
theorem dX5_laysFrom_95 : decode cX5_laysFrom 95 = .ok (.iload_n 2, 1) := by decide +kernel
theorem dX5_laysFrom_96 : decode cX5_laysFrom 96 = .ok (.ifCond .ge 4, 3) := by decide +kernel
theorem dX5_laysFrom_99 : decode cX5_laysFrom 99 = .ok (.return_, 1) := by decide +kernel
theorem dX5_laysFrom_100 : decode cX5_laysFrom 100 = .ok (.aload_n 0, 1) := by decide +kernel
theorem dX5_laysFrom_101 : decode cX5_laysFrom 101 = .ok (.getfield 32, 3) := by decide +kernel
theorem dX5_laysFrom_104 : decode cX5_laysFrom 104 = .ok (.aload_n 0, 1) := by decide +kernel
theorem dX5_laysFrom_105 : decode cX5_laysFrom 105 = .ok (.getfield 106, 3) := by decide +kernel
theorem dX5_laysFrom_108 : decode cX5_laysFrom 108 = .ok (.iload_n 2, 1) := by decide +kernel
theorem dX5_laysFrom_109 : decode cX5_laysFrom 109 = .ok (.iastore, 1) := by decide +kernel
theorem dX5_laysFrom_110 : decode cX5_laysFrom 110 = .ok (.aload_n 0, 1) := by decide +kernel
theorem dX5_laysFrom_111 : decode cX5_laysFrom 111 = .ok (.dup, 1) := by decide +kernel
theorem dX5_laysFrom_112 : decode cX5_laysFrom 112 = .ok (.getfield 106, 3) := by decide +kernel
theorem dX5_laysFrom_115 : decode cX5_laysFrom 115 = .ok (.iconst 1, 1) := by decide +kernel
theorem dX5_laysFrom_116 : decode cX5_laysFrom 116 = .ok (.iadd, 1) := by decide +kernel
theorem dX5_laysFrom_117 : decode cX5_laysFrom 117 = .ok (.putfield 106, 3) := by decide +kernel
theorem dX5_laysFrom_120 : decode cX5_laysFrom 120 = .ok (.iload_n 2, 1) := by decide +kernel
theorem dX5_laysFrom_121 : decode cX5_laysFrom 121 = .ok (.ifCond .le 7, 3) := by decide +kernel
theorem dX5_laysFrom_124 : decode cX5_laysFrom 124 = .ok (.iconst 1, 1) := by decide +kernel
theorem dX5_laysFrom_125 : decode cX5_laysFrom 125 = .ok (.goto 4, 3) := by decide +kernel
theorem dX5_laysFrom_128 : decode cX5_laysFrom 128 = .ok (.iconst 0, 1) := by decide +kernel
theorem dX5_laysFrom_129 : decode cX5_laysFrom 129 = .ok (.istore_n 1, 1) := by decide +kernel
theorem dX5_laysFrom_130 : decode cX5_laysFrom 130 = .ok (.goto (-48), 3) := by decide +kernel
theorem dX5_laysFrom_133 : decode cX5_laysFrom 133 = .ok (.return_, 1) := by decide +kernel
theorem dX5_laysRows_0 : decode cX5_laysRows 0 = .ok (.iconst 0, 1) := by decide +kernel
theorem dX5_laysRows_1 : decode cX5_laysRows 1 = .ok (.istore_n 1, 1) := by decide +kernel
theorem dX5_laysRows_2 : decode cX5_laysRows 2 = .ok (.iload_n 1, 1) := by decide +kernel
theorem dX5_laysRows_3 : decode cX5_laysRows 3 = .ok (.bipush 9, 2) := by decide +kernel
theorem dX5_laysRows_5 : decode cX5_laysRows 5 = .ok (.if_icmp .ge 27, 3) := by decide +kernel
theorem dX5_laysRows_8 : decode cX5_laysRows 8 = .ok (.aload_n 0, 1) := by decide +kernel
theorem dX5_laysRows_9 : decode cX5_laysRows 9 = .ok (.iconst 0, 1) := by decide +kernel
theorem dX5_laysRows_10 : decode cX5_laysRows 10 = .ok (.iload_n 1, 1) := by decide +kernel
theorem dX5_laysRows_11 : decode cX5_laysRows 11 = .ok (.invokestatic 87, 3) := by decide +kernel
theorem dX5_laysRows_14 : decode cX5_laysRows 14 = .ok (.aload_n 0, 1) := by decide +kernel
theorem dX5_laysRows_15 : decode cX5_laysRows 15 = .ok (.getfield 7, 3) := by decide +kernel
theorem dX5_laysRows_18 : decode cX5_laysRows 18 = .ok (.bipush 11, 2) := by decide +kernel
theorem dX5_laysRows_20 : decode cX5_laysRows 20 = .ok (.iload_n 1, 1) := by decide +kernel
theorem dX5_laysRows_21 : decode cX5_laysRows 21 = .ok (.iadd, 1) := by decide +kernel
theorem dX5_laysRows_22 : decode cX5_laysRows 22 = .ok (.iaload, 1) := by decide +kernel
theorem dX5_laysRows_23 : decode cX5_laysRows 23 = .ok (.invokevirtual 65, 3) := by decide +kernel
theorem dX5_laysRows_26 : decode cX5_laysRows 26 = .ok (.iinc 1 1, 3) := by decide +kernel
theorem dX5_laysRows_29 : decode cX5_laysRows 29 = .ok (.goto (-27), 3) := by decide +kernel
theorem dX5_laysRows_32 : decode cX5_laysRows 32 = .ok (.aload_n 0, 1) := by decide +kernel
theorem dX5_laysRows_33 : decode cX5_laysRows 33 = .ok (.invokevirtual 115, 3) := by decide +kernel
theorem dX5_laysRows_36 : decode cX5_laysRows 36 = .ok (.return_, 1) := by decide +kernel
theorem dX5_signAt_0 : decode cX5_signAt 0 = .ok (.aload_n 0, 1) := by decide +kernel
theorem dX5_signAt_1 : decode cX5_signAt 1 = .ok (.getfield 32, 3) := by decide +kernel
theorem dX5_signAt_4 : decode cX5_signAt 4 = .ok (.iload_n 1, 1) := by decide +kernel
theorem dX5_signAt_5 : decode cX5_signAt 5 = .ok (.iaload, 1) := by decide +kernel
theorem dX5_signAt_6 : decode cX5_signAt 6 = .ok (.istore 5, 2) := by decide +kernel
theorem dX5_signAt_8 : decode cX5_signAt 8 = .ok (.iconst 0, 1) := by decide +kernel
theorem dX5_signAt_9 : decode cX5_signAt 9 = .ok (.istore 6, 2) := by decide +kernel
theorem dX5_signAt_11 : decode cX5_signAt 11 = .ok (.iload 6, 2) := by decide +kernel
theorem dX5_signAt_13 : decode cX5_signAt 13 = .ok (.iload 5, 2) := by decide +kernel
theorem dX5_signAt_15 : decode cX5_signAt 15 = .ok (.if_icmp .gt 59, 3) := by decide +kernel
theorem dX5_signAt_18 : decode cX5_signAt 18 = .ok (.aload_n 0, 1) := by decide +kernel
theorem dX5_signAt_19 : decode cX5_signAt 19 = .ok (.iload_n 1, 1) := by decide +kernel
theorem dX5_signAt_20 : decode cX5_signAt 20 = .ok (.iload 6, 2) := by decide +kernel
theorem dX5_signAt_22 : decode cX5_signAt 22 = .ok (.invokestatic 87, 3) := by decide +kernel
theorem dX5_signAt_25 : decode cX5_signAt 25 = .ok (.bipush 81, 2) := by decide +kernel
theorem dX5_signAt_27 : decode cX5_signAt 27 = .ok (.iload 6, 2) := by decide +kernel
theorem dX5_signAt_29 : decode cX5_signAt 29 = .ok (.iadd, 1) := by decide +kernel
theorem dX5_signAt_30 : decode cX5_signAt 30 = .ok (.invokevirtual 76, 3) := by decide +kernel
theorem dX5_signAt_33 : decode cX5_signAt 33 = .ok (.iconst 0, 1) := by decide +kernel
theorem dX5_signAt_34 : decode cX5_signAt 34 = .ok (.istore 7, 2) := by decide +kernel
theorem dX5_signAt_36 : decode cX5_signAt 36 = .ok (.iload 7, 2) := by decide +kernel
theorem dX5_signAt_38 : decode cX5_signAt 38 = .ok (.iload 5, 2) := by decide +kernel
theorem dX5_signAt_40 : decode cX5_signAt 40 = .ok (.iload 6, 2) := by decide +kernel
theorem dX5_signAt_42 : decode cX5_signAt 42 = .ok (.isub, 1) := by decide +kernel
theorem dX5_signAt_43 : decode cX5_signAt 43 = .ok (.if_icmp .ge 25, 3) := by decide +kernel
theorem dX5_signAt_46 : decode cX5_signAt 46 = .ok (.iload_n 3, 1) := by decide +kernel
theorem dX5_signAt_47 : decode cX5_signAt 47 = .ok (.ifCond .le 21, 3) := by decide +kernel
theorem dX5_signAt_50 : decode cX5_signAt 50 = .ok (.aload_n 0, 1) := by decide +kernel
theorem dX5_signAt_51 : decode cX5_signAt 51 = .ok (.bipush 81, 2) := by decide +kernel
theorem dX5_signAt_53 : decode cX5_signAt 53 = .ok (.iload 6, 2) := by decide +kernel
theorem dX5_signAt_55 : decode cX5_signAt 55 = .ok (.iadd, 1) := by decide +kernel
theorem dX5_signAt_56 : decode cX5_signAt 56 = .ok (.iconst 1, 1) := by decide +kernel
theorem dX5_signAt_57 : decode cX5_signAt 57 = .ok (.iload_n 3, 1) := by decide +kernel
theorem dX5_signAt_58 : decode cX5_signAt 58 = .ok (.ishl, 1) := by decide +kernel
theorem dX5_signAt_59 : decode cX5_signAt 59 = .ok (.invokevirtual 90, 3) := by decide +kernel
theorem dX5_signAt_62 : decode cX5_signAt 62 = .ok (.iinc 7 1, 3) := by decide +kernel
theorem dX5_signAt_65 : decode cX5_signAt 65 = .ok (.goto (-29), 3) := by decide +kernel
theorem dX5_signAt_68 : decode cX5_signAt 68 = .ok (.iinc 6 1, 3) := by decide +kernel
theorem dX5_signAt_71 : decode cX5_signAt 71 = .ok (.goto (-60), 3) := by decide +kernel
theorem dX5_signAt_74 : decode cX5_signAt 74 = .ok (.iconst 0, 1) := by decide +kernel
theorem dX5_signAt_75 : decode cX5_signAt 75 = .ok (.istore 6, 2) := by decide +kernel
theorem dX5_signAt_77 : decode cX5_signAt 77 = .ok (.iload 6, 2) := by decide +kernel
theorem dX5_signAt_79 : decode cX5_signAt 79 = .ok (.iload 5, 2) := by decide +kernel
theorem dX5_signAt_81 : decode cX5_signAt 81 = .ok (.if_icmp .gt 86, 3) := by decide +kernel
theorem dX5_signAt_84 : decode cX5_signAt 84 = .ok (.iload 5, 2) := by decide +kernel
theorem dX5_signAt_86 : decode cX5_signAt 86 = .ok (.iconst 1, 1) := by decide +kernel
theorem dX5_signAt_87 : decode cX5_signAt 87 = .ok (.isub, 1) := by decide +kernel
theorem dX5_signAt_88 : decode cX5_signAt 88 = .ok (.istore 7, 2) := by decide +kernel
theorem dX5_signAt_90 : decode cX5_signAt 90 = .ok (.iload 7, 2) := by decide +kernel
theorem dX5_signAt_92 : decode cX5_signAt 92 = .ok (.iload 6, 2) := by decide +kernel
theorem dX5_signAt_94 : decode cX5_signAt 94 = .ok (.if_icmp .lt 40, 3) := by decide +kernel
theorem dX5_signAt_97 : decode cX5_signAt 97 = .ok (.aload_n 0, 1) := by decide +kernel
theorem dX5_signAt_98 : decode cX5_signAt 98 = .ok (.bipush 81, 2) := by decide +kernel
theorem dX5_signAt_100 : decode cX5_signAt 100 = .ok (.iload 7, 2) := by decide +kernel
theorem dX5_signAt_102 : decode cX5_signAt 102 = .ok (.iadd, 1) := by decide +kernel
theorem dX5_signAt_103 : decode cX5_signAt 103 = .ok (.iconst 1, 1) := by decide +kernel
theorem dX5_signAt_104 : decode cX5_signAt 104 = .ok (.iadd, 1) := by decide +kernel
theorem dX5_signAt_105 : decode cX5_signAt 105 = .ok (.bipush 90, 2) := by decide +kernel
theorem dX5_signAt_107 : decode cX5_signAt 107 = .ok (.invokevirtual 76, 3) := by decide +kernel
theorem dX5_signAt_110 : decode cX5_signAt 110 = .ok (.aload_n 0, 1) := by decide +kernel
theorem dX5_signAt_111 : decode cX5_signAt 111 = .ok (.bipush 90, 2) := by decide +kernel
theorem dX5_signAt_113 : decode cX5_signAt 113 = .ok (.iload_n 2, 1) := by decide +kernel
theorem dX5_signAt_114 : decode cX5_signAt 114 = .ok (.invokevirtual 90, 3) := by decide +kernel
theorem dX5_signAt_117 : decode cX5_signAt 117 = .ok (.aload_n 0, 1) := by decide +kernel
theorem dX5_signAt_118 : decode cX5_signAt 118 = .ok (.bipush 81, 2) := by decide +kernel
theorem dX5_signAt_120 : decode cX5_signAt 120 = .ok (.iload 7, 2) := by decide +kernel
theorem dX5_signAt_122 : decode cX5_signAt 122 = .ok (.iadd, 1) := by decide +kernel
theorem dX5_signAt_123 : decode cX5_signAt 123 = .ok (.bipush 90, 2) := by decide +kernel
theorem dX5_signAt_125 : decode cX5_signAt 125 = .ok (.invokevirtual 100, 3) := by decide +kernel
theorem dX5_signAt_128 : decode cX5_signAt 128 = .ok (.iinc 7 (-1), 3) := by decide +kernel
theorem dX5_signAt_131 : decode cX5_signAt 131 = .ok (.goto (-41), 3) := by decide +kernel
theorem dX5_signAt_134 : decode cX5_signAt 134 = .ok (.aload_n 0, 1) := by decide +kernel
theorem dX5_signAt_135 : decode cX5_signAt 135 = .ok (.bipush 81, 2) := by decide +kernel
theorem dX5_signAt_137 : decode cX5_signAt 137 = .ok (.iload 6, 2) := by decide +kernel
theorem dX5_signAt_139 : decode cX5_signAt 139 = .ok (.iadd, 1) := by decide +kernel
theorem dX5_signAt_140 : decode cX5_signAt 140 = .ok (.invokevirtual 73, 3) := by decide +kernel
theorem dX5_signAt_143 : decode cX5_signAt 143 = .ok (.ifCond .ne 8, 3) := by decide +kernel
theorem dX5_signAt_146 : decode cX5_signAt 146 = .ok (.iload 4, 2) := by decide +kernel
theorem dX5_signAt_148 : decode cX5_signAt 148 = .ok (.ifCond .ne 13, 3) := by decide +kernel
theorem dX5_signAt_151 : decode cX5_signAt 151 = .ok (.aload_n 0, 1) := by decide +kernel
theorem dX5_signAt_152 : decode cX5_signAt 152 = .ok (.bipush 81, 2) := by decide +kernel
theorem dX5_signAt_154 : decode cX5_signAt 154 = .ok (.iload 6, 2) := by decide +kernel
theorem dX5_signAt_156 : decode cX5_signAt 156 = .ok (.iadd, 1) := by decide +kernel
theorem dX5_signAt_157 : decode cX5_signAt 157 = .ok (.invokevirtual 73, 3) := by decide +kernel
theorem dX5_signAt_160 : decode cX5_signAt 160 = .ok (.ireturn, 1) := by decide +kernel
theorem dX5_signAt_161 : decode cX5_signAt 161 = .ok (.iinc 6 1, 3) := by decide +kernel
theorem dX5_signAt_164 : decode cX5_signAt 164 = .ok (.goto (-87), 3) := by decide +kernel
theorem dX5_signAt_167 : decode cX5_signAt 167 = .ok (.iconst 0, 1) := by decide +kernel
theorem dX5_signAt_168 : decode cX5_signAt 168 = .ok (.ireturn, 1) := by decide +kernel
theorem dX5_changesAt_0 : decode cX5_changesAt 0 = .ok (.iconst 0, 1) := by decide +kernel
theorem dX5_changesAt_1 : decode cX5_changesAt 1 = .ok (.istore 4, 2) := by decide +kernel
theorem dX5_changesAt_3 : decode cX5_changesAt 3 = .ok (.iconst 0, 1) := by decide +kernel
theorem dX5_changesAt_4 : decode cX5_changesAt 4 = .ok (.istore 5, 2) := by decide +kernel
theorem dX5_changesAt_6 : decode cX5_changesAt 6 = .ok (.iconst 0, 1) := by decide +kernel
theorem dX5_changesAt_7 : decode cX5_changesAt 7 = .ok (.istore 6, 2) := by decide +kernel
theorem dX5_changesAt_9 : decode cX5_changesAt 9 = .ok (.iload 6, 2) := by decide +kernel
theorem dX5_changesAt_11 : decode cX5_changesAt 11 = .ok (.aload_n 0, 1) := by decide +kernel
theorem dX5_changesAt_12 : decode cX5_changesAt 12 = .ok (.getfield 106, 3) := by decide +kernel
theorem dX5_changesAt_15 : decode cX5_changesAt 15 = .ok (.if_icmp .ge 52, 3) := by decide +kernel
theorem dX5_changesAt_18 : decode cX5_changesAt 18 = .ok (.aload_n 0, 1) := by decide +kernel
theorem dX5_changesAt_19 : decode cX5_changesAt 19 = .ok (.iload 6, 2) := by decide +kernel
theorem dX5_changesAt_21 : decode cX5_changesAt 21 = .ok (.iload_n 1, 1) := by decide +kernel
theorem dX5_changesAt_22 : decode cX5_changesAt 22 = .ok (.iload_n 2, 1) := by decide +kernel
theorem dX5_changesAt_23 : decode cX5_changesAt 23 = .ok (.iload_n 3, 1) := by decide +kernel
theorem dX5_changesAt_24 : decode cX5_changesAt 24 = .ok (.invokevirtual 118, 3) := by decide +kernel
theorem dX5_changesAt_27 : decode cX5_changesAt 27 = .ok (.istore 7, 2) := by decide +kernel
theorem dX5_changesAt_29 : decode cX5_changesAt 29 = .ok (.iload 5, 2) := by decide +kernel
theorem dX5_changesAt_31 : decode cX5_changesAt 31 = .ok (.iload 7, 2) := by decide +kernel
theorem dX5_changesAt_33 : decode cX5_changesAt 33 = .ok (.iload 4, 2) := by decide +kernel
theorem dX5_changesAt_35 : decode cX5_changesAt 35 = .ok (.imul, 1) := by decide +kernel
theorem dX5_changesAt_36 : decode cX5_changesAt 36 = .ok (.ifCond .ge 7, 3) := by decide +kernel
theorem dX5_changesAt_39 : decode cX5_changesAt 39 = .ok (.iconst 1, 1) := by decide +kernel
theorem dX5_changesAt_40 : decode cX5_changesAt 40 = .ok (.goto 4, 3) := by decide +kernel
theorem dX5_changesAt_43 : decode cX5_changesAt 43 = .ok (.iconst 0, 1) := by decide +kernel
theorem dX5_changesAt_44 : decode cX5_changesAt 44 = .ok (.iadd, 1) := by decide +kernel
theorem dX5_changesAt_45 : decode cX5_changesAt 45 = .ok (.istore 5, 2) := by decide +kernel
theorem dX5_changesAt_47 : decode cX5_changesAt 47 = .ok (.iload 7, 2) := by decide +kernel
theorem dX5_changesAt_49 : decode cX5_changesAt 49 = .ok (.ifCond .ne 8, 3) := by decide +kernel
theorem dX5_changesAt_52 : decode cX5_changesAt 52 = .ok (.iload 4, 2) := by decide +kernel
theorem dX5_changesAt_54 : decode cX5_changesAt 54 = .ok (.goto 5, 3) := by decide +kernel
theorem dX5_changesAt_57 : decode cX5_changesAt 57 = .ok (.iload 7, 2) := by decide +kernel
theorem dX5_changesAt_59 : decode cX5_changesAt 59 = .ok (.istore 4, 2) := by decide +kernel
theorem dX5_changesAt_61 : decode cX5_changesAt 61 = .ok (.iinc 6 1, 3) := by decide +kernel
theorem dX5_changesAt_64 : decode cX5_changesAt 64 = .ok (.goto (-55), 3) := by decide +kernel
theorem dX5_changesAt_67 : decode cX5_changesAt 67 = .ok (.iload 5, 2) := by decide +kernel
theorem dX5_changesAt_69 : decode cX5_changesAt 69 = .ok (.ireturn, 1) := by decide +kernel
theorem dX5_endChanges_0 : decode cX5_endChanges 0 = .ok (.iconst 0, 1) := by decide +kernel
theorem dX5_endChanges_1 : decode cX5_endChanges 1 = .ok (.istore_n 2, 1) := by decide +kernel
theorem dX5_endChanges_2 : decode cX5_endChanges 2 = .ok (.iconst 0, 1) := by decide +kernel
theorem dX5_endChanges_3 : decode cX5_endChanges 3 = .ok (.istore_n 3, 1) := by decide +kernel
theorem dX5_endChanges_4 : decode cX5_endChanges 4 = .ok (.iconst 0, 1) := by decide +kernel
theorem dX5_endChanges_5 : decode cX5_endChanges 5 = .ok (.istore 4, 2) := by decide +kernel
theorem dX5_endChanges_7 : decode cX5_endChanges 7 = .ok (.iload 4, 2) := by decide +kernel
theorem dX5_endChanges_9 : decode cX5_endChanges 9 = .ok (.aload_n 0, 1) := by decide +kernel
theorem dX5_endChanges_10 : decode cX5_endChanges 10 = .ok (.getfield 106, 3) := by decide +kernel
theorem dX5_endChanges_13 : decode cX5_endChanges 13 = .ok (.if_icmp .ge 68, 3) := by decide +kernel
theorem dX5_endChanges_16 : decode cX5_endChanges 16 = .ok (.aload_n 0, 1) := by decide +kernel
theorem dX5_endChanges_17 : decode cX5_endChanges 17 = .ok (.iload 4, 2) := by decide +kernel
theorem dX5_endChanges_19 : decode cX5_endChanges 19 = .ok (.aload_n 0, 1) := by decide +kernel
theorem dX5_endChanges_20 : decode cX5_endChanges 20 = .ok (.getfield 32, 3) := by decide +kernel
theorem dX5_endChanges_23 : decode cX5_endChanges 23 = .ok (.iload 4, 2) := by decide +kernel
theorem dX5_endChanges_25 : decode cX5_endChanges 25 = .ok (.iaload, 1) := by decide +kernel
theorem dX5_endChanges_26 : decode cX5_endChanges 26 = .ok (.invokestatic 87, 3) := by decide +kernel
theorem dX5_endChanges_29 : decode cX5_endChanges 29 = .ok (.invokevirtual 73, 3) := by decide +kernel
theorem dX5_endChanges_32 : decode cX5_endChanges 32 = .ok (.iload_n 1, 1) := by decide +kernel
theorem dX5_endChanges_33 : decode cX5_endChanges 33 = .ok (.ifCond .ne 20, 3) := by decide +kernel
theorem dX5_endChanges_36 : decode cX5_endChanges 36 = .ok (.aload_n 0, 1) := by decide +kernel
theorem dX5_endChanges_37 : decode cX5_endChanges 37 = .ok (.getfield 32, 3) := by decide +kernel
theorem dX5_endChanges_40 : decode cX5_endChanges 40 = .ok (.iload 4, 2) := by decide +kernel
theorem dX5_endChanges_42 : decode cX5_endChanges 42 = .ok (.iaload, 1) := by decide +kernel
theorem dX5_endChanges_43 : decode cX5_endChanges 43 = .ok (.iconst 2, 1) := by decide +kernel
theorem dX5_endChanges_44 : decode cX5_endChanges 44 = .ok (.irem, 1) := by decide +kernel
theorem dX5_endChanges_45 : decode cX5_endChanges 45 = .ok (.iconst 1, 1) := by decide +kernel
theorem dX5_endChanges_46 : decode cX5_endChanges 46 = .ok (.if_icmp .ne 7, 3) := by decide +kernel
theorem dX5_endChanges_49 : decode cX5_endChanges 49 = .ok (.iconst (-1), 1) := by decide +kernel
theorem dX5_endChanges_50 : decode cX5_endChanges 50 = .ok (.goto 4, 3) := by decide +kernel
theorem dX5_endChanges_53 : decode cX5_endChanges 53 = .ok (.iconst 1, 1) := by decide +kernel
theorem dX5_endChanges_54 : decode cX5_endChanges 54 = .ok (.imul, 1) := by decide +kernel
theorem dX5_endChanges_55 : decode cX5_endChanges 55 = .ok (.istore 5, 2) := by decide +kernel
theorem dX5_endChanges_57 : decode cX5_endChanges 57 = .ok (.iload_n 3, 1) := by decide +kernel
theorem dX5_endChanges_58 : decode cX5_endChanges 58 = .ok (.iload 5, 2) := by decide +kernel
theorem dX5_endChanges_60 : decode cX5_endChanges 60 = .ok (.iload_n 2, 1) := by decide +kernel
theorem dX5_endChanges_61 : decode cX5_endChanges 61 = .ok (.imul, 1) := by decide +kernel
theorem dX5_endChanges_62 : decode cX5_endChanges 62 = .ok (.ifCond .ge 7, 3) := by decide +kernel
theorem dX5_endChanges_65 : decode cX5_endChanges 65 = .ok (.iconst 1, 1) := by decide +kernel
theorem dX5_endChanges_66 : decode cX5_endChanges 66 = .ok (.goto 4, 3) := by decide +kernel
theorem dX5_endChanges_69 : decode cX5_endChanges 69 = .ok (.iconst 0, 1) := by decide +kernel
theorem dX5_endChanges_70 : decode cX5_endChanges 70 = .ok (.iadd, 1) := by decide +kernel
theorem dX5_endChanges_71 : decode cX5_endChanges 71 = .ok (.istore_n 3, 1) := by decide +kernel
theorem dX5_endChanges_72 : decode cX5_endChanges 72 = .ok (.iload 5, 2) := by decide +kernel
theorem dX5_endChanges_74 : decode cX5_endChanges 74 = .ok (.istore_n 2, 1) := by decide +kernel
theorem dX5_endChanges_75 : decode cX5_endChanges 75 = .ok (.iinc 4 1, 3) := by decide +kernel
theorem dX5_endChanges_78 : decode cX5_endChanges 78 = .ok (.goto (-71), 3) := by decide +kernel
theorem dX5_endChanges_81 : decode cX5_endChanges 81 = .ok (.iload_n 3, 1) := by decide +kernel
theorem dX5_endChanges_82 : decode cX5_endChanges 82 = .ok (.ireturn, 1) := by decide +kernel
theorem dX5_rootsFrom_0 : decode cX5_rootsFrom 0 = .ok (.aload_n 0, 1) := by decide +kernel
theorem dX5_rootsFrom_1 : decode cX5_rootsFrom 1 = .ok (.iload_n 1, 1) := by decide +kernel
theorem dX5_rootsFrom_2 : decode cX5_rootsFrom 2 = .ok (.iconst 0, 1) := by decide +kernel
theorem dX5_rootsFrom_3 : decode cX5_rootsFrom 3 = .ok (.iconst 1, 1) := by decide +kernel
theorem dX5_rootsFrom_4 : decode cX5_rootsFrom 4 = .ok (.invokevirtual 122, 3) := by decide +kernel
theorem dX5_rootsFrom_7 : decode cX5_rootsFrom 7 = .ok (.aload_n 0, 1) := by decide +kernel
theorem dX5_rootsFrom_8 : decode cX5_rootsFrom 8 = .ok (.iload_n 2, 1) := by decide +kernel
theorem dX5_rootsFrom_9 : decode cX5_rootsFrom 9 = .ok (.iconst 0, 1) := by decide +kernel
theorem dX5_rootsFrom_10 : decode cX5_rootsFrom 10 = .ok (.iconst 1, 1) := by decide +kernel
theorem dX5_rootsFrom_11 : decode cX5_rootsFrom 11 = .ok (.invokevirtual 122, 3) := by decide +kernel
theorem dX5_rootsFrom_14 : decode cX5_rootsFrom 14 = .ok (.isub, 1) := by decide +kernel
theorem dX5_rootsFrom_15 : decode cX5_rootsFrom 15 = .ok (.ireturn, 1) := by decide +kernel
theorem dX5_rootsOf_0 : decode cX5_rootsOf 0 = .ok (.aload_n 0, 1) := by decide +kernel
theorem dX5_rootsOf_1 : decode cX5_rootsOf 1 = .ok (.invokevirtual 126, 3) := by decide +kernel
theorem dX5_rootsOf_4 : decode cX5_rootsOf 4 = .ok (.aload_n 0, 1) := by decide +kernel
theorem dX5_rootsOf_5 : decode cX5_rootsOf 5 = .ok (.getfield 106, 3) := by decide +kernel
theorem dX5_rootsOf_8 : decode cX5_rootsOf 8 = .ok (.ifCond .ne 7, 3) := by decide +kernel
theorem dX5_rootsOf_11 : decode cX5_rootsOf 11 = .ok (.iconst (-1), 1) := by decide +kernel
theorem dX5_rootsOf_12 : decode cX5_rootsOf 12 = .ok (.goto 9, 3) := by decide +kernel
theorem dX5_rootsOf_15 : decode cX5_rootsOf 15 = .ok (.aload_n 0, 1) := by decide +kernel
theorem dX5_rootsOf_16 : decode cX5_rootsOf 16 = .ok (.iload_n 1, 1) := by decide +kernel
theorem dX5_rootsOf_17 : decode cX5_rootsOf 17 = .ok (.iload_n 2, 1) := by decide +kernel
theorem dX5_rootsOf_18 : decode cX5_rootsOf 18 = .ok (.invokevirtual 129, 3) := by decide +kernel
theorem dX5_rootsOf_21 : decode cX5_rootsOf 21 = .ok (.ireturn, 1) := by decide +kernel
theorem dX5_rootsInAll_0 : decode cX5_rootsInAll 0 = .ok (.aload_n 0, 1) := by decide +kernel
theorem dX5_rootsInAll_1 : decode cX5_rootsInAll 1 = .ok (.invokevirtual 126, 3) := by decide +kernel
theorem dX5_rootsInAll_4 : decode cX5_rootsInAll 4 = .ok (.aload_n 0, 1) := by decide +kernel
theorem dX5_rootsInAll_5 : decode cX5_rootsInAll 5 = .ok (.getfield 106, 3) := by decide +kernel
theorem dX5_rootsInAll_8 : decode cX5_rootsInAll 8 = .ok (.ifCond .ne 7, 3) := by decide +kernel
theorem dX5_rootsInAll_11 : decode cX5_rootsInAll 11 = .ok (.iconst (-1), 1) := by decide +kernel
theorem dX5_rootsInAll_12 : decode cX5_rootsInAll 12 = .ok (.goto 14, 3) := by decide +kernel
theorem dX5_rootsInAll_15 : decode cX5_rootsInAll 15 = .ok (.aload_n 0, 1) := by decide +kernel
theorem dX5_rootsInAll_16 : decode cX5_rootsInAll 16 = .ok (.iconst 0, 1) := by decide +kernel
theorem dX5_rootsInAll_17 : decode cX5_rootsInAll 17 = .ok (.invokevirtual 132, 3) := by decide +kernel
theorem dX5_rootsInAll_20 : decode cX5_rootsInAll 20 = .ok (.aload_n 0, 1) := by decide +kernel
theorem dX5_rootsInAll_21 : decode cX5_rootsInAll 21 = .ok (.iconst 1, 1) := by decide +kernel
theorem dX5_rootsInAll_22 : decode cX5_rootsInAll 22 = .ok (.invokevirtual 132, 3) := by decide +kernel
theorem dX5_rootsInAll_25 : decode cX5_rootsInAll 25 = .ok (.isub, 1) := by decide +kernel
theorem dX5_rootsInAll_26 : decode cX5_rootsInAll 26 = .ok (.ireturn, 1) := by decide +kernel
theorem dX5_valueAt_0 : decode cX5_valueAt 0 = .ok (.lconst 0, 1) := by decide +kernel
theorem dX5_valueAt_1 : decode cX5_valueAt 1 = .ok (.lstore_n 2, 1) := by decide +kernel
theorem dX5_valueAt_2 : decode cX5_valueAt 2 = .ok (.iconst 4, 1) := by decide +kernel
theorem dX5_valueAt_3 : decode cX5_valueAt 3 = .ok (.istore 4, 2) := by decide +kernel
theorem dX5_valueAt_5 : decode cX5_valueAt 5 = .ok (.iload 4, 2) := by decide +kernel
theorem dX5_valueAt_7 : decode cX5_valueAt 7 = .ok (.ifCond .lt 26, 3) := by decide +kernel
theorem dX5_valueAt_10 : decode cX5_valueAt 10 = .ok (.lload_n 2, 1) := by decide +kernel
theorem dX5_valueAt_11 : decode cX5_valueAt 11 = .ok (.iload_n 1, 1) := by decide +kernel
theorem dX5_valueAt_12 : decode cX5_valueAt 12 = .ok (.i2l, 1) := by decide +kernel
theorem dX5_valueAt_13 : decode cX5_valueAt 13 = .ok (.lmul, 1) := by decide +kernel
theorem dX5_valueAt_14 : decode cX5_valueAt 14 = .ok (.aload_n 0, 1) := by decide +kernel
theorem dX5_valueAt_15 : decode cX5_valueAt 15 = .ok (.getfield 7, 3) := by decide +kernel
theorem dX5_valueAt_18 : decode cX5_valueAt 18 = .ok (.bipush 11, 2) := by decide +kernel
theorem dX5_valueAt_20 : decode cX5_valueAt 20 = .ok (.iload 4, 2) := by decide +kernel
theorem dX5_valueAt_22 : decode cX5_valueAt 22 = .ok (.iadd, 1) := by decide +kernel
theorem dX5_valueAt_23 : decode cX5_valueAt 23 = .ok (.iaload, 1) := by decide +kernel
theorem dX5_valueAt_24 : decode cX5_valueAt 24 = .ok (.i2l, 1) := by decide +kernel
theorem dX5_valueAt_25 : decode cX5_valueAt 25 = .ok (.ladd, 1) := by decide +kernel
theorem dX5_valueAt_26 : decode cX5_valueAt 26 = .ok (.lstore_n 2, 1) := by decide +kernel
theorem dX5_valueAt_27 : decode cX5_valueAt 27 = .ok (.iinc 4 (-1), 3) := by decide +kernel
theorem dX5_valueAt_30 : decode cX5_valueAt 30 = .ok (.goto (-25), 3) := by decide +kernel
theorem dX5_valueAt_33 : decode cX5_valueAt 33 = .ok (.lload_n 2, 1) := by decide +kernel
theorem dX5_valueAt_34 : decode cX5_valueAt 34 = .ok (.lreturn, 1) := by decide +kernel
theorem dX5_derivativeAt_0 : decode cX5_derivativeAt 0 = .ok (.lconst 0, 1) := by decide +kernel
theorem dX5_derivativeAt_1 : decode cX5_derivativeAt 1 = .ok (.lstore_n 3, 1) := by decide +kernel
theorem dX5_derivativeAt_2 : decode cX5_derivativeAt 2 = .ok (.iconst 4, 1) := by decide +kernel
theorem dX5_derivativeAt_3 : decode cX5_derivativeAt 3 = .ok (.istore 5, 2) := by decide +kernel
theorem dX5_derivativeAt_5 : decode cX5_derivativeAt 5 = .ok (.iload 5, 2) := by decide +kernel
theorem dX5_derivativeAt_7 : decode cX5_derivativeAt 7 = .ok (.iload_n 1, 1) := by decide +kernel
theorem dX5_derivativeAt_8 : decode cX5_derivativeAt 8 = .ok (.if_icmp .lt 56, 3) := by decide +kernel
theorem dX5_derivativeAt_11 : decode cX5_derivativeAt 11 = .ok (.aload_n 0, 1) := by decide +kernel
theorem dX5_derivativeAt_12 : decode cX5_derivativeAt 12 = .ok (.getfield 7, 3) := by decide +kernel
theorem dX5_derivativeAt_15 : decode cX5_derivativeAt 15 = .ok (.bipush 11, 2) := by decide +kernel
theorem dX5_derivativeAt_17 : decode cX5_derivativeAt 17 = .ok (.iload 5, 2) := by decide +kernel
theorem dX5_derivativeAt_19 : decode cX5_derivativeAt 19 = .ok (.iadd, 1) := by decide +kernel
theorem dX5_derivativeAt_20 : decode cX5_derivativeAt 20 = .ok (.iaload, 1) := by decide +kernel
theorem dX5_derivativeAt_21 : decode cX5_derivativeAt 21 = .ok (.i2l, 1) := by decide +kernel
theorem dX5_derivativeAt_22 : decode cX5_derivativeAt 22 = .ok (.lstore 6, 2) := by decide +kernel
theorem dX5_derivativeAt_24 : decode cX5_derivativeAt 24 = .ok (.iconst 0, 1) := by decide +kernel
theorem dX5_derivativeAt_25 : decode cX5_derivativeAt 25 = .ok (.istore 8, 2) := by decide +kernel
theorem dX5_derivativeAt_27 : decode cX5_derivativeAt 27 = .ok (.iload 8, 2) := by decide +kernel
theorem dX5_derivativeAt_29 : decode cX5_derivativeAt 29 = .ok (.iload_n 1, 1) := by decide +kernel
theorem dX5_derivativeAt_30 : decode cX5_derivativeAt 30 = .ok (.if_icmp .ge 20, 3) := by decide +kernel
theorem dX5_derivativeAt_33 : decode cX5_derivativeAt 33 = .ok (.lload 6, 2) := by decide +kernel
theorem dX5_derivativeAt_35 : decode cX5_derivativeAt 35 = .ok (.iload 5, 2) := by decide +kernel
theorem dX5_derivativeAt_37 : decode cX5_derivativeAt 37 = .ok (.iload 8, 2) := by decide +kernel
theorem dX5_derivativeAt_39 : decode cX5_derivativeAt 39 = .ok (.isub, 1) := by decide +kernel
theorem dX5_derivativeAt_40 : decode cX5_derivativeAt 40 = .ok (.i2l, 1) := by decide +kernel
theorem dX5_derivativeAt_41 : decode cX5_derivativeAt 41 = .ok (.lmul, 1) := by decide +kernel
theorem dX5_derivativeAt_42 : decode cX5_derivativeAt 42 = .ok (.lstore 6, 2) := by decide +kernel
theorem dX5_derivativeAt_44 : decode cX5_derivativeAt 44 = .ok (.iinc 8 1, 3) := by decide +kernel
theorem dX5_derivativeAt_47 : decode cX5_derivativeAt 47 = .ok (.goto (-20), 3) := by decide +kernel
theorem dX5_derivativeAt_50 : decode cX5_derivativeAt 50 = .ok (.lload_n 3, 1) := by decide +kernel
theorem dX5_derivativeAt_51 : decode cX5_derivativeAt 51 = .ok (.iload_n 2, 1) := by decide +kernel
theorem dX5_derivativeAt_52 : decode cX5_derivativeAt 52 = .ok (.i2l, 1) := by decide +kernel
theorem dX5_derivativeAt_53 : decode cX5_derivativeAt 53 = .ok (.lmul, 1) := by decide +kernel
theorem dX5_derivativeAt_54 : decode cX5_derivativeAt 54 = .ok (.lload 6, 2) := by decide +kernel
theorem dX5_derivativeAt_56 : decode cX5_derivativeAt 56 = .ok (.ladd, 1) := by decide +kernel
theorem dX5_derivativeAt_57 : decode cX5_derivativeAt 57 = .ok (.lstore_n 3, 1) := by decide +kernel
theorem dX5_derivativeAt_58 : decode cX5_derivativeAt 58 = .ok (.iinc 5 (-1), 3) := by decide +kernel
theorem dX5_derivativeAt_61 : decode cX5_derivativeAt 61 = .ok (.goto (-56), 3) := by decide +kernel
theorem dX5_derivativeAt_64 : decode cX5_derivativeAt 64 = .ok (.lload_n 3, 1) := by decide +kernel
theorem dX5_derivativeAt_65 : decode cX5_derivativeAt 65 = .ok (.lreturn, 1) := by decide +kernel
theorem dX5_degreeNow_0 : decode cX5_degreeNow 0 = .ok (.iconst 4, 1) := by decide +kernel
theorem dX5_degreeNow_1 : decode cX5_degreeNow 1 = .ok (.istore_n 1, 1) := by decide +kernel
theorem dX5_degreeNow_2 : decode cX5_degreeNow 2 = .ok (.iload_n 1, 1) := by decide +kernel
theorem dX5_degreeNow_3 : decode cX5_degreeNow 3 = .ok (.ifCond .lt 21, 3) := by decide +kernel
theorem dX5_degreeNow_6 : decode cX5_degreeNow 6 = .ok (.aload_n 0, 1) := by decide +kernel
theorem dX5_degreeNow_7 : decode cX5_degreeNow 7 = .ok (.getfield 7, 3) := by decide +kernel
theorem dX5_degreeNow_10 : decode cX5_degreeNow 10 = .ok (.bipush 11, 2) := by decide +kernel
theorem dX5_degreeNow_12 : decode cX5_degreeNow 12 = .ok (.iload_n 1, 1) := by decide +kernel
theorem dX5_degreeNow_13 : decode cX5_degreeNow 13 = .ok (.iadd, 1) := by decide +kernel
theorem dX5_degreeNow_14 : decode cX5_degreeNow 14 = .ok (.iaload, 1) := by decide +kernel
theorem dX5_degreeNow_15 : decode cX5_degreeNow 15 = .ok (.ifCond .ne 9, 3) := by decide +kernel
theorem dX5_degreeNow_18 : decode cX5_degreeNow 18 = .ok (.iinc 1 (-1), 3) := by decide +kernel
theorem dX5_degreeNow_21 : decode cX5_degreeNow 21 = .ok (.goto (-19), 3) := by decide +kernel
theorem dX5_degreeNow_24 : decode cX5_degreeNow 24 = .ok (.iload_n 1, 1) := by decide +kernel
theorem dX5_degreeNow_25 : decode cX5_degreeNow 25 = .ok (.ireturn, 1) := by decide +kernel
theorem dX5_secondChanges_0 : decode cX5_secondChanges 0 = .ok (.iconst 0, 1) := by decide +kernel
theorem dX5_secondChanges_1 : decode cX5_secondChanges 1 = .ok (.istore_n 2, 1) := by decide +kernel
theorem dX5_secondChanges_2 : decode cX5_secondChanges 2 = .ok (.iconst 0, 1) := by decide +kernel
theorem dX5_secondChanges_3 : decode cX5_secondChanges 3 = .ok (.istore_n 3, 1) := by decide +kernel
theorem dX5_secondChanges_4 : decode cX5_secondChanges 4 = .ok (.iconst 0, 1) := by decide +kernel
theorem dX5_secondChanges_5 : decode cX5_secondChanges 5 = .ok (.istore 4, 2) := by decide +kernel
theorem dX5_secondChanges_7 : decode cX5_secondChanges 7 = .ok (.iload 4, 2) := by decide +kernel
theorem dX5_secondChanges_9 : decode cX5_secondChanges 9 = .ok (.aload_n 0, 1) := by decide +kernel
theorem dX5_secondChanges_10 : decode cX5_secondChanges 10 = .ok (.invokevirtual 136, 3) := by decide +kernel
theorem dX5_secondChanges_13 : decode cX5_secondChanges 13 = .ok (.if_icmp .gt 70, 3) := by decide +kernel
theorem dX5_secondChanges_16 : decode cX5_secondChanges 16 = .ok (.aload_n 0, 1) := by decide +kernel
theorem dX5_secondChanges_17 : decode cX5_secondChanges 17 = .ok (.iload 4, 2) := by decide +kernel
theorem dX5_secondChanges_19 : decode cX5_secondChanges 19 = .ok (.iload_n 1, 1) := by decide +kernel
theorem dX5_secondChanges_20 : decode cX5_secondChanges 20 = .ok (.invokevirtual 140, 3) := by decide +kernel
theorem dX5_secondChanges_23 : decode cX5_secondChanges 23 = .ok (.lstore 5, 2) := by decide +kernel
theorem dX5_secondChanges_25 : decode cX5_secondChanges 25 = .ok (.lload 5, 2) := by decide +kernel
theorem dX5_secondChanges_27 : decode cX5_secondChanges 27 = .ok (.lconst 0, 1) := by decide +kernel
theorem dX5_secondChanges_28 : decode cX5_secondChanges 28 = .ok (.lcmp, 1) := by decide +kernel
theorem dX5_secondChanges_29 : decode cX5_secondChanges 29 = .ok (.ifCond .le 7, 3) := by decide +kernel
theorem dX5_secondChanges_32 : decode cX5_secondChanges 32 = .ok (.iconst 1, 1) := by decide +kernel
theorem dX5_secondChanges_33 : decode cX5_secondChanges 33 = .ok (.goto 15, 3) := by decide +kernel
theorem dX5_secondChanges_36 : decode cX5_secondChanges 36 = .ok (.lload 5, 2) := by decide +kernel
theorem dX5_secondChanges_38 : decode cX5_secondChanges 38 = .ok (.lconst 0, 1) := by decide +kernel
theorem dX5_secondChanges_39 : decode cX5_secondChanges 39 = .ok (.lcmp, 1) := by decide +kernel
theorem dX5_secondChanges_40 : decode cX5_secondChanges 40 = .ok (.ifCond .ge 7, 3) := by decide +kernel
theorem dX5_secondChanges_43 : decode cX5_secondChanges 43 = .ok (.iconst (-1), 1) := by decide +kernel
theorem dX5_secondChanges_44 : decode cX5_secondChanges 44 = .ok (.goto 4, 3) := by decide +kernel
theorem dX5_secondChanges_47 : decode cX5_secondChanges 47 = .ok (.iconst 0, 1) := by decide +kernel
theorem dX5_secondChanges_48 : decode cX5_secondChanges 48 = .ok (.istore 7, 2) := by decide +kernel
theorem dX5_secondChanges_50 : decode cX5_secondChanges 50 = .ok (.iload_n 3, 1) := by decide +kernel
theorem dX5_secondChanges_51 : decode cX5_secondChanges 51 = .ok (.iload 7, 2) := by decide +kernel
theorem dX5_secondChanges_53 : decode cX5_secondChanges 53 = .ok (.iload_n 2, 1) := by decide +kernel
theorem dX5_secondChanges_54 : decode cX5_secondChanges 54 = .ok (.imul, 1) := by decide +kernel
theorem dX5_secondChanges_55 : decode cX5_secondChanges 55 = .ok (.ifCond .ge 7, 3) := by decide +kernel
theorem dX5_secondChanges_58 : decode cX5_secondChanges 58 = .ok (.iconst 1, 1) := by decide +kernel
theorem dX5_secondChanges_59 : decode cX5_secondChanges 59 = .ok (.goto 4, 3) := by decide +kernel
theorem dX5_secondChanges_62 : decode cX5_secondChanges 62 = .ok (.iconst 0, 1) := by decide +kernel
theorem dX5_secondChanges_63 : decode cX5_secondChanges 63 = .ok (.iadd, 1) := by decide +kernel
theorem dX5_secondChanges_64 : decode cX5_secondChanges 64 = .ok (.istore_n 3, 1) := by decide +kernel
theorem dX5_secondChanges_65 : decode cX5_secondChanges 65 = .ok (.iload 7, 2) := by decide +kernel
theorem dX5_secondChanges_67 : decode cX5_secondChanges 67 = .ok (.ifCond .ne 7, 3) := by decide +kernel
theorem dX5_secondChanges_70 : decode cX5_secondChanges 70 = .ok (.iload_n 2, 1) := by decide +kernel
theorem dX5_secondChanges_71 : decode cX5_secondChanges 71 = .ok (.goto 5, 3) := by decide +kernel
theorem dX5_secondChanges_74 : decode cX5_secondChanges 74 = .ok (.iload 7, 2) := by decide +kernel
theorem dX5_secondChanges_76 : decode cX5_secondChanges 76 = .ok (.istore_n 2, 1) := by decide +kernel
theorem dX5_secondChanges_77 : decode cX5_secondChanges 77 = .ok (.iinc 4 1, 3) := by decide +kernel
theorem dX5_secondChanges_80 : decode cX5_secondChanges 80 = .ok (.goto (-73), 3) := by decide +kernel
theorem dX5_secondChanges_83 : decode cX5_secondChanges 83 = .ok (.iload_n 3, 1) := by decide +kernel
theorem dX5_secondChanges_84 : decode cX5_secondChanges 84 = .ok (.ireturn, 1) := by decide +kernel
theorem dX5_timesFrom_0 : decode cX5_timesFrom 0 = .ok (.aload_n 0, 1) := by decide +kernel
theorem dX5_timesFrom_1 : decode cX5_timesFrom 1 = .ok (.invokevirtual 126, 3) := by decide +kernel
theorem dX5_timesFrom_4 : decode cX5_timesFrom 4 = .ok (.iconst 0, 1) := by decide +kernel
theorem dX5_timesFrom_5 : decode cX5_timesFrom 5 = .ok (.istore_n 3, 1) := by decide +kernel
theorem dX5_timesFrom_6 : decode cX5_timesFrom 6 = .ok (.iconst 1, 1) := by decide +kernel
theorem dX5_timesFrom_7 : decode cX5_timesFrom 7 = .ok (.istore 4, 2) := by decide +kernel
theorem dX5_timesFrom_9 : decode cX5_timesFrom 9 = .ok (.iload 4, 2) := by decide +kernel
theorem dX5_timesFrom_11 : decode cX5_timesFrom 11 = .ok (.ifCond .eq 112, 3) := by decide +kernel
theorem dX5_timesFrom_14 : decode cX5_timesFrom 14 = .ok (.iload_n 3, 1) := by decide +kernel
theorem dX5_timesFrom_15 : decode cX5_timesFrom 15 = .ok (.aload_n 0, 1) := by decide +kernel
theorem dX5_timesFrom_16 : decode cX5_timesFrom 16 = .ok (.iload_n 1, 1) := by decide +kernel
theorem dX5_timesFrom_17 : decode cX5_timesFrom 17 = .ok (.iload_n 2, 1) := by decide +kernel
theorem dX5_timesFrom_18 : decode cX5_timesFrom 18 = .ok (.invokevirtual 129, 3) := by decide +kernel
theorem dX5_timesFrom_21 : decode cX5_timesFrom 21 = .ok (.iadd, 1) := by decide +kernel
theorem dX5_timesFrom_22 : decode cX5_timesFrom 22 = .ok (.istore_n 3, 1) := by decide +kernel
theorem dX5_timesFrom_23 : decode cX5_timesFrom 23 = .ok (.aload_n 0, 1) := by decide +kernel
theorem dX5_timesFrom_24 : decode cX5_timesFrom 24 = .ok (.getfield 106, 3) := by decide +kernel
theorem dX5_timesFrom_27 : decode cX5_timesFrom 27 = .ok (.iconst 1, 1) := by decide +kernel
theorem dX5_timesFrom_28 : decode cX5_timesFrom 28 = .ok (.isub, 1) := by decide +kernel
theorem dX5_timesFrom_29 : decode cX5_timesFrom 29 = .ok (.istore 5, 2) := by decide +kernel
theorem dX5_timesFrom_31 : decode cX5_timesFrom 31 = .ok (.aload_n 0, 1) := by decide +kernel
theorem dX5_timesFrom_32 : decode cX5_timesFrom 32 = .ok (.getfield 32, 3) := by decide +kernel
theorem dX5_timesFrom_35 : decode cX5_timesFrom 35 = .ok (.iload 5, 2) := by decide +kernel
theorem dX5_timesFrom_37 : decode cX5_timesFrom 37 = .ok (.iaload, 1) := by decide +kernel
theorem dX5_timesFrom_38 : decode cX5_timesFrom 38 = .ok (.ifCond .le 7, 3) := by decide +kernel
theorem dX5_timesFrom_41 : decode cX5_timesFrom 41 = .ok (.iconst 1, 1) := by decide +kernel
theorem dX5_timesFrom_42 : decode cX5_timesFrom 42 = .ok (.goto 4, 3) := by decide +kernel
theorem dX5_timesFrom_45 : decode cX5_timesFrom 45 = .ok (.iconst 0, 1) := by decide +kernel
theorem dX5_timesFrom_46 : decode cX5_timesFrom 46 = .ok (.istore 4, 2) := by decide +kernel
theorem dX5_timesFrom_48 : decode cX5_timesFrom 48 = .ok (.iload 4, 2) := by decide +kernel
theorem dX5_timesFrom_50 : decode cX5_timesFrom 50 = .ok (.ifCond .eq 70, 3) := by decide +kernel
theorem dX5_timesFrom_53 : decode cX5_timesFrom 53 = .ok (.iconst 0, 1) := by decide +kernel
theorem dX5_timesFrom_54 : decode cX5_timesFrom 54 = .ok (.istore 6, 2) := by decide +kernel
theorem dX5_timesFrom_56 : decode cX5_timesFrom 56 = .ok (.iload 6, 2) := by decide +kernel
theorem dX5_timesFrom_58 : decode cX5_timesFrom 58 = .ok (.bipush 9, 2) := by decide +kernel
theorem dX5_timesFrom_60 : decode cX5_timesFrom 60 = .ok (.if_icmp .ge 25, 3) := by decide +kernel
theorem dX5_timesFrom_63 : decode cX5_timesFrom 63 = .ok (.aload_n 0, 1) := by decide +kernel
theorem dX5_timesFrom_64 : decode cX5_timesFrom 64 = .ok (.iload 5, 2) := by decide +kernel
theorem dX5_timesFrom_66 : decode cX5_timesFrom 66 = .ok (.iload 6, 2) := by decide +kernel
theorem dX5_timesFrom_68 : decode cX5_timesFrom 68 = .ok (.invokestatic 87, 3) := by decide +kernel
theorem dX5_timesFrom_71 : decode cX5_timesFrom 71 = .ok (.bipush 81, 2) := by decide +kernel
theorem dX5_timesFrom_73 : decode cX5_timesFrom 73 = .ok (.iload 6, 2) := by decide +kernel
theorem dX5_timesFrom_75 : decode cX5_timesFrom 75 = .ok (.iadd, 1) := by decide +kernel
theorem dX5_timesFrom_76 : decode cX5_timesFrom 76 = .ok (.invokevirtual 76, 3) := by decide +kernel
theorem dX5_timesFrom_79 : decode cX5_timesFrom 79 = .ok (.iinc 6 1, 3) := by decide +kernel
theorem dX5_timesFrom_82 : decode cX5_timesFrom 82 = .ok (.goto (-26), 3) := by decide +kernel
theorem dX5_timesFrom_85 : decode cX5_timesFrom 85 = .ok (.iconst 0, 1) := by decide +kernel
theorem dX5_timesFrom_86 : decode cX5_timesFrom 86 = .ok (.istore 6, 2) := by decide +kernel
theorem dX5_timesFrom_88 : decode cX5_timesFrom 88 = .ok (.iload 6, 2) := by decide +kernel
theorem dX5_timesFrom_90 : decode cX5_timesFrom 90 = .ok (.bipush 9, 2) := by decide +kernel
theorem dX5_timesFrom_92 : decode cX5_timesFrom 92 = .ok (.if_icmp .ge 24, 3) := by decide +kernel
theorem dX5_timesFrom_95 : decode cX5_timesFrom 95 = .ok (.aload_n 0, 1) := by decide +kernel
theorem dX5_timesFrom_96 : decode cX5_timesFrom 96 = .ok (.bipush 81, 2) := by decide +kernel
theorem dX5_timesFrom_98 : decode cX5_timesFrom 98 = .ok (.iload 6, 2) := by decide +kernel
theorem dX5_timesFrom_100 : decode cX5_timesFrom 100 = .ok (.iadd, 1) := by decide +kernel
theorem dX5_timesFrom_101 : decode cX5_timesFrom 101 = .ok (.iconst 0, 1) := by decide +kernel
theorem dX5_timesFrom_102 : decode cX5_timesFrom 102 = .ok (.iload 6, 2) := by decide +kernel
theorem dX5_timesFrom_104 : decode cX5_timesFrom 104 = .ok (.invokestatic 87, 3) := by decide +kernel
theorem dX5_timesFrom_107 : decode cX5_timesFrom 107 = .ok (.invokevirtual 76, 3) := by decide +kernel
theorem dX5_timesFrom_110 : decode cX5_timesFrom 110 = .ok (.iinc 6 1, 3) := by decide +kernel
theorem dX5_timesFrom_113 : decode cX5_timesFrom 113 = .ok (.goto (-25), 3) := by decide +kernel
theorem dX5_timesFrom_116 : decode cX5_timesFrom 116 = .ok (.aload_n 0, 1) := by decide +kernel
theorem dX5_timesFrom_117 : decode cX5_timesFrom 117 = .ok (.invokevirtual 115, 3) := by decide +kernel
theorem dX5_timesFrom_120 : decode cX5_timesFrom 120 = .ok (.goto (-111), 3) := by decide +kernel
theorem dX5_timesFrom_123 : decode cX5_timesFrom 123 = .ok (.iload_n 3, 1) := by decide +kernel
theorem dX5_timesFrom_124 : decode cX5_timesFrom 124 = .ok (.ireturn, 1) := by decide +kernel
theorem dX5_isPower_0 : decode cX5_isPower 0 = .ok (.iload_n 1, 1) := by decide +kernel
theorem dX5_isPower_1 : decode cX5_isPower 1 = .ok (.iconst 0, 1) := by decide +kernel
theorem dX5_isPower_2 : decode cX5_isPower 2 = .ok (.aload_n 0, 1) := by decide +kernel
theorem dX5_isPower_3 : decode cX5_isPower 3 = .ok (.getfield 7, 3) := by decide +kernel
theorem dX5_isPower_6 : decode cX5_isPower 6 = .ok (.iconst 0, 1) := by decide +kernel
theorem dX5_isPower_7 : decode cX5_isPower 7 = .ok (.iaload, 1) := by decide +kernel
theorem dX5_isPower_8 : decode cX5_isPower 8 = .ok (.iconst 1, 1) := by decide +kernel
theorem dX5_isPower_9 : decode cX5_isPower 9 = .ok (.isub, 1) := by decide +kernel
theorem dX5_isPower_10 : decode cX5_isPower 10 = .ok (.invokestatic 144, 3) := by decide +kernel
theorem dX5_isPower_13 : decode cX5_isPower 13 = .ok (.ireturn, 1) := by decide +kernel
theorem dX5_isBarred_0 : decode cX5_isBarred 0 = .ok (.aload_n 0, 1) := by decide +kernel
theorem dX5_isBarred_1 : decode cX5_isBarred 1 = .ok (.getfield 7, 3) := by decide +kernel
theorem dX5_isBarred_4 : decode cX5_isBarred 4 = .ok (.bipush 29, 2) := by decide +kernel
theorem dX5_isBarred_6 : decode cX5_isBarred 6 = .ok (.iload_n 1, 1) := by decide +kernel
theorem dX5_isBarred_7 : decode cX5_isBarred 7 = .ok (.iadd, 1) := by decide +kernel
theorem dX5_isBarred_8 : decode cX5_isBarred 8 = .ok (.iaload, 1) := by decide +kernel
theorem dX5_isBarred_9 : decode cX5_isBarred 9 = .ok (.istore_n 2, 1) := by decide +kernel
theorem dX5_isBarred_10 : decode cX5_isBarred 10 = .ok (.iload_n 2, 1) := by decide +kernel
theorem dX5_isBarred_11 : decode cX5_isBarred 11 = .ok (.iconst (-1), 1) := by decide +kernel
theorem dX5_isBarred_12 : decode cX5_isBarred 12 = .ok (.if_icmp .eq 34, 3) := by decide +kernel
theorem dX5_isBarred_15 : decode cX5_isBarred 15 = .ok (.aload_n 0, 1) := by decide +kernel
theorem dX5_isBarred_16 : decode cX5_isBarred 16 = .ok (.getfield 7, 3) := by decide +kernel
theorem dX5_isBarred_19 : decode cX5_isBarred 19 = .ok (.iconst 1, 1) := by decide +kernel
theorem dX5_isBarred_20 : decode cX5_isBarred 20 = .ok (.iaload, 1) := by decide +kernel
theorem dX5_isBarred_21 : decode cX5_isBarred 21 = .ok (.ifCond .eq 21, 3) := by decide +kernel
theorem dX5_isBarred_24 : decode cX5_isBarred 24 = .ok (.aload_n 0, 1) := by decide +kernel
theorem dX5_isBarred_25 : decode cX5_isBarred 25 = .ok (.getfield 7, 3) := by decide +kernel
theorem dX5_isBarred_28 : decode cX5_isBarred 28 = .ok (.bipush 7, 2) := by decide +kernel
theorem dX5_isBarred_30 : decode cX5_isBarred 30 = .ok (.iaload, 1) := by decide +kernel
theorem dX5_isBarred_31 : decode cX5_isBarred 31 = .ok (.iload_n 2, 1) := by decide +kernel
theorem dX5_isBarred_32 : decode cX5_isBarred 32 = .ok (.aload_n 0, 1) := by decide +kernel
theorem dX5_isBarred_33 : decode cX5_isBarred 33 = .ok (.getfield 7, 3) := by decide +kernel
theorem dX5_isBarred_36 : decode cX5_isBarred 36 = .ok (.iconst 1, 1) := by decide +kernel
theorem dX5_isBarred_37 : decode cX5_isBarred 37 = .ok (.iaload, 1) := by decide +kernel
theorem dX5_isBarred_38 : decode cX5_isBarred 38 = .ok (.iadd, 1) := by decide +kernel
theorem dX5_isBarred_39 : decode cX5_isBarred 39 = .ok (.if_icmp .gt 7, 3) := by decide +kernel
theorem dX5_isBarred_42 : decode cX5_isBarred 42 = .ok (.iconst 1, 1) := by decide +kernel
theorem dX5_isBarred_43 : decode cX5_isBarred 43 = .ok (.goto 4, 3) := by decide +kernel
theorem dX5_isBarred_46 : decode cX5_isBarred 46 = .ok (.iconst 0, 1) := by decide +kernel
theorem dX5_isBarred_47 : decode cX5_isBarred 47 = .ok (.ireturn, 1) := by decide +kernel
theorem dX5_barred_0 : decode cX5_barred 0 = .ok (.iconst 0, 1) := by decide +kernel
theorem dX5_barred_1 : decode cX5_barred 1 = .ok (.istore_n 1, 1) := by decide +kernel
theorem dX5_barred_2 : decode cX5_barred 2 = .ok (.iconst 0, 1) := by decide +kernel
theorem dX5_barred_3 : decode cX5_barred 3 = .ok (.istore_n 2, 1) := by decide +kernel
theorem dX5_barred_4 : decode cX5_barred 4 = .ok (.iload_n 2, 1) := by decide +kernel
theorem dX5_barred_5 : decode cX5_barred 5 = .ok (.aload_n 0, 1) := by decide +kernel
theorem dX5_barred_6 : decode cX5_barred 6 = .ok (.getfield 7, 3) := by decide +kernel
theorem dX5_barred_9 : decode cX5_barred 9 = .ok (.iconst 0, 1) := by decide +kernel
theorem dX5_barred_10 : decode cX5_barred 10 = .ok (.iaload, 1) := by decide +kernel
theorem dX5_barred_11 : decode cX5_barred 11 = .ok (.if_icmp .ge 25, 3) := by decide +kernel
theorem dX5_barred_14 : decode cX5_barred 14 = .ok (.iload_n 1, 1) := by decide +kernel
theorem dX5_barred_15 : decode cX5_barred 15 = .ok (.aload_n 0, 1) := by decide +kernel
theorem dX5_barred_16 : decode cX5_barred 16 = .ok (.iload_n 2, 1) := by decide +kernel
theorem dX5_barred_17 : decode cX5_barred 17 = .ok (.invokevirtual 148, 3) := by decide +kernel
theorem dX5_barred_20 : decode cX5_barred 20 = .ok (.ifCond .eq 7, 3) := by decide +kernel
theorem dX5_barred_23 : decode cX5_barred 23 = .ok (.iconst 1, 1) := by decide +kernel
theorem dX5_barred_24 : decode cX5_barred 24 = .ok (.goto 4, 3) := by decide +kernel
theorem dX5_barred_27 : decode cX5_barred 27 = .ok (.iconst 0, 1) := by decide +kernel
theorem dX5_barred_28 : decode cX5_barred 28 = .ok (.iadd, 1) := by decide +kernel
theorem dX5_barred_29 : decode cX5_barred 29 = .ok (.istore_n 1, 1) := by decide +kernel
theorem dX5_barred_30 : decode cX5_barred 30 = .ok (.iinc 2 1, 3) := by decide +kernel
theorem dX5_barred_33 : decode cX5_barred 33 = .ok (.goto (-29), 3) := by decide +kernel
theorem dX5_barred_36 : decode cX5_barred 36 = .ok (.iload_n 1, 1) := by decide +kernel
theorem dX5_barred_37 : decode cX5_barred 37 = .ok (.ireturn, 1) := by decide +kernel
theorem dX5_whose_0 : decode cX5_whose 0 = .ok (.aload_n 0, 1) := by decide +kernel
theorem dX5_whose_1 : decode cX5_whose 1 = .ok (.getfield 7, 3) := by decide +kernel
theorem dX5_whose_4 : decode cX5_whose 4 = .ok (.bipush 7, 2) := by decide +kernel
theorem dX5_whose_6 : decode cX5_whose 6 = .ok (.iaload, 1) := by decide +kernel
theorem dX5_whose_7 : decode cX5_whose 7 = .ok (.iconst 2, 1) := by decide +kernel
theorem dX5_whose_8 : decode cX5_whose 8 = .ok (.irem, 1) := by decide +kernel
theorem dX5_whose_9 : decode cX5_whose 9 = .ok (.ireturn, 1) := by decide +kernel
theorem dX5_claimAt_0 : decode cX5_claimAt 0 = .ok (.bipush 47, 2) := by decide +kernel
theorem dX5_claimAt_2 : decode cX5_claimAt 2 = .ok (.bipush 24, 2) := by decide +kernel
theorem dX5_claimAt_4 : decode cX5_claimAt 4 = .ok (.iload_n 0, 1) := by decide +kernel
theorem dX5_claimAt_5 : decode cX5_claimAt 5 = .ok (.imul, 1) := by decide +kernel
theorem dX5_claimAt_6 : decode cX5_claimAt 6 = .ok (.iadd, 1) := by decide +kernel
theorem dX5_claimAt_7 : decode cX5_claimAt 7 = .ok (.bipush 6, 2) := by decide +kernel
theorem dX5_claimAt_9 : decode cX5_claimAt 9 = .ok (.iload_n 1, 1) := by decide +kernel
theorem dX5_claimAt_10 : decode cX5_claimAt 10 = .ok (.imul, 1) := by decide +kernel
theorem dX5_claimAt_11 : decode cX5_claimAt 11 = .ok (.iadd, 1) := by decide +kernel
theorem dX5_claimAt_12 : decode cX5_claimAt 12 = .ok (.ireturn, 1) := by decide +kernel
theorem dX5_claimsOf_0 : decode cX5_claimsOf 0 = .ok (.aload_n 0, 1) := by decide +kernel
theorem dX5_claimsOf_1 : decode cX5_claimsOf 1 = .ok (.getfield 7, 3) := by decide +kernel
theorem dX5_claimsOf_4 : decode cX5_claimsOf 4 = .ok (.bipush 95, 2) := by decide +kernel
theorem dX5_claimsOf_6 : decode cX5_claimsOf 6 = .ok (.iload_n 1, 1) := by decide +kernel
theorem dX5_claimsOf_7 : decode cX5_claimsOf 7 = .ok (.iadd, 1) := by decide +kernel
theorem dX5_claimsOf_8 : decode cX5_claimsOf 8 = .ok (.iaload, 1) := by decide +kernel
theorem dX5_claimsOf_9 : decode cX5_claimsOf 9 = .ok (.ireturn, 1) := by decide +kernel
theorem dX5_hasClaimed_0 : decode cX5_hasClaimed 0 = .ok (.aload_n 0, 1) := by decide +kernel
theorem dX5_hasClaimed_1 : decode cX5_hasClaimed 1 = .ok (.invokevirtual 152, 3) := by decide +kernel
theorem dX5_hasClaimed_4 : decode cX5_hasClaimed 4 = .ok (.istore_n 1, 1) := by decide +kernel
theorem dX5_hasClaimed_5 : decode cX5_hasClaimed 5 = .ok (.aload_n 0, 1) := by decide +kernel
theorem dX5_hasClaimed_6 : decode cX5_hasClaimed 6 = .ok (.iload_n 1, 1) := by decide +kernel
theorem dX5_hasClaimed_7 : decode cX5_hasClaimed 7 = .ok (.invokevirtual 155, 3) := by decide +kernel
theorem dX5_hasClaimed_10 : decode cX5_hasClaimed 10 = .ok (.istore_n 2, 1) := by decide +kernel
theorem dX5_hasClaimed_11 : decode cX5_hasClaimed 11 = .ok (.aload_n 0, 1) := by decide +kernel
theorem dX5_hasClaimed_12 : decode cX5_hasClaimed 12 = .ok (.getfield 7, 3) := by decide +kernel
theorem dX5_hasClaimed_15 : decode cX5_hasClaimed 15 = .ok (.bipush 8, 2) := by decide +kernel
theorem dX5_hasClaimed_17 : decode cX5_hasClaimed 17 = .ok (.iaload, 1) := by decide +kernel
theorem dX5_hasClaimed_18 : decode cX5_hasClaimed 18 = .ok (.ifCond .ne 35, 3) := by decide +kernel
theorem dX5_hasClaimed_21 : decode cX5_hasClaimed 21 = .ok (.iload_n 2, 1) := by decide +kernel
theorem dX5_hasClaimed_22 : decode cX5_hasClaimed 22 = .ok (.ifCond .le 31, 3) := by decide +kernel
theorem dX5_hasClaimed_25 : decode cX5_hasClaimed 25 = .ok (.aload_n 0, 1) := by decide +kernel
theorem dX5_hasClaimed_26 : decode cX5_hasClaimed 26 = .ok (.getfield 7, 3) := by decide +kernel
theorem dX5_hasClaimed_29 : decode cX5_hasClaimed 29 = .ok (.iload_n 1, 1) := by decide +kernel
theorem dX5_hasClaimed_30 : decode cX5_hasClaimed 30 = .ok (.iload_n 2, 1) := by decide +kernel
theorem dX5_hasClaimed_31 : decode cX5_hasClaimed 31 = .ok (.iconst 1, 1) := by decide +kernel
theorem dX5_hasClaimed_32 : decode cX5_hasClaimed 32 = .ok (.isub, 1) := by decide +kernel
theorem dX5_hasClaimed_33 : decode cX5_hasClaimed 33 = .ok (.invokestatic 158, 3) := by decide +kernel
theorem dX5_hasClaimed_36 : decode cX5_hasClaimed 36 = .ok (.iconst 5, 1) := by decide +kernel
theorem dX5_hasClaimed_37 : decode cX5_hasClaimed 37 = .ok (.iadd, 1) := by decide +kernel
theorem dX5_hasClaimed_38 : decode cX5_hasClaimed 38 = .ok (.iaload, 1) := by decide +kernel
theorem dX5_hasClaimed_39 : decode cX5_hasClaimed 39 = .ok (.aload_n 0, 1) := by decide +kernel
theorem dX5_hasClaimed_40 : decode cX5_hasClaimed 40 = .ok (.getfield 7, 3) := by decide +kernel
theorem dX5_hasClaimed_43 : decode cX5_hasClaimed 43 = .ok (.bipush 7, 2) := by decide +kernel
theorem dX5_hasClaimed_45 : decode cX5_hasClaimed 45 = .ok (.iaload, 1) := by decide +kernel
theorem dX5_hasClaimed_46 : decode cX5_hasClaimed 46 = .ok (.if_icmp .ne 7, 3) := by decide +kernel
theorem dX5_hasClaimed_49 : decode cX5_hasClaimed 49 = .ok (.iconst 1, 1) := by decide +kernel
theorem dX5_hasClaimed_50 : decode cX5_hasClaimed 50 = .ok (.goto 4, 3) := by decide +kernel
theorem dX5_hasClaimed_53 : decode cX5_hasClaimed 53 = .ok (.iconst 0, 1) := by decide +kernel
theorem dX5_hasClaimed_54 : decode cX5_hasClaimed 54 = .ok (.ireturn, 1) := by decide +kernel
theorem dX5_stakesOf_0 : decode cX5_stakesOf 0 = .ok (.iconst 0, 1) := by decide +kernel
theorem dX5_stakesOf_1 : decode cX5_stakesOf 1 = .ok (.istore_n 2, 1) := by decide +kernel
theorem dX5_stakesOf_2 : decode cX5_stakesOf 2 = .ok (.iconst 0, 1) := by decide +kernel
theorem dX5_stakesOf_3 : decode cX5_stakesOf 3 = .ok (.istore_n 3, 1) := by decide +kernel
theorem dX5_stakesOf_4 : decode cX5_stakesOf 4 = .ok (.iload_n 3, 1) := by decide +kernel
theorem dX5_stakesOf_5 : decode cX5_stakesOf 5 = .ok (.aload_n 0, 1) := by decide +kernel
theorem dX5_stakesOf_6 : decode cX5_stakesOf 6 = .ok (.iload_n 1, 1) := by decide +kernel
theorem dX5_stakesOf_7 : decode cX5_stakesOf 7 = .ok (.invokevirtual 155, 3) := by decide +kernel
theorem dX5_stakesOf_10 : decode cX5_stakesOf 10 = .ok (.if_icmp .ge 24, 3) := by decide +kernel
theorem dX5_stakesOf_13 : decode cX5_stakesOf 13 = .ok (.iload_n 2, 1) := by decide +kernel
theorem dX5_stakesOf_14 : decode cX5_stakesOf 14 = .ok (.aload_n 0, 1) := by decide +kernel
theorem dX5_stakesOf_15 : decode cX5_stakesOf 15 = .ok (.getfield 7, 3) := by decide +kernel
theorem dX5_stakesOf_18 : decode cX5_stakesOf 18 = .ok (.iload_n 1, 1) := by decide +kernel
theorem dX5_stakesOf_19 : decode cX5_stakesOf 19 = .ok (.iload_n 3, 1) := by decide +kernel
theorem dX5_stakesOf_20 : decode cX5_stakesOf 20 = .ok (.invokestatic 158, 3) := by decide +kernel
theorem dX5_stakesOf_23 : decode cX5_stakesOf 23 = .ok (.iconst 4, 1) := by decide +kernel
theorem dX5_stakesOf_24 : decode cX5_stakesOf 24 = .ok (.iadd, 1) := by decide +kernel
theorem dX5_stakesOf_25 : decode cX5_stakesOf 25 = .ok (.iaload, 1) := by decide +kernel
theorem dX5_stakesOf_26 : decode cX5_stakesOf 26 = .ok (.iadd, 1) := by decide +kernel
theorem dX5_stakesOf_27 : decode cX5_stakesOf 27 = .ok (.istore_n 2, 1) := by decide +kernel
theorem dX5_stakesOf_28 : decode cX5_stakesOf 28 = .ok (.iinc 3 1, 3) := by decide +kernel
theorem dX5_stakesOf_31 : decode cX5_stakesOf 31 = .ok (.goto (-27), 3) := by decide +kernel
theorem dX5_stakesOf_34 : decode cX5_stakesOf 34 = .ok (.iload_n 2, 1) := by decide +kernel
theorem dX5_stakesOf_35 : decode cX5_stakesOf 35 = .ok (.ireturn, 1) := by decide +kernel
theorem dX5_isRight_0 : decode cX5_isRight 0 = .ok (.aload_n 0, 1) := by decide +kernel
theorem dX5_isRight_1 : decode cX5_isRight 1 = .ok (.getfield 106, 3) := by decide +kernel
theorem dX5_isRight_4 : decode cX5_isRight 4 = .ok (.ifCond .ne 5, 3) := by decide +kernel
theorem dX5_isRight_7 : decode cX5_isRight 7 = .ok (.iconst 0, 1) := by decide +kernel
theorem dX5_isRight_8 : decode cX5_isRight 8 = .ok (.ireturn, 1) := by decide +kernel
theorem dX5_isRight_9 : decode cX5_isRight 9 = .ok (.aload_n 0, 1) := by decide +kernel
theorem dX5_isRight_10 : decode cX5_isRight 10 = .ok (.aload_n 0, 1) := by decide +kernel
theorem dX5_isRight_11 : decode cX5_isRight 11 = .ok (.getfield 7, 3) := by decide +kernel
theorem dX5_isRight_14 : decode cX5_isRight 14 = .ok (.iload_n 1, 1) := by decide +kernel
theorem dX5_isRight_15 : decode cX5_isRight 15 = .ok (.iaload, 1) := by decide +kernel
theorem dX5_isRight_16 : decode cX5_isRight 16 = .ok (.aload_n 0, 1) := by decide +kernel
theorem dX5_isRight_17 : decode cX5_isRight 17 = .ok (.getfield 7, 3) := by decide +kernel
theorem dX5_isRight_20 : decode cX5_isRight 20 = .ok (.iload_n 1, 1) := by decide +kernel
theorem dX5_isRight_21 : decode cX5_isRight 21 = .ok (.iconst 1, 1) := by decide +kernel
theorem dX5_isRight_22 : decode cX5_isRight 22 = .ok (.iadd, 1) := by decide +kernel
theorem dX5_isRight_23 : decode cX5_isRight 23 = .ok (.iaload, 1) := by decide +kernel
theorem dX5_isRight_24 : decode cX5_isRight 24 = .ok (.invokevirtual 129, 3) := by decide +kernel
theorem dX5_isRight_27 : decode cX5_isRight 27 = .ok (.istore_n 2, 1) := by decide +kernel
theorem dX5_isRight_28 : decode cX5_isRight 28 = .ok (.aload_n 0, 1) := by decide +kernel
theorem dX5_isRight_29 : decode cX5_isRight 29 = .ok (.getfield 7, 3) := by decide +kernel
theorem dX5_isRight_32 : decode cX5_isRight 32 = .ok (.iload_n 1, 1) := by decide +kernel
theorem dX5_isRight_33 : decode cX5_isRight 33 = .ok (.iconst 3, 1) := by decide +kernel
theorem dX5_isRight_34 : decode cX5_isRight 34 = .ok (.iadd, 1) := by decide +kernel
theorem dX5_isRight_35 : decode cX5_isRight 35 = .ok (.iaload, 1) := by decide +kernel
theorem dX5_isRight_36 : decode cX5_isRight 36 = .ok (.iconst 1, 1) := by decide +kernel
theorem dX5_isRight_37 : decode cX5_isRight 37 = .ok (.if_icmp .ne 23, 3) := by decide +kernel
theorem dX5_isRight_40 : decode cX5_isRight 40 = .ok (.iload_n 2, 1) := by decide +kernel
theorem dX5_isRight_41 : decode cX5_isRight 41 = .ok (.aload_n 0, 1) := by decide +kernel
theorem dX5_isRight_42 : decode cX5_isRight 42 = .ok (.getfield 7, 3) := by decide +kernel
theorem dX5_isRight_45 : decode cX5_isRight 45 = .ok (.iload_n 1, 1) := by decide +kernel
theorem dX5_isRight_46 : decode cX5_isRight 46 = .ok (.iconst 2, 1) := by decide +kernel
theorem dX5_isRight_47 : decode cX5_isRight 47 = .ok (.iadd, 1) := by decide +kernel
theorem dX5_isRight_48 : decode cX5_isRight 48 = .ok (.iaload, 1) := by decide +kernel
theorem dX5_isRight_49 : decode cX5_isRight 49 = .ok (.if_icmp .lt 7, 3) := by decide +kernel
theorem dX5_isRight_52 : decode cX5_isRight 52 = .ok (.iconst 1, 1) := by decide +kernel
theorem dX5_isRight_53 : decode cX5_isRight 53 = .ok (.goto 24, 3) := by decide +kernel
theorem dX5_isRight_56 : decode cX5_isRight 56 = .ok (.iconst 0, 1) := by decide +kernel
theorem dX5_isRight_57 : decode cX5_isRight 57 = .ok (.goto 20, 3) := by decide +kernel
theorem dX5_isRight_60 : decode cX5_isRight 60 = .ok (.iload_n 2, 1) := by decide +kernel
theorem dX5_isRight_61 : decode cX5_isRight 61 = .ok (.aload_n 0, 1) := by decide +kernel
theorem dX5_isRight_62 : decode cX5_isRight 62 = .ok (.getfield 7, 3) := by decide +kernel
theorem dX5_isRight_65 : decode cX5_isRight 65 = .ok (.iload_n 1, 1) := by decide +kernel
theorem dX5_isRight_66 : decode cX5_isRight 66 = .ok (.iconst 2, 1) := by decide +kernel
theorem dX5_isRight_67 : decode cX5_isRight 67 = .ok (.iadd, 1) := by decide +kernel
theorem dX5_isRight_68 : decode cX5_isRight 68 = .ok (.iaload, 1) := by decide +kernel
theorem dX5_isRight_69 : decode cX5_isRight 69 = .ok (.if_icmp .ne 7, 3) := by decide +kernel
theorem dX5_isRight_72 : decode cX5_isRight 72 = .ok (.iconst 1, 1) := by decide +kernel
theorem dX5_isRight_73 : decode cX5_isRight 73 = .ok (.goto 4, 3) := by decide +kernel
theorem dX5_isRight_76 : decode cX5_isRight 76 = .ok (.iconst 0, 1) := by decide +kernel
theorem dX5_isRight_77 : decode cX5_isRight 77 = .ok (.ireturn, 1) := by decide +kernel
theorem dX5_rightOnes_0 : decode cX5_rightOnes 0 = .ok (.aload_n 0, 1) := by decide +kernel
theorem dX5_rightOnes_1 : decode cX5_rightOnes 1 = .ok (.invokevirtual 126, 3) := by decide +kernel
theorem dX5_rightOnes_4 : decode cX5_rightOnes 4 = .ok (.iconst 0, 1) := by decide +kernel
theorem dX5_rightOnes_5 : decode cX5_rightOnes 5 = .ok (.istore_n 2, 1) := by decide +kernel
theorem dX5_rightOnes_6 : decode cX5_rightOnes 6 = .ok (.iconst 0, 1) := by decide +kernel
theorem dX5_rightOnes_7 : decode cX5_rightOnes 7 = .ok (.istore_n 3, 1) := by decide +kernel
theorem dX5_rightOnes_8 : decode cX5_rightOnes 8 = .ok (.iload_n 3, 1) := by decide +kernel
theorem dX5_rightOnes_9 : decode cX5_rightOnes 9 = .ok (.aload_n 0, 1) := by decide +kernel
theorem dX5_rightOnes_10 : decode cX5_rightOnes 10 = .ok (.iload_n 1, 1) := by decide +kernel
theorem dX5_rightOnes_11 : decode cX5_rightOnes 11 = .ok (.invokevirtual 155, 3) := by decide +kernel
theorem dX5_rightOnes_14 : decode cX5_rightOnes 14 = .ok (.if_icmp .ge 29, 3) := by decide +kernel
theorem dX5_rightOnes_17 : decode cX5_rightOnes 17 = .ok (.iload_n 2, 1) := by decide +kernel
theorem dX5_rightOnes_18 : decode cX5_rightOnes 18 = .ok (.aload_n 0, 1) := by decide +kernel
theorem dX5_rightOnes_19 : decode cX5_rightOnes 19 = .ok (.iload_n 1, 1) := by decide +kernel
theorem dX5_rightOnes_20 : decode cX5_rightOnes 20 = .ok (.iload_n 3, 1) := by decide +kernel
theorem dX5_rightOnes_21 : decode cX5_rightOnes 21 = .ok (.invokestatic 158, 3) := by decide +kernel
theorem dX5_rightOnes_24 : decode cX5_rightOnes 24 = .ok (.invokevirtual 161, 3) := by decide +kernel
theorem dX5_rightOnes_27 : decode cX5_rightOnes 27 = .ok (.ifCond .eq 7, 3) := by decide +kernel
theorem dX5_rightOnes_30 : decode cX5_rightOnes 30 = .ok (.iconst 1, 1) := by decide +kernel
theorem dX5_rightOnes_31 : decode cX5_rightOnes 31 = .ok (.goto 4, 3) := by decide +kernel
theorem dX5_rightOnes_34 : decode cX5_rightOnes 34 = .ok (.iconst 0, 1) := by decide +kernel
theorem dX5_rightOnes_35 : decode cX5_rightOnes 35 = .ok (.iadd, 1) := by decide +kernel
theorem dX5_rightOnes_36 : decode cX5_rightOnes 36 = .ok (.istore_n 2, 1) := by decide +kernel
theorem dX5_rightOnes_37 : decode cX5_rightOnes 37 = .ok (.iinc 3 1, 3) := by decide +kernel
theorem dX5_rightOnes_40 : decode cX5_rightOnes 40 = .ok (.goto (-32), 3) := by decide +kernel
theorem dX5_rightOnes_43 : decode cX5_rightOnes 43 = .ok (.iload_n 2, 1) := by decide +kernel
theorem dX5_rightOnes_44 : decode cX5_rightOnes 44 = .ok (.ireturn, 1) := by decide +kernel
theorem dX5_claimsBring_0 : decode cX5_claimsBring 0 = .ok (.aload_n 0, 1) := by decide +kernel
theorem dX5_claimsBring_1 : decode cX5_claimsBring 1 = .ok (.iload_n 1, 1) := by decide +kernel
theorem dX5_claimsBring_2 : decode cX5_claimsBring 2 = .ok (.invokevirtual 155, 3) := by decide +kernel
theorem dX5_claimsBring_5 : decode cX5_claimsBring 5 = .ok (.ifCond .le 7, 3) := by decide +kernel
theorem dX5_claimsBring_8 : decode cX5_claimsBring 8 = .ok (.aload_n 0, 1) := by decide +kernel
theorem dX5_claimsBring_9 : decode cX5_claimsBring 9 = .ok (.invokevirtual 126, 3) := by decide +kernel
theorem dX5_claimsBring_12 : decode cX5_claimsBring 12 = .ok (.iconst 0, 1) := by decide +kernel
theorem dX5_claimsBring_13 : decode cX5_claimsBring 13 = .ok (.istore_n 2, 1) := by decide +kernel
theorem dX5_claimsBring_14 : decode cX5_claimsBring 14 = .ok (.iconst 0, 1) := by decide +kernel
theorem dX5_claimsBring_15 : decode cX5_claimsBring 15 = .ok (.istore_n 3, 1) := by decide +kernel
theorem dX5_claimsBring_16 : decode cX5_claimsBring 16 = .ok (.iload_n 3, 1) := by decide +kernel
theorem dX5_claimsBring_17 : decode cX5_claimsBring 17 = .ok (.aload_n 0, 1) := by decide +kernel
theorem dX5_claimsBring_18 : decode cX5_claimsBring 18 = .ok (.iload_n 1, 1) := by decide +kernel
theorem dX5_claimsBring_19 : decode cX5_claimsBring 19 = .ok (.invokevirtual 155, 3) := by decide +kernel
theorem dX5_claimsBring_22 : decode cX5_claimsBring 22 = .ok (.if_icmp .ge 46, 3) := by decide +kernel
theorem dX5_claimsBring_25 : decode cX5_claimsBring 25 = .ok (.aload_n 0, 1) := by decide +kernel
theorem dX5_claimsBring_26 : decode cX5_claimsBring 26 = .ok (.getfield 7, 3) := by decide +kernel
theorem dX5_claimsBring_29 : decode cX5_claimsBring 29 = .ok (.iload_n 1, 1) := by decide +kernel
theorem dX5_claimsBring_30 : decode cX5_claimsBring 30 = .ok (.iload_n 3, 1) := by decide +kernel
theorem dX5_claimsBring_31 : decode cX5_claimsBring 31 = .ok (.invokestatic 158, 3) := by decide +kernel
theorem dX5_claimsBring_34 : decode cX5_claimsBring 34 = .ok (.iconst 4, 1) := by decide +kernel
theorem dX5_claimsBring_35 : decode cX5_claimsBring 35 = .ok (.iadd, 1) := by decide +kernel
theorem dX5_claimsBring_36 : decode cX5_claimsBring 36 = .ok (.iaload, 1) := by decide +kernel
theorem dX5_claimsBring_37 : decode cX5_claimsBring 37 = .ok (.istore 4, 2) := by decide +kernel
theorem dX5_claimsBring_39 : decode cX5_claimsBring 39 = .ok (.iload_n 2, 1) := by decide +kernel
theorem dX5_claimsBring_40 : decode cX5_claimsBring 40 = .ok (.aload_n 0, 1) := by decide +kernel
theorem dX5_claimsBring_41 : decode cX5_claimsBring 41 = .ok (.iload_n 1, 1) := by decide +kernel
theorem dX5_claimsBring_42 : decode cX5_claimsBring 42 = .ok (.iload_n 3, 1) := by decide +kernel
theorem dX5_claimsBring_43 : decode cX5_claimsBring 43 = .ok (.invokestatic 158, 3) := by decide +kernel
theorem dX5_claimsBring_46 : decode cX5_claimsBring 46 = .ok (.invokevirtual 161, 3) := by decide +kernel
theorem dX5_claimsBring_49 : decode cX5_claimsBring 49 = .ok (.ifCond .eq 8, 3) := by decide +kernel
theorem dX5_claimsBring_52 : decode cX5_claimsBring 52 = .ok (.iload 4, 2) := by decide +kernel
theorem dX5_claimsBring_54 : decode cX5_claimsBring 54 = .ok (.goto 6, 3) := by decide +kernel
theorem dX5_claimsBring_57 : decode cX5_claimsBring 57 = .ok (.iload 4, 2) := by decide +kernel
theorem dX5_claimsBring_59 : decode cX5_claimsBring 59 = .ok (.ineg, 1) := by decide +kernel
theorem dX5_claimsBring_60 : decode cX5_claimsBring 60 = .ok (.iadd, 1) := by decide +kernel
theorem dX5_claimsBring_61 : decode cX5_claimsBring 61 = .ok (.istore_n 2, 1) := by decide +kernel
theorem dX5_claimsBring_62 : decode cX5_claimsBring 62 = .ok (.iinc 3 1, 3) := by decide +kernel
theorem dX5_claimsBring_65 : decode cX5_claimsBring 65 = .ok (.goto (-49), 3) := by decide +kernel
theorem dX5_claimsBring_68 : decode cX5_claimsBring 68 = .ok (.iload_n 2, 1) := by decide +kernel
theorem dX5_claimsBring_69 : decode cX5_claimsBring 69 = .ok (.ireturn, 1) := by decide +kernel
theorem dX5_signPoints_0 : decode cX5_signPoints 0 = .ok (.iconst 0, 1) := by decide +kernel
theorem dX5_signPoints_1 : decode cX5_signPoints 1 = .ok (.istore_n 2, 1) := by decide +kernel
theorem dX5_signPoints_2 : decode cX5_signPoints 2 = .ok (.aload_n 0, 1) := by decide +kernel
theorem dX5_signPoints_3 : decode cX5_signPoints 3 = .ok (.getfield 7, 3) := by decide +kernel
theorem dX5_signPoints_6 : decode cX5_signPoints 6 = .ok (.iconst 3, 1) := by decide +kernel
theorem dX5_signPoints_7 : decode cX5_signPoints 7 = .ok (.iaload, 1) := by decide +kernel
theorem dX5_signPoints_8 : decode cX5_signPoints 8 = .ok (.ineg, 1) := by decide +kernel
theorem dX5_signPoints_9 : decode cX5_signPoints 9 = .ok (.istore_n 3, 1) := by decide +kernel
theorem dX5_signPoints_10 : decode cX5_signPoints 10 = .ok (.iload_n 3, 1) := by decide +kernel
theorem dX5_signPoints_11 : decode cX5_signPoints 11 = .ok (.aload_n 0, 1) := by decide +kernel
theorem dX5_signPoints_12 : decode cX5_signPoints 12 = .ok (.getfield 7, 3) := by decide +kernel
theorem dX5_signPoints_15 : decode cX5_signPoints 15 = .ok (.iconst 3, 1) := by decide +kernel
theorem dX5_signPoints_16 : decode cX5_signPoints 16 = .ok (.iaload, 1) := by decide +kernel
theorem dX5_signPoints_17 : decode cX5_signPoints 17 = .ok (.if_icmp .gt 47, 3) := by decide +kernel
theorem dX5_signPoints_20 : decode cX5_signPoints 20 = .ok (.aload_n 0, 1) := by decide +kernel
theorem dX5_signPoints_21 : decode cX5_signPoints 21 = .ok (.iload_n 3, 1) := by decide +kernel
theorem dX5_signPoints_22 : decode cX5_signPoints 22 = .ok (.invokevirtual 164, 3) := by decide +kernel
theorem dX5_signPoints_25 : decode cX5_signPoints 25 = .ok (.lstore 4, 2) := by decide +kernel
theorem dX5_signPoints_27 : decode cX5_signPoints 27 = .ok (.iload_n 2, 1) := by decide +kernel
theorem dX5_signPoints_28 : decode cX5_signPoints 28 = .ok (.iload_n 1, 1) := by decide +kernel
theorem dX5_signPoints_29 : decode cX5_signPoints 29 = .ok (.ifCond .ne 10, 3) := by decide +kernel
theorem dX5_signPoints_32 : decode cX5_signPoints 32 = .ok (.lload 4, 2) := by decide +kernel
theorem dX5_signPoints_34 : decode cX5_signPoints 34 = .ok (.lconst 0, 1) := by decide +kernel
theorem dX5_signPoints_35 : decode cX5_signPoints 35 = .ok (.lcmp, 1) := by decide +kernel
theorem dX5_signPoints_36 : decode cX5_signPoints 36 = .ok (.ifCond .gt 15, 3) := by decide +kernel
theorem dX5_signPoints_39 : decode cX5_signPoints 39 = .ok (.iload_n 1, 1) := by decide +kernel
theorem dX5_signPoints_40 : decode cX5_signPoints 40 = .ok (.iconst 1, 1) := by decide +kernel
theorem dX5_signPoints_41 : decode cX5_signPoints 41 = .ok (.if_icmp .ne 14, 3) := by decide +kernel
theorem dX5_signPoints_44 : decode cX5_signPoints 44 = .ok (.lload 4, 2) := by decide +kernel
theorem dX5_signPoints_46 : decode cX5_signPoints 46 = .ok (.lconst 0, 1) := by decide +kernel
theorem dX5_signPoints_47 : decode cX5_signPoints 47 = .ok (.lcmp, 1) := by decide +kernel
theorem dX5_signPoints_48 : decode cX5_signPoints 48 = .ok (.ifCond .ge 7, 3) := by decide +kernel
theorem dX5_signPoints_51 : decode cX5_signPoints 51 = .ok (.iconst 1, 1) := by decide +kernel
theorem dX5_signPoints_52 : decode cX5_signPoints 52 = .ok (.goto 4, 3) := by decide +kernel
theorem dX5_signPoints_55 : decode cX5_signPoints 55 = .ok (.iconst 0, 1) := by decide +kernel
theorem dX5_signPoints_56 : decode cX5_signPoints 56 = .ok (.iadd, 1) := by decide +kernel
theorem dX5_signPoints_57 : decode cX5_signPoints 57 = .ok (.istore_n 2, 1) := by decide +kernel
theorem dX5_signPoints_58 : decode cX5_signPoints 58 = .ok (.iinc 3 1, 3) := by decide +kernel
theorem dX5_signPoints_61 : decode cX5_signPoints 61 = .ok (.goto (-51), 3) := by decide +kernel
theorem dX5_signPoints_64 : decode cX5_signPoints 64 = .ok (.iload_n 2, 1) := by decide +kernel
theorem dX5_signPoints_65 : decode cX5_signPoints 65 = .ok (.ireturn, 1) := by decide +kernel
theorem dX5_bonusOf_0 : decode cX5_bonusOf 0 = .ok (.aload_n 0, 1) := by decide +kernel
theorem dX5_bonusOf_1 : decode cX5_bonusOf 1 = .ok (.getfield 7, 3) := by decide +kernel
theorem dX5_bonusOf_4 : decode cX5_bonusOf 4 = .ok (.bipush 9, 2) := by decide +kernel
theorem dX5_bonusOf_6 : decode cX5_bonusOf 6 = .ok (.iaload, 1) := by decide +kernel
theorem dX5_bonusOf_7 : decode cX5_bonusOf 7 = .ok (.iload_n 1, 1) := by decide +kernel
theorem dX5_bonusOf_8 : decode cX5_bonusOf 8 = .ok (.if_icmp .ne 12, 3) := by decide +kernel
theorem dX5_bonusOf_11 : decode cX5_bonusOf 11 = .ok (.aload_n 0, 1) := by decide +kernel
theorem dX5_bonusOf_12 : decode cX5_bonusOf 12 = .ok (.getfield 7, 3) := by decide +kernel
theorem dX5_bonusOf_15 : decode cX5_bonusOf 15 = .ok (.iconst 5, 1) := by decide +kernel
theorem dX5_bonusOf_16 : decode cX5_bonusOf 16 = .ok (.iaload, 1) := by decide +kernel
theorem dX5_bonusOf_17 : decode cX5_bonusOf 17 = .ok (.goto 4, 3) := by decide +kernel
theorem dX5_bonusOf_20 : decode cX5_bonusOf 20 = .ok (.iconst 0, 1) := by decide +kernel
theorem dX5_bonusOf_21 : decode cX5_bonusOf 21 = .ok (.ireturn, 1) := by decide +kernel
theorem dX5_scoreOf_0 : decode cX5_scoreOf 0 = .ok (.aload_n 0, 1) := by decide +kernel
theorem dX5_scoreOf_1 : decode cX5_scoreOf 1 = .ok (.iload_n 1, 1) := by decide +kernel
theorem dX5_scoreOf_2 : decode cX5_scoreOf 2 = .ok (.invokevirtual 168, 3) := by decide +kernel
theorem dX5_scoreOf_5 : decode cX5_scoreOf 5 = .ok (.aload_n 0, 1) := by decide +kernel
theorem dX5_scoreOf_6 : decode cX5_scoreOf 6 = .ok (.iload_n 1, 1) := by decide +kernel
theorem dX5_scoreOf_7 : decode cX5_scoreOf 7 = .ok (.invokevirtual 171, 3) := by decide +kernel
theorem dX5_scoreOf_10 : decode cX5_scoreOf 10 = .ok (.iadd, 1) := by decide +kernel
theorem dX5_scoreOf_11 : decode cX5_scoreOf 11 = .ok (.aload_n 0, 1) := by decide +kernel
theorem dX5_scoreOf_12 : decode cX5_scoreOf 12 = .ok (.iload_n 1, 1) := by decide +kernel
theorem dX5_scoreOf_13 : decode cX5_scoreOf 13 = .ok (.invokevirtual 174, 3) := by decide +kernel
theorem dX5_scoreOf_16 : decode cX5_scoreOf 16 = .ok (.iadd, 1) := by decide +kernel
theorem dX5_scoreOf_17 : decode cX5_scoreOf 17 = .ok (.ireturn, 1) := by decide +kernel
theorem dX5_keeps_0 : decode cX5_keeps 0 = .ok (.aload_n 0, 1) := by decide +kernel
theorem dX5_keeps_1 : decode cX5_keeps 1 = .ok (.getfield 177, 3) := by decide +kernel
theorem dX5_keeps_4 : decode cX5_keeps 4 = .ok (.bipush 12, 2) := by decide +kernel
theorem dX5_keeps_6 : decode cX5_keeps 6 = .ok (.if_icmp .ne 44, 3) := by decide +kernel
theorem dX5_keeps_9 : decode cX5_keeps 9 = .ok (.iconst 0, 1) := by decide +kernel
theorem dX5_keeps_10 : decode cX5_keeps 10 = .ok (.istore_n 1, 1) := by decide +kernel
theorem dX5_keeps_11 : decode cX5_keeps 11 = .ok (.iload_n 1, 1) := by decide +kernel
theorem dX5_keeps_12 : decode cX5_keeps 12 = .ok (.sipush 3080, 3) := by decide +kernel
theorem dX5_keeps_15 : decode cX5_keeps 15 = .ok (.if_icmp .ge 25, 3) := by decide +kernel
theorem dX5_keeps_18 : decode cX5_keeps 18 = .ok (.aload_n 0, 1) := by decide +kernel
theorem dX5_keeps_19 : decode cX5_keeps 19 = .ok (.getfield 16, 3) := by decide +kernel
theorem dX5_keeps_22 : decode cX5_keeps 22 = .ok (.iload_n 1, 1) := by decide +kernel
theorem dX5_keeps_23 : decode cX5_keeps 23 = .ok (.aload_n 0, 1) := by decide +kernel
theorem dX5_keeps_24 : decode cX5_keeps 24 = .ok (.getfield 16, 3) := by decide +kernel
theorem dX5_keeps_27 : decode cX5_keeps 27 = .ok (.iload_n 1, 1) := by decide +kernel
theorem dX5_keeps_28 : decode cX5_keeps 28 = .ok (.sipush 280, 3) := by decide +kernel
theorem dX5_keeps_31 : decode cX5_keeps 31 = .ok (.iadd, 1) := by decide +kernel
theorem dX5_keeps_32 : decode cX5_keeps 32 = .ok (.iaload, 1) := by decide +kernel
theorem dX5_keeps_33 : decode cX5_keeps 33 = .ok (.iastore, 1) := by decide +kernel
theorem dX5_keeps_34 : decode cX5_keeps 34 = .ok (.iinc 1 1, 3) := by decide +kernel
theorem dX5_keeps_37 : decode cX5_keeps 37 = .ok (.goto (-26), 3) := by decide +kernel
theorem dX5_keeps_40 : decode cX5_keeps 40 = .ok (.aload_n 0, 1) := by decide +kernel
theorem dX5_keeps_41 : decode cX5_keeps 41 = .ok (.dup, 1) := by decide +kernel
theorem dX5_keeps_42 : decode cX5_keeps 42 = .ok (.getfield 177, 3) := by decide +kernel
theorem dX5_keeps_45 : decode cX5_keeps 45 = .ok (.iconst 1, 1) := by decide +kernel
theorem dX5_keeps_46 : decode cX5_keeps 46 = .ok (.isub, 1) := by decide +kernel
theorem dX5_keeps_47 : decode cX5_keeps 47 = .ok (.putfield 177, 3) := by decide +kernel
theorem dX5_keeps_50 : decode cX5_keeps 50 = .ok (.aload_n 0, 1) := by decide +kernel
theorem dX5_keeps_51 : decode cX5_keeps 51 = .ok (.getfield 7, 3) := by decide +kernel
theorem dX5_keeps_54 : decode cX5_keeps 54 = .ok (.iconst 0, 1) := by decide +kernel
theorem dX5_keeps_55 : decode cX5_keeps 55 = .ok (.aload_n 0, 1) := by decide +kernel
theorem dX5_keeps_56 : decode cX5_keeps 56 = .ok (.getfield 16, 3) := by decide +kernel
theorem dX5_keeps_59 : decode cX5_keeps 59 = .ok (.sipush 280, 3) := by decide +kernel
theorem dX5_keeps_62 : decode cX5_keeps 62 = .ok (.aload_n 0, 1) := by decide +kernel
theorem dX5_keeps_63 : decode cX5_keeps 63 = .ok (.getfield 177, 3) := by decide +kernel
theorem dX5_keeps_66 : decode cX5_keeps 66 = .ok (.imul, 1) := by decide +kernel
theorem dX5_keeps_67 : decode cX5_keeps 67 = .ok (.invokestatic 180, 3) := by decide +kernel
theorem dX5_keeps_70 : decode cX5_keeps 70 = .ok (.aload_n 0, 1) := by decide +kernel
theorem dX5_keeps_71 : decode cX5_keeps 71 = .ok (.dup, 1) := by decide +kernel
theorem dX5_keeps_72 : decode cX5_keeps 72 = .ok (.getfield 177, 3) := by decide +kernel
theorem dX5_keeps_75 : decode cX5_keeps 75 = .ok (.iconst 1, 1) := by decide +kernel
theorem dX5_keeps_76 : decode cX5_keeps 76 = .ok (.iadd, 1) := by decide +kernel
theorem dX5_keeps_77 : decode cX5_keeps 77 = .ok (.putfield 177, 3) := by decide +kernel
theorem dX5_keeps_80 : decode cX5_keeps 80 = .ok (.return_, 1) := by decide +kernel
theorem dX5_refuses_0 : decode cX5_refuses 0 = .ok (.aload_n 0, 1) := by decide +kernel
theorem dX5_refuses_1 : decode cX5_refuses 1 = .ok (.getfield 26, 3) := by decide +kernel
theorem dX5_refuses_4 : decode cX5_refuses 4 = .ok (.iload_n 1, 1) := by decide +kernel
theorem dX5_refuses_5 : decode cX5_refuses 5 = .ok (.dup2, 1) := by decide +kernel
theorem dX5_refuses_6 : decode cX5_refuses 6 = .ok (.iaload, 1) := by decide +kernel
theorem dX5_refuses_7 : decode cX5_refuses 7 = .ok (.iconst 1, 1) := by decide +kernel
theorem dX5_refuses_8 : decode cX5_refuses 8 = .ok (.iadd, 1) := by decide +kernel
theorem dX5_refuses_9 : decode cX5_refuses 9 = .ok (.iastore, 1) := by decide +kernel
theorem dX5_refuses_10 : decode cX5_refuses 10 = .ok (.iload_n 1, 1) := by decide +kernel
theorem dX5_refuses_11 : decode cX5_refuses 11 = .ok (.ireturn, 1) := by decide +kernel
theorem dX5_does_0 : decode cX5_does 0 = .ok (.aload_n 0, 1) := by decide +kernel
theorem dX5_does_1 : decode cX5_does 1 = .ok (.invokevirtual 184, 3) := by decide +kernel
theorem dX5_does_4 : decode cX5_does 4 = .ok (.aload_n 0, 1) := by decide +kernel
theorem dX5_does_5 : decode cX5_does 5 = .ok (.getfield 26, 3) := by decide +kernel
theorem dX5_does_8 : decode cX5_does 8 = .ok (.iconst 0, 1) := by decide +kernel
theorem dX5_does_9 : decode cX5_does 9 = .ok (.dup2, 1) := by decide +kernel
theorem dX5_does_10 : decode cX5_does 10 = .ok (.iaload, 1) := by decide +kernel
theorem dX5_does_11 : decode cX5_does 11 = .ok (.iconst 1, 1) := by decide +kernel
theorem dX5_does_12 : decode cX5_does 12 = .ok (.iadd, 1) := by decide +kernel
theorem dX5_does_13 : decode cX5_does 13 = .ok (.iastore, 1) := by decide +kernel
theorem dX5_does_14 : decode cX5_does 14 = .ok (.iconst 0, 1) := by decide +kernel
theorem dX5_does_15 : decode cX5_does 15 = .ok (.ireturn, 1) := by decide +kernel
theorem dX5_whyClaim_0 : decode cX5_whyClaim 0 = .ok (.aload_n 0, 1) := by decide +kernel
theorem dX5_whyClaim_1 : decode cX5_whyClaim 1 = .ok (.invokevirtual 152, 3) := by decide +kernel
theorem dX5_whyClaim_4 : decode cX5_whyClaim 4 = .ok (.istore 4, 2) := by decide +kernel
theorem dX5_whyClaim_6 : decode cX5_whyClaim 6 = .ok (.iconst 0, 1) := by decide +kernel
theorem dX5_whyClaim_7 : decode cX5_whyClaim 7 = .ok (.istore 5, 2) := by decide +kernel
theorem dX5_whyClaim_9 : decode cX5_whyClaim 9 = .ok (.iconst 0, 1) := by decide +kernel
theorem dX5_whyClaim_10 : decode cX5_whyClaim 10 = .ok (.istore 6, 2) := by decide +kernel
theorem dX5_whyClaim_12 : decode cX5_whyClaim 12 = .ok (.iload 6, 2) := by decide +kernel
theorem dX5_whyClaim_14 : decode cX5_whyClaim 14 = .ok (.aload_n 0, 1) := by decide +kernel
theorem dX5_whyClaim_15 : decode cX5_whyClaim 15 = .ok (.iload 4, 2) := by decide +kernel
theorem dX5_whyClaim_17 : decode cX5_whyClaim 17 = .ok (.invokevirtual 155, 3) := by decide +kernel
theorem dX5_whyClaim_20 : decode cX5_whyClaim 20 = .ok (.if_icmp .ge 89, 3) := by decide +kernel
theorem dX5_whyClaim_23 : decode cX5_whyClaim 23 = .ok (.iload 4, 2) := by decide +kernel
theorem dX5_whyClaim_25 : decode cX5_whyClaim 25 = .ok (.iload 6, 2) := by decide +kernel
theorem dX5_whyClaim_27 : decode cX5_whyClaim 27 = .ok (.invokestatic 158, 3) := by decide +kernel
theorem dX5_whyClaim_30 : decode cX5_whyClaim 30 = .ok (.istore 7, 2) := by decide +kernel
theorem dX5_whyClaim_32 : decode cX5_whyClaim 32 = .ok (.aload_n 0, 1) := by decide +kernel
theorem dX5_whyClaim_33 : decode cX5_whyClaim 33 = .ok (.getfield 7, 3) := by decide +kernel
theorem dX5_whyClaim_36 : decode cX5_whyClaim 36 = .ok (.iload 7, 2) := by decide +kernel
theorem dX5_whyClaim_38 : decode cX5_whyClaim 38 = .ok (.iaload, 1) := by decide +kernel
theorem dX5_whyClaim_39 : decode cX5_whyClaim 39 = .ok (.iload_n 1, 1) := by decide +kernel
theorem dX5_whyClaim_40 : decode cX5_whyClaim 40 = .ok (.if_icmp .le 13, 3) := by decide +kernel
theorem dX5_whyClaim_43 : decode cX5_whyClaim 43 = .ok (.aload_n 0, 1) := by decide +kernel
theorem dX5_whyClaim_44 : decode cX5_whyClaim 44 = .ok (.getfield 7, 3) := by decide +kernel
theorem dX5_whyClaim_47 : decode cX5_whyClaim 47 = .ok (.iload 7, 2) := by decide +kernel
theorem dX5_whyClaim_49 : decode cX5_whyClaim 49 = .ok (.iaload, 1) := by decide +kernel
theorem dX5_whyClaim_50 : decode cX5_whyClaim 50 = .ok (.goto 4, 3) := by decide +kernel
theorem dX5_whyClaim_53 : decode cX5_whyClaim 53 = .ok (.iload_n 1, 1) := by decide +kernel
theorem dX5_whyClaim_54 : decode cX5_whyClaim 54 = .ok (.istore 8, 2) := by decide +kernel
theorem dX5_whyClaim_56 : decode cX5_whyClaim 56 = .ok (.aload_n 0, 1) := by decide +kernel
theorem dX5_whyClaim_57 : decode cX5_whyClaim 57 = .ok (.getfield 7, 3) := by decide +kernel
theorem dX5_whyClaim_60 : decode cX5_whyClaim 60 = .ok (.iload 7, 2) := by decide +kernel
theorem dX5_whyClaim_62 : decode cX5_whyClaim 62 = .ok (.iconst 1, 1) := by decide +kernel
theorem dX5_whyClaim_63 : decode cX5_whyClaim 63 = .ok (.iadd, 1) := by decide +kernel
theorem dX5_whyClaim_64 : decode cX5_whyClaim 64 = .ok (.iaload, 1) := by decide +kernel
theorem dX5_whyClaim_65 : decode cX5_whyClaim 65 = .ok (.iload_n 2, 1) := by decide +kernel
theorem dX5_whyClaim_66 : decode cX5_whyClaim 66 = .ok (.if_icmp .ge 15, 3) := by decide +kernel
theorem dX5_whyClaim_69 : decode cX5_whyClaim 69 = .ok (.aload_n 0, 1) := by decide +kernel
theorem dX5_whyClaim_70 : decode cX5_whyClaim 70 = .ok (.getfield 7, 3) := by decide +kernel
theorem dX5_whyClaim_73 : decode cX5_whyClaim 73 = .ok (.iload 7, 2) := by decide +kernel
theorem dX5_whyClaim_75 : decode cX5_whyClaim 75 = .ok (.iconst 1, 1) := by decide +kernel
theorem dX5_whyClaim_76 : decode cX5_whyClaim 76 = .ok (.iadd, 1) := by decide +kernel
theorem dX5_whyClaim_77 : decode cX5_whyClaim 77 = .ok (.iaload, 1) := by decide +kernel
theorem dX5_whyClaim_78 : decode cX5_whyClaim 78 = .ok (.goto 4, 3) := by decide +kernel
theorem dX5_whyClaim_81 : decode cX5_whyClaim 81 = .ok (.iload_n 2, 1) := by decide +kernel
theorem dX5_whyClaim_82 : decode cX5_whyClaim 82 = .ok (.istore 9, 2) := by decide +kernel
theorem dX5_whyClaim_84 : decode cX5_whyClaim 84 = .ok (.iload 5, 2) := by decide +kernel
theorem dX5_whyClaim_86 : decode cX5_whyClaim 86 = .ok (.ifCond .ne 10, 3) := by decide +kernel
theorem dX5_whyClaim_89 : decode cX5_whyClaim 89 = .ok (.iload 8, 2) := by decide +kernel
theorem dX5_whyClaim_91 : decode cX5_whyClaim 91 = .ok (.iload 9, 2) := by decide +kernel
theorem dX5_whyClaim_93 : decode cX5_whyClaim 93 = .ok (.if_icmp .ge 7, 3) := by decide +kernel
theorem dX5_whyClaim_96 : decode cX5_whyClaim 96 = .ok (.iconst 1, 1) := by decide +kernel
theorem dX5_whyClaim_97 : decode cX5_whyClaim 97 = .ok (.goto 4, 3) := by decide +kernel
theorem dX5_whyClaim_100 : decode cX5_whyClaim 100 = .ok (.iconst 0, 1) := by decide +kernel
theorem dX5_whyClaim_101 : decode cX5_whyClaim 101 = .ok (.istore 5, 2) := by decide +kernel
theorem dX5_whyClaim_103 : decode cX5_whyClaim 103 = .ok (.iinc 6 1, 3) := by decide +kernel
theorem dX5_whyClaim_106 : decode cX5_whyClaim 106 = .ok (.goto (-94), 3) := by decide +kernel
theorem dX5_whyClaim_109 : decode cX5_whyClaim 109 = .ok (.aload_n 0, 1) := by decide +kernel
theorem dX5_whyClaim_110 : decode cX5_whyClaim 110 = .ok (.getfield 7, 3) := by decide +kernel
theorem dX5_whyClaim_113 : decode cX5_whyClaim 113 = .ok (.bipush 8, 2) := by decide +kernel
theorem dX5_whyClaim_115 : decode cX5_whyClaim 115 = .ok (.iaload, 1) := by decide +kernel
theorem dX5_whyClaim_116 : decode cX5_whyClaim 116 = .ok (.iconst 1, 1) := by decide +kernel
theorem dX5_whyClaim_117 : decode cX5_whyClaim 117 = .ok (.if_icmp .ne 7, 3) := by decide +kernel
theorem dX5_whyClaim_120 : decode cX5_whyClaim 120 = .ok (.iconst 1, 1) := by decide +kernel
theorem dX5_whyClaim_121 : decode cX5_whyClaim 121 = .ok (.goto 60, 3) := by decide +kernel
theorem dX5_whyClaim_124 : decode cX5_whyClaim 124 = .ok (.aload_n 0, 1) := by decide +kernel
theorem dX5_whyClaim_125 : decode cX5_whyClaim 125 = .ok (.invokevirtual 187, 3) := by decide +kernel
theorem dX5_whyClaim_128 : decode cX5_whyClaim 128 = .ok (.ifCond .eq 7, 3) := by decide +kernel
theorem dX5_whyClaim_131 : decode cX5_whyClaim 131 = .ok (.iconst 2, 1) := by decide +kernel
theorem dX5_whyClaim_132 : decode cX5_whyClaim 132 = .ok (.goto 49, 3) := by decide +kernel
theorem dX5_whyClaim_135 : decode cX5_whyClaim 135 = .ok (.aload_n 0, 1) := by decide +kernel
theorem dX5_whyClaim_136 : decode cX5_whyClaim 136 = .ok (.iload 4, 2) := by decide +kernel
theorem dX5_whyClaim_138 : decode cX5_whyClaim 138 = .ok (.invokevirtual 155, 3) := by decide +kernel
theorem dX5_whyClaim_141 : decode cX5_whyClaim 141 = .ok (.iconst 4, 1) := by decide +kernel
theorem dX5_whyClaim_142 : decode cX5_whyClaim 142 = .ok (.if_icmp .ne 7, 3) := by decide +kernel
theorem dX5_whyClaim_145 : decode cX5_whyClaim 145 = .ok (.iconst 3, 1) := by decide +kernel
theorem dX5_whyClaim_146 : decode cX5_whyClaim 146 = .ok (.goto 35, 3) := by decide +kernel
theorem dX5_whyClaim_149 : decode cX5_whyClaim 149 = .ok (.iload 5, 2) := by decide +kernel
theorem dX5_whyClaim_151 : decode cX5_whyClaim 151 = .ok (.ifCond .eq 7, 3) := by decide +kernel
theorem dX5_whyClaim_154 : decode cX5_whyClaim 154 = .ok (.iconst 4, 1) := by decide +kernel
theorem dX5_whyClaim_155 : decode cX5_whyClaim 155 = .ok (.goto 26, 3) := by decide +kernel
theorem dX5_whyClaim_158 : decode cX5_whyClaim 158 = .ok (.aload_n 0, 1) := by decide +kernel
theorem dX5_whyClaim_159 : decode cX5_whyClaim 159 = .ok (.iload 4, 2) := by decide +kernel
theorem dX5_whyClaim_161 : decode cX5_whyClaim 161 = .ok (.invokevirtual 191, 3) := by decide +kernel
theorem dX5_whyClaim_164 : decode cX5_whyClaim 164 = .ok (.iload_n 3, 1) := by decide +kernel
theorem dX5_whyClaim_165 : decode cX5_whyClaim 165 = .ok (.iadd, 1) := by decide +kernel
theorem dX5_whyClaim_166 : decode cX5_whyClaim 166 = .ok (.aload_n 0, 1) := by decide +kernel
theorem dX5_whyClaim_167 : decode cX5_whyClaim 167 = .ok (.getfield 7, 3) := by decide +kernel
theorem dX5_whyClaim_170 : decode cX5_whyClaim 170 = .ok (.bipush 6, 2) := by decide +kernel
theorem dX5_whyClaim_172 : decode cX5_whyClaim 172 = .ok (.iaload, 1) := by decide +kernel
theorem dX5_whyClaim_173 : decode cX5_whyClaim 173 = .ok (.if_icmp .le 7, 3) := by decide +kernel
theorem dX5_whyClaim_176 : decode cX5_whyClaim 176 = .ok (.iconst 5, 1) := by decide +kernel
theorem dX5_whyClaim_177 : decode cX5_whyClaim 177 = .ok (.goto 4, 3) := by decide +kernel
theorem dX5_whyClaim_180 : decode cX5_whyClaim 180 = .ok (.iconst 0, 1) := by decide +kernel
theorem dX5_whyClaim_181 : decode cX5_whyClaim 181 = .ok (.ireturn, 1) := by decide +kernel
theorem dX5_claims_0 : decode cX5_claims 0 = .ok (.aload_n 0, 1) := by decide +kernel
theorem dX5_claims_1 : decode cX5_claims 1 = .ok (.iload_n 1, 1) := by decide +kernel
theorem dX5_claims_2 : decode cX5_claims 2 = .ok (.iload_n 2, 1) := by decide +kernel
theorem dX5_claims_3 : decode cX5_claims 3 = .ok (.iload 5, 2) := by decide +kernel
theorem dX5_claims_5 : decode cX5_claims 5 = .ok (.invokevirtual 194, 3) := by decide +kernel
theorem dX5_claims_8 : decode cX5_claims 8 = .ok (.istore 6, 2) := by decide +kernel
theorem dX5_claims_10 : decode cX5_claims 10 = .ok (.iload 6, 2) := by decide +kernel
theorem dX5_claims_12 : decode cX5_claims 12 = .ok (.ifCond .le 10, 3) := by decide +kernel
theorem dX5_claims_15 : decode cX5_claims 15 = .ok (.aload_n 0, 1) := by decide +kernel
theorem dX5_claims_16 : decode cX5_claims 16 = .ok (.iload 6, 2) := by decide +kernel
theorem dX5_claims_18 : decode cX5_claims 18 = .ok (.invokevirtual 198, 3) := by decide +kernel
theorem dX5_claims_21 : decode cX5_claims 21 = .ok (.ireturn, 1) := by decide +kernel
theorem dX5_claims_22 : decode cX5_claims 22 = .ok (.aload_n 0, 1) := by decide +kernel
theorem dX5_claims_23 : decode cX5_claims 23 = .ok (.invokevirtual 201, 3) := by decide +kernel
theorem dX5_claims_26 : decode cX5_claims 26 = .ok (.istore 7, 2) := by decide +kernel
theorem dX5_claims_28 : decode cX5_claims 28 = .ok (.aload_n 0, 1) := by decide +kernel
theorem dX5_claims_29 : decode cX5_claims 29 = .ok (.invokevirtual 152, 3) := by decide +kernel
theorem dX5_claims_32 : decode cX5_claims 32 = .ok (.istore 8, 2) := by decide +kernel
theorem dX5_claims_34 : decode cX5_claims 34 = .ok (.iload 8, 2) := by decide +kernel
theorem dX5_claims_36 : decode cX5_claims 36 = .ok (.aload_n 0, 1) := by decide +kernel
theorem dX5_claims_37 : decode cX5_claims 37 = .ok (.iload 8, 2) := by decide +kernel
theorem dX5_claims_39 : decode cX5_claims 39 = .ok (.invokevirtual 155, 3) := by decide +kernel
theorem dX5_claims_42 : decode cX5_claims 42 = .ok (.invokestatic 158, 3) := by decide +kernel
theorem dX5_claims_45 : decode cX5_claims 45 = .ok (.istore 9, 2) := by decide +kernel
theorem dX5_claims_47 : decode cX5_claims 47 = .ok (.aload_n 0, 1) := by decide +kernel
theorem dX5_claims_48 : decode cX5_claims 48 = .ok (.getfield 7, 3) := by decide +kernel
theorem dX5_claims_51 : decode cX5_claims 51 = .ok (.iload 9, 2) := by decide +kernel
theorem dX5_claims_53 : decode cX5_claims 53 = .ok (.iload_n 1, 1) := by decide +kernel
theorem dX5_claims_54 : decode cX5_claims 54 = .ok (.iastore, 1) := by decide +kernel
theorem dX5_claims_55 : decode cX5_claims 55 = .ok (.aload_n 0, 1) := by decide +kernel
theorem dX5_claims_56 : decode cX5_claims 56 = .ok (.getfield 7, 3) := by decide +kernel
theorem dX5_claims_59 : decode cX5_claims 59 = .ok (.iload 9, 2) := by decide +kernel
theorem dX5_claims_61 : decode cX5_claims 61 = .ok (.iconst 1, 1) := by decide +kernel
theorem dX5_claims_62 : decode cX5_claims 62 = .ok (.iadd, 1) := by decide +kernel
theorem dX5_claims_63 : decode cX5_claims 63 = .ok (.iload_n 2, 1) := by decide +kernel
theorem dX5_claims_64 : decode cX5_claims 64 = .ok (.iastore, 1) := by decide +kernel
theorem dX5_claims_65 : decode cX5_claims 65 = .ok (.aload_n 0, 1) := by decide +kernel
theorem dX5_claims_66 : decode cX5_claims 66 = .ok (.getfield 7, 3) := by decide +kernel
theorem dX5_claims_69 : decode cX5_claims 69 = .ok (.iload 9, 2) := by decide +kernel
theorem dX5_claims_71 : decode cX5_claims 71 = .ok (.iconst 2, 1) := by decide +kernel
theorem dX5_claims_72 : decode cX5_claims 72 = .ok (.iadd, 1) := by decide +kernel
theorem dX5_claims_73 : decode cX5_claims 73 = .ok (.iload_n 3, 1) := by decide +kernel
theorem dX5_claims_74 : decode cX5_claims 74 = .ok (.iastore, 1) := by decide +kernel
theorem dX5_claims_75 : decode cX5_claims 75 = .ok (.aload_n 0, 1) := by decide +kernel
theorem dX5_claims_76 : decode cX5_claims 76 = .ok (.getfield 7, 3) := by decide +kernel
theorem dX5_claims_79 : decode cX5_claims 79 = .ok (.iload 9, 2) := by decide +kernel
theorem dX5_claims_81 : decode cX5_claims 81 = .ok (.iconst 3, 1) := by decide +kernel
theorem dX5_claims_82 : decode cX5_claims 82 = .ok (.iadd, 1) := by decide +kernel
theorem dX5_claims_83 : decode cX5_claims 83 = .ok (.iload 4, 2) := by decide +kernel
theorem dX5_claims_85 : decode cX5_claims 85 = .ok (.iastore, 1) := by decide +kernel
theorem dX5_claims_86 : decode cX5_claims 86 = .ok (.aload_n 0, 1) := by decide +kernel
theorem dX5_claims_87 : decode cX5_claims 87 = .ok (.getfield 7, 3) := by decide +kernel
theorem dX5_claims_90 : decode cX5_claims 90 = .ok (.iload 9, 2) := by decide +kernel
theorem dX5_claims_92 : decode cX5_claims 92 = .ok (.iconst 4, 1) := by decide +kernel
theorem dX5_claims_93 : decode cX5_claims 93 = .ok (.iadd, 1) := by decide +kernel
theorem dX5_claims_94 : decode cX5_claims 94 = .ok (.iload 5, 2) := by decide +kernel
theorem dX5_claims_96 : decode cX5_claims 96 = .ok (.iastore, 1) := by decide +kernel
theorem dX5_claims_97 : decode cX5_claims 97 = .ok (.aload_n 0, 1) := by decide +kernel
theorem dX5_claims_98 : decode cX5_claims 98 = .ok (.getfield 7, 3) := by decide +kernel
theorem dX5_claims_101 : decode cX5_claims 101 = .ok (.iload 9, 2) := by decide +kernel
theorem dX5_claims_103 : decode cX5_claims 103 = .ok (.iconst 5, 1) := by decide +kernel
theorem dX5_claims_104 : decode cX5_claims 104 = .ok (.iadd, 1) := by decide +kernel
theorem dX5_claims_105 : decode cX5_claims 105 = .ok (.aload_n 0, 1) := by decide +kernel
theorem dX5_claims_106 : decode cX5_claims 106 = .ok (.getfield 7, 3) := by decide +kernel
theorem dX5_claims_109 : decode cX5_claims 109 = .ok (.bipush 7, 2) := by decide +kernel
theorem dX5_claims_111 : decode cX5_claims 111 = .ok (.iaload, 1) := by decide +kernel
theorem dX5_claims_112 : decode cX5_claims 112 = .ok (.iastore, 1) := by decide +kernel
theorem dX5_claims_113 : decode cX5_claims 113 = .ok (.aload_n 0, 1) := by decide +kernel
theorem dX5_claims_114 : decode cX5_claims 114 = .ok (.getfield 7, 3) := by decide +kernel
theorem dX5_claims_117 : decode cX5_claims 117 = .ok (.bipush 95, 2) := by decide +kernel
theorem dX5_claims_119 : decode cX5_claims 119 = .ok (.iload 8, 2) := by decide +kernel
theorem dX5_claims_121 : decode cX5_claims 121 = .ok (.iadd, 1) := by decide +kernel
theorem dX5_claims_122 : decode cX5_claims 122 = .ok (.dup2, 1) := by decide +kernel
theorem dX5_claims_123 : decode cX5_claims 123 = .ok (.iaload, 1) := by decide +kernel
theorem dX5_claims_124 : decode cX5_claims 124 = .ok (.iconst 1, 1) := by decide +kernel
theorem dX5_claims_125 : decode cX5_claims 125 = .ok (.iadd, 1) := by decide +kernel
theorem dX5_claims_126 : decode cX5_claims 126 = .ok (.iastore, 1) := by decide +kernel
theorem dX5_claims_127 : decode cX5_claims 127 = .ok (.iload 7, 2) := by decide +kernel
theorem dX5_claims_129 : decode cX5_claims 129 = .ok (.ireturn, 1) := by decide +kernel
theorem dX5_areEnds_0 : decode cX5_areEnds 0 = .ok (.iload_n 0, 1) := by decide +kernel
theorem dX5_areEnds_1 : decode cX5_areEnds 1 = .ok (.bipush (-20), 2) := by decide +kernel
theorem dX5_areEnds_3 : decode cX5_areEnds 3 = .ok (.bipush 19, 2) := by decide +kernel
theorem dX5_areEnds_5 : decode cX5_areEnds 5 = .ok (.invokestatic 144, 3) := by decide +kernel
theorem dX5_areEnds_8 : decode cX5_areEnds 8 = .ok (.ifCond .eq 18, 3) := by decide +kernel
theorem dX5_areEnds_11 : decode cX5_areEnds 11 = .ok (.iload_n 1, 1) := by decide +kernel
theorem dX5_areEnds_12 : decode cX5_areEnds 12 = .ok (.iload_n 0, 1) := by decide +kernel
theorem dX5_areEnds_13 : decode cX5_areEnds 13 = .ok (.if_icmp .le 13, 3) := by decide +kernel
theorem dX5_areEnds_16 : decode cX5_areEnds 16 = .ok (.iload_n 1, 1) := by decide +kernel
theorem dX5_areEnds_17 : decode cX5_areEnds 17 = .ok (.bipush 20, 2) := by decide +kernel
theorem dX5_areEnds_19 : decode cX5_areEnds 19 = .ok (.if_icmp .gt 7, 3) := by decide +kernel
theorem dX5_areEnds_22 : decode cX5_areEnds 22 = .ok (.iconst 1, 1) := by decide +kernel
theorem dX5_areEnds_23 : decode cX5_areEnds 23 = .ok (.goto 4, 3) := by decide +kernel
theorem dX5_areEnds_26 : decode cX5_areEnds 26 = .ok (.iconst 0, 1) := by decide +kernel
theorem dX5_areEnds_27 : decode cX5_areEnds 27 = .ok (.ireturn, 1) := by decide +kernel
theorem dX5_claim_0 : decode cX5_claim 0 = .ok (.aload_n 0, 1) := by decide +kernel
theorem dX5_claim_1 : decode cX5_claim 1 = .ok (.iload_n 1, 1) := by decide +kernel
theorem dX5_claim_2 : decode cX5_claim 2 = .ok (.iload_n 2, 1) := by decide +kernel
theorem dX5_claim_3 : decode cX5_claim 3 = .ok (.invokestatic 204, 3) := by decide +kernel
theorem dX5_claim_6 : decode cX5_claim 6 = .ok (.ifCond .eq 27, 3) := by decide +kernel
theorem dX5_claim_9 : decode cX5_claim 9 = .ok (.iload_n 3, 1) := by decide +kernel
theorem dX5_claim_10 : decode cX5_claim 10 = .ok (.iconst 0, 1) := by decide +kernel
theorem dX5_claim_11 : decode cX5_claim 11 = .ok (.iconst 4, 1) := by decide +kernel
theorem dX5_claim_12 : decode cX5_claim 12 = .ok (.invokestatic 144, 3) := by decide +kernel
theorem dX5_claim_15 : decode cX5_claim 15 = .ok (.ifCond .eq 18, 3) := by decide +kernel
theorem dX5_claim_18 : decode cX5_claim 18 = .ok (.iload 5, 2) := by decide +kernel
theorem dX5_claim_20 : decode cX5_claim 20 = .ok (.iconst 1, 1) := by decide +kernel
theorem dX5_claim_21 : decode cX5_claim 21 = .ok (.bipush 9, 2) := by decide +kernel
theorem dX5_claim_23 : decode cX5_claim 23 = .ok (.invokestatic 144, 3) := by decide +kernel
theorem dX5_claim_26 : decode cX5_claim 26 = .ok (.ifCond .eq 7, 3) := by decide +kernel
theorem dX5_claim_29 : decode cX5_claim 29 = .ok (.iconst 0, 1) := by decide +kernel
theorem dX5_claim_30 : decode cX5_claim 30 = .ok (.goto 4, 3) := by decide +kernel
theorem dX5_claim_33 : decode cX5_claim 33 = .ok (.iconst 1, 1) := by decide +kernel
theorem dX5_claim_34 : decode cX5_claim 34 = .ok (.putfield 55, 3) := by decide +kernel
theorem dX5_claim_37 : decode cX5_claim 37 = .ok (.aload_n 0, 1) := by decide +kernel
theorem dX5_claim_38 : decode cX5_claim 38 = .ok (.getfield 55, 3) := by decide +kernel
theorem dX5_claim_41 : decode cX5_claim 41 = .ok (.ifCond .le 7, 3) := by decide +kernel
theorem dX5_claim_44 : decode cX5_claim 44 = .ok (.iconst 0, 1) := by decide +kernel
theorem dX5_claim_45 : decode cX5_claim 45 = .ok (.goto 22, 3) := by decide +kernel
theorem dX5_claim_48 : decode cX5_claim 48 = .ok (.aload_n 0, 1) := by decide +kernel
theorem dX5_claim_49 : decode cX5_claim 49 = .ok (.iload_n 1, 1) := by decide +kernel
theorem dX5_claim_50 : decode cX5_claim 50 = .ok (.iload_n 2, 1) := by decide +kernel
theorem dX5_claim_51 : decode cX5_claim 51 = .ok (.iload_n 3, 1) := by decide +kernel
theorem dX5_claim_52 : decode cX5_claim 52 = .ok (.iload 4, 2) := by decide +kernel
theorem dX5_claim_54 : decode cX5_claim 54 = .ok (.ifCond .eq 7, 3) := by decide +kernel
theorem dX5_claim_57 : decode cX5_claim 57 = .ok (.iconst 1, 1) := by decide +kernel
theorem dX5_claim_58 : decode cX5_claim 58 = .ok (.goto 4, 3) := by decide +kernel
theorem dX5_claim_61 : decode cX5_claim 61 = .ok (.iconst 0, 1) := by decide +kernel
theorem dX5_claim_62 : decode cX5_claim 62 = .ok (.iload 5, 2) := by decide +kernel
theorem dX5_claim_64 : decode cX5_claim 64 = .ok (.invokevirtual 208, 3) := by decide +kernel
theorem dX5_claim_67 : decode cX5_claim 67 = .ok (.ireturn, 1) := by decide +kernel
theorem dX5_whyLay_0 : decode cX5_whyLay 0 = .ok (.aload_n 0, 1) := by decide +kernel
theorem dX5_whyLay_1 : decode cX5_whyLay 1 = .ok (.getfield 7, 3) := by decide +kernel
theorem dX5_whyLay_4 : decode cX5_whyLay 4 = .ok (.bipush 11, 2) := by decide +kernel
theorem dX5_whyLay_6 : decode cX5_whyLay 6 = .ok (.iload_n 2, 1) := by decide +kernel
theorem dX5_whyLay_7 : decode cX5_whyLay 7 = .ok (.iadd, 1) := by decide +kernel
theorem dX5_whyLay_8 : decode cX5_whyLay 8 = .ok (.iaload, 1) := by decide +kernel
theorem dX5_whyLay_9 : decode cX5_whyLay 9 = .ok (.iload_n 1, 1) := by decide +kernel
theorem dX5_whyLay_10 : decode cX5_whyLay 10 = .ok (.iadd, 1) := by decide +kernel
theorem dX5_whyLay_11 : decode cX5_whyLay 11 = .ok (.istore_n 3, 1) := by decide +kernel
theorem dX5_whyLay_12 : decode cX5_whyLay 12 = .ok (.aload_n 0, 1) := by decide +kernel
theorem dX5_whyLay_13 : decode cX5_whyLay 13 = .ok (.getfield 7, 3) := by decide +kernel
theorem dX5_whyLay_16 : decode cX5_whyLay 16 = .ok (.bipush 8, 2) := by decide +kernel
theorem dX5_whyLay_18 : decode cX5_whyLay 18 = .ok (.iaload, 1) := by decide +kernel
theorem dX5_whyLay_19 : decode cX5_whyLay 19 = .ok (.iconst 1, 1) := by decide +kernel
theorem dX5_whyLay_20 : decode cX5_whyLay 20 = .ok (.if_icmp .ne 7, 3) := by decide +kernel
theorem dX5_whyLay_23 : decode cX5_whyLay 23 = .ok (.iconst 1, 1) := by decide +kernel
theorem dX5_whyLay_24 : decode cX5_whyLay 24 = .ok (.goto 58, 3) := by decide +kernel
theorem dX5_whyLay_27 : decode cX5_whyLay 27 = .ok (.aload_n 0, 1) := by decide +kernel
theorem dX5_whyLay_28 : decode cX5_whyLay 28 = .ok (.iload_n 2, 1) := by decide +kernel
theorem dX5_whyLay_29 : decode cX5_whyLay 29 = .ok (.invokevirtual 148, 3) := by decide +kernel
theorem dX5_whyLay_32 : decode cX5_whyLay 32 = .ok (.ifCond .eq 8, 3) := by decide +kernel
theorem dX5_whyLay_35 : decode cX5_whyLay 35 = .ok (.bipush 6, 2) := by decide +kernel
theorem dX5_whyLay_37 : decode cX5_whyLay 37 = .ok (.goto 45, 3) := by decide +kernel
theorem dX5_whyLay_40 : decode cX5_whyLay 40 = .ok (.iload_n 3, 1) := by decide +kernel
theorem dX5_whyLay_41 : decode cX5_whyLay 41 = .ok (.bipush (-30), 2) := by decide +kernel
theorem dX5_whyLay_43 : decode cX5_whyLay 43 = .ok (.bipush 30, 2) := by decide +kernel
theorem dX5_whyLay_45 : decode cX5_whyLay 45 = .ok (.invokestatic 144, 3) := by decide +kernel
theorem dX5_whyLay_48 : decode cX5_whyLay 48 = .ok (.ifCond .ne 8, 3) := by decide +kernel
theorem dX5_whyLay_51 : decode cX5_whyLay 51 = .ok (.bipush 7, 2) := by decide +kernel
theorem dX5_whyLay_53 : decode cX5_whyLay 53 = .ok (.goto 29, 3) := by decide +kernel
theorem dX5_whyLay_56 : decode cX5_whyLay 56 = .ok (.iload_n 3, 1) := by decide +kernel
theorem dX5_whyLay_57 : decode cX5_whyLay 57 = .ok (.ifCond .ne 24, 3) := by decide +kernel
theorem dX5_whyLay_60 : decode cX5_whyLay 60 = .ok (.aload_n 0, 1) := by decide +kernel
theorem dX5_whyLay_61 : decode cX5_whyLay 61 = .ok (.invokevirtual 136, 3) := by decide +kernel
theorem dX5_whyLay_64 : decode cX5_whyLay 64 = .ok (.iload_n 2, 1) := by decide +kernel
theorem dX5_whyLay_65 : decode cX5_whyLay 65 = .ok (.if_icmp .ne 16, 3) := by decide +kernel
theorem dX5_whyLay_68 : decode cX5_whyLay 68 = .ok (.aload_n 0, 1) := by decide +kernel
theorem dX5_whyLay_69 : decode cX5_whyLay 69 = .ok (.iload_n 2, 1) := by decide +kernel
theorem dX5_whyLay_70 : decode cX5_whyLay 70 = .ok (.invokevirtual 212, 3) := by decide +kernel
theorem dX5_whyLay_73 : decode cX5_whyLay 73 = .ok (.ifCond .eq 8, 3) := by decide +kernel
theorem dX5_whyLay_76 : decode cX5_whyLay 76 = .ok (.bipush 8, 2) := by decide +kernel
theorem dX5_whyLay_78 : decode cX5_whyLay 78 = .ok (.goto 4, 3) := by decide +kernel
theorem dX5_whyLay_81 : decode cX5_whyLay 81 = .ok (.iconst 0, 1) := by decide +kernel
theorem dX5_whyLay_82 : decode cX5_whyLay 82 = .ok (.ireturn, 1) := by decide +kernel
theorem dX5_isAlone_0 : decode cX5_isAlone 0 = .ok (.iconst 1, 1) := by decide +kernel
theorem dX5_isAlone_1 : decode cX5_isAlone 1 = .ok (.istore_n 2, 1) := by decide +kernel
theorem dX5_isAlone_2 : decode cX5_isAlone 2 = .ok (.iconst 0, 1) := by decide +kernel
theorem dX5_isAlone_3 : decode cX5_isAlone 3 = .ok (.istore_n 3, 1) := by decide +kernel
theorem dX5_isAlone_4 : decode cX5_isAlone 4 = .ok (.iload_n 3, 1) := by decide +kernel
theorem dX5_isAlone_5 : decode cX5_isAlone 5 = .ok (.iconst 5, 1) := by decide +kernel
theorem dX5_isAlone_6 : decode cX5_isAlone 6 = .ok (.if_icmp .ge 36, 3) := by decide +kernel
theorem dX5_isAlone_9 : decode cX5_isAlone 9 = .ok (.iload_n 2, 1) := by decide +kernel
theorem dX5_isAlone_10 : decode cX5_isAlone 10 = .ok (.ifCond .eq 24, 3) := by decide +kernel
theorem dX5_isAlone_13 : decode cX5_isAlone 13 = .ok (.iload_n 3, 1) := by decide +kernel
theorem dX5_isAlone_14 : decode cX5_isAlone 14 = .ok (.iload_n 1, 1) := by decide +kernel
theorem dX5_isAlone_15 : decode cX5_isAlone 15 = .ok (.if_icmp .eq 15, 3) := by decide +kernel
theorem dX5_isAlone_18 : decode cX5_isAlone 18 = .ok (.aload_n 0, 1) := by decide +kernel
theorem dX5_isAlone_19 : decode cX5_isAlone 19 = .ok (.getfield 7, 3) := by decide +kernel
theorem dX5_isAlone_22 : decode cX5_isAlone 22 = .ok (.bipush 11, 2) := by decide +kernel
theorem dX5_isAlone_24 : decode cX5_isAlone 24 = .ok (.iload_n 3, 1) := by decide +kernel
theorem dX5_isAlone_25 : decode cX5_isAlone 25 = .ok (.iadd, 1) := by decide +kernel
theorem dX5_isAlone_26 : decode cX5_isAlone 26 = .ok (.iaload, 1) := by decide +kernel
theorem dX5_isAlone_27 : decode cX5_isAlone 27 = .ok (.ifCond .ne 7, 3) := by decide +kernel
theorem dX5_isAlone_30 : decode cX5_isAlone 30 = .ok (.iconst 1, 1) := by decide +kernel
theorem dX5_isAlone_31 : decode cX5_isAlone 31 = .ok (.goto 4, 3) := by decide +kernel
theorem dX5_isAlone_34 : decode cX5_isAlone 34 = .ok (.iconst 0, 1) := by decide +kernel
theorem dX5_isAlone_35 : decode cX5_isAlone 35 = .ok (.istore_n 2, 1) := by decide +kernel
theorem dX5_isAlone_36 : decode cX5_isAlone 36 = .ok (.iinc 3 1, 3) := by decide +kernel
theorem dX5_isAlone_39 : decode cX5_isAlone 39 = .ok (.goto (-35), 3) := by decide +kernel
theorem dX5_isAlone_42 : decode cX5_isAlone 42 = .ok (.iload_n 2, 1) := by decide +kernel
theorem dX5_isAlone_43 : decode cX5_isAlone 43 = .ok (.ireturn, 1) := by decide +kernel
theorem dX5_ends_0 : decode cX5_ends 0 = .ok (.bipush 100, 2) := by decide +kernel
theorem dX5_ends_2 : decode cX5_ends 2 = .ok (.iconst 3, 1) := by decide +kernel
theorem dX5_ends_3 : decode cX5_ends 3 = .ok (.aload_n 0, 1) := by decide +kernel
theorem dX5_ends_4 : decode cX5_ends 4 = .ok (.getfield 7, 3) := by decide +kernel
theorem dX5_ends_7 : decode cX5_ends 7 = .ok (.bipush 7, 2) := by decide +kernel
theorem dX5_ends_9 : decode cX5_ends 9 = .ok (.iaload, 1) := by decide +kernel
theorem dX5_ends_10 : decode cX5_ends 10 = .ok (.imul, 1) := by decide +kernel
theorem dX5_ends_11 : decode cX5_ends 11 = .ok (.iadd, 1) := by decide +kernel
theorem dX5_ends_12 : decode cX5_ends 12 = .ok (.istore 4, 2) := by decide +kernel
theorem dX5_ends_14 : decode cX5_ends 14 = .ok (.aload_n 0, 1) := by decide +kernel
theorem dX5_ends_15 : decode cX5_ends 15 = .ok (.getfield 7, 3) := by decide +kernel
theorem dX5_ends_18 : decode cX5_ends 18 = .ok (.iload 4, 2) := by decide +kernel
theorem dX5_ends_20 : decode cX5_ends 20 = .ok (.iload_n 3, 1) := by decide +kernel
theorem dX5_ends_21 : decode cX5_ends 21 = .ok (.ifCond .eq 7, 3) := by decide +kernel
theorem dX5_ends_24 : decode cX5_ends 24 = .ok (.iconst 1, 1) := by decide +kernel
theorem dX5_ends_25 : decode cX5_ends 25 = .ok (.goto 4, 3) := by decide +kernel
theorem dX5_ends_28 : decode cX5_ends 28 = .ok (.iconst 0, 1) := by decide +kernel
theorem dX5_ends_29 : decode cX5_ends 29 = .ok (.iastore, 1) := by decide +kernel
theorem dX5_ends_30 : decode cX5_ends 30 = .ok (.aload_n 0, 1) := by decide +kernel
theorem dX5_ends_31 : decode cX5_ends 31 = .ok (.getfield 7, 3) := by decide +kernel
theorem dX5_ends_34 : decode cX5_ends 34 = .ok (.iload 4, 2) := by decide +kernel
theorem dX5_ends_36 : decode cX5_ends 36 = .ok (.iconst 1, 1) := by decide +kernel
theorem dX5_ends_37 : decode cX5_ends 37 = .ok (.iadd, 1) := by decide +kernel
theorem dX5_ends_38 : decode cX5_ends 38 = .ok (.iload_n 1, 1) := by decide +kernel
theorem dX5_ends_39 : decode cX5_ends 39 = .ok (.iastore, 1) := by decide +kernel
theorem dX5_ends_40 : decode cX5_ends 40 = .ok (.aload_n 0, 1) := by decide +kernel
theorem dX5_ends_41 : decode cX5_ends 41 = .ok (.getfield 7, 3) := by decide +kernel
theorem dX5_ends_44 : decode cX5_ends 44 = .ok (.iload 4, 2) := by decide +kernel
theorem dX5_ends_46 : decode cX5_ends 46 = .ok (.iconst 2, 1) := by decide +kernel
theorem dX5_ends_47 : decode cX5_ends 47 = .ok (.iadd, 1) := by decide +kernel
theorem dX5_ends_48 : decode cX5_ends 48 = .ok (.iload_n 2, 1) := by decide +kernel
theorem dX5_ends_49 : decode cX5_ends 49 = .ok (.iastore, 1) := by decide +kernel
theorem dX5_ends_50 : decode cX5_ends 50 = .ok (.iload_n 3, 1) := by decide +kernel
theorem dX5_ends_51 : decode cX5_ends 51 = .ok (.ifCond .eq 18, 3) := by decide +kernel
theorem dX5_ends_54 : decode cX5_ends 54 = .ok (.aload_n 0, 1) := by decide +kernel
theorem dX5_ends_55 : decode cX5_ends 55 = .ok (.getfield 7, 3) := by decide +kernel
theorem dX5_ends_58 : decode cX5_ends 58 = .ok (.bipush 10, 2) := by decide +kernel
theorem dX5_ends_60 : decode cX5_ends 60 = .ok (.iaload, 1) := by decide +kernel
theorem dX5_ends_61 : decode cX5_ends 61 = .ok (.iconst 1, 1) := by decide +kernel
theorem dX5_ends_62 : decode cX5_ends 62 = .ok (.if_icmp .ne 7, 3) := by decide +kernel
theorem dX5_ends_65 : decode cX5_ends 65 = .ok (.iconst 1, 1) := by decide +kernel
theorem dX5_ends_66 : decode cX5_ends 66 = .ok (.goto 4, 3) := by decide +kernel
theorem dX5_ends_69 : decode cX5_ends 69 = .ok (.iconst 0, 1) := by decide +kernel
theorem dX5_ends_70 : decode cX5_ends 70 = .ok (.istore 5, 2) := by decide +kernel
theorem dX5_ends_72 : decode cX5_ends 72 = .ok (.aload_n 0, 1) := by decide +kernel
theorem dX5_ends_73 : decode cX5_ends 73 = .ok (.getfield 7, 3) := by decide +kernel
theorem dX5_ends_76 : decode cX5_ends 76 = .ok (.bipush 10, 2) := by decide +kernel
theorem dX5_ends_78 : decode cX5_ends 78 = .ok (.iload_n 3, 1) := by decide +kernel
theorem dX5_ends_79 : decode cX5_ends 79 = .ok (.ifCond .eq 7, 3) := by decide +kernel
theorem dX5_ends_82 : decode cX5_ends 82 = .ok (.iconst 1, 1) := by decide +kernel
theorem dX5_ends_83 : decode cX5_ends 83 = .ok (.goto 4, 3) := by decide +kernel
theorem dX5_ends_86 : decode cX5_ends 86 = .ok (.iconst 0, 1) := by decide +kernel
theorem dX5_ends_87 : decode cX5_ends 87 = .ok (.iastore, 1) := by decide +kernel
theorem dX5_ends_88 : decode cX5_ends 88 = .ok (.aload_n 0, 1) := by decide +kernel
theorem dX5_ends_89 : decode cX5_ends 89 = .ok (.getfield 7, 3) := by decide +kernel
theorem dX5_ends_92 : decode cX5_ends 92 = .ok (.bipush 99, 2) := by decide +kernel
theorem dX5_ends_94 : decode cX5_ends 94 = .ok (.dup2, 1) := by decide +kernel
theorem dX5_ends_95 : decode cX5_ends 95 = .ok (.iaload, 1) := by decide +kernel
theorem dX5_ends_96 : decode cX5_ends 96 = .ok (.iload_n 3, 1) := by decide +kernel
theorem dX5_ends_97 : decode cX5_ends 97 = .ok (.ifCond .eq 7, 3) := by decide +kernel
theorem dX5_ends_100 : decode cX5_ends 100 = .ok (.iconst 1, 1) := by decide +kernel
theorem dX5_ends_101 : decode cX5_ends 101 = .ok (.goto 4, 3) := by decide +kernel
theorem dX5_ends_104 : decode cX5_ends 104 = .ok (.iconst 0, 1) := by decide +kernel
theorem dX5_ends_105 : decode cX5_ends 105 = .ok (.iadd, 1) := by decide +kernel
theorem dX5_ends_106 : decode cX5_ends 106 = .ok (.iastore, 1) := by decide +kernel
theorem dX5_ends_107 : decode cX5_ends 107 = .ok (.aload_n 0, 1) := by decide +kernel
theorem dX5_ends_108 : decode cX5_ends 108 = .ok (.getfield 7, 3) := by decide +kernel
theorem dX5_ends_111 : decode cX5_ends 111 = .ok (.bipush 7, 2) := by decide +kernel
theorem dX5_ends_113 : decode cX5_ends 113 = .ok (.dup2, 1) := by decide +kernel
theorem dX5_ends_114 : decode cX5_ends 114 = .ok (.iaload, 1) := by decide +kernel
theorem dX5_ends_115 : decode cX5_ends 115 = .ok (.iconst 1, 1) := by decide +kernel
theorem dX5_ends_116 : decode cX5_ends 116 = .ok (.iadd, 1) := by decide +kernel
theorem dX5_ends_117 : decode cX5_ends 117 = .ok (.iastore, 1) := by decide +kernel
theorem dX5_ends_118 : decode cX5_ends 118 = .ok (.aload_n 0, 1) := by decide +kernel
theorem dX5_ends_119 : decode cX5_ends 119 = .ok (.getfield 7, 3) := by decide +kernel
theorem dX5_ends_122 : decode cX5_ends 122 = .ok (.bipush 7, 2) := by decide +kernel
theorem dX5_ends_124 : decode cX5_ends 124 = .ok (.iaload, 1) := by decide +kernel
theorem dX5_ends_125 : decode cX5_ends 125 = .ok (.aload_n 0, 1) := by decide +kernel
theorem dX5_ends_126 : decode cX5_ends 126 = .ok (.getfield 7, 3) := by decide +kernel
theorem dX5_ends_129 : decode cX5_ends 129 = .ok (.iconst 2, 1) := by decide +kernel
theorem dX5_ends_130 : decode cX5_ends 130 = .ok (.iaload, 1) := by decide +kernel
theorem dX5_ends_131 : decode cX5_ends 131 = .ok (.if_icmp .eq 21, 3) := by decide +kernel
theorem dX5_ends_134 : decode cX5_ends 134 = .ok (.iload 5, 2) := by decide +kernel
theorem dX5_ends_136 : decode cX5_ends 136 = .ok (.ifCond .ne 16, 3) := by decide +kernel
theorem dX5_ends_139 : decode cX5_ends 139 = .ok (.aload_n 0, 1) := by decide +kernel
theorem dX5_ends_140 : decode cX5_ends 140 = .ok (.invokevirtual 215, 3) := by decide +kernel
theorem dX5_ends_143 : decode cX5_ends 143 = .ok (.aload_n 0, 1) := by decide +kernel
theorem dX5_ends_144 : decode cX5_ends 144 = .ok (.getfield 7, 3) := by decide +kernel
theorem dX5_ends_147 : decode cX5_ends 147 = .ok (.iconst 0, 1) := by decide +kernel
theorem dX5_ends_148 : decode cX5_ends 148 = .ok (.iaload, 1) := by decide +kernel
theorem dX5_ends_149 : decode cX5_ends 149 = .ok (.if_icmp .ne 7, 3) := by decide +kernel
theorem dX5_ends_152 : decode cX5_ends 152 = .ok (.iconst 1, 1) := by decide +kernel
theorem dX5_ends_153 : decode cX5_ends 153 = .ok (.goto 4, 3) := by decide +kernel
theorem dX5_ends_156 : decode cX5_ends 156 = .ok (.iconst 0, 1) := by decide +kernel
theorem dX5_ends_157 : decode cX5_ends 157 = .ok (.istore 6, 2) := by decide +kernel
theorem dX5_ends_159 : decode cX5_ends 159 = .ok (.aload_n 0, 1) := by decide +kernel
theorem dX5_ends_160 : decode cX5_ends 160 = .ok (.getfield 7, 3) := by decide +kernel
theorem dX5_ends_163 : decode cX5_ends 163 = .ok (.bipush 8, 2) := by decide +kernel
theorem dX5_ends_165 : decode cX5_ends 165 = .ok (.iload 6, 2) := by decide +kernel
theorem dX5_ends_167 : decode cX5_ends 167 = .ok (.ifCond .eq 7, 3) := by decide +kernel
theorem dX5_ends_170 : decode cX5_ends 170 = .ok (.iconst 1, 1) := by decide +kernel
theorem dX5_ends_171 : decode cX5_ends 171 = .ok (.goto 4, 3) := by decide +kernel
theorem dX5_ends_174 : decode cX5_ends 174 = .ok (.iconst 0, 1) := by decide +kernel
theorem dX5_ends_175 : decode cX5_ends 175 = .ok (.iastore, 1) := by decide +kernel
theorem dX5_ends_176 : decode cX5_ends 176 = .ok (.return_, 1) := by decide +kernel
theorem dX5_laysTerm_0 : decode cX5_laysTerm 0 = .ok (.aload_n 0, 1) := by decide +kernel
theorem dX5_laysTerm_1 : decode cX5_laysTerm 1 = .ok (.invokevirtual 152, 3) := by decide +kernel
theorem dX5_laysTerm_4 : decode cX5_laysTerm 4 = .ok (.istore_n 3, 1) := by decide +kernel
theorem dX5_laysTerm_5 : decode cX5_laysTerm 5 = .ok (.aload_n 0, 1) := by decide +kernel
theorem dX5_laysTerm_6 : decode cX5_laysTerm 6 = .ok (.getfield 7, 3) := by decide +kernel
theorem dX5_laysTerm_9 : decode cX5_laysTerm 9 = .ok (.bipush 11, 2) := by decide +kernel
theorem dX5_laysTerm_11 : decode cX5_laysTerm 11 = .ok (.iload_n 2, 1) := by decide +kernel
theorem dX5_laysTerm_12 : decode cX5_laysTerm 12 = .ok (.iadd, 1) := by decide +kernel
theorem dX5_laysTerm_13 : decode cX5_laysTerm 13 = .ok (.dup2, 1) := by decide +kernel
theorem dX5_laysTerm_14 : decode cX5_laysTerm 14 = .ok (.iaload, 1) := by decide +kernel
theorem dX5_laysTerm_15 : decode cX5_laysTerm 15 = .ok (.iload_n 1, 1) := by decide +kernel
theorem dX5_laysTerm_16 : decode cX5_laysTerm 16 = .ok (.iadd, 1) := by decide +kernel
theorem dX5_laysTerm_17 : decode cX5_laysTerm 17 = .ok (.iastore, 1) := by decide +kernel
theorem dX5_laysTerm_18 : decode cX5_laysTerm 18 = .ok (.aload_n 0, 1) := by decide +kernel
theorem dX5_laysTerm_19 : decode cX5_laysTerm 19 = .ok (.getfield 7, 3) := by decide +kernel
theorem dX5_laysTerm_22 : decode cX5_laysTerm 22 = .ok (.bipush 20, 2) := by decide +kernel
theorem dX5_laysTerm_24 : decode cX5_laysTerm 24 = .ok (.iload_n 2, 1) := by decide +kernel
theorem dX5_laysTerm_25 : decode cX5_laysTerm 25 = .ok (.iadd, 1) := by decide +kernel
theorem dX5_laysTerm_26 : decode cX5_laysTerm 26 = .ok (.dup2, 1) := by decide +kernel
theorem dX5_laysTerm_27 : decode cX5_laysTerm 27 = .ok (.iaload, 1) := by decide +kernel
theorem dX5_laysTerm_28 : decode cX5_laysTerm 28 = .ok (.iconst 1, 1) := by decide +kernel
theorem dX5_laysTerm_29 : decode cX5_laysTerm 29 = .ok (.iadd, 1) := by decide +kernel
theorem dX5_laysTerm_30 : decode cX5_laysTerm 30 = .ok (.iastore, 1) := by decide +kernel
theorem dX5_laysTerm_31 : decode cX5_laysTerm 31 = .ok (.aload_n 0, 1) := by decide +kernel
theorem dX5_laysTerm_32 : decode cX5_laysTerm 32 = .ok (.getfield 7, 3) := by decide +kernel
theorem dX5_laysTerm_35 : decode cX5_laysTerm 35 = .ok (.bipush 29, 2) := by decide +kernel
theorem dX5_laysTerm_37 : decode cX5_laysTerm 37 = .ok (.iload_n 2, 1) := by decide +kernel
theorem dX5_laysTerm_38 : decode cX5_laysTerm 38 = .ok (.iadd, 1) := by decide +kernel
theorem dX5_laysTerm_39 : decode cX5_laysTerm 39 = .ok (.aload_n 0, 1) := by decide +kernel
theorem dX5_laysTerm_40 : decode cX5_laysTerm 40 = .ok (.getfield 7, 3) := by decide +kernel
theorem dX5_laysTerm_43 : decode cX5_laysTerm 43 = .ok (.bipush 7, 2) := by decide +kernel
theorem dX5_laysTerm_45 : decode cX5_laysTerm 45 = .ok (.iaload, 1) := by decide +kernel
theorem dX5_laysTerm_46 : decode cX5_laysTerm 46 = .ok (.iastore, 1) := by decide +kernel
theorem dX5_laysTerm_47 : decode cX5_laysTerm 47 = .ok (.aload_n 0, 1) := by decide +kernel
theorem dX5_laysTerm_48 : decode cX5_laysTerm 48 = .ok (.getfield 7, 3) := by decide +kernel
theorem dX5_laysTerm_51 : decode cX5_laysTerm 51 = .ok (.bipush 38, 2) := by decide +kernel
theorem dX5_laysTerm_53 : decode cX5_laysTerm 53 = .ok (.iload_n 2, 1) := by decide +kernel
theorem dX5_laysTerm_54 : decode cX5_laysTerm 54 = .ok (.iadd, 1) := by decide +kernel
theorem dX5_laysTerm_55 : decode cX5_laysTerm 55 = .ok (.iload_n 3, 1) := by decide +kernel
theorem dX5_laysTerm_56 : decode cX5_laysTerm 56 = .ok (.iastore, 1) := by decide +kernel
theorem dX5_laysTerm_57 : decode cX5_laysTerm 57 = .ok (.aload_n 0, 1) := by decide +kernel
theorem dX5_laysTerm_58 : decode cX5_laysTerm 58 = .ok (.getfield 7, 3) := by decide +kernel
theorem dX5_laysTerm_61 : decode cX5_laysTerm 61 = .ok (.bipush 97, 2) := by decide +kernel
theorem dX5_laysTerm_63 : decode cX5_laysTerm 63 = .ok (.iload_n 3, 1) := by decide +kernel
theorem dX5_laysTerm_64 : decode cX5_laysTerm 64 = .ok (.iadd, 1) := by decide +kernel
theorem dX5_laysTerm_65 : decode cX5_laysTerm 65 = .ok (.dup2, 1) := by decide +kernel
theorem dX5_laysTerm_66 : decode cX5_laysTerm 66 = .ok (.iaload, 1) := by decide +kernel
theorem dX5_laysTerm_67 : decode cX5_laysTerm 67 = .ok (.iconst 1, 1) := by decide +kernel
theorem dX5_laysTerm_68 : decode cX5_laysTerm 68 = .ok (.iadd, 1) := by decide +kernel
theorem dX5_laysTerm_69 : decode cX5_laysTerm 69 = .ok (.iastore, 1) := by decide +kernel
theorem dX5_laysTerm_70 : decode cX5_laysTerm 70 = .ok (.aload_n 0, 1) := by decide +kernel
theorem dX5_laysTerm_71 : decode cX5_laysTerm 71 = .ok (.iload_n 1, 1) := by decide +kernel
theorem dX5_laysTerm_72 : decode cX5_laysTerm 72 = .ok (.iload_n 2, 1) := by decide +kernel
theorem dX5_laysTerm_73 : decode cX5_laysTerm 73 = .ok (.iconst 0, 1) := by decide +kernel
theorem dX5_laysTerm_74 : decode cX5_laysTerm 74 = .ok (.invokevirtual 218, 3) := by decide +kernel
theorem dX5_laysTerm_77 : decode cX5_laysTerm 77 = .ok (.aload_n 0, 1) := by decide +kernel
theorem dX5_laysTerm_78 : decode cX5_laysTerm 78 = .ok (.getfield 7, 3) := by decide +kernel
theorem dX5_laysTerm_81 : decode cX5_laysTerm 81 = .ok (.iconst 4, 1) := by decide +kernel
theorem dX5_laysTerm_82 : decode cX5_laysTerm 82 = .ok (.iaload, 1) := by decide +kernel
theorem dX5_laysTerm_83 : decode cX5_laysTerm 83 = .ok (.ifCond .le 32, 3) := by decide +kernel
theorem dX5_laysTerm_86 : decode cX5_laysTerm 86 = .ok (.aload_n 0, 1) := by decide +kernel
theorem dX5_laysTerm_87 : decode cX5_laysTerm 87 = .ok (.invokevirtual 222, 3) := by decide +kernel
theorem dX5_laysTerm_90 : decode cX5_laysTerm 90 = .ok (.aload_n 0, 1) := by decide +kernel
theorem dX5_laysTerm_91 : decode cX5_laysTerm 91 = .ok (.getfield 7, 3) := by decide +kernel
theorem dX5_laysTerm_94 : decode cX5_laysTerm 94 = .ok (.iconst 4, 1) := by decide +kernel
theorem dX5_laysTerm_95 : decode cX5_laysTerm 95 = .ok (.iaload, 1) := by decide +kernel
theorem dX5_laysTerm_96 : decode cX5_laysTerm 96 = .ok (.if_icmp .lt 19, 3) := by decide +kernel
theorem dX5_laysTerm_99 : decode cX5_laysTerm 99 = .ok (.aload_n 0, 1) := by decide +kernel
theorem dX5_laysTerm_100 : decode cX5_laysTerm 100 = .ok (.getfield 7, 3) := by decide +kernel
theorem dX5_laysTerm_103 : decode cX5_laysTerm 103 = .ok (.bipush 8, 2) := by decide +kernel
theorem dX5_laysTerm_105 : decode cX5_laysTerm 105 = .ok (.iconst 1, 1) := by decide +kernel
theorem dX5_laysTerm_106 : decode cX5_laysTerm 106 = .ok (.iastore, 1) := by decide +kernel
theorem dX5_laysTerm_107 : decode cX5_laysTerm 107 = .ok (.aload_n 0, 1) := by decide +kernel
theorem dX5_laysTerm_108 : decode cX5_laysTerm 108 = .ok (.getfield 7, 3) := by decide +kernel
theorem dX5_laysTerm_111 : decode cX5_laysTerm 111 = .ok (.bipush 9, 2) := by decide +kernel
theorem dX5_laysTerm_113 : decode cX5_laysTerm 113 = .ok (.iload_n 3, 1) := by decide +kernel
theorem dX5_laysTerm_114 : decode cX5_laysTerm 114 = .ok (.iastore, 1) := by decide +kernel
theorem dX5_laysTerm_115 : decode cX5_laysTerm 115 = .ok (.return_, 1) := by decide +kernel
theorem dX5_lays_0 : decode cX5_lays 0 = .ok (.aload_n 0, 1) := by decide +kernel
theorem dX5_lays_1 : decode cX5_lays 1 = .ok (.iload_n 1, 1) := by decide +kernel
theorem dX5_lays_2 : decode cX5_lays 2 = .ok (.iload_n 2, 1) := by decide +kernel
theorem dX5_lays_3 : decode cX5_lays 3 = .ok (.invokevirtual 225, 3) := by decide +kernel
theorem dX5_lays_6 : decode cX5_lays 6 = .ok (.istore_n 3, 1) := by decide +kernel
theorem dX5_lays_7 : decode cX5_lays 7 = .ok (.iload_n 3, 1) := by decide +kernel
theorem dX5_lays_8 : decode cX5_lays 8 = .ok (.ifCond .le 9, 3) := by decide +kernel
theorem dX5_lays_11 : decode cX5_lays 11 = .ok (.aload_n 0, 1) := by decide +kernel
theorem dX5_lays_12 : decode cX5_lays 12 = .ok (.iload_n 3, 1) := by decide +kernel
theorem dX5_lays_13 : decode cX5_lays 13 = .ok (.invokevirtual 198, 3) := by decide +kernel
theorem dX5_lays_16 : decode cX5_lays 16 = .ok (.ireturn, 1) := by decide +kernel
theorem dX5_lays_17 : decode cX5_lays 17 = .ok (.aload_n 0, 1) := by decide +kernel
theorem dX5_lays_18 : decode cX5_lays 18 = .ok (.invokevirtual 201, 3) := by decide +kernel
theorem dX5_lays_21 : decode cX5_lays 21 = .ok (.istore 4, 2) := by decide +kernel
theorem dX5_lays_23 : decode cX5_lays 23 = .ok (.aload_n 0, 1) := by decide +kernel
theorem dX5_lays_24 : decode cX5_lays 24 = .ok (.iload_n 1, 1) := by decide +kernel
theorem dX5_lays_25 : decode cX5_lays 25 = .ok (.iload_n 2, 1) := by decide +kernel
theorem dX5_lays_26 : decode cX5_lays 26 = .ok (.invokevirtual 228, 3) := by decide +kernel
theorem dX5_lays_29 : decode cX5_lays 29 = .ok (.iload 4, 2) := by decide +kernel
theorem dX5_lays_31 : decode cX5_lays 31 = .ok (.ireturn, 1) := by decide +kernel
theorem dX5_isTerm_0 : decode cX5_isTerm 0 = .ok (.iload_n 0, 1) := by decide +kernel
theorem dX5_isTerm_1 : decode cX5_isTerm 1 = .ok (.bipush (-9), 2) := by decide +kernel
theorem dX5_isTerm_3 : decode cX5_isTerm 3 = .ok (.bipush 9, 2) := by decide +kernel
theorem dX5_isTerm_5 : decode cX5_isTerm 5 = .ok (.invokestatic 144, 3) := by decide +kernel
theorem dX5_isTerm_8 : decode cX5_isTerm 8 = .ok (.ifCond .eq 11, 3) := by decide +kernel
theorem dX5_isTerm_11 : decode cX5_isTerm 11 = .ok (.iload_n 0, 1) := by decide +kernel
theorem dX5_isTerm_12 : decode cX5_isTerm 12 = .ok (.ifCond .eq 7, 3) := by decide +kernel
theorem dX5_isTerm_15 : decode cX5_isTerm 15 = .ok (.iconst 1, 1) := by decide +kernel
theorem dX5_isTerm_16 : decode cX5_isTerm 16 = .ok (.goto 4, 3) := by decide +kernel
theorem dX5_isTerm_19 : decode cX5_isTerm 19 = .ok (.iconst 0, 1) := by decide +kernel
theorem dX5_isTerm_20 : decode cX5_isTerm 20 = .ok (.ireturn, 1) := by decide +kernel
theorem dX5_lay_0 : decode cX5_lay 0 = .ok (.aload_n 0, 1) := by decide +kernel
theorem dX5_lay_1 : decode cX5_lay 1 = .ok (.aload_n 0, 1) := by decide +kernel
theorem dX5_lay_2 : decode cX5_lay 2 = .ok (.iload_n 2, 1) := by decide +kernel
theorem dX5_lay_3 : decode cX5_lay 3 = .ok (.invokevirtual 231, 3) := by decide +kernel
theorem dX5_lay_6 : decode cX5_lay 6 = .ok (.ifCond .ne 7, 3) := by decide +kernel
theorem dX5_lay_9 : decode cX5_lay 9 = .ok (.iconst 1, 1) := by decide +kernel
theorem dX5_lay_10 : decode cX5_lay 10 = .ok (.goto 15, 3) := by decide +kernel
theorem dX5_lay_13 : decode cX5_lay 13 = .ok (.iload_n 1, 1) := by decide +kernel
theorem dX5_lay_14 : decode cX5_lay 14 = .ok (.invokestatic 234, 3) := by decide +kernel
theorem dX5_lay_17 : decode cX5_lay 17 = .ok (.ifCond .eq 7, 3) := by decide +kernel
theorem dX5_lay_20 : decode cX5_lay 20 = .ok (.iconst 0, 1) := by decide +kernel
theorem dX5_lay_21 : decode cX5_lay 21 = .ok (.goto 4, 3) := by decide +kernel
theorem dX5_lay_24 : decode cX5_lay 24 = .ok (.iconst 2, 1) := by decide +kernel
theorem dX5_lay_25 : decode cX5_lay 25 = .ok (.putfield 55, 3) := by decide +kernel
theorem dX5_lay_28 : decode cX5_lay 28 = .ok (.aload_n 0, 1) := by decide +kernel
theorem dX5_lay_29 : decode cX5_lay 29 = .ok (.getfield 55, 3) := by decide +kernel
theorem dX5_lay_32 : decode cX5_lay 32 = .ok (.ifCond .le 7, 3) := by decide +kernel
theorem dX5_lay_35 : decode cX5_lay 35 = .ok (.iconst 0, 1) := by decide +kernel
theorem dX5_lay_36 : decode cX5_lay 36 = .ok (.goto 9, 3) := by decide +kernel
theorem dX5_lay_39 : decode cX5_lay 39 = .ok (.aload_n 0, 1) := by decide +kernel
theorem dX5_lay_40 : decode cX5_lay 40 = .ok (.iload_n 1, 1) := by decide +kernel
theorem dX5_lay_41 : decode cX5_lay 41 = .ok (.iload_n 2, 1) := by decide +kernel
theorem dX5_lay_42 : decode cX5_lay 42 = .ok (.invokevirtual 237, 3) := by decide +kernel
theorem dX5_lay_45 : decode cX5_lay 45 = .ok (.ireturn, 1) := by decide +kernel
theorem dX5_passes_0 : decode cX5_passes 0 = .ok (.aload_n 0, 1) := by decide +kernel
theorem dX5_passes_1 : decode cX5_passes 1 = .ok (.getfield 7, 3) := by decide +kernel
theorem dX5_passes_4 : decode cX5_passes 4 = .ok (.bipush 8, 2) := by decide +kernel
theorem dX5_passes_6 : decode cX5_passes 6 = .ok (.iaload, 1) := by decide +kernel
theorem dX5_passes_7 : decode cX5_passes 7 = .ok (.iconst 1, 1) := by decide +kernel
theorem dX5_passes_8 : decode cX5_passes 8 = .ok (.if_icmp .ne 9, 3) := by decide +kernel
theorem dX5_passes_11 : decode cX5_passes 11 = .ok (.aload_n 0, 1) := by decide +kernel
theorem dX5_passes_12 : decode cX5_passes 12 = .ok (.iconst 1, 1) := by decide +kernel
theorem dX5_passes_13 : decode cX5_passes 13 = .ok (.invokevirtual 198, 3) := by decide +kernel
theorem dX5_passes_16 : decode cX5_passes 16 = .ok (.ireturn, 1) := by decide +kernel
theorem dX5_passes_17 : decode cX5_passes 17 = .ok (.aload_n 0, 1) := by decide +kernel
theorem dX5_passes_18 : decode cX5_passes 18 = .ok (.invokevirtual 201, 3) := by decide +kernel
theorem dX5_passes_21 : decode cX5_passes 21 = .ok (.istore_n 1, 1) := by decide +kernel
theorem dX5_passes_22 : decode cX5_passes 22 = .ok (.aload_n 0, 1) := by decide +kernel
theorem dX5_passes_23 : decode cX5_passes 23 = .ok (.iconst 0, 1) := by decide +kernel
theorem dX5_passes_24 : decode cX5_passes 24 = .ok (.iconst 0, 1) := by decide +kernel
theorem dX5_passes_25 : decode cX5_passes 25 = .ok (.iconst 1, 1) := by decide +kernel
theorem dX5_passes_26 : decode cX5_passes 26 = .ok (.invokevirtual 218, 3) := by decide +kernel
theorem dX5_passes_29 : decode cX5_passes 29 = .ok (.iload_n 1, 1) := by decide +kernel
theorem dX5_passes_30 : decode cX5_passes 30 = .ok (.ireturn, 1) := by decide +kernel
theorem dX5_pass_0 : decode cX5_pass 0 = .ok (.aload_n 0, 1) := by decide +kernel
theorem dX5_pass_1 : decode cX5_pass 1 = .ok (.iconst 0, 1) := by decide +kernel
theorem dX5_pass_2 : decode cX5_pass 2 = .ok (.putfield 55, 3) := by decide +kernel
theorem dX5_pass_5 : decode cX5_pass 5 = .ok (.aload_n 0, 1) := by decide +kernel
theorem dX5_pass_6 : decode cX5_pass 6 = .ok (.invokevirtual 240, 3) := by decide +kernel
theorem dX5_pass_9 : decode cX5_pass 9 = .ok (.ireturn, 1) := by decide +kernel
theorem dX5_why_0 : decode cX5_why 0 = .ok (.aload_n 0, 1) := by decide +kernel
theorem dX5_why_1 : decode cX5_why 1 = .ok (.aload_n 0, 1) := by decide +kernel
theorem dX5_why_2 : decode cX5_why 2 = .ok (.iload_n 2, 1) := by decide +kernel
theorem dX5_why_3 : decode cX5_why 3 = .ok (.invokevirtual 231, 3) := by decide +kernel
theorem dX5_why_6 : decode cX5_why 6 = .ok (.ifCond .ne 7, 3) := by decide +kernel
theorem dX5_why_9 : decode cX5_why 9 = .ok (.iconst 1, 1) := by decide +kernel
theorem dX5_why_10 : decode cX5_why 10 = .ok (.goto 15, 3) := by decide +kernel
theorem dX5_why_13 : decode cX5_why 13 = .ok (.iload_n 1, 1) := by decide +kernel
theorem dX5_why_14 : decode cX5_why 14 = .ok (.invokestatic 234, 3) := by decide +kernel
theorem dX5_why_17 : decode cX5_why 17 = .ok (.ifCond .eq 7, 3) := by decide +kernel
theorem dX5_why_20 : decode cX5_why 20 = .ok (.iconst 0, 1) := by decide +kernel
theorem dX5_why_21 : decode cX5_why 21 = .ok (.goto 4, 3) := by decide +kernel
theorem dX5_why_24 : decode cX5_why 24 = .ok (.iconst 2, 1) := by decide +kernel
theorem dX5_why_25 : decode cX5_why 25 = .ok (.putfield 55, 3) := by decide +kernel
theorem dX5_why_28 : decode cX5_why 28 = .ok (.aload_n 0, 1) := by decide +kernel
theorem dX5_why_29 : decode cX5_why 29 = .ok (.getfield 55, 3) := by decide +kernel
theorem dX5_why_32 : decode cX5_why 32 = .ok (.ifCond .le 7, 3) := by decide +kernel
theorem dX5_why_35 : decode cX5_why 35 = .ok (.iconst 0, 1) := by decide +kernel
theorem dX5_why_36 : decode cX5_why 36 = .ok (.goto 9, 3) := by decide +kernel
theorem dX5_why_39 : decode cX5_why 39 = .ok (.aload_n 0, 1) := by decide +kernel
theorem dX5_why_40 : decode cX5_why 40 = .ok (.iload_n 1, 1) := by decide +kernel
theorem dX5_why_41 : decode cX5_why 41 = .ok (.iload_n 2, 1) := by decide +kernel
theorem dX5_why_42 : decode cX5_why 42 = .ok (.invokevirtual 225, 3) := by decide +kernel
theorem dX5_why_45 : decode cX5_why 45 = .ok (.ireturn, 1) := by decide +kernel
theorem dX5_best_0 : decode cX5_best 0 = .ok (.aload_n 0, 1) := by decide +kernel
theorem dX5_best_1 : decode cX5_best 1 = .ok (.iconst 0, 1) := by decide +kernel
theorem dX5_best_2 : decode cX5_best 2 = .ok (.putfield 55, 3) := by decide +kernel
theorem dX5_best_5 : decode cX5_best 5 = .ok (.iconst (-1), 1) := by decide +kernel
theorem dX5_best_6 : decode cX5_best 6 = .ok (.istore_n 1, 1) := by decide +kernel
theorem dX5_best_7 : decode cX5_best 7 = .ok (.iconst 0, 1) := by decide +kernel
theorem dX5_best_8 : decode cX5_best 8 = .ok (.istore_n 2, 1) := by decide +kernel
theorem dX5_best_9 : decode cX5_best 9 = .ok (.aload_n 0, 1) := by decide +kernel
theorem dX5_best_10 : decode cX5_best 10 = .ok (.invokevirtual 152, 3) := by decide +kernel
theorem dX5_best_13 : decode cX5_best 13 = .ok (.istore_n 3, 1) := by decide +kernel
theorem dX5_best_14 : decode cX5_best 14 = .ok (.iconst 0, 1) := by decide +kernel
theorem dX5_best_15 : decode cX5_best 15 = .ok (.istore 4, 2) := by decide +kernel
theorem dX5_best_17 : decode cX5_best 17 = .ok (.iload 4, 2) := by decide +kernel
theorem dX5_best_19 : decode cX5_best 19 = .ok (.aload_n 0, 1) := by decide +kernel
theorem dX5_best_20 : decode cX5_best 20 = .ok (.getfield 7, 3) := by decide +kernel
theorem dX5_best_23 : decode cX5_best 23 = .ok (.iconst 0, 1) := by decide +kernel
theorem dX5_best_24 : decode cX5_best 24 = .ok (.iaload, 1) := by decide +kernel
theorem dX5_best_25 : decode cX5_best 25 = .ok (.if_icmp .ge 120, 3) := by decide +kernel
theorem dX5_best_28 : decode cX5_best 28 = .ok (.bipush (-9), 2) := by decide +kernel
theorem dX5_best_30 : decode cX5_best 30 = .ok (.istore 5, 2) := by decide +kernel
theorem dX5_best_32 : decode cX5_best 32 = .ok (.iload 5, 2) := by decide +kernel
theorem dX5_best_34 : decode cX5_best 34 = .ok (.bipush 9, 2) := by decide +kernel
theorem dX5_best_36 : decode cX5_best 36 = .ok (.if_icmp .gt 103, 3) := by decide +kernel
theorem dX5_best_39 : decode cX5_best 39 = .ok (.iload 5, 2) := by decide +kernel
theorem dX5_best_41 : decode cX5_best 41 = .ok (.ifCond .eq 92, 3) := by decide +kernel
theorem dX5_best_44 : decode cX5_best 44 = .ok (.aload_n 0, 1) := by decide +kernel
theorem dX5_best_45 : decode cX5_best 45 = .ok (.iload 5, 2) := by decide +kernel
theorem dX5_best_47 : decode cX5_best 47 = .ok (.iload 4, 2) := by decide +kernel
theorem dX5_best_49 : decode cX5_best 49 = .ok (.invokevirtual 225, 3) := by decide +kernel
theorem dX5_best_52 : decode cX5_best 52 = .ok (.ifCond .le 6, 3) := by decide +kernel
theorem dX5_best_55 : decode cX5_best 55 = .ok (.goto 78, 3) := by decide +kernel
theorem dX5_best_58 : decode cX5_best 58 = .ok (.aload_n 0, 1) := by decide +kernel
theorem dX5_best_59 : decode cX5_best 59 = .ok (.getfield 7, 3) := by decide +kernel
theorem dX5_best_62 : decode cX5_best 62 = .ok (.iconst 0, 1) := by decide +kernel
theorem dX5_best_63 : decode cX5_best 63 = .ok (.aload_n 0, 1) := by decide +kernel
theorem dX5_best_64 : decode cX5_best 64 = .ok (.getfield 13, 3) := by decide +kernel
theorem dX5_best_67 : decode cX5_best 67 = .ok (.iconst 0, 1) := by decide +kernel
theorem dX5_best_68 : decode cX5_best 68 = .ok (.invokestatic 180, 3) := by decide +kernel
theorem dX5_best_71 : decode cX5_best 71 = .ok (.aload_n 0, 1) := by decide +kernel
theorem dX5_best_72 : decode cX5_best 72 = .ok (.iload 5, 2) := by decide +kernel
theorem dX5_best_74 : decode cX5_best 74 = .ok (.iload 4, 2) := by decide +kernel
theorem dX5_best_76 : decode cX5_best 76 = .ok (.invokevirtual 228, 3) := by decide +kernel
theorem dX5_best_79 : decode cX5_best 79 = .ok (.aload_n 0, 1) := by decide +kernel
theorem dX5_best_80 : decode cX5_best 80 = .ok (.iload_n 3, 1) := by decide +kernel
theorem dX5_best_81 : decode cX5_best 81 = .ok (.invokevirtual 243, 3) := by decide +kernel
theorem dX5_best_84 : decode cX5_best 84 = .ok (.aload_n 0, 1) := by decide +kernel
theorem dX5_best_85 : decode cX5_best 85 = .ok (.iconst 1, 1) := by decide +kernel
theorem dX5_best_86 : decode cX5_best 86 = .ok (.iload_n 3, 1) := by decide +kernel
theorem dX5_best_87 : decode cX5_best 87 = .ok (.isub, 1) := by decide +kernel
theorem dX5_best_88 : decode cX5_best 88 = .ok (.invokevirtual 243, 3) := by decide +kernel
theorem dX5_best_91 : decode cX5_best 91 = .ok (.isub, 1) := by decide +kernel
theorem dX5_best_92 : decode cX5_best 92 = .ok (.istore 6, 2) := by decide +kernel
theorem dX5_best_94 : decode cX5_best 94 = .ok (.aload_n 0, 1) := by decide +kernel
theorem dX5_best_95 : decode cX5_best 95 = .ok (.getfield 13, 3) := by decide +kernel
theorem dX5_best_98 : decode cX5_best 98 = .ok (.iconst 0, 1) := by decide +kernel
theorem dX5_best_99 : decode cX5_best 99 = .ok (.aload_n 0, 1) := by decide +kernel
theorem dX5_best_100 : decode cX5_best 100 = .ok (.getfield 7, 3) := by decide +kernel
theorem dX5_best_103 : decode cX5_best 103 = .ok (.iconst 0, 1) := by decide +kernel
theorem dX5_best_104 : decode cX5_best 104 = .ok (.invokestatic 180, 3) := by decide +kernel
theorem dX5_best_107 : decode cX5_best 107 = .ok (.iload_n 1, 1) := by decide +kernel
theorem dX5_best_108 : decode cX5_best 108 = .ok (.iconst (-1), 1) := by decide +kernel
theorem dX5_best_109 : decode cX5_best 109 = .ok (.if_icmp .eq 9, 3) := by decide +kernel
theorem dX5_best_112 : decode cX5_best 112 = .ok (.iload 6, 2) := by decide +kernel
theorem dX5_best_114 : decode cX5_best 114 = .ok (.iload_n 2, 1) := by decide +kernel
theorem dX5_best_115 : decode cX5_best 115 = .ok (.if_icmp .le 18, 3) := by decide +kernel
theorem dX5_best_118 : decode cX5_best 118 = .ok (.bipush 20, 2) := by decide +kernel
theorem dX5_best_120 : decode cX5_best 120 = .ok (.iload 4, 2) := by decide +kernel
theorem dX5_best_122 : decode cX5_best 122 = .ok (.imul, 1) := by decide +kernel
theorem dX5_best_123 : decode cX5_best 123 = .ok (.iload 5, 2) := by decide +kernel
theorem dX5_best_125 : decode cX5_best 125 = .ok (.iadd, 1) := by decide +kernel
theorem dX5_best_126 : decode cX5_best 126 = .ok (.bipush 10, 2) := by decide +kernel
theorem dX5_best_128 : decode cX5_best 128 = .ok (.iadd, 1) := by decide +kernel
theorem dX5_best_129 : decode cX5_best 129 = .ok (.istore_n 1, 1) := by decide +kernel
theorem dX5_best_130 : decode cX5_best 130 = .ok (.iload 6, 2) := by decide +kernel
theorem dX5_best_132 : decode cX5_best 132 = .ok (.istore_n 2, 1) := by decide +kernel
theorem dX5_best_133 : decode cX5_best 133 = .ok (.iinc 5 1, 3) := by decide +kernel
theorem dX5_best_136 : decode cX5_best 136 = .ok (.goto (-104), 3) := by decide +kernel
theorem dX5_best_139 : decode cX5_best 139 = .ok (.iinc 4 1, 3) := by decide +kernel
theorem dX5_best_142 : decode cX5_best 142 = .ok (.goto (-125), 3) := by decide +kernel
theorem dX5_best_145 : decode cX5_best 145 = .ok (.iload_n 1, 1) := by decide +kernel
theorem dX5_best_146 : decode cX5_best 146 = .ok (.ireturn, 1) := by decide +kernel
theorem dX5_behind_0 : decode cX5_behind 0 = .ok (.aload_n 0, 1) := by decide +kernel
theorem dX5_behind_1 : decode cX5_behind 1 = .ok (.aload_n 0, 1) := by decide +kernel
theorem dX5_behind_2 : decode cX5_behind 2 = .ok (.iload_n 2, 1) := by decide +kernel
theorem dX5_behind_3 : decode cX5_behind 3 = .ok (.invokevirtual 231, 3) := by decide +kernel
theorem dX5_behind_6 : decode cX5_behind 6 = .ok (.ifCond .ne 7, 3) := by decide +kernel
theorem dX5_behind_9 : decode cX5_behind 9 = .ok (.iconst 1, 1) := by decide +kernel
theorem dX5_behind_10 : decode cX5_behind 10 = .ok (.goto 37, 3) := by decide +kernel
theorem dX5_behind_13 : decode cX5_behind 13 = .ok (.iload_n 1, 1) := by decide +kernel
theorem dX5_behind_14 : decode cX5_behind 14 = .ok (.invokestatic 234, 3) := by decide +kernel
theorem dX5_behind_17 : decode cX5_behind 17 = .ok (.ifCond .eq 12, 3) := by decide +kernel
theorem dX5_behind_20 : decode cX5_behind 20 = .ok (.iload_n 3, 1) := by decide +kernel
theorem dX5_behind_21 : decode cX5_behind 21 = .ok (.iconst 0, 1) := by decide +kernel
theorem dX5_behind_22 : decode cX5_behind 22 = .ok (.iconst 3, 1) := by decide +kernel
theorem dX5_behind_23 : decode cX5_behind 23 = .ok (.invokestatic 144, 3) := by decide +kernel
theorem dX5_behind_26 : decode cX5_behind 26 = .ok (.ifCond .ne 7, 3) := by decide +kernel
theorem dX5_behind_29 : decode cX5_behind 29 = .ok (.iconst 2, 1) := by decide +kernel
theorem dX5_behind_30 : decode cX5_behind 30 = .ok (.goto 17, 3) := by decide +kernel
theorem dX5_behind_33 : decode cX5_behind 33 = .ok (.aload_n 0, 1) := by decide +kernel
theorem dX5_behind_34 : decode cX5_behind 34 = .ok (.iload_n 1, 1) := by decide +kernel
theorem dX5_behind_35 : decode cX5_behind 35 = .ok (.iload_n 2, 1) := by decide +kernel
theorem dX5_behind_36 : decode cX5_behind 36 = .ok (.invokevirtual 225, 3) := by decide +kernel
theorem dX5_behind_39 : decode cX5_behind 39 = .ok (.ifCond .le 7, 3) := by decide +kernel
theorem dX5_behind_42 : decode cX5_behind 42 = .ok (.iconst 3, 1) := by decide +kernel
theorem dX5_behind_43 : decode cX5_behind 43 = .ok (.goto 4, 3) := by decide +kernel
theorem dX5_behind_46 : decode cX5_behind 46 = .ok (.iconst 0, 1) := by decide +kernel
theorem dX5_behind_47 : decode cX5_behind 47 = .ok (.putfield 55, 3) := by decide +kernel
theorem dX5_behind_50 : decode cX5_behind 50 = .ok (.aload_n 0, 1) := by decide +kernel
theorem dX5_behind_51 : decode cX5_behind 51 = .ok (.getfield 55, 3) := by decide +kernel
theorem dX5_behind_54 : decode cX5_behind 54 = .ok (.ifCond .le 5, 3) := by decide +kernel
theorem dX5_behind_57 : decode cX5_behind 57 = .ok (.iconst 0, 1) := by decide +kernel
theorem dX5_behind_58 : decode cX5_behind 58 = .ok (.ireturn, 1) := by decide +kernel
theorem dX5_behind_59 : decode cX5_behind 59 = .ok (.aload_n 0, 1) := by decide +kernel
theorem dX5_behind_60 : decode cX5_behind 60 = .ok (.getfield 7, 3) := by decide +kernel
theorem dX5_behind_63 : decode cX5_behind 63 = .ok (.iconst 0, 1) := by decide +kernel
theorem dX5_behind_64 : decode cX5_behind 64 = .ok (.aload_n 0, 1) := by decide +kernel
theorem dX5_behind_65 : decode cX5_behind 65 = .ok (.getfield 13, 3) := by decide +kernel
theorem dX5_behind_68 : decode cX5_behind 68 = .ok (.iconst 0, 1) := by decide +kernel
theorem dX5_behind_69 : decode cX5_behind 69 = .ok (.invokestatic 180, 3) := by decide +kernel
theorem dX5_behind_72 : decode cX5_behind 72 = .ok (.aload_n 0, 1) := by decide +kernel
theorem dX5_behind_73 : decode cX5_behind 73 = .ok (.iload_n 1, 1) := by decide +kernel
theorem dX5_behind_74 : decode cX5_behind 74 = .ok (.iload_n 2, 1) := by decide +kernel
theorem dX5_behind_75 : decode cX5_behind 75 = .ok (.invokevirtual 228, 3) := by decide +kernel
theorem dX5_behind_78 : decode cX5_behind 78 = .ok (.iload_n 3, 1) := by decide +kernel
theorem dX5_behind_79 : decode cX5_behind 79 = .ok (.ifCond .ne 10, 3) := by decide +kernel
theorem dX5_behind_82 : decode cX5_behind 82 = .ok (.aload_n 0, 1) := by decide +kernel
theorem dX5_behind_83 : decode cX5_behind 83 = .ok (.invokevirtual 222, 3) := by decide +kernel
theorem dX5_behind_86 : decode cX5_behind 86 = .ok (.goto 25, 3) := by decide +kernel
theorem dX5_behind_89 : decode cX5_behind 89 = .ok (.iload_n 3, 1) := by decide +kernel
theorem dX5_behind_90 : decode cX5_behind 90 = .ok (.iconst 3, 1) := by decide +kernel
theorem dX5_behind_91 : decode cX5_behind 91 = .ok (.if_icmp .ne 13, 3) := by decide +kernel
theorem dX5_behind_94 : decode cX5_behind 94 = .ok (.aload_n 0, 1) := by decide +kernel
theorem dX5_behind_95 : decode cX5_behind 95 = .ok (.getfield 7, 3) := by decide +kernel
theorem dX5_behind_98 : decode cX5_behind 98 = .ok (.bipush 8, 2) := by decide +kernel
theorem dX5_behind_100 : decode cX5_behind 100 = .ok (.iaload, 1) := by decide +kernel
theorem dX5_behind_101 : decode cX5_behind 101 = .ok (.goto 10, 3) := by decide +kernel
theorem dX5_behind_104 : decode cX5_behind 104 = .ok (.aload_n 0, 1) := by decide +kernel
theorem dX5_behind_105 : decode cX5_behind 105 = .ok (.iload_n 3, 1) := by decide +kernel
theorem dX5_behind_106 : decode cX5_behind 106 = .ok (.iconst 1, 1) := by decide +kernel
theorem dX5_behind_107 : decode cX5_behind 107 = .ok (.isub, 1) := by decide +kernel
theorem dX5_behind_108 : decode cX5_behind 108 = .ok (.invokevirtual 243, 3) := by decide +kernel
theorem dX5_behind_111 : decode cX5_behind 111 = .ok (.istore 4, 2) := by decide +kernel
theorem dX5_behind_113 : decode cX5_behind 113 = .ok (.aload_n 0, 1) := by decide +kernel
theorem dX5_behind_114 : decode cX5_behind 114 = .ok (.getfield 13, 3) := by decide +kernel
theorem dX5_behind_117 : decode cX5_behind 117 = .ok (.iconst 0, 1) := by decide +kernel
theorem dX5_behind_118 : decode cX5_behind 118 = .ok (.aload_n 0, 1) := by decide +kernel
theorem dX5_behind_119 : decode cX5_behind 119 = .ok (.getfield 7, 3) := by decide +kernel
theorem dX5_behind_122 : decode cX5_behind 122 = .ok (.iconst 0, 1) := by decide +kernel
theorem dX5_behind_123 : decode cX5_behind 123 = .ok (.invokestatic 180, 3) := by decide +kernel
theorem dX5_behind_126 : decode cX5_behind 126 = .ok (.iload 4, 2) := by decide +kernel
theorem dX5_behind_128 : decode cX5_behind 128 = .ok (.ireturn, 1) := by decide +kernel
theorem dX5_count_0 : decode cX5_count 0 = .ok (.aload_n 0, 1) := by decide +kernel
theorem dX5_count_1 : decode cX5_count 1 = .ok (.iload_n 1, 1) := by decide +kernel
theorem dX5_count_2 : decode cX5_count 2 = .ok (.iconst 0, 1) := by decide +kernel
theorem dX5_count_3 : decode cX5_count 3 = .ok (.bipush 15, 2) := by decide +kernel
theorem dX5_count_5 : decode cX5_count 5 = .ok (.invokestatic 144, 3) := by decide +kernel
theorem dX5_count_8 : decode cX5_count 8 = .ok (.ifCond .eq 7, 3) := by decide +kernel
theorem dX5_count_11 : decode cX5_count 11 = .ok (.iconst 0, 1) := by decide +kernel
theorem dX5_count_12 : decode cX5_count 12 = .ok (.goto 4, 3) := by decide +kernel
theorem dX5_count_15 : decode cX5_count 15 = .ok (.iconst 1, 1) := by decide +kernel
theorem dX5_count_16 : decode cX5_count 16 = .ok (.putfield 55, 3) := by decide +kernel
theorem dX5_count_19 : decode cX5_count 19 = .ok (.aload_n 0, 1) := by decide +kernel
theorem dX5_count_20 : decode cX5_count 20 = .ok (.getfield 55, 3) := by decide +kernel
theorem dX5_count_23 : decode cX5_count 23 = .ok (.ifCond .le 7, 3) := by decide +kernel
theorem dX5_count_26 : decode cX5_count 26 = .ok (.iconst (-1), 1) := by decide +kernel
theorem dX5_count_27 : decode cX5_count 27 = .ok (.goto 4, 3) := by decide +kernel
theorem dX5_count_30 : decode cX5_count 30 = .ok (.iload_n 1, 1) := by decide +kernel
theorem dX5_count_31 : decode cX5_count 31 = .ok (.tableswitch 166 (-1) 15 #[81, 166, 166, 166, 166, 166, 166, 166, 166, 83, 103, 111, 116, 132, 140, 145, 158], 81) := by decide +kernel
theorem dX5_count_112 : decode cX5_count 112 = .ok (.iconst 0, 1) := by decide +kernel
theorem dX5_count_113 : decode cX5_count 113 = .ok (.ireturn, 1) := by decide +kernel
theorem dX5_count_114 : decode cX5_count 114 = .ok (.aload_n 0, 1) := by decide +kernel
theorem dX5_count_115 : decode cX5_count 115 = .ok (.getfield 7, 3) := by decide +kernel
theorem dX5_count_118 : decode cX5_count 118 = .ok (.bipush 8, 2) := by decide +kernel
theorem dX5_count_120 : decode cX5_count 120 = .ok (.iaload, 1) := by decide +kernel
theorem dX5_count_121 : decode cX5_count 121 = .ok (.iconst 1, 1) := by decide +kernel
theorem dX5_count_122 : decode cX5_count 122 = .ok (.if_icmp .ne 7, 3) := by decide +kernel
theorem dX5_count_125 : decode cX5_count 125 = .ok (.iconst (-1), 1) := by decide +kernel
theorem dX5_count_126 : decode cX5_count 126 = .ok (.goto 7, 3) := by decide +kernel
theorem dX5_count_129 : decode cX5_count 129 = .ok (.aload_n 0, 1) := by decide +kernel
theorem dX5_count_130 : decode cX5_count 130 = .ok (.invokevirtual 152, 3) := by decide +kernel
theorem dX5_count_133 : decode cX5_count 133 = .ok (.ireturn, 1) := by decide +kernel
theorem dX5_count_134 : decode cX5_count 134 = .ok (.aload_n 0, 1) := by decide +kernel
theorem dX5_count_135 : decode cX5_count 135 = .ok (.getfield 7, 3) := by decide +kernel
theorem dX5_count_138 : decode cX5_count 138 = .ok (.bipush 8, 2) := by decide +kernel
theorem dX5_count_140 : decode cX5_count 140 = .ok (.iaload, 1) := by decide +kernel
theorem dX5_count_141 : decode cX5_count 141 = .ok (.ireturn, 1) := by decide +kernel
theorem dX5_count_142 : decode cX5_count 142 = .ok (.aload_n 0, 1) := by decide +kernel
theorem dX5_count_143 : decode cX5_count 143 = .ok (.invokevirtual 215, 3) := by decide +kernel
theorem dX5_count_146 : decode cX5_count 146 = .ok (.ireturn, 1) := by decide +kernel
theorem dX5_count_147 : decode cX5_count 147 = .ok (.aload_n 0, 1) := by decide +kernel
theorem dX5_count_148 : decode cX5_count 148 = .ok (.getfield 7, 3) := by decide +kernel
theorem dX5_count_151 : decode cX5_count 151 = .ok (.bipush 97, 2) := by decide +kernel
theorem dX5_count_153 : decode cX5_count 153 = .ok (.iaload, 1) := by decide +kernel
theorem dX5_count_154 : decode cX5_count 154 = .ok (.aload_n 0, 1) := by decide +kernel
theorem dX5_count_155 : decode cX5_count 155 = .ok (.getfield 7, 3) := by decide +kernel
theorem dX5_count_158 : decode cX5_count 158 = .ok (.bipush 98, 2) := by decide +kernel
theorem dX5_count_160 : decode cX5_count 160 = .ok (.iaload, 1) := by decide +kernel
theorem dX5_count_161 : decode cX5_count 161 = .ok (.iadd, 1) := by decide +kernel
theorem dX5_count_162 : decode cX5_count 162 = .ok (.ireturn, 1) := by decide +kernel
theorem dX5_count_163 : decode cX5_count 163 = .ok (.aload_n 0, 1) := by decide +kernel
theorem dX5_count_164 : decode cX5_count 164 = .ok (.getfield 7, 3) := by decide +kernel
theorem dX5_count_167 : decode cX5_count 167 = .ok (.bipush 99, 2) := by decide +kernel
theorem dX5_count_169 : decode cX5_count 169 = .ok (.iaload, 1) := by decide +kernel
theorem dX5_count_170 : decode cX5_count 170 = .ok (.ireturn, 1) := by decide +kernel
theorem dX5_count_171 : decode cX5_count 171 = .ok (.aload_n 0, 1) := by decide +kernel
theorem dX5_count_172 : decode cX5_count 172 = .ok (.getfield 177, 3) := by decide +kernel
theorem dX5_count_175 : decode cX5_count 175 = .ok (.ireturn, 1) := by decide +kernel
theorem dX5_count_176 : decode cX5_count 176 = .ok (.aload_n 0, 1) := by decide +kernel
theorem dX5_count_177 : decode cX5_count 177 = .ok (.invokevirtual 187, 3) := by decide +kernel
theorem dX5_count_180 : decode cX5_count 180 = .ok (.ifCond .eq 7, 3) := by decide +kernel
theorem dX5_count_183 : decode cX5_count 183 = .ok (.iconst 1, 1) := by decide +kernel
theorem dX5_count_184 : decode cX5_count 184 = .ok (.goto 4, 3) := by decide +kernel
theorem dX5_count_187 : decode cX5_count 187 = .ok (.iconst 0, 1) := by decide +kernel
theorem dX5_count_188 : decode cX5_count 188 = .ok (.ireturn, 1) := by decide +kernel
theorem dX5_count_189 : decode cX5_count 189 = .ok (.aload_n 0, 1) := by decide +kernel
theorem dX5_count_190 : decode cX5_count 190 = .ok (.getfield 7, 3) := by decide +kernel
theorem dX5_count_193 : decode cX5_count 193 = .ok (.bipush 9, 2) := by decide +kernel
theorem dX5_count_195 : decode cX5_count 195 = .ok (.iaload, 1) := by decide +kernel
theorem dX5_count_196 : decode cX5_count 196 = .ok (.ireturn, 1) := by decide +kernel
theorem dX5_count_197 : decode cX5_count 197 = .ok (.aload_n 0, 1) := by decide +kernel
theorem dX5_count_198 : decode cX5_count 198 = .ok (.getfield 7, 3) := by decide +kernel
theorem dX5_count_201 : decode cX5_count 201 = .ok (.iload_n 1, 1) := by decide +kernel
theorem dX5_count_202 : decode cX5_count 202 = .ok (.iaload, 1) := by decide +kernel
theorem dX5_count_203 : decode cX5_count 203 = .ok (.ireturn, 1) := by decide +kernel
theorem dX5_power_0 : decode cX5_power 0 = .ok (.aload_n 0, 1) := by decide +kernel
theorem dX5_power_1 : decode cX5_power 1 = .ok (.aload_n 0, 1) := by decide +kernel
theorem dX5_power_2 : decode cX5_power 2 = .ok (.iload_n 1, 1) := by decide +kernel
theorem dX5_power_3 : decode cX5_power 3 = .ok (.invokevirtual 231, 3) := by decide +kernel
theorem dX5_power_6 : decode cX5_power 6 = .ok (.ifCond .ne 7, 3) := by decide +kernel
theorem dX5_power_9 : decode cX5_power 9 = .ok (.iconst 1, 1) := by decide +kernel
theorem dX5_power_10 : decode cX5_power 10 = .ok (.goto 17, 3) := by decide +kernel
theorem dX5_power_13 : decode cX5_power 13 = .ok (.iload_n 2, 1) := by decide +kernel
theorem dX5_power_14 : decode cX5_power 14 = .ok (.iconst 0, 1) := by decide +kernel
theorem dX5_power_15 : decode cX5_power 15 = .ok (.iconst 4, 1) := by decide +kernel
theorem dX5_power_16 : decode cX5_power 16 = .ok (.invokestatic 144, 3) := by decide +kernel
theorem dX5_power_19 : decode cX5_power 19 = .ok (.ifCond .eq 7, 3) := by decide +kernel
theorem dX5_power_22 : decode cX5_power 22 = .ok (.iconst 0, 1) := by decide +kernel
theorem dX5_power_23 : decode cX5_power 23 = .ok (.goto 4, 3) := by decide +kernel
theorem dX5_power_26 : decode cX5_power 26 = .ok (.iconst 2, 1) := by decide +kernel
theorem dX5_power_27 : decode cX5_power 27 = .ok (.putfield 55, 3) := by decide +kernel
theorem dX5_power_30 : decode cX5_power 30 = .ok (.aload_n 0, 1) := by decide +kernel
theorem dX5_power_31 : decode cX5_power 31 = .ok (.getfield 55, 3) := by decide +kernel
theorem dX5_power_34 : decode cX5_power 34 = .ok (.ifCond .le 7, 3) := by decide +kernel
theorem dX5_power_37 : decode cX5_power 37 = .ok (.iconst (-1), 1) := by decide +kernel
theorem dX5_power_38 : decode cX5_power 38 = .ok (.goto 4, 3) := by decide +kernel
theorem dX5_power_41 : decode cX5_power 41 = .ok (.iload_n 2, 1) := by decide +kernel
theorem dX5_power_42 : decode cX5_power 42 = .ok (.tableswitch 80 (-1) 3 #[34, 36, 46, 60, 70], 34) := by decide +kernel
theorem dX5_power_76 : decode cX5_power 76 = .ok (.iconst 0, 1) := by decide +kernel
theorem dX5_power_77 : decode cX5_power 77 = .ok (.ireturn, 1) := by decide +kernel
theorem dX5_power_78 : decode cX5_power 78 = .ok (.aload_n 0, 1) := by decide +kernel
theorem dX5_power_79 : decode cX5_power 79 = .ok (.getfield 7, 3) := by decide +kernel
theorem dX5_power_82 : decode cX5_power 82 = .ok (.bipush 11, 2) := by decide +kernel
theorem dX5_power_84 : decode cX5_power 84 = .ok (.iload_n 1, 1) := by decide +kernel
theorem dX5_power_85 : decode cX5_power 85 = .ok (.iadd, 1) := by decide +kernel
theorem dX5_power_86 : decode cX5_power 86 = .ok (.iaload, 1) := by decide +kernel
theorem dX5_power_87 : decode cX5_power 87 = .ok (.ireturn, 1) := by decide +kernel
theorem dX5_power_88 : decode cX5_power 88 = .ok (.aload_n 0, 1) := by decide +kernel
theorem dX5_power_89 : decode cX5_power 89 = .ok (.iload_n 1, 1) := by decide +kernel
theorem dX5_power_90 : decode cX5_power 90 = .ok (.invokevirtual 148, 3) := by decide +kernel
theorem dX5_power_93 : decode cX5_power 93 = .ok (.ifCond .eq 7, 3) := by decide +kernel
theorem dX5_power_96 : decode cX5_power 96 = .ok (.iconst 1, 1) := by decide +kernel
theorem dX5_power_97 : decode cX5_power 97 = .ok (.goto 4, 3) := by decide +kernel
theorem dX5_power_100 : decode cX5_power 100 = .ok (.iconst 0, 1) := by decide +kernel
theorem dX5_power_101 : decode cX5_power 101 = .ok (.ireturn, 1) := by decide +kernel
theorem dX5_power_102 : decode cX5_power 102 = .ok (.aload_n 0, 1) := by decide +kernel
theorem dX5_power_103 : decode cX5_power 103 = .ok (.getfield 7, 3) := by decide +kernel
theorem dX5_power_106 : decode cX5_power 106 = .ok (.bipush 20, 2) := by decide +kernel
theorem dX5_power_108 : decode cX5_power 108 = .ok (.iload_n 1, 1) := by decide +kernel
theorem dX5_power_109 : decode cX5_power 109 = .ok (.iadd, 1) := by decide +kernel
theorem dX5_power_110 : decode cX5_power 110 = .ok (.iaload, 1) := by decide +kernel
theorem dX5_power_111 : decode cX5_power 111 = .ok (.ireturn, 1) := by decide +kernel
theorem dX5_power_112 : decode cX5_power 112 = .ok (.aload_n 0, 1) := by decide +kernel
theorem dX5_power_113 : decode cX5_power 113 = .ok (.getfield 7, 3) := by decide +kernel
theorem dX5_power_116 : decode cX5_power 116 = .ok (.bipush 29, 2) := by decide +kernel
theorem dX5_power_118 : decode cX5_power 118 = .ok (.iload_n 1, 1) := by decide +kernel
theorem dX5_power_119 : decode cX5_power 119 = .ok (.iadd, 1) := by decide +kernel
theorem dX5_power_120 : decode cX5_power 120 = .ok (.iaload, 1) := by decide +kernel
theorem dX5_power_121 : decode cX5_power 121 = .ok (.ireturn, 1) := by decide +kernel
theorem dX5_power_122 : decode cX5_power 122 = .ok (.aload_n 0, 1) := by decide +kernel
theorem dX5_power_123 : decode cX5_power 123 = .ok (.getfield 7, 3) := by decide +kernel
theorem dX5_power_126 : decode cX5_power 126 = .ok (.bipush 38, 2) := by decide +kernel
theorem dX5_power_128 : decode cX5_power 128 = .ok (.iload_n 1, 1) := by decide +kernel
theorem dX5_power_129 : decode cX5_power 129 = .ok (.iadd, 1) := by decide +kernel
theorem dX5_power_130 : decode cX5_power 130 = .ok (.iaload, 1) := by decide +kernel
theorem dX5_power_131 : decode cX5_power 131 = .ok (.ireturn, 1) := by decide +kernel
theorem dX5_isPlayer_0 : decode cX5_isPlayer 0 = .ok (.iload_n 0, 1) := by decide +kernel
theorem dX5_isPlayer_1 : decode cX5_isPlayer 1 = .ok (.iconst 0, 1) := by decide +kernel
theorem dX5_isPlayer_2 : decode cX5_isPlayer 2 = .ok (.iconst 1, 1) := by decide +kernel
theorem dX5_isPlayer_3 : decode cX5_isPlayer 3 = .ok (.invokestatic 144, 3) := by decide +kernel
theorem dX5_isPlayer_6 : decode cX5_isPlayer 6 = .ok (.ireturn, 1) := by decide +kernel
theorem dX5_claimOf_0 : decode cX5_claimOf 0 = .ok (.aload_n 0, 1) := by decide +kernel
theorem dX5_claimOf_1 : decode cX5_claimOf 1 = .ok (.iload_n 1, 1) := by decide +kernel
theorem dX5_claimOf_2 : decode cX5_claimOf 2 = .ok (.invokestatic 246, 3) := by decide +kernel
theorem dX5_claimOf_5 : decode cX5_claimOf 5 = .ok (.ifCond .eq 7, 3) := by decide +kernel
theorem dX5_claimOf_8 : decode cX5_claimOf 8 = .ok (.iload_n 2, 1) := by decide +kernel
theorem dX5_claimOf_9 : decode cX5_claimOf 9 = .ok (.ifCond .ge 7, 3) := by decide +kernel
theorem dX5_claimOf_12 : decode cX5_claimOf 12 = .ok (.iconst 1, 1) := by decide +kernel
theorem dX5_claimOf_13 : decode cX5_claimOf 13 = .ok (.goto 18, 3) := by decide +kernel
theorem dX5_claimOf_16 : decode cX5_claimOf 16 = .ok (.iload_n 3, 1) := by decide +kernel
theorem dX5_claimOf_17 : decode cX5_claimOf 17 = .ok (.iconst 0, 1) := by decide +kernel
theorem dX5_claimOf_18 : decode cX5_claimOf 18 = .ok (.bipush 6, 2) := by decide +kernel
theorem dX5_claimOf_20 : decode cX5_claimOf 20 = .ok (.invokestatic 144, 3) := by decide +kernel
theorem dX5_claimOf_23 : decode cX5_claimOf 23 = .ok (.ifCond .eq 7, 3) := by decide +kernel
theorem dX5_claimOf_26 : decode cX5_claimOf 26 = .ok (.iconst 0, 1) := by decide +kernel
theorem dX5_claimOf_27 : decode cX5_claimOf 27 = .ok (.goto 4, 3) := by decide +kernel
theorem dX5_claimOf_30 : decode cX5_claimOf 30 = .ok (.iconst 2, 1) := by decide +kernel
theorem dX5_claimOf_31 : decode cX5_claimOf 31 = .ok (.putfield 55, 3) := by decide +kernel
theorem dX5_claimOf_34 : decode cX5_claimOf 34 = .ok (.aload_n 0, 1) := by decide +kernel
theorem dX5_claimOf_35 : decode cX5_claimOf 35 = .ok (.getfield 55, 3) := by decide +kernel
theorem dX5_claimOf_38 : decode cX5_claimOf 38 = .ok (.ifCond .le 5, 3) := by decide +kernel
theorem dX5_claimOf_41 : decode cX5_claimOf 41 = .ok (.iconst 0, 1) := by decide +kernel
theorem dX5_claimOf_42 : decode cX5_claimOf 42 = .ok (.ireturn, 1) := by decide +kernel
theorem dX5_claimOf_43 : decode cX5_claimOf 43 = .ok (.iload_n 2, 1) := by decide +kernel
theorem dX5_claimOf_44 : decode cX5_claimOf 44 = .ok (.aload_n 0, 1) := by decide +kernel
theorem dX5_claimOf_45 : decode cX5_claimOf 45 = .ok (.iload_n 1, 1) := by decide +kernel
theorem dX5_claimOf_46 : decode cX5_claimOf 46 = .ok (.invokevirtual 155, 3) := by decide +kernel
theorem dX5_claimOf_49 : decode cX5_claimOf 49 = .ok (.if_icmp .lt 5, 3) := by decide +kernel
theorem dX5_claimOf_52 : decode cX5_claimOf 52 = .ok (.iconst (-1), 1) := by decide +kernel
theorem dX5_claimOf_53 : decode cX5_claimOf 53 = .ok (.ireturn, 1) := by decide +kernel
theorem dX5_claimOf_54 : decode cX5_claimOf 54 = .ok (.iload_n 1, 1) := by decide +kernel
theorem dX5_claimOf_55 : decode cX5_claimOf 55 = .ok (.iload_n 2, 1) := by decide +kernel
theorem dX5_claimOf_56 : decode cX5_claimOf 56 = .ok (.invokestatic 158, 3) := by decide +kernel
theorem dX5_claimOf_59 : decode cX5_claimOf 59 = .ok (.istore 4, 2) := by decide +kernel
theorem dX5_claimOf_61 : decode cX5_claimOf 61 = .ok (.iload_n 3, 1) := by decide +kernel
theorem dX5_claimOf_62 : decode cX5_claimOf 62 = .ok (.iconst 5, 1) := by decide +kernel
theorem dX5_claimOf_63 : decode cX5_claimOf 63 = .ok (.if_icmp .ne 22, 3) := by decide +kernel
theorem dX5_claimOf_66 : decode cX5_claimOf 66 = .ok (.aload_n 0, 1) := by decide +kernel
theorem dX5_claimOf_67 : decode cX5_claimOf 67 = .ok (.invokevirtual 126, 3) := by decide +kernel
theorem dX5_claimOf_70 : decode cX5_claimOf 70 = .ok (.aload_n 0, 1) := by decide +kernel
theorem dX5_claimOf_71 : decode cX5_claimOf 71 = .ok (.iload 4, 2) := by decide +kernel
theorem dX5_claimOf_73 : decode cX5_claimOf 73 = .ok (.invokevirtual 161, 3) := by decide +kernel
theorem dX5_claimOf_76 : decode cX5_claimOf 76 = .ok (.ifCond .eq 7, 3) := by decide +kernel
theorem dX5_claimOf_79 : decode cX5_claimOf 79 = .ok (.iconst 1, 1) := by decide +kernel
theorem dX5_claimOf_80 : decode cX5_claimOf 80 = .ok (.goto 4, 3) := by decide +kernel
theorem dX5_claimOf_83 : decode cX5_claimOf 83 = .ok (.iconst 0, 1) := by decide +kernel
theorem dX5_claimOf_84 : decode cX5_claimOf 84 = .ok (.ireturn, 1) := by decide +kernel
theorem dX5_claimOf_85 : decode cX5_claimOf 85 = .ok (.aload_n 0, 1) := by decide +kernel
theorem dX5_claimOf_86 : decode cX5_claimOf 86 = .ok (.getfield 7, 3) := by decide +kernel
theorem dX5_claimOf_89 : decode cX5_claimOf 89 = .ok (.iload 4, 2) := by decide +kernel
theorem dX5_claimOf_91 : decode cX5_claimOf 91 = .ok (.iload_n 3, 1) := by decide +kernel
theorem dX5_claimOf_92 : decode cX5_claimOf 92 = .ok (.bipush 6, 2) := by decide +kernel
theorem dX5_claimOf_94 : decode cX5_claimOf 94 = .ok (.if_icmp .ne 7, 3) := by decide +kernel
theorem dX5_claimOf_97 : decode cX5_claimOf 97 = .ok (.iconst 5, 1) := by decide +kernel
theorem dX5_claimOf_98 : decode cX5_claimOf 98 = .ok (.goto 4, 3) := by decide +kernel
theorem dX5_claimOf_101 : decode cX5_claimOf 101 = .ok (.iload_n 3, 1) := by decide +kernel
theorem dX5_claimOf_102 : decode cX5_claimOf 102 = .ok (.iadd, 1) := by decide +kernel
theorem dX5_claimOf_103 : decode cX5_claimOf 103 = .ok (.iaload, 1) := by decide +kernel
theorem dX5_claimOf_104 : decode cX5_claimOf 104 = .ok (.ireturn, 1) := by decide +kernel
theorem dX5_player_0 : decode cX5_player 0 = .ok (.aload_n 0, 1) := by decide +kernel
theorem dX5_player_1 : decode cX5_player 1 = .ok (.iload_n 1, 1) := by decide +kernel
theorem dX5_player_2 : decode cX5_player 2 = .ok (.invokestatic 246, 3) := by decide +kernel
theorem dX5_player_5 : decode cX5_player 5 = .ok (.ifCond .ne 7, 3) := by decide +kernel
theorem dX5_player_8 : decode cX5_player 8 = .ok (.iconst 1, 1) := by decide +kernel
theorem dX5_player_9 : decode cX5_player 9 = .ok (.goto 18, 3) := by decide +kernel
theorem dX5_player_12 : decode cX5_player 12 = .ok (.iload_n 2, 1) := by decide +kernel
theorem dX5_player_13 : decode cX5_player 13 = .ok (.iconst 0, 1) := by decide +kernel
theorem dX5_player_14 : decode cX5_player 14 = .ok (.bipush 7, 2) := by decide +kernel
theorem dX5_player_16 : decode cX5_player 16 = .ok (.invokestatic 144, 3) := by decide +kernel
theorem dX5_player_19 : decode cX5_player 19 = .ok (.ifCond .eq 7, 3) := by decide +kernel
theorem dX5_player_22 : decode cX5_player 22 = .ok (.iconst 0, 1) := by decide +kernel
theorem dX5_player_23 : decode cX5_player 23 = .ok (.goto 4, 3) := by decide +kernel
theorem dX5_player_26 : decode cX5_player 26 = .ok (.iconst 2, 1) := by decide +kernel
theorem dX5_player_27 : decode cX5_player 27 = .ok (.putfield 55, 3) := by decide +kernel
theorem dX5_player_30 : decode cX5_player 30 = .ok (.aload_n 0, 1) := by decide +kernel
theorem dX5_player_31 : decode cX5_player 31 = .ok (.getfield 55, 3) := by decide +kernel
theorem dX5_player_34 : decode cX5_player 34 = .ok (.ifCond .le 7, 3) := by decide +kernel
theorem dX5_player_37 : decode cX5_player 37 = .ok (.iconst (-1), 1) := by decide +kernel
theorem dX5_player_38 : decode cX5_player 38 = .ok (.goto 4, 3) := by decide +kernel
theorem dX5_player_41 : decode cX5_player 41 = .ok (.iload_n 2, 1) := by decide +kernel
theorem dX5_player_42 : decode cX5_player 42 = .ok (.tableswitch 90 (-1) 6 #[46, 48, 54, 60, 66, 72, 78, 84], 46) := by decide +kernel
theorem dX5_player_88 : decode cX5_player 88 = .ok (.iconst 0, 1) := by decide +kernel
theorem dX5_player_89 : decode cX5_player 89 = .ok (.ireturn, 1) := by decide +kernel
theorem dX5_player_90 : decode cX5_player 90 = .ok (.aload_n 0, 1) := by decide +kernel
theorem dX5_player_91 : decode cX5_player 91 = .ok (.iload_n 1, 1) := by decide +kernel
theorem dX5_player_92 : decode cX5_player 92 = .ok (.invokevirtual 243, 3) := by decide +kernel
theorem dX5_player_95 : decode cX5_player 95 = .ok (.ireturn, 1) := by decide +kernel
theorem dX5_player_96 : decode cX5_player 96 = .ok (.aload_n 0, 1) := by decide +kernel
theorem dX5_player_97 : decode cX5_player 97 = .ok (.iload_n 1, 1) := by decide +kernel
theorem dX5_player_98 : decode cX5_player 98 = .ok (.invokevirtual 168, 3) := by decide +kernel
theorem dX5_player_101 : decode cX5_player 101 = .ok (.ireturn, 1) := by decide +kernel
theorem dX5_player_102 : decode cX5_player 102 = .ok (.aload_n 0, 1) := by decide +kernel
theorem dX5_player_103 : decode cX5_player 103 = .ok (.iload_n 1, 1) := by decide +kernel
theorem dX5_player_104 : decode cX5_player 104 = .ok (.invokevirtual 171, 3) := by decide +kernel
theorem dX5_player_107 : decode cX5_player 107 = .ok (.ireturn, 1) := by decide +kernel
theorem dX5_player_108 : decode cX5_player 108 = .ok (.aload_n 0, 1) := by decide +kernel
theorem dX5_player_109 : decode cX5_player 109 = .ok (.iload_n 1, 1) := by decide +kernel
theorem dX5_player_110 : decode cX5_player 110 = .ok (.invokevirtual 174, 3) := by decide +kernel
theorem dX5_player_113 : decode cX5_player 113 = .ok (.ireturn, 1) := by decide +kernel
theorem dX5_player_114 : decode cX5_player 114 = .ok (.aload_n 0, 1) := by decide +kernel
theorem dX5_player_115 : decode cX5_player 115 = .ok (.iload_n 1, 1) := by decide +kernel
theorem dX5_player_116 : decode cX5_player 116 = .ok (.invokevirtual 155, 3) := by decide +kernel
theorem dX5_player_119 : decode cX5_player 119 = .ok (.ireturn, 1) := by decide +kernel
theorem dX5_player_120 : decode cX5_player 120 = .ok (.aload_n 0, 1) := by decide +kernel
theorem dX5_player_121 : decode cX5_player 121 = .ok (.iload_n 1, 1) := by decide +kernel
theorem dX5_player_122 : decode cX5_player 122 = .ok (.invokevirtual 191, 3) := by decide +kernel
theorem dX5_player_125 : decode cX5_player 125 = .ok (.ireturn, 1) := by decide +kernel
theorem dX5_player_126 : decode cX5_player 126 = .ok (.aload_n 0, 1) := by decide +kernel
theorem dX5_player_127 : decode cX5_player 127 = .ok (.iload_n 1, 1) := by decide +kernel
theorem dX5_player_128 : decode cX5_player 128 = .ok (.invokevirtual 249, 3) := by decide +kernel
theorem dX5_player_131 : decode cX5_player 131 = .ok (.ireturn, 1) := by decide +kernel
theorem dX5_player_132 : decode cX5_player 132 = .ok (.aload_n 0, 1) := by decide +kernel
theorem dX5_player_133 : decode cX5_player 133 = .ok (.getfield 7, 3) := by decide +kernel
theorem dX5_player_136 : decode cX5_player 136 = .ok (.bipush 97, 2) := by decide +kernel
theorem dX5_player_138 : decode cX5_player 138 = .ok (.iload_n 1, 1) := by decide +kernel
theorem dX5_player_139 : decode cX5_player 139 = .ok (.iadd, 1) := by decide +kernel
theorem dX5_player_140 : decode cX5_player 140 = .ok (.iaload, 1) := by decide +kernel
theorem dX5_player_141 : decode cX5_player 141 = .ok (.ireturn, 1) := by decide +kernel
theorem dX5_winner_0 : decode cX5_winner 0 = .ok (.aload_n 0, 1) := by decide +kernel
theorem dX5_winner_1 : decode cX5_winner 1 = .ok (.iconst 0, 1) := by decide +kernel
theorem dX5_winner_2 : decode cX5_winner 2 = .ok (.putfield 55, 3) := by decide +kernel
theorem dX5_winner_5 : decode cX5_winner 5 = .ok (.aload_n 0, 1) := by decide +kernel
theorem dX5_winner_6 : decode cX5_winner 6 = .ok (.getfield 7, 3) := by decide +kernel
theorem dX5_winner_9 : decode cX5_winner 9 = .ok (.bipush 8, 2) := by decide +kernel
theorem dX5_winner_11 : decode cX5_winner 11 = .ok (.iaload, 1) := by decide +kernel
theorem dX5_winner_12 : decode cX5_winner 12 = .ok (.ifCond .ne 5, 3) := by decide +kernel
theorem dX5_winner_15 : decode cX5_winner 15 = .ok (.iconst (-1), 1) := by decide +kernel
theorem dX5_winner_16 : decode cX5_winner 16 = .ok (.ireturn, 1) := by decide +kernel
theorem dX5_winner_17 : decode cX5_winner 17 = .ok (.aload_n 0, 1) := by decide +kernel
theorem dX5_winner_18 : decode cX5_winner 18 = .ok (.iconst 0, 1) := by decide +kernel
theorem dX5_winner_19 : decode cX5_winner 19 = .ok (.invokevirtual 243, 3) := by decide +kernel
theorem dX5_winner_22 : decode cX5_winner 22 = .ok (.istore_n 1, 1) := by decide +kernel
theorem dX5_winner_23 : decode cX5_winner 23 = .ok (.aload_n 0, 1) := by decide +kernel
theorem dX5_winner_24 : decode cX5_winner 24 = .ok (.iconst 1, 1) := by decide +kernel
theorem dX5_winner_25 : decode cX5_winner 25 = .ok (.invokevirtual 243, 3) := by decide +kernel
theorem dX5_winner_28 : decode cX5_winner 28 = .ok (.istore_n 2, 1) := by decide +kernel
theorem dX5_winner_29 : decode cX5_winner 29 = .ok (.iload_n 1, 1) := by decide +kernel
theorem dX5_winner_30 : decode cX5_winner 30 = .ok (.iload_n 2, 1) := by decide +kernel
theorem dX5_winner_31 : decode cX5_winner 31 = .ok (.if_icmp .le 7, 3) := by decide +kernel
theorem dX5_winner_34 : decode cX5_winner 34 = .ok (.iconst 0, 1) := by decide +kernel
theorem dX5_winner_35 : decode cX5_winner 35 = .ok (.goto 13, 3) := by decide +kernel
theorem dX5_winner_38 : decode cX5_winner 38 = .ok (.iload_n 1, 1) := by decide +kernel
theorem dX5_winner_39 : decode cX5_winner 39 = .ok (.iload_n 2, 1) := by decide +kernel
theorem dX5_winner_40 : decode cX5_winner 40 = .ok (.if_icmp .ge 7, 3) := by decide +kernel
theorem dX5_winner_43 : decode cX5_winner 43 = .ok (.iconst 1, 1) := by decide +kernel
theorem dX5_winner_44 : decode cX5_winner 44 = .ok (.goto 4, 3) := by decide +kernel
theorem dX5_winner_47 : decode cX5_winner 47 = .ok (.iconst 2, 1) := by decide +kernel
theorem dX5_winner_48 : decode cX5_winner 48 = .ok (.ireturn, 1) := by decide +kernel
theorem dX5_account_0 : decode cX5_account 0 = .ok (.aload_n 0, 1) := by decide +kernel
theorem dX5_account_1 : decode cX5_account 1 = .ok (.iload_n 1, 1) := by decide +kernel
theorem dX5_account_2 : decode cX5_account 2 = .ok (.iconst 0, 1) := by decide +kernel
theorem dX5_account_3 : decode cX5_account 3 = .ok (.bipush 8, 2) := by decide +kernel
theorem dX5_account_5 : decode cX5_account 5 = .ok (.invokestatic 144, 3) := by decide +kernel
theorem dX5_account_8 : decode cX5_account 8 = .ok (.ifCond .eq 7, 3) := by decide +kernel
theorem dX5_account_11 : decode cX5_account 11 = .ok (.iconst 0, 1) := by decide +kernel
theorem dX5_account_12 : decode cX5_account 12 = .ok (.goto 4, 3) := by decide +kernel
theorem dX5_account_15 : decode cX5_account 15 = .ok (.iconst 1, 1) := by decide +kernel
theorem dX5_account_16 : decode cX5_account 16 = .ok (.putfield 55, 3) := by decide +kernel
theorem dX5_account_19 : decode cX5_account 19 = .ok (.aload_n 0, 1) := by decide +kernel
theorem dX5_account_20 : decode cX5_account 20 = .ok (.getfield 55, 3) := by decide +kernel
theorem dX5_account_23 : decode cX5_account 23 = .ok (.ifCond .le 7, 3) := by decide +kernel
theorem dX5_account_26 : decode cX5_account 26 = .ok (.iconst 0, 1) := by decide +kernel
theorem dX5_account_27 : decode cX5_account 27 = .ok (.goto 9, 3) := by decide +kernel
theorem dX5_account_30 : decode cX5_account 30 = .ok (.aload_n 0, 1) := by decide +kernel
theorem dX5_account_31 : decode cX5_account 31 = .ok (.getfield 26, 3) := by decide +kernel
theorem dX5_account_34 : decode cX5_account 34 = .ok (.iload_n 1, 1) := by decide +kernel
theorem dX5_account_35 : decode cX5_account 35 = .ok (.iaload, 1) := by decide +kernel
theorem dX5_account_36 : decode cX5_account 36 = .ok (.ireturn, 1) := by decide +kernel
theorem dX5_degree_0 : decode cX5_degree 0 = .ok (.aload_n 0, 1) := by decide +kernel
theorem dX5_degree_1 : decode cX5_degree 1 = .ok (.iconst 0, 1) := by decide +kernel
theorem dX5_degree_2 : decode cX5_degree 2 = .ok (.putfield 55, 3) := by decide +kernel
theorem dX5_degree_5 : decode cX5_degree 5 = .ok (.aload_n 0, 1) := by decide +kernel
theorem dX5_degree_6 : decode cX5_degree 6 = .ok (.invokevirtual 136, 3) := by decide +kernel
theorem dX5_degree_9 : decode cX5_degree 9 = .ok (.ireturn, 1) := by decide +kernel
theorem dX5_isPlace_0 : decode cX5_isPlace 0 = .ok (.iload_n 0, 1) := by decide +kernel
theorem dX5_isPlace_1 : decode cX5_isPlace 1 = .ok (.bipush (-20), 2) := by decide +kernel
theorem dX5_isPlace_3 : decode cX5_isPlace 3 = .ok (.bipush 20, 2) := by decide +kernel
theorem dX5_isPlace_5 : decode cX5_isPlace 5 = .ok (.invokestatic 144, 3) := by decide +kernel
theorem dX5_isPlace_8 : decode cX5_isPlace 8 = .ok (.ireturn, 1) := by decide +kernel
theorem dX5_value_0 : decode cX5_value 0 = .ok (.aload_n 0, 1) := by decide +kernel
theorem dX5_value_1 : decode cX5_value 1 = .ok (.iload_n 1, 1) := by decide +kernel
theorem dX5_value_2 : decode cX5_value 2 = .ok (.invokestatic 252, 3) := by decide +kernel
theorem dX5_value_5 : decode cX5_value 5 = .ok (.ifCond .eq 7, 3) := by decide +kernel
theorem dX5_value_8 : decode cX5_value 8 = .ok (.iconst 0, 1) := by decide +kernel
theorem dX5_value_9 : decode cX5_value 9 = .ok (.goto 4, 3) := by decide +kernel
theorem dX5_value_12 : decode cX5_value 12 = .ok (.iconst 1, 1) := by decide +kernel
theorem dX5_value_13 : decode cX5_value 13 = .ok (.putfield 55, 3) := by decide +kernel
theorem dX5_value_16 : decode cX5_value 16 = .ok (.aload_n 0, 1) := by decide +kernel
theorem dX5_value_17 : decode cX5_value 17 = .ok (.getfield 55, 3) := by decide +kernel
theorem dX5_value_20 : decode cX5_value 20 = .ok (.ifCond .le 7, 3) := by decide +kernel
theorem dX5_value_23 : decode cX5_value 23 = .ok (.lconst 0, 1) := by decide +kernel
theorem dX5_value_24 : decode cX5_value 24 = .ok (.goto 8, 3) := by decide +kernel
theorem dX5_value_27 : decode cX5_value 27 = .ok (.aload_n 0, 1) := by decide +kernel
theorem dX5_value_28 : decode cX5_value 28 = .ok (.iload_n 1, 1) := by decide +kernel
theorem dX5_value_29 : decode cX5_value 29 = .ok (.invokevirtual 164, 3) := by decide +kernel
theorem dX5_value_32 : decode cX5_value 32 = .ok (.lreturn, 1) := by decide +kernel
theorem dX5_roots_0 : decode cX5_roots 0 = .ok (.aload_n 0, 1) := by decide +kernel
theorem dX5_roots_1 : decode cX5_roots 1 = .ok (.iload_n 1, 1) := by decide +kernel
theorem dX5_roots_2 : decode cX5_roots 2 = .ok (.iload_n 2, 1) := by decide +kernel
theorem dX5_roots_3 : decode cX5_roots 3 = .ok (.invokestatic 204, 3) := by decide +kernel
theorem dX5_roots_6 : decode cX5_roots 6 = .ok (.ifCond .eq 7, 3) := by decide +kernel
theorem dX5_roots_9 : decode cX5_roots 9 = .ok (.iconst 0, 1) := by decide +kernel
theorem dX5_roots_10 : decode cX5_roots 10 = .ok (.goto 4, 3) := by decide +kernel
theorem dX5_roots_13 : decode cX5_roots 13 = .ok (.iconst 1, 1) := by decide +kernel
theorem dX5_roots_14 : decode cX5_roots 14 = .ok (.putfield 55, 3) := by decide +kernel
theorem dX5_roots_17 : decode cX5_roots 17 = .ok (.aload_n 0, 1) := by decide +kernel
theorem dX5_roots_18 : decode cX5_roots 18 = .ok (.getfield 55, 3) := by decide +kernel
theorem dX5_roots_21 : decode cX5_roots 21 = .ok (.ifCond .le 7, 3) := by decide +kernel
theorem dX5_roots_24 : decode cX5_roots 24 = .ok (.iconst 0, 1) := by decide +kernel
theorem dX5_roots_25 : decode cX5_roots 25 = .ok (.goto 9, 3) := by decide +kernel
theorem dX5_roots_28 : decode cX5_roots 28 = .ok (.aload_n 0, 1) := by decide +kernel
theorem dX5_roots_29 : decode cX5_roots 29 = .ok (.iload_n 1, 1) := by decide +kernel
theorem dX5_roots_30 : decode cX5_roots 30 = .ok (.iload_n 2, 1) := by decide +kernel
theorem dX5_roots_31 : decode cX5_roots 31 = .ok (.invokevirtual 255, 3) := by decide +kernel
theorem dX5_roots_34 : decode cX5_roots 34 = .ok (.ireturn, 1) := by decide +kernel
theorem dX5_allRoots_0 : decode cX5_allRoots 0 = .ok (.aload_n 0, 1) := by decide +kernel
theorem dX5_allRoots_1 : decode cX5_allRoots 1 = .ok (.iconst 0, 1) := by decide +kernel
theorem dX5_allRoots_2 : decode cX5_allRoots 2 = .ok (.putfield 55, 3) := by decide +kernel
theorem dX5_allRoots_5 : decode cX5_allRoots 5 = .ok (.aload_n 0, 1) := by decide +kernel
theorem dX5_allRoots_6 : decode cX5_allRoots 6 = .ok (.invokevirtual 222, 3) := by decide +kernel
theorem dX5_allRoots_9 : decode cX5_allRoots 9 = .ok (.ireturn, 1) := by decide +kernel
theorem dX5_rootsOfSign_0 : decode cX5_rootsOfSign 0 = .ok (.aload_n 0, 1) := by decide +kernel
theorem dX5_rootsOfSign_1 : decode cX5_rootsOfSign 1 = .ok (.iload_n 1, 1) := by decide +kernel
theorem dX5_rootsOfSign_2 : decode cX5_rootsOfSign 2 = .ok (.iconst (-1), 1) := by decide +kernel
theorem dX5_rootsOfSign_3 : decode cX5_rootsOfSign 3 = .ok (.iconst 1, 1) := by decide +kernel
theorem dX5_rootsOfSign_4 : decode cX5_rootsOfSign 4 = .ok (.invokestatic 144, 3) := by decide +kernel
theorem dX5_rootsOfSign_7 : decode cX5_rootsOfSign 7 = .ok (.ifCond .eq 7, 3) := by decide +kernel
theorem dX5_rootsOfSign_10 : decode cX5_rootsOfSign 10 = .ok (.iconst 0, 1) := by decide +kernel
theorem dX5_rootsOfSign_11 : decode cX5_rootsOfSign 11 = .ok (.goto 4, 3) := by decide +kernel
theorem dX5_rootsOfSign_14 : decode cX5_rootsOfSign 14 = .ok (.iconst 1, 1) := by decide +kernel
theorem dX5_rootsOfSign_15 : decode cX5_rootsOfSign 15 = .ok (.putfield 55, 3) := by decide +kernel
theorem dX5_rootsOfSign_18 : decode cX5_rootsOfSign 18 = .ok (.aload_n 0, 1) := by decide +kernel
theorem dX5_rootsOfSign_19 : decode cX5_rootsOfSign 19 = .ok (.getfield 55, 3) := by decide +kernel
theorem dX5_rootsOfSign_22 : decode cX5_rootsOfSign 22 = .ok (.ifCond .le 5, 3) := by decide +kernel
theorem dX5_rootsOfSign_25 : decode cX5_rootsOfSign 25 = .ok (.iconst 0, 1) := by decide +kernel
theorem dX5_rootsOfSign_26 : decode cX5_rootsOfSign 26 = .ok (.ireturn, 1) := by decide +kernel
theorem dX5_rootsOfSign_27 : decode cX5_rootsOfSign 27 = .ok (.aload_n 0, 1) := by decide +kernel
theorem dX5_rootsOfSign_28 : decode cX5_rootsOfSign 28 = .ok (.invokevirtual 222, 3) := by decide +kernel
theorem dX5_rootsOfSign_31 : decode cX5_rootsOfSign 31 = .ok (.istore_n 2, 1) := by decide +kernel
theorem dX5_rootsOfSign_32 : decode cX5_rootsOfSign 32 = .ok (.iload_n 2, 1) := by decide +kernel
theorem dX5_rootsOfSign_33 : decode cX5_rootsOfSign 33 = .ok (.iconst (-1), 1) := by decide +kernel
theorem dX5_rootsOfSign_34 : decode cX5_rootsOfSign 34 = .ok (.if_icmp .ne 5, 3) := by decide +kernel
theorem dX5_rootsOfSign_37 : decode cX5_rootsOfSign 37 = .ok (.iconst (-1), 1) := by decide +kernel
theorem dX5_rootsOfSign_38 : decode cX5_rootsOfSign 38 = .ok (.ireturn, 1) := by decide +kernel
theorem dX5_rootsOfSign_39 : decode cX5_rootsOfSign 39 = .ok (.aload_n 0, 1) := by decide +kernel
theorem dX5_rootsOfSign_40 : decode cX5_rootsOfSign 40 = .ok (.getfield 7, 3) := by decide +kernel
theorem dX5_rootsOfSign_43 : decode cX5_rootsOfSign 43 = .ok (.bipush 11, 2) := by decide +kernel
theorem dX5_rootsOfSign_45 : decode cX5_rootsOfSign 45 = .ok (.iaload, 1) := by decide +kernel
theorem dX5_rootsOfSign_46 : decode cX5_rootsOfSign 46 = .ok (.ifCond .ne 7, 3) := by decide +kernel
theorem dX5_rootsOfSign_49 : decode cX5_rootsOfSign 49 = .ok (.iconst 1, 1) := by decide +kernel
theorem dX5_rootsOfSign_50 : decode cX5_rootsOfSign 50 = .ok (.goto 4, 3) := by decide +kernel
theorem dX5_rootsOfSign_53 : decode cX5_rootsOfSign 53 = .ok (.iconst 0, 1) := by decide +kernel
theorem dX5_rootsOfSign_54 : decode cX5_rootsOfSign 54 = .ok (.istore_n 3, 1) := by decide +kernel
theorem dX5_rootsOfSign_55 : decode cX5_rootsOfSign 55 = .ok (.aload_n 0, 1) := by decide +kernel
theorem dX5_rootsOfSign_56 : decode cX5_rootsOfSign 56 = .ok (.iconst 0, 1) := by decide +kernel
theorem dX5_rootsOfSign_57 : decode cX5_rootsOfSign 57 = .ok (.iconst 0, 1) := by decide +kernel
theorem dX5_rootsOfSign_58 : decode cX5_rootsOfSign 58 = .ok (.iconst 1, 1) := by decide +kernel
theorem dX5_rootsOfSign_59 : decode cX5_rootsOfSign 59 = .ok (.invokevirtual 122, 3) := by decide +kernel
theorem dX5_rootsOfSign_62 : decode cX5_rootsOfSign 62 = .ok (.aload_n 0, 1) := by decide +kernel
theorem dX5_rootsOfSign_63 : decode cX5_rootsOfSign 63 = .ok (.iconst 1, 1) := by decide +kernel
theorem dX5_rootsOfSign_64 : decode cX5_rootsOfSign 64 = .ok (.invokevirtual 132, 3) := by decide +kernel
theorem dX5_rootsOfSign_67 : decode cX5_rootsOfSign 67 = .ok (.isub, 1) := by decide +kernel
theorem dX5_rootsOfSign_68 : decode cX5_rootsOfSign 68 = .ok (.istore 4, 2) := by decide +kernel
theorem dX5_rootsOfSign_70 : decode cX5_rootsOfSign 70 = .ok (.iload_n 1, 1) := by decide +kernel
theorem dX5_rootsOfSign_71 : decode cX5_rootsOfSign 71 = .ok (.ifCond .ne 7, 3) := by decide +kernel
theorem dX5_rootsOfSign_74 : decode cX5_rootsOfSign 74 = .ok (.iload_n 3, 1) := by decide +kernel
theorem dX5_rootsOfSign_75 : decode cX5_rootsOfSign 75 = .ok (.goto 18, 3) := by decide +kernel
theorem dX5_rootsOfSign_78 : decode cX5_rootsOfSign 78 = .ok (.iload_n 1, 1) := by decide +kernel
theorem dX5_rootsOfSign_79 : decode cX5_rootsOfSign 79 = .ok (.ifCond .le 8, 3) := by decide +kernel
theorem dX5_rootsOfSign_82 : decode cX5_rootsOfSign 82 = .ok (.iload 4, 2) := by decide +kernel
theorem dX5_rootsOfSign_84 : decode cX5_rootsOfSign 84 = .ok (.goto 9, 3) := by decide +kernel
theorem dX5_rootsOfSign_87 : decode cX5_rootsOfSign 87 = .ok (.iload_n 2, 1) := by decide +kernel
theorem dX5_rootsOfSign_88 : decode cX5_rootsOfSign 88 = .ok (.iload 4, 2) := by decide +kernel
theorem dX5_rootsOfSign_90 : decode cX5_rootsOfSign 90 = .ok (.isub, 1) := by decide +kernel
theorem dX5_rootsOfSign_91 : decode cX5_rootsOfSign 91 = .ok (.iload_n 3, 1) := by decide +kernel
theorem dX5_rootsOfSign_92 : decode cX5_rootsOfSign 92 = .ok (.isub, 1) := by decide +kernel
theorem dX5_rootsOfSign_93 : decode cX5_rootsOfSign 93 = .ok (.ireturn, 1) := by decide +kernel
theorem dX5_multiplicity_0 : decode cX5_multiplicity 0 = .ok (.aload_n 0, 1) := by decide +kernel
theorem dX5_multiplicity_1 : decode cX5_multiplicity 1 = .ok (.iload_n 1, 1) := by decide +kernel
theorem dX5_multiplicity_2 : decode cX5_multiplicity 2 = .ok (.invokestatic 252, 3) := by decide +kernel
theorem dX5_multiplicity_5 : decode cX5_multiplicity 5 = .ok (.ifCond .eq 7, 3) := by decide +kernel
theorem dX5_multiplicity_8 : decode cX5_multiplicity 8 = .ok (.iconst 0, 1) := by decide +kernel
theorem dX5_multiplicity_9 : decode cX5_multiplicity 9 = .ok (.goto 4, 3) := by decide +kernel
theorem dX5_multiplicity_12 : decode cX5_multiplicity 12 = .ok (.iconst 1, 1) := by decide +kernel
theorem dX5_multiplicity_13 : decode cX5_multiplicity 13 = .ok (.putfield 55, 3) := by decide +kernel
theorem dX5_multiplicity_16 : decode cX5_multiplicity 16 = .ok (.aload_n 0, 1) := by decide +kernel
theorem dX5_multiplicity_17 : decode cX5_multiplicity 17 = .ok (.getfield 55, 3) := by decide +kernel
theorem dX5_multiplicity_20 : decode cX5_multiplicity 20 = .ok (.ifCond .gt 10, 3) := by decide +kernel
theorem dX5_multiplicity_23 : decode cX5_multiplicity 23 = .ok (.aload_n 0, 1) := by decide +kernel
theorem dX5_multiplicity_24 : decode cX5_multiplicity 24 = .ok (.invokevirtual 136, 3) := by decide +kernel
theorem dX5_multiplicity_27 : decode cX5_multiplicity 27 = .ok (.ifCond .ge 16, 3) := by decide +kernel
theorem dX5_multiplicity_30 : decode cX5_multiplicity 30 = .ok (.aload_n 0, 1) := by decide +kernel
theorem dX5_multiplicity_31 : decode cX5_multiplicity 31 = .ok (.getfield 55, 3) := by decide +kernel
theorem dX5_multiplicity_34 : decode cX5_multiplicity 34 = .ok (.ifCond .le 7, 3) := by decide +kernel
theorem dX5_multiplicity_37 : decode cX5_multiplicity 37 = .ok (.iconst 0, 1) := by decide +kernel
theorem dX5_multiplicity_38 : decode cX5_multiplicity 38 = .ok (.goto 4, 3) := by decide +kernel
theorem dX5_multiplicity_41 : decode cX5_multiplicity 41 = .ok (.iconst (-1), 1) := by decide +kernel
theorem dX5_multiplicity_42 : decode cX5_multiplicity 42 = .ok (.ireturn, 1) := by decide +kernel
theorem dX5_multiplicity_43 : decode cX5_multiplicity 43 = .ok (.iconst 0, 1) := by decide +kernel
theorem dX5_multiplicity_44 : decode cX5_multiplicity 44 = .ok (.istore_n 2, 1) := by decide +kernel
theorem dX5_multiplicity_45 : decode cX5_multiplicity 45 = .ok (.aload_n 0, 1) := by decide +kernel
theorem dX5_multiplicity_46 : decode cX5_multiplicity 46 = .ok (.iload_n 2, 1) := by decide +kernel
theorem dX5_multiplicity_47 : decode cX5_multiplicity 47 = .ok (.iload_n 1, 1) := by decide +kernel
theorem dX5_multiplicity_48 : decode cX5_multiplicity 48 = .ok (.invokevirtual 140, 3) := by decide +kernel
theorem dX5_multiplicity_51 : decode cX5_multiplicity 51 = .ok (.lconst 0, 1) := by decide +kernel
theorem dX5_multiplicity_52 : decode cX5_multiplicity 52 = .ok (.lcmp, 1) := by decide +kernel
theorem dX5_multiplicity_53 : decode cX5_multiplicity 53 = .ok (.ifCond .ne 9, 3) := by decide +kernel
theorem dX5_multiplicity_56 : decode cX5_multiplicity 56 = .ok (.iinc 2 1, 3) := by decide +kernel
theorem dX5_multiplicity_59 : decode cX5_multiplicity 59 = .ok (.goto (-14), 3) := by decide +kernel
theorem dX5_multiplicity_62 : decode cX5_multiplicity 62 = .ok (.iload_n 2, 1) := by decide +kernel
theorem dX5_multiplicity_63 : decode cX5_multiplicity 63 = .ok (.ireturn, 1) := by decide +kernel
theorem dX5_nearOf_0 : decode cX5_nearOf 0 = .ok (.bipush (-32), 2) := by decide +kernel
theorem dX5_nearOf_2 : decode cX5_nearOf 2 = .ok (.iload_n 2, 1) := by decide +kernel
theorem dX5_nearOf_3 : decode cX5_nearOf 3 = .ok (.ishl, 1) := by decide +kernel
theorem dX5_nearOf_4 : decode cX5_nearOf 4 = .ok (.istore_n 3, 1) := by decide +kernel
theorem dX5_nearOf_5 : decode cX5_nearOf 5 = .ok (.bipush 32, 2) := by decide +kernel
theorem dX5_nearOf_7 : decode cX5_nearOf 7 = .ok (.iload_n 2, 1) := by decide +kernel
theorem dX5_nearOf_8 : decode cX5_nearOf 8 = .ok (.ishl, 1) := by decide +kernel
theorem dX5_nearOf_9 : decode cX5_nearOf 9 = .ok (.istore 4, 2) := by decide +kernel
theorem dX5_nearOf_11 : decode cX5_nearOf 11 = .ok (.aload_n 0, 1) := by decide +kernel
theorem dX5_nearOf_12 : decode cX5_nearOf 12 = .ok (.iconst 0, 1) := by decide +kernel
theorem dX5_nearOf_13 : decode cX5_nearOf 13 = .ok (.invokevirtual 132, 3) := by decide +kernel
theorem dX5_nearOf_16 : decode cX5_nearOf 16 = .ok (.istore 5, 2) := by decide +kernel
theorem dX5_nearOf_18 : decode cX5_nearOf 18 = .ok (.iload 4, 2) := by decide +kernel
theorem dX5_nearOf_20 : decode cX5_nearOf 20 = .ok (.iload_n 3, 1) := by decide +kernel
theorem dX5_nearOf_21 : decode cX5_nearOf 21 = .ok (.isub, 1) := by decide +kernel
theorem dX5_nearOf_22 : decode cX5_nearOf 22 = .ok (.iconst 1, 1) := by decide +kernel
theorem dX5_nearOf_23 : decode cX5_nearOf 23 = .ok (.if_icmp .le 39, 3) := by decide +kernel
theorem dX5_nearOf_26 : decode cX5_nearOf 26 = .ok (.iload_n 3, 1) := by decide +kernel
theorem dX5_nearOf_27 : decode cX5_nearOf 27 = .ok (.iload 4, 2) := by decide +kernel
theorem dX5_nearOf_29 : decode cX5_nearOf 29 = .ok (.iadd, 1) := by decide +kernel
theorem dX5_nearOf_30 : decode cX5_nearOf 30 = .ok (.iconst 1, 1) := by decide +kernel
theorem dX5_nearOf_31 : decode cX5_nearOf 31 = .ok (.ishr, 1) := by decide +kernel
theorem dX5_nearOf_32 : decode cX5_nearOf 32 = .ok (.istore 6, 2) := by decide +kernel
theorem dX5_nearOf_34 : decode cX5_nearOf 34 = .ok (.iload 5, 2) := by decide +kernel
theorem dX5_nearOf_36 : decode cX5_nearOf 36 = .ok (.aload_n 0, 1) := by decide +kernel
theorem dX5_nearOf_37 : decode cX5_nearOf 37 = .ok (.iload 6, 2) := by decide +kernel
theorem dX5_nearOf_39 : decode cX5_nearOf 39 = .ok (.iload_n 2, 1) := by decide +kernel
theorem dX5_nearOf_40 : decode cX5_nearOf 40 = .ok (.iconst 1, 1) := by decide +kernel
theorem dX5_nearOf_41 : decode cX5_nearOf 41 = .ok (.invokevirtual 122, 3) := by decide +kernel
theorem dX5_nearOf_44 : decode cX5_nearOf 44 = .ok (.isub, 1) := by decide +kernel
theorem dX5_nearOf_45 : decode cX5_nearOf 45 = .ok (.iload_n 1, 1) := by decide +kernel
theorem dX5_nearOf_46 : decode cX5_nearOf 46 = .ok (.if_icmp .le 10, 3) := by decide +kernel
theorem dX5_nearOf_49 : decode cX5_nearOf 49 = .ok (.iload 6, 2) := by decide +kernel
theorem dX5_nearOf_51 : decode cX5_nearOf 51 = .ok (.istore 4, 2) := by decide +kernel
theorem dX5_nearOf_53 : decode cX5_nearOf 53 = .ok (.goto 6, 3) := by decide +kernel
theorem dX5_nearOf_56 : decode cX5_nearOf 56 = .ok (.iload 6, 2) := by decide +kernel
theorem dX5_nearOf_58 : decode cX5_nearOf 58 = .ok (.istore_n 3, 1) := by decide +kernel
theorem dX5_nearOf_59 : decode cX5_nearOf 59 = .ok (.goto (-41), 3) := by decide +kernel
theorem dX5_nearOf_62 : decode cX5_nearOf 62 = .ok (.iload_n 3, 1) := by decide +kernel
theorem dX5_nearOf_63 : decode cX5_nearOf 63 = .ok (.ireturn, 1) := by decide +kernel
theorem dX5_near_0 : decode cX5_near 0 = .ok (.aload_n 0, 1) := by decide +kernel
theorem dX5_near_1 : decode cX5_near 1 = .ok (.iload_n 1, 1) := by decide +kernel
theorem dX5_near_2 : decode cX5_near 2 = .ok (.iconst 0, 1) := by decide +kernel
theorem dX5_near_3 : decode cX5_near 3 = .ok (.aload_n 0, 1) := by decide +kernel
theorem dX5_near_4 : decode cX5_near 4 = .ok (.invokevirtual 222, 3) := by decide +kernel
theorem dX5_near_7 : decode cX5_near 7 = .ok (.iconst 1, 1) := by decide +kernel
theorem dX5_near_8 : decode cX5_near 8 = .ok (.isub, 1) := by decide +kernel
theorem dX5_near_9 : decode cX5_near 9 = .ok (.invokestatic 144, 3) := by decide +kernel
theorem dX5_near_12 : decode cX5_near 12 = .ok (.ifCond .ne 7, 3) := by decide +kernel
theorem dX5_near_15 : decode cX5_near 15 = .ok (.iconst 1, 1) := by decide +kernel
theorem dX5_near_16 : decode cX5_near 16 = .ok (.goto 18, 3) := by decide +kernel
theorem dX5_near_19 : decode cX5_near 19 = .ok (.iload_n 2, 1) := by decide +kernel
theorem dX5_near_20 : decode cX5_near 20 = .ok (.iconst 0, 1) := by decide +kernel
theorem dX5_near_21 : decode cX5_near 21 = .ok (.bipush 6, 2) := by decide +kernel
theorem dX5_near_23 : decode cX5_near 23 = .ok (.invokestatic 144, 3) := by decide +kernel
theorem dX5_near_26 : decode cX5_near 26 = .ok (.ifCond .eq 7, 3) := by decide +kernel
theorem dX5_near_29 : decode cX5_near 29 = .ok (.iconst 0, 1) := by decide +kernel
theorem dX5_near_30 : decode cX5_near 30 = .ok (.goto 4, 3) := by decide +kernel
theorem dX5_near_33 : decode cX5_near 33 = .ok (.iconst 2, 1) := by decide +kernel
theorem dX5_near_34 : decode cX5_near 34 = .ok (.putfield 55, 3) := by decide +kernel
theorem dX5_near_37 : decode cX5_near 37 = .ok (.aload_n 0, 1) := by decide +kernel
theorem dX5_near_38 : decode cX5_near 38 = .ok (.getfield 55, 3) := by decide +kernel
theorem dX5_near_41 : decode cX5_near 41 = .ok (.ifCond .le 7, 3) := by decide +kernel
theorem dX5_near_44 : decode cX5_near 44 = .ok (.iconst 0, 1) := by decide +kernel
theorem dX5_near_45 : decode cX5_near 45 = .ok (.goto 9, 3) := by decide +kernel
theorem dX5_near_48 : decode cX5_near 48 = .ok (.aload_n 0, 1) := by decide +kernel
theorem dX5_near_49 : decode cX5_near 49 = .ok (.iload_n 1, 1) := by decide +kernel
theorem dX5_near_50 : decode cX5_near 50 = .ok (.iload_n 2, 1) := by decide +kernel
theorem dX5_near_51 : decode cX5_near 51 = .ok (.invokevirtual 258, 3) := by decide +kernel
theorem dX5_near_54 : decode cX5_near 54 = .ok (.ireturn, 1) := by decide +kernel
theorem dX5_root_0 : decode cX5_root 0 = .ok (.aload_n 0, 1) := by decide +kernel
theorem dX5_root_1 : decode cX5_root 1 = .ok (.iload_n 1, 1) := by decide +kernel
theorem dX5_root_2 : decode cX5_root 2 = .ok (.iconst 0, 1) := by decide +kernel
theorem dX5_root_3 : decode cX5_root 3 = .ok (.aload_n 0, 1) := by decide +kernel
theorem dX5_root_4 : decode cX5_root 4 = .ok (.invokevirtual 222, 3) := by decide +kernel
theorem dX5_root_7 : decode cX5_root 7 = .ok (.iconst 1, 1) := by decide +kernel
theorem dX5_root_8 : decode cX5_root 8 = .ok (.isub, 1) := by decide +kernel
theorem dX5_root_9 : decode cX5_root 9 = .ok (.invokestatic 144, 3) := by decide +kernel
theorem dX5_root_12 : decode cX5_root 12 = .ok (.ifCond .eq 7, 3) := by decide +kernel
theorem dX5_root_15 : decode cX5_root 15 = .ok (.iconst 0, 1) := by decide +kernel
theorem dX5_root_16 : decode cX5_root 16 = .ok (.goto 4, 3) := by decide +kernel
theorem dX5_root_19 : decode cX5_root 19 = .ok (.iconst 1, 1) := by decide +kernel
theorem dX5_root_20 : decode cX5_root 20 = .ok (.putfield 55, 3) := by decide +kernel
theorem dX5_root_23 : decode cX5_root 23 = .ok (.aload_n 0, 1) := by decide +kernel
theorem dX5_root_24 : decode cX5_root 24 = .ok (.getfield 55, 3) := by decide +kernel
theorem dX5_root_27 : decode cX5_root 27 = .ok (.ifCond .le 7, 3) := by decide +kernel
theorem dX5_root_30 : decode cX5_root 30 = .ok (.dconst 0, 1) := by decide +kernel
theorem dX5_root_31 : decode cX5_root 31 = .ok (.goto 19, 3) := by decide +kernel
theorem dX5_root_34 : decode cX5_root 34 = .ok (.iconst 2, 1) := by decide +kernel
theorem dX5_root_35 : decode cX5_root 35 = .ok (.aload_n 0, 1) := by decide +kernel
theorem dX5_root_36 : decode cX5_root 36 = .ok (.iload_n 1, 1) := by decide +kernel
theorem dX5_root_37 : decode cX5_root 37 = .ok (.bipush 6, 2) := by decide +kernel
theorem dX5_root_39 : decode cX5_root 39 = .ok (.invokevirtual 258, 3) := by decide +kernel
theorem dX5_root_42 : decode cX5_root 42 = .ok (.imul, 1) := by decide +kernel
theorem dX5_root_43 : decode cX5_root 43 = .ok (.iconst 1, 1) := by decide +kernel
theorem dX5_root_44 : decode cX5_root 44 = .ok (.iadd, 1) := by decide +kernel
theorem dX5_root_45 : decode cX5_root 45 = .ok (.i2d, 1) := by decide +kernel
theorem dX5_root_46 : decode cX5_root 46 = .ok (.ldc2_w 261, 3) := by decide +kernel
theorem dX5_root_49 : decode cX5_root 49 = .ok (.ddiv, 1) := by decide +kernel
theorem dX5_root_50 : decode cX5_root 50 = .ok (.dreturn, 1) := by decide +kernel
theorem dX5_rows_0 : decode cX5_rows 0 = .ok (.aload_n 0, 1) := by decide +kernel
theorem dX5_rows_1 : decode cX5_rows 1 = .ok (.iconst 0, 1) := by decide +kernel
theorem dX5_rows_2 : decode cX5_rows 2 = .ok (.putfield 55, 3) := by decide +kernel
theorem dX5_rows_5 : decode cX5_rows 5 = .ok (.aload_n 0, 1) := by decide +kernel
theorem dX5_rows_6 : decode cX5_rows 6 = .ok (.invokevirtual 126, 3) := by decide +kernel
theorem dX5_rows_9 : decode cX5_rows 9 = .ok (.aload_n 0, 1) := by decide +kernel
theorem dX5_rows_10 : decode cX5_rows 10 = .ok (.getfield 106, 3) := by decide +kernel
theorem dX5_rows_13 : decode cX5_rows 13 = .ok (.ireturn, 1) := by decide +kernel
theorem dX5_rowDegree_0 : decode cX5_rowDegree 0 = .ok (.aload_n 0, 1) := by decide +kernel
theorem dX5_rowDegree_1 : decode cX5_rowDegree 1 = .ok (.invokevirtual 126, 3) := by decide +kernel
theorem dX5_rowDegree_4 : decode cX5_rowDegree 4 = .ok (.aload_n 0, 1) := by decide +kernel
theorem dX5_rowDegree_5 : decode cX5_rowDegree 5 = .ok (.iload_n 1, 1) := by decide +kernel
theorem dX5_rowDegree_6 : decode cX5_rowDegree 6 = .ok (.iconst 0, 1) := by decide +kernel
theorem dX5_rowDegree_7 : decode cX5_rowDegree 7 = .ok (.aload_n 0, 1) := by decide +kernel
theorem dX5_rowDegree_8 : decode cX5_rowDegree 8 = .ok (.getfield 106, 3) := by decide +kernel
theorem dX5_rowDegree_11 : decode cX5_rowDegree 11 = .ok (.iconst 1, 1) := by decide +kernel
theorem dX5_rowDegree_12 : decode cX5_rowDegree 12 = .ok (.isub, 1) := by decide +kernel
theorem dX5_rowDegree_13 : decode cX5_rowDegree 13 = .ok (.invokestatic 144, 3) := by decide +kernel
theorem dX5_rowDegree_16 : decode cX5_rowDegree 16 = .ok (.ifCond .eq 7, 3) := by decide +kernel
theorem dX5_rowDegree_19 : decode cX5_rowDegree 19 = .ok (.iconst 0, 1) := by decide +kernel
theorem dX5_rowDegree_20 : decode cX5_rowDegree 20 = .ok (.goto 4, 3) := by decide +kernel
theorem dX5_rowDegree_23 : decode cX5_rowDegree 23 = .ok (.iconst 1, 1) := by decide +kernel
theorem dX5_rowDegree_24 : decode cX5_rowDegree 24 = .ok (.putfield 55, 3) := by decide +kernel
theorem dX5_rowDegree_27 : decode cX5_rowDegree 27 = .ok (.aload_n 0, 1) := by decide +kernel
theorem dX5_rowDegree_28 : decode cX5_rowDegree 28 = .ok (.getfield 55, 3) := by decide +kernel
theorem dX5_rowDegree_31 : decode cX5_rowDegree 31 = .ok (.ifCond .le 7, 3) := by decide +kernel
theorem dX5_rowDegree_34 : decode cX5_rowDegree 34 = .ok (.iconst 0, 1) := by decide +kernel
theorem dX5_rowDegree_35 : decode cX5_rowDegree 35 = .ok (.goto 9, 3) := by decide +kernel
theorem dX5_rowDegree_38 : decode cX5_rowDegree 38 = .ok (.aload_n 0, 1) := by decide +kernel
theorem dX5_rowDegree_39 : decode cX5_rowDegree 39 = .ok (.getfield 32, 3) := by decide +kernel
theorem dX5_rowDegree_42 : decode cX5_rowDegree 42 = .ok (.iload_n 1, 1) := by decide +kernel
theorem dX5_rowDegree_43 : decode cX5_rowDegree 43 = .ok (.iaload, 1) := by decide +kernel
theorem dX5_rowDegree_44 : decode cX5_rowDegree 44 = .ok (.ireturn, 1) := by decide +kernel
theorem dX5_rowSign_0 : decode cX5_rowSign 0 = .ok (.aload_n 0, 1) := by decide +kernel
theorem dX5_rowSign_1 : decode cX5_rowSign 1 = .ok (.invokevirtual 126, 3) := by decide +kernel
theorem dX5_rowSign_4 : decode cX5_rowSign 4 = .ok (.aload_n 0, 1) := by decide +kernel
theorem dX5_rowSign_5 : decode cX5_rowSign 5 = .ok (.iload_n 1, 1) := by decide +kernel
theorem dX5_rowSign_6 : decode cX5_rowSign 6 = .ok (.iconst 0, 1) := by decide +kernel
theorem dX5_rowSign_7 : decode cX5_rowSign 7 = .ok (.aload_n 0, 1) := by decide +kernel
theorem dX5_rowSign_8 : decode cX5_rowSign 8 = .ok (.getfield 106, 3) := by decide +kernel
theorem dX5_rowSign_11 : decode cX5_rowSign 11 = .ok (.iconst 1, 1) := by decide +kernel
theorem dX5_rowSign_12 : decode cX5_rowSign 12 = .ok (.isub, 1) := by decide +kernel
theorem dX5_rowSign_13 : decode cX5_rowSign 13 = .ok (.invokestatic 144, 3) := by decide +kernel
theorem dX5_rowSign_16 : decode cX5_rowSign 16 = .ok (.ifCond .ne 7, 3) := by decide +kernel
theorem dX5_rowSign_19 : decode cX5_rowSign 19 = .ok (.iconst 1, 1) := by decide +kernel
theorem dX5_rowSign_20 : decode cX5_rowSign 20 = .ok (.goto 15, 3) := by decide +kernel
theorem dX5_rowSign_23 : decode cX5_rowSign 23 = .ok (.iload_n 2, 1) := by decide +kernel
theorem dX5_rowSign_24 : decode cX5_rowSign 24 = .ok (.invokestatic 252, 3) := by decide +kernel
theorem dX5_rowSign_27 : decode cX5_rowSign 27 = .ok (.ifCond .eq 7, 3) := by decide +kernel
theorem dX5_rowSign_30 : decode cX5_rowSign 30 = .ok (.iconst 0, 1) := by decide +kernel
theorem dX5_rowSign_31 : decode cX5_rowSign 31 = .ok (.goto 4, 3) := by decide +kernel
theorem dX5_rowSign_34 : decode cX5_rowSign 34 = .ok (.iconst 2, 1) := by decide +kernel
theorem dX5_rowSign_35 : decode cX5_rowSign 35 = .ok (.putfield 55, 3) := by decide +kernel
theorem dX5_rowSign_38 : decode cX5_rowSign 38 = .ok (.aload_n 0, 1) := by decide +kernel
theorem dX5_rowSign_39 : decode cX5_rowSign 39 = .ok (.getfield 55, 3) := by decide +kernel
theorem dX5_rowSign_42 : decode cX5_rowSign 42 = .ok (.ifCond .le 7, 3) := by decide +kernel
theorem dX5_rowSign_45 : decode cX5_rowSign 45 = .ok (.iconst 0, 1) := by decide +kernel
theorem dX5_rowSign_46 : decode cX5_rowSign 46 = .ok (.goto 11, 3) := by decide +kernel
theorem dX5_rowSign_49 : decode cX5_rowSign 49 = .ok (.aload_n 0, 1) := by decide +kernel
theorem dX5_rowSign_50 : decode cX5_rowSign 50 = .ok (.iload_n 1, 1) := by decide +kernel
theorem dX5_rowSign_51 : decode cX5_rowSign 51 = .ok (.iload_n 2, 1) := by decide +kernel
theorem dX5_rowSign_52 : decode cX5_rowSign 52 = .ok (.iconst 0, 1) := by decide +kernel
theorem dX5_rowSign_53 : decode cX5_rowSign 53 = .ok (.iconst 0, 1) := by decide +kernel
theorem dX5_rowSign_54 : decode cX5_rowSign 54 = .ok (.invokevirtual 118, 3) := by decide +kernel
theorem dX5_rowSign_57 : decode cX5_rowSign 57 = .ok (.ireturn, 1) := by decide +kernel
theorem dX5_changes_0 : decode cX5_changes 0 = .ok (.aload_n 0, 1) := by decide +kernel
theorem dX5_changes_1 : decode cX5_changes 1 = .ok (.iload_n 1, 1) := by decide +kernel
theorem dX5_changes_2 : decode cX5_changes 2 = .ok (.iconst 1, 1) := by decide +kernel
theorem dX5_changes_3 : decode cX5_changes 3 = .ok (.iconst 2, 1) := by decide +kernel
theorem dX5_changes_4 : decode cX5_changes 4 = .ok (.invokestatic 144, 3) := by decide +kernel
theorem dX5_changes_7 : decode cX5_changes 7 = .ok (.ifCond .eq 14, 3) := by decide +kernel
theorem dX5_changes_10 : decode cX5_changes 10 = .ok (.iload_n 2, 1) := by decide +kernel
theorem dX5_changes_11 : decode cX5_changes 11 = .ok (.invokestatic 252, 3) := by decide +kernel
theorem dX5_changes_14 : decode cX5_changes 14 = .ok (.ifCond .eq 7, 3) := by decide +kernel
theorem dX5_changes_17 : decode cX5_changes 17 = .ok (.iconst 0, 1) := by decide +kernel
theorem dX5_changes_18 : decode cX5_changes 18 = .ok (.goto 4, 3) := by decide +kernel
theorem dX5_changes_21 : decode cX5_changes 21 = .ok (.iconst 1, 1) := by decide +kernel
theorem dX5_changes_22 : decode cX5_changes 22 = .ok (.putfield 55, 3) := by decide +kernel
theorem dX5_changes_25 : decode cX5_changes 25 = .ok (.aload_n 0, 1) := by decide +kernel
theorem dX5_changes_26 : decode cX5_changes 26 = .ok (.getfield 55, 3) := by decide +kernel
theorem dX5_changes_29 : decode cX5_changes 29 = .ok (.ifCond .le 5, 3) := by decide +kernel
theorem dX5_changes_32 : decode cX5_changes 32 = .ok (.iconst 0, 1) := by decide +kernel
theorem dX5_changes_33 : decode cX5_changes 33 = .ok (.ireturn, 1) := by decide +kernel
theorem dX5_changes_34 : decode cX5_changes 34 = .ok (.iload_n 1, 1) := by decide +kernel
theorem dX5_changes_35 : decode cX5_changes 35 = .ok (.iconst 2, 1) := by decide +kernel
theorem dX5_changes_36 : decode cX5_changes 36 = .ok (.if_icmp .ne 9, 3) := by decide +kernel
theorem dX5_changes_39 : decode cX5_changes 39 = .ok (.aload_n 0, 1) := by decide +kernel
theorem dX5_changes_40 : decode cX5_changes 40 = .ok (.iload_n 2, 1) := by decide +kernel
theorem dX5_changes_41 : decode cX5_changes 41 = .ok (.invokevirtual 263, 3) := by decide +kernel
theorem dX5_changes_44 : decode cX5_changes 44 = .ok (.ireturn, 1) := by decide +kernel
theorem dX5_changes_45 : decode cX5_changes 45 = .ok (.aload_n 0, 1) := by decide +kernel
theorem dX5_changes_46 : decode cX5_changes 46 = .ok (.invokevirtual 126, 3) := by decide +kernel
theorem dX5_changes_49 : decode cX5_changes 49 = .ok (.aload_n 0, 1) := by decide +kernel
theorem dX5_changes_50 : decode cX5_changes 50 = .ok (.iload_n 2, 1) := by decide +kernel
theorem dX5_changes_51 : decode cX5_changes 51 = .ok (.iconst 0, 1) := by decide +kernel
theorem dX5_changes_52 : decode cX5_changes 52 = .ok (.iconst 0, 1) := by decide +kernel
theorem dX5_changes_53 : decode cX5_changes 53 = .ok (.invokevirtual 122, 3) := by decide +kernel
theorem dX5_changes_56 : decode cX5_changes 56 = .ok (.ireturn, 1) := by decide +kernel
theorem dX5_surplus_0 : decode cX5_surplus 0 = .ok (.aload_n 0, 1) := by decide +kernel
theorem dX5_surplus_1 : decode cX5_surplus 1 = .ok (.iload_n 1, 1) := by decide +kernel
theorem dX5_surplus_2 : decode cX5_surplus 2 = .ok (.iload_n 2, 1) := by decide +kernel
theorem dX5_surplus_3 : decode cX5_surplus 3 = .ok (.invokestatic 204, 3) := by decide +kernel
theorem dX5_surplus_6 : decode cX5_surplus 6 = .ok (.ifCond .eq 7, 3) := by decide +kernel
theorem dX5_surplus_9 : decode cX5_surplus 9 = .ok (.iconst 0, 1) := by decide +kernel
theorem dX5_surplus_10 : decode cX5_surplus 10 = .ok (.goto 4, 3) := by decide +kernel
theorem dX5_surplus_13 : decode cX5_surplus 13 = .ok (.iconst 1, 1) := by decide +kernel
theorem dX5_surplus_14 : decode cX5_surplus 14 = .ok (.putfield 55, 3) := by decide +kernel
theorem dX5_surplus_17 : decode cX5_surplus 17 = .ok (.aload_n 0, 1) := by decide +kernel
theorem dX5_surplus_18 : decode cX5_surplus 18 = .ok (.getfield 55, 3) := by decide +kernel
theorem dX5_surplus_21 : decode cX5_surplus 21 = .ok (.ifCond .gt 10, 3) := by decide +kernel
theorem dX5_surplus_24 : decode cX5_surplus 24 = .ok (.aload_n 0, 1) := by decide +kernel
theorem dX5_surplus_25 : decode cX5_surplus 25 = .ok (.invokevirtual 136, 3) := by decide +kernel
theorem dX5_surplus_28 : decode cX5_surplus 28 = .ok (.ifCond .ge 16, 3) := by decide +kernel
theorem dX5_surplus_31 : decode cX5_surplus 31 = .ok (.aload_n 0, 1) := by decide +kernel
theorem dX5_surplus_32 : decode cX5_surplus 32 = .ok (.getfield 55, 3) := by decide +kernel
theorem dX5_surplus_35 : decode cX5_surplus 35 = .ok (.ifCond .le 7, 3) := by decide +kernel
theorem dX5_surplus_38 : decode cX5_surplus 38 = .ok (.iconst 0, 1) := by decide +kernel
theorem dX5_surplus_39 : decode cX5_surplus 39 = .ok (.goto 4, 3) := by decide +kernel
theorem dX5_surplus_42 : decode cX5_surplus 42 = .ok (.iconst (-1), 1) := by decide +kernel
theorem dX5_surplus_43 : decode cX5_surplus 43 = .ok (.ireturn, 1) := by decide +kernel
theorem dX5_surplus_44 : decode cX5_surplus 44 = .ok (.aload_n 0, 1) := by decide +kernel
theorem dX5_surplus_45 : decode cX5_surplus 45 = .ok (.iload_n 1, 1) := by decide +kernel
theorem dX5_surplus_46 : decode cX5_surplus 46 = .ok (.invokevirtual 263, 3) := by decide +kernel
theorem dX5_surplus_49 : decode cX5_surplus 49 = .ok (.aload_n 0, 1) := by decide +kernel
theorem dX5_surplus_50 : decode cX5_surplus 50 = .ok (.iload_n 2, 1) := by decide +kernel
theorem dX5_surplus_51 : decode cX5_surplus 51 = .ok (.invokevirtual 263, 3) := by decide +kernel
theorem dX5_surplus_54 : decode cX5_surplus 54 = .ok (.isub, 1) := by decide +kernel
theorem dX5_surplus_55 : decode cX5_surplus 55 = .ok (.aload_n 0, 1) := by decide +kernel
theorem dX5_surplus_56 : decode cX5_surplus 56 = .ok (.iload_n 1, 1) := by decide +kernel
theorem dX5_surplus_57 : decode cX5_surplus 57 = .ok (.iload_n 2, 1) := by decide +kernel
theorem dX5_surplus_58 : decode cX5_surplus 58 = .ok (.invokevirtual 266, 3) := by decide +kernel
theorem dX5_surplus_61 : decode cX5_surplus 61 = .ok (.isub, 1) := by decide +kernel
theorem dX5_surplus_62 : decode cX5_surplus 62 = .ok (.ireturn, 1) := by decide +kernel
theorem dX5_appendText_0 : decode cX5_appendText 0 = .ok (.aload_n 0, 1) := by decide +kernel
theorem dX5_appendText_1 : decode cX5_appendText 1 = .ok (.aload_n 0, 1) := by decide +kernel
theorem dX5_appendText_2 : decode cX5_appendText 2 = .ok (.getfield 269, 3) := by decide +kernel
theorem dX5_appendText_5 : decode cX5_appendText 5 = .ok (.iconst 4, 1) := by decide +kernel
theorem dX5_appendText_6 : decode cX5_appendText 6 = .ok (.iadd, 1) := by decide +kernel
theorem dX5_appendText_7 : decode cX5_appendText 7 = .ok (.sipush 600, 3) := by decide +kernel
theorem dX5_appendText_10 : decode cX5_appendText 10 = .ok (.if_icmp .gt 7, 3) := by decide +kernel
theorem dX5_appendText_13 : decode cX5_appendText 13 = .ok (.iconst 0, 1) := by decide +kernel
theorem dX5_appendText_14 : decode cX5_appendText 14 = .ok (.goto 4, 3) := by decide +kernel
theorem dX5_appendText_17 : decode cX5_appendText 17 = .ok (.iconst 1, 1) := by decide +kernel
theorem dX5_appendText_18 : decode cX5_appendText 18 = .ok (.putfield 55, 3) := by decide +kernel
theorem dX5_appendText_21 : decode cX5_appendText 21 = .ok (.aload_n 0, 1) := by decide +kernel
theorem dX5_appendText_22 : decode cX5_appendText 22 = .ok (.getfield 55, 3) := by decide +kernel
theorem dX5_appendText_25 : decode cX5_appendText 25 = .ok (.ifCond .le 5, 3) := by decide +kernel
theorem dX5_appendText_28 : decode cX5_appendText 28 = .ok (.iconst 0, 1) := by decide +kernel
theorem dX5_appendText_29 : decode cX5_appendText 29 = .ok (.ireturn, 1) := by decide +kernel
theorem dX5_appendText_30 : decode cX5_appendText 30 = .ok (.bipush 24, 2) := by decide +kernel
theorem dX5_appendText_32 : decode cX5_appendText 32 = .ok (.istore_n 2, 1) := by decide +kernel
theorem dX5_appendText_33 : decode cX5_appendText 33 = .ok (.iload_n 2, 1) := by decide +kernel
theorem dX5_appendText_34 : decode cX5_appendText 34 = .ok (.ifCond .lt 32, 3) := by decide +kernel
theorem dX5_appendText_37 : decode cX5_appendText 37 = .ok (.aload_n 0, 1) := by decide +kernel
theorem dX5_appendText_38 : decode cX5_appendText 38 = .ok (.getfield 35, 3) := by decide +kernel
theorem dX5_appendText_41 : decode cX5_appendText 41 = .ok (.aload_n 0, 1) := by decide +kernel
theorem dX5_appendText_42 : decode cX5_appendText 42 = .ok (.getfield 269, 3) := by decide +kernel
theorem dX5_appendText_45 : decode cX5_appendText 45 = .ok (.iload_n 1, 1) := by decide +kernel
theorem dX5_appendText_46 : decode cX5_appendText 46 = .ok (.iload_n 2, 1) := by decide +kernel
theorem dX5_appendText_47 : decode cX5_appendText 47 = .ok (.ishr, 1) := by decide +kernel
theorem dX5_appendText_48 : decode cX5_appendText 48 = .ok (.i2b, 1) := by decide +kernel
theorem dX5_appendText_49 : decode cX5_appendText 49 = .ok (.bastore, 1) := by decide +kernel
theorem dX5_appendText_50 : decode cX5_appendText 50 = .ok (.aload_n 0, 1) := by decide +kernel
theorem dX5_appendText_51 : decode cX5_appendText 51 = .ok (.dup, 1) := by decide +kernel
theorem dX5_appendText_52 : decode cX5_appendText 52 = .ok (.getfield 269, 3) := by decide +kernel
theorem dX5_appendText_55 : decode cX5_appendText 55 = .ok (.iconst 1, 1) := by decide +kernel
theorem dX5_appendText_56 : decode cX5_appendText 56 = .ok (.iadd, 1) := by decide +kernel
theorem dX5_appendText_57 : decode cX5_appendText 57 = .ok (.putfield 269, 3) := by decide +kernel
theorem dX5_appendText_60 : decode cX5_appendText 60 = .ok (.iinc 2 (-8), 3) := by decide +kernel
theorem dX5_appendText_63 : decode cX5_appendText 63 = .ok (.goto (-30), 3) := by decide +kernel
theorem dX5_appendText_66 : decode cX5_appendText 66 = .ok (.aload_n 0, 1) := by decide +kernel
theorem dX5_appendText_67 : decode cX5_appendText 67 = .ok (.getfield 269, 3) := by decide +kernel
theorem dX5_appendText_70 : decode cX5_appendText 70 = .ok (.ireturn, 1) := by decide +kernel
theorem dX5_truncateText_0 : decode cX5_truncateText 0 = .ok (.aload_n 0, 1) := by decide +kernel
theorem dX5_truncateText_1 : decode cX5_truncateText 1 = .ok (.iload_n 1, 1) := by decide +kernel
theorem dX5_truncateText_2 : decode cX5_truncateText 2 = .ok (.iconst 0, 1) := by decide +kernel
theorem dX5_truncateText_3 : decode cX5_truncateText 3 = .ok (.aload_n 0, 1) := by decide +kernel
theorem dX5_truncateText_4 : decode cX5_truncateText 4 = .ok (.getfield 269, 3) := by decide +kernel
theorem dX5_truncateText_7 : decode cX5_truncateText 7 = .ok (.invokestatic 144, 3) := by decide +kernel
theorem dX5_truncateText_10 : decode cX5_truncateText 10 = .ok (.ifCond .eq 7, 3) := by decide +kernel
theorem dX5_truncateText_13 : decode cX5_truncateText 13 = .ok (.iconst 0, 1) := by decide +kernel
theorem dX5_truncateText_14 : decode cX5_truncateText 14 = .ok (.goto 4, 3) := by decide +kernel
theorem dX5_truncateText_17 : decode cX5_truncateText 17 = .ok (.iconst 1, 1) := by decide +kernel
theorem dX5_truncateText_18 : decode cX5_truncateText 18 = .ok (.putfield 55, 3) := by decide +kernel
theorem dX5_truncateText_21 : decode cX5_truncateText 21 = .ok (.aload_n 0, 1) := by decide +kernel
theorem dX5_truncateText_22 : decode cX5_truncateText 22 = .ok (.getfield 55, 3) := by decide +kernel
theorem dX5_truncateText_25 : decode cX5_truncateText 25 = .ok (.ifCond .le 5, 3) := by decide +kernel
theorem dX5_truncateText_28 : decode cX5_truncateText 28 = .ok (.iconst 0, 1) := by decide +kernel
theorem dX5_truncateText_29 : decode cX5_truncateText 29 = .ok (.ireturn, 1) := by decide +kernel
theorem dX5_truncateText_30 : decode cX5_truncateText 30 = .ok (.aload_n 0, 1) := by decide +kernel
theorem dX5_truncateText_31 : decode cX5_truncateText 31 = .ok (.iload_n 1, 1) := by decide +kernel
theorem dX5_truncateText_32 : decode cX5_truncateText 32 = .ok (.putfield 269, 3) := by decide +kernel
theorem dX5_truncateText_35 : decode cX5_truncateText 35 = .ok (.aload_n 0, 1) := by decide +kernel
theorem dX5_truncateText_36 : decode cX5_truncateText 36 = .ok (.getfield 269, 3) := by decide +kernel
theorem dX5_truncateText_39 : decode cX5_truncateText 39 = .ok (.ireturn, 1) := by decide +kernel
theorem dX5_see_0 : decode cX5_see 0 = .ok (.aload_n 0, 1) := by decide +kernel
theorem dX5_see_1 : decode cX5_see 1 = .ok (.getfield 272, 3) := by decide +kernel
theorem dX5_see_4 : decode cX5_see 4 = .ok (.aload_n 0, 1) := by decide +kernel
theorem dX5_see_5 : decode cX5_see 5 = .ok (.getfield 269, 3) := by decide +kernel
theorem dX5_see_8 : decode cX5_see 8 = .ok (.if_icmp .ge 19, 3) := by decide +kernel
theorem dX5_see_11 : decode cX5_see 11 = .ok (.aload_n 0, 1) := by decide +kernel
theorem dX5_see_12 : decode cX5_see 12 = .ok (.getfield 35, 3) := by decide +kernel
theorem dX5_see_15 : decode cX5_see 15 = .ok (.aload_n 0, 1) := by decide +kernel
theorem dX5_see_16 : decode cX5_see 16 = .ok (.getfield 272, 3) := by decide +kernel
theorem dX5_see_19 : decode cX5_see 19 = .ok (.baload, 1) := by decide +kernel
theorem dX5_see_20 : decode cX5_see 20 = .ok (.sipush 255, 3) := by decide +kernel
theorem dX5_see_23 : decode cX5_see 23 = .ok (.iand, 1) := by decide +kernel
theorem dX5_see_24 : decode cX5_see 24 = .ok (.goto 4, 3) := by decide +kernel
theorem dX5_see_27 : decode cX5_see 27 = .ok (.iconst (-1), 1) := by decide +kernel
theorem dX5_see_28 : decode cX5_see 28 = .ok (.ireturn, 1) := by decide +kernel
theorem dX5_isSmall_0 : decode cX5_isSmall 0 = .ok (.aload_n 0, 1) := by decide +kernel
theorem dX5_isSmall_1 : decode cX5_isSmall 1 = .ok (.invokevirtual 275, 3) := by decide +kernel
theorem dX5_isSmall_4 : decode cX5_isSmall 4 = .ok (.bipush 97, 2) := by decide +kernel
theorem dX5_isSmall_6 : decode cX5_isSmall 6 = .ok (.bipush 122, 2) := by decide +kernel
theorem dX5_isSmall_8 : decode cX5_isSmall 8 = .ok (.invokestatic 144, 3) := by decide +kernel
theorem dX5_isSmall_11 : decode cX5_isSmall 11 = .ok (.ireturn, 1) := by decide +kernel
theorem dX5_isDigit_0 : decode cX5_isDigit 0 = .ok (.aload_n 0, 1) := by decide +kernel
theorem dX5_isDigit_1 : decode cX5_isDigit 1 = .ok (.invokevirtual 275, 3) := by decide +kernel
theorem dX5_isDigit_4 : decode cX5_isDigit 4 = .ok (.bipush 48, 2) := by decide +kernel
theorem dX5_isDigit_6 : decode cX5_isDigit 6 = .ok (.bipush 57, 2) := by decide +kernel
theorem dX5_isDigit_8 : decode cX5_isDigit 8 = .ok (.invokestatic 144, 3) := by decide +kernel
theorem dX5_isDigit_11 : decode cX5_isDigit 11 = .ok (.ireturn, 1) := by decide +kernel
theorem dX5_markOf_0 : decode cX5_markOf 0 = .ok (.iload_n 0, 1) := by decide +kernel
theorem dX5_markOf_1 : decode cX5_markOf 1 = .ok (.bipush 59, 2) := by decide +kernel
theorem dX5_markOf_3 : decode cX5_markOf 3 = .ok (.if_icmp .ne 7, 3) := by decide +kernel
theorem dX5_markOf_6 : decode cX5_markOf 6 = .ok (.iconst 3, 1) := by decide +kernel
theorem dX5_markOf_7 : decode cX5_markOf 7 = .ok (.goto 14, 3) := by decide +kernel
theorem dX5_markOf_10 : decode cX5_markOf 10 = .ok (.iload_n 0, 1) := by decide +kernel
theorem dX5_markOf_11 : decode cX5_markOf 11 = .ok (.bipush 45, 2) := by decide +kernel
theorem dX5_markOf_13 : decode cX5_markOf 13 = .ok (.if_icmp .ne 7, 3) := by decide +kernel
theorem dX5_markOf_16 : decode cX5_markOf 16 = .ok (.iconst 4, 1) := by decide +kernel
theorem dX5_markOf_17 : decode cX5_markOf 17 = .ok (.goto 4, 3) := by decide +kernel
theorem dX5_markOf_20 : decode cX5_markOf 20 = .ok (.iconst 5, 1) := by decide +kernel
theorem dX5_markOf_21 : decode cX5_markOf 21 = .ok (.ireturn, 1) := by decide +kernel
theorem dX5_goesOn_0 : decode cX5_goesOn 0 = .ok (.aload_n 0, 1) := by decide +kernel
theorem dX5_goesOn_1 : decode cX5_goesOn 1 = .ok (.invokevirtual 275, 3) := by decide +kernel
theorem dX5_goesOn_4 : decode cX5_goesOn 4 = .ok (.bipush 32, 2) := by decide +kernel
theorem dX5_goesOn_6 : decode cX5_goesOn 6 = .ok (.if_icmp .eq 12, 3) := by decide +kernel
theorem dX5_goesOn_9 : decode cX5_goesOn 9 = .ok (.aload_n 0, 1) := by decide +kernel
theorem dX5_goesOn_10 : decode cX5_goesOn 10 = .ok (.invokevirtual 275, 3) := by decide +kernel
theorem dX5_goesOn_13 : decode cX5_goesOn 13 = .ok (.bipush 10, 2) := by decide +kernel
theorem dX5_goesOn_15 : decode cX5_goesOn 15 = .ok (.if_icmp .ne 16, 3) := by decide +kernel
theorem dX5_goesOn_18 : decode cX5_goesOn 18 = .ok (.aload_n 0, 1) := by decide +kernel
theorem dX5_goesOn_19 : decode cX5_goesOn 19 = .ok (.dup, 1) := by decide +kernel
theorem dX5_goesOn_20 : decode cX5_goesOn 20 = .ok (.getfield 272, 3) := by decide +kernel
theorem dX5_goesOn_23 : decode cX5_goesOn 23 = .ok (.iconst 1, 1) := by decide +kernel
theorem dX5_goesOn_24 : decode cX5_goesOn 24 = .ok (.iadd, 1) := by decide +kernel
theorem dX5_goesOn_25 : decode cX5_goesOn 25 = .ok (.putfield 272, 3) := by decide +kernel
theorem dX5_goesOn_28 : decode cX5_goesOn 28 = .ok (.goto (-28), 3) := by decide +kernel
theorem dX5_goesOn_31 : decode cX5_goesOn 31 = .ok (.aload_n 0, 1) := by decide +kernel
theorem dX5_goesOn_32 : decode cX5_goesOn 32 = .ok (.aload_n 0, 1) := by decide +kernel
theorem dX5_goesOn_33 : decode cX5_goesOn 33 = .ok (.getfield 272, 3) := by decide +kernel
theorem dX5_goesOn_36 : decode cX5_goesOn 36 = .ok (.putfield 278, 3) := by decide +kernel
theorem dX5_goesOn_39 : decode cX5_goesOn 39 = .ok (.aload_n 0, 1) := by decide +kernel
theorem dX5_goesOn_40 : decode cX5_goesOn 40 = .ok (.aload_n 0, 1) := by decide +kernel
theorem dX5_goesOn_41 : decode cX5_goesOn 41 = .ok (.invokevirtual 275, 3) := by decide +kernel
theorem dX5_goesOn_44 : decode cX5_goesOn 44 = .ok (.iconst (-1), 1) := by decide +kernel
theorem dX5_goesOn_45 : decode cX5_goesOn 45 = .ok (.if_icmp .ne 7, 3) := by decide +kernel
theorem dX5_goesOn_48 : decode cX5_goesOn 48 = .ok (.iconst 0, 1) := by decide +kernel
theorem dX5_goesOn_49 : decode cX5_goesOn 49 = .ok (.goto 32, 3) := by decide +kernel
theorem dX5_goesOn_52 : decode cX5_goesOn 52 = .ok (.aload_n 0, 1) := by decide +kernel
theorem dX5_goesOn_53 : decode cX5_goesOn 53 = .ok (.invokevirtual 281, 3) := by decide +kernel
theorem dX5_goesOn_56 : decode cX5_goesOn 56 = .ok (.ifCond .eq 7, 3) := by decide +kernel
theorem dX5_goesOn_59 : decode cX5_goesOn 59 = .ok (.iconst 1, 1) := by decide +kernel
theorem dX5_goesOn_60 : decode cX5_goesOn 60 = .ok (.goto 21, 3) := by decide +kernel
theorem dX5_goesOn_63 : decode cX5_goesOn 63 = .ok (.aload_n 0, 1) := by decide +kernel
theorem dX5_goesOn_64 : decode cX5_goesOn 64 = .ok (.invokevirtual 284, 3) := by decide +kernel
theorem dX5_goesOn_67 : decode cX5_goesOn 67 = .ok (.ifCond .eq 7, 3) := by decide +kernel
theorem dX5_goesOn_70 : decode cX5_goesOn 70 = .ok (.iconst 2, 1) := by decide +kernel
theorem dX5_goesOn_71 : decode cX5_goesOn 71 = .ok (.goto 10, 3) := by decide +kernel
theorem dX5_goesOn_74 : decode cX5_goesOn 74 = .ok (.aload_n 0, 1) := by decide +kernel
theorem dX5_goesOn_75 : decode cX5_goesOn 75 = .ok (.invokevirtual 275, 3) := by decide +kernel
theorem dX5_goesOn_78 : decode cX5_goesOn 78 = .ok (.invokestatic 287, 3) := by decide +kernel
theorem dX5_goesOn_81 : decode cX5_goesOn 81 = .ok (.putfield 290, 3) := by decide +kernel
theorem dX5_goesOn_84 : decode cX5_goesOn 84 = .ok (.aload_n 0, 1) := by decide +kernel
theorem dX5_goesOn_85 : decode cX5_goesOn 85 = .ok (.iconst 0, 1) := by decide +kernel
theorem dX5_goesOn_86 : decode cX5_goesOn 86 = .ok (.putfield 293, 3) := by decide +kernel
theorem dX5_goesOn_89 : decode cX5_goesOn 89 = .ok (.aload_n 0, 1) := by decide +kernel
theorem dX5_goesOn_90 : decode cX5_goesOn 90 = .ok (.dup, 1) := by decide +kernel
theorem dX5_goesOn_91 : decode cX5_goesOn 91 = .ok (.getfield 272, 3) := by decide +kernel
theorem dX5_goesOn_94 : decode cX5_goesOn 94 = .ok (.aload_n 0, 1) := by decide +kernel
theorem dX5_goesOn_95 : decode cX5_goesOn 95 = .ok (.getfield 290, 3) := by decide +kernel
theorem dX5_goesOn_98 : decode cX5_goesOn 98 = .ok (.iconst 3, 1) := by decide +kernel
theorem dX5_goesOn_99 : decode cX5_goesOn 99 = .ok (.if_icmp .lt 7, 3) := by decide +kernel
theorem dX5_goesOn_102 : decode cX5_goesOn 102 = .ok (.iconst 1, 1) := by decide +kernel
theorem dX5_goesOn_103 : decode cX5_goesOn 103 = .ok (.goto 4, 3) := by decide +kernel
theorem dX5_goesOn_106 : decode cX5_goesOn 106 = .ok (.iconst 0, 1) := by decide +kernel
theorem dX5_goesOn_107 : decode cX5_goesOn 107 = .ok (.iadd, 1) := by decide +kernel
theorem dX5_goesOn_108 : decode cX5_goesOn 108 = .ok (.putfield 272, 3) := by decide +kernel
theorem dX5_goesOn_111 : decode cX5_goesOn 111 = .ok (.aload_n 0, 1) := by decide +kernel
theorem dX5_goesOn_112 : decode cX5_goesOn 112 = .ok (.getfield 290, 3) := by decide +kernel
theorem dX5_goesOn_115 : decode cX5_goesOn 115 = .ok (.iconst 1, 1) := by decide +kernel
theorem dX5_goesOn_116 : decode cX5_goesOn 116 = .ok (.if_icmp .ne 23, 3) := by decide +kernel
theorem dX5_goesOn_119 : decode cX5_goesOn 119 = .ok (.aload_n 0, 1) := by decide +kernel
theorem dX5_goesOn_120 : decode cX5_goesOn 120 = .ok (.invokevirtual 281, 3) := by decide +kernel
theorem dX5_goesOn_123 : decode cX5_goesOn 123 = .ok (.ifCond .eq 16, 3) := by decide +kernel
theorem dX5_goesOn_126 : decode cX5_goesOn 126 = .ok (.aload_n 0, 1) := by decide +kernel
theorem dX5_goesOn_127 : decode cX5_goesOn 127 = .ok (.dup, 1) := by decide +kernel
theorem dX5_goesOn_128 : decode cX5_goesOn 128 = .ok (.getfield 272, 3) := by decide +kernel
theorem dX5_goesOn_131 : decode cX5_goesOn 131 = .ok (.iconst 1, 1) := by decide +kernel
theorem dX5_goesOn_132 : decode cX5_goesOn 132 = .ok (.iadd, 1) := by decide +kernel
theorem dX5_goesOn_133 : decode cX5_goesOn 133 = .ok (.putfield 272, 3) := by decide +kernel
theorem dX5_goesOn_136 : decode cX5_goesOn 136 = .ok (.goto (-25), 3) := by decide +kernel
theorem dX5_goesOn_139 : decode cX5_goesOn 139 = .ok (.aload_n 0, 1) := by decide +kernel
theorem dX5_goesOn_140 : decode cX5_goesOn 140 = .ok (.getfield 290, 3) := by decide +kernel
theorem dX5_goesOn_143 : decode cX5_goesOn 143 = .ok (.iconst 2, 1) := by decide +kernel
theorem dX5_goesOn_144 : decode cX5_goesOn 144 = .ok (.if_icmp .ne 59, 3) := by decide +kernel
theorem dX5_goesOn_147 : decode cX5_goesOn 147 = .ok (.aload_n 0, 1) := by decide +kernel
theorem dX5_goesOn_148 : decode cX5_goesOn 148 = .ok (.invokevirtual 284, 3) := by decide +kernel
theorem dX5_goesOn_151 : decode cX5_goesOn 151 = .ok (.ifCond .eq 52, 3) := by decide +kernel
theorem dX5_goesOn_154 : decode cX5_goesOn 154 = .ok (.aload_n 0, 1) := by decide +kernel
theorem dX5_goesOn_155 : decode cX5_goesOn 155 = .ok (.aload_n 0, 1) := by decide +kernel
theorem dX5_goesOn_156 : decode cX5_goesOn 156 = .ok (.getfield 293, 3) := by decide +kernel
theorem dX5_goesOn_159 : decode cX5_goesOn 159 = .ok (.sipush 10000, 3) := by decide +kernel
theorem dX5_goesOn_162 : decode cX5_goesOn 162 = .ok (.if_icmp .le 10, 3) := by decide +kernel
theorem dX5_goesOn_165 : decode cX5_goesOn 165 = .ok (.aload_n 0, 1) := by decide +kernel
theorem dX5_goesOn_166 : decode cX5_goesOn 166 = .ok (.getfield 293, 3) := by decide +kernel
theorem dX5_goesOn_169 : decode cX5_goesOn 169 = .ok (.goto 18, 3) := by decide +kernel
theorem dX5_goesOn_172 : decode cX5_goesOn 172 = .ok (.bipush 10, 2) := by decide +kernel
theorem dX5_goesOn_174 : decode cX5_goesOn 174 = .ok (.aload_n 0, 1) := by decide +kernel
theorem dX5_goesOn_175 : decode cX5_goesOn 175 = .ok (.getfield 293, 3) := by decide +kernel
theorem dX5_goesOn_178 : decode cX5_goesOn 178 = .ok (.imul, 1) := by decide +kernel
theorem dX5_goesOn_179 : decode cX5_goesOn 179 = .ok (.aload_n 0, 1) := by decide +kernel
theorem dX5_goesOn_180 : decode cX5_goesOn 180 = .ok (.invokevirtual 275, 3) := by decide +kernel
theorem dX5_goesOn_183 : decode cX5_goesOn 183 = .ok (.iadd, 1) := by decide +kernel
theorem dX5_goesOn_184 : decode cX5_goesOn 184 = .ok (.bipush 48, 2) := by decide +kernel
theorem dX5_goesOn_186 : decode cX5_goesOn 186 = .ok (.isub, 1) := by decide +kernel
theorem dX5_goesOn_187 : decode cX5_goesOn 187 = .ok (.putfield 293, 3) := by decide +kernel
theorem dX5_goesOn_190 : decode cX5_goesOn 190 = .ok (.aload_n 0, 1) := by decide +kernel
theorem dX5_goesOn_191 : decode cX5_goesOn 191 = .ok (.dup, 1) := by decide +kernel
theorem dX5_goesOn_192 : decode cX5_goesOn 192 = .ok (.getfield 272, 3) := by decide +kernel
theorem dX5_goesOn_195 : decode cX5_goesOn 195 = .ok (.iconst 1, 1) := by decide +kernel
theorem dX5_goesOn_196 : decode cX5_goesOn 196 = .ok (.iadd, 1) := by decide +kernel
theorem dX5_goesOn_197 : decode cX5_goesOn 197 = .ok (.putfield 272, 3) := by decide +kernel
theorem dX5_goesOn_200 : decode cX5_goesOn 200 = .ok (.goto (-61), 3) := by decide +kernel
theorem dX5_goesOn_203 : decode cX5_goesOn 203 = .ok (.return_, 1) := by decide +kernel
theorem dX5_fails_0 : decode cX5_fails 0 = .ok (.aload_n 0, 1) := by decide +kernel
theorem dX5_fails_1 : decode cX5_fails 1 = .ok (.getfield 296, 3) := by decide +kernel
theorem dX5_fails_4 : decode cX5_fails 4 = .ok (.ifCond .ne 16, 3) := by decide +kernel
theorem dX5_fails_7 : decode cX5_fails 7 = .ok (.aload_n 0, 1) := by decide +kernel
theorem dX5_fails_8 : decode cX5_fails 8 = .ok (.iload_n 1, 1) := by decide +kernel
theorem dX5_fails_9 : decode cX5_fails 9 = .ok (.putfield 296, 3) := by decide +kernel
theorem dX5_fails_12 : decode cX5_fails 12 = .ok (.aload_n 0, 1) := by decide +kernel
theorem dX5_fails_13 : decode cX5_fails 13 = .ok (.aload_n 0, 1) := by decide +kernel
theorem dX5_fails_14 : decode cX5_fails 14 = .ok (.getfield 278, 3) := by decide +kernel
theorem dX5_fails_17 : decode cX5_fails 17 = .ok (.putfield 39, 3) := by decide +kernel
theorem dX5_fails_20 : decode cX5_fails 20 = .ok (.return_, 1) := by decide +kernel
theorem dX5_must_0 : decode cX5_must 0 = .ok (.iload_n 1, 1) := by decide +kernel
theorem dX5_must_1 : decode cX5_must 1 = .ok (.ifCond .ne 8, 3) := by decide +kernel
theorem dX5_must_4 : decode cX5_must 4 = .ok (.aload_n 0, 1) := by decide +kernel
theorem dX5_must_5 : decode cX5_must 5 = .ok (.iload_n 2, 1) := by decide +kernel
theorem dX5_must_6 : decode cX5_must 6 = .ok (.invokevirtual 299, 3) := by decide +kernel
theorem dX5_must_9 : decode cX5_must 9 = .ok (.return_, 1) := by decide +kernel
theorem dX5_wordHere_0 : decode cX5_wordHere 0 = .ok (.iconst 0, 1) := by decide +kernel
theorem dX5_wordHere_1 : decode cX5_wordHere 1 = .ok (.istore_n 1, 1) := by decide +kernel
theorem dX5_wordHere_2 : decode cX5_wordHere 2 = .ok (.iconst 0, 1) := by decide +kernel
theorem dX5_wordHere_3 : decode cX5_wordHere 3 = .ok (.istore_n 2, 1) := by decide +kernel
theorem dX5_wordHere_4 : decode cX5_wordHere 4 = .ok (.aload_n 0, 1) := by decide +kernel
theorem dX5_wordHere_5 : decode cX5_wordHere 5 = .ok (.getfield 290, 3) := by decide +kernel
theorem dX5_wordHere_8 : decode cX5_wordHere 8 = .ok (.iconst 1, 1) := by decide +kernel
theorem dX5_wordHere_9 : decode cX5_wordHere 9 = .ok (.if_icmp .ne 112, 3) := by decide +kernel
theorem dX5_wordHere_12 : decode cX5_wordHere 12 = .ok (.iload_n 2, 1) := by decide +kernel
theorem dX5_wordHere_13 : decode cX5_wordHere 13 = .ok (.bipush 12, 2) := by decide +kernel
theorem dX5_wordHere_15 : decode cX5_wordHere 15 = .ok (.if_icmp .ge 106, 3) := by decide +kernel
theorem dX5_wordHere_18 : decode cX5_wordHere 18 = .ok (.iconst 0, 1) := by decide +kernel
theorem dX5_wordHere_19 : decode cX5_wordHere 19 = .ok (.istore_n 3, 1) := by decide +kernel
theorem dX5_wordHere_20 : decode cX5_wordHere 20 = .ok (.iconst 1, 1) := by decide +kernel
theorem dX5_wordHere_21 : decode cX5_wordHere 21 = .ok (.istore 4, 2) := by decide +kernel
theorem dX5_wordHere_23 : decode cX5_wordHere 23 = .ok (.aload_n 0, 1) := by decide +kernel
theorem dX5_wordHere_24 : decode cX5_wordHere 24 = .ok (.getfield 43, 3) := by decide +kernel
theorem dX5_wordHere_27 : decode cX5_wordHere 27 = .ok (.iload_n 1, 1) := by decide +kernel
theorem dX5_wordHere_28 : decode cX5_wordHere 28 = .ok (.iload_n 3, 1) := by decide +kernel
theorem dX5_wordHere_29 : decode cX5_wordHere 29 = .ok (.iadd, 1) := by decide +kernel
theorem dX5_wordHere_30 : decode cX5_wordHere 30 = .ok (.baload, 1) := by decide +kernel
theorem dX5_wordHere_31 : decode cX5_wordHere 31 = .ok (.bipush 32, 2) := by decide +kernel
theorem dX5_wordHere_33 : decode cX5_wordHere 33 = .ok (.if_icmp .eq 56, 3) := by decide +kernel
theorem dX5_wordHere_36 : decode cX5_wordHere 36 = .ok (.iload 4, 2) := by decide +kernel
theorem dX5_wordHere_38 : decode cX5_wordHere 38 = .ok (.ifCond .eq 42, 3) := by decide +kernel
theorem dX5_wordHere_41 : decode cX5_wordHere 41 = .ok (.aload_n 0, 1) := by decide +kernel
theorem dX5_wordHere_42 : decode cX5_wordHere 42 = .ok (.getfield 278, 3) := by decide +kernel
theorem dX5_wordHere_45 : decode cX5_wordHere 45 = .ok (.iload_n 3, 1) := by decide +kernel
theorem dX5_wordHere_46 : decode cX5_wordHere 46 = .ok (.iadd, 1) := by decide +kernel
theorem dX5_wordHere_47 : decode cX5_wordHere 47 = .ok (.aload_n 0, 1) := by decide +kernel
theorem dX5_wordHere_48 : decode cX5_wordHere 48 = .ok (.getfield 272, 3) := by decide +kernel
theorem dX5_wordHere_51 : decode cX5_wordHere 51 = .ok (.if_icmp .ge 29, 3) := by decide +kernel
theorem dX5_wordHere_54 : decode cX5_wordHere 54 = .ok (.aload_n 0, 1) := by decide +kernel
theorem dX5_wordHere_55 : decode cX5_wordHere 55 = .ok (.getfield 35, 3) := by decide +kernel
theorem dX5_wordHere_58 : decode cX5_wordHere 58 = .ok (.aload_n 0, 1) := by decide +kernel
theorem dX5_wordHere_59 : decode cX5_wordHere 59 = .ok (.getfield 278, 3) := by decide +kernel
theorem dX5_wordHere_62 : decode cX5_wordHere 62 = .ok (.iload_n 3, 1) := by decide +kernel
theorem dX5_wordHere_63 : decode cX5_wordHere 63 = .ok (.iadd, 1) := by decide +kernel
theorem dX5_wordHere_64 : decode cX5_wordHere 64 = .ok (.baload, 1) := by decide +kernel
theorem dX5_wordHere_65 : decode cX5_wordHere 65 = .ok (.aload_n 0, 1) := by decide +kernel
theorem dX5_wordHere_66 : decode cX5_wordHere 66 = .ok (.getfield 43, 3) := by decide +kernel
theorem dX5_wordHere_69 : decode cX5_wordHere 69 = .ok (.iload_n 1, 1) := by decide +kernel
theorem dX5_wordHere_70 : decode cX5_wordHere 70 = .ok (.iload_n 3, 1) := by decide +kernel
theorem dX5_wordHere_71 : decode cX5_wordHere 71 = .ok (.iadd, 1) := by decide +kernel
theorem dX5_wordHere_72 : decode cX5_wordHere 72 = .ok (.baload, 1) := by decide +kernel
theorem dX5_wordHere_73 : decode cX5_wordHere 73 = .ok (.if_icmp .ne 7, 3) := by decide +kernel
theorem dX5_wordHere_76 : decode cX5_wordHere 76 = .ok (.iconst 1, 1) := by decide +kernel
theorem dX5_wordHere_77 : decode cX5_wordHere 77 = .ok (.goto 4, 3) := by decide +kernel
theorem dX5_wordHere_80 : decode cX5_wordHere 80 = .ok (.iconst 0, 1) := by decide +kernel
theorem dX5_wordHere_81 : decode cX5_wordHere 81 = .ok (.istore 4, 2) := by decide +kernel
theorem dX5_wordHere_83 : decode cX5_wordHere 83 = .ok (.iinc 3 1, 3) := by decide +kernel
theorem dX5_wordHere_86 : decode cX5_wordHere 86 = .ok (.goto (-63), 3) := by decide +kernel
theorem dX5_wordHere_89 : decode cX5_wordHere 89 = .ok (.iload 4, 2) := by decide +kernel
theorem dX5_wordHere_91 : decode cX5_wordHere 91 = .ok (.ifCond .eq 18, 3) := by decide +kernel
theorem dX5_wordHere_94 : decode cX5_wordHere 94 = .ok (.aload_n 0, 1) := by decide +kernel
theorem dX5_wordHere_95 : decode cX5_wordHere 95 = .ok (.getfield 272, 3) := by decide +kernel
theorem dX5_wordHere_98 : decode cX5_wordHere 98 = .ok (.aload_n 0, 1) := by decide +kernel
theorem dX5_wordHere_99 : decode cX5_wordHere 99 = .ok (.getfield 278, 3) := by decide +kernel
theorem dX5_wordHere_102 : decode cX5_wordHere 102 = .ok (.isub, 1) := by decide +kernel
theorem dX5_wordHere_103 : decode cX5_wordHere 103 = .ok (.iload_n 3, 1) := by decide +kernel
theorem dX5_wordHere_104 : decode cX5_wordHere 104 = .ok (.if_icmp .ne 5, 3) := by decide +kernel
theorem dX5_wordHere_107 : decode cX5_wordHere 107 = .ok (.iload_n 2, 1) := by decide +kernel
theorem dX5_wordHere_108 : decode cX5_wordHere 108 = .ok (.ireturn, 1) := by decide +kernel
theorem dX5_wordHere_109 : decode cX5_wordHere 109 = .ok (.iload_n 1, 1) := by decide +kernel
theorem dX5_wordHere_110 : decode cX5_wordHere 110 = .ok (.iload_n 3, 1) := by decide +kernel
theorem dX5_wordHere_111 : decode cX5_wordHere 111 = .ok (.iconst 1, 1) := by decide +kernel
theorem dX5_wordHere_112 : decode cX5_wordHere 112 = .ok (.iadd, 1) := by decide +kernel
theorem dX5_wordHere_113 : decode cX5_wordHere 113 = .ok (.iadd, 1) := by decide +kernel
theorem dX5_wordHere_114 : decode cX5_wordHere 114 = .ok (.istore_n 1, 1) := by decide +kernel
theorem dX5_wordHere_115 : decode cX5_wordHere 115 = .ok (.iinc 2 1, 3) := by decide +kernel
theorem dX5_wordHere_118 : decode cX5_wordHere 118 = .ok (.goto (-114), 3) := by decide +kernel
theorem dX5_wordHere_121 : decode cX5_wordHere 121 = .ok (.iconst (-1), 1) := by decide +kernel
theorem dX5_wordHere_122 : decode cX5_wordHere 122 = .ok (.ireturn, 1) := by decide +kernel
theorem dX5_looks_0 : decode cX5_looks 0 = .ok (.aload_n 0, 1) := by decide +kernel
theorem dX5_looks_1 : decode cX5_looks 1 = .ok (.getfield 290, 3) := by decide +kernel
theorem dX5_looks_4 : decode cX5_looks 4 = .ok (.iconst 2, 1) := by decide +kernel
theorem dX5_looks_5 : decode cX5_looks 5 = .ok (.if_icmp .eq 11, 3) := by decide +kernel
theorem dX5_looks_8 : decode cX5_looks 8 = .ok (.aload_n 0, 1) := by decide +kernel
theorem dX5_looks_9 : decode cX5_looks 9 = .ok (.iconst 1, 1) := by decide +kernel
theorem dX5_looks_10 : decode cX5_looks 10 = .ok (.invokevirtual 299, 3) := by decide +kernel
theorem dX5_looks_13 : decode cX5_looks 13 = .ok (.goto 17, 3) := by decide +kernel
theorem dX5_looks_16 : decode cX5_looks 16 = .ok (.iload_n 1, 1) := by decide +kernel
theorem dX5_looks_17 : decode cX5_looks 17 = .ok (.iload_n 2, 1) := by decide +kernel
theorem dX5_looks_18 : decode cX5_looks 18 = .ok (.iload_n 3, 1) := by decide +kernel
theorem dX5_looks_19 : decode cX5_looks 19 = .ok (.invokestatic 144, 3) := by decide +kernel
theorem dX5_looks_22 : decode cX5_looks 22 = .ok (.ifCond .ne 8, 3) := by decide +kernel
theorem dX5_looks_25 : decode cX5_looks 25 = .ok (.aload_n 0, 1) := by decide +kernel
theorem dX5_looks_26 : decode cX5_looks 26 = .ok (.iconst 2, 1) := by decide +kernel
theorem dX5_looks_27 : decode cX5_looks 27 = .ok (.invokevirtual 299, 3) := by decide +kernel
theorem dX5_looks_30 : decode cX5_looks 30 = .ok (.return_, 1) := by decide +kernel
theorem dX5_passesOn_0 : decode cX5_passesOn 0 = .ok (.aload_n 0, 1) := by decide +kernel
theorem dX5_passesOn_1 : decode cX5_passesOn 1 = .ok (.getfield 296, 3) := by decide +kernel
theorem dX5_passesOn_4 : decode cX5_passesOn 4 = .ok (.ifCond .ne 7, 3) := by decide +kernel
theorem dX5_passesOn_7 : decode cX5_passesOn 7 = .ok (.aload_n 0, 1) := by decide +kernel
theorem dX5_passesOn_8 : decode cX5_passesOn 8 = .ok (.invokevirtual 302, 3) := by decide +kernel
theorem dX5_passesOn_11 : decode cX5_passesOn 11 = .ok (.iload_n 1, 1) := by decide +kernel
theorem dX5_passesOn_12 : decode cX5_passesOn 12 = .ok (.ireturn, 1) := by decide +kernel
theorem dX5_reads_0 : decode cX5_reads 0 = .ok (.aload_n 0, 1) := by decide +kernel
theorem dX5_reads_1 : decode cX5_reads 1 = .ok (.aload_n 0, 1) := by decide +kernel
theorem dX5_reads_2 : decode cX5_reads 2 = .ok (.getfield 293, 3) := by decide +kernel
theorem dX5_reads_5 : decode cX5_reads 5 = .ok (.iload_n 1, 1) := by decide +kernel
theorem dX5_reads_6 : decode cX5_reads 6 = .ok (.iload_n 2, 1) := by decide +kernel
theorem dX5_reads_7 : decode cX5_reads 7 = .ok (.invokevirtual 305, 3) := by decide +kernel
theorem dX5_reads_10 : decode cX5_reads 10 = .ok (.aload_n 0, 1) := by decide +kernel
theorem dX5_reads_11 : decode cX5_reads 11 = .ok (.aload_n 0, 1) := by decide +kernel
theorem dX5_reads_12 : decode cX5_reads 12 = .ok (.getfield 293, 3) := by decide +kernel
theorem dX5_reads_15 : decode cX5_reads 15 = .ok (.invokevirtual 308, 3) := by decide +kernel
theorem dX5_reads_18 : decode cX5_reads 18 = .ok (.ireturn, 1) := by decide +kernel
theorem dX5_readInt_0 : decode cX5_readInt 0 = .ok (.aload_n 0, 1) := by decide +kernel
theorem dX5_readInt_1 : decode cX5_readInt 1 = .ok (.getfield 296, 3) := by decide +kernel
theorem dX5_readInt_4 : decode cX5_readInt 4 = .ok (.ifCond .ne 15, 3) := by decide +kernel
theorem dX5_readInt_7 : decode cX5_readInt 7 = .ok (.aload_n 0, 1) := by decide +kernel
theorem dX5_readInt_8 : decode cX5_readInt 8 = .ok (.getfield 290, 3) := by decide +kernel
theorem dX5_readInt_11 : decode cX5_readInt 11 = .ok (.iconst 4, 1) := by decide +kernel
theorem dX5_readInt_12 : decode cX5_readInt 12 = .ok (.if_icmp .ne 7, 3) := by decide +kernel
theorem dX5_readInt_15 : decode cX5_readInt 15 = .ok (.iconst 1, 1) := by decide +kernel
theorem dX5_readInt_16 : decode cX5_readInt 16 = .ok (.goto 4, 3) := by decide +kernel
theorem dX5_readInt_19 : decode cX5_readInt 19 = .ok (.iconst 0, 1) := by decide +kernel
theorem dX5_readInt_20 : decode cX5_readInt 20 = .ok (.istore 4, 2) := by decide +kernel
theorem dX5_readInt_22 : decode cX5_readInt 22 = .ok (.iload 4, 2) := by decide +kernel
theorem dX5_readInt_24 : decode cX5_readInt 24 = .ok (.ifCond .eq 7, 3) := by decide +kernel
theorem dX5_readInt_27 : decode cX5_readInt 27 = .ok (.aload_n 0, 1) := by decide +kernel
theorem dX5_readInt_28 : decode cX5_readInt 28 = .ok (.invokevirtual 302, 3) := by decide +kernel
theorem dX5_readInt_31 : decode cX5_readInt 31 = .ok (.iload 4, 2) := by decide +kernel
theorem dX5_readInt_33 : decode cX5_readInt 33 = .ok (.ifCond .eq 11, 3) := by decide +kernel
theorem dX5_readInt_36 : decode cX5_readInt 36 = .ok (.aload_n 0, 1) := by decide +kernel
theorem dX5_readInt_37 : decode cX5_readInt 37 = .ok (.getfield 293, 3) := by decide +kernel
theorem dX5_readInt_40 : decode cX5_readInt 40 = .ok (.ineg, 1) := by decide +kernel
theorem dX5_readInt_41 : decode cX5_readInt 41 = .ok (.goto 7, 3) := by decide +kernel
theorem dX5_readInt_44 : decode cX5_readInt 44 = .ok (.aload_n 0, 1) := by decide +kernel
theorem dX5_readInt_45 : decode cX5_readInt 45 = .ok (.getfield 293, 3) := by decide +kernel
theorem dX5_readInt_48 : decode cX5_readInt 48 = .ok (.istore 5, 2) := by decide +kernel
theorem dX5_readInt_50 : decode cX5_readInt 50 = .ok (.aload_n 0, 1) := by decide +kernel
theorem dX5_readInt_51 : decode cX5_readInt 51 = .ok (.iload 5, 2) := by decide +kernel
theorem dX5_readInt_53 : decode cX5_readInt 53 = .ok (.iload_n 1, 1) := by decide +kernel
theorem dX5_readInt_54 : decode cX5_readInt 54 = .ok (.iload_n 2, 1) := by decide +kernel
theorem dX5_readInt_55 : decode cX5_readInt 55 = .ok (.invokevirtual 305, 3) := by decide +kernel
theorem dX5_readInt_58 : decode cX5_readInt 58 = .ok (.aload_n 0, 1) := by decide +kernel
theorem dX5_readInt_59 : decode cX5_readInt 59 = .ok (.aload_n 0, 1) := by decide +kernel
theorem dX5_readInt_60 : decode cX5_readInt 60 = .ok (.getfield 296, 3) := by decide +kernel
theorem dX5_readInt_63 : decode cX5_readInt 63 = .ok (.ifCond .gt 12, 3) := by decide +kernel
theorem dX5_readInt_66 : decode cX5_readInt 66 = .ok (.iload 5, 2) := by decide +kernel
theorem dX5_readInt_68 : decode cX5_readInt 68 = .ok (.ifCond .ne 7, 3) := by decide +kernel
theorem dX5_readInt_71 : decode cX5_readInt 71 = .ok (.iload_n 3, 1) := by decide +kernel
theorem dX5_readInt_72 : decode cX5_readInt 72 = .ok (.ifCond .eq 7, 3) := by decide +kernel
theorem dX5_readInt_75 : decode cX5_readInt 75 = .ok (.iconst 1, 1) := by decide +kernel
theorem dX5_readInt_76 : decode cX5_readInt 76 = .ok (.goto 4, 3) := by decide +kernel
theorem dX5_readInt_79 : decode cX5_readInt 79 = .ok (.iconst 0, 1) := by decide +kernel
theorem dX5_readInt_80 : decode cX5_readInt 80 = .ok (.iconst 2, 1) := by decide +kernel
theorem dX5_readInt_81 : decode cX5_readInt 81 = .ok (.invokevirtual 311, 3) := by decide +kernel
theorem dX5_readInt_84 : decode cX5_readInt 84 = .ok (.aload_n 0, 1) := by decide +kernel
theorem dX5_readInt_85 : decode cX5_readInt 85 = .ok (.iload 5, 2) := by decide +kernel
theorem dX5_readInt_87 : decode cX5_readInt 87 = .ok (.invokevirtual 308, 3) := by decide +kernel
theorem dX5_readInt_90 : decode cX5_readInt 90 = .ok (.ireturn, 1) := by decide +kernel
theorem dX5_lowOf_0 : decode cX5_lowOf 0 = .ok (.iload_n 0, 1) := by decide +kernel
theorem dX5_lowOf_1 : decode cX5_lowOf 1 = .ok (.ifCond .ne 7, 3) := by decide +kernel
theorem dX5_lowOf_4 : decode cX5_lowOf 4 = .ok (.iconst 2, 1) := by decide +kernel
theorem dX5_lowOf_5 : decode cX5_lowOf 5 = .ok (.goto 18, 3) := by decide +kernel
theorem dX5_lowOf_8 : decode cX5_lowOf 8 = .ok (.iload_n 0, 1) := by decide +kernel
theorem dX5_lowOf_9 : decode cX5_lowOf 9 = .ok (.iconst 1, 1) := by decide +kernel
theorem dX5_lowOf_10 : decode cX5_lowOf 10 = .ok (.if_icmp .eq 8, 3) := by decide +kernel
theorem dX5_lowOf_13 : decode cX5_lowOf 13 = .ok (.iload_n 0, 1) := by decide +kernel
theorem dX5_lowOf_14 : decode cX5_lowOf 14 = .ok (.iconst 4, 1) := by decide +kernel
theorem dX5_lowOf_15 : decode cX5_lowOf 15 = .ok (.if_icmp .ne 7, 3) := by decide +kernel
theorem dX5_lowOf_18 : decode cX5_lowOf 18 = .ok (.iconst 0, 1) := by decide +kernel
theorem dX5_lowOf_19 : decode cX5_lowOf 19 = .ok (.goto 4, 3) := by decide +kernel
theorem dX5_lowOf_22 : decode cX5_lowOf 22 = .ok (.iconst 1, 1) := by decide +kernel
theorem dX5_lowOf_23 : decode cX5_lowOf 23 = .ok (.ireturn, 1) := by decide +kernel
theorem dX5_highOf_0 : decode cX5_highOf 0 = .ok (.iload_n 0, 1) := by decide +kernel
theorem dX5_highOf_1 : decode cX5_highOf 1 = .ok (.ifCond .ne 7, 3) := by decide +kernel
theorem dX5_highOf_4 : decode cX5_highOf 4 = .ok (.iconst 5, 1) := by decide +kernel
theorem dX5_highOf_5 : decode cX5_highOf 5 = .ok (.goto 44, 3) := by decide +kernel
theorem dX5_highOf_8 : decode cX5_highOf 8 = .ok (.iload_n 0, 1) := by decide +kernel
theorem dX5_highOf_9 : decode cX5_highOf 9 = .ok (.iconst 1, 1) := by decide +kernel
theorem dX5_highOf_10 : decode cX5_highOf 10 = .ok (.if_icmp .ne 8, 3) := by decide +kernel
theorem dX5_highOf_13 : decode cX5_highOf 13 = .ok (.bipush 9, 2) := by decide +kernel
theorem dX5_highOf_15 : decode cX5_highOf 15 = .ok (.goto 34, 3) := by decide +kernel
theorem dX5_highOf_18 : decode cX5_highOf 18 = .ok (.iload_n 0, 1) := by decide +kernel
theorem dX5_highOf_19 : decode cX5_highOf 19 = .ok (.iconst 2, 1) := by decide +kernel
theorem dX5_highOf_20 : decode cX5_highOf 20 = .ok (.if_icmp .ne 8, 3) := by decide +kernel
theorem dX5_highOf_23 : decode cX5_highOf 23 = .ok (.bipush 60, 2) := by decide +kernel
theorem dX5_highOf_25 : decode cX5_highOf 25 = .ok (.goto 24, 3) := by decide +kernel
theorem dX5_highOf_28 : decode cX5_highOf 28 = .ok (.iload_n 0, 1) := by decide +kernel
theorem dX5_highOf_29 : decode cX5_highOf 29 = .ok (.iconst 3, 1) := by decide +kernel
theorem dX5_highOf_30 : decode cX5_highOf 30 = .ok (.if_icmp .ne 8, 3) := by decide +kernel
theorem dX5_highOf_33 : decode cX5_highOf 33 = .ok (.bipush 20, 2) := by decide +kernel
theorem dX5_highOf_35 : decode cX5_highOf 35 = .ok (.goto 14, 3) := by decide +kernel
theorem dX5_highOf_38 : decode cX5_highOf 38 = .ok (.iload_n 0, 1) := by decide +kernel
theorem dX5_highOf_39 : decode cX5_highOf 39 = .ok (.iconst 4, 1) := by decide +kernel
theorem dX5_highOf_40 : decode cX5_highOf 40 = .ok (.if_icmp .ne 7, 3) := by decide +kernel
theorem dX5_highOf_43 : decode cX5_highOf 43 = .ok (.iconst 4, 1) := by decide +kernel
theorem dX5_highOf_44 : decode cX5_highOf 44 = .ok (.goto 5, 3) := by decide +kernel
theorem dX5_highOf_47 : decode cX5_highOf 47 = .ok (.bipush 40, 2) := by decide +kernel
theorem dX5_highOf_49 : decode cX5_highOf 49 = .ok (.ireturn, 1) := by decide +kernel
theorem dX5_readSetting_0 : decode cX5_readSetting 0 = .ok (.iload_n 1, 1) := by decide +kernel
theorem dX5_readSetting_1 : decode cX5_readSetting 1 = .ok (.iconst 5, 1) := by decide +kernel
theorem dX5_readSetting_2 : decode cX5_readSetting 2 = .ok (.if_icmp .ne 8, 3) := by decide +kernel
theorem dX5_readSetting_5 : decode cX5_readSetting 5 = .ok (.bipush 6, 2) := by decide +kernel
theorem dX5_readSetting_7 : decode cX5_readSetting 7 = .ok (.goto 4, 3) := by decide +kernel
theorem dX5_readSetting_10 : decode cX5_readSetting 10 = .ok (.iload_n 1, 1) := by decide +kernel
theorem dX5_readSetting_11 : decode cX5_readSetting 11 = .ok (.istore_n 2, 1) := by decide +kernel
theorem dX5_readSetting_12 : decode cX5_readSetting 12 = .ok (.aload_n 0, 1) := by decide +kernel
theorem dX5_readSetting_13 : decode cX5_readSetting 13 = .ok (.aload_n 0, 1) := by decide +kernel
theorem dX5_readSetting_14 : decode cX5_readSetting 14 = .ok (.getfield 315, 3) := by decide +kernel
theorem dX5_readSetting_17 : decode cX5_readSetting 17 = .ok (.iload_n 1, 1) := by decide +kernel
theorem dX5_readSetting_18 : decode cX5_readSetting 18 = .ok (.ishr, 1) := by decide +kernel
theorem dX5_readSetting_19 : decode cX5_readSetting 19 = .ok (.iconst 1, 1) := by decide +kernel
theorem dX5_readSetting_20 : decode cX5_readSetting 20 = .ok (.iand, 1) := by decide +kernel
theorem dX5_readSetting_21 : decode cX5_readSetting 21 = .ok (.ifCond .ne 18, 3) := by decide +kernel
theorem dX5_readSetting_24 : decode cX5_readSetting 24 = .ok (.iload_n 1, 1) := by decide +kernel
theorem dX5_readSetting_25 : decode cX5_readSetting 25 = .ok (.ifCond .ne 10, 3) := by decide +kernel
theorem dX5_readSetting_28 : decode cX5_readSetting 28 = .ok (.aload_n 0, 1) := by decide +kernel
theorem dX5_readSetting_29 : decode cX5_readSetting 29 = .ok (.getfield 318, 3) := by decide +kernel
theorem dX5_readSetting_32 : decode cX5_readSetting 32 = .ok (.ifCond .ne 7, 3) := by decide +kernel
theorem dX5_readSetting_35 : decode cX5_readSetting 35 = .ok (.iconst 1, 1) := by decide +kernel
theorem dX5_readSetting_36 : decode cX5_readSetting 36 = .ok (.goto 4, 3) := by decide +kernel
theorem dX5_readSetting_39 : decode cX5_readSetting 39 = .ok (.iconst 0, 1) := by decide +kernel
theorem dX5_readSetting_40 : decode cX5_readSetting 40 = .ok (.iconst 3, 1) := by decide +kernel
theorem dX5_readSetting_41 : decode cX5_readSetting 41 = .ok (.invokevirtual 311, 3) := by decide +kernel
theorem dX5_readSetting_44 : decode cX5_readSetting 44 = .ok (.aload_n 0, 1) := by decide +kernel
theorem dX5_readSetting_45 : decode cX5_readSetting 45 = .ok (.getfield 296, 3) := by decide +kernel
theorem dX5_readSetting_48 : decode cX5_readSetting 48 = .ok (.ifCond .le 4, 3) := by decide +kernel
theorem dX5_readSetting_51 : decode cX5_readSetting 51 = .ok (.return_, 1) := by decide +kernel
theorem dX5_readSetting_52 : decode cX5_readSetting 52 = .ok (.aload_n 0, 1) := by decide +kernel
theorem dX5_readSetting_53 : decode cX5_readSetting 53 = .ok (.dup, 1) := by decide +kernel
theorem dX5_readSetting_54 : decode cX5_readSetting 54 = .ok (.getfield 315, 3) := by decide +kernel
theorem dX5_readSetting_57 : decode cX5_readSetting 57 = .ok (.iconst 1, 1) := by decide +kernel
theorem dX5_readSetting_58 : decode cX5_readSetting 58 = .ok (.iload_n 1, 1) := by decide +kernel
theorem dX5_readSetting_59 : decode cX5_readSetting 59 = .ok (.ishl, 1) := by decide +kernel
theorem dX5_readSetting_60 : decode cX5_readSetting 60 = .ok (.ior, 1) := by decide +kernel
theorem dX5_readSetting_61 : decode cX5_readSetting 61 = .ok (.putfield 315, 3) := by decide +kernel
theorem dX5_readSetting_64 : decode cX5_readSetting 64 = .ok (.aload_n 0, 1) := by decide +kernel
theorem dX5_readSetting_65 : decode cX5_readSetting 65 = .ok (.invokevirtual 302, 3) := by decide +kernel
theorem dX5_readSetting_68 : decode cX5_readSetting 68 = .ok (.aload_n 0, 1) := by decide +kernel
theorem dX5_readSetting_69 : decode cX5_readSetting 69 = .ok (.getfield 7, 3) := by decide +kernel
theorem dX5_readSetting_72 : decode cX5_readSetting 72 = .ok (.iload_n 2, 1) := by decide +kernel
theorem dX5_readSetting_73 : decode cX5_readSetting 73 = .ok (.aload_n 0, 1) := by decide +kernel
theorem dX5_readSetting_74 : decode cX5_readSetting 74 = .ok (.iload_n 2, 1) := by decide +kernel
theorem dX5_readSetting_75 : decode cX5_readSetting 75 = .ok (.invokestatic 321, 3) := by decide +kernel
theorem dX5_readSetting_78 : decode cX5_readSetting 78 = .ok (.iload_n 2, 1) := by decide +kernel
theorem dX5_readSetting_79 : decode cX5_readSetting 79 = .ok (.invokestatic 324, 3) := by decide +kernel
theorem dX5_readSetting_82 : decode cX5_readSetting 82 = .ok (.invokevirtual 327, 3) := by decide +kernel
theorem dX5_readSetting_85 : decode cX5_readSetting 85 = .ok (.iastore, 1) := by decide +kernel
theorem dX5_readSetting_86 : decode cX5_readSetting 86 = .ok (.iload_n 1, 1) := by decide +kernel
theorem dX5_readSetting_87 : decode cX5_readSetting 87 = .ok (.iconst 4, 1) := by decide +kernel
theorem dX5_readSetting_88 : decode cX5_readSetting 88 = .ok (.if_icmp .ne 16, 3) := by decide +kernel
theorem dX5_readSetting_91 : decode cX5_readSetting 91 = .ok (.aload_n 0, 1) := by decide +kernel
theorem dX5_readSetting_92 : decode cX5_readSetting 92 = .ok (.getfield 7, 3) := by decide +kernel
theorem dX5_readSetting_95 : decode cX5_readSetting 95 = .ok (.iconst 5, 1) := by decide +kernel
theorem dX5_readSetting_96 : decode cX5_readSetting 96 = .ok (.aload_n 0, 1) := by decide +kernel
theorem dX5_readSetting_97 : decode cX5_readSetting 97 = .ok (.iconst 0, 1) := by decide +kernel
theorem dX5_readSetting_98 : decode cX5_readSetting 98 = .ok (.bipush 20, 2) := by decide +kernel
theorem dX5_readSetting_100 : decode cX5_readSetting 100 = .ok (.invokevirtual 327, 3) := by decide +kernel
theorem dX5_readSetting_103 : decode cX5_readSetting 103 = .ok (.iastore, 1) := by decide +kernel
theorem dX5_readSetting_104 : decode cX5_readSetting 104 = .ok (.return_, 1) := by decide +kernel
theorem dX5_readStart_0 : decode cX5_readStart 0 = .ok (.aload_n 0, 1) := by decide +kernel
theorem dX5_readStart_1 : decode cX5_readStart 1 = .ok (.invokevirtual 302, 3) := by decide +kernel
theorem dX5_readStart_4 : decode cX5_readStart 4 = .ok (.aload_n 0, 1) := by decide +kernel
theorem dX5_readStart_5 : decode cX5_readStart 5 = .ok (.bipush (-30), 2) := by decide +kernel
theorem dX5_readStart_7 : decode cX5_readStart 7 = .ok (.bipush 30, 2) := by decide +kernel
theorem dX5_readStart_9 : decode cX5_readStart 9 = .ok (.iconst 1, 1) := by decide +kernel
theorem dX5_readStart_10 : decode cX5_readStart 10 = .ok (.invokevirtual 330, 3) := by decide +kernel
theorem dX5_readStart_13 : decode cX5_readStart 13 = .ok (.istore_n 1, 1) := by decide +kernel
theorem dX5_readStart_14 : decode cX5_readStart 14 = .ok (.aload_n 0, 1) := by decide +kernel
theorem dX5_readStart_15 : decode cX5_readStart 15 = .ok (.aload_n 0, 1) := by decide +kernel
theorem dX5_readStart_16 : decode cX5_readStart 16 = .ok (.getfield 293, 3) := by decide +kernel
theorem dX5_readStart_19 : decode cX5_readStart 19 = .ok (.iconst 0, 1) := by decide +kernel
theorem dX5_readStart_20 : decode cX5_readStart 20 = .ok (.aload_n 0, 1) := by decide +kernel
theorem dX5_readStart_21 : decode cX5_readStart 21 = .ok (.getfield 7, 3) := by decide +kernel
theorem dX5_readStart_24 : decode cX5_readStart 24 = .ok (.iconst 0, 1) := by decide +kernel
theorem dX5_readStart_25 : decode cX5_readStart 25 = .ok (.iaload, 1) := by decide +kernel
theorem dX5_readStart_26 : decode cX5_readStart 26 = .ok (.iconst 1, 1) := by decide +kernel
theorem dX5_readStart_27 : decode cX5_readStart 27 = .ok (.isub, 1) := by decide +kernel
theorem dX5_readStart_28 : decode cX5_readStart 28 = .ok (.invokevirtual 305, 3) := by decide +kernel
theorem dX5_readStart_31 : decode cX5_readStart 31 = .ok (.aload_n 0, 1) := by decide +kernel
theorem dX5_readStart_32 : decode cX5_readStart 32 = .ok (.aload_n 0, 1) := by decide +kernel
theorem dX5_readStart_33 : decode cX5_readStart 33 = .ok (.getfield 296, 3) := by decide +kernel
theorem dX5_readStart_36 : decode cX5_readStart 36 = .ok (.ifCond .gt 17, 3) := by decide +kernel
theorem dX5_readStart_39 : decode cX5_readStart 39 = .ok (.aload_n 0, 1) := by decide +kernel
theorem dX5_readStart_40 : decode cX5_readStart 40 = .ok (.getfield 318, 3) := by decide +kernel
theorem dX5_readStart_43 : decode cX5_readStart 43 = .ok (.aload_n 0, 1) := by decide +kernel
theorem dX5_readStart_44 : decode cX5_readStart 44 = .ok (.getfield 293, 3) := by decide +kernel
theorem dX5_readStart_47 : decode cX5_readStart 47 = .ok (.ishr, 1) := by decide +kernel
theorem dX5_readStart_48 : decode cX5_readStart 48 = .ok (.iconst 1, 1) := by decide +kernel
theorem dX5_readStart_49 : decode cX5_readStart 49 = .ok (.iand, 1) := by decide +kernel
theorem dX5_readStart_50 : decode cX5_readStart 50 = .ok (.ifCond .ne 7, 3) := by decide +kernel
theorem dX5_readStart_53 : decode cX5_readStart 53 = .ok (.iconst 1, 1) := by decide +kernel
theorem dX5_readStart_54 : decode cX5_readStart 54 = .ok (.goto 4, 3) := by decide +kernel
theorem dX5_readStart_57 : decode cX5_readStart 57 = .ok (.iconst 0, 1) := by decide +kernel
theorem dX5_readStart_58 : decode cX5_readStart 58 = .ok (.iconst 4, 1) := by decide +kernel
theorem dX5_readStart_59 : decode cX5_readStart 59 = .ok (.invokevirtual 311, 3) := by decide +kernel
theorem dX5_readStart_62 : decode cX5_readStart 62 = .ok (.aload_n 0, 1) := by decide +kernel
theorem dX5_readStart_63 : decode cX5_readStart 63 = .ok (.aload_n 0, 1) := by decide +kernel
theorem dX5_readStart_64 : decode cX5_readStart 64 = .ok (.getfield 293, 3) := by decide +kernel
theorem dX5_readStart_67 : decode cX5_readStart 67 = .ok (.invokevirtual 308, 3) := by decide +kernel
theorem dX5_readStart_70 : decode cX5_readStart 70 = .ok (.istore_n 2, 1) := by decide +kernel
theorem dX5_readStart_71 : decode cX5_readStart 71 = .ok (.aload_n 0, 1) := by decide +kernel
theorem dX5_readStart_72 : decode cX5_readStart 72 = .ok (.getfield 296, 3) := by decide +kernel
theorem dX5_readStart_75 : decode cX5_readStart 75 = .ok (.ifCond .ne 25, 3) := by decide +kernel
theorem dX5_readStart_78 : decode cX5_readStart 78 = .ok (.aload_n 0, 1) := by decide +kernel
theorem dX5_readStart_79 : decode cX5_readStart 79 = .ok (.getfield 7, 3) := by decide +kernel
theorem dX5_readStart_82 : decode cX5_readStart 82 = .ok (.bipush 11, 2) := by decide +kernel
theorem dX5_readStart_84 : decode cX5_readStart 84 = .ok (.iload_n 2, 1) := by decide +kernel
theorem dX5_readStart_85 : decode cX5_readStart 85 = .ok (.iadd, 1) := by decide +kernel
theorem dX5_readStart_86 : decode cX5_readStart 86 = .ok (.iload_n 1, 1) := by decide +kernel
theorem dX5_readStart_87 : decode cX5_readStart 87 = .ok (.iastore, 1) := by decide +kernel
theorem dX5_readStart_88 : decode cX5_readStart 88 = .ok (.aload_n 0, 1) := by decide +kernel
theorem dX5_readStart_89 : decode cX5_readStart 89 = .ok (.dup, 1) := by decide +kernel
theorem dX5_readStart_90 : decode cX5_readStart 90 = .ok (.getfield 318, 3) := by decide +kernel
theorem dX5_readStart_93 : decode cX5_readStart 93 = .ok (.iconst 1, 1) := by decide +kernel
theorem dX5_readStart_94 : decode cX5_readStart 94 = .ok (.iload_n 2, 1) := by decide +kernel
theorem dX5_readStart_95 : decode cX5_readStart 95 = .ok (.ishl, 1) := by decide +kernel
theorem dX5_readStart_96 : decode cX5_readStart 96 = .ok (.ior, 1) := by decide +kernel
theorem dX5_readStart_97 : decode cX5_readStart 97 = .ok (.putfield 318, 3) := by decide +kernel
theorem dX5_readStart_100 : decode cX5_readStart 100 = .ok (.return_, 1) := by decide +kernel
theorem dX5_opensText_0 : decode cX5_opensText 0 = .ok (.aload_n 0, 1) := by decide +kernel
theorem dX5_opensText_1 : decode cX5_opensText 1 = .ok (.iconst 0, 1) := by decide +kernel
theorem dX5_opensText_2 : decode cX5_opensText 2 = .ok (.putfield 272, 3) := by decide +kernel
theorem dX5_opensText_5 : decode cX5_opensText 5 = .ok (.aload_n 0, 1) := by decide +kernel
theorem dX5_opensText_6 : decode cX5_opensText 6 = .ok (.iconst 0, 1) := by decide +kernel
theorem dX5_opensText_7 : decode cX5_opensText 7 = .ok (.putfield 296, 3) := by decide +kernel
theorem dX5_opensText_10 : decode cX5_opensText 10 = .ok (.aload_n 0, 1) := by decide +kernel
theorem dX5_opensText_11 : decode cX5_opensText 11 = .ok (.iconst (-1), 1) := by decide +kernel
theorem dX5_opensText_12 : decode cX5_opensText 12 = .ok (.putfield 39, 3) := by decide +kernel
theorem dX5_opensText_15 : decode cX5_opensText 15 = .ok (.aload_n 0, 1) := by decide +kernel
theorem dX5_opensText_16 : decode cX5_opensText 16 = .ok (.invokevirtual 302, 3) := by decide +kernel
theorem dX5_opensText_19 : decode cX5_opensText 19 = .ok (.return_, 1) := by decide +kernel
theorem dX5_closesStatement_0 : decode cX5_closesStatement 0 = .ok (.aload_n 0, 1) := by decide +kernel
theorem dX5_closesStatement_1 : decode cX5_closesStatement 1 = .ok (.aload_n 0, 1) := by decide +kernel
theorem dX5_closesStatement_2 : decode cX5_closesStatement 2 = .ok (.getfield 290, 3) := by decide +kernel
theorem dX5_closesStatement_5 : decode cX5_closesStatement 5 = .ok (.iconst 3, 1) := by decide +kernel
theorem dX5_closesStatement_6 : decode cX5_closesStatement 6 = .ok (.if_icmp .ne 7, 3) := by decide +kernel
theorem dX5_closesStatement_9 : decode cX5_closesStatement 9 = .ok (.iconst 1, 1) := by decide +kernel
theorem dX5_closesStatement_10 : decode cX5_closesStatement 10 = .ok (.goto 4, 3) := by decide +kernel
theorem dX5_closesStatement_13 : decode cX5_closesStatement 13 = .ok (.iconst 0, 1) := by decide +kernel
theorem dX5_closesStatement_14 : decode cX5_closesStatement 14 = .ok (.iconst 1, 1) := by decide +kernel
theorem dX5_closesStatement_15 : decode cX5_closesStatement 15 = .ok (.invokevirtual 311, 3) := by decide +kernel
theorem dX5_closesStatement_18 : decode cX5_closesStatement 18 = .ok (.aload_n 0, 1) := by decide +kernel
theorem dX5_closesStatement_19 : decode cX5_closesStatement 19 = .ok (.getfield 296, 3) := by decide +kernel
theorem dX5_closesStatement_22 : decode cX5_closesStatement 22 = .ok (.ifCond .ne 7, 3) := by decide +kernel
theorem dX5_closesStatement_25 : decode cX5_closesStatement 25 = .ok (.aload_n 0, 1) := by decide +kernel
theorem dX5_closesStatement_26 : decode cX5_closesStatement 26 = .ok (.invokevirtual 302, 3) := by decide +kernel
theorem dX5_closesStatement_29 : decode cX5_closesStatement 29 = .ok (.return_, 1) := by decide +kernel
theorem dX5_load_0 : decode cX5_load 0 = .ok (.aload_n 0, 1) := by decide +kernel
theorem dX5_load_1 : decode cX5_load 1 = .ok (.getfield 7, 3) := by decide +kernel
theorem dX5_load_4 : decode cX5_load 4 = .ok (.iconst 0, 1) := by decide +kernel
theorem dX5_load_5 : decode cX5_load 5 = .ok (.aload_n 0, 1) := by decide +kernel
theorem dX5_load_6 : decode cX5_load 6 = .ok (.getfield 13, 3) := by decide +kernel
theorem dX5_load_9 : decode cX5_load 9 = .ok (.iconst 0, 1) := by decide +kernel
theorem dX5_load_10 : decode cX5_load 10 = .ok (.invokestatic 180, 3) := by decide +kernel
theorem dX5_load_13 : decode cX5_load 13 = .ok (.aload_n 0, 1) := by decide +kernel
theorem dX5_load_14 : decode cX5_load 14 = .ok (.invokevirtual 52, 3) := by decide +kernel
theorem dX5_load_17 : decode cX5_load 17 = .ok (.aload_n 0, 1) := by decide +kernel
theorem dX5_load_18 : decode cX5_load 18 = .ok (.invokevirtual 333, 3) := by decide +kernel
theorem dX5_load_21 : decode cX5_load 21 = .ok (.aload_n 0, 1) := by decide +kernel
theorem dX5_load_22 : decode cX5_load 22 = .ok (.iconst 0, 1) := by decide +kernel
theorem dX5_load_23 : decode cX5_load 23 = .ok (.putfield 315, 3) := by decide +kernel
theorem dX5_load_26 : decode cX5_load 26 = .ok (.aload_n 0, 1) := by decide +kernel
theorem dX5_load_27 : decode cX5_load 27 = .ok (.iconst 0, 1) := by decide +kernel
theorem dX5_load_28 : decode cX5_load 28 = .ok (.putfield 318, 3) := by decide +kernel
theorem dX5_load_31 : decode cX5_load 31 = .ok (.iconst 0, 1) := by decide +kernel
theorem dX5_load_32 : decode cX5_load 32 = .ok (.istore_n 1, 1) := by decide +kernel
theorem dX5_load_33 : decode cX5_load 33 = .ok (.aload_n 0, 1) := by decide +kernel
theorem dX5_load_34 : decode cX5_load 34 = .ok (.getfield 296, 3) := by decide +kernel
theorem dX5_load_37 : decode cX5_load 37 = .ok (.ifCond .ne 69, 3) := by decide +kernel
theorem dX5_load_40 : decode cX5_load 40 = .ok (.aload_n 0, 1) := by decide +kernel
theorem dX5_load_41 : decode cX5_load 41 = .ok (.getfield 290, 3) := by decide +kernel
theorem dX5_load_44 : decode cX5_load 44 = .ok (.ifCond .eq 62, 3) := by decide +kernel
theorem dX5_load_47 : decode cX5_load 47 = .ok (.aload_n 0, 1) := by decide +kernel
theorem dX5_load_48 : decode cX5_load 48 = .ok (.invokevirtual 336, 3) := by decide +kernel
theorem dX5_load_51 : decode cX5_load 51 = .ok (.istore_n 2, 1) := by decide +kernel
theorem dX5_load_52 : decode cX5_load 52 = .ok (.aload_n 0, 1) := by decide +kernel
theorem dX5_load_53 : decode cX5_load 53 = .ok (.iload_n 2, 1) := by decide +kernel
theorem dX5_load_54 : decode cX5_load 54 = .ok (.iconst 0, 1) := by decide +kernel
theorem dX5_load_55 : decode cX5_load 55 = .ok (.bipush 6, 2) := by decide +kernel
theorem dX5_load_57 : decode cX5_load 57 = .ok (.invokestatic 144, 3) := by decide +kernel
theorem dX5_load_60 : decode cX5_load 60 = .ok (.iconst 1, 1) := by decide +kernel
theorem dX5_load_61 : decode cX5_load 61 = .ok (.invokevirtual 311, 3) := by decide +kernel
theorem dX5_load_64 : decode cX5_load 64 = .ok (.aload_n 0, 1) := by decide +kernel
theorem dX5_load_65 : decode cX5_load 65 = .ok (.getfield 296, 3) := by decide +kernel
theorem dX5_load_68 : decode cX5_load 68 = .ok (.ifCond .ne 16, 3) := by decide +kernel
theorem dX5_load_71 : decode cX5_load 71 = .ok (.iload_n 2, 1) := by decide +kernel
theorem dX5_load_72 : decode cX5_load 72 = .ok (.bipush 6, 2) := by decide +kernel
theorem dX5_load_74 : decode cX5_load 74 = .ok (.if_icmp .ne 10, 3) := by decide +kernel
theorem dX5_load_77 : decode cX5_load 77 = .ok (.aload_n 0, 1) := by decide +kernel
theorem dX5_load_78 : decode cX5_load 78 = .ok (.invokevirtual 339, 3) := by decide +kernel
theorem dX5_load_81 : decode cX5_load 81 = .ok (.goto 15, 3) := by decide +kernel
theorem dX5_load_84 : decode cX5_load 84 = .ok (.aload_n 0, 1) := by decide +kernel
theorem dX5_load_85 : decode cX5_load 85 = .ok (.getfield 296, 3) := by decide +kernel
theorem dX5_load_88 : decode cX5_load 88 = .ok (.ifCond .ne 8, 3) := by decide +kernel
theorem dX5_load_91 : decode cX5_load 91 = .ok (.aload_n 0, 1) := by decide +kernel
theorem dX5_load_92 : decode cX5_load 92 = .ok (.iload_n 2, 1) := by decide +kernel
theorem dX5_load_93 : decode cX5_load 93 = .ok (.invokevirtual 342, 3) := by decide +kernel
theorem dX5_load_96 : decode cX5_load 96 = .ok (.aload_n 0, 1) := by decide +kernel
theorem dX5_load_97 : decode cX5_load 97 = .ok (.invokevirtual 345, 3) := by decide +kernel
theorem dX5_load_100 : decode cX5_load 100 = .ok (.iinc 1 1, 3) := by decide +kernel
theorem dX5_load_103 : decode cX5_load 103 = .ok (.goto (-70), 3) := by decide +kernel
theorem dX5_load_106 : decode cX5_load 106 = .ok (.aload_n 0, 1) := by decide +kernel
theorem dX5_load_107 : decode cX5_load 107 = .ok (.iconst 0, 1) := by decide +kernel
theorem dX5_load_108 : decode cX5_load 108 = .ok (.putfield 269, 3) := by decide +kernel
theorem dX5_load_111 : decode cX5_load 111 = .ok (.aload_n 0, 1) := by decide +kernel
theorem dX5_load_112 : decode cX5_load 112 = .ok (.iconst 0, 1) := by decide +kernel
theorem dX5_load_113 : decode cX5_load 113 = .ok (.putfield 55, 3) := by decide +kernel
theorem dX5_load_116 : decode cX5_load 116 = .ok (.aload_n 0, 1) := by decide +kernel
theorem dX5_load_117 : decode cX5_load 117 = .ok (.getfield 296, 3) := by decide +kernel
theorem dX5_load_120 : decode cX5_load 120 = .ok (.ifCond .le 18, 3) := by decide +kernel
theorem dX5_load_123 : decode cX5_load 123 = .ok (.aload_n 0, 1) := by decide +kernel
theorem dX5_load_124 : decode cX5_load 124 = .ok (.getfield 13, 3) := by decide +kernel
theorem dX5_load_127 : decode cX5_load 127 = .ok (.iconst 0, 1) := by decide +kernel
theorem dX5_load_128 : decode cX5_load 128 = .ok (.aload_n 0, 1) := by decide +kernel
theorem dX5_load_129 : decode cX5_load 129 = .ok (.getfield 7, 3) := by decide +kernel
theorem dX5_load_132 : decode cX5_load 132 = .ok (.iconst 0, 1) := by decide +kernel
theorem dX5_load_133 : decode cX5_load 133 = .ok (.invokestatic 180, 3) := by decide +kernel
theorem dX5_load_136 : decode cX5_load 136 = .ok (.iconst (-1), 1) := by decide +kernel
theorem dX5_load_137 : decode cX5_load 137 = .ok (.ireturn, 1) := by decide +kernel
theorem dX5_load_138 : decode cX5_load 138 = .ok (.aload_n 0, 1) := by decide +kernel
theorem dX5_load_139 : decode cX5_load 139 = .ok (.iconst 0, 1) := by decide +kernel
theorem dX5_load_140 : decode cX5_load 140 = .ok (.putfield 177, 3) := by decide +kernel
theorem dX5_load_143 : decode cX5_load 143 = .ok (.iload_n 1, 1) := by decide +kernel
theorem dX5_load_144 : decode cX5_load 144 = .ok (.ireturn, 1) := by decide +kernel
theorem dX5_readClaim_0 : decode cX5_readClaim 0 = .ok (.aload_n 0, 1) := by decide +kernel
theorem dX5_readClaim_1 : decode cX5_readClaim 1 = .ok (.invokevirtual 336, 3) := by decide +kernel
theorem dX5_readClaim_4 : decode cX5_readClaim 4 = .ok (.istore_n 2, 1) := by decide +kernel
theorem dX5_readClaim_5 : decode cX5_readClaim 5 = .ok (.aload_n 0, 1) := by decide +kernel
theorem dX5_readClaim_6 : decode cX5_readClaim 6 = .ok (.iload_n 2, 1) := by decide +kernel
theorem dX5_readClaim_7 : decode cX5_readClaim 7 = .ok (.bipush 10, 2) := by decide +kernel
theorem dX5_readClaim_9 : decode cX5_readClaim 9 = .ok (.if_icmp .eq 9, 3) := by decide +kernel
theorem dX5_readClaim_12 : decode cX5_readClaim 12 = .ok (.iload_n 2, 1) := by decide +kernel
theorem dX5_readClaim_13 : decode cX5_readClaim 13 = .ok (.bipush 11, 2) := by decide +kernel
theorem dX5_readClaim_15 : decode cX5_readClaim 15 = .ok (.if_icmp .ne 7, 3) := by decide +kernel
theorem dX5_readClaim_18 : decode cX5_readClaim 18 = .ok (.iconst 1, 1) := by decide +kernel
theorem dX5_readClaim_19 : decode cX5_readClaim 19 = .ok (.goto 4, 3) := by decide +kernel
theorem dX5_readClaim_22 : decode cX5_readClaim 22 = .ok (.iconst 0, 1) := by decide +kernel
theorem dX5_readClaim_23 : decode cX5_readClaim 23 = .ok (.iconst 1, 1) := by decide +kernel
theorem dX5_readClaim_24 : decode cX5_readClaim 24 = .ok (.invokevirtual 311, 3) := by decide +kernel
theorem dX5_readClaim_27 : decode cX5_readClaim 27 = .ok (.aload_n 0, 1) := by decide +kernel
theorem dX5_readClaim_28 : decode cX5_readClaim 28 = .ok (.iload_n 2, 1) := by decide +kernel
theorem dX5_readClaim_29 : decode cX5_readClaim 29 = .ok (.bipush 11, 2) := by decide +kernel
theorem dX5_readClaim_31 : decode cX5_readClaim 31 = .ok (.if_icmp .ne 7, 3) := by decide +kernel
theorem dX5_readClaim_34 : decode cX5_readClaim 34 = .ok (.iconst 1, 1) := by decide +kernel
theorem dX5_readClaim_35 : decode cX5_readClaim 35 = .ok (.goto 4, 3) := by decide +kernel
theorem dX5_readClaim_38 : decode cX5_readClaim 38 = .ok (.iconst 0, 1) := by decide +kernel
theorem dX5_readClaim_39 : decode cX5_readClaim 39 = .ok (.invokevirtual 308, 3) := by decide +kernel
theorem dX5_readClaim_42 : decode cX5_readClaim 42 = .ok (.istore_n 3, 1) := by decide +kernel
theorem dX5_readClaim_43 : decode cX5_readClaim 43 = .ok (.aload_n 0, 1) := by decide +kernel
theorem dX5_readClaim_44 : decode cX5_readClaim 44 = .ok (.bipush (-20), 2) := by decide +kernel
theorem dX5_readClaim_46 : decode cX5_readClaim 46 = .ok (.bipush 19, 2) := by decide +kernel
theorem dX5_readClaim_48 : decode cX5_readClaim 48 = .ok (.iconst 1, 1) := by decide +kernel
theorem dX5_readClaim_49 : decode cX5_readClaim 49 = .ok (.invokevirtual 330, 3) := by decide +kernel
theorem dX5_readClaim_52 : decode cX5_readClaim 52 = .ok (.istore 4, 2) := by decide +kernel
theorem dX5_readClaim_54 : decode cX5_readClaim 54 = .ok (.aload_n 0, 1) := by decide +kernel
theorem dX5_readClaim_55 : decode cX5_readClaim 55 = .ok (.iload 4, 2) := by decide +kernel
theorem dX5_readClaim_57 : decode cX5_readClaim 57 = .ok (.iconst 1, 1) := by decide +kernel
theorem dX5_readClaim_58 : decode cX5_readClaim 58 = .ok (.iadd, 1) := by decide +kernel
theorem dX5_readClaim_59 : decode cX5_readClaim 59 = .ok (.bipush 20, 2) := by decide +kernel
theorem dX5_readClaim_61 : decode cX5_readClaim 61 = .ok (.iconst 1, 1) := by decide +kernel
theorem dX5_readClaim_62 : decode cX5_readClaim 62 = .ok (.invokevirtual 330, 3) := by decide +kernel
theorem dX5_readClaim_65 : decode cX5_readClaim 65 = .ok (.istore 5, 2) := by decide +kernel
theorem dX5_readClaim_67 : decode cX5_readClaim 67 = .ok (.aload_n 0, 1) := by decide +kernel
theorem dX5_readClaim_68 : decode cX5_readClaim 68 = .ok (.iconst 0, 1) := by decide +kernel
theorem dX5_readClaim_69 : decode cX5_readClaim 69 = .ok (.iconst 4, 1) := by decide +kernel
theorem dX5_readClaim_70 : decode cX5_readClaim 70 = .ok (.invokevirtual 327, 3) := by decide +kernel
theorem dX5_readClaim_73 : decode cX5_readClaim 73 = .ok (.istore 6, 2) := by decide +kernel
theorem dX5_readClaim_75 : decode cX5_readClaim 75 = .ok (.aload_n 0, 1) := by decide +kernel
theorem dX5_readClaim_76 : decode cX5_readClaim 76 = .ok (.iconst 1, 1) := by decide +kernel
theorem dX5_readClaim_77 : decode cX5_readClaim 77 = .ok (.bipush 9, 2) := by decide +kernel
theorem dX5_readClaim_79 : decode cX5_readClaim 79 = .ok (.invokevirtual 327, 3) := by decide +kernel
theorem dX5_readClaim_82 : decode cX5_readClaim 82 = .ok (.istore 7, 2) := by decide +kernel
theorem dX5_readClaim_84 : decode cX5_readClaim 84 = .ok (.aload_n 0, 1) := by decide +kernel
theorem dX5_readClaim_85 : decode cX5_readClaim 85 = .ok (.getfield 46, 3) := by decide +kernel
theorem dX5_readClaim_88 : decode cX5_readClaim 88 = .ok (.iload_n 1, 1) := by decide +kernel
theorem dX5_readClaim_89 : decode cX5_readClaim 89 = .ok (.iconst 1, 1) := by decide +kernel
theorem dX5_readClaim_90 : decode cX5_readClaim 90 = .ok (.iadd, 1) := by decide +kernel
theorem dX5_readClaim_91 : decode cX5_readClaim 91 = .ok (.iload 4, 2) := by decide +kernel
theorem dX5_readClaim_93 : decode cX5_readClaim 93 = .ok (.iastore, 1) := by decide +kernel
theorem dX5_readClaim_94 : decode cX5_readClaim 94 = .ok (.aload_n 0, 1) := by decide +kernel
theorem dX5_readClaim_95 : decode cX5_readClaim 95 = .ok (.getfield 46, 3) := by decide +kernel
theorem dX5_readClaim_98 : decode cX5_readClaim 98 = .ok (.iload_n 1, 1) := by decide +kernel
theorem dX5_readClaim_99 : decode cX5_readClaim 99 = .ok (.iconst 2, 1) := by decide +kernel
theorem dX5_readClaim_100 : decode cX5_readClaim 100 = .ok (.iadd, 1) := by decide +kernel
theorem dX5_readClaim_101 : decode cX5_readClaim 101 = .ok (.iload 5, 2) := by decide +kernel
theorem dX5_readClaim_103 : decode cX5_readClaim 103 = .ok (.iastore, 1) := by decide +kernel
theorem dX5_readClaim_104 : decode cX5_readClaim 104 = .ok (.aload_n 0, 1) := by decide +kernel
theorem dX5_readClaim_105 : decode cX5_readClaim 105 = .ok (.getfield 46, 3) := by decide +kernel
theorem dX5_readClaim_108 : decode cX5_readClaim 108 = .ok (.iload_n 1, 1) := by decide +kernel
theorem dX5_readClaim_109 : decode cX5_readClaim 109 = .ok (.iconst 3, 1) := by decide +kernel
theorem dX5_readClaim_110 : decode cX5_readClaim 110 = .ok (.iadd, 1) := by decide +kernel
theorem dX5_readClaim_111 : decode cX5_readClaim 111 = .ok (.iload 6, 2) := by decide +kernel
theorem dX5_readClaim_113 : decode cX5_readClaim 113 = .ok (.iastore, 1) := by decide +kernel
theorem dX5_readClaim_114 : decode cX5_readClaim 114 = .ok (.aload_n 0, 1) := by decide +kernel
theorem dX5_readClaim_115 : decode cX5_readClaim 115 = .ok (.getfield 46, 3) := by decide +kernel
theorem dX5_readClaim_118 : decode cX5_readClaim 118 = .ok (.iload_n 1, 1) := by decide +kernel
theorem dX5_readClaim_119 : decode cX5_readClaim 119 = .ok (.iconst 4, 1) := by decide +kernel
theorem dX5_readClaim_120 : decode cX5_readClaim 120 = .ok (.iadd, 1) := by decide +kernel
theorem dX5_readClaim_121 : decode cX5_readClaim 121 = .ok (.iload_n 3, 1) := by decide +kernel
theorem dX5_readClaim_122 : decode cX5_readClaim 122 = .ok (.iastore, 1) := by decide +kernel
theorem dX5_readClaim_123 : decode cX5_readClaim 123 = .ok (.aload_n 0, 1) := by decide +kernel
theorem dX5_readClaim_124 : decode cX5_readClaim 124 = .ok (.getfield 46, 3) := by decide +kernel
theorem dX5_readClaim_127 : decode cX5_readClaim 127 = .ok (.iload_n 1, 1) := by decide +kernel
theorem dX5_readClaim_128 : decode cX5_readClaim 128 = .ok (.iconst 5, 1) := by decide +kernel
theorem dX5_readClaim_129 : decode cX5_readClaim 129 = .ok (.iadd, 1) := by decide +kernel
theorem dX5_readClaim_130 : decode cX5_readClaim 130 = .ok (.iload 7, 2) := by decide +kernel
theorem dX5_readClaim_132 : decode cX5_readClaim 132 = .ok (.iastore, 1) := by decide +kernel
theorem dX5_readClaim_133 : decode cX5_readClaim 133 = .ok (.return_, 1) := by decide +kernel
theorem dX5_readCommand_0 : decode cX5_readCommand 0 = .ok (.aload_n 0, 1) := by decide +kernel
theorem dX5_readCommand_1 : decode cX5_readCommand 1 = .ok (.invokevirtual 336, 3) := by decide +kernel
theorem dX5_readCommand_4 : decode cX5_readCommand 4 = .ok (.istore_n 1, 1) := by decide +kernel
theorem dX5_readCommand_5 : decode cX5_readCommand 5 = .ok (.aload_n 0, 1) := by decide +kernel
theorem dX5_readCommand_6 : decode cX5_readCommand 6 = .ok (.iload_n 1, 1) := by decide +kernel
theorem dX5_readCommand_7 : decode cX5_readCommand 7 = .ok (.bipush 7, 2) := by decide +kernel
theorem dX5_readCommand_9 : decode cX5_readCommand 9 = .ok (.bipush 9, 2) := by decide +kernel
theorem dX5_readCommand_11 : decode cX5_readCommand 11 = .ok (.invokestatic 144, 3) := by decide +kernel
theorem dX5_readCommand_14 : decode cX5_readCommand 14 = .ok (.iconst 1, 1) := by decide +kernel
theorem dX5_readCommand_15 : decode cX5_readCommand 15 = .ok (.invokevirtual 311, 3) := by decide +kernel
theorem dX5_readCommand_18 : decode cX5_readCommand 18 = .ok (.aload_n 0, 1) := by decide +kernel
theorem dX5_readCommand_19 : decode cX5_readCommand 19 = .ok (.aload_n 0, 1) := by decide +kernel
theorem dX5_readCommand_20 : decode cX5_readCommand 20 = .ok (.getfield 348, 3) := by decide +kernel
theorem dX5_readCommand_23 : decode cX5_readCommand 23 = .ok (.bipush 40, 2) := by decide +kernel
theorem dX5_readCommand_25 : decode cX5_readCommand 25 = .ok (.if_icmp .ge 7, 3) := by decide +kernel
theorem dX5_readCommand_28 : decode cX5_readCommand 28 = .ok (.iconst 1, 1) := by decide +kernel
theorem dX5_readCommand_29 : decode cX5_readCommand 29 = .ok (.goto 4, 3) := by decide +kernel
theorem dX5_readCommand_32 : decode cX5_readCommand 32 = .ok (.iconst 0, 1) := by decide +kernel
theorem dX5_readCommand_33 : decode cX5_readCommand 33 = .ok (.iconst 5, 1) := by decide +kernel
theorem dX5_readCommand_34 : decode cX5_readCommand 34 = .ok (.invokevirtual 311, 3) := by decide +kernel
theorem dX5_readCommand_37 : decode cX5_readCommand 37 = .ok (.aload_n 0, 1) := by decide +kernel
theorem dX5_readCommand_38 : decode cX5_readCommand 38 = .ok (.getfield 296, 3) := by decide +kernel
theorem dX5_readCommand_41 : decode cX5_readCommand 41 = .ok (.ifCond .le 4, 3) := by decide +kernel
theorem dX5_readCommand_44 : decode cX5_readCommand 44 = .ok (.return_, 1) := by decide +kernel
theorem dX5_readCommand_45 : decode cX5_readCommand 45 = .ok (.aload_n 0, 1) := by decide +kernel
theorem dX5_readCommand_46 : decode cX5_readCommand 46 = .ok (.invokevirtual 302, 3) := by decide +kernel
theorem dX5_readCommand_49 : decode cX5_readCommand 49 = .ok (.bipush 6, 2) := by decide +kernel
theorem dX5_readCommand_51 : decode cX5_readCommand 51 = .ok (.aload_n 0, 1) := by decide +kernel
theorem dX5_readCommand_52 : decode cX5_readCommand 52 = .ok (.getfield 348, 3) := by decide +kernel
theorem dX5_readCommand_55 : decode cX5_readCommand 55 = .ok (.imul, 1) := by decide +kernel
theorem dX5_readCommand_56 : decode cX5_readCommand 56 = .ok (.istore_n 2, 1) := by decide +kernel
theorem dX5_readCommand_57 : decode cX5_readCommand 57 = .ok (.aload_n 0, 1) := by decide +kernel
theorem dX5_readCommand_58 : decode cX5_readCommand 58 = .ok (.getfield 46, 3) := by decide +kernel
theorem dX5_readCommand_61 : decode cX5_readCommand 61 = .ok (.iload_n 2, 1) := by decide +kernel
theorem dX5_readCommand_62 : decode cX5_readCommand 62 = .ok (.iload_n 1, 1) := by decide +kernel
theorem dX5_readCommand_63 : decode cX5_readCommand 63 = .ok (.iastore, 1) := by decide +kernel
theorem dX5_readCommand_64 : decode cX5_readCommand 64 = .ok (.iload_n 1, 1) := by decide +kernel
theorem dX5_readCommand_65 : decode cX5_readCommand 65 = .ok (.bipush 7, 2) := by decide +kernel
theorem dX5_readCommand_67 : decode cX5_readCommand 67 = .ok (.if_icmp .ne 44, 3) := by decide +kernel
theorem dX5_readCommand_70 : decode cX5_readCommand 70 = .ok (.aload_n 0, 1) := by decide +kernel
theorem dX5_readCommand_71 : decode cX5_readCommand 71 = .ok (.getfield 46, 3) := by decide +kernel
theorem dX5_readCommand_74 : decode cX5_readCommand 74 = .ok (.iload_n 2, 1) := by decide +kernel
theorem dX5_readCommand_75 : decode cX5_readCommand 75 = .ok (.iconst 1, 1) := by decide +kernel
theorem dX5_readCommand_76 : decode cX5_readCommand 76 = .ok (.iadd, 1) := by decide +kernel
theorem dX5_readCommand_77 : decode cX5_readCommand 77 = .ok (.aload_n 0, 1) := by decide +kernel
theorem dX5_readCommand_78 : decode cX5_readCommand 78 = .ok (.bipush (-9), 2) := by decide +kernel
theorem dX5_readCommand_80 : decode cX5_readCommand 80 = .ok (.bipush 9, 2) := by decide +kernel
theorem dX5_readCommand_82 : decode cX5_readCommand 82 = .ok (.iconst 0, 1) := by decide +kernel
theorem dX5_readCommand_83 : decode cX5_readCommand 83 = .ok (.invokevirtual 330, 3) := by decide +kernel
theorem dX5_readCommand_86 : decode cX5_readCommand 86 = .ok (.iastore, 1) := by decide +kernel
theorem dX5_readCommand_87 : decode cX5_readCommand 87 = .ok (.aload_n 0, 1) := by decide +kernel
theorem dX5_readCommand_88 : decode cX5_readCommand 88 = .ok (.getfield 46, 3) := by decide +kernel
theorem dX5_readCommand_91 : decode cX5_readCommand 91 = .ok (.iload_n 2, 1) := by decide +kernel
theorem dX5_readCommand_92 : decode cX5_readCommand 92 = .ok (.iconst 2, 1) := by decide +kernel
theorem dX5_readCommand_93 : decode cX5_readCommand 93 = .ok (.iadd, 1) := by decide +kernel
theorem dX5_readCommand_94 : decode cX5_readCommand 94 = .ok (.aload_n 0, 1) := by decide +kernel
theorem dX5_readCommand_95 : decode cX5_readCommand 95 = .ok (.iconst 0, 1) := by decide +kernel
theorem dX5_readCommand_96 : decode cX5_readCommand 96 = .ok (.aload_n 0, 1) := by decide +kernel
theorem dX5_readCommand_97 : decode cX5_readCommand 97 = .ok (.getfield 7, 3) := by decide +kernel
theorem dX5_readCommand_100 : decode cX5_readCommand 100 = .ok (.iconst 0, 1) := by decide +kernel
theorem dX5_readCommand_101 : decode cX5_readCommand 101 = .ok (.iaload, 1) := by decide +kernel
theorem dX5_readCommand_102 : decode cX5_readCommand 102 = .ok (.iconst 1, 1) := by decide +kernel
theorem dX5_readCommand_103 : decode cX5_readCommand 103 = .ok (.isub, 1) := by decide +kernel
theorem dX5_readCommand_104 : decode cX5_readCommand 104 = .ok (.invokevirtual 327, 3) := by decide +kernel
theorem dX5_readCommand_107 : decode cX5_readCommand 107 = .ok (.iastore, 1) := by decide +kernel
theorem dX5_readCommand_108 : decode cX5_readCommand 108 = .ok (.goto 14, 3) := by decide +kernel
theorem dX5_readCommand_111 : decode cX5_readCommand 111 = .ok (.iload_n 1, 1) := by decide +kernel
theorem dX5_readCommand_112 : decode cX5_readCommand 112 = .ok (.bipush 8, 2) := by decide +kernel
theorem dX5_readCommand_114 : decode cX5_readCommand 114 = .ok (.if_icmp .ne 8, 3) := by decide +kernel
theorem dX5_readCommand_117 : decode cX5_readCommand 117 = .ok (.aload_n 0, 1) := by decide +kernel
theorem dX5_readCommand_118 : decode cX5_readCommand 118 = .ok (.iload_n 2, 1) := by decide +kernel
theorem dX5_readCommand_119 : decode cX5_readCommand 119 = .ok (.invokevirtual 351, 3) := by decide +kernel
theorem dX5_readCommand_122 : decode cX5_readCommand 122 = .ok (.aload_n 0, 1) := by decide +kernel
theorem dX5_readCommand_123 : decode cX5_readCommand 123 = .ok (.invokevirtual 345, 3) := by decide +kernel
theorem dX5_readCommand_126 : decode cX5_readCommand 126 = .ok (.aload_n 0, 1) := by decide +kernel
theorem dX5_readCommand_127 : decode cX5_readCommand 127 = .ok (.dup, 1) := by decide +kernel
theorem dX5_readCommand_128 : decode cX5_readCommand 128 = .ok (.getfield 348, 3) := by decide +kernel
theorem dX5_readCommand_131 : decode cX5_readCommand 131 = .ok (.iconst 1, 1) := by decide +kernel
theorem dX5_readCommand_132 : decode cX5_readCommand 132 = .ok (.iadd, 1) := by decide +kernel
theorem dX5_readCommand_133 : decode cX5_readCommand 133 = .ok (.putfield 348, 3) := by decide +kernel
theorem dX5_readCommand_136 : decode cX5_readCommand 136 = .ok (.return_, 1) := by decide +kernel
theorem dX5_doesCommand_0 : decode cX5_doesCommand 0 = .ok (.aload_n 0, 1) := by decide +kernel
theorem dX5_doesCommand_1 : decode cX5_doesCommand 1 = .ok (.getfield 46, 3) := by decide +kernel
theorem dX5_doesCommand_4 : decode cX5_doesCommand 4 = .ok (.iload_n 1, 1) := by decide +kernel
theorem dX5_doesCommand_5 : decode cX5_doesCommand 5 = .ok (.iaload, 1) := by decide +kernel
theorem dX5_doesCommand_6 : decode cX5_doesCommand 6 = .ok (.lookupswitch 92 #[(7, 26), (8, 47)], 26) := by decide +kernel
theorem dX5_doesCommand_32 : decode cX5_doesCommand 32 = .ok (.aload_n 0, 1) := by decide +kernel
theorem dX5_doesCommand_33 : decode cX5_doesCommand 33 = .ok (.aload_n 0, 1) := by decide +kernel
theorem dX5_doesCommand_34 : decode cX5_doesCommand 34 = .ok (.getfield 46, 3) := by decide +kernel
theorem dX5_doesCommand_37 : decode cX5_doesCommand 37 = .ok (.iload_n 1, 1) := by decide +kernel
theorem dX5_doesCommand_38 : decode cX5_doesCommand 38 = .ok (.iconst 1, 1) := by decide +kernel
theorem dX5_doesCommand_39 : decode cX5_doesCommand 39 = .ok (.iadd, 1) := by decide +kernel
theorem dX5_doesCommand_40 : decode cX5_doesCommand 40 = .ok (.iaload, 1) := by decide +kernel
theorem dX5_doesCommand_41 : decode cX5_doesCommand 41 = .ok (.aload_n 0, 1) := by decide +kernel
theorem dX5_doesCommand_42 : decode cX5_doesCommand 42 = .ok (.getfield 46, 3) := by decide +kernel
theorem dX5_doesCommand_45 : decode cX5_doesCommand 45 = .ok (.iload_n 1, 1) := by decide +kernel
theorem dX5_doesCommand_46 : decode cX5_doesCommand 46 = .ok (.iconst 2, 1) := by decide +kernel
theorem dX5_doesCommand_47 : decode cX5_doesCommand 47 = .ok (.iadd, 1) := by decide +kernel
theorem dX5_doesCommand_48 : decode cX5_doesCommand 48 = .ok (.iaload, 1) := by decide +kernel
theorem dX5_doesCommand_49 : decode cX5_doesCommand 49 = .ok (.invokevirtual 237, 3) := by decide +kernel
theorem dX5_doesCommand_52 : decode cX5_doesCommand 52 = .ok (.ireturn, 1) := by decide +kernel
theorem dX5_doesCommand_53 : decode cX5_doesCommand 53 = .ok (.aload_n 0, 1) := by decide +kernel
theorem dX5_doesCommand_54 : decode cX5_doesCommand 54 = .ok (.aload_n 0, 1) := by decide +kernel
theorem dX5_doesCommand_55 : decode cX5_doesCommand 55 = .ok (.getfield 46, 3) := by decide +kernel
theorem dX5_doesCommand_58 : decode cX5_doesCommand 58 = .ok (.iload_n 1, 1) := by decide +kernel
theorem dX5_doesCommand_59 : decode cX5_doesCommand 59 = .ok (.iconst 1, 1) := by decide +kernel
theorem dX5_doesCommand_60 : decode cX5_doesCommand 60 = .ok (.iadd, 1) := by decide +kernel
theorem dX5_doesCommand_61 : decode cX5_doesCommand 61 = .ok (.iaload, 1) := by decide +kernel
theorem dX5_doesCommand_62 : decode cX5_doesCommand 62 = .ok (.aload_n 0, 1) := by decide +kernel
theorem dX5_doesCommand_63 : decode cX5_doesCommand 63 = .ok (.getfield 46, 3) := by decide +kernel
theorem dX5_doesCommand_66 : decode cX5_doesCommand 66 = .ok (.iload_n 1, 1) := by decide +kernel
theorem dX5_doesCommand_67 : decode cX5_doesCommand 67 = .ok (.iconst 2, 1) := by decide +kernel
theorem dX5_doesCommand_68 : decode cX5_doesCommand 68 = .ok (.iadd, 1) := by decide +kernel
theorem dX5_doesCommand_69 : decode cX5_doesCommand 69 = .ok (.iaload, 1) := by decide +kernel
theorem dX5_doesCommand_70 : decode cX5_doesCommand 70 = .ok (.aload_n 0, 1) := by decide +kernel
theorem dX5_doesCommand_71 : decode cX5_doesCommand 71 = .ok (.getfield 46, 3) := by decide +kernel
theorem dX5_doesCommand_74 : decode cX5_doesCommand 74 = .ok (.iload_n 1, 1) := by decide +kernel
theorem dX5_doesCommand_75 : decode cX5_doesCommand 75 = .ok (.iconst 3, 1) := by decide +kernel
theorem dX5_doesCommand_76 : decode cX5_doesCommand 76 = .ok (.iadd, 1) := by decide +kernel
theorem dX5_doesCommand_77 : decode cX5_doesCommand 77 = .ok (.iaload, 1) := by decide +kernel
theorem dX5_doesCommand_78 : decode cX5_doesCommand 78 = .ok (.aload_n 0, 1) := by decide +kernel
theorem dX5_doesCommand_79 : decode cX5_doesCommand 79 = .ok (.getfield 46, 3) := by decide +kernel
theorem dX5_doesCommand_82 : decode cX5_doesCommand 82 = .ok (.iload_n 1, 1) := by decide +kernel
theorem dX5_doesCommand_83 : decode cX5_doesCommand 83 = .ok (.iconst 4, 1) := by decide +kernel
theorem dX5_doesCommand_84 : decode cX5_doesCommand 84 = .ok (.iadd, 1) := by decide +kernel
theorem dX5_doesCommand_85 : decode cX5_doesCommand 85 = .ok (.iaload, 1) := by decide +kernel
theorem dX5_doesCommand_86 : decode cX5_doesCommand 86 = .ok (.aload_n 0, 1) := by decide +kernel
theorem dX5_doesCommand_87 : decode cX5_doesCommand 87 = .ok (.getfield 46, 3) := by decide +kernel
theorem dX5_doesCommand_90 : decode cX5_doesCommand 90 = .ok (.iload_n 1, 1) := by decide +kernel
theorem dX5_doesCommand_91 : decode cX5_doesCommand 91 = .ok (.iconst 5, 1) := by decide +kernel
theorem dX5_doesCommand_92 : decode cX5_doesCommand 92 = .ok (.iadd, 1) := by decide +kernel
theorem dX5_doesCommand_93 : decode cX5_doesCommand 93 = .ok (.iaload, 1) := by decide +kernel
theorem dX5_doesCommand_94 : decode cX5_doesCommand 94 = .ok (.invokevirtual 208, 3) := by decide +kernel
theorem dX5_doesCommand_97 : decode cX5_doesCommand 97 = .ok (.ireturn, 1) := by decide +kernel
theorem dX5_doesCommand_98 : decode cX5_doesCommand 98 = .ok (.aload_n 0, 1) := by decide +kernel
theorem dX5_doesCommand_99 : decode cX5_doesCommand 99 = .ok (.invokevirtual 240, 3) := by decide +kernel
theorem dX5_doesCommand_102 : decode cX5_doesCommand 102 = .ok (.ireturn, 1) := by decide +kernel
theorem dX5_play_0 : decode cX5_play 0 = .ok (.aload_n 0, 1) := by decide +kernel
theorem dX5_play_1 : decode cX5_play 1 = .ok (.invokevirtual 333, 3) := by decide +kernel
theorem dX5_play_4 : decode cX5_play 4 = .ok (.aload_n 0, 1) := by decide +kernel
theorem dX5_play_5 : decode cX5_play 5 = .ok (.iconst 0, 1) := by decide +kernel
theorem dX5_play_6 : decode cX5_play 6 = .ok (.putfield 348, 3) := by decide +kernel
theorem dX5_play_9 : decode cX5_play 9 = .ok (.aload_n 0, 1) := by decide +kernel
theorem dX5_play_10 : decode cX5_play 10 = .ok (.getfield 296, 3) := by decide +kernel
theorem dX5_play_13 : decode cX5_play 13 = .ok (.ifCond .ne 17, 3) := by decide +kernel
theorem dX5_play_16 : decode cX5_play 16 = .ok (.aload_n 0, 1) := by decide +kernel
theorem dX5_play_17 : decode cX5_play 17 = .ok (.getfield 290, 3) := by decide +kernel
theorem dX5_play_20 : decode cX5_play 20 = .ok (.ifCond .eq 10, 3) := by decide +kernel
theorem dX5_play_23 : decode cX5_play 23 = .ok (.aload_n 0, 1) := by decide +kernel
theorem dX5_play_24 : decode cX5_play 24 = .ok (.invokevirtual 354, 3) := by decide +kernel
theorem dX5_play_27 : decode cX5_play 27 = .ok (.goto (-18), 3) := by decide +kernel
theorem dX5_play_30 : decode cX5_play 30 = .ok (.aload_n 0, 1) := by decide +kernel
theorem dX5_play_31 : decode cX5_play 31 = .ok (.iconst 0, 1) := by decide +kernel
theorem dX5_play_32 : decode cX5_play 32 = .ok (.putfield 269, 3) := by decide +kernel
theorem dX5_play_35 : decode cX5_play 35 = .ok (.aload_n 0, 1) := by decide +kernel
theorem dX5_play_36 : decode cX5_play 36 = .ok (.iconst 0, 1) := by decide +kernel
theorem dX5_play_37 : decode cX5_play 37 = .ok (.putfield 55, 3) := by decide +kernel
theorem dX5_play_40 : decode cX5_play 40 = .ok (.aload_n 0, 1) := by decide +kernel
theorem dX5_play_41 : decode cX5_play 41 = .ok (.getfield 296, 3) := by decide +kernel
theorem dX5_play_44 : decode cX5_play 44 = .ok (.ifCond .le 5, 3) := by decide +kernel
theorem dX5_play_47 : decode cX5_play 47 = .ok (.iconst (-1), 1) := by decide +kernel
theorem dX5_play_48 : decode cX5_play 48 = .ok (.ireturn, 1) := by decide +kernel
theorem dX5_play_49 : decode cX5_play 49 = .ok (.iconst 0, 1) := by decide +kernel
theorem dX5_play_50 : decode cX5_play 50 = .ok (.istore_n 1, 1) := by decide +kernel
theorem dX5_play_51 : decode cX5_play 51 = .ok (.iload_n 1, 1) := by decide +kernel
theorem dX5_play_52 : decode cX5_play 52 = .ok (.aload_n 0, 1) := by decide +kernel
theorem dX5_play_53 : decode cX5_play 53 = .ok (.getfield 348, 3) := by decide +kernel
theorem dX5_play_56 : decode cX5_play 56 = .ok (.if_icmp .ge 20, 3) := by decide +kernel
theorem dX5_play_59 : decode cX5_play 59 = .ok (.aload_n 0, 1) := by decide +kernel
theorem dX5_play_60 : decode cX5_play 60 = .ok (.bipush 6, 2) := by decide +kernel
theorem dX5_play_62 : decode cX5_play 62 = .ok (.iload_n 1, 1) := by decide +kernel
theorem dX5_play_63 : decode cX5_play 63 = .ok (.imul, 1) := by decide +kernel
theorem dX5_play_64 : decode cX5_play 64 = .ok (.invokevirtual 357, 3) := by decide +kernel
theorem dX5_play_67 : decode cX5_play 67 = .ok (.ifCond .ne 9, 3) := by decide +kernel
theorem dX5_play_70 : decode cX5_play 70 = .ok (.iinc 1 1, 3) := by decide +kernel
theorem dX5_play_73 : decode cX5_play 73 = .ok (.goto (-22), 3) := by decide +kernel
theorem dX5_play_76 : decode cX5_play 76 = .ok (.iload_n 1, 1) := by decide +kernel
theorem dX5_play_77 : decode cX5_play 77 = .ok (.ireturn, 1) := by decide +kernel
theorem dX5_errorCode_0 : decode cX5_errorCode 0 = .ok (.aload_n 0, 1) := by decide +kernel
theorem dX5_errorCode_1 : decode cX5_errorCode 1 = .ok (.iconst 0, 1) := by decide +kernel
theorem dX5_errorCode_2 : decode cX5_errorCode 2 = .ok (.putfield 55, 3) := by decide +kernel
theorem dX5_errorCode_5 : decode cX5_errorCode 5 = .ok (.aload_n 0, 1) := by decide +kernel
theorem dX5_errorCode_6 : decode cX5_errorCode 6 = .ok (.getfield 296, 3) := by decide +kernel
theorem dX5_errorCode_9 : decode cX5_errorCode 9 = .ok (.ireturn, 1) := by decide +kernel
theorem dX5_errorPosition_0 : decode cX5_errorPosition 0 = .ok (.aload_n 0, 1) := by decide +kernel
theorem dX5_errorPosition_1 : decode cX5_errorPosition 1 = .ok (.iconst 0, 1) := by decide +kernel
theorem dX5_errorPosition_2 : decode cX5_errorPosition 2 = .ok (.putfield 55, 3) := by decide +kernel
theorem dX5_errorPosition_5 : decode cX5_errorPosition 5 = .ok (.aload_n 0, 1) := by decide +kernel
theorem dX5_errorPosition_6 : decode cX5_errorPosition 6 = .ok (.getfield 39, 3) := by decide +kernel
theorem dX5_errorPosition_9 : decode cX5_errorPosition 9 = .ok (.ireturn, 1) := by decide +kernel
theorem dX5_prints_0 : decode cX5_prints 0 = .ok (.aload_n 0, 1) := by decide +kernel
theorem dX5_prints_1 : decode cX5_prints 1 = .ok (.getfield 49, 3) := by decide +kernel
theorem dX5_prints_4 : decode cX5_prints 4 = .ok (.aload_n 0, 1) := by decide +kernel
theorem dX5_prints_5 : decode cX5_prints 5 = .ok (.getfield 360, 3) := by decide +kernel
theorem dX5_prints_8 : decode cX5_prints 8 = .ok (.iload_n 1, 1) := by decide +kernel
theorem dX5_prints_9 : decode cX5_prints 9 = .ok (.i2b, 1) := by decide +kernel
theorem dX5_prints_10 : decode cX5_prints 10 = .ok (.bastore, 1) := by decide +kernel
theorem dX5_prints_11 : decode cX5_prints 11 = .ok (.aload_n 0, 1) := by decide +kernel
theorem dX5_prints_12 : decode cX5_prints 12 = .ok (.dup, 1) := by decide +kernel
theorem dX5_prints_13 : decode cX5_prints 13 = .ok (.getfield 360, 3) := by decide +kernel
theorem dX5_prints_16 : decode cX5_prints 16 = .ok (.iconst 1, 1) := by decide +kernel
theorem dX5_prints_17 : decode cX5_prints 17 = .ok (.iadd, 1) := by decide +kernel
theorem dX5_prints_18 : decode cX5_prints 18 = .ok (.putfield 360, 3) := by decide +kernel
theorem dX5_prints_21 : decode cX5_prints 21 = .ok (.return_, 1) := by decide +kernel
theorem dX5_printsNumber_0 : decode cX5_printsNumber 0 = .ok (.iload_n 1, 1) := by decide +kernel
theorem dX5_printsNumber_1 : decode cX5_printsNumber 1 = .ok (.ifCond .ge 9, 3) := by decide +kernel
theorem dX5_printsNumber_4 : decode cX5_printsNumber 4 = .ok (.aload_n 0, 1) := by decide +kernel
theorem dX5_printsNumber_5 : decode cX5_printsNumber 5 = .ok (.bipush 45, 2) := by decide +kernel
theorem dX5_printsNumber_7 : decode cX5_printsNumber 7 = .ok (.invokevirtual 363, 3) := by decide +kernel
theorem dX5_printsNumber_10 : decode cX5_printsNumber 10 = .ok (.iload_n 1, 1) := by decide +kernel
theorem dX5_printsNumber_11 : decode cX5_printsNumber 11 = .ok (.ifCond .ge 8, 3) := by decide +kernel
theorem dX5_printsNumber_14 : decode cX5_printsNumber 14 = .ok (.iload_n 1, 1) := by decide +kernel
theorem dX5_printsNumber_15 : decode cX5_printsNumber 15 = .ok (.ineg, 1) := by decide +kernel
theorem dX5_printsNumber_16 : decode cX5_printsNumber 16 = .ok (.goto 4, 3) := by decide +kernel
theorem dX5_printsNumber_19 : decode cX5_printsNumber 19 = .ok (.iload_n 1, 1) := by decide +kernel
theorem dX5_printsNumber_20 : decode cX5_printsNumber 20 = .ok (.istore_n 2, 1) := by decide +kernel
theorem dX5_printsNumber_21 : decode cX5_printsNumber 21 = .ok (.iload_n 2, 1) := by decide +kernel
theorem dX5_printsNumber_22 : decode cX5_printsNumber 22 = .ok (.bipush 9, 2) := by decide +kernel
theorem dX5_printsNumber_24 : decode cX5_printsNumber 24 = .ok (.if_icmp .le 14, 3) := by decide +kernel
theorem dX5_printsNumber_27 : decode cX5_printsNumber 27 = .ok (.aload_n 0, 1) := by decide +kernel
theorem dX5_printsNumber_28 : decode cX5_printsNumber 28 = .ok (.bipush 48, 2) := by decide +kernel
theorem dX5_printsNumber_30 : decode cX5_printsNumber 30 = .ok (.iload_n 2, 1) := by decide +kernel
theorem dX5_printsNumber_31 : decode cX5_printsNumber 31 = .ok (.bipush 10, 2) := by decide +kernel
theorem dX5_printsNumber_33 : decode cX5_printsNumber 33 = .ok (.idiv, 1) := by decide +kernel
theorem dX5_printsNumber_34 : decode cX5_printsNumber 34 = .ok (.iadd, 1) := by decide +kernel
theorem dX5_printsNumber_35 : decode cX5_printsNumber 35 = .ok (.invokevirtual 363, 3) := by decide +kernel
theorem dX5_printsNumber_38 : decode cX5_printsNumber 38 = .ok (.aload_n 0, 1) := by decide +kernel
theorem dX5_printsNumber_39 : decode cX5_printsNumber 39 = .ok (.bipush 48, 2) := by decide +kernel
theorem dX5_printsNumber_41 : decode cX5_printsNumber 41 = .ok (.iload_n 2, 1) := by decide +kernel
theorem dX5_printsNumber_42 : decode cX5_printsNumber 42 = .ok (.bipush 10, 2) := by decide +kernel
theorem dX5_printsNumber_44 : decode cX5_printsNumber 44 = .ok (.irem, 1) := by decide +kernel
theorem dX5_printsNumber_45 : decode cX5_printsNumber 45 = .ok (.iadd, 1) := by decide +kernel
theorem dX5_printsNumber_46 : decode cX5_printsNumber 46 = .ok (.invokevirtual 363, 3) := by decide +kernel
theorem dX5_printsNumber_49 : decode cX5_printsNumber 49 = .ok (.return_, 1) := by decide +kernel
theorem dX5_printsTerm_0 : decode cX5_printsTerm 0 = .ok (.iload_n 1, 1) := by decide +kernel
theorem dX5_printsTerm_1 : decode cX5_printsTerm 1 = .ok (.ifCond .le 16, 3) := by decide +kernel
theorem dX5_printsTerm_4 : decode cX5_printsTerm 4 = .ok (.aload_n 0, 1) := by decide +kernel
theorem dX5_printsTerm_5 : decode cX5_printsTerm 5 = .ok (.getfield 360, 3) := by decide +kernel
theorem dX5_printsTerm_8 : decode cX5_printsTerm 8 = .ok (.ifCond .le 9, 3) := by decide +kernel
theorem dX5_printsTerm_11 : decode cX5_printsTerm 11 = .ok (.aload_n 0, 1) := by decide +kernel
theorem dX5_printsTerm_12 : decode cX5_printsTerm 12 = .ok (.bipush 43, 2) := by decide +kernel
theorem dX5_printsTerm_14 : decode cX5_printsTerm 14 = .ok (.invokevirtual 363, 3) := by decide +kernel
theorem dX5_printsTerm_17 : decode cX5_printsTerm 17 = .ok (.iload_n 2, 1) := by decide +kernel
theorem dX5_printsTerm_18 : decode cX5_printsTerm 18 = .ok (.ifCond .le 26, 3) := by decide +kernel
theorem dX5_printsTerm_21 : decode cX5_printsTerm 21 = .ok (.iload_n 1, 1) := by decide +kernel
theorem dX5_printsTerm_22 : decode cX5_printsTerm 22 = .ok (.iconst 1, 1) := by decide +kernel
theorem dX5_printsTerm_23 : decode cX5_printsTerm 23 = .ok (.if_icmp .eq 8, 3) := by decide +kernel
theorem dX5_printsTerm_26 : decode cX5_printsTerm 26 = .ok (.iload_n 1, 1) := by decide +kernel
theorem dX5_printsTerm_27 : decode cX5_printsTerm 27 = .ok (.iconst (-1), 1) := by decide +kernel
theorem dX5_printsTerm_28 : decode cX5_printsTerm 28 = .ok (.if_icmp .ne 16, 3) := by decide +kernel
theorem dX5_printsTerm_31 : decode cX5_printsTerm 31 = .ok (.iload_n 1, 1) := by decide +kernel
theorem dX5_printsTerm_32 : decode cX5_printsTerm 32 = .ok (.ifCond .ge 17, 3) := by decide +kernel
theorem dX5_printsTerm_35 : decode cX5_printsTerm 35 = .ok (.aload_n 0, 1) := by decide +kernel
theorem dX5_printsTerm_36 : decode cX5_printsTerm 36 = .ok (.bipush 45, 2) := by decide +kernel
theorem dX5_printsTerm_38 : decode cX5_printsTerm 38 = .ok (.invokevirtual 363, 3) := by decide +kernel
theorem dX5_printsTerm_41 : decode cX5_printsTerm 41 = .ok (.goto 8, 3) := by decide +kernel
theorem dX5_printsTerm_44 : decode cX5_printsTerm 44 = .ok (.aload_n 0, 1) := by decide +kernel
theorem dX5_printsTerm_45 : decode cX5_printsTerm 45 = .ok (.iload_n 1, 1) := by decide +kernel
theorem dX5_printsTerm_46 : decode cX5_printsTerm 46 = .ok (.invokevirtual 366, 3) := by decide +kernel
theorem dX5_printsTerm_49 : decode cX5_printsTerm 49 = .ok (.iload_n 2, 1) := by decide +kernel
theorem dX5_printsTerm_50 : decode cX5_printsTerm 50 = .ok (.ifCond .le 9, 3) := by decide +kernel
theorem dX5_printsTerm_53 : decode cX5_printsTerm 53 = .ok (.aload_n 0, 1) := by decide +kernel
theorem dX5_printsTerm_54 : decode cX5_printsTerm 54 = .ok (.bipush 120, 2) := by decide +kernel
theorem dX5_printsTerm_56 : decode cX5_printsTerm 56 = .ok (.invokevirtual 363, 3) := by decide +kernel
theorem dX5_printsTerm_59 : decode cX5_printsTerm 59 = .ok (.iload_n 2, 1) := by decide +kernel
theorem dX5_printsTerm_60 : decode cX5_printsTerm 60 = .ok (.iconst 1, 1) := by decide +kernel
theorem dX5_printsTerm_61 : decode cX5_printsTerm 61 = .ok (.if_icmp .le 17, 3) := by decide +kernel
theorem dX5_printsTerm_64 : decode cX5_printsTerm 64 = .ok (.aload_n 0, 1) := by decide +kernel
theorem dX5_printsTerm_65 : decode cX5_printsTerm 65 = .ok (.bipush 94, 2) := by decide +kernel
theorem dX5_printsTerm_67 : decode cX5_printsTerm 67 = .ok (.invokevirtual 363, 3) := by decide +kernel
theorem dX5_printsTerm_70 : decode cX5_printsTerm 70 = .ok (.aload_n 0, 1) := by decide +kernel
theorem dX5_printsTerm_71 : decode cX5_printsTerm 71 = .ok (.bipush 48, 2) := by decide +kernel
theorem dX5_printsTerm_73 : decode cX5_printsTerm 73 = .ok (.iload_n 2, 1) := by decide +kernel
theorem dX5_printsTerm_74 : decode cX5_printsTerm 74 = .ok (.iadd, 1) := by decide +kernel
theorem dX5_printsTerm_75 : decode cX5_printsTerm 75 = .ok (.invokevirtual 363, 3) := by decide +kernel
theorem dX5_printsTerm_78 : decode cX5_printsTerm 78 = .ok (.return_, 1) := by decide +kernel
theorem dX5_write_0 : decode cX5_write 0 = .ok (.aload_n 0, 1) := by decide +kernel
theorem dX5_write_1 : decode cX5_write 1 = .ok (.iconst 0, 1) := by decide +kernel
theorem dX5_write_2 : decode cX5_write 2 = .ok (.putfield 55, 3) := by decide +kernel
theorem dX5_write_5 : decode cX5_write 5 = .ok (.aload_n 0, 1) := by decide +kernel
theorem dX5_write_6 : decode cX5_write 6 = .ok (.iconst 0, 1) := by decide +kernel
theorem dX5_write_7 : decode cX5_write 7 = .ok (.putfield 360, 3) := by decide +kernel
theorem dX5_write_10 : decode cX5_write 10 = .ok (.iconst 4, 1) := by decide +kernel
theorem dX5_write_11 : decode cX5_write 11 = .ok (.istore_n 1, 1) := by decide +kernel
theorem dX5_write_12 : decode cX5_write 12 = .ok (.iload_n 1, 1) := by decide +kernel
theorem dX5_write_13 : decode cX5_write 13 = .ok (.ifCond .lt 35, 3) := by decide +kernel
theorem dX5_write_16 : decode cX5_write 16 = .ok (.aload_n 0, 1) := by decide +kernel
theorem dX5_write_17 : decode cX5_write 17 = .ok (.getfield 7, 3) := by decide +kernel
theorem dX5_write_20 : decode cX5_write 20 = .ok (.bipush 11, 2) := by decide +kernel
theorem dX5_write_22 : decode cX5_write 22 = .ok (.iload_n 1, 1) := by decide +kernel
theorem dX5_write_23 : decode cX5_write 23 = .ok (.iadd, 1) := by decide +kernel
theorem dX5_write_24 : decode cX5_write 24 = .ok (.iaload, 1) := by decide +kernel
theorem dX5_write_25 : decode cX5_write 25 = .ok (.ifCond .eq 17, 3) := by decide +kernel
theorem dX5_write_28 : decode cX5_write 28 = .ok (.aload_n 0, 1) := by decide +kernel
theorem dX5_write_29 : decode cX5_write 29 = .ok (.aload_n 0, 1) := by decide +kernel
theorem dX5_write_30 : decode cX5_write 30 = .ok (.getfield 7, 3) := by decide +kernel
theorem dX5_write_33 : decode cX5_write 33 = .ok (.bipush 11, 2) := by decide +kernel
theorem dX5_write_35 : decode cX5_write 35 = .ok (.iload_n 1, 1) := by decide +kernel
theorem dX5_write_36 : decode cX5_write 36 = .ok (.iadd, 1) := by decide +kernel
theorem dX5_write_37 : decode cX5_write 37 = .ok (.iaload, 1) := by decide +kernel
theorem dX5_write_38 : decode cX5_write 38 = .ok (.iload_n 1, 1) := by decide +kernel
theorem dX5_write_39 : decode cX5_write 39 = .ok (.invokevirtual 369, 3) := by decide +kernel
theorem dX5_write_42 : decode cX5_write 42 = .ok (.iinc 1 (-1), 3) := by decide +kernel
theorem dX5_write_45 : decode cX5_write 45 = .ok (.goto (-33), 3) := by decide +kernel
theorem dX5_write_48 : decode cX5_write 48 = .ok (.aload_n 0, 1) := by decide +kernel
theorem dX5_write_49 : decode cX5_write 49 = .ok (.getfield 360, 3) := by decide +kernel
theorem dX5_write_52 : decode cX5_write 52 = .ok (.ifCond .ne 9, 3) := by decide +kernel
theorem dX5_write_55 : decode cX5_write 55 = .ok (.aload_n 0, 1) := by decide +kernel
theorem dX5_write_56 : decode cX5_write 56 = .ok (.bipush 48, 2) := by decide +kernel
theorem dX5_write_58 : decode cX5_write 58 = .ok (.invokevirtual 363, 3) := by decide +kernel
theorem dX5_write_61 : decode cX5_write 61 = .ok (.aload_n 0, 1) := by decide +kernel
theorem dX5_write_62 : decode cX5_write 62 = .ok (.getfield 360, 3) := by decide +kernel
theorem dX5_write_65 : decode cX5_write 65 = .ok (.ireturn, 1) := by decide +kernel
theorem dX5_printsWord_0 : decode cX5_printsWord 0 = .ok (.iconst 0, 1) := by decide +kernel
theorem dX5_printsWord_1 : decode cX5_printsWord 1 = .ok (.istore_n 2, 1) := by decide +kernel
theorem dX5_printsWord_2 : decode cX5_printsWord 2 = .ok (.iload_n 1, 1) := by decide +kernel
theorem dX5_printsWord_3 : decode cX5_printsWord 3 = .ok (.istore_n 3, 1) := by decide +kernel
theorem dX5_printsWord_4 : decode cX5_printsWord 4 = .ok (.iload_n 3, 1) := by decide +kernel
theorem dX5_printsWord_5 : decode cX5_printsWord 5 = .ok (.ifCond .le 28, 3) := by decide +kernel
theorem dX5_printsWord_8 : decode cX5_printsWord 8 = .ok (.iload_n 3, 1) := by decide +kernel
theorem dX5_printsWord_9 : decode cX5_printsWord 9 = .ok (.aload_n 0, 1) := by decide +kernel
theorem dX5_printsWord_10 : decode cX5_printsWord 10 = .ok (.getfield 43, 3) := by decide +kernel
theorem dX5_printsWord_13 : decode cX5_printsWord 13 = .ok (.iload_n 2, 1) := by decide +kernel
theorem dX5_printsWord_14 : decode cX5_printsWord 14 = .ok (.baload, 1) := by decide +kernel
theorem dX5_printsWord_15 : decode cX5_printsWord 15 = .ok (.bipush 32, 2) := by decide +kernel
theorem dX5_printsWord_17 : decode cX5_printsWord 17 = .ok (.if_icmp .ne 7, 3) := by decide +kernel
theorem dX5_printsWord_20 : decode cX5_printsWord 20 = .ok (.iconst 1, 1) := by decide +kernel
theorem dX5_printsWord_21 : decode cX5_printsWord 21 = .ok (.goto 4, 3) := by decide +kernel
theorem dX5_printsWord_24 : decode cX5_printsWord 24 = .ok (.iconst 0, 1) := by decide +kernel
theorem dX5_printsWord_25 : decode cX5_printsWord 25 = .ok (.isub, 1) := by decide +kernel
theorem dX5_printsWord_26 : decode cX5_printsWord 26 = .ok (.istore_n 3, 1) := by decide +kernel
theorem dX5_printsWord_27 : decode cX5_printsWord 27 = .ok (.iinc 2 1, 3) := by decide +kernel
theorem dX5_printsWord_30 : decode cX5_printsWord 30 = .ok (.goto (-26), 3) := by decide +kernel
theorem dX5_printsWord_33 : decode cX5_printsWord 33 = .ok (.aload_n 0, 1) := by decide +kernel
theorem dX5_printsWord_34 : decode cX5_printsWord 34 = .ok (.getfield 43, 3) := by decide +kernel
theorem dX5_printsWord_37 : decode cX5_printsWord 37 = .ok (.iload_n 2, 1) := by decide +kernel
theorem dX5_printsWord_38 : decode cX5_printsWord 38 = .ok (.baload, 1) := by decide +kernel
theorem dX5_printsWord_39 : decode cX5_printsWord 39 = .ok (.bipush 32, 2) := by decide +kernel
theorem dX5_printsWord_41 : decode cX5_printsWord 41 = .ok (.if_icmp .eq 19, 3) := by decide +kernel
theorem dX5_printsWord_44 : decode cX5_printsWord 44 = .ok (.aload_n 0, 1) := by decide +kernel
theorem dX5_printsWord_45 : decode cX5_printsWord 45 = .ok (.aload_n 0, 1) := by decide +kernel
theorem dX5_printsWord_46 : decode cX5_printsWord 46 = .ok (.getfield 43, 3) := by decide +kernel
theorem dX5_printsWord_49 : decode cX5_printsWord 49 = .ok (.iload_n 2, 1) := by decide +kernel
theorem dX5_printsWord_50 : decode cX5_printsWord 50 = .ok (.baload, 1) := by decide +kernel
theorem dX5_printsWord_51 : decode cX5_printsWord 51 = .ok (.invokevirtual 363, 3) := by decide +kernel
theorem dX5_printsWord_54 : decode cX5_printsWord 54 = .ok (.iinc 2 1, 3) := by decide +kernel
theorem dX5_printsWord_57 : decode cX5_printsWord 57 = .ok (.goto (-24), 3) := by decide +kernel
theorem dX5_printsWord_60 : decode cX5_printsWord 60 = .ok (.return_, 1) := by decide +kernel
theorem dX5_printsNext_0 : decode cX5_printsNext 0 = .ok (.aload_n 0, 1) := by decide +kernel
theorem dX5_printsNext_1 : decode cX5_printsNext 1 = .ok (.bipush 32, 2) := by decide +kernel
theorem dX5_printsNext_3 : decode cX5_printsNext 3 = .ok (.invokevirtual 363, 3) := by decide +kernel
theorem dX5_printsNext_6 : decode cX5_printsNext 6 = .ok (.aload_n 0, 1) := by decide +kernel
theorem dX5_printsNext_7 : decode cX5_printsNext 7 = .ok (.iload_n 1, 1) := by decide +kernel
theorem dX5_printsNext_8 : decode cX5_printsNext 8 = .ok (.invokevirtual 366, 3) := by decide +kernel
theorem dX5_printsNext_11 : decode cX5_printsNext 11 = .ok (.return_, 1) := by decide +kernel
theorem dX5_printsClaim_0 : decode cX5_printsClaim 0 = .ok (.iload_n 1, 1) := by decide +kernel
theorem dX5_printsClaim_1 : decode cX5_printsClaim 1 = .ok (.iconst 2, 1) := by decide +kernel
theorem dX5_printsClaim_2 : decode cX5_printsClaim 2 = .ok (.irem, 1) := by decide +kernel
theorem dX5_printsClaim_3 : decode cX5_printsClaim 3 = .ok (.istore_n 2, 1) := by decide +kernel
theorem dX5_printsClaim_4 : decode cX5_printsClaim 4 = .ok (.iconst 0, 1) := by decide +kernel
theorem dX5_printsClaim_5 : decode cX5_printsClaim 5 = .ok (.istore_n 3, 1) := by decide +kernel
theorem dX5_printsClaim_6 : decode cX5_printsClaim 6 = .ok (.iload_n 3, 1) := by decide +kernel
theorem dX5_printsClaim_7 : decode cX5_printsClaim 7 = .ok (.aload_n 0, 1) := by decide +kernel
theorem dX5_printsClaim_8 : decode cX5_printsClaim 8 = .ok (.iload_n 2, 1) := by decide +kernel
theorem dX5_printsClaim_9 : decode cX5_printsClaim 9 = .ok (.invokevirtual 155, 3) := by decide +kernel
theorem dX5_printsClaim_12 : decode cX5_printsClaim 12 = .ok (.if_icmp .ge 124, 3) := by decide +kernel
theorem dX5_printsClaim_15 : decode cX5_printsClaim 15 = .ok (.iload_n 2, 1) := by decide +kernel
theorem dX5_printsClaim_16 : decode cX5_printsClaim 16 = .ok (.iload_n 3, 1) := by decide +kernel
theorem dX5_printsClaim_17 : decode cX5_printsClaim 17 = .ok (.invokestatic 158, 3) := by decide +kernel
theorem dX5_printsClaim_20 : decode cX5_printsClaim 20 = .ok (.istore 4, 2) := by decide +kernel
theorem dX5_printsClaim_22 : decode cX5_printsClaim 22 = .ok (.aload_n 0, 1) := by decide +kernel
theorem dX5_printsClaim_23 : decode cX5_printsClaim 23 = .ok (.getfield 7, 3) := by decide +kernel
theorem dX5_printsClaim_26 : decode cX5_printsClaim 26 = .ok (.iload 4, 2) := by decide +kernel
theorem dX5_printsClaim_28 : decode cX5_printsClaim 28 = .ok (.iconst 5, 1) := by decide +kernel
theorem dX5_printsClaim_29 : decode cX5_printsClaim 29 = .ok (.iadd, 1) := by decide +kernel
theorem dX5_printsClaim_30 : decode cX5_printsClaim 30 = .ok (.iaload, 1) := by decide +kernel
theorem dX5_printsClaim_31 : decode cX5_printsClaim 31 = .ok (.iload_n 1, 1) := by decide +kernel
theorem dX5_printsClaim_32 : decode cX5_printsClaim 32 = .ok (.if_icmp .eq 6, 3) := by decide +kernel
theorem dX5_printsClaim_35 : decode cX5_printsClaim 35 = .ok (.goto 95, 3) := by decide +kernel
theorem dX5_printsClaim_38 : decode cX5_printsClaim 38 = .ok (.aload_n 0, 1) := by decide +kernel
theorem dX5_printsClaim_39 : decode cX5_printsClaim 39 = .ok (.bipush 8, 2) := by decide +kernel
theorem dX5_printsClaim_41 : decode cX5_printsClaim 41 = .ok (.invokevirtual 372, 3) := by decide +kernel
theorem dX5_printsClaim_44 : decode cX5_printsClaim 44 = .ok (.aload_n 0, 1) := by decide +kernel
theorem dX5_printsClaim_45 : decode cX5_printsClaim 45 = .ok (.bipush 32, 2) := by decide +kernel
theorem dX5_printsClaim_47 : decode cX5_printsClaim 47 = .ok (.invokevirtual 363, 3) := by decide +kernel
theorem dX5_printsClaim_50 : decode cX5_printsClaim 50 = .ok (.aload_n 0, 1) := by decide +kernel
theorem dX5_printsClaim_51 : decode cX5_printsClaim 51 = .ok (.aload_n 0, 1) := by decide +kernel
theorem dX5_printsClaim_52 : decode cX5_printsClaim 52 = .ok (.getfield 7, 3) := by decide +kernel
theorem dX5_printsClaim_55 : decode cX5_printsClaim 55 = .ok (.iload 4, 2) := by decide +kernel
theorem dX5_printsClaim_57 : decode cX5_printsClaim 57 = .ok (.iconst 3, 1) := by decide +kernel
theorem dX5_printsClaim_58 : decode cX5_printsClaim 58 = .ok (.iadd, 1) := by decide +kernel
theorem dX5_printsClaim_59 : decode cX5_printsClaim 59 = .ok (.iaload, 1) := by decide +kernel
theorem dX5_printsClaim_60 : decode cX5_printsClaim 60 = .ok (.iconst 1, 1) := by decide +kernel
theorem dX5_printsClaim_61 : decode cX5_printsClaim 61 = .ok (.if_icmp .ne 8, 3) := by decide +kernel
theorem dX5_printsClaim_64 : decode cX5_printsClaim 64 = .ok (.bipush 11, 2) := by decide +kernel
theorem dX5_printsClaim_66 : decode cX5_printsClaim 66 = .ok (.goto 5, 3) := by decide +kernel
theorem dX5_printsClaim_69 : decode cX5_printsClaim 69 = .ok (.bipush 10, 2) := by decide +kernel
theorem dX5_printsClaim_71 : decode cX5_printsClaim 71 = .ok (.invokevirtual 372, 3) := by decide +kernel
theorem dX5_printsClaim_74 : decode cX5_printsClaim 74 = .ok (.aload_n 0, 1) := by decide +kernel
theorem dX5_printsClaim_75 : decode cX5_printsClaim 75 = .ok (.aload_n 0, 1) := by decide +kernel
theorem dX5_printsClaim_76 : decode cX5_printsClaim 76 = .ok (.getfield 7, 3) := by decide +kernel
theorem dX5_printsClaim_79 : decode cX5_printsClaim 79 = .ok (.iload 4, 2) := by decide +kernel
theorem dX5_printsClaim_81 : decode cX5_printsClaim 81 = .ok (.iaload, 1) := by decide +kernel
theorem dX5_printsClaim_82 : decode cX5_printsClaim 82 = .ok (.invokevirtual 375, 3) := by decide +kernel
theorem dX5_printsClaim_85 : decode cX5_printsClaim 85 = .ok (.aload_n 0, 1) := by decide +kernel
theorem dX5_printsClaim_86 : decode cX5_printsClaim 86 = .ok (.aload_n 0, 1) := by decide +kernel
theorem dX5_printsClaim_87 : decode cX5_printsClaim 87 = .ok (.getfield 7, 3) := by decide +kernel
theorem dX5_printsClaim_90 : decode cX5_printsClaim 90 = .ok (.iload 4, 2) := by decide +kernel
theorem dX5_printsClaim_92 : decode cX5_printsClaim 92 = .ok (.iconst 1, 1) := by decide +kernel
theorem dX5_printsClaim_93 : decode cX5_printsClaim 93 = .ok (.iadd, 1) := by decide +kernel
theorem dX5_printsClaim_94 : decode cX5_printsClaim 94 = .ok (.iaload, 1) := by decide +kernel
theorem dX5_printsClaim_95 : decode cX5_printsClaim 95 = .ok (.invokevirtual 375, 3) := by decide +kernel
theorem dX5_printsClaim_98 : decode cX5_printsClaim 98 = .ok (.aload_n 0, 1) := by decide +kernel
theorem dX5_printsClaim_99 : decode cX5_printsClaim 99 = .ok (.aload_n 0, 1) := by decide +kernel
theorem dX5_printsClaim_100 : decode cX5_printsClaim 100 = .ok (.getfield 7, 3) := by decide +kernel
theorem dX5_printsClaim_103 : decode cX5_printsClaim 103 = .ok (.iload 4, 2) := by decide +kernel
theorem dX5_printsClaim_105 : decode cX5_printsClaim 105 = .ok (.iconst 2, 1) := by decide +kernel
theorem dX5_printsClaim_106 : decode cX5_printsClaim 106 = .ok (.iadd, 1) := by decide +kernel
theorem dX5_printsClaim_107 : decode cX5_printsClaim 107 = .ok (.iaload, 1) := by decide +kernel
theorem dX5_printsClaim_108 : decode cX5_printsClaim 108 = .ok (.invokevirtual 375, 3) := by decide +kernel
theorem dX5_printsClaim_111 : decode cX5_printsClaim 111 = .ok (.aload_n 0, 1) := by decide +kernel
theorem dX5_printsClaim_112 : decode cX5_printsClaim 112 = .ok (.aload_n 0, 1) := by decide +kernel
theorem dX5_printsClaim_113 : decode cX5_printsClaim 113 = .ok (.getfield 7, 3) := by decide +kernel
theorem dX5_printsClaim_116 : decode cX5_printsClaim 116 = .ok (.iload 4, 2) := by decide +kernel
theorem dX5_printsClaim_118 : decode cX5_printsClaim 118 = .ok (.iconst 4, 1) := by decide +kernel
theorem dX5_printsClaim_119 : decode cX5_printsClaim 119 = .ok (.iadd, 1) := by decide +kernel
theorem dX5_printsClaim_120 : decode cX5_printsClaim 120 = .ok (.iaload, 1) := by decide +kernel
theorem dX5_printsClaim_121 : decode cX5_printsClaim 121 = .ok (.invokevirtual 375, 3) := by decide +kernel
theorem dX5_printsClaim_124 : decode cX5_printsClaim 124 = .ok (.aload_n 0, 1) := by decide +kernel
theorem dX5_printsClaim_125 : decode cX5_printsClaim 125 = .ok (.bipush 59, 2) := by decide +kernel
theorem dX5_printsClaim_127 : decode cX5_printsClaim 127 = .ok (.invokevirtual 363, 3) := by decide +kernel
theorem dX5_printsClaim_130 : decode cX5_printsClaim 130 = .ok (.iinc 3 1, 3) := by decide +kernel
theorem dX5_printsClaim_133 : decode cX5_printsClaim 133 = .ok (.goto (-127), 3) := by decide +kernel
theorem dX5_printsClaim_136 : decode cX5_printsClaim 136 = .ok (.return_, 1) := by decide +kernel
theorem dX5_writeTurns_0 : decode cX5_writeTurns 0 = .ok (.aload_n 0, 1) := by decide +kernel
theorem dX5_writeTurns_1 : decode cX5_writeTurns 1 = .ok (.iconst 0, 1) := by decide +kernel
theorem dX5_writeTurns_2 : decode cX5_writeTurns 2 = .ok (.putfield 55, 3) := by decide +kernel
theorem dX5_writeTurns_5 : decode cX5_writeTurns 5 = .ok (.aload_n 0, 1) := by decide +kernel
theorem dX5_writeTurns_6 : decode cX5_writeTurns 6 = .ok (.iconst 0, 1) := by decide +kernel
theorem dX5_writeTurns_7 : decode cX5_writeTurns 7 = .ok (.putfield 360, 3) := by decide +kernel
theorem dX5_writeTurns_10 : decode cX5_writeTurns 10 = .ok (.iconst 0, 1) := by decide +kernel
theorem dX5_writeTurns_11 : decode cX5_writeTurns 11 = .ok (.istore_n 1, 1) := by decide +kernel
theorem dX5_writeTurns_12 : decode cX5_writeTurns 12 = .ok (.iload_n 1, 1) := by decide +kernel
theorem dX5_writeTurns_13 : decode cX5_writeTurns 13 = .ok (.aload_n 0, 1) := by decide +kernel
theorem dX5_writeTurns_14 : decode cX5_writeTurns 14 = .ok (.getfield 7, 3) := by decide +kernel
theorem dX5_writeTurns_17 : decode cX5_writeTurns 17 = .ok (.bipush 7, 2) := by decide +kernel
theorem dX5_writeTurns_19 : decode cX5_writeTurns 19 = .ok (.iaload, 1) := by decide +kernel
theorem dX5_writeTurns_20 : decode cX5_writeTurns 20 = .ok (.if_icmp .ge 81, 3) := by decide +kernel
theorem dX5_writeTurns_23 : decode cX5_writeTurns 23 = .ok (.aload_n 0, 1) := by decide +kernel
theorem dX5_writeTurns_24 : decode cX5_writeTurns 24 = .ok (.iload_n 1, 1) := by decide +kernel
theorem dX5_writeTurns_25 : decode cX5_writeTurns 25 = .ok (.invokevirtual 378, 3) := by decide +kernel
theorem dX5_writeTurns_28 : decode cX5_writeTurns 28 = .ok (.bipush 100, 2) := by decide +kernel
theorem dX5_writeTurns_30 : decode cX5_writeTurns 30 = .ok (.iconst 3, 1) := by decide +kernel
theorem dX5_writeTurns_31 : decode cX5_writeTurns 31 = .ok (.iload_n 1, 1) := by decide +kernel
theorem dX5_writeTurns_32 : decode cX5_writeTurns 32 = .ok (.imul, 1) := by decide +kernel
theorem dX5_writeTurns_33 : decode cX5_writeTurns 33 = .ok (.iadd, 1) := by decide +kernel
theorem dX5_writeTurns_34 : decode cX5_writeTurns 34 = .ok (.istore_n 2, 1) := by decide +kernel
theorem dX5_writeTurns_35 : decode cX5_writeTurns 35 = .ok (.aload_n 0, 1) := by decide +kernel
theorem dX5_writeTurns_36 : decode cX5_writeTurns 36 = .ok (.aload_n 0, 1) := by decide +kernel
theorem dX5_writeTurns_37 : decode cX5_writeTurns 37 = .ok (.getfield 7, 3) := by decide +kernel
theorem dX5_writeTurns_40 : decode cX5_writeTurns 40 = .ok (.iload_n 2, 1) := by decide +kernel
theorem dX5_writeTurns_41 : decode cX5_writeTurns 41 = .ok (.iaload, 1) := by decide +kernel
theorem dX5_writeTurns_42 : decode cX5_writeTurns 42 = .ok (.iconst 1, 1) := by decide +kernel
theorem dX5_writeTurns_43 : decode cX5_writeTurns 43 = .ok (.if_icmp .ne 8, 3) := by decide +kernel
theorem dX5_writeTurns_46 : decode cX5_writeTurns 46 = .ok (.bipush 9, 2) := by decide +kernel
theorem dX5_writeTurns_48 : decode cX5_writeTurns 48 = .ok (.goto 5, 3) := by decide +kernel
theorem dX5_writeTurns_51 : decode cX5_writeTurns 51 = .ok (.bipush 7, 2) := by decide +kernel
theorem dX5_writeTurns_53 : decode cX5_writeTurns 53 = .ok (.invokevirtual 372, 3) := by decide +kernel
theorem dX5_writeTurns_56 : decode cX5_writeTurns 56 = .ok (.aload_n 0, 1) := by decide +kernel
theorem dX5_writeTurns_57 : decode cX5_writeTurns 57 = .ok (.getfield 7, 3) := by decide +kernel
theorem dX5_writeTurns_60 : decode cX5_writeTurns 60 = .ok (.iload_n 2, 1) := by decide +kernel
theorem dX5_writeTurns_61 : decode cX5_writeTurns 61 = .ok (.iaload, 1) := by decide +kernel
theorem dX5_writeTurns_62 : decode cX5_writeTurns 62 = .ok (.ifCond .ne 27, 3) := by decide +kernel
theorem dX5_writeTurns_65 : decode cX5_writeTurns 65 = .ok (.aload_n 0, 1) := by decide +kernel
theorem dX5_writeTurns_66 : decode cX5_writeTurns 66 = .ok (.aload_n 0, 1) := by decide +kernel
theorem dX5_writeTurns_67 : decode cX5_writeTurns 67 = .ok (.getfield 7, 3) := by decide +kernel
theorem dX5_writeTurns_70 : decode cX5_writeTurns 70 = .ok (.iload_n 2, 1) := by decide +kernel
theorem dX5_writeTurns_71 : decode cX5_writeTurns 71 = .ok (.iconst 1, 1) := by decide +kernel
theorem dX5_writeTurns_72 : decode cX5_writeTurns 72 = .ok (.iadd, 1) := by decide +kernel
theorem dX5_writeTurns_73 : decode cX5_writeTurns 73 = .ok (.iaload, 1) := by decide +kernel
theorem dX5_writeTurns_74 : decode cX5_writeTurns 74 = .ok (.invokevirtual 375, 3) := by decide +kernel
theorem dX5_writeTurns_77 : decode cX5_writeTurns 77 = .ok (.aload_n 0, 1) := by decide +kernel
theorem dX5_writeTurns_78 : decode cX5_writeTurns 78 = .ok (.aload_n 0, 1) := by decide +kernel
theorem dX5_writeTurns_79 : decode cX5_writeTurns 79 = .ok (.getfield 7, 3) := by decide +kernel
theorem dX5_writeTurns_82 : decode cX5_writeTurns 82 = .ok (.iload_n 2, 1) := by decide +kernel
theorem dX5_writeTurns_83 : decode cX5_writeTurns 83 = .ok (.iconst 2, 1) := by decide +kernel
theorem dX5_writeTurns_84 : decode cX5_writeTurns 84 = .ok (.iadd, 1) := by decide +kernel
theorem dX5_writeTurns_85 : decode cX5_writeTurns 85 = .ok (.iaload, 1) := by decide +kernel
theorem dX5_writeTurns_86 : decode cX5_writeTurns 86 = .ok (.invokevirtual 375, 3) := by decide +kernel
theorem dX5_writeTurns_89 : decode cX5_writeTurns 89 = .ok (.aload_n 0, 1) := by decide +kernel
theorem dX5_writeTurns_90 : decode cX5_writeTurns 90 = .ok (.bipush 59, 2) := by decide +kernel
theorem dX5_writeTurns_92 : decode cX5_writeTurns 92 = .ok (.invokevirtual 363, 3) := by decide +kernel
theorem dX5_writeTurns_95 : decode cX5_writeTurns 95 = .ok (.iinc 1 1, 3) := by decide +kernel
theorem dX5_writeTurns_98 : decode cX5_writeTurns 98 = .ok (.goto (-86), 3) := by decide +kernel
theorem dX5_writeTurns_101 : decode cX5_writeTurns 101 = .ok (.aload_n 0, 1) := by decide +kernel
theorem dX5_writeTurns_102 : decode cX5_writeTurns 102 = .ok (.aload_n 0, 1) := by decide +kernel
theorem dX5_writeTurns_103 : decode cX5_writeTurns 103 = .ok (.getfield 7, 3) := by decide +kernel
theorem dX5_writeTurns_106 : decode cX5_writeTurns 106 = .ok (.bipush 7, 2) := by decide +kernel
theorem dX5_writeTurns_108 : decode cX5_writeTurns 108 = .ok (.iaload, 1) := by decide +kernel
theorem dX5_writeTurns_109 : decode cX5_writeTurns 109 = .ok (.invokevirtual 378, 3) := by decide +kernel
theorem dX5_writeTurns_112 : decode cX5_writeTurns 112 = .ok (.aload_n 0, 1) := by decide +kernel
theorem dX5_writeTurns_113 : decode cX5_writeTurns 113 = .ok (.getfield 360, 3) := by decide +kernel
theorem dX5_writeTurns_116 : decode cX5_writeTurns 116 = .ok (.ireturn, 1) := by decide +kernel
theorem dX5_output_0 : decode cX5_output 0 = .ok (.aload_n 0, 1) := by decide +kernel
theorem dX5_output_1 : decode cX5_output 1 = .ok (.iconst 0, 1) := by decide +kernel
theorem dX5_output_2 : decode cX5_output 2 = .ok (.putfield 55, 3) := by decide +kernel
theorem dX5_output_5 : decode cX5_output 5 = .ok (.iload_n 1, 1) := by decide +kernel
theorem dX5_output_6 : decode cX5_output 6 = .ok (.iconst 0, 1) := by decide +kernel
theorem dX5_output_7 : decode cX5_output 7 = .ok (.aload_n 0, 1) := by decide +kernel
theorem dX5_output_8 : decode cX5_output 8 = .ok (.getfield 360, 3) := by decide +kernel
theorem dX5_output_11 : decode cX5_output 11 = .ok (.iconst 1, 1) := by decide +kernel
theorem dX5_output_12 : decode cX5_output 12 = .ok (.isub, 1) := by decide +kernel
theorem dX5_output_13 : decode cX5_output 13 = .ok (.invokestatic 144, 3) := by decide +kernel
theorem dX5_output_16 : decode cX5_output 16 = .ok (.ifCond .eq 12, 3) := by decide +kernel
theorem dX5_output_19 : decode cX5_output 19 = .ok (.aload_n 0, 1) := by decide +kernel
theorem dX5_output_20 : decode cX5_output 20 = .ok (.getfield 49, 3) := by decide +kernel
theorem dX5_output_23 : decode cX5_output 23 = .ok (.iload_n 1, 1) := by decide +kernel
theorem dX5_output_24 : decode cX5_output 24 = .ok (.baload, 1) := by decide +kernel
theorem dX5_output_25 : decode cX5_output 25 = .ok (.goto 4, 3) := by decide +kernel
theorem dX5_output_28 : decode cX5_output 28 = .ok (.iconst (-1), 1) := by decide +kernel
theorem dX5_output_29 : decode cX5_output 29 = .ok (.ireturn, 1) := by decide +kernel
theorem dX5_undo_0 : decode cX5_undo 0 = .ok (.aload_n 0, 1) := by decide +kernel
theorem dX5_undo_1 : decode cX5_undo 1 = .ok (.iconst 0, 1) := by decide +kernel
theorem dX5_undo_2 : decode cX5_undo 2 = .ok (.putfield 55, 3) := by decide +kernel
theorem dX5_undo_5 : decode cX5_undo 5 = .ok (.aload_n 0, 1) := by decide +kernel
theorem dX5_undo_6 : decode cX5_undo 6 = .ok (.getfield 177, 3) := by decide +kernel
theorem dX5_undo_9 : decode cX5_undo 9 = .ok (.ifCond .ne 5, 3) := by decide +kernel
theorem dX5_undo_12 : decode cX5_undo 12 = .ok (.iconst (-1), 1) := by decide +kernel
theorem dX5_undo_13 : decode cX5_undo 13 = .ok (.ireturn, 1) := by decide +kernel
theorem dX5_undo_14 : decode cX5_undo 14 = .ok (.aload_n 0, 1) := by decide +kernel
theorem dX5_undo_15 : decode cX5_undo 15 = .ok (.dup, 1) := by decide +kernel
theorem dX5_undo_16 : decode cX5_undo 16 = .ok (.getfield 177, 3) := by decide +kernel
theorem dX5_undo_19 : decode cX5_undo 19 = .ok (.iconst 1, 1) := by decide +kernel
theorem dX5_undo_20 : decode cX5_undo 20 = .ok (.isub, 1) := by decide +kernel
theorem dX5_undo_21 : decode cX5_undo 21 = .ok (.putfield 177, 3) := by decide +kernel
theorem dX5_undo_24 : decode cX5_undo 24 = .ok (.aload_n 0, 1) := by decide +kernel
theorem dX5_undo_25 : decode cX5_undo 25 = .ok (.getfield 16, 3) := by decide +kernel
theorem dX5_undo_28 : decode cX5_undo 28 = .ok (.sipush 280, 3) := by decide +kernel
theorem dX5_undo_31 : decode cX5_undo 31 = .ok (.aload_n 0, 1) := by decide +kernel
theorem dX5_undo_32 : decode cX5_undo 32 = .ok (.getfield 177, 3) := by decide +kernel
theorem dX5_undo_35 : decode cX5_undo 35 = .ok (.imul, 1) := by decide +kernel
theorem dX5_undo_36 : decode cX5_undo 36 = .ok (.aload_n 0, 1) := by decide +kernel
theorem dX5_undo_37 : decode cX5_undo 37 = .ok (.getfield 7, 3) := by decide +kernel
theorem dX5_undo_40 : decode cX5_undo 40 = .ok (.iconst 0, 1) := by decide +kernel
theorem dX5_undo_41 : decode cX5_undo 41 = .ok (.invokestatic 180, 3) := by decide +kernel
theorem dX5_undo_44 : decode cX5_undo 44 = .ok (.aload_n 0, 1) := by decide +kernel
theorem dX5_undo_45 : decode cX5_undo 45 = .ok (.getfield 177, 3) := by decide +kernel
theorem dX5_undo_48 : decode cX5_undo 48 = .ok (.ireturn, 1) := by decide +kernel
theorem dX5_save_0 : decode cX5_save 0 = .ok (.aload_n 0, 1) := by decide +kernel
theorem dX5_save_1 : decode cX5_save 1 = .ok (.iload_n 1, 1) := by decide +kernel
theorem dX5_save_2 : decode cX5_save 2 = .ok (.iconst 0, 1) := by decide +kernel
theorem dX5_save_3 : decode cX5_save 3 = .ok (.iconst 1, 1) := by decide +kernel
theorem dX5_save_4 : decode cX5_save 4 = .ok (.invokestatic 144, 3) := by decide +kernel
theorem dX5_save_7 : decode cX5_save 7 = .ok (.ifCond .eq 7, 3) := by decide +kernel
theorem dX5_save_10 : decode cX5_save 10 = .ok (.iconst 0, 1) := by decide +kernel
theorem dX5_save_11 : decode cX5_save 11 = .ok (.goto 4, 3) := by decide +kernel
theorem dX5_save_14 : decode cX5_save 14 = .ok (.iconst 1, 1) := by decide +kernel
theorem dX5_save_15 : decode cX5_save 15 = .ok (.putfield 55, 3) := by decide +kernel
theorem dX5_save_18 : decode cX5_save 18 = .ok (.aload_n 0, 1) := by decide +kernel
theorem dX5_save_19 : decode cX5_save 19 = .ok (.getfield 55, 3) := by decide +kernel
theorem dX5_save_22 : decode cX5_save 22 = .ok (.ifCond .le 4, 3) := by decide +kernel
theorem dX5_save_25 : decode cX5_save 25 = .ok (.return_, 1) := by decide +kernel
theorem dX5_save_26 : decode cX5_save 26 = .ok (.aload_n 0, 1) := by decide +kernel
theorem dX5_save_27 : decode cX5_save 27 = .ok (.getfield 7, 3) := by decide +kernel
theorem dX5_save_30 : decode cX5_save 30 = .ok (.iconst 0, 1) := by decide +kernel
theorem dX5_save_31 : decode cX5_save 31 = .ok (.aload_n 0, 1) := by decide +kernel
theorem dX5_save_32 : decode cX5_save 32 = .ok (.getfield 19, 3) := by decide +kernel
theorem dX5_save_35 : decode cX5_save 35 = .ok (.sipush 280, 3) := by decide +kernel
theorem dX5_save_38 : decode cX5_save 38 = .ok (.iload_n 1, 1) := by decide +kernel
theorem dX5_save_39 : decode cX5_save 39 = .ok (.imul, 1) := by decide +kernel
theorem dX5_save_40 : decode cX5_save 40 = .ok (.invokestatic 180, 3) := by decide +kernel
theorem dX5_save_43 : decode cX5_save 43 = .ok (.aload_n 0, 1) := by decide +kernel
theorem dX5_save_44 : decode cX5_save 44 = .ok (.getfield 22, 3) := by decide +kernel
theorem dX5_save_47 : decode cX5_save 47 = .ok (.iload_n 1, 1) := by decide +kernel
theorem dX5_save_48 : decode cX5_save 48 = .ok (.iconst 1, 1) := by decide +kernel
theorem dX5_save_49 : decode cX5_save 49 = .ok (.bastore, 1) := by decide +kernel
theorem dX5_save_50 : decode cX5_save 50 = .ok (.return_, 1) := by decide +kernel
theorem dX5_restore_0 : decode cX5_restore 0 = .ok (.aload_n 0, 1) := by decide +kernel
theorem dX5_restore_1 : decode cX5_restore 1 = .ok (.iload_n 1, 1) := by decide +kernel
theorem dX5_restore_2 : decode cX5_restore 2 = .ok (.iconst 0, 1) := by decide +kernel
theorem dX5_restore_3 : decode cX5_restore 3 = .ok (.iconst 1, 1) := by decide +kernel
theorem dX5_restore_4 : decode cX5_restore 4 = .ok (.invokestatic 144, 3) := by decide +kernel
theorem dX5_restore_7 : decode cX5_restore 7 = .ok (.ifCond .ne 7, 3) := by decide +kernel
theorem dX5_restore_10 : decode cX5_restore 10 = .ok (.iconst 1, 1) := by decide +kernel
theorem dX5_restore_11 : decode cX5_restore 11 = .ok (.goto 17, 3) := by decide +kernel
theorem dX5_restore_14 : decode cX5_restore 14 = .ok (.aload_n 0, 1) := by decide +kernel
theorem dX5_restore_15 : decode cX5_restore 15 = .ok (.getfield 22, 3) := by decide +kernel
theorem dX5_restore_18 : decode cX5_restore 18 = .ok (.iload_n 1, 1) := by decide +kernel
theorem dX5_restore_19 : decode cX5_restore 19 = .ok (.baload, 1) := by decide +kernel
theorem dX5_restore_20 : decode cX5_restore 20 = .ok (.ifCond .eq 7, 3) := by decide +kernel
theorem dX5_restore_23 : decode cX5_restore 23 = .ok (.iconst 0, 1) := by decide +kernel
theorem dX5_restore_24 : decode cX5_restore 24 = .ok (.goto 4, 3) := by decide +kernel
theorem dX5_restore_27 : decode cX5_restore 27 = .ok (.iconst 2, 1) := by decide +kernel
theorem dX5_restore_28 : decode cX5_restore 28 = .ok (.putfield 55, 3) := by decide +kernel
theorem dX5_restore_31 : decode cX5_restore 31 = .ok (.aload_n 0, 1) := by decide +kernel
theorem dX5_restore_32 : decode cX5_restore 32 = .ok (.getfield 55, 3) := by decide +kernel
theorem dX5_restore_35 : decode cX5_restore 35 = .ok (.ifCond .le 4, 3) := by decide +kernel
theorem dX5_restore_38 : decode cX5_restore 38 = .ok (.return_, 1) := by decide +kernel
theorem dX5_restore_39 : decode cX5_restore 39 = .ok (.aload_n 0, 1) := by decide +kernel
theorem dX5_restore_40 : decode cX5_restore 40 = .ok (.getfield 19, 3) := by decide +kernel
theorem dX5_restore_43 : decode cX5_restore 43 = .ok (.sipush 280, 3) := by decide +kernel
theorem dX5_restore_46 : decode cX5_restore 46 = .ok (.iload_n 1, 1) := by decide +kernel
theorem dX5_restore_47 : decode cX5_restore 47 = .ok (.imul, 1) := by decide +kernel
theorem dX5_restore_48 : decode cX5_restore 48 = .ok (.aload_n 0, 1) := by decide +kernel
theorem dX5_restore_49 : decode cX5_restore 49 = .ok (.getfield 7, 3) := by decide +kernel
theorem dX5_restore_52 : decode cX5_restore 52 = .ok (.iconst 0, 1) := by decide +kernel
theorem dX5_restore_53 : decode cX5_restore 53 = .ok (.invokestatic 180, 3) := by decide +kernel
theorem dX5_restore_56 : decode cX5_restore 56 = .ok (.aload_n 0, 1) := by decide +kernel
theorem dX5_restore_57 : decode cX5_restore 57 = .ok (.iconst 0, 1) := by decide +kernel
theorem dX5_restore_58 : decode cX5_restore 58 = .ok (.putfield 177, 3) := by decide +kernel
theorem dX5_restore_61 : decode cX5_restore 61 = .ok (.return_, 1) := by decide +kernel
