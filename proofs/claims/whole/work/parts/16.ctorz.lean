/-! the constructor of CipherNotationModel -/
def y_Z_init : MethodName := ⟨"CipherNotationModel", "<init>", "()V"⟩
theorem d_Z_init_0 : decode prog_8_method_1_code 0 = .ok (.aload_n 0, 1) := by decide +kernel
theorem d_Z_init_1 : decode prog_8_method_1_code 1 = .ok (.invokespecial (1), 3) := by decide +kernel
theorem d_Z_init_4 : decode prog_8_method_1_code 4 = .ok (.aload_n 0, 1) := by decide +kernel
theorem d_Z_init_5 : decode prog_8_method_1_code 5 = .ok (.sipush (240), 3) := by decide +kernel
theorem d_Z_init_8 : decode prog_8_method_1_code 8 = .ok (.newarray .int, 2) := by decide +kernel
theorem d_Z_init_10 : decode prog_8_method_1_code 10 = .ok (.putfield (7), 3) := by decide +kernel
theorem d_Z_init_13 : decode prog_8_method_1_code 13 = .ok (.aload_n 0, 1) := by decide +kernel
theorem d_Z_init_14 : decode prog_8_method_1_code 14 = .ok (.sipush (240), 3) := by decide +kernel
theorem d_Z_init_17 : decode prog_8_method_1_code 17 = .ok (.newarray .int, 2) := by decide +kernel
theorem d_Z_init_19 : decode prog_8_method_1_code 19 = .ok (.putfield (13), 3) := by decide +kernel
theorem d_Z_init_22 : decode prog_8_method_1_code 22 = .ok (.aload_n 0, 1) := by decide +kernel
theorem d_Z_init_23 : decode prog_8_method_1_code 23 = .ok (.iconst (-1), 1) := by decide +kernel
theorem d_Z_init_24 : decode prog_8_method_1_code 24 = .ok (.putfield (16), 3) := by decide +kernel
theorem d_Z_init_27 : decode prog_8_method_1_code 27 = .ok (.aload_n 0, 1) := by decide +kernel
theorem d_Z_init_28 : decode prog_8_method_1_code 28 = .ok (.iconst 3, 1) := by decide +kernel
theorem d_Z_init_29 : decode prog_8_method_1_code 29 = .ok (.newarray .long, 2) := by decide +kernel
theorem d_Z_init_31 : decode prog_8_method_1_code 31 = .ok (.putfield (20), 3) := by decide +kernel
theorem d_Z_init_34 : decode prog_8_method_1_code 34 = .ok (.aload_n 0, 1) := by decide +kernel
theorem d_Z_init_35 : decode prog_8_method_1_code 35 = .ok (.iconst 3, 1) := by decide +kernel
theorem d_Z_init_36 : decode prog_8_method_1_code 36 = .ok (.newarray .int, 2) := by decide +kernel
theorem d_Z_init_38 : decode prog_8_method_1_code 38 = .ok (.putfield (24), 3) := by decide +kernel
theorem d_Z_init_41 : decode prog_8_method_1_code 41 = .ok (.aload_n 0, 1) := by decide +kernel
theorem d_Z_init_42 : decode prog_8_method_1_code 42 = .ok (.bipush (32), 2) := by decide +kernel
theorem d_Z_init_44 : decode prog_8_method_1_code 44 = .ok (.newarray .int, 2) := by decide +kernel
theorem d_Z_init_46 : decode prog_8_method_1_code 46 = .ok (.putfield (27), 3) := by decide +kernel
theorem d_Z_init_49 : decode prog_8_method_1_code 49 = .ok (.aload_n 0, 1) := by decide +kernel
theorem d_Z_init_50 : decode prog_8_method_1_code 50 = .ok (.iconst 4, 1) := by decide +kernel
theorem d_Z_init_51 : decode prog_8_method_1_code 51 = .ok (.newarray .long, 2) := by decide +kernel
theorem d_Z_init_53 : decode prog_8_method_1_code 53 = .ok (.putfield (30), 3) := by decide +kernel
theorem d_Z_init_56 : decode prog_8_method_1_code 56 = .ok (.aload_n 0, 1) := by decide +kernel
theorem d_Z_init_57 : decode prog_8_method_1_code 57 = .ok (.iconst 4, 1) := by decide +kernel
theorem d_Z_init_58 : decode prog_8_method_1_code 58 = .ok (.newarray .int, 2) := by decide +kernel
theorem d_Z_init_60 : decode prog_8_method_1_code 60 = .ok (.putfield (33), 3) := by decide +kernel
theorem d_Z_init_63 : decode prog_8_method_1_code 63 = .ok (.aload_n 0, 1) := by decide +kernel
theorem d_Z_init_64 : decode prog_8_method_1_code 64 = .ok (.iconst 2, 1) := by decide +kernel
theorem d_Z_init_65 : decode prog_8_method_1_code 65 = .ok (.newarray .int, 2) := by decide +kernel
theorem d_Z_init_67 : decode prog_8_method_1_code 67 = .ok (.putfield (36), 3) := by decide +kernel
theorem d_Z_init_70 : decode prog_8_method_1_code 70 = .ok (.aload_n 0, 1) := by decide +kernel
theorem d_Z_init_71 : decode prog_8_method_1_code 71 = .ok (.sipush (240), 3) := by decide +kernel
theorem d_Z_init_74 : decode prog_8_method_1_code 74 = .ok (.newarray .int, 2) := by decide +kernel
theorem d_Z_init_76 : decode prog_8_method_1_code 76 = .ok (.putfield (39), 3) := by decide +kernel
theorem d_Z_init_79 : decode prog_8_method_1_code 79 = .ok (.aload_n 0, 1) := by decide +kernel
theorem d_Z_init_80 : decode prog_8_method_1_code 80 = .ok (.sipush (240), 3) := by decide +kernel
theorem d_Z_init_83 : decode prog_8_method_1_code 83 = .ok (.newarray .int, 2) := by decide +kernel
theorem d_Z_init_85 : decode prog_8_method_1_code 85 = .ok (.putfield (42), 3) := by decide +kernel
theorem d_Z_init_88 : decode prog_8_method_1_code 88 = .ok (.aload_n 0, 1) := by decide +kernel
theorem d_Z_init_89 : decode prog_8_method_1_code 89 = .ok (.sipush (240), 3) := by decide +kernel
theorem d_Z_init_92 : decode prog_8_method_1_code 92 = .ok (.newarray .int, 2) := by decide +kernel
theorem d_Z_init_94 : decode prog_8_method_1_code 94 = .ok (.putfield (45), 3) := by decide +kernel
theorem d_Z_init_97 : decode prog_8_method_1_code 97 = .ok (.aload_n 0, 1) := by decide +kernel
theorem d_Z_init_98 : decode prog_8_method_1_code 98 = .ok (.sipush (240), 3) := by decide +kernel
theorem d_Z_init_101 : decode prog_8_method_1_code 101 = .ok (.newarray .int, 2) := by decide +kernel
theorem d_Z_init_103 : decode prog_8_method_1_code 103 = .ok (.putfield (48), 3) := by decide +kernel
theorem d_Z_init_106 : decode prog_8_method_1_code 106 = .ok (.aload_n 0, 1) := by decide +kernel
theorem d_Z_init_107 : decode prog_8_method_1_code 107 = .ok (.sipush (240), 3) := by decide +kernel
theorem d_Z_init_110 : decode prog_8_method_1_code 110 = .ok (.newarray .int, 2) := by decide +kernel
theorem d_Z_init_112 : decode prog_8_method_1_code 112 = .ok (.putfield (51), 3) := by decide +kernel
theorem d_Z_init_115 : decode prog_8_method_1_code 115 = .ok (.aload_n 0, 1) := by decide +kernel
theorem d_Z_init_116 : decode prog_8_method_1_code 116 = .ok (.sipush (240), 3) := by decide +kernel
theorem d_Z_init_119 : decode prog_8_method_1_code 119 = .ok (.newarray .long, 2) := by decide +kernel
theorem d_Z_init_121 : decode prog_8_method_1_code 121 = .ok (.putfield (54), 3) := by decide +kernel
theorem d_Z_init_124 : decode prog_8_method_1_code 124 = .ok (.aload_n 0, 1) := by decide +kernel
theorem d_Z_init_125 : decode prog_8_method_1_code 125 = .ok (.sipush (240), 3) := by decide +kernel
theorem d_Z_init_128 : decode prog_8_method_1_code 128 = .ok (.newarray .int, 2) := by decide +kernel
theorem d_Z_init_130 : decode prog_8_method_1_code 130 = .ok (.putfield (57), 3) := by decide +kernel
theorem d_Z_init_133 : decode prog_8_method_1_code 133 = .ok (.aload_n 0, 1) := by decide +kernel
theorem d_Z_init_134 : decode prog_8_method_1_code 134 = .ok (.sipush (240), 3) := by decide +kernel
theorem d_Z_init_137 : decode prog_8_method_1_code 137 = .ok (.newarray .int, 2) := by decide +kernel
theorem d_Z_init_139 : decode prog_8_method_1_code 139 = .ok (.putfield (60), 3) := by decide +kernel
theorem d_Z_init_142 : decode prog_8_method_1_code 142 = .ok (.aload_n 0, 1) := by decide +kernel
theorem d_Z_init_143 : decode prog_8_method_1_code 143 = .ok (.sipush (240), 3) := by decide +kernel
theorem d_Z_init_146 : decode prog_8_method_1_code 146 = .ok (.newarray .int, 2) := by decide +kernel
theorem d_Z_init_148 : decode prog_8_method_1_code 148 = .ok (.putfield (63), 3) := by decide +kernel
theorem d_Z_init_151 : decode prog_8_method_1_code 151 = .ok (.aload_n 0, 1) := by decide +kernel
theorem d_Z_init_152 : decode prog_8_method_1_code 152 = .ok (.sipush (240), 3) := by decide +kernel
theorem d_Z_init_155 : decode prog_8_method_1_code 155 = .ok (.newarray .long, 2) := by decide +kernel
theorem d_Z_init_157 : decode prog_8_method_1_code 157 = .ok (.putfield (66), 3) := by decide +kernel
theorem d_Z_init_160 : decode prog_8_method_1_code 160 = .ok (.aload_n 0, 1) := by decide +kernel
theorem d_Z_init_161 : decode prog_8_method_1_code 161 = .ok (.sipush (240), 3) := by decide +kernel
theorem d_Z_init_164 : decode prog_8_method_1_code 164 = .ok (.newarray .int, 2) := by decide +kernel
theorem d_Z_init_166 : decode prog_8_method_1_code 166 = .ok (.putfield (69), 3) := by decide +kernel
theorem d_Z_init_169 : decode prog_8_method_1_code 169 = .ok (.aload_n 0, 1) := by decide +kernel
theorem d_Z_init_170 : decode prog_8_method_1_code 170 = .ok (.sipush (240), 3) := by decide +kernel
theorem d_Z_init_173 : decode prog_8_method_1_code 173 = .ok (.newarray .int, 2) := by decide +kernel
theorem d_Z_init_175 : decode prog_8_method_1_code 175 = .ok (.putfield (72), 3) := by decide +kernel
theorem d_Z_init_178 : decode prog_8_method_1_code 178 = .ok (.aload_n 0, 1) := by decide +kernel
theorem d_Z_init_179 : decode prog_8_method_1_code 179 = .ok (.sipush (240), 3) := by decide +kernel
theorem d_Z_init_182 : decode prog_8_method_1_code 182 = .ok (.newarray .long, 2) := by decide +kernel
theorem d_Z_init_184 : decode prog_8_method_1_code 184 = .ok (.putfield (75), 3) := by decide +kernel
theorem d_Z_init_187 : decode prog_8_method_1_code 187 = .ok (.aload_n 0, 1) := by decide +kernel
theorem d_Z_init_188 : decode prog_8_method_1_code 188 = .ok (.sipush (240), 3) := by decide +kernel
theorem d_Z_init_191 : decode prog_8_method_1_code 191 = .ok (.newarray .int, 2) := by decide +kernel
theorem d_Z_init_193 : decode prog_8_method_1_code 193 = .ok (.putfield (78), 3) := by decide +kernel
theorem d_Z_init_196 : decode prog_8_method_1_code 196 = .ok (.aload_n 0, 1) := by decide +kernel
theorem d_Z_init_197 : decode prog_8_method_1_code 197 = .ok (.sipush (240), 3) := by decide +kernel
theorem d_Z_init_200 : decode prog_8_method_1_code 200 = .ok (.newarray .int, 2) := by decide +kernel
theorem d_Z_init_202 : decode prog_8_method_1_code 202 = .ok (.putfield (81), 3) := by decide +kernel
theorem d_Z_init_205 : decode prog_8_method_1_code 205 = .ok (.aload_n 0, 1) := by decide +kernel
theorem d_Z_init_206 : decode prog_8_method_1_code 206 = .ok (.sipush (240), 3) := by decide +kernel
theorem d_Z_init_209 : decode prog_8_method_1_code 209 = .ok (.newarray .int, 2) := by decide +kernel
theorem d_Z_init_211 : decode prog_8_method_1_code 211 = .ok (.putfield (84), 3) := by decide +kernel
theorem d_Z_init_214 : decode prog_8_method_1_code 214 = .ok (.aload_n 0, 1) := by decide +kernel
theorem d_Z_init_215 : decode prog_8_method_1_code 215 = .ok (.sipush (240), 3) := by decide +kernel
theorem d_Z_init_218 : decode prog_8_method_1_code 218 = .ok (.newarray .long, 2) := by decide +kernel
theorem d_Z_init_220 : decode prog_8_method_1_code 220 = .ok (.putfield (87), 3) := by decide +kernel
theorem d_Z_init_223 : decode prog_8_method_1_code 223 = .ok (.aload_n 0, 1) := by decide +kernel
theorem d_Z_init_224 : decode prog_8_method_1_code 224 = .ok (.sipush (240), 3) := by decide +kernel
theorem d_Z_init_227 : decode prog_8_method_1_code 227 = .ok (.newarray .int, 2) := by decide +kernel
theorem d_Z_init_229 : decode prog_8_method_1_code 229 = .ok (.putfield (90), 3) := by decide +kernel
theorem d_Z_init_232 : decode prog_8_method_1_code 232 = .ok (.aload_n 0, 1) := by decide +kernel
theorem d_Z_init_233 : decode prog_8_method_1_code 233 = .ok (.sipush (240), 3) := by decide +kernel
theorem d_Z_init_236 : decode prog_8_method_1_code 236 = .ok (.newarray .int, 2) := by decide +kernel
theorem d_Z_init_238 : decode prog_8_method_1_code 238 = .ok (.putfield (93), 3) := by decide +kernel
theorem d_Z_init_241 : decode prog_8_method_1_code 241 = .ok (.aload_n 0, 1) := by decide +kernel
theorem d_Z_init_242 : decode prog_8_method_1_code 242 = .ok (.bipush (12), 2) := by decide +kernel
theorem d_Z_init_244 : decode prog_8_method_1_code 244 = .ok (.newarray .int, 2) := by decide +kernel
theorem d_Z_init_246 : decode prog_8_method_1_code 246 = .ok (.putfield (96), 3) := by decide +kernel
theorem d_Z_init_249 : decode prog_8_method_1_code 249 = .ok (.aload_n 0, 1) := by decide +kernel
theorem d_Z_init_250 : decode prog_8_method_1_code 250 = .ok (.sipush (280), 3) := by decide +kernel
theorem d_Z_init_253 : decode prog_8_method_1_code 253 = .ok (.newarray .int, 2) := by decide +kernel
theorem d_Z_init_255 : decode prog_8_method_1_code 255 = .ok (.putfield (99), 3) := by decide +kernel
theorem d_Z_init_258 : decode prog_8_method_1_code 258 = .ok (.aload_n 0, 1) := by decide +kernel
theorem d_Z_init_259 : decode prog_8_method_1_code 259 = .ok (.bipush (32), 2) := by decide +kernel
theorem d_Z_init_261 : decode prog_8_method_1_code 261 = .ok (.newarray .int, 2) := by decide +kernel
theorem d_Z_init_263 : decode prog_8_method_1_code 263 = .ok (.putfield (102), 3) := by decide +kernel
theorem d_Z_init_266 : decode prog_8_method_1_code 266 = .ok (.aload_n 0, 1) := by decide +kernel
theorem d_Z_init_267 : decode prog_8_method_1_code 267 = .ok (.bipush (32), 2) := by decide +kernel
theorem d_Z_init_269 : decode prog_8_method_1_code 269 = .ok (.newarray .int, 2) := by decide +kernel
theorem d_Z_init_271 : decode prog_8_method_1_code 271 = .ok (.putfield (105), 3) := by decide +kernel
theorem d_Z_init_274 : decode prog_8_method_1_code 274 = .ok (.aload_n 0, 1) := by decide +kernel
theorem d_Z_init_275 : decode prog_8_method_1_code 275 = .ok (.bipush (32), 2) := by decide +kernel
theorem d_Z_init_277 : decode prog_8_method_1_code 277 = .ok (.newarray .int, 2) := by decide +kernel
theorem d_Z_init_279 : decode prog_8_method_1_code 279 = .ok (.putfield (108), 3) := by decide +kernel
theorem d_Z_init_282 : decode prog_8_method_1_code 282 = .ok (.aload_n 0, 1) := by decide +kernel
theorem d_Z_init_283 : decode prog_8_method_1_code 283 = .ok (.sipush (400), 3) := by decide +kernel
theorem d_Z_init_286 : decode prog_8_method_1_code 286 = .ok (.newarray .int, 2) := by decide +kernel
theorem d_Z_init_288 : decode prog_8_method_1_code 288 = .ok (.putfield (111), 3) := by decide +kernel
theorem d_Z_init_291 : decode prog_8_method_1_code 291 = .ok (.aload_n 0, 1) := by decide +kernel
theorem d_Z_init_292 : decode prog_8_method_1_code 292 = .ok (.sipush (400), 3) := by decide +kernel
theorem d_Z_init_295 : decode prog_8_method_1_code 295 = .ok (.newarray .int, 2) := by decide +kernel
theorem d_Z_init_297 : decode prog_8_method_1_code 297 = .ok (.putfield (114), 3) := by decide +kernel
theorem d_Z_init_300 : decode prog_8_method_1_code 300 = .ok (.aload_n 0, 1) := by decide +kernel
theorem d_Z_init_301 : decode prog_8_method_1_code 301 = .ok (.sipush (400), 3) := by decide +kernel
theorem d_Z_init_304 : decode prog_8_method_1_code 304 = .ok (.newarray .int, 2) := by decide +kernel
theorem d_Z_init_306 : decode prog_8_method_1_code 306 = .ok (.putfield (117), 3) := by decide +kernel
theorem d_Z_init_309 : decode prog_8_method_1_code 309 = .ok (.aload_n 0, 1) := by decide +kernel
theorem d_Z_init_310 : decode prog_8_method_1_code 310 = .ok (.iconst 2, 1) := by decide +kernel
theorem d_Z_init_311 : decode prog_8_method_1_code 311 = .ok (.newarray .int, 2) := by decide +kernel
theorem d_Z_init_313 : decode prog_8_method_1_code 313 = .ok (.putfield (120), 3) := by decide +kernel
theorem d_Z_init_316 : decode prog_8_method_1_code 316 = .ok (.aload_n 0, 1) := by decide +kernel
theorem d_Z_init_317 : decode prog_8_method_1_code 317 = .ok (.bipush (16), 2) := by decide +kernel
theorem d_Z_init_319 : decode prog_8_method_1_code 319 = .ok (.newarray .long, 2) := by decide +kernel
theorem d_Z_init_321 : decode prog_8_method_1_code 321 = .ok (.putfield (123), 3) := by decide +kernel
theorem d_Z_init_324 : decode prog_8_method_1_code 324 = .ok (.aload_n 0, 1) := by decide +kernel
theorem d_Z_init_325 : decode prog_8_method_1_code 325 = .ok (.bipush (16), 2) := by decide +kernel
theorem d_Z_init_327 : decode prog_8_method_1_code 327 = .ok (.newarray .int, 2) := by decide +kernel
theorem d_Z_init_329 : decode prog_8_method_1_code 329 = .ok (.putfield (126), 3) := by decide +kernel
theorem d_Z_init_332 : decode prog_8_method_1_code 332 = .ok (.aload_n 0, 1) := by decide +kernel
theorem d_Z_init_333 : decode prog_8_method_1_code 333 = .ok (.bipush (16), 2) := by decide +kernel
theorem d_Z_init_335 : decode prog_8_method_1_code 335 = .ok (.newarray .int, 2) := by decide +kernel
theorem d_Z_init_337 : decode prog_8_method_1_code 337 = .ok (.putfield (129), 3) := by decide +kernel
theorem d_Z_init_340 : decode prog_8_method_1_code 340 = .ok (.aload_n 0, 1) := by decide +kernel
theorem d_Z_init_341 : decode prog_8_method_1_code 341 = .ok (.bipush (16), 2) := by decide +kernel
theorem d_Z_init_343 : decode prog_8_method_1_code 343 = .ok (.newarray .boolean, 2) := by decide +kernel
theorem d_Z_init_345 : decode prog_8_method_1_code 345 = .ok (.putfield (132), 3) := by decide +kernel
theorem d_Z_init_348 : decode prog_8_method_1_code 348 = .ok (.aload_n 0, 1) := by decide +kernel
theorem d_Z_init_349 : decode prog_8_method_1_code 349 = .ok (.iconst 4, 1) := by decide +kernel
theorem d_Z_init_350 : decode prog_8_method_1_code 350 = .ok (.newarray .long, 2) := by decide +kernel
theorem d_Z_init_352 : decode prog_8_method_1_code 352 = .ok (.putfield (136), 3) := by decide +kernel
theorem d_Z_init_355 : decode prog_8_method_1_code 355 = .ok (.aload_n 0, 1) := by decide +kernel
theorem d_Z_init_356 : decode prog_8_method_1_code 356 = .ok (.iconst 4, 1) := by decide +kernel
theorem d_Z_init_357 : decode prog_8_method_1_code 357 = .ok (.newarray .long, 2) := by decide +kernel
theorem d_Z_init_359 : decode prog_8_method_1_code 359 = .ok (.putfield (139), 3) := by decide +kernel
theorem d_Z_init_362 : decode prog_8_method_1_code 362 = .ok (.aload_n 0, 1) := by decide +kernel
theorem d_Z_init_363 : decode prog_8_method_1_code 363 = .ok (.bipush (32), 2) := by decide +kernel
theorem d_Z_init_365 : decode prog_8_method_1_code 365 = .ok (.newarray .long, 2) := by decide +kernel
theorem d_Z_init_367 : decode prog_8_method_1_code 367 = .ok (.putfield (142), 3) := by decide +kernel
theorem d_Z_init_370 : decode prog_8_method_1_code 370 = .ok (.return_, 1) := by decide +kernel
theorem ff_Z_7 : bx_fF "CipherNotationModel" 7 6 1 := ⟨nC6, nT6, 73, nY6, .array .int, rfl, nW6, by decide, nw_4 138 (by decide +kernel) rfl, nO6, nA6, by decide +kernel, by decide +kernel, by decide +kernel, Or.inr ⟨_, rfl⟩⟩
theorem ff_Z_13 : bx_fF "CipherNotationModel" 13 6 3 := ⟨nC6, nT6, 73, nY6, .array .int, rfl, nW6, by decide, nw_4 140 (by decide +kernel) rfl, nO6, nA6, by decide +kernel, by decide +kernel, by decide +kernel, Or.inr ⟨_, rfl⟩⟩
theorem gp_Z_16 : ax_fp "CipherNotationModel" 16 6 6 (.int) := ⟨nC6, nT6, 73, nY6, rfl, nW6, by decide, nw_4 143 (by decide +kernel) rfl, nO6, nA6, by decide +kernel, by decide +kernel⟩
theorem ff_Z_20 : bx_fF "CipherNotationModel" 20 6 12 := ⟨nC6, nT6, 73, nY6, .array .long, rfl, nW6, by decide, nw_4 149 (by decide +kernel) rfl, nO6, nA6, by decide +kernel, by decide +kernel, by decide +kernel, Or.inr ⟨_, rfl⟩⟩
theorem ff_Z_24 : bx_fF "CipherNotationModel" 24 6 13 := ⟨nC6, nT6, 73, nY6, .array .int, rfl, nW6, by decide, nw_4 150 (by decide +kernel) rfl, nO6, nA6, by decide +kernel, by decide +kernel, by decide +kernel, Or.inr ⟨_, rfl⟩⟩
theorem ff_Z_27 : bx_fF "CipherNotationModel" 27 6 16 := ⟨nC6, nT6, 73, nY6, .array .int, rfl, nW6, by decide, nw_4 153 (by decide +kernel) rfl, nO6, nA6, by decide +kernel, by decide +kernel, by decide +kernel, Or.inr ⟨_, rfl⟩⟩
theorem ff_Z_30 : bx_fF "CipherNotationModel" 30 6 17 := ⟨nC6, nT6, 73, nY6, .array .long, rfl, nW6, by decide, nw_4 154 (by decide +kernel) rfl, nO6, nA6, by decide +kernel, by decide +kernel, by decide +kernel, Or.inr ⟨_, rfl⟩⟩
theorem ff_Z_33 : bx_fF "CipherNotationModel" 33 6 18 := ⟨nC6, nT6, 73, nY6, .array .int, rfl, nW6, by decide, nw_4 155 (by decide +kernel) rfl, nO6, nA6, by decide +kernel, by decide +kernel, by decide +kernel, Or.inr ⟨_, rfl⟩⟩
theorem ff_Z_36 : bx_fF "CipherNotationModel" 36 6 21 := ⟨nC6, nT6, 73, nY6, .array .int, rfl, nW6, by decide, nw_4 158 (by decide +kernel) rfl, nO6, nA6, by decide +kernel, by decide +kernel, by decide +kernel, Or.inr ⟨_, rfl⟩⟩
theorem ff_Z_39 : bx_fF "CipherNotationModel" 39 6 24 := ⟨nC6, nT6, 73, nY6, .array .int, rfl, nW6, by decide, nw_4 161 (by decide +kernel) rfl, nO6, nA6, by decide +kernel, by decide +kernel, by decide +kernel, Or.inr ⟨_, rfl⟩⟩
theorem ff_Z_42 : bx_fF "CipherNotationModel" 42 6 25 := ⟨nC6, nT6, 73, nY6, .array .int, rfl, nW6, by decide, nw_4 162 (by decide +kernel) rfl, nO6, nA6, by decide +kernel, by decide +kernel, by decide +kernel, Or.inr ⟨_, rfl⟩⟩
theorem ff_Z_45 : bx_fF "CipherNotationModel" 45 6 26 := ⟨nC6, nT6, 73, nY6, .array .int, rfl, nW6, by decide, nw_4 163 (by decide +kernel) rfl, nO6, nA6, by decide +kernel, by decide +kernel, by decide +kernel, Or.inr ⟨_, rfl⟩⟩
theorem ff_Z_48 : bx_fF "CipherNotationModel" 48 6 27 := ⟨nC6, nT6, 73, nY6, .array .int, rfl, nW6, by decide, nw_4 164 (by decide +kernel) rfl, nO6, nA6, by decide +kernel, by decide +kernel, by decide +kernel, Or.inr ⟨_, rfl⟩⟩
theorem ff_Z_51 : bx_fF "CipherNotationModel" 51 6 28 := ⟨nC6, nT6, 73, nY6, .array .int, rfl, nW6, by decide, nw_4 165 (by decide +kernel) rfl, nO6, nA6, by decide +kernel, by decide +kernel, by decide +kernel, Or.inr ⟨_, rfl⟩⟩
theorem ff_Z_54 : bx_fF "CipherNotationModel" 54 6 29 := ⟨nC6, nT6, 73, nY6, .array .long, rfl, nW6, by decide, nw_4 166 (by decide +kernel) rfl, nO6, nA6, by decide +kernel, by decide +kernel, by decide +kernel, Or.inr ⟨_, rfl⟩⟩
theorem ff_Z_57 : bx_fF "CipherNotationModel" 57 6 30 := ⟨nC6, nT6, 73, nY6, .array .int, rfl, nW6, by decide, nw_4 167 (by decide +kernel) rfl, nO6, nA6, by decide +kernel, by decide +kernel, by decide +kernel, Or.inr ⟨_, rfl⟩⟩
theorem ff_Z_60 : bx_fF "CipherNotationModel" 60 6 31 := ⟨nC6, nT6, 73, nY6, .array .int, rfl, nW6, by decide, nw_4 168 (by decide +kernel) rfl, nO6, nA6, by decide +kernel, by decide +kernel, by decide +kernel, Or.inr ⟨_, rfl⟩⟩
theorem ff_Z_63 : bx_fF "CipherNotationModel" 63 6 32 := ⟨nC6, nT6, 73, nY6, .array .int, rfl, nW6, by decide, nw_4 169 (by decide +kernel) rfl, nO6, nA6, by decide +kernel, by decide +kernel, by decide +kernel, Or.inr ⟨_, rfl⟩⟩
theorem ff_Z_66 : bx_fF "CipherNotationModel" 66 6 34 := ⟨nC6, nT6, 73, nY6, .array .long, rfl, nW6, by decide, nw_4 171 (by decide +kernel) rfl, nO6, nA6, by decide +kernel, by decide +kernel, by decide +kernel, Or.inr ⟨_, rfl⟩⟩
theorem ff_Z_69 : bx_fF "CipherNotationModel" 69 6 35 := ⟨nC6, nT6, 73, nY6, .array .int, rfl, nW6, by decide, nw_4 172 (by decide +kernel) rfl, nO6, nA6, by decide +kernel, by decide +kernel, by decide +kernel, Or.inr ⟨_, rfl⟩⟩
theorem ff_Z_72 : bx_fF "CipherNotationModel" 72 6 37 := ⟨nC6, nT6, 73, nY6, .array .int, rfl, nW6, by decide, nw_4 174 (by decide +kernel) rfl, nO6, nA6, by decide +kernel, by decide +kernel, by decide +kernel, Or.inr ⟨_, rfl⟩⟩
theorem ff_Z_75 : bx_fF "CipherNotationModel" 75 6 38 := ⟨nC6, nT6, 73, nY6, .array .long, rfl, nW6, by decide, nw_4 175 (by decide +kernel) rfl, nO6, nA6, by decide +kernel, by decide +kernel, by decide +kernel, Or.inr ⟨_, rfl⟩⟩
theorem ff_Z_78 : bx_fF "CipherNotationModel" 78 6 39 := ⟨nC6, nT6, 73, nY6, .array .int, rfl, nW6, by decide, nw_4 176 (by decide +kernel) rfl, nO6, nA6, by decide +kernel, by decide +kernel, by decide +kernel, Or.inr ⟨_, rfl⟩⟩
theorem ff_Z_81 : bx_fF "CipherNotationModel" 81 6 40 := ⟨nC6, nT6, 73, nY6, .array .int, rfl, nW6, by decide, nw_4 177 (by decide +kernel) rfl, nO6, nA6, by decide +kernel, by decide +kernel, by decide +kernel, Or.inr ⟨_, rfl⟩⟩
theorem ff_Z_84 : bx_fF "CipherNotationModel" 84 6 41 := ⟨nC6, nT6, 73, nY6, .array .int, rfl, nW6, by decide, nw_4 178 (by decide +kernel) rfl, nO6, nA6, by decide +kernel, by decide +kernel, by decide +kernel, Or.inr ⟨_, rfl⟩⟩
theorem ff_Z_87 : bx_fF "CipherNotationModel" 87 6 43 := ⟨nC6, nT6, 73, nY6, .array .long, rfl, nW6, by decide, nw_4 180 (by decide +kernel) rfl, nO6, nA6, by decide +kernel, by decide +kernel, by decide +kernel, Or.inr ⟨_, rfl⟩⟩
theorem ff_Z_90 : bx_fF "CipherNotationModel" 90 6 44 := ⟨nC6, nT6, 73, nY6, .array .int, rfl, nW6, by decide, nw_4 181 (by decide +kernel) rfl, nO6, nA6, by decide +kernel, by decide +kernel, by decide +kernel, Or.inr ⟨_, rfl⟩⟩
theorem ff_Z_93 : bx_fF "CipherNotationModel" 93 6 45 := ⟨nC6, nT6, 73, nY6, .array .int, rfl, nW6, by decide, nw_4 182 (by decide +kernel) rfl, nO6, nA6, by decide +kernel, by decide +kernel, by decide +kernel, Or.inr ⟨_, rfl⟩⟩
theorem ff_Z_96 : bx_fF "CipherNotationModel" 96 6 50 := ⟨nC6, nT6, 73, nY6, .array .int, rfl, nW6, by decide, nw_4 187 (by decide +kernel) rfl, nO6, nA6, by decide +kernel, by decide +kernel, by decide +kernel, Or.inr ⟨_, rfl⟩⟩
theorem ff_Z_99 : bx_fF "CipherNotationModel" 99 6 52 := ⟨nC6, nT6, 73, nY6, .array .int, rfl, nW6, by decide, nw_4 189 (by decide +kernel) rfl, nO6, nA6, by decide +kernel, by decide +kernel, by decide +kernel, Or.inr ⟨_, rfl⟩⟩
theorem ff_Z_102 : bx_fF "CipherNotationModel" 102 6 56 := ⟨nC6, nT6, 73, nY6, .array .int, rfl, nW6, by decide, nw_4 193 (by decide +kernel) rfl, nO6, nA6, by decide +kernel, by decide +kernel, by decide +kernel, Or.inr ⟨_, rfl⟩⟩
theorem ff_Z_105 : bx_fF "CipherNotationModel" 105 6 57 := ⟨nC6, nT6, 73, nY6, .array .int, rfl, nW6, by decide, nw_4 194 (by decide +kernel) rfl, nO6, nA6, by decide +kernel, by decide +kernel, by decide +kernel, Or.inr ⟨_, rfl⟩⟩
theorem ff_Z_108 : bx_fF "CipherNotationModel" 108 6 58 := ⟨nC6, nT6, 73, nY6, .array .int, rfl, nW6, by decide, nw_4 195 (by decide +kernel) rfl, nO6, nA6, by decide +kernel, by decide +kernel, by decide +kernel, Or.inr ⟨_, rfl⟩⟩
theorem ff_Z_111 : bx_fF "CipherNotationModel" 111 6 60 := ⟨nC6, nT6, 73, nY6, .array .int, rfl, nW6, by decide, nw_4 197 (by decide +kernel) rfl, nO6, nA6, by decide +kernel, by decide +kernel, by decide +kernel, Or.inr ⟨_, rfl⟩⟩
theorem ff_Z_114 : bx_fF "CipherNotationModel" 114 6 61 := ⟨nC6, nT6, 73, nY6, .array .int, rfl, nW6, by decide, nw_4 198 (by decide +kernel) rfl, nO6, nA6, by decide +kernel, by decide +kernel, by decide +kernel, Or.inr ⟨_, rfl⟩⟩
theorem ff_Z_117 : bx_fF "CipherNotationModel" 117 6 62 := ⟨nC6, nT6, 73, nY6, .array .int, rfl, nW6, by decide, nw_4 199 (by decide +kernel) rfl, nO6, nA6, by decide +kernel, by decide +kernel, by decide +kernel, Or.inr ⟨_, rfl⟩⟩
theorem ff_Z_120 : bx_fF "CipherNotationModel" 120 6 65 := ⟨nC6, nT6, 73, nY6, .array .int, rfl, nW6, by decide, nw_4 202 (by decide +kernel) rfl, nO6, nA6, by decide +kernel, by decide +kernel, by decide +kernel, Or.inr ⟨_, rfl⟩⟩
theorem ff_Z_123 : bx_fF "CipherNotationModel" 123 6 66 := ⟨nC6, nT6, 73, nY6, .array .long, rfl, nW6, by decide, nw_4 203 (by decide +kernel) rfl, nO6, nA6, by decide +kernel, by decide +kernel, by decide +kernel, Or.inr ⟨_, rfl⟩⟩
theorem ff_Z_126 : bx_fF "CipherNotationModel" 126 6 67 := ⟨nC6, nT6, 73, nY6, .array .int, rfl, nW6, by decide, nw_4 204 (by decide +kernel) rfl, nO6, nA6, by decide +kernel, by decide +kernel, by decide +kernel, Or.inr ⟨_, rfl⟩⟩
theorem ff_Z_129 : bx_fF "CipherNotationModel" 129 6 68 := ⟨nC6, nT6, 73, nY6, .array .int, rfl, nW6, by decide, nw_4 205 (by decide +kernel) rfl, nO6, nA6, by decide +kernel, by decide +kernel, by decide +kernel, Or.inr ⟨_, rfl⟩⟩
theorem ff_Z_132 : bx_fF "CipherNotationModel" 132 6 69 := ⟨nC6, nT6, 73, nY6, .array .boolean, rfl, nW6, by decide, nw_4 206 (by decide +kernel) rfl, nO6, nA6, by decide +kernel, by decide +kernel, by decide +kernel, Or.inr ⟨_, rfl⟩⟩
theorem ff_Z_136 : bx_fF "CipherNotationModel" 136 6 70 := ⟨nC6, nT6, 73, nY6, .array .long, rfl, nW6, by decide, nw_4 207 (by decide +kernel) rfl, nO6, nA6, by decide +kernel, by decide +kernel, by decide +kernel, Or.inr ⟨_, rfl⟩⟩
theorem ff_Z_139 : bx_fF "CipherNotationModel" 139 6 71 := ⟨nC6, nT6, 73, nY6, .array .long, rfl, nW6, by decide, nw_4 208 (by decide +kernel) rfl, nO6, nA6, by decide +kernel, by decide +kernel, by decide +kernel, Or.inr ⟨_, rfl⟩⟩
theorem ff_Z_142 : bx_fF "CipherNotationModel" 142 6 72 := ⟨nC6, nT6, 73, nY6, .array .long, rfl, nW6, by decide, nw_4 209 (by decide +kernel) rfl, nO6, nA6, by decide +kernel, by decide +kernel, by decide +kernel, Or.inr ⟨_, rfl⟩⟩
abbrev al_Z : List (Nat × Nat) := [(0, 38), (0, 39), (0, 40), (0, 41), (0, 42), (0, 43), (0, 44), (0, 45), (0, 46), (0, 47), (0, 48), (0, 49), (0, 50), (0, 51), (0, 52), (0, 53), (0, 54), (0, 55), (0, 56), (0, 57), (0, 58), (0, 59), (0, 60), (0, 61), (0, 62), (0, 63), (0, 64), (0, 65), (0, 66), (0, 67), (0, 68), (0, 69), (0, 70), (0, 71), (0, 72), (0, 73), (0, 74), (0, 75), (0, 76), (0, 77), (0, 78), (0, 79), (0, 80), (0, 81)]
