def y_Z_acceptsStep : MethodName := ⟨"CipherNotationModel", "acceptsStep", "(II)Z"⟩
theorem d_Z_acceptsStep_0 : decode prog_8_method_20_code 0 = .ok (.aload_n 0, 1) := by decide +kernel
theorem d_Z_acceptsStep_1 : decode prog_8_method_20_code 1 = .ok (.getfield (186), 3) := by decide +kernel
theorem d_Z_acceptsStep_4 : decode prog_8_method_20_code 4 = .ok (.iconst 1, 1) := by decide +kernel
theorem d_Z_acceptsStep_5 : decode prog_8_method_20_code 5 = .ok (.isub, 1) := by decide +kernel
theorem d_Z_acceptsStep_6 : decode prog_8_method_20_code 6 = .ok (.istore_n 3, 1) := by decide +kernel
theorem d_Z_acceptsStep_7 : decode prog_8_method_20_code 7 = .ok (.aload_n 0, 1) := by decide +kernel
theorem d_Z_acceptsStep_8 : decode prog_8_method_20_code 8 = .ok (.getfield (168), 3) := by decide +kernel
theorem d_Z_acceptsStep_11 : decode prog_8_method_20_code 11 = .ok (.bipush (40), 2) := by decide +kernel
theorem d_Z_acceptsStep_13 : decode prog_8_method_20_code 13 = .ok (.if_icmp .ne (209), 3) := by decide +kernel
theorem d_Z_acceptsStep_16 : decode prog_8_method_20_code 16 = .ok (.aload_n 0, 1) := by decide +kernel
theorem d_Z_acceptsStep_17 : decode prog_8_method_20_code 17 = .ok (.getfield (39), 3) := by decide +kernel
theorem d_Z_acceptsStep_20 : decode prog_8_method_20_code 20 = .ok (.iload_n 3, 1) := by decide +kernel
theorem d_Z_acceptsStep_21 : decode prog_8_method_20_code 21 = .ok (.iload_n 1, 1) := by decide +kernel
theorem d_Z_acceptsStep_22 : decode prog_8_method_20_code 22 = .ok (.bipush (94), 2) := by decide +kernel
theorem d_Z_acceptsStep_24 : decode prog_8_method_20_code 24 = .ok (.if_icmp .ne (7), 3) := by decide +kernel
theorem d_Z_acceptsStep_27 : decode prog_8_method_20_code 27 = .ok (.iconst 4, 1) := by decide +kernel
theorem d_Z_acceptsStep_28 : decode prog_8_method_20_code 28 = .ok (.goto (80), 3) := by decide +kernel
theorem d_Z_acceptsStep_31 : decode prog_8_method_20_code 31 = .ok (.iload_n 1, 1) := by decide +kernel
theorem d_Z_acceptsStep_32 : decode prog_8_method_20_code 32 = .ok (.bipush (43), 2) := by decide +kernel
theorem d_Z_acceptsStep_34 : decode prog_8_method_20_code 34 = .ok (.if_icmp .ne (7), 3) := by decide +kernel
theorem d_Z_acceptsStep_37 : decode prog_8_method_20_code 37 = .ok (.iconst 5, 1) := by decide +kernel
theorem d_Z_acceptsStep_38 : decode prog_8_method_20_code 38 = .ok (.goto (70), 3) := by decide +kernel
theorem d_Z_acceptsStep_41 : decode prog_8_method_20_code 41 = .ok (.iload_n 1, 1) := by decide +kernel
theorem d_Z_acceptsStep_42 : decode prog_8_method_20_code 42 = .ok (.bipush (45), 2) := by decide +kernel
theorem d_Z_acceptsStep_44 : decode prog_8_method_20_code 44 = .ok (.if_icmp .ne (8), 3) := by decide +kernel
theorem d_Z_acceptsStep_47 : decode prog_8_method_20_code 47 = .ok (.bipush (6), 2) := by decide +kernel
theorem d_Z_acceptsStep_49 : decode prog_8_method_20_code 49 = .ok (.goto (59), 3) := by decide +kernel
theorem d_Z_acceptsStep_52 : decode prog_8_method_20_code 52 = .ok (.iload_n 1, 1) := by decide +kernel
theorem d_Z_acceptsStep_53 : decode prog_8_method_20_code 53 = .ok (.bipush (42), 2) := by decide +kernel
theorem d_Z_acceptsStep_55 : decode prog_8_method_20_code 55 = .ok (.if_icmp .ne (8), 3) := by decide +kernel
theorem d_Z_acceptsStep_58 : decode prog_8_method_20_code 58 = .ok (.bipush (7), 2) := by decide +kernel
theorem d_Z_acceptsStep_60 : decode prog_8_method_20_code 60 = .ok (.goto (48), 3) := by decide +kernel
theorem d_Z_acceptsStep_63 : decode prog_8_method_20_code 63 = .ok (.iload_n 1, 1) := by decide +kernel
theorem d_Z_acceptsStep_64 : decode prog_8_method_20_code 64 = .ok (.bipush (60), 2) := by decide +kernel
theorem d_Z_acceptsStep_66 : decode prog_8_method_20_code 66 = .ok (.if_icmp .ne (8), 3) := by decide +kernel
theorem d_Z_acceptsStep_69 : decode prog_8_method_20_code 69 = .ok (.bipush (8), 2) := by decide +kernel
theorem d_Z_acceptsStep_71 : decode prog_8_method_20_code 71 = .ok (.goto (37), 3) := by decide +kernel
theorem d_Z_acceptsStep_74 : decode prog_8_method_20_code 74 = .ok (.iload_n 1, 1) := by decide +kernel
theorem d_Z_acceptsStep_75 : decode prog_8_method_20_code 75 = .ok (.bipush (58), 2) := by decide +kernel
theorem d_Z_acceptsStep_77 : decode prog_8_method_20_code 77 = .ok (.if_icmp .ne (8), 3) := by decide +kernel
theorem d_Z_acceptsStep_80 : decode prog_8_method_20_code 80 = .ok (.bipush (10), 2) := by decide +kernel
theorem d_Z_acceptsStep_82 : decode prog_8_method_20_code 82 = .ok (.goto (26), 3) := by decide +kernel
theorem d_Z_acceptsStep_85 : decode prog_8_method_20_code 85 = .ok (.iload_n 1, 1) := by decide +kernel
theorem d_Z_acceptsStep_86 : decode prog_8_method_20_code 86 = .ok (.bipush (35), 2) := by decide +kernel
theorem d_Z_acceptsStep_88 : decode prog_8_method_20_code 88 = .ok (.if_icmp .ne (8), 3) := by decide +kernel
theorem d_Z_acceptsStep_91 : decode prog_8_method_20_code 91 = .ok (.bipush (11), 2) := by decide +kernel
theorem d_Z_acceptsStep_93 : decode prog_8_method_20_code 93 = .ok (.goto (15), 3) := by decide +kernel
theorem d_Z_acceptsStep_96 : decode prog_8_method_20_code 96 = .ok (.iload_n 1, 1) := by decide +kernel
theorem d_Z_acceptsStep_97 : decode prog_8_method_20_code 97 = .ok (.bipush (64), 2) := by decide +kernel
theorem d_Z_acceptsStep_99 : decode prog_8_method_20_code 99 = .ok (.if_icmp .ne (8), 3) := by decide +kernel
theorem d_Z_acceptsStep_102 : decode prog_8_method_20_code 102 = .ok (.bipush (12), 2) := by decide +kernel
theorem d_Z_acceptsStep_104 : decode prog_8_method_20_code 104 = .ok (.goto (4), 3) := by decide +kernel
theorem d_Z_acceptsStep_107 : decode prog_8_method_20_code 107 = .ok (.iconst 0, 1) := by decide +kernel
theorem d_Z_acceptsStep_108 : decode prog_8_method_20_code 108 = .ok (.iastore, 1) := by decide +kernel
theorem d_Z_acceptsStep_109 : decode prog_8_method_20_code 109 = .ok (.aload_n 0, 1) := by decide +kernel
theorem d_Z_acceptsStep_110 : decode prog_8_method_20_code 110 = .ok (.getfield (60), 3) := by decide +kernel
theorem d_Z_acceptsStep_113 : decode prog_8_method_20_code 113 = .ok (.iload_n 3, 1) := by decide +kernel
theorem d_Z_acceptsStep_114 : decode prog_8_method_20_code 114 = .ok (.aload_n 0, 1) := by decide +kernel
theorem d_Z_acceptsStep_115 : decode prog_8_method_20_code 115 = .ok (.getfield (39), 3) := by decide +kernel
theorem d_Z_acceptsStep_118 : decode prog_8_method_20_code 118 = .ok (.iload_n 3, 1) := by decide +kernel
theorem d_Z_acceptsStep_119 : decode prog_8_method_20_code 119 = .ok (.iaload, 1) := by decide +kernel
theorem d_Z_acceptsStep_120 : decode prog_8_method_20_code 120 = .ok (.bipush (12), 2) := by decide +kernel
theorem d_Z_acceptsStep_122 : decode prog_8_method_20_code 122 = .ok (.if_icmp .ne (10), 3) := by decide +kernel
theorem d_Z_acceptsStep_125 : decode prog_8_method_20_code 125 = .ok (.aload_n 0, 1) := by decide +kernel
theorem d_Z_acceptsStep_126 : decode prog_8_method_20_code 126 = .ok (.getfield (192), 3) := by decide +kernel
theorem d_Z_acceptsStep_129 : decode prog_8_method_20_code 129 = .ok (.goto (7), 3) := by decide +kernel
theorem d_Z_acceptsStep_132 : decode prog_8_method_20_code 132 = .ok (.aload_n 0, 1) := by decide +kernel
theorem d_Z_acceptsStep_133 : decode prog_8_method_20_code 133 = .ok (.getfield (195), 3) := by decide +kernel
theorem d_Z_acceptsStep_136 : decode prog_8_method_20_code 136 = .ok (.iastore, 1) := by decide +kernel
theorem d_Z_acceptsStep_137 : decode prog_8_method_20_code 137 = .ok (.aload_n 0, 1) := by decide +kernel
theorem d_Z_acceptsStep_138 : decode prog_8_method_20_code 138 = .ok (.aload_n 0, 1) := by decide +kernel
theorem d_Z_acceptsStep_139 : decode prog_8_method_20_code 139 = .ok (.getfield (39), 3) := by decide +kernel
theorem d_Z_acceptsStep_142 : decode prog_8_method_20_code 142 = .ok (.iload_n 3, 1) := by decide +kernel
theorem d_Z_acceptsStep_143 : decode prog_8_method_20_code 143 = .ok (.iaload, 1) := by decide +kernel
theorem d_Z_acceptsStep_144 : decode prog_8_method_20_code 144 = .ok (.bipush (7), 2) := by decide +kernel
theorem d_Z_acceptsStep_146 : decode prog_8_method_20_code 146 = .ok (.if_icmp .gt (8), 3) := by decide +kernel
theorem d_Z_acceptsStep_149 : decode prog_8_method_20_code 149 = .ok (.bipush (41), 2) := by decide +kernel
theorem d_Z_acceptsStep_151 : decode prog_8_method_20_code 151 = .ok (.goto (53), 3) := by decide +kernel
theorem d_Z_acceptsStep_154 : decode prog_8_method_20_code 154 = .ok (.aload_n 0, 1) := by decide +kernel
theorem d_Z_acceptsStep_155 : decode prog_8_method_20_code 155 = .ok (.getfield (39), 3) := by decide +kernel
theorem d_Z_acceptsStep_158 : decode prog_8_method_20_code 158 = .ok (.iload_n 3, 1) := by decide +kernel
theorem d_Z_acceptsStep_159 : decode prog_8_method_20_code 159 = .ok (.iaload, 1) := by decide +kernel
theorem d_Z_acceptsStep_160 : decode prog_8_method_20_code 160 = .ok (.bipush (8), 2) := by decide +kernel
theorem d_Z_acceptsStep_162 : decode prog_8_method_20_code 162 = .ok (.if_icmp .ne (8), 3) := by decide +kernel
theorem d_Z_acceptsStep_165 : decode prog_8_method_20_code 165 = .ok (.bipush (43), 2) := by decide +kernel
theorem d_Z_acceptsStep_167 : decode prog_8_method_20_code 167 = .ok (.goto (37), 3) := by decide +kernel
theorem d_Z_acceptsStep_170 : decode prog_8_method_20_code 170 = .ok (.aload_n 0, 1) := by decide +kernel
theorem d_Z_acceptsStep_171 : decode prog_8_method_20_code 171 = .ok (.getfield (39), 3) := by decide +kernel
theorem d_Z_acceptsStep_174 : decode prog_8_method_20_code 174 = .ok (.iload_n 3, 1) := by decide +kernel
theorem d_Z_acceptsStep_175 : decode prog_8_method_20_code 175 = .ok (.iaload, 1) := by decide +kernel
theorem d_Z_acceptsStep_176 : decode prog_8_method_20_code 176 = .ok (.bipush (10), 2) := by decide +kernel
theorem d_Z_acceptsStep_178 : decode prog_8_method_20_code 178 = .ok (.if_icmp .ne (8), 3) := by decide +kernel
theorem d_Z_acceptsStep_181 : decode prog_8_method_20_code 181 = .ok (.bipush (44), 2) := by decide +kernel
theorem d_Z_acceptsStep_183 : decode prog_8_method_20_code 183 = .ok (.goto (21), 3) := by decide +kernel
theorem d_Z_acceptsStep_186 : decode prog_8_method_20_code 186 = .ok (.aload_n 0, 1) := by decide +kernel
theorem d_Z_acceptsStep_187 : decode prog_8_method_20_code 187 = .ok (.getfield (39), 3) := by decide +kernel
theorem d_Z_acceptsStep_190 : decode prog_8_method_20_code 190 = .ok (.iload_n 3, 1) := by decide +kernel
theorem d_Z_acceptsStep_191 : decode prog_8_method_20_code 191 = .ok (.iaload, 1) := by decide +kernel
theorem d_Z_acceptsStep_192 : decode prog_8_method_20_code 192 = .ok (.bipush (11), 2) := by decide +kernel
theorem d_Z_acceptsStep_194 : decode prog_8_method_20_code 194 = .ok (.if_icmp .ne (8), 3) := by decide +kernel
theorem d_Z_acceptsStep_197 : decode prog_8_method_20_code 197 = .ok (.bipush (45), 2) := by decide +kernel
theorem d_Z_acceptsStep_199 : decode prog_8_method_20_code 199 = .ok (.goto (5), 3) := by decide +kernel
theorem d_Z_acceptsStep_202 : decode prog_8_method_20_code 202 = .ok (.bipush (46), 2) := by decide +kernel
theorem d_Z_acceptsStep_204 : decode prog_8_method_20_code 204 = .ok (.putfield (168), 3) := by decide +kernel
theorem d_Z_acceptsStep_207 : decode prog_8_method_20_code 207 = .ok (.aload_n 0, 1) := by decide +kernel
theorem d_Z_acceptsStep_208 : decode prog_8_method_20_code 208 = .ok (.getfield (39), 3) := by decide +kernel
theorem d_Z_acceptsStep_211 : decode prog_8_method_20_code 211 = .ok (.iload_n 3, 1) := by decide +kernel
theorem d_Z_acceptsStep_212 : decode prog_8_method_20_code 212 = .ok (.iaload, 1) := by decide +kernel
theorem d_Z_acceptsStep_213 : decode prog_8_method_20_code 213 = .ok (.ifCond .eq (7), 3) := by decide +kernel
theorem d_Z_acceptsStep_216 : decode prog_8_method_20_code 216 = .ok (.iconst 1, 1) := by decide +kernel
theorem d_Z_acceptsStep_217 : decode prog_8_method_20_code 217 = .ok (.goto (4), 3) := by decide +kernel
theorem d_Z_acceptsStep_220 : decode prog_8_method_20_code 220 = .ok (.iconst 0, 1) := by decide +kernel
theorem d_Z_acceptsStep_221 : decode prog_8_method_20_code 221 = .ok (.ireturn, 1) := by decide +kernel
theorem d_Z_acceptsStep_222 : decode prog_8_method_20_code 222 = .ok (.aload_n 0, 1) := by decide +kernel
theorem d_Z_acceptsStep_223 : decode prog_8_method_20_code 223 = .ok (.getfield (168), 3) := by decide +kernel
theorem d_Z_acceptsStep_226 : decode prog_8_method_20_code 226 = .ok (.bipush (41), 2) := by decide +kernel
theorem d_Z_acceptsStep_228 : decode prog_8_method_20_code 228 = .ok (.if_icmp .ne (37), 3) := by decide +kernel
theorem d_Z_acceptsStep_231 : decode prog_8_method_20_code 231 = .ok (.aload_n 0, 1) := by decide +kernel
theorem d_Z_acceptsStep_232 : decode prog_8_method_20_code 232 = .ok (.aload_n 0, 1) := by decide +kernel
theorem d_Z_acceptsStep_233 : decode prog_8_method_20_code 233 = .ok (.getfield (39), 3) := by decide +kernel
theorem d_Z_acceptsStep_236 : decode prog_8_method_20_code 236 = .ok (.iload_n 3, 1) := by decide +kernel
theorem d_Z_acceptsStep_237 : decode prog_8_method_20_code 237 = .ok (.iaload, 1) := by decide +kernel
theorem d_Z_acceptsStep_238 : decode prog_8_method_20_code 238 = .ok (.bipush (7), 2) := by decide +kernel
theorem d_Z_acceptsStep_240 : decode prog_8_method_20_code 240 = .ok (.if_icmp .ne (8), 3) := by decide +kernel
theorem d_Z_acceptsStep_243 : decode prog_8_method_20_code 243 = .ok (.bipush (42), 2) := by decide +kernel
theorem d_Z_acceptsStep_245 : decode prog_8_method_20_code 245 = .ok (.goto (5), 3) := by decide +kernel
theorem d_Z_acceptsStep_248 : decode prog_8_method_20_code 248 = .ok (.bipush (20), 2) := by decide +kernel
theorem d_Z_acceptsStep_250 : decode prog_8_method_20_code 250 = .ok (.putfield (168), 3) := by decide +kernel
theorem d_Z_acceptsStep_253 : decode prog_8_method_20_code 253 = .ok (.iload_n 1, 1) := by decide +kernel
theorem d_Z_acceptsStep_254 : decode prog_8_method_20_code 254 = .ok (.bipush (61), 2) := by decide +kernel
theorem d_Z_acceptsStep_256 : decode prog_8_method_20_code 256 = .ok (.if_icmp .ne (7), 3) := by decide +kernel
theorem d_Z_acceptsStep_259 : decode prog_8_method_20_code 259 = .ok (.iconst 1, 1) := by decide +kernel
theorem d_Z_acceptsStep_260 : decode prog_8_method_20_code 260 = .ok (.goto (4), 3) := by decide +kernel
theorem d_Z_acceptsStep_263 : decode prog_8_method_20_code 263 = .ok (.iconst 0, 1) := by decide +kernel
theorem d_Z_acceptsStep_264 : decode prog_8_method_20_code 264 = .ok (.ireturn, 1) := by decide +kernel
theorem d_Z_acceptsStep_265 : decode prog_8_method_20_code 265 = .ok (.aload_n 0, 1) := by decide +kernel
theorem d_Z_acceptsStep_266 : decode prog_8_method_20_code 266 = .ok (.getfield (168), 3) := by decide +kernel
theorem d_Z_acceptsStep_269 : decode prog_8_method_20_code 269 = .ok (.bipush (43), 2) := by decide +kernel
theorem d_Z_acceptsStep_271 : decode prog_8_method_20_code 271 = .ok (.if_icmp .eq (12), 3) := by decide +kernel
theorem d_Z_acceptsStep_274 : decode prog_8_method_20_code 274 = .ok (.aload_n 0, 1) := by decide +kernel
theorem d_Z_acceptsStep_275 : decode prog_8_method_20_code 275 = .ok (.getfield (168), 3) := by decide +kernel
theorem d_Z_acceptsStep_278 : decode prog_8_method_20_code 278 = .ok (.bipush (44), 2) := by decide +kernel
theorem d_Z_acceptsStep_280 : decode prog_8_method_20_code 280 = .ok (.if_icmp .ne (57), 3) := by decide +kernel
theorem d_Z_acceptsStep_283 : decode prog_8_method_20_code 283 = .ok (.iload_n 1, 1) := by decide +kernel
theorem d_Z_acceptsStep_284 : decode prog_8_method_20_code 284 = .ok (.invokestatic (272), 3) := by decide +kernel
theorem d_Z_acceptsStep_287 : decode prog_8_method_20_code 287 = .ok (.ifCond .eq (50), 3) := by decide +kernel
theorem d_Z_acceptsStep_290 : decode prog_8_method_20_code 290 = .ok (.aload_n 0, 1) := by decide +kernel
theorem d_Z_acceptsStep_291 : decode prog_8_method_20_code 291 = .ok (.getfield (39), 3) := by decide +kernel
theorem d_Z_acceptsStep_294 : decode prog_8_method_20_code 294 = .ok (.iload_n 3, 1) := by decide +kernel
theorem d_Z_acceptsStep_295 : decode prog_8_method_20_code 295 = .ok (.aload_n 0, 1) := by decide +kernel
theorem d_Z_acceptsStep_296 : decode prog_8_method_20_code 296 = .ok (.getfield (168), 3) := by decide +kernel
theorem d_Z_acceptsStep_299 : decode prog_8_method_20_code 299 = .ok (.bipush (43), 2) := by decide +kernel
theorem d_Z_acceptsStep_301 : decode prog_8_method_20_code 301 = .ok (.if_icmp .ne (8), 3) := by decide +kernel
theorem d_Z_acceptsStep_304 : decode prog_8_method_20_code 304 = .ok (.bipush (9), 2) := by decide +kernel
theorem d_Z_acceptsStep_306 : decode prog_8_method_20_code 306 = .ok (.goto (5), 3) := by decide +kernel
theorem d_Z_acceptsStep_309 : decode prog_8_method_20_code 309 = .ok (.bipush (10), 2) := by decide +kernel
theorem d_Z_acceptsStep_311 : decode prog_8_method_20_code 311 = .ok (.iastore, 1) := by decide +kernel
theorem d_Z_acceptsStep_312 : decode prog_8_method_20_code 312 = .ok (.aload_n 0, 1) := by decide +kernel
theorem d_Z_acceptsStep_313 : decode prog_8_method_20_code 313 = .ok (.getfield (48), 3) := by decide +kernel
theorem d_Z_acceptsStep_316 : decode prog_8_method_20_code 316 = .ok (.iload_n 3, 1) := by decide +kernel
theorem d_Z_acceptsStep_317 : decode prog_8_method_20_code 317 = .ok (.iload_n 1, 1) := by decide +kernel
theorem d_Z_acceptsStep_318 : decode prog_8_method_20_code 318 = .ok (.bipush (65), 2) := by decide +kernel
theorem d_Z_acceptsStep_320 : decode prog_8_method_20_code 320 = .ok (.isub, 1) := by decide +kernel
theorem d_Z_acceptsStep_321 : decode prog_8_method_20_code 321 = .ok (.iastore, 1) := by decide +kernel
theorem d_Z_acceptsStep_322 : decode prog_8_method_20_code 322 = .ok (.aload_n 0, 1) := by decide +kernel
theorem d_Z_acceptsStep_323 : decode prog_8_method_20_code 323 = .ok (.getfield (51), 3) := by decide +kernel
theorem d_Z_acceptsStep_326 : decode prog_8_method_20_code 326 = .ok (.iload_n 3, 1) := by decide +kernel
theorem d_Z_acceptsStep_327 : decode prog_8_method_20_code 327 = .ok (.iload_n 2, 1) := by decide +kernel
theorem d_Z_acceptsStep_328 : decode prog_8_method_20_code 328 = .ok (.iastore, 1) := by decide +kernel
theorem d_Z_acceptsStep_329 : decode prog_8_method_20_code 329 = .ok (.aload_n 0, 1) := by decide +kernel
theorem d_Z_acceptsStep_330 : decode prog_8_method_20_code 330 = .ok (.bipush (49), 2) := by decide +kernel
theorem d_Z_acceptsStep_332 : decode prog_8_method_20_code 332 = .ok (.putfield (168), 3) := by decide +kernel
theorem d_Z_acceptsStep_335 : decode prog_8_method_20_code 335 = .ok (.iconst 1, 1) := by decide +kernel
theorem d_Z_acceptsStep_336 : decode prog_8_method_20_code 336 = .ok (.ireturn, 1) := by decide +kernel
theorem d_Z_acceptsStep_337 : decode prog_8_method_20_code 337 = .ok (.aload_n 0, 1) := by decide +kernel
theorem d_Z_acceptsStep_338 : decode prog_8_method_20_code 338 = .ok (.getfield (168), 3) := by decide +kernel
theorem d_Z_acceptsStep_341 : decode prog_8_method_20_code 341 = .ok (.bipush (47), 2) := by decide +kernel
theorem d_Z_acceptsStep_343 : decode prog_8_method_20_code 343 = .ok (.if_icmp .ne (32), 3) := by decide +kernel
theorem d_Z_acceptsStep_346 : decode prog_8_method_20_code 346 = .ok (.iload_n 1, 1) := by decide +kernel
theorem d_Z_acceptsStep_347 : decode prog_8_method_20_code 347 = .ok (.bipush (44), 2) := by decide +kernel
theorem d_Z_acceptsStep_349 : decode prog_8_method_20_code 349 = .ok (.if_icmp .ne (26), 3) := by decide +kernel
theorem d_Z_acceptsStep_352 : decode prog_8_method_20_code 352 = .ok (.aload_n 0, 1) := by decide +kernel
theorem d_Z_acceptsStep_353 : decode prog_8_method_20_code 353 = .ok (.getfield (192), 3) := by decide +kernel
theorem d_Z_acceptsStep_356 : decode prog_8_method_20_code 356 = .ok (.aload_n 0, 1) := by decide +kernel
theorem d_Z_acceptsStep_357 : decode prog_8_method_20_code 357 = .ok (.getfield (60), 3) := by decide +kernel
theorem d_Z_acceptsStep_360 : decode prog_8_method_20_code 360 = .ok (.iload_n 3, 1) := by decide +kernel
theorem d_Z_acceptsStep_361 : decode prog_8_method_20_code 361 = .ok (.iaload, 1) := by decide +kernel
theorem d_Z_acceptsStep_362 : decode prog_8_method_20_code 362 = .ok (.isub, 1) := by decide +kernel
theorem d_Z_acceptsStep_363 : decode prog_8_method_20_code 363 = .ok (.iconst 5, 1) := by decide +kernel
theorem d_Z_acceptsStep_364 : decode prog_8_method_20_code 364 = .ok (.if_icmp .ge (11), 3) := by decide +kernel
theorem d_Z_acceptsStep_367 : decode prog_8_method_20_code 367 = .ok (.aload_n 0, 1) := by decide +kernel
theorem d_Z_acceptsStep_368 : decode prog_8_method_20_code 368 = .ok (.bipush (46), 2) := by decide +kernel
theorem d_Z_acceptsStep_370 : decode prog_8_method_20_code 370 = .ok (.putfield (168), 3) := by decide +kernel
theorem d_Z_acceptsStep_373 : decode prog_8_method_20_code 373 = .ok (.iconst 1, 1) := by decide +kernel
theorem d_Z_acceptsStep_374 : decode prog_8_method_20_code 374 = .ok (.ireturn, 1) := by decide +kernel
theorem d_Z_acceptsStep_375 : decode prog_8_method_20_code 375 = .ok (.aload_n 0, 1) := by decide +kernel
theorem d_Z_acceptsStep_376 : decode prog_8_method_20_code 376 = .ok (.getfield (168), 3) := by decide +kernel
theorem d_Z_acceptsStep_379 : decode prog_8_method_20_code 379 = .ok (.bipush (47), 2) := by decide +kernel
theorem d_Z_acceptsStep_381 : decode prog_8_method_20_code 381 = .ok (.if_icmp .eq (12), 3) := by decide +kernel
theorem d_Z_acceptsStep_384 : decode prog_8_method_20_code 384 = .ok (.aload_n 0, 1) := by decide +kernel
theorem d_Z_acceptsStep_385 : decode prog_8_method_20_code 385 = .ok (.getfield (168), 3) := by decide +kernel
theorem d_Z_acceptsStep_388 : decode prog_8_method_20_code 388 = .ok (.bipush (49), 2) := by decide +kernel
theorem d_Z_acceptsStep_390 : decode prog_8_method_20_code 390 = .ok (.if_icmp .ne (27), 3) := by decide +kernel
theorem d_Z_acceptsStep_393 : decode prog_8_method_20_code 393 = .ok (.iload_n 1, 1) := by decide +kernel
theorem d_Z_acceptsStep_394 : decode prog_8_method_20_code 394 = .ok (.bipush (59), 2) := by decide +kernel
theorem d_Z_acceptsStep_396 : decode prog_8_method_20_code 396 = .ok (.if_icmp .ne (21), 3) := by decide +kernel
theorem d_Z_acceptsStep_399 : decode prog_8_method_20_code 399 = .ok (.aload_n 0, 1) := by decide +kernel
theorem d_Z_acceptsStep_400 : decode prog_8_method_20_code 400 = .ok (.getfield (63), 3) := by decide +kernel
theorem d_Z_acceptsStep_403 : decode prog_8_method_20_code 403 = .ok (.iload_n 3, 1) := by decide +kernel
theorem d_Z_acceptsStep_404 : decode prog_8_method_20_code 404 = .ok (.aload_n 0, 1) := by decide +kernel
theorem d_Z_acceptsStep_405 : decode prog_8_method_20_code 405 = .ok (.getfield (192), 3) := by decide +kernel
theorem d_Z_acceptsStep_408 : decode prog_8_method_20_code 408 = .ok (.iastore, 1) := by decide +kernel
theorem d_Z_acceptsStep_409 : decode prog_8_method_20_code 409 = .ok (.aload_n 0, 1) := by decide +kernel
theorem d_Z_acceptsStep_410 : decode prog_8_method_20_code 410 = .ok (.bipush (10), 2) := by decide +kernel
theorem d_Z_acceptsStep_412 : decode prog_8_method_20_code 412 = .ok (.putfield (168), 3) := by decide +kernel
theorem d_Z_acceptsStep_415 : decode prog_8_method_20_code 415 = .ok (.iconst 1, 1) := by decide +kernel
theorem d_Z_acceptsStep_416 : decode prog_8_method_20_code 416 = .ok (.ireturn, 1) := by decide +kernel
theorem d_Z_acceptsStep_417 : decode prog_8_method_20_code 417 = .ok (.iconst 0, 1) := by decide +kernel
theorem d_Z_acceptsStep_418 : decode prog_8_method_20_code 418 = .ok (.ireturn, 1) := by decide +kernel
theorem fd_Z_63 : ax_fd "CipherNotationModel" 63 6 32 := ⟨nC6, nT6, 73, nY6, rfl, nW6, by decide, nw_4 169 (by decide +kernel) rfl, nO6, nA6⟩
theorem fd_Z_51 : ax_fd "CipherNotationModel" 51 6 28 := ⟨nC6, nT6, 73, nY6, rfl, nW6, by decide, nw_4 165 (by decide +kernel) rfl, nO6, nA6⟩
def f_Z_acceptsStep (a1 : Int32) (a2 : Int32) (s : ax_σ) : Option (Int32 × ax_σ) :=
  if (s.1 0 38 7) = (40 : Int32) then
    Option.bind (
      if a1 = (94 : Int32) then
        some (4 : Int32)
      else
        if a1 = (43 : Int32) then
          some (5 : Int32)
        else
          if a1 = (45 : Int32) then
            some (6 : Int32)
          else
            if a1 = (42 : Int32) then
              some (7 : Int32)
            else
              if a1 = (60 : Int32) then
                some (8 : Int32)
              else
                if a1 = (58 : Int32) then
                  some (10 : Int32)
                else
                  if a1 = (35 : Int32) then
                    some (11 : Int32)
                  else
                    if a1 = (64 : Int32) then
                      some (12 : Int32)
                    else
                      some (0 : Int32)) (fun v56 =>
      bif ax_in ((s.1 0 38 22) - (1 : Int32)) 240 then
      ax_let (ax_wI s 0 47 (((s.1 0 38 22) - (1 : Int32))).toNatClampNeg v56) (fun s58 =>
        bif ax_in ((s.1 0 38 22) - (1 : Int32)) 240 then
        Option.bind (
          if (s58.1 0 47 (((s.1 0 38 22) - (1 : Int32))).toNatClampNeg) = (12 : Int32) then
            some (s58.1 0 38 33)
          else
            some (s58.1 0 38 36)) (fun v61 =>
          bif ax_in ((s.1 0 38 22) - (1 : Int32)) 240 then
          ax_let (ax_wI s58 0 54 (((s.1 0 38 22) - (1 : Int32))).toNatClampNeg v61) (fun s63 =>
            bif ax_in ((s.1 0 38 22) - (1 : Int32)) 240 then
            Option.bind (
              if (7 : Int32) < (s63.1 0 47 (((s.1 0 38 22) - (1 : Int32))).toNatClampNeg) then
                bif ax_in ((s.1 0 38 22) - (1 : Int32)) 240 then
                if (s63.1 0 47 (((s.1 0 38 22) - (1 : Int32))).toNatClampNeg) = (8 : Int32) then
                  some (43 : Int32)
                else
                  bif ax_in ((s.1 0 38 22) - (1 : Int32)) 240 then
                  if (s63.1 0 47 (((s.1 0 38 22) - (1 : Int32))).toNatClampNeg) = (10 : Int32) then
                    some (44 : Int32)
                  else
                    bif ax_in ((s.1 0 38 22) - (1 : Int32)) 240 then
                    if (s63.1 0 47 (((s.1 0 38 22) - (1 : Int32))).toNatClampNeg) = (11 : Int32) then
                      some (45 : Int32)
                    else
                      some (46 : Int32)
                    else none
                  else none
                else none
              else
                some (41 : Int32)) (fun v72 =>
              ax_let (ax_wI s63 0 38 7 v72) (fun s73 =>
                bif ax_in ((s.1 0 38 22) - (1 : Int32)) 240 then
                if (s73.1 0 47 (((s.1 0 38 22) - (1 : Int32))).toNatClampNeg) = (0 : Int32) then
                  some (((0 : Int32), s73))
                else
                  some (((1 : Int32), s73))
                else none))
            else none)
          else none)
        else none)
      else none)
  else
    if (s.1 0 38 7) = (41 : Int32) then
      bif ax_in ((s.1 0 38 22) - (1 : Int32)) 240 then
      Option.bind (
        if (s.1 0 47 (((s.1 0 38 22) - (1 : Int32))).toNatClampNeg) = (7 : Int32) then
          some (42 : Int32)
        else
          some (20 : Int32)) (fun v44 =>
        ax_let (ax_wI s 0 38 7 v44) (fun s45 =>
          if a1 = (61 : Int32) then
            some (((1 : Int32), s45))
          else
            some (((0 : Int32), s45))))
      else none
    else
      Option.bind (
        if (s.1 0 38 7) = (43 : Int32) then
          some true
        else
          if (s.1 0 38 7) = (44 : Int32) then
            some true
          else
            some false) (fun w41 => bif w41 then
        Option.bind (f_Z_isState a1) (fun r3 =>
          if r3 = (0 : Int32) then
            Option.bind (
              if (s.1 0 38 7) = (47 : Int32) then
                if a1 = (44 : Int32) then
                  bif ax_in ((s.1 0 38 22) - (1 : Int32)) 240 then
                  if (5 : Int32) ≤ ((s.1 0 38 33) - (s.1 0 54 (((s.1 0 38 22) - (1 : Int32))).toNatClampNeg)) then
                    some true
                  else
                    some false
                  else none
                else
                  some true
              else
                some true) (fun w17 => bif w17 then
              Option.bind (
                if (s.1 0 38 7) = (47 : Int32) then
                  some true
                else
                  if (s.1 0 38 7) = (49 : Int32) then
                    some true
                  else
                    some false) (fun w15 => bif w15 then
                if a1 = (59 : Int32) then
                  bif ax_in ((s.1 0 38 22) - (1 : Int32)) 240 then
                  ax_let (ax_wI s 0 55 (((s.1 0 38 22) - (1 : Int32))).toNatClampNeg (s.1 0 38 33)) (fun s12 =>
                    ax_let (ax_wI s12 0 38 7 (10 : Int32)) (fun s13 =>
                      some (((1 : Int32), s13))))
                  else none
                else
                  some (((0 : Int32), s))
              else
                some (((0 : Int32), s)))
            else
              ax_let (ax_wI s 0 38 7 (46 : Int32)) (fun s16 =>
                some (((1 : Int32), s16))))
          else
            Option.bind (
              if (s.1 0 38 7) = (43 : Int32) then
                some (9 : Int32)
              else
                some (10 : Int32)) (fun v19 =>
              bif ax_in ((s.1 0 38 22) - (1 : Int32)) 240 then
              ax_let (ax_wI s 0 47 (((s.1 0 38 22) - (1 : Int32))).toNatClampNeg v19) (fun s21 =>
                bif ax_in ((s.1 0 38 22) - (1 : Int32)) 240 then
                ax_let (ax_wI s21 0 50 (((s.1 0 38 22) - (1 : Int32))).toNatClampNeg (a1 - (65 : Int32))) (fun s23 =>
                  bif ax_in ((s.1 0 38 22) - (1 : Int32)) 240 then
                  ax_let (ax_wI s23 0 51 (((s.1 0 38 22) - (1 : Int32))).toNatClampNeg a2) (fun s25 =>
                    ax_let (ax_wI s25 0 38 7 (49 : Int32)) (fun s26 =>
                      some (((1 : Int32), s26))))
                  else none)
                else none)
              else none))
      else
        Option.bind (
          if (s.1 0 38 7) = (47 : Int32) then
            if a1 = (44 : Int32) then
              bif ax_in ((s.1 0 38 22) - (1 : Int32)) 240 then
              if (5 : Int32) ≤ ((s.1 0 38 33) - (s.1 0 54 (((s.1 0 38 22) - (1 : Int32))).toNatClampNeg)) then
                some true
              else
                some false
              else none
            else
              some true
          else
            some true) (fun w40 => bif w40 then
          Option.bind (
            if (s.1 0 38 7) = (47 : Int32) then
              some true
            else
              if (s.1 0 38 7) = (49 : Int32) then
                some true
              else
                some false) (fun w38 => bif w38 then
            if a1 = (59 : Int32) then
              bif ax_in ((s.1 0 38 22) - (1 : Int32)) 240 then
              ax_let (ax_wI s 0 55 (((s.1 0 38 22) - (1 : Int32))).toNatClampNeg (s.1 0 38 33)) (fun s35 =>
                ax_let (ax_wI s35 0 38 7 (10 : Int32)) (fun s36 =>
                  some (((1 : Int32), s36))))
              else none
            else
              some (((0 : Int32), s))
          else
            some (((0 : Int32), s)))
        else
          ax_let (ax_wI s 0 38 7 (46 : Int32)) (fun s39 =>
            some (((1 : Int32), s39)))))
set_option maxHeartbeats 4000000 in
set_option maxRecDepth 100000 in
theorem t_Z_acceptsStep {l : Launch} {D : va_G} {cA : Nat → ClassId} {ad : Nat → Nat → Nat} {al : List (Nat × Nat)} {θ : ax_Θ} {ρ : ax_ρ} (h0 : ax_M0 al) {a1 : Int32} {a2 : Int32} {s : ax_σ} {r0 : Int32} {s0 : ax_σ} (h : f_Z_acceptsStep a1 a2 s = some (r0, s0)) : ax_T l D cA ad al θ y_Z_acceptsStep (.code y_Z_acceptsStep prog_8_method_20_code 4 (some .boolean)) 1 [.inr (0, 38), .inl (.int (a1)), .inl (.int (a2))] (ax_m s ρ) (some (.inl (.int r0))) (ax_m s0 ρ) := by
  refine ax_T_of (own := "CipherNotationModel") (by decide) rfl (Nat.le_of_ble_eq_true rfl) [(0, .inr (0, 38)), (1, .inl (.int (a1))), (2, .inl (.int (a2)))] rfl ?_
  intro G hA
  have hB := hA.B
  have hK := hB.K
  have hal := hB.la
  unfold f_Z_acceptsStep at h
  refine ax_bk hK (ax_fc (ax_v_ld (ax_r_aload_n (i := 0) d_Z_acceptsStep_0 rfl)) (ax_fc (ax_w_gf (e := none) hal d_Z_acceptsStep_1 fd_Z_186) (ax_fc (ax_v_pu (ax_r_iconst (v := 1) d_Z_acceptsStep_4 (by decide))) (ax_fc (ax_v_pu (ax_r_isub d_Z_acceptsStep_5)) (ax_fc (ax_v_so (ax_r_istore_n (i := 3) d_Z_acceptsStep_6 rfl)) (ax_fc (ax_v_ld (ax_r_aload_n (i := 0) d_Z_acceptsStep_7 rfl)) (ax_fc (ax_w_gf (e := none) hal d_Z_acceptsStep_8 fd_Z_168) (ax_fc (ax_v_pu (ax_r_bipush (v := 40) d_Z_acceptsStep_11 (by decide))) ax_fn)))))))) (y := (13, [(3, .inl (.int (((s.1 0 38 22) - (1 : Int32))))), (0, .inr (0, 38)), (1, .inl (.int (a1))), (2, .inl (.int (a2)))], [.inl (.int ((40 : Int32))), .inl (.int ((s.1 0 38 7)))], ax_m (s) ρ)) rfl ⟨trivial, (h0 38 rfl), trivial, trivial, trivial, trivial, (h0 38 rfl), trivial, trivial⟩ ?_
  refine ax_ic_ne (tgt := 222) hK d_Z_acceptsStep_13 (by decide) (fun c76 => ?_) (fun c76 => ?_)
  · replace h := ax_if c76 h
    refine ax_bk hK (ax_fc (ax_v_ld (ax_r_aload_n (i := 0) d_Z_acceptsStep_222 rfl)) (ax_fc (ax_w_gf (e := none) hal d_Z_acceptsStep_223 fd_Z_168) (ax_fc (ax_v_pu (ax_r_bipush (v := 41) d_Z_acceptsStep_226 (by decide))) ax_fn))) (y := (228, [(3, .inl (.int (((s.1 0 38 22) - (1 : Int32))))), (0, .inr (0, 38)), (1, .inl (.int (a1))), (2, .inl (.int (a2)))], [.inl (.int ((41 : Int32))), .inl (.int ((s.1 0 38 7)))], ax_m (s) ρ)) rfl ⟨trivial, (h0 38 rfl), trivial, trivial⟩ ?_
    refine ax_ic_ne (tgt := 265) hK d_Z_acceptsStep_228 (by decide) (fun c47 => ?_) (fun c47 => ?_)
    · replace h := ax_if c47 h
      refine ax_bk hK (ax_fc (ax_v_ld (ax_r_aload_n (i := 0) d_Z_acceptsStep_265 rfl)) (ax_fc (ax_w_gf (e := none) hal d_Z_acceptsStep_266 fd_Z_168) (ax_fc (ax_v_pu (ax_r_bipush (v := 43) d_Z_acceptsStep_269 (by decide))) ax_fn))) (y := (271, [(3, .inl (.int (((s.1 0 38 22) - (1 : Int32))))), (0, .inr (0, 38)), (1, .inl (.int (a1))), (2, .inl (.int (a2)))], [.inl (.int ((43 : Int32))), .inl (.int ((s.1 0 38 7)))], ax_m (s) ρ)) rfl ⟨trivial, (h0 38 rfl), trivial, trivial⟩ ?_
      obtain ⟨w41, hw41, h⟩ := ax_bd h
      have KTw41 : w41 = true → ax_R G 4 0 0 (283, [(0, .inr (0, 38)), (1, .inl (.int (a1))), (2, .inl (.int (a2))), (3, .inl (.int (((s.1 0 38 22) - (1 : Int32)))))], [], ax_m (s) ρ) := by
        intro e9
        subst w41
        replace h := ax_ct h
        refine ax_bk hK (ax_fc (ax_v_ld (ax_r_iload_n (i := 1) d_Z_acceptsStep_283 rfl)) ax_fn) (y := (284, [(0, .inr (0, 38)), (1, .inl (.int (a1))), (2, .inl (.int (a2))), (3, .inl (.int (((s.1 0 38 22) - (1 : Int32)))))], [.inl (.int (a1))], ax_m (s) ρ)) rfl ⟨trivial, trivial⟩ ?_
        obtain ⟨r3, q4, h⟩ := ax_bd h
        refine ax_bS (rest := []) hB (t_Z_isState q4) cw_Z_272 sm_Z_isState d_Z_acceptsStep_284 (by decide) (by decide) rfl rfl (Nat.le_of_ble_eq_true rfl) ?_
        change ax_R G 4 0 0 (287, [(0, .inr (0, 38)), (1, .inl (.int (a1))), (2, .inl (.int (a2))), (3, .inl (.int (((s.1 0 38 22) - (1 : Int32)))))], [.inl (.int (r3))], ax_m (s) ρ)
        refine ax_if_eq (tgt := 337) hK d_Z_acceptsStep_287 (by decide) (fun c27 => ?_) (fun c27 => ?_)
        · replace h := ax_it c27 h
          refine ax_bk hK (ax_fc (ax_v_ld (ax_r_aload_n (i := 0) d_Z_acceptsStep_337 rfl)) (ax_fc (ax_w_gf (e := none) hal d_Z_acceptsStep_338 fd_Z_168) (ax_fc (ax_v_pu (ax_r_bipush (v := 47) d_Z_acceptsStep_341 (by decide))) ax_fn))) (y := (343, [(0, .inr (0, 38)), (1, .inl (.int (a1))), (2, .inl (.int (a2))), (3, .inl (.int (((s.1 0 38 22) - (1 : Int32)))))], [.inl (.int ((47 : Int32))), .inl (.int ((s.1 0 38 7)))], ax_m (s) ρ)) rfl ⟨trivial, (h0 38 rfl), trivial, trivial⟩ ?_
          obtain ⟨w17, hw17, h⟩ := ax_bd h
          have KTw17 : w17 = true → ax_R G 4 0 0 (375, [(0, .inr (0, 38)), (1, .inl (.int (a1))), (3, .inl (.int (((s.1 0 38 22) - (1 : Int32)))))], [], ax_m (s) ρ) := by
            intro e9
            subst w17
            replace h := ax_ct h
            refine ax_bk hK (ax_fc (ax_v_ld (ax_r_aload_n (i := 0) d_Z_acceptsStep_375 rfl)) (ax_fc (ax_w_gf (e := none) hal d_Z_acceptsStep_376 fd_Z_168) (ax_fc (ax_v_pu (ax_r_bipush (v := 47) d_Z_acceptsStep_379 (by decide))) ax_fn))) (y := (381, [(0, .inr (0, 38)), (1, .inl (.int (a1))), (3, .inl (.int (((s.1 0 38 22) - (1 : Int32)))))], [.inl (.int ((47 : Int32))), .inl (.int ((s.1 0 38 7)))], ax_m (s) ρ)) rfl ⟨trivial, (h0 38 rfl), trivial, trivial⟩ ?_
            obtain ⟨w15, hw15, h⟩ := ax_bd h
            have KTw15 : w15 = true → ax_R G 4 0 0 (393, [(0, .inr (0, 38)), (1, .inl (.int (a1))), (3, .inl (.int (((s.1 0 38 22) - (1 : Int32)))))], [], ax_m (s) ρ) := by
              intro e9
              subst w15
              replace h := ax_ct h
              refine ax_bk hK (ax_fc (ax_v_ld (ax_r_iload_n (i := 1) d_Z_acceptsStep_393 rfl)) (ax_fc (ax_v_pu (ax_r_bipush (v := 59) d_Z_acceptsStep_394 (by decide))) ax_fn)) (y := (396, [(0, .inr (0, 38)), (1, .inl (.int (a1))), (3, .inl (.int (((s.1 0 38 22) - (1 : Int32)))))], [.inl (.int ((59 : Int32))), .inl (.int (a1))], ax_m (s) ρ)) rfl ⟨trivial, trivial, trivial⟩ ?_
              refine ax_ic_ne (tgt := 417) hK d_Z_acceptsStep_396 (by decide) (fun c14 => ?_) (fun c14 => ?_)
              · replace h := ax_if c14 h
                refine ax_bk hK (ax_fc (ax_v_pu (ax_r_iconst (v := 0) d_Z_acceptsStep_417 (by decide))) ax_fn) (y := (418, [(0, .inr (0, 38)), (1, .inl (.int (a1))), (3, .inl (.int (((s.1 0 38 22) - (1 : Int32)))))], [.inl (.int ((0 : Int32)))], ax_m (s) ρ)) rfl ⟨trivial, trivial⟩ ?_
                cases h
                exact ax_zret hA (by decide) d_Z_acceptsStep_418
              · replace h := ax_it c14 h
                obtain ⟨b11, h⟩ := ax_gd h
                refine ax_bk hK (ax_fc (ax_v_ld (ax_r_aload_n (i := 0) d_Z_acceptsStep_399 rfl)) (ax_fc (ax_w_gf (e := none) hal d_Z_acceptsStep_400 fd_Z_63) (ax_fc (ax_v_ld (ax_r_iload_n (i := 3) d_Z_acceptsStep_403 rfl)) (ax_fc (ax_v_ld (ax_r_aload_n (i := 0) d_Z_acceptsStep_404 rfl)) (ax_fc (ax_w_gf (e := none) hal d_Z_acceptsStep_405 fd_Z_192) (ax_fc (ax_w_iast hal d_Z_acceptsStep_408) ax_fn)))))) (y := (409, [(0, .inr (0, 38)), (1, .inl (.int (a1))), (3, .inl (.int (((s.1 0 38 22) - (1 : Int32)))))], [], ax_m (ax_wI s 0 55 (((s.1 0 38 22) - (1 : Int32))).toNatClampNeg (s.1 0 38 33)) ρ)) rfl ⟨trivial, (h0 38 rfl), trivial, trivial, (h0 38 rfl), ⟨(h0 55 rfl), ax_inp b11⟩, trivial⟩ ?_
                refine ax_lt (Q := fun ςς => ax_R G 4 0 0 (409, [(0, .inr (0, 38)), (1, .inl (.int (a1))), (3, .inl (.int (((s.1 0 38 22) - (1 : Int32)))))], [], ax_m (ςς) ρ)) h (fun s12 h => ?_)
                refine ax_bk hK (ax_fc (ax_v_ld (ax_r_aload_n (i := 0) d_Z_acceptsStep_409 rfl)) (ax_fc (ax_v_pu (ax_r_bipush (v := 10) d_Z_acceptsStep_410 (by decide))) (ax_fc (ax_w_pf (tc := 0) hal d_Z_acceptsStep_412 fp_Z_168 rfl) ax_fn))) (y := (415, [(0, .inr (0, 38)), (1, .inl (.int (a1))), (3, .inl (.int (((s.1 0 38 22) - (1 : Int32)))))], [], ax_m (ax_wI s12 0 38 7 (10 : Int32)) ρ)) rfl ⟨trivial, trivial, (h0 38 rfl), trivial⟩ ?_
                refine ax_lt (Q := fun ςς => ax_R G 4 0 0 (415, [(0, .inr (0, 38)), (1, .inl (.int (a1))), (3, .inl (.int (((s.1 0 38 22) - (1 : Int32)))))], [], ax_m (ςς) ρ)) h (fun s13 h => ?_)
                refine ax_bk hK (ax_fc (ax_v_pu (ax_r_iconst (v := 1) d_Z_acceptsStep_415 (by decide))) ax_fn) (y := (416, [(0, .inr (0, 38)), (1, .inl (.int (a1))), (3, .inl (.int (((s.1 0 38 22) - (1 : Int32)))))], [.inl (.int ((1 : Int32)))], ax_m (s13) ρ)) rfl ⟨trivial, trivial⟩ ?_
                cases h
                exact ax_zret hA (by decide) d_Z_acceptsStep_416
            have KFw15 : w15 = false → ax_R G 4 0 0 (417, [], [], ax_m (s) ρ) := by
              intro e9
              subst w15
              replace h := ax_cf h
              refine ax_bk hK (ax_fc (ax_v_pu (ax_r_iconst (v := 0) d_Z_acceptsStep_417 (by decide))) ax_fn) (y := (418, [], [.inl (.int ((0 : Int32)))], ax_m (s) ρ)) rfl ⟨trivial, trivial⟩ ?_
              cases h
              exact ax_zret hA (by decide) d_Z_acceptsStep_418
            clear h
            have h := hw15
            refine ax_ic_eq (tgt := 393) hK d_Z_acceptsStep_381 (by decide) (fun c10 => ?_) (fun c10 => ?_)
            · replace h := ax_it c10 h
              cases h
              exact ax_Lsub [0, 1, 2] rfl (KTw15 rfl)
            · replace h := ax_if c10 h
              refine ax_bk hK (ax_fc (ax_v_ld (ax_r_aload_n (i := 0) d_Z_acceptsStep_384 rfl)) (ax_fc (ax_w_gf (e := none) hal d_Z_acceptsStep_385 fd_Z_168) (ax_fc (ax_v_pu (ax_r_bipush (v := 49) d_Z_acceptsStep_388 (by decide))) ax_fn))) (y := (390, [(0, .inr (0, 38)), (1, .inl (.int (a1))), (3, .inl (.int (((s.1 0 38 22) - (1 : Int32)))))], [.inl (.int ((49 : Int32))), .inl (.int ((s.1 0 38 7)))], ax_m (s) ρ)) rfl ⟨trivial, (h0 38 rfl), trivial, trivial⟩ ?_
              refine ax_ic_ne (tgt := 417) hK d_Z_acceptsStep_390 (by decide) (fun c9 => ?_) (fun c9 => ?_)
              · replace h := ax_if c9 h
                cases h
                exact ax_Lsub [] rfl (KFw15 rfl)
              · replace h := ax_it c9 h
                cases h
                exact ax_Lsub [0, 1, 2] rfl (KTw15 rfl)
          have KFw17 : w17 = false → ax_R G 4 0 0 (367, [(0, .inr (0, 38))], [], ax_m (s) ρ) := by
            intro e9
            subst w17
            replace h := ax_cf h
            refine ax_bk hK (ax_fc (ax_v_ld (ax_r_aload_n (i := 0) d_Z_acceptsStep_367 rfl)) (ax_fc (ax_v_pu (ax_r_bipush (v := 46) d_Z_acceptsStep_368 (by decide))) (ax_fc (ax_w_pf (tc := 0) hal d_Z_acceptsStep_370 fp_Z_168 rfl) ax_fn))) (y := (373, [(0, .inr (0, 38))], [], ax_m (ax_wI s 0 38 7 (46 : Int32)) ρ)) rfl ⟨trivial, trivial, (h0 38 rfl), trivial⟩ ?_
            refine ax_lt (Q := fun ςς => ax_R G 4 0 0 (373, [(0, .inr (0, 38))], [], ax_m (ςς) ρ)) h (fun s16 h => ?_)
            refine ax_bk hK (ax_fc (ax_v_pu (ax_r_iconst (v := 1) d_Z_acceptsStep_373 (by decide))) ax_fn) (y := (374, [(0, .inr (0, 38))], [.inl (.int ((1 : Int32)))], ax_m (s16) ρ)) rfl ⟨trivial, trivial⟩ ?_
            cases h
            exact ax_zret hA (by decide) d_Z_acceptsStep_374
          clear h
          have h := hw17
          refine ax_ic_ne (tgt := 375) hK d_Z_acceptsStep_343 (by decide) (fun c8 => ?_) (fun c8 => ?_)
          · replace h := ax_if c8 h
            cases h
            exact ax_Lsub [0, 1, 3] rfl (KTw17 rfl)
          · replace h := ax_it c8 h
            refine ax_bk hK (ax_fc (ax_v_ld (ax_r_iload_n (i := 1) d_Z_acceptsStep_346 rfl)) (ax_fc (ax_v_pu (ax_r_bipush (v := 44) d_Z_acceptsStep_347 (by decide))) ax_fn)) (y := (349, [(0, .inr (0, 38)), (1, .inl (.int (a1))), (2, .inl (.int (a2))), (3, .inl (.int (((s.1 0 38 22) - (1 : Int32)))))], [.inl (.int ((44 : Int32))), .inl (.int (a1))], ax_m (s) ρ)) rfl ⟨trivial, trivial, trivial⟩ ?_
            refine ax_ic_ne (tgt := 375) hK d_Z_acceptsStep_349 (by decide) (fun c7 => ?_) (fun c7 => ?_)
            · replace h := ax_if c7 h
              cases h
              exact ax_Lsub [0, 1, 3] rfl (KTw17 rfl)
            · replace h := ax_it c7 h
              obtain ⟨b5, h⟩ := ax_gd h
              refine ax_bk hK (ax_fc (ax_v_ld (ax_r_aload_n (i := 0) d_Z_acceptsStep_352 rfl)) (ax_fc (ax_w_gf (e := none) hal d_Z_acceptsStep_353 fd_Z_192) (ax_fc (ax_v_ld (ax_r_aload_n (i := 0) d_Z_acceptsStep_356 rfl)) (ax_fc (ax_w_gf (e := none) hal d_Z_acceptsStep_357 fd_Z_60) (ax_fc (ax_v_ld (ax_r_iload_n (i := 3) d_Z_acceptsStep_360 rfl)) (ax_fc (ax_w_iald hal d_Z_acceptsStep_361) (ax_fc (ax_v_pu (ax_r_isub d_Z_acceptsStep_362)) (ax_fc (ax_v_pu (ax_r_iconst (v := 5) d_Z_acceptsStep_363 (by decide))) ax_fn)))))))) (y := (364, [(0, .inr (0, 38)), (1, .inl (.int (a1))), (2, .inl (.int (a2))), (3, .inl (.int (((s.1 0 38 22) - (1 : Int32)))))], [.inl (.int ((5 : Int32))), .inl (.int (((s.1 0 38 33) - (s.1 0 54 (((s.1 0 38 22) - (1 : Int32))).toNatClampNeg))))], ax_m (s) ρ)) rfl ⟨trivial, (h0 38 rfl), trivial, (h0 38 rfl), trivial, ⟨(h0 54 rfl), ax_inp b5⟩, trivial, trivial, trivial⟩ ?_
              refine ax_ic_ge (tgt := 375) hK d_Z_acceptsStep_364 (by decide) (fun c6 => ?_) (fun c6 => ?_)
              · replace h := ax_it c6 h
                cases h
                exact ax_Lsub [0, 1, 3] rfl (KTw17 rfl)
              · replace h := ax_if c6 h
                cases h
                exact ax_Lsub [0] rfl (KFw17 rfl)
        · replace h := ax_if c27 h
          refine ax_bk hK (ax_fc (ax_v_ld (ax_r_aload_n (i := 0) d_Z_acceptsStep_290 rfl)) (ax_fc (ax_w_gf (e := none) hal d_Z_acceptsStep_291 fd_Z_39) (ax_fc (ax_v_ld (ax_r_iload_n (i := 3) d_Z_acceptsStep_294 rfl)) (ax_fc (ax_v_ld (ax_r_aload_n (i := 0) d_Z_acceptsStep_295 rfl)) (ax_fc (ax_w_gf (e := none) hal d_Z_acceptsStep_296 fd_Z_168) (ax_fc (ax_v_pu (ax_r_bipush (v := 43) d_Z_acceptsStep_299 (by decide))) ax_fn)))))) (y := (301, [(0, .inr (0, 38)), (1, .inl (.int (a1))), (2, .inl (.int (a2))), (3, .inl (.int (((s.1 0 38 22) - (1 : Int32)))))], [.inl (.int ((43 : Int32))), .inl (.int ((s.1 0 38 7))), .inl (.int (((s.1 0 38 22) - (1 : Int32)))), .inr (0, 47)], ax_m (s) ρ)) rfl ⟨trivial, (h0 38 rfl), trivial, trivial, (h0 38 rfl), trivial, trivial⟩ ?_
          obtain ⟨w77, hw77, h⟩ := ax_bd h
          have KEw77 : ∀ (v19 : Int32), w77 = v19 → ax_R G 4 0 0 (311, [(0, .inr (0, 38)), (1, .inl (.int (a1))), (2, .inl (.int (a2))), (3, .inl (.int (((s.1 0 38 22) - (1 : Int32)))))], [.inl (.int (v19)), .inl (.int (((s.1 0 38 22) - (1 : Int32)))), .inr (0, 47)], ax_m (s) ρ) := by
            intro v19 e9
            subst w77
            try dsimp only at h
            obtain ⟨b20, h⟩ := ax_gd h
            refine ax_bk hK (ax_fc (ax_w_iast hal d_Z_acceptsStep_311) ax_fn) (y := (312, [(0, .inr (0, 38)), (1, .inl (.int (a1))), (2, .inl (.int (a2))), (3, .inl (.int (((s.1 0 38 22) - (1 : Int32)))))], [], ax_m (ax_wI s 0 47 (((s.1 0 38 22) - (1 : Int32))).toNatClampNeg v19) ρ)) rfl ⟨⟨(h0 47 rfl), ax_inp b20⟩, trivial⟩ ?_
            refine ax_lt (Q := fun ςς => ax_R G 4 0 0 (312, [(0, .inr (0, 38)), (1, .inl (.int (a1))), (2, .inl (.int (a2))), (3, .inl (.int (((s.1 0 38 22) - (1 : Int32)))))], [], ax_m (ςς) ρ)) h (fun s21 h => ?_)
            obtain ⟨b22, h⟩ := ax_gd h
            refine ax_bk hK (ax_fc (ax_v_ld (ax_r_aload_n (i := 0) d_Z_acceptsStep_312 rfl)) (ax_fc (ax_w_gf (e := none) hal d_Z_acceptsStep_313 fd_Z_48) (ax_fc (ax_v_ld (ax_r_iload_n (i := 3) d_Z_acceptsStep_316 rfl)) (ax_fc (ax_v_ld (ax_r_iload_n (i := 1) d_Z_acceptsStep_317 rfl)) (ax_fc (ax_v_pu (ax_r_bipush (v := 65) d_Z_acceptsStep_318 (by decide))) (ax_fc (ax_v_pu (ax_r_isub d_Z_acceptsStep_320)) (ax_fc (ax_w_iast hal d_Z_acceptsStep_321) ax_fn))))))) (y := (322, [(0, .inr (0, 38)), (1, .inl (.int (a1))), (2, .inl (.int (a2))), (3, .inl (.int (((s.1 0 38 22) - (1 : Int32)))))], [], ax_m (ax_wI s21 0 50 (((s.1 0 38 22) - (1 : Int32))).toNatClampNeg (a1 - (65 : Int32))) ρ)) rfl ⟨trivial, (h0 38 rfl), trivial, trivial, trivial, trivial, ⟨(h0 50 rfl), ax_inp b22⟩, trivial⟩ ?_
            refine ax_lt (Q := fun ςς => ax_R G 4 0 0 (322, [(0, .inr (0, 38)), (1, .inl (.int (a1))), (2, .inl (.int (a2))), (3, .inl (.int (((s.1 0 38 22) - (1 : Int32)))))], [], ax_m (ςς) ρ)) h (fun s23 h => ?_)
            obtain ⟨b24, h⟩ := ax_gd h
            refine ax_bk hK (ax_fc (ax_v_ld (ax_r_aload_n (i := 0) d_Z_acceptsStep_322 rfl)) (ax_fc (ax_w_gf (e := none) hal d_Z_acceptsStep_323 fd_Z_51) (ax_fc (ax_v_ld (ax_r_iload_n (i := 3) d_Z_acceptsStep_326 rfl)) (ax_fc (ax_v_ld (ax_r_iload_n (i := 2) d_Z_acceptsStep_327 rfl)) (ax_fc (ax_w_iast hal d_Z_acceptsStep_328) ax_fn))))) (y := (329, [(0, .inr (0, 38)), (1, .inl (.int (a1))), (2, .inl (.int (a2))), (3, .inl (.int (((s.1 0 38 22) - (1 : Int32)))))], [], ax_m (ax_wI s23 0 51 (((s.1 0 38 22) - (1 : Int32))).toNatClampNeg a2) ρ)) rfl ⟨trivial, (h0 38 rfl), trivial, trivial, ⟨(h0 51 rfl), ax_inp b24⟩, trivial⟩ ?_
            refine ax_lt (Q := fun ςς => ax_R G 4 0 0 (329, [(0, .inr (0, 38)), (1, .inl (.int (a1))), (2, .inl (.int (a2))), (3, .inl (.int (((s.1 0 38 22) - (1 : Int32)))))], [], ax_m (ςς) ρ)) h (fun s25 h => ?_)
            refine ax_bk hK (ax_fc (ax_v_ld (ax_r_aload_n (i := 0) d_Z_acceptsStep_329 rfl)) (ax_fc (ax_v_pu (ax_r_bipush (v := 49) d_Z_acceptsStep_330 (by decide))) (ax_fc (ax_w_pf (tc := 0) hal d_Z_acceptsStep_332 fp_Z_168 rfl) ax_fn))) (y := (335, [(0, .inr (0, 38)), (1, .inl (.int (a1))), (2, .inl (.int (a2))), (3, .inl (.int (((s.1 0 38 22) - (1 : Int32)))))], [], ax_m (ax_wI s25 0 38 7 (49 : Int32)) ρ)) rfl ⟨trivial, trivial, (h0 38 rfl), trivial⟩ ?_
            refine ax_lt (Q := fun ςς => ax_R G 4 0 0 (335, [(0, .inr (0, 38)), (1, .inl (.int (a1))), (2, .inl (.int (a2))), (3, .inl (.int (((s.1 0 38 22) - (1 : Int32)))))], [], ax_m (ςς) ρ)) h (fun s26 h => ?_)
            refine ax_bk hK (ax_fc (ax_v_pu (ax_r_iconst (v := 1) d_Z_acceptsStep_335 (by decide))) ax_fn) (y := (336, [(0, .inr (0, 38)), (1, .inl (.int (a1))), (2, .inl (.int (a2))), (3, .inl (.int (((s.1 0 38 22) - (1 : Int32)))))], [.inl (.int ((1 : Int32)))], ax_m (s26) ρ)) rfl ⟨trivial, trivial⟩ ?_
            cases h
            exact ax_zret hA (by decide) d_Z_acceptsStep_336
          clear h
          have h := hw77
          refine ax_ic_ne (tgt := 309) hK d_Z_acceptsStep_301 (by decide) (fun c18 => ?_) (fun c18 => ?_)
          · replace h := ax_if c18 h
            refine ax_bk hK (ax_fc (ax_v_pu (ax_r_bipush (v := 10) d_Z_acceptsStep_309 (by decide))) ax_fn) (y := (311, [(0, .inr (0, 38)), (1, .inl (.int (a1))), (2, .inl (.int (a2))), (3, .inl (.int (((s.1 0 38 22) - (1 : Int32)))))], [.inl (.int ((10 : Int32))), .inl (.int (((s.1 0 38 22) - (1 : Int32)))), .inr (0, 47)], ax_m (s) ρ)) rfl ⟨trivial, trivial⟩ ?_
            cases h
            exact ax_Lsub [0, 1, 2, 3] rfl (KEw77 _ rfl)
          · replace h := ax_it c18 h
            refine ax_bk hK (ax_fc (ax_v_pu (ax_r_bipush (v := 9) d_Z_acceptsStep_304 (by decide))) (ax_fc (ax_v_go (tgt := 311) d_Z_acceptsStep_306 (by decide)) ax_fn)) (y := (311, [(0, .inr (0, 38)), (1, .inl (.int (a1))), (2, .inl (.int (a2))), (3, .inl (.int (((s.1 0 38 22) - (1 : Int32)))))], [.inl (.int ((9 : Int32))), .inl (.int (((s.1 0 38 22) - (1 : Int32)))), .inr (0, 47)], ax_m (s) ρ)) rfl ⟨trivial, trivial, trivial⟩ ?_
            cases h
            exact ax_Lsub [0, 1, 2, 3] rfl (KEw77 _ rfl)
      have KFw41 : w41 = false → ax_R G 4 0 0 (337, [(0, .inr (0, 38)), (1, .inl (.int (a1))), (3, .inl (.int (((s.1 0 38 22) - (1 : Int32)))))], [], ax_m (s) ρ) := by
        intro e9
        subst w41
        replace h := ax_cf h
        refine ax_bk hK (ax_fc (ax_v_ld (ax_r_aload_n (i := 0) d_Z_acceptsStep_337 rfl)) (ax_fc (ax_w_gf (e := none) hal d_Z_acceptsStep_338 fd_Z_168) (ax_fc (ax_v_pu (ax_r_bipush (v := 47) d_Z_acceptsStep_341 (by decide))) ax_fn))) (y := (343, [(0, .inr (0, 38)), (1, .inl (.int (a1))), (3, .inl (.int (((s.1 0 38 22) - (1 : Int32)))))], [.inl (.int ((47 : Int32))), .inl (.int ((s.1 0 38 7)))], ax_m (s) ρ)) rfl ⟨trivial, (h0 38 rfl), trivial, trivial⟩ ?_
        obtain ⟨w40, hw40, h⟩ := ax_bd h
        have KTw40 : w40 = true → ax_R G 4 0 0 (375, [(0, .inr (0, 38)), (1, .inl (.int (a1))), (3, .inl (.int (((s.1 0 38 22) - (1 : Int32)))))], [], ax_m (s) ρ) := by
          intro e9
          subst w40
          replace h := ax_ct h
          refine ax_bk hK (ax_fc (ax_v_ld (ax_r_aload_n (i := 0) d_Z_acceptsStep_375 rfl)) (ax_fc (ax_w_gf (e := none) hal d_Z_acceptsStep_376 fd_Z_168) (ax_fc (ax_v_pu (ax_r_bipush (v := 47) d_Z_acceptsStep_379 (by decide))) ax_fn))) (y := (381, [(0, .inr (0, 38)), (1, .inl (.int (a1))), (3, .inl (.int (((s.1 0 38 22) - (1 : Int32)))))], [.inl (.int ((47 : Int32))), .inl (.int ((s.1 0 38 7)))], ax_m (s) ρ)) rfl ⟨trivial, (h0 38 rfl), trivial, trivial⟩ ?_
          obtain ⟨w38, hw38, h⟩ := ax_bd h
          have KTw38 : w38 = true → ax_R G 4 0 0 (393, [(0, .inr (0, 38)), (1, .inl (.int (a1))), (3, .inl (.int (((s.1 0 38 22) - (1 : Int32)))))], [], ax_m (s) ρ) := by
            intro e9
            subst w38
            replace h := ax_ct h
            refine ax_bk hK (ax_fc (ax_v_ld (ax_r_iload_n (i := 1) d_Z_acceptsStep_393 rfl)) (ax_fc (ax_v_pu (ax_r_bipush (v := 59) d_Z_acceptsStep_394 (by decide))) ax_fn)) (y := (396, [(0, .inr (0, 38)), (1, .inl (.int (a1))), (3, .inl (.int (((s.1 0 38 22) - (1 : Int32)))))], [.inl (.int ((59 : Int32))), .inl (.int (a1))], ax_m (s) ρ)) rfl ⟨trivial, trivial, trivial⟩ ?_
            refine ax_ic_ne (tgt := 417) hK d_Z_acceptsStep_396 (by decide) (fun c37 => ?_) (fun c37 => ?_)
            · replace h := ax_if c37 h
              refine ax_bk hK (ax_fc (ax_v_pu (ax_r_iconst (v := 0) d_Z_acceptsStep_417 (by decide))) ax_fn) (y := (418, [(0, .inr (0, 38)), (1, .inl (.int (a1))), (3, .inl (.int (((s.1 0 38 22) - (1 : Int32)))))], [.inl (.int ((0 : Int32)))], ax_m (s) ρ)) rfl ⟨trivial, trivial⟩ ?_
              cases h
              exact ax_zret hA (by decide) d_Z_acceptsStep_418
            · replace h := ax_it c37 h
              obtain ⟨b34, h⟩ := ax_gd h
              refine ax_bk hK (ax_fc (ax_v_ld (ax_r_aload_n (i := 0) d_Z_acceptsStep_399 rfl)) (ax_fc (ax_w_gf (e := none) hal d_Z_acceptsStep_400 fd_Z_63) (ax_fc (ax_v_ld (ax_r_iload_n (i := 3) d_Z_acceptsStep_403 rfl)) (ax_fc (ax_v_ld (ax_r_aload_n (i := 0) d_Z_acceptsStep_404 rfl)) (ax_fc (ax_w_gf (e := none) hal d_Z_acceptsStep_405 fd_Z_192) (ax_fc (ax_w_iast hal d_Z_acceptsStep_408) ax_fn)))))) (y := (409, [(0, .inr (0, 38)), (1, .inl (.int (a1))), (3, .inl (.int (((s.1 0 38 22) - (1 : Int32)))))], [], ax_m (ax_wI s 0 55 (((s.1 0 38 22) - (1 : Int32))).toNatClampNeg (s.1 0 38 33)) ρ)) rfl ⟨trivial, (h0 38 rfl), trivial, trivial, (h0 38 rfl), ⟨(h0 55 rfl), ax_inp b34⟩, trivial⟩ ?_
              refine ax_lt (Q := fun ςς => ax_R G 4 0 0 (409, [(0, .inr (0, 38)), (1, .inl (.int (a1))), (3, .inl (.int (((s.1 0 38 22) - (1 : Int32)))))], [], ax_m (ςς) ρ)) h (fun s35 h => ?_)
              refine ax_bk hK (ax_fc (ax_v_ld (ax_r_aload_n (i := 0) d_Z_acceptsStep_409 rfl)) (ax_fc (ax_v_pu (ax_r_bipush (v := 10) d_Z_acceptsStep_410 (by decide))) (ax_fc (ax_w_pf (tc := 0) hal d_Z_acceptsStep_412 fp_Z_168 rfl) ax_fn))) (y := (415, [(0, .inr (0, 38)), (1, .inl (.int (a1))), (3, .inl (.int (((s.1 0 38 22) - (1 : Int32)))))], [], ax_m (ax_wI s35 0 38 7 (10 : Int32)) ρ)) rfl ⟨trivial, trivial, (h0 38 rfl), trivial⟩ ?_
              refine ax_lt (Q := fun ςς => ax_R G 4 0 0 (415, [(0, .inr (0, 38)), (1, .inl (.int (a1))), (3, .inl (.int (((s.1 0 38 22) - (1 : Int32)))))], [], ax_m (ςς) ρ)) h (fun s36 h => ?_)
              refine ax_bk hK (ax_fc (ax_v_pu (ax_r_iconst (v := 1) d_Z_acceptsStep_415 (by decide))) ax_fn) (y := (416, [(0, .inr (0, 38)), (1, .inl (.int (a1))), (3, .inl (.int (((s.1 0 38 22) - (1 : Int32)))))], [.inl (.int ((1 : Int32)))], ax_m (s36) ρ)) rfl ⟨trivial, trivial⟩ ?_
              cases h
              exact ax_zret hA (by decide) d_Z_acceptsStep_416
          have KFw38 : w38 = false → ax_R G 4 0 0 (417, [], [], ax_m (s) ρ) := by
            intro e9
            subst w38
            replace h := ax_cf h
            refine ax_bk hK (ax_fc (ax_v_pu (ax_r_iconst (v := 0) d_Z_acceptsStep_417 (by decide))) ax_fn) (y := (418, [], [.inl (.int ((0 : Int32)))], ax_m (s) ρ)) rfl ⟨trivial, trivial⟩ ?_
            cases h
            exact ax_zret hA (by decide) d_Z_acceptsStep_418
          clear h
          have h := hw38
          refine ax_ic_eq (tgt := 393) hK d_Z_acceptsStep_381 (by decide) (fun c33 => ?_) (fun c33 => ?_)
          · replace h := ax_it c33 h
            cases h
            exact ax_Lsub [0, 1, 2] rfl (KTw38 rfl)
          · replace h := ax_if c33 h
            refine ax_bk hK (ax_fc (ax_v_ld (ax_r_aload_n (i := 0) d_Z_acceptsStep_384 rfl)) (ax_fc (ax_w_gf (e := none) hal d_Z_acceptsStep_385 fd_Z_168) (ax_fc (ax_v_pu (ax_r_bipush (v := 49) d_Z_acceptsStep_388 (by decide))) ax_fn))) (y := (390, [(0, .inr (0, 38)), (1, .inl (.int (a1))), (3, .inl (.int (((s.1 0 38 22) - (1 : Int32)))))], [.inl (.int ((49 : Int32))), .inl (.int ((s.1 0 38 7)))], ax_m (s) ρ)) rfl ⟨trivial, (h0 38 rfl), trivial, trivial⟩ ?_
            refine ax_ic_ne (tgt := 417) hK d_Z_acceptsStep_390 (by decide) (fun c32 => ?_) (fun c32 => ?_)
            · replace h := ax_if c32 h
              cases h
              exact ax_Lsub [] rfl (KFw38 rfl)
            · replace h := ax_it c32 h
              cases h
              exact ax_Lsub [0, 1, 2] rfl (KTw38 rfl)
        have KFw40 : w40 = false → ax_R G 4 0 0 (367, [(0, .inr (0, 38))], [], ax_m (s) ρ) := by
          intro e9
          subst w40
          replace h := ax_cf h
          refine ax_bk hK (ax_fc (ax_v_ld (ax_r_aload_n (i := 0) d_Z_acceptsStep_367 rfl)) (ax_fc (ax_v_pu (ax_r_bipush (v := 46) d_Z_acceptsStep_368 (by decide))) (ax_fc (ax_w_pf (tc := 0) hal d_Z_acceptsStep_370 fp_Z_168 rfl) ax_fn))) (y := (373, [(0, .inr (0, 38))], [], ax_m (ax_wI s 0 38 7 (46 : Int32)) ρ)) rfl ⟨trivial, trivial, (h0 38 rfl), trivial⟩ ?_
          refine ax_lt (Q := fun ςς => ax_R G 4 0 0 (373, [(0, .inr (0, 38))], [], ax_m (ςς) ρ)) h (fun s39 h => ?_)
          refine ax_bk hK (ax_fc (ax_v_pu (ax_r_iconst (v := 1) d_Z_acceptsStep_373 (by decide))) ax_fn) (y := (374, [(0, .inr (0, 38))], [.inl (.int ((1 : Int32)))], ax_m (s39) ρ)) rfl ⟨trivial, trivial⟩ ?_
          cases h
          exact ax_zret hA (by decide) d_Z_acceptsStep_374
        clear h
        have h := hw40
        refine ax_ic_ne (tgt := 375) hK d_Z_acceptsStep_343 (by decide) (fun c31 => ?_) (fun c31 => ?_)
        · replace h := ax_if c31 h
          cases h
          exact ax_Lsub [0, 1, 2] rfl (KTw40 rfl)
        · replace h := ax_it c31 h
          refine ax_bk hK (ax_fc (ax_v_ld (ax_r_iload_n (i := 1) d_Z_acceptsStep_346 rfl)) (ax_fc (ax_v_pu (ax_r_bipush (v := 44) d_Z_acceptsStep_347 (by decide))) ax_fn)) (y := (349, [(0, .inr (0, 38)), (1, .inl (.int (a1))), (3, .inl (.int (((s.1 0 38 22) - (1 : Int32)))))], [.inl (.int ((44 : Int32))), .inl (.int (a1))], ax_m (s) ρ)) rfl ⟨trivial, trivial, trivial⟩ ?_
          refine ax_ic_ne (tgt := 375) hK d_Z_acceptsStep_349 (by decide) (fun c30 => ?_) (fun c30 => ?_)
          · replace h := ax_if c30 h
            cases h
            exact ax_Lsub [0, 1, 2] rfl (KTw40 rfl)
          · replace h := ax_it c30 h
            obtain ⟨b28, h⟩ := ax_gd h
            refine ax_bk hK (ax_fc (ax_v_ld (ax_r_aload_n (i := 0) d_Z_acceptsStep_352 rfl)) (ax_fc (ax_w_gf (e := none) hal d_Z_acceptsStep_353 fd_Z_192) (ax_fc (ax_v_ld (ax_r_aload_n (i := 0) d_Z_acceptsStep_356 rfl)) (ax_fc (ax_w_gf (e := none) hal d_Z_acceptsStep_357 fd_Z_60) (ax_fc (ax_v_ld (ax_r_iload_n (i := 3) d_Z_acceptsStep_360 rfl)) (ax_fc (ax_w_iald hal d_Z_acceptsStep_361) (ax_fc (ax_v_pu (ax_r_isub d_Z_acceptsStep_362)) (ax_fc (ax_v_pu (ax_r_iconst (v := 5) d_Z_acceptsStep_363 (by decide))) ax_fn)))))))) (y := (364, [(0, .inr (0, 38)), (1, .inl (.int (a1))), (3, .inl (.int (((s.1 0 38 22) - (1 : Int32)))))], [.inl (.int ((5 : Int32))), .inl (.int (((s.1 0 38 33) - (s.1 0 54 (((s.1 0 38 22) - (1 : Int32))).toNatClampNeg))))], ax_m (s) ρ)) rfl ⟨trivial, (h0 38 rfl), trivial, (h0 38 rfl), trivial, ⟨(h0 54 rfl), ax_inp b28⟩, trivial, trivial, trivial⟩ ?_
            refine ax_ic_ge (tgt := 375) hK d_Z_acceptsStep_364 (by decide) (fun c29 => ?_) (fun c29 => ?_)
            · replace h := ax_it c29 h
              cases h
              exact ax_Lsub [0, 1, 2] rfl (KTw40 rfl)
            · replace h := ax_if c29 h
              cases h
              exact ax_Lsub [0] rfl (KFw40 rfl)
      clear h
      have h := hw41
      refine ax_ic_eq (tgt := 283) hK d_Z_acceptsStep_271 (by decide) (fun c2 => ?_) (fun c2 => ?_)
      · replace h := ax_it c2 h
        cases h
        exact ax_Lsub [1, 2, 3, 0] rfl (KTw41 rfl)
      · replace h := ax_if c2 h
        refine ax_bk hK (ax_fc (ax_v_ld (ax_r_aload_n (i := 0) d_Z_acceptsStep_274 rfl)) (ax_fc (ax_w_gf (e := none) hal d_Z_acceptsStep_275 fd_Z_168) (ax_fc (ax_v_pu (ax_r_bipush (v := 44) d_Z_acceptsStep_278 (by decide))) ax_fn))) (y := (280, [(3, .inl (.int (((s.1 0 38 22) - (1 : Int32))))), (0, .inr (0, 38)), (1, .inl (.int (a1))), (2, .inl (.int (a2)))], [.inl (.int ((44 : Int32))), .inl (.int ((s.1 0 38 7)))], ax_m (s) ρ)) rfl ⟨trivial, (h0 38 rfl), trivial, trivial⟩ ?_
        refine ax_ic_ne (tgt := 337) hK d_Z_acceptsStep_280 (by decide) (fun c1 => ?_) (fun c1 => ?_)
        · replace h := ax_if c1 h
          cases h
          exact ax_Lsub [1, 2, 0] rfl (KFw41 rfl)
        · replace h := ax_it c1 h
          cases h
          exact ax_Lsub [1, 2, 3, 0] rfl (KTw41 rfl)
    · replace h := ax_it c47 h
      obtain ⟨b42, h⟩ := ax_gd h
      refine ax_bk hK (ax_fc (ax_v_ld (ax_r_aload_n (i := 0) d_Z_acceptsStep_231 rfl)) (ax_fc (ax_v_ld (ax_r_aload_n (i := 0) d_Z_acceptsStep_232 rfl)) (ax_fc (ax_w_gf (e := none) hal d_Z_acceptsStep_233 fd_Z_39) (ax_fc (ax_v_ld (ax_r_iload_n (i := 3) d_Z_acceptsStep_236 rfl)) (ax_fc (ax_w_iald hal d_Z_acceptsStep_237) (ax_fc (ax_v_pu (ax_r_bipush (v := 7) d_Z_acceptsStep_238 (by decide))) ax_fn)))))) (y := (240, [(3, .inl (.int (((s.1 0 38 22) - (1 : Int32))))), (0, .inr (0, 38)), (1, .inl (.int (a1))), (2, .inl (.int (a2)))], [.inl (.int ((7 : Int32))), .inl (.int ((s.1 0 47 (((s.1 0 38 22) - (1 : Int32))).toNatClampNeg))), .inr (0, 38)], ax_m (s) ρ)) rfl ⟨trivial, trivial, (h0 38 rfl), trivial, ⟨(h0 47 rfl), ax_inp b42⟩, trivial, trivial⟩ ?_
      obtain ⟨w78, hw78, h⟩ := ax_bd h
      have KEw78 : ∀ (v44 : Int32), w78 = v44 → ax_R G 4 0 0 (250, [(1, .inl (.int (a1)))], [.inl (.int (v44)), .inr (0, 38)], ax_m (s) ρ) := by
        intro v44 e9
        subst w78
        try dsimp only at h
        refine ax_bk hK (ax_fc (ax_w_pf (tc := 0) hal d_Z_acceptsStep_250 fp_Z_168 rfl) ax_fn) (y := (253, [(1, .inl (.int (a1)))], [], ax_m (ax_wI s 0 38 7 v44) ρ)) rfl ⟨(h0 38 rfl), trivial⟩ ?_
        refine ax_lt (Q := fun ςς => ax_R G 4 0 0 (253, [(1, .inl (.int (a1)))], [], ax_m (ςς) ρ)) h (fun s45 h => ?_)
        refine ax_bk hK (ax_fc (ax_v_ld (ax_r_iload_n (i := 1) d_Z_acceptsStep_253 rfl)) (ax_fc (ax_v_pu (ax_r_bipush (v := 61) d_Z_acceptsStep_254 (by decide))) ax_fn)) (y := (256, [(1, .inl (.int (a1)))], [.inl (.int ((61 : Int32))), .inl (.int (a1))], ax_m (s45) ρ)) rfl ⟨trivial, trivial, trivial⟩ ?_
        refine ax_ic_ne (tgt := 263) hK d_Z_acceptsStep_256 (by decide) (fun c46 => ?_) (fun c46 => ?_)
        · replace h := ax_if c46 h
          refine ax_bk hK (ax_fc (ax_v_pu (ax_r_iconst (v := 0) d_Z_acceptsStep_263 (by decide))) ax_fn) (y := (264, [(1, .inl (.int (a1)))], [.inl (.int ((0 : Int32)))], ax_m (s45) ρ)) rfl ⟨trivial, trivial⟩ ?_
          cases h
          exact ax_zret hA (by decide) d_Z_acceptsStep_264
        · replace h := ax_it c46 h
          refine ax_bk hK (ax_fc (ax_v_pu (ax_r_iconst (v := 1) d_Z_acceptsStep_259 (by decide))) (ax_fc (ax_v_go (tgt := 264) d_Z_acceptsStep_260 (by decide)) ax_fn)) (y := (264, [(1, .inl (.int (a1)))], [.inl (.int ((1 : Int32)))], ax_m (s45) ρ)) rfl ⟨trivial, trivial, trivial⟩ ?_
          cases h
          exact ax_zret hA (by decide) d_Z_acceptsStep_264
      clear h
      have h := hw78
      refine ax_ic_ne (tgt := 248) hK d_Z_acceptsStep_240 (by decide) (fun c43 => ?_) (fun c43 => ?_)
      · replace h := ax_if c43 h
        refine ax_bk hK (ax_fc (ax_v_pu (ax_r_bipush (v := 20) d_Z_acceptsStep_248 (by decide))) ax_fn) (y := (250, [(3, .inl (.int (((s.1 0 38 22) - (1 : Int32))))), (0, .inr (0, 38)), (1, .inl (.int (a1))), (2, .inl (.int (a2)))], [.inl (.int ((20 : Int32))), .inr (0, 38)], ax_m (s) ρ)) rfl ⟨trivial, trivial⟩ ?_
        cases h
        exact ax_Lsub [2] rfl (KEw78 _ rfl)
      · replace h := ax_it c43 h
        refine ax_bk hK (ax_fc (ax_v_pu (ax_r_bipush (v := 42) d_Z_acceptsStep_243 (by decide))) (ax_fc (ax_v_go (tgt := 250) d_Z_acceptsStep_245 (by decide)) ax_fn)) (y := (250, [(3, .inl (.int (((s.1 0 38 22) - (1 : Int32))))), (0, .inr (0, 38)), (1, .inl (.int (a1))), (2, .inl (.int (a2)))], [.inl (.int ((42 : Int32))), .inr (0, 38)], ax_m (s) ρ)) rfl ⟨trivial, trivial, trivial⟩ ?_
        cases h
        exact ax_Lsub [2] rfl (KEw78 _ rfl)
  · replace h := ax_it c76 h
    refine ax_bk hK (ax_fc (ax_v_ld (ax_r_aload_n (i := 0) d_Z_acceptsStep_16 rfl)) (ax_fc (ax_w_gf (e := none) hal d_Z_acceptsStep_17 fd_Z_39) (ax_fc (ax_v_ld (ax_r_iload_n (i := 3) d_Z_acceptsStep_20 rfl)) (ax_fc (ax_v_ld (ax_r_iload_n (i := 1) d_Z_acceptsStep_21 rfl)) (ax_fc (ax_v_pu (ax_r_bipush (v := 94) d_Z_acceptsStep_22 (by decide))) ax_fn))))) (y := (24, [(3, .inl (.int (((s.1 0 38 22) - (1 : Int32))))), (0, .inr (0, 38)), (1, .inl (.int (a1))), (2, .inl (.int (a2)))], [.inl (.int ((94 : Int32))), .inl (.int (a1)), .inl (.int (((s.1 0 38 22) - (1 : Int32)))), .inr (0, 47)], ax_m (s) ρ)) rfl ⟨trivial, (h0 38 rfl), trivial, trivial, trivial, trivial⟩ ?_
    obtain ⟨w79, hw79, h⟩ := ax_bd h
    have KEw79 : ∀ (v56 : Int32), w79 = v56 → ax_R G 4 0 0 (108, [(0, .inr (0, 38)), (3, .inl (.int (((s.1 0 38 22) - (1 : Int32)))))], [.inl (.int (v56)), .inl (.int (((s.1 0 38 22) - (1 : Int32)))), .inr (0, 47)], ax_m (s) ρ) := by
      intro v56 e9
      subst w79
      try dsimp only at h
      obtain ⟨b57, h⟩ := ax_gd h
      refine ax_bk hK (ax_fc (ax_w_iast hal d_Z_acceptsStep_108) ax_fn) (y := (109, [(0, .inr (0, 38)), (3, .inl (.int (((s.1 0 38 22) - (1 : Int32)))))], [], ax_m (ax_wI s 0 47 (((s.1 0 38 22) - (1 : Int32))).toNatClampNeg v56) ρ)) rfl ⟨⟨(h0 47 rfl), ax_inp b57⟩, trivial⟩ ?_
      refine ax_lt (Q := fun ςς => ax_R G 4 0 0 (109, [(0, .inr (0, 38)), (3, .inl (.int (((s.1 0 38 22) - (1 : Int32)))))], [], ax_m (ςς) ρ)) h (fun s58 h => ?_)
      obtain ⟨b59, h⟩ := ax_gd h
      refine ax_bk hK (ax_fc (ax_v_ld (ax_r_aload_n (i := 0) d_Z_acceptsStep_109 rfl)) (ax_fc (ax_w_gf (e := none) hal d_Z_acceptsStep_110 fd_Z_60) (ax_fc (ax_v_ld (ax_r_iload_n (i := 3) d_Z_acceptsStep_113 rfl)) (ax_fc (ax_v_ld (ax_r_aload_n (i := 0) d_Z_acceptsStep_114 rfl)) (ax_fc (ax_w_gf (e := none) hal d_Z_acceptsStep_115 fd_Z_39) (ax_fc (ax_v_ld (ax_r_iload_n (i := 3) d_Z_acceptsStep_118 rfl)) (ax_fc (ax_w_iald hal d_Z_acceptsStep_119) (ax_fc (ax_v_pu (ax_r_bipush (v := 12) d_Z_acceptsStep_120 (by decide))) ax_fn)))))))) (y := (122, [(0, .inr (0, 38)), (3, .inl (.int (((s.1 0 38 22) - (1 : Int32)))))], [.inl (.int ((12 : Int32))), .inl (.int ((s58.1 0 47 (((s.1 0 38 22) - (1 : Int32))).toNatClampNeg))), .inl (.int (((s.1 0 38 22) - (1 : Int32)))), .inr (0, 54)], ax_m (s58) ρ)) rfl ⟨trivial, (h0 38 rfl), trivial, trivial, (h0 38 rfl), trivial, ⟨(h0 47 rfl), ax_inp b59⟩, trivial, trivial⟩ ?_
      obtain ⟨w80, hw80, h⟩ := ax_bd h
      have KEw80 : ∀ (v61 : Int32), w80 = v61 → ax_R G 4 0 0 (136, [(0, .inr (0, 38)), (3, .inl (.int (((s.1 0 38 22) - (1 : Int32)))))], [.inl (.int (v61)), .inl (.int (((s.1 0 38 22) - (1 : Int32)))), .inr (0, 54)], ax_m (s58) ρ) := by
        intro v61 e9
        subst w80
        try dsimp only at h
        obtain ⟨b62, h⟩ := ax_gd h
        refine ax_bk hK (ax_fc (ax_w_iast hal d_Z_acceptsStep_136) ax_fn) (y := (137, [(0, .inr (0, 38)), (3, .inl (.int (((s.1 0 38 22) - (1 : Int32)))))], [], ax_m (ax_wI s58 0 54 (((s.1 0 38 22) - (1 : Int32))).toNatClampNeg v61) ρ)) rfl ⟨⟨(h0 54 rfl), ax_inp b62⟩, trivial⟩ ?_
        refine ax_lt (Q := fun ςς => ax_R G 4 0 0 (137, [(0, .inr (0, 38)), (3, .inl (.int (((s.1 0 38 22) - (1 : Int32)))))], [], ax_m (ςς) ρ)) h (fun s63 h => ?_)
        obtain ⟨b64, h⟩ := ax_gd h
        refine ax_bk hK (ax_fc (ax_v_ld (ax_r_aload_n (i := 0) d_Z_acceptsStep_137 rfl)) (ax_fc (ax_v_ld (ax_r_aload_n (i := 0) d_Z_acceptsStep_138 rfl)) (ax_fc (ax_w_gf (e := none) hal d_Z_acceptsStep_139 fd_Z_39) (ax_fc (ax_v_ld (ax_r_iload_n (i := 3) d_Z_acceptsStep_142 rfl)) (ax_fc (ax_w_iald hal d_Z_acceptsStep_143) (ax_fc (ax_v_pu (ax_r_bipush (v := 7) d_Z_acceptsStep_144 (by decide))) ax_fn)))))) (y := (146, [(0, .inr (0, 38)), (3, .inl (.int (((s.1 0 38 22) - (1 : Int32)))))], [.inl (.int ((7 : Int32))), .inl (.int ((s63.1 0 47 (((s.1 0 38 22) - (1 : Int32))).toNatClampNeg))), .inr (0, 38)], ax_m (s63) ρ)) rfl ⟨trivial, trivial, (h0 38 rfl), trivial, ⟨(h0 47 rfl), ax_inp b64⟩, trivial, trivial⟩ ?_
        obtain ⟨w81, hw81, h⟩ := ax_bd h
        have KEw81 : ∀ (v72 : Int32), w81 = v72 → ax_R G 4 0 0 (204, [(0, .inr (0, 38)), (3, .inl (.int (((s.1 0 38 22) - (1 : Int32)))))], [.inl (.int (v72)), .inr (0, 38)], ax_m (s63) ρ) := by
          intro v72 e9
          subst w81
          try dsimp only at h
          refine ax_bk hK (ax_fc (ax_w_pf (tc := 0) hal d_Z_acceptsStep_204 fp_Z_168 rfl) ax_fn) (y := (207, [(0, .inr (0, 38)), (3, .inl (.int (((s.1 0 38 22) - (1 : Int32)))))], [], ax_m (ax_wI s63 0 38 7 v72) ρ)) rfl ⟨(h0 38 rfl), trivial⟩ ?_
          refine ax_lt (Q := fun ςς => ax_R G 4 0 0 (207, [(0, .inr (0, 38)), (3, .inl (.int (((s.1 0 38 22) - (1 : Int32)))))], [], ax_m (ςς) ρ)) h (fun s73 h => ?_)
          obtain ⟨b74, h⟩ := ax_gd h
          refine ax_bk hK (ax_fc (ax_v_ld (ax_r_aload_n (i := 0) d_Z_acceptsStep_207 rfl)) (ax_fc (ax_w_gf (e := none) hal d_Z_acceptsStep_208 fd_Z_39) (ax_fc (ax_v_ld (ax_r_iload_n (i := 3) d_Z_acceptsStep_211 rfl)) (ax_fc (ax_w_iald hal d_Z_acceptsStep_212) ax_fn)))) (y := (213, [(0, .inr (0, 38)), (3, .inl (.int (((s.1 0 38 22) - (1 : Int32)))))], [.inl (.int ((s73.1 0 47 (((s.1 0 38 22) - (1 : Int32))).toNatClampNeg)))], ax_m (s73) ρ)) rfl ⟨trivial, (h0 38 rfl), trivial, ⟨(h0 47 rfl), ax_inp b74⟩, trivial⟩ ?_
          refine ax_if_eq (tgt := 220) hK d_Z_acceptsStep_213 (by decide) (fun c75 => ?_) (fun c75 => ?_)
          · replace h := ax_it c75 h
            refine ax_bk hK (ax_fc (ax_v_pu (ax_r_iconst (v := 0) d_Z_acceptsStep_220 (by decide))) ax_fn) (y := (221, [(0, .inr (0, 38)), (3, .inl (.int (((s.1 0 38 22) - (1 : Int32)))))], [.inl (.int ((0 : Int32)))], ax_m (s73) ρ)) rfl ⟨trivial, trivial⟩ ?_
            cases h
            exact ax_zret hA (by decide) d_Z_acceptsStep_221
          · replace h := ax_if c75 h
            refine ax_bk hK (ax_fc (ax_v_pu (ax_r_iconst (v := 1) d_Z_acceptsStep_216 (by decide))) (ax_fc (ax_v_go (tgt := 221) d_Z_acceptsStep_217 (by decide)) ax_fn)) (y := (221, [(0, .inr (0, 38)), (3, .inl (.int (((s.1 0 38 22) - (1 : Int32)))))], [.inl (.int ((1 : Int32)))], ax_m (s73) ρ)) rfl ⟨trivial, trivial, trivial⟩ ?_
            cases h
            exact ax_zret hA (by decide) d_Z_acceptsStep_221
        clear h
        have h := hw81
        refine ax_ic_gt (tgt := 154) hK d_Z_acceptsStep_146 (by decide) (fun c71 => ?_) (fun c71 => ?_)
        · replace h := ax_it c71 h
          obtain ⟨b65, h⟩ := ax_gd h
          refine ax_bk hK (ax_fc (ax_v_ld (ax_r_aload_n (i := 0) d_Z_acceptsStep_154 rfl)) (ax_fc (ax_w_gf (e := none) hal d_Z_acceptsStep_155 fd_Z_39) (ax_fc (ax_v_ld (ax_r_iload_n (i := 3) d_Z_acceptsStep_158 rfl)) (ax_fc (ax_w_iald hal d_Z_acceptsStep_159) (ax_fc (ax_v_pu (ax_r_bipush (v := 8) d_Z_acceptsStep_160 (by decide))) ax_fn))))) (y := (162, [(0, .inr (0, 38)), (3, .inl (.int (((s.1 0 38 22) - (1 : Int32)))))], [.inl (.int ((8 : Int32))), .inl (.int ((s63.1 0 47 (((s.1 0 38 22) - (1 : Int32))).toNatClampNeg))), .inr (0, 38)], ax_m (s63) ρ)) rfl ⟨trivial, (h0 38 rfl), trivial, ⟨(h0 47 rfl), ax_inp b65⟩, trivial, trivial⟩ ?_
          refine ax_ic_ne (tgt := 170) hK d_Z_acceptsStep_162 (by decide) (fun c70 => ?_) (fun c70 => ?_)
          · replace h := ax_if c70 h
            obtain ⟨b66, h⟩ := ax_gd h
            refine ax_bk hK (ax_fc (ax_v_ld (ax_r_aload_n (i := 0) d_Z_acceptsStep_170 rfl)) (ax_fc (ax_w_gf (e := none) hal d_Z_acceptsStep_171 fd_Z_39) (ax_fc (ax_v_ld (ax_r_iload_n (i := 3) d_Z_acceptsStep_174 rfl)) (ax_fc (ax_w_iald hal d_Z_acceptsStep_175) (ax_fc (ax_v_pu (ax_r_bipush (v := 10) d_Z_acceptsStep_176 (by decide))) ax_fn))))) (y := (178, [(0, .inr (0, 38)), (3, .inl (.int (((s.1 0 38 22) - (1 : Int32)))))], [.inl (.int ((10 : Int32))), .inl (.int ((s63.1 0 47 (((s.1 0 38 22) - (1 : Int32))).toNatClampNeg))), .inr (0, 38)], ax_m (s63) ρ)) rfl ⟨trivial, (h0 38 rfl), trivial, ⟨(h0 47 rfl), ax_inp b66⟩, trivial, trivial⟩ ?_
            refine ax_ic_ne (tgt := 186) hK d_Z_acceptsStep_178 (by decide) (fun c69 => ?_) (fun c69 => ?_)
            · replace h := ax_if c69 h
              obtain ⟨b67, h⟩ := ax_gd h
              refine ax_bk hK (ax_fc (ax_v_ld (ax_r_aload_n (i := 0) d_Z_acceptsStep_186 rfl)) (ax_fc (ax_w_gf (e := none) hal d_Z_acceptsStep_187 fd_Z_39) (ax_fc (ax_v_ld (ax_r_iload_n (i := 3) d_Z_acceptsStep_190 rfl)) (ax_fc (ax_w_iald hal d_Z_acceptsStep_191) (ax_fc (ax_v_pu (ax_r_bipush (v := 11) d_Z_acceptsStep_192 (by decide))) ax_fn))))) (y := (194, [(0, .inr (0, 38)), (3, .inl (.int (((s.1 0 38 22) - (1 : Int32)))))], [.inl (.int ((11 : Int32))), .inl (.int ((s63.1 0 47 (((s.1 0 38 22) - (1 : Int32))).toNatClampNeg))), .inr (0, 38)], ax_m (s63) ρ)) rfl ⟨trivial, (h0 38 rfl), trivial, ⟨(h0 47 rfl), ax_inp b67⟩, trivial, trivial⟩ ?_
              refine ax_ic_ne (tgt := 202) hK d_Z_acceptsStep_194 (by decide) (fun c68 => ?_) (fun c68 => ?_)
              · replace h := ax_if c68 h
                refine ax_bk hK (ax_fc (ax_v_pu (ax_r_bipush (v := 46) d_Z_acceptsStep_202 (by decide))) ax_fn) (y := (204, [(0, .inr (0, 38)), (3, .inl (.int (((s.1 0 38 22) - (1 : Int32)))))], [.inl (.int ((46 : Int32))), .inr (0, 38)], ax_m (s63) ρ)) rfl ⟨trivial, trivial⟩ ?_
                cases h
                exact ax_Lsub [0, 1] rfl (KEw81 _ rfl)
              · replace h := ax_it c68 h
                refine ax_bk hK (ax_fc (ax_v_pu (ax_r_bipush (v := 45) d_Z_acceptsStep_197 (by decide))) (ax_fc (ax_v_go (tgt := 204) d_Z_acceptsStep_199 (by decide)) ax_fn)) (y := (204, [(0, .inr (0, 38)), (3, .inl (.int (((s.1 0 38 22) - (1 : Int32)))))], [.inl (.int ((45 : Int32))), .inr (0, 38)], ax_m (s63) ρ)) rfl ⟨trivial, trivial, trivial⟩ ?_
                cases h
                exact ax_Lsub [0, 1] rfl (KEw81 _ rfl)
            · replace h := ax_it c69 h
              refine ax_bk hK (ax_fc (ax_v_pu (ax_r_bipush (v := 44) d_Z_acceptsStep_181 (by decide))) (ax_fc (ax_v_go (tgt := 204) d_Z_acceptsStep_183 (by decide)) ax_fn)) (y := (204, [(0, .inr (0, 38)), (3, .inl (.int (((s.1 0 38 22) - (1 : Int32)))))], [.inl (.int ((44 : Int32))), .inr (0, 38)], ax_m (s63) ρ)) rfl ⟨trivial, trivial, trivial⟩ ?_
              cases h
              exact ax_Lsub [0, 1] rfl (KEw81 _ rfl)
          · replace h := ax_it c70 h
            refine ax_bk hK (ax_fc (ax_v_pu (ax_r_bipush (v := 43) d_Z_acceptsStep_165 (by decide))) (ax_fc (ax_v_go (tgt := 204) d_Z_acceptsStep_167 (by decide)) ax_fn)) (y := (204, [(0, .inr (0, 38)), (3, .inl (.int (((s.1 0 38 22) - (1 : Int32)))))], [.inl (.int ((43 : Int32))), .inr (0, 38)], ax_m (s63) ρ)) rfl ⟨trivial, trivial, trivial⟩ ?_
            cases h
            exact ax_Lsub [0, 1] rfl (KEw81 _ rfl)
        · replace h := ax_if c71 h
          refine ax_bk hK (ax_fc (ax_v_pu (ax_r_bipush (v := 41) d_Z_acceptsStep_149 (by decide))) (ax_fc (ax_v_go (tgt := 204) d_Z_acceptsStep_151 (by decide)) ax_fn)) (y := (204, [(0, .inr (0, 38)), (3, .inl (.int (((s.1 0 38 22) - (1 : Int32)))))], [.inl (.int ((41 : Int32))), .inr (0, 38)], ax_m (s63) ρ)) rfl ⟨trivial, trivial, trivial⟩ ?_
          cases h
          exact ax_Lsub [0, 1] rfl (KEw81 _ rfl)
      clear h
      have h := hw80
      refine ax_ic_ne (tgt := 132) hK d_Z_acceptsStep_122 (by decide) (fun c60 => ?_) (fun c60 => ?_)
      · replace h := ax_if c60 h
        refine ax_bk hK (ax_fc (ax_v_ld (ax_r_aload_n (i := 0) d_Z_acceptsStep_132 rfl)) (ax_fc (ax_w_gf (e := none) hal d_Z_acceptsStep_133 fd_Z_195) ax_fn)) (y := (136, [(0, .inr (0, 38)), (3, .inl (.int (((s.1 0 38 22) - (1 : Int32)))))], [.inl (.int ((s58.1 0 38 36))), .inl (.int (((s.1 0 38 22) - (1 : Int32)))), .inr (0, 54)], ax_m (s58) ρ)) rfl ⟨trivial, (h0 38 rfl), trivial⟩ ?_
        cases h
        exact ax_Lsub [0, 1] rfl (KEw80 _ rfl)
      · replace h := ax_it c60 h
        refine ax_bk hK (ax_fc (ax_v_ld (ax_r_aload_n (i := 0) d_Z_acceptsStep_125 rfl)) (ax_fc (ax_w_gf (e := none) hal d_Z_acceptsStep_126 fd_Z_192) (ax_fc (ax_v_go (tgt := 136) d_Z_acceptsStep_129 (by decide)) ax_fn))) (y := (136, [(0, .inr (0, 38)), (3, .inl (.int (((s.1 0 38 22) - (1 : Int32)))))], [.inl (.int ((s58.1 0 38 33))), .inl (.int (((s.1 0 38 22) - (1 : Int32)))), .inr (0, 54)], ax_m (s58) ρ)) rfl ⟨trivial, (h0 38 rfl), trivial, trivial⟩ ?_
        cases h
        exact ax_Lsub [0, 1] rfl (KEw80 _ rfl)
    clear h
    have h := hw79
    refine ax_ic_ne (tgt := 31) hK d_Z_acceptsStep_24 (by decide) (fun c55 => ?_) (fun c55 => ?_)
    · replace h := ax_if c55 h
      refine ax_bk hK (ax_fc (ax_v_ld (ax_r_iload_n (i := 1) d_Z_acceptsStep_31 rfl)) (ax_fc (ax_v_pu (ax_r_bipush (v := 43) d_Z_acceptsStep_32 (by decide))) ax_fn)) (y := (34, [(3, .inl (.int (((s.1 0 38 22) - (1 : Int32))))), (0, .inr (0, 38)), (1, .inl (.int (a1))), (2, .inl (.int (a2)))], [.inl (.int ((43 : Int32))), .inl (.int (a1)), .inl (.int (((s.1 0 38 22) - (1 : Int32)))), .inr (0, 47)], ax_m (s) ρ)) rfl ⟨trivial, trivial, trivial⟩ ?_
      refine ax_ic_ne (tgt := 41) hK d_Z_acceptsStep_34 (by decide) (fun c54 => ?_) (fun c54 => ?_)
      · replace h := ax_if c54 h
        refine ax_bk hK (ax_fc (ax_v_ld (ax_r_iload_n (i := 1) d_Z_acceptsStep_41 rfl)) (ax_fc (ax_v_pu (ax_r_bipush (v := 45) d_Z_acceptsStep_42 (by decide))) ax_fn)) (y := (44, [(3, .inl (.int (((s.1 0 38 22) - (1 : Int32))))), (0, .inr (0, 38)), (1, .inl (.int (a1))), (2, .inl (.int (a2)))], [.inl (.int ((45 : Int32))), .inl (.int (a1)), .inl (.int (((s.1 0 38 22) - (1 : Int32)))), .inr (0, 47)], ax_m (s) ρ)) rfl ⟨trivial, trivial, trivial⟩ ?_
        refine ax_ic_ne (tgt := 52) hK d_Z_acceptsStep_44 (by decide) (fun c53 => ?_) (fun c53 => ?_)
        · replace h := ax_if c53 h
          refine ax_bk hK (ax_fc (ax_v_ld (ax_r_iload_n (i := 1) d_Z_acceptsStep_52 rfl)) (ax_fc (ax_v_pu (ax_r_bipush (v := 42) d_Z_acceptsStep_53 (by decide))) ax_fn)) (y := (55, [(3, .inl (.int (((s.1 0 38 22) - (1 : Int32))))), (0, .inr (0, 38)), (1, .inl (.int (a1))), (2, .inl (.int (a2)))], [.inl (.int ((42 : Int32))), .inl (.int (a1)), .inl (.int (((s.1 0 38 22) - (1 : Int32)))), .inr (0, 47)], ax_m (s) ρ)) rfl ⟨trivial, trivial, trivial⟩ ?_
          refine ax_ic_ne (tgt := 63) hK d_Z_acceptsStep_55 (by decide) (fun c52 => ?_) (fun c52 => ?_)
          · replace h := ax_if c52 h
            refine ax_bk hK (ax_fc (ax_v_ld (ax_r_iload_n (i := 1) d_Z_acceptsStep_63 rfl)) (ax_fc (ax_v_pu (ax_r_bipush (v := 60) d_Z_acceptsStep_64 (by decide))) ax_fn)) (y := (66, [(3, .inl (.int (((s.1 0 38 22) - (1 : Int32))))), (0, .inr (0, 38)), (1, .inl (.int (a1))), (2, .inl (.int (a2)))], [.inl (.int ((60 : Int32))), .inl (.int (a1)), .inl (.int (((s.1 0 38 22) - (1 : Int32)))), .inr (0, 47)], ax_m (s) ρ)) rfl ⟨trivial, trivial, trivial⟩ ?_
            refine ax_ic_ne (tgt := 74) hK d_Z_acceptsStep_66 (by decide) (fun c51 => ?_) (fun c51 => ?_)
            · replace h := ax_if c51 h
              refine ax_bk hK (ax_fc (ax_v_ld (ax_r_iload_n (i := 1) d_Z_acceptsStep_74 rfl)) (ax_fc (ax_v_pu (ax_r_bipush (v := 58) d_Z_acceptsStep_75 (by decide))) ax_fn)) (y := (77, [(3, .inl (.int (((s.1 0 38 22) - (1 : Int32))))), (0, .inr (0, 38)), (1, .inl (.int (a1))), (2, .inl (.int (a2)))], [.inl (.int ((58 : Int32))), .inl (.int (a1)), .inl (.int (((s.1 0 38 22) - (1 : Int32)))), .inr (0, 47)], ax_m (s) ρ)) rfl ⟨trivial, trivial, trivial⟩ ?_
              refine ax_ic_ne (tgt := 85) hK d_Z_acceptsStep_77 (by decide) (fun c50 => ?_) (fun c50 => ?_)
              · replace h := ax_if c50 h
                refine ax_bk hK (ax_fc (ax_v_ld (ax_r_iload_n (i := 1) d_Z_acceptsStep_85 rfl)) (ax_fc (ax_v_pu (ax_r_bipush (v := 35) d_Z_acceptsStep_86 (by decide))) ax_fn)) (y := (88, [(3, .inl (.int (((s.1 0 38 22) - (1 : Int32))))), (0, .inr (0, 38)), (1, .inl (.int (a1))), (2, .inl (.int (a2)))], [.inl (.int ((35 : Int32))), .inl (.int (a1)), .inl (.int (((s.1 0 38 22) - (1 : Int32)))), .inr (0, 47)], ax_m (s) ρ)) rfl ⟨trivial, trivial, trivial⟩ ?_
                refine ax_ic_ne (tgt := 96) hK d_Z_acceptsStep_88 (by decide) (fun c49 => ?_) (fun c49 => ?_)
                · replace h := ax_if c49 h
                  refine ax_bk hK (ax_fc (ax_v_ld (ax_r_iload_n (i := 1) d_Z_acceptsStep_96 rfl)) (ax_fc (ax_v_pu (ax_r_bipush (v := 64) d_Z_acceptsStep_97 (by decide))) ax_fn)) (y := (99, [(3, .inl (.int (((s.1 0 38 22) - (1 : Int32))))), (0, .inr (0, 38)), (1, .inl (.int (a1))), (2, .inl (.int (a2)))], [.inl (.int ((64 : Int32))), .inl (.int (a1)), .inl (.int (((s.1 0 38 22) - (1 : Int32)))), .inr (0, 47)], ax_m (s) ρ)) rfl ⟨trivial, trivial, trivial⟩ ?_
                  refine ax_ic_ne (tgt := 107) hK d_Z_acceptsStep_99 (by decide) (fun c48 => ?_) (fun c48 => ?_)
                  · replace h := ax_if c48 h
                    refine ax_bk hK (ax_fc (ax_v_pu (ax_r_iconst (v := 0) d_Z_acceptsStep_107 (by decide))) ax_fn) (y := (108, [(3, .inl (.int (((s.1 0 38 22) - (1 : Int32))))), (0, .inr (0, 38)), (1, .inl (.int (a1))), (2, .inl (.int (a2)))], [.inl (.int ((0 : Int32))), .inl (.int (((s.1 0 38 22) - (1 : Int32)))), .inr (0, 47)], ax_m (s) ρ)) rfl ⟨trivial, trivial⟩ ?_
                    cases h
                    exact ax_Lsub [1, 0] rfl (KEw79 _ rfl)
                  · replace h := ax_it c48 h
                    refine ax_bk hK (ax_fc (ax_v_pu (ax_r_bipush (v := 12) d_Z_acceptsStep_102 (by decide))) (ax_fc (ax_v_go (tgt := 108) d_Z_acceptsStep_104 (by decide)) ax_fn)) (y := (108, [(3, .inl (.int (((s.1 0 38 22) - (1 : Int32))))), (0, .inr (0, 38)), (1, .inl (.int (a1))), (2, .inl (.int (a2)))], [.inl (.int ((12 : Int32))), .inl (.int (((s.1 0 38 22) - (1 : Int32)))), .inr (0, 47)], ax_m (s) ρ)) rfl ⟨trivial, trivial, trivial⟩ ?_
                    cases h
                    exact ax_Lsub [1, 0] rfl (KEw79 _ rfl)
                · replace h := ax_it c49 h
                  refine ax_bk hK (ax_fc (ax_v_pu (ax_r_bipush (v := 11) d_Z_acceptsStep_91 (by decide))) (ax_fc (ax_v_go (tgt := 108) d_Z_acceptsStep_93 (by decide)) ax_fn)) (y := (108, [(3, .inl (.int (((s.1 0 38 22) - (1 : Int32))))), (0, .inr (0, 38)), (1, .inl (.int (a1))), (2, .inl (.int (a2)))], [.inl (.int ((11 : Int32))), .inl (.int (((s.1 0 38 22) - (1 : Int32)))), .inr (0, 47)], ax_m (s) ρ)) rfl ⟨trivial, trivial, trivial⟩ ?_
                  cases h
                  exact ax_Lsub [1, 0] rfl (KEw79 _ rfl)
              · replace h := ax_it c50 h
                refine ax_bk hK (ax_fc (ax_v_pu (ax_r_bipush (v := 10) d_Z_acceptsStep_80 (by decide))) (ax_fc (ax_v_go (tgt := 108) d_Z_acceptsStep_82 (by decide)) ax_fn)) (y := (108, [(3, .inl (.int (((s.1 0 38 22) - (1 : Int32))))), (0, .inr (0, 38)), (1, .inl (.int (a1))), (2, .inl (.int (a2)))], [.inl (.int ((10 : Int32))), .inl (.int (((s.1 0 38 22) - (1 : Int32)))), .inr (0, 47)], ax_m (s) ρ)) rfl ⟨trivial, trivial, trivial⟩ ?_
                cases h
                exact ax_Lsub [1, 0] rfl (KEw79 _ rfl)
            · replace h := ax_it c51 h
              refine ax_bk hK (ax_fc (ax_v_pu (ax_r_bipush (v := 8) d_Z_acceptsStep_69 (by decide))) (ax_fc (ax_v_go (tgt := 108) d_Z_acceptsStep_71 (by decide)) ax_fn)) (y := (108, [(3, .inl (.int (((s.1 0 38 22) - (1 : Int32))))), (0, .inr (0, 38)), (1, .inl (.int (a1))), (2, .inl (.int (a2)))], [.inl (.int ((8 : Int32))), .inl (.int (((s.1 0 38 22) - (1 : Int32)))), .inr (0, 47)], ax_m (s) ρ)) rfl ⟨trivial, trivial, trivial⟩ ?_
              cases h
              exact ax_Lsub [1, 0] rfl (KEw79 _ rfl)
          · replace h := ax_it c52 h
            refine ax_bk hK (ax_fc (ax_v_pu (ax_r_bipush (v := 7) d_Z_acceptsStep_58 (by decide))) (ax_fc (ax_v_go (tgt := 108) d_Z_acceptsStep_60 (by decide)) ax_fn)) (y := (108, [(3, .inl (.int (((s.1 0 38 22) - (1 : Int32))))), (0, .inr (0, 38)), (1, .inl (.int (a1))), (2, .inl (.int (a2)))], [.inl (.int ((7 : Int32))), .inl (.int (((s.1 0 38 22) - (1 : Int32)))), .inr (0, 47)], ax_m (s) ρ)) rfl ⟨trivial, trivial, trivial⟩ ?_
            cases h
            exact ax_Lsub [1, 0] rfl (KEw79 _ rfl)
        · replace h := ax_it c53 h
          refine ax_bk hK (ax_fc (ax_v_pu (ax_r_bipush (v := 6) d_Z_acceptsStep_47 (by decide))) (ax_fc (ax_v_go (tgt := 108) d_Z_acceptsStep_49 (by decide)) ax_fn)) (y := (108, [(3, .inl (.int (((s.1 0 38 22) - (1 : Int32))))), (0, .inr (0, 38)), (1, .inl (.int (a1))), (2, .inl (.int (a2)))], [.inl (.int ((6 : Int32))), .inl (.int (((s.1 0 38 22) - (1 : Int32)))), .inr (0, 47)], ax_m (s) ρ)) rfl ⟨trivial, trivial, trivial⟩ ?_
          cases h
          exact ax_Lsub [1, 0] rfl (KEw79 _ rfl)
      · replace h := ax_it c54 h
        refine ax_bk hK (ax_fc (ax_v_pu (ax_r_iconst (v := 5) d_Z_acceptsStep_37 (by decide))) (ax_fc (ax_v_go (tgt := 108) d_Z_acceptsStep_38 (by decide)) ax_fn)) (y := (108, [(3, .inl (.int (((s.1 0 38 22) - (1 : Int32))))), (0, .inr (0, 38)), (1, .inl (.int (a1))), (2, .inl (.int (a2)))], [.inl (.int ((5 : Int32))), .inl (.int (((s.1 0 38 22) - (1 : Int32)))), .inr (0, 47)], ax_m (s) ρ)) rfl ⟨trivial, trivial, trivial⟩ ?_
        cases h
        exact ax_Lsub [1, 0] rfl (KEw79 _ rfl)
    · replace h := ax_it c55 h
      refine ax_bk hK (ax_fc (ax_v_pu (ax_r_iconst (v := 4) d_Z_acceptsStep_27 (by decide))) (ax_fc (ax_v_go (tgt := 108) d_Z_acceptsStep_28 (by decide)) ax_fn)) (y := (108, [(3, .inl (.int (((s.1 0 38 22) - (1 : Int32))))), (0, .inr (0, 38)), (1, .inl (.int (a1))), (2, .inl (.int (a2)))], [.inl (.int ((4 : Int32))), .inl (.int (((s.1 0 38 22) - (1 : Int32)))), .inr (0, 47)], ax_m (s) ρ)) rfl ⟨trivial, trivial, trivial⟩ ?_
      cases h
      exact ax_Lsub [1, 0] rfl (KEw79 _ rfl)
def y_Z_acceptsIndex : MethodName := ⟨"CipherNotationModel", "acceptsIndex", "(II)Z"⟩
theorem d_Z_acceptsIndex_0 : decode prog_8_method_27_code 0 = .ok (.aload_n 0, 1) := by decide +kernel
theorem d_Z_acceptsIndex_1 : decode prog_8_method_27_code 1 = .ok (.getfield (168), 3) := by decide +kernel
theorem d_Z_acceptsIndex_4 : decode prog_8_method_27_code 4 = .ok (.bipush (30), 2) := by decide +kernel
theorem d_Z_acceptsIndex_6 : decode prog_8_method_27_code 6 = .ok (.if_icmp .ne (21), 3) := by decide +kernel
theorem d_Z_acceptsIndex_9 : decode prog_8_method_27_code 9 = .ok (.aload_n 0, 1) := by decide +kernel
theorem d_Z_acceptsIndex_10 : decode prog_8_method_27_code 10 = .ok (.bipush (31), 2) := by decide +kernel
theorem d_Z_acceptsIndex_12 : decode prog_8_method_27_code 12 = .ok (.putfield (168), 3) := by decide +kernel
theorem d_Z_acceptsIndex_15 : decode prog_8_method_27_code 15 = .ok (.iload_n 1, 1) := by decide +kernel
theorem d_Z_acceptsIndex_16 : decode prog_8_method_27_code 16 = .ok (.bipush (40), 2) := by decide +kernel
theorem d_Z_acceptsIndex_18 : decode prog_8_method_27_code 18 = .ok (.if_icmp .ne (7), 3) := by decide +kernel
theorem d_Z_acceptsIndex_21 : decode prog_8_method_27_code 21 = .ok (.iconst 1, 1) := by decide +kernel
theorem d_Z_acceptsIndex_22 : decode prog_8_method_27_code 22 = .ok (.goto (4), 3) := by decide +kernel
theorem d_Z_acceptsIndex_25 : decode prog_8_method_27_code 25 = .ok (.iconst 0, 1) := by decide +kernel
theorem d_Z_acceptsIndex_26 : decode prog_8_method_27_code 26 = .ok (.ireturn, 1) := by decide +kernel
theorem d_Z_acceptsIndex_27 : decode prog_8_method_27_code 27 = .ok (.iload_n 1, 1) := by decide +kernel
theorem d_Z_acceptsIndex_28 : decode prog_8_method_27_code 28 = .ok (.invokestatic (269), 3) := by decide +kernel
theorem d_Z_acceptsIndex_31 : decode prog_8_method_27_code 31 = .ok (.ifCond .eq (69), 3) := by decide +kernel
theorem d_Z_acceptsIndex_34 : decode prog_8_method_27_code 34 = .ok (.aload_n 0, 1) := by decide +kernel
theorem d_Z_acceptsIndex_35 : decode prog_8_method_27_code 35 = .ok (.getfield (168), 3) := by decide +kernel
theorem d_Z_acceptsIndex_38 : decode prog_8_method_27_code 38 = .ok (.bipush (33), 2) := by decide +kernel
theorem d_Z_acceptsIndex_40 : decode prog_8_method_27_code 40 = .ok (.if_icmp .ge (60), 3) := by decide +kernel
theorem d_Z_acceptsIndex_43 : decode prog_8_method_27_code 43 = .ok (.aload_n 0, 1) := by decide +kernel
theorem d_Z_acceptsIndex_44 : decode prog_8_method_27_code 44 = .ok (.getfield (168), 3) := by decide +kernel
theorem d_Z_acceptsIndex_47 : decode prog_8_method_27_code 47 = .ok (.bipush (31), 2) := by decide +kernel
theorem d_Z_acceptsIndex_49 : decode prog_8_method_27_code 49 = .ok (.if_icmp .ne (16), 3) := by decide +kernel
theorem d_Z_acceptsIndex_52 : decode prog_8_method_27_code 52 = .ok (.aload_n 0, 1) := by decide +kernel
theorem d_Z_acceptsIndex_53 : decode prog_8_method_27_code 53 = .ok (.lconst 1, 1) := by decide +kernel
theorem d_Z_acceptsIndex_54 : decode prog_8_method_27_code 54 = .ok (.iload_n 1, 1) := by decide +kernel
theorem d_Z_acceptsIndex_55 : decode prog_8_method_27_code 55 = .ok (.bipush (105), 2) := by decide +kernel
theorem d_Z_acceptsIndex_57 : decode prog_8_method_27_code 57 = .ok (.isub, 1) := by decide +kernel
theorem d_Z_acceptsIndex_58 : decode prog_8_method_27_code 58 = .ok (.iload_n 2, 1) := by decide +kernel
theorem d_Z_acceptsIndex_59 : decode prog_8_method_27_code 59 = .ok (.invokevirtual (250), 3) := by decide +kernel
theorem d_Z_acceptsIndex_62 : decode prog_8_method_27_code 62 = .ok (.goto (30), 3) := by decide +kernel
theorem d_Z_acceptsIndex_65 : decode prog_8_method_27_code 65 = .ok (.aload_n 0, 1) := by decide +kernel
theorem d_Z_acceptsIndex_66 : decode prog_8_method_27_code 66 = .ok (.getfield (90), 3) := by decide +kernel
theorem d_Z_acceptsIndex_69 : decode prog_8_method_27_code 69 = .ok (.aload_n 0, 1) := by decide +kernel
theorem d_Z_acceptsIndex_70 : decode prog_8_method_27_code 70 = .ok (.getfield (198), 3) := by decide +kernel
theorem d_Z_acceptsIndex_73 : decode prog_8_method_27_code 73 = .ok (.iconst 1, 1) := by decide +kernel
theorem d_Z_acceptsIndex_74 : decode prog_8_method_27_code 74 = .ok (.isub, 1) := by decide +kernel
theorem d_Z_acceptsIndex_75 : decode prog_8_method_27_code 75 = .ok (.iload_n 1, 1) := by decide +kernel
theorem d_Z_acceptsIndex_76 : decode prog_8_method_27_code 76 = .ok (.bipush (105), 2) := by decide +kernel
theorem d_Z_acceptsIndex_78 : decode prog_8_method_27_code 78 = .ok (.isub, 1) := by decide +kernel
theorem d_Z_acceptsIndex_79 : decode prog_8_method_27_code 79 = .ok (.iastore, 1) := by decide +kernel
theorem d_Z_acceptsIndex_80 : decode prog_8_method_27_code 80 = .ok (.aload_n 0, 1) := by decide +kernel
theorem d_Z_acceptsIndex_81 : decode prog_8_method_27_code 81 = .ok (.getfield (93), 3) := by decide +kernel
theorem d_Z_acceptsIndex_84 : decode prog_8_method_27_code 84 = .ok (.aload_n 0, 1) := by decide +kernel
theorem d_Z_acceptsIndex_85 : decode prog_8_method_27_code 85 = .ok (.getfield (198), 3) := by decide +kernel
theorem d_Z_acceptsIndex_88 : decode prog_8_method_27_code 88 = .ok (.iconst 1, 1) := by decide +kernel
theorem d_Z_acceptsIndex_89 : decode prog_8_method_27_code 89 = .ok (.isub, 1) := by decide +kernel
theorem d_Z_acceptsIndex_90 : decode prog_8_method_27_code 90 = .ok (.iload_n 2, 1) := by decide +kernel
theorem d_Z_acceptsIndex_91 : decode prog_8_method_27_code 91 = .ok (.iastore, 1) := by decide +kernel
theorem d_Z_acceptsIndex_92 : decode prog_8_method_27_code 92 = .ok (.aload_n 0, 1) := by decide +kernel
theorem d_Z_acceptsIndex_93 : decode prog_8_method_27_code 93 = .ok (.bipush (33), 2) := by decide +kernel
theorem d_Z_acceptsIndex_95 : decode prog_8_method_27_code 95 = .ok (.putfield (168), 3) := by decide +kernel
theorem d_Z_acceptsIndex_98 : decode prog_8_method_27_code 98 = .ok (.iconst 1, 1) := by decide +kernel
theorem d_Z_acceptsIndex_99 : decode prog_8_method_27_code 99 = .ok (.ireturn, 1) := by decide +kernel
theorem d_Z_acceptsIndex_100 : decode prog_8_method_27_code 100 = .ok (.aload_n 0, 1) := by decide +kernel
theorem d_Z_acceptsIndex_101 : decode prog_8_method_27_code 101 = .ok (.getfield (168), 3) := by decide +kernel
theorem d_Z_acceptsIndex_104 : decode prog_8_method_27_code 104 = .ok (.bipush (31), 2) := by decide +kernel
theorem d_Z_acceptsIndex_106 : decode prog_8_method_27_code 106 = .ok (.if_icmp .le (17), 3) := by decide +kernel
theorem d_Z_acceptsIndex_109 : decode prog_8_method_27_code 109 = .ok (.iload_n 1, 1) := by decide +kernel
theorem d_Z_acceptsIndex_110 : decode prog_8_method_27_code 110 = .ok (.bipush (43), 2) := by decide +kernel
theorem d_Z_acceptsIndex_112 : decode prog_8_method_27_code 112 = .ok (.if_icmp .ne (11), 3) := by decide +kernel
theorem d_Z_acceptsIndex_115 : decode prog_8_method_27_code 115 = .ok (.aload_n 0, 1) := by decide +kernel
theorem d_Z_acceptsIndex_116 : decode prog_8_method_27_code 116 = .ok (.bipush (31), 2) := by decide +kernel
theorem d_Z_acceptsIndex_118 : decode prog_8_method_27_code 118 = .ok (.putfield (168), 3) := by decide +kernel
theorem d_Z_acceptsIndex_121 : decode prog_8_method_27_code 121 = .ok (.iconst 1, 1) := by decide +kernel
theorem d_Z_acceptsIndex_122 : decode prog_8_method_27_code 122 = .ok (.ireturn, 1) := by decide +kernel
theorem d_Z_acceptsIndex_123 : decode prog_8_method_27_code 123 = .ok (.aload_n 0, 1) := by decide +kernel
theorem d_Z_acceptsIndex_124 : decode prog_8_method_27_code 124 = .ok (.getfield (168), 3) := by decide +kernel
theorem d_Z_acceptsIndex_127 : decode prog_8_method_27_code 127 = .ok (.bipush (31), 2) := by decide +kernel
theorem d_Z_acceptsIndex_129 : decode prog_8_method_27_code 129 = .ok (.if_icmp .le (54), 3) := by decide +kernel
theorem d_Z_acceptsIndex_132 : decode prog_8_method_27_code 132 = .ok (.iload_n 1, 1) := by decide +kernel
theorem d_Z_acceptsIndex_133 : decode prog_8_method_27_code 133 = .ok (.bipush (41), 2) := by decide +kernel
theorem d_Z_acceptsIndex_135 : decode prog_8_method_27_code 135 = .ok (.if_icmp .ne (48), 3) := by decide +kernel
theorem d_Z_acceptsIndex_138 : decode prog_8_method_27_code 138 = .ok (.aload_n 0, 1) := by decide +kernel
theorem d_Z_acceptsIndex_139 : decode prog_8_method_27_code 139 = .ok (.getfield (81), 3) := by decide +kernel
theorem d_Z_acceptsIndex_142 : decode prog_8_method_27_code 142 = .ok (.aload_n 0, 1) := by decide +kernel
theorem d_Z_acceptsIndex_143 : decode prog_8_method_27_code 143 = .ok (.getfield (195), 3) := by decide +kernel
theorem d_Z_acceptsIndex_146 : decode prog_8_method_27_code 146 = .ok (.aload_n 0, 1) := by decide +kernel
theorem d_Z_acceptsIndex_147 : decode prog_8_method_27_code 147 = .ok (.getfield (287), 3) := by decide +kernel
theorem d_Z_acceptsIndex_150 : decode prog_8_method_27_code 150 = .ok (.iastore, 1) := by decide +kernel
theorem d_Z_acceptsIndex_151 : decode prog_8_method_27_code 151 = .ok (.aload_n 0, 1) := by decide +kernel
theorem d_Z_acceptsIndex_152 : decode prog_8_method_27_code 152 = .ok (.getfield (84), 3) := by decide +kernel
theorem d_Z_acceptsIndex_155 : decode prog_8_method_27_code 155 = .ok (.aload_n 0, 1) := by decide +kernel
theorem d_Z_acceptsIndex_156 : decode prog_8_method_27_code 156 = .ok (.getfield (195), 3) := by decide +kernel
theorem d_Z_acceptsIndex_159 : decode prog_8_method_27_code 159 = .ok (.aload_n 0, 1) := by decide +kernel
theorem d_Z_acceptsIndex_160 : decode prog_8_method_27_code 160 = .ok (.getfield (198), 3) := by decide +kernel
theorem d_Z_acceptsIndex_163 : decode prog_8_method_27_code 163 = .ok (.iastore, 1) := by decide +kernel
theorem d_Z_acceptsIndex_164 : decode prog_8_method_27_code 164 = .ok (.aload_n 0, 1) := by decide +kernel
theorem d_Z_acceptsIndex_165 : decode prog_8_method_27_code 165 = .ok (.aload_n 0, 1) := by decide +kernel
theorem d_Z_acceptsIndex_166 : decode prog_8_method_27_code 166 = .ok (.getfield (281), 3) := by decide +kernel
theorem d_Z_acceptsIndex_169 : decode prog_8_method_27_code 169 = .ok (.lconst 0, 1) := by decide +kernel
theorem d_Z_acceptsIndex_170 : decode prog_8_method_27_code 170 = .ok (.aload_n 0, 1) := by decide +kernel
theorem d_Z_acceptsIndex_171 : decode prog_8_method_27_code 171 = .ok (.getfield (284), 3) := by decide +kernel
theorem d_Z_acceptsIndex_174 : decode prog_8_method_27_code 174 = .ok (.invokevirtual (243), 3) := by decide +kernel
theorem d_Z_acceptsIndex_177 : decode prog_8_method_27_code 177 = .ok (.aload_n 0, 1) := by decide +kernel
theorem d_Z_acceptsIndex_178 : decode prog_8_method_27_code 178 = .ok (.invokevirtual (247), 3) := by decide +kernel
theorem d_Z_acceptsIndex_181 : decode prog_8_method_27_code 181 = .ok (.iconst 1, 1) := by decide +kernel
theorem d_Z_acceptsIndex_182 : decode prog_8_method_27_code 182 = .ok (.ireturn, 1) := by decide +kernel
theorem d_Z_acceptsIndex_183 : decode prog_8_method_27_code 183 = .ok (.iconst 0, 1) := by decide +kernel
theorem d_Z_acceptsIndex_184 : decode prog_8_method_27_code 184 = .ok (.ireturn, 1) := by decide +kernel
theorem fd_Z_81 : ax_fd "CipherNotationModel" 81 6 40 := ⟨nC6, nT6, 73, nY6, rfl, nW6, by decide, nw_4 177 (by decide +kernel) rfl, nO6, nA6⟩
theorem fd_Z_287 : ax_fd "CipherNotationModel" 287 6 48 := ⟨nC6, nT6, 73, nY6, rfl, nW6, by decide, nw_4 185 (by decide +kernel) rfl, nO6, nA6⟩
theorem fd_Z_84 : ax_fd "CipherNotationModel" 84 6 41 := ⟨nC6, nT6, 73, nY6, rfl, nW6, by decide, nw_4 178 (by decide +kernel) rfl, nO6, nA6⟩
theorem fd_Z_281 : ax_fd "CipherNotationModel" 281 6 46 := ⟨nC6, nT6, 73, nY6, rfl, nW6, by decide, nw_4 183 (by decide +kernel) rfl, nO6, nA6⟩
theorem fd_Z_284 : ax_fd "CipherNotationModel" 284 6 47 := ⟨nC6, nT6, 73, nY6, rfl, nW6, by decide, nw_4 184 (by decide +kernel) rfl, nO6, nA6⟩
def f_Z_acceptsIndex (F : Nat) (a1 : Int32) (a2 : Int32) (s : ax_σ) : Option (Int32 × ax_σ) :=
  if (s.1 0 38 7) = (30 : Int32) then
    ax_let (ax_wI s 0 38 7 (31 : Int32)) (fun s30 =>
      if a1 = (40 : Int32) then
        some (((1 : Int32), s30))
      else
        some (((0 : Int32), s30)))
  else
    Option.bind (f_Z_isLetter a1) (fun r1 =>
      Option.bind (
        if r1 = (0 : Int32) then
          some true
        else
          if (33 : Int32) ≤ (s.1 0 38 7) then
            some true
          else
            some false) (fun w29 => bif w29 then
        Option.bind (
          if (s.1 0 38 7) ≤ (31 : Int32) then
            some true
          else
            if a1 = (43 : Int32) then
              some false
            else
              some true) (fun w19 => bif w19 then
          Option.bind (
            if (s.1 0 38 7) ≤ (31 : Int32) then
              some true
            else
              if a1 = (41 : Int32) then
                some false
              else
                some true) (fun w17 => bif w17 then
            some (((0 : Int32), s))
          else
            bif ax_in (s.1 0 38 36) 240 then
            ax_let (ax_wI s 0 61 ((s.1 0 38 36)).toNatClampNeg (s.1 0 38 48)) (fun s10 =>
              bif ax_in (s10.1 0 38 36) 240 then
              ax_let (ax_wI s10 0 62 ((s10.1 0 38 36)).toNatClampNeg (s10.1 0 38 42)) (fun s12 =>
                Option.bind (f_Z_emit (s12.1 0 38 46) (0 : Int64) (s12.1 0 38 47) s12) (fun s13 =>
                  Option.bind (f_Z_complete F s13) (fun s15 =>
                    some (((1 : Int32), s15)))))
              else none)
            else none)
        else
          ax_let (ax_wI s 0 38 7 (31 : Int32)) (fun s18 =>
            some (((1 : Int32), s18))))
      else
        Option.bind (
          if (s.1 0 38 7) = (31 : Int32) then
            Option.bind (f_Z_addTerm (1 : Int64) (a1 - (105 : Int32)) a2 s) (fun s24 =>
              some s24)
          else
            bif ax_in ((s.1 0 38 42) - (1 : Int32)) 240 then
            ax_let (ax_wI s 0 64 (((s.1 0 38 42) - (1 : Int32))).toNatClampNeg (a1 - (105 : Int32))) (fun s21 =>
              bif ax_in ((s21.1 0 38 42) - (1 : Int32)) 240 then
              ax_let (ax_wI s21 0 65 (((s21.1 0 38 42) - (1 : Int32))).toNatClampNeg a2) (fun s23 =>
                some s23)
              else none)
            else none) (fun s27 =>
          ax_let (ax_wI s27 0 38 7 (33 : Int32)) (fun s28 =>
            some (((1 : Int32), s28))))))
set_option maxHeartbeats 4000000 in
set_option maxRecDepth 100000 in
theorem t_Z_acceptsIndex {l : Launch} {D : va_G} {cA : Nat → ClassId} {ad : Nat → Nat → Nat} {al : List (Nat × Nat)} {θ : ax_Θ} {ρ : ax_ρ} {F : Nat} (h0 : ax_M0 al) {a1 : Int32} {a2 : Int32} {s : ax_σ} {r0 : Int32} {s0 : ax_σ} (h : f_Z_acceptsIndex F a1 a2 s = some (r0, s0)) : ax_T l D cA ad al θ y_Z_acceptsIndex (.code y_Z_acceptsIndex prog_8_method_27_code 3 (some .boolean)) 2 [.inr (0, 38), .inl (.int (a1)), .inl (.int (a2))] (ax_m s ρ) (some (.inl (.int r0))) (ax_m s0 ρ) := by
  refine ax_T_of (own := "CipherNotationModel") (by decide) rfl (Nat.le_of_ble_eq_true rfl) [(0, .inr (0, 38)), (1, .inl (.int (a1))), (2, .inl (.int (a2)))] rfl ?_
  intro G hA
  have hB := hA.B
  have hK := hB.K
  have hal := hB.la
  unfold f_Z_acceptsIndex at h
  refine ax_bk hK (ax_fc (ax_v_ld (ax_r_aload_n (i := 0) d_Z_acceptsIndex_0 rfl)) (ax_fc (ax_w_gf (e := none) hal d_Z_acceptsIndex_1 fd_Z_168) (ax_fc (ax_v_pu (ax_r_bipush (v := 30) d_Z_acceptsIndex_4 (by decide))) ax_fn))) (y := (6, [(0, .inr (0, 38)), (1, .inl (.int (a1))), (2, .inl (.int (a2)))], [.inl (.int ((30 : Int32))), .inl (.int ((s.1 0 38 7)))], ax_m (s) ρ)) rfl ⟨trivial, (h0 38 rfl), trivial, trivial⟩ ?_
  refine ax_ic_ne (tgt := 27) hK d_Z_acceptsIndex_6 (by decide) (fun c32 => ?_) (fun c32 => ?_)
  · replace h := ax_if c32 h
    refine ax_bk hK (ax_fc (ax_v_ld (ax_r_iload_n (i := 1) d_Z_acceptsIndex_27 rfl)) ax_fn) (y := (28, [(0, .inr (0, 38)), (1, .inl (.int (a1))), (2, .inl (.int (a2)))], [.inl (.int (a1))], ax_m (s) ρ)) rfl ⟨trivial, trivial⟩ ?_
    obtain ⟨r1, q2, h⟩ := ax_bd h
    refine ax_bS (rest := []) hB (t_Z_isLetter q2) cw_Z_269 sm_Z_isLetter d_Z_acceptsIndex_28 (by decide) (by decide) rfl rfl (Nat.le_of_ble_eq_true rfl) ?_
    change ax_R G 3 0 0 (31, [(0, .inr (0, 38)), (1, .inl (.int (a1))), (2, .inl (.int (a2)))], [.inl (.int (r1))], ax_m (s) ρ)
    obtain ⟨w29, hw29, h⟩ := ax_bd h
    have KTw29 : w29 = true → ax_R G 3 0 0 (100, [(0, .inr (0, 38)), (1, .inl (.int (a1)))], [], ax_m (s) ρ) := by
      intro e9
      subst w29
      replace h := ax_ct h
      refine ax_bk hK (ax_fc (ax_v_ld (ax_r_aload_n (i := 0) d_Z_acceptsIndex_100 rfl)) (ax_fc (ax_w_gf (e := none) hal d_Z_acceptsIndex_101 fd_Z_168) (ax_fc (ax_v_pu (ax_r_bipush (v := 31) d_Z_acceptsIndex_104 (by decide))) ax_fn))) (y := (106, [(0, .inr (0, 38)), (1, .inl (.int (a1)))], [.inl (.int ((31 : Int32))), .inl (.int ((s.1 0 38 7)))], ax_m (s) ρ)) rfl ⟨trivial, (h0 38 rfl), trivial, trivial⟩ ?_
      obtain ⟨w19, hw19, h⟩ := ax_bd h
      have KTw19 : w19 = true → ax_R G 3 0 0 (123, [(0, .inr (0, 38)), (1, .inl (.int (a1)))], [], ax_m (s) ρ) := by
        intro e9
        subst w19
        replace h := ax_ct h
        refine ax_bk hK (ax_fc (ax_v_ld (ax_r_aload_n (i := 0) d_Z_acceptsIndex_123 rfl)) (ax_fc (ax_w_gf (e := none) hal d_Z_acceptsIndex_124 fd_Z_168) (ax_fc (ax_v_pu (ax_r_bipush (v := 31) d_Z_acceptsIndex_127 (by decide))) ax_fn))) (y := (129, [(0, .inr (0, 38)), (1, .inl (.int (a1)))], [.inl (.int ((31 : Int32))), .inl (.int ((s.1 0 38 7)))], ax_m (s) ρ)) rfl ⟨trivial, (h0 38 rfl), trivial, trivial⟩ ?_
        obtain ⟨w17, hw17, h⟩ := ax_bd h
        have KTw17 : w17 = true → ax_R G 3 0 0 (183, [], [], ax_m (s) ρ) := by
          intro e9
          subst w17
          replace h := ax_ct h
          refine ax_bk hK (ax_fc (ax_v_pu (ax_r_iconst (v := 0) d_Z_acceptsIndex_183 (by decide))) ax_fn) (y := (184, [], [.inl (.int ((0 : Int32)))], ax_m (s) ρ)) rfl ⟨trivial, trivial⟩ ?_
          cases h
          exact ax_zret hA (by decide) d_Z_acceptsIndex_184
        have KFw17 : w17 = false → ax_R G 3 0 0 (138, [(0, .inr (0, 38))], [], ax_m (s) ρ) := by
          intro e9
          subst w17
          replace h := ax_cf h
          obtain ⟨b9, h⟩ := ax_gd h
          refine ax_bk hK (ax_fc (ax_v_ld (ax_r_aload_n (i := 0) d_Z_acceptsIndex_138 rfl)) (ax_fc (ax_w_gf (e := none) hal d_Z_acceptsIndex_139 fd_Z_81) (ax_fc (ax_v_ld (ax_r_aload_n (i := 0) d_Z_acceptsIndex_142 rfl)) (ax_fc (ax_w_gf (e := none) hal d_Z_acceptsIndex_143 fd_Z_195) (ax_fc (ax_v_ld (ax_r_aload_n (i := 0) d_Z_acceptsIndex_146 rfl)) (ax_fc (ax_w_gf (e := none) hal d_Z_acceptsIndex_147 fd_Z_287) (ax_fc (ax_w_iast hal d_Z_acceptsIndex_150) ax_fn))))))) (y := (151, [(0, .inr (0, 38))], [], ax_m (ax_wI s 0 61 ((s.1 0 38 36)).toNatClampNeg (s.1 0 38 48)) ρ)) rfl ⟨trivial, (h0 38 rfl), trivial, (h0 38 rfl), trivial, (h0 38 rfl), ⟨(h0 61 rfl), ax_inp b9⟩, trivial⟩ ?_
          refine ax_lt (Q := fun ςς => ax_R G 3 0 0 (151, [(0, .inr (0, 38))], [], ax_m (ςς) ρ)) h (fun s10 h => ?_)
          obtain ⟨b11, h⟩ := ax_gd h
          refine ax_bk hK (ax_fc (ax_v_ld (ax_r_aload_n (i := 0) d_Z_acceptsIndex_151 rfl)) (ax_fc (ax_w_gf (e := none) hal d_Z_acceptsIndex_152 fd_Z_84) (ax_fc (ax_v_ld (ax_r_aload_n (i := 0) d_Z_acceptsIndex_155 rfl)) (ax_fc (ax_w_gf (e := none) hal d_Z_acceptsIndex_156 fd_Z_195) (ax_fc (ax_v_ld (ax_r_aload_n (i := 0) d_Z_acceptsIndex_159 rfl)) (ax_fc (ax_w_gf (e := none) hal d_Z_acceptsIndex_160 fd_Z_198) (ax_fc (ax_w_iast hal d_Z_acceptsIndex_163) ax_fn))))))) (y := (164, [(0, .inr (0, 38))], [], ax_m (ax_wI s10 0 62 ((s10.1 0 38 36)).toNatClampNeg (s10.1 0 38 42)) ρ)) rfl ⟨trivial, (h0 38 rfl), trivial, (h0 38 rfl), trivial, (h0 38 rfl), ⟨(h0 62 rfl), ax_inp b11⟩, trivial⟩ ?_
          refine ax_lt (Q := fun ςς => ax_R G 3 0 0 (164, [(0, .inr (0, 38))], [], ax_m (ςς) ρ)) h (fun s12 h => ?_)
          refine ax_bk hK (ax_fc (ax_v_ld (ax_r_aload_n (i := 0) d_Z_acceptsIndex_164 rfl)) (ax_fc (ax_v_ld (ax_r_aload_n (i := 0) d_Z_acceptsIndex_165 rfl)) (ax_fc (ax_w_gf (e := none) hal d_Z_acceptsIndex_166 fd_Z_281) (ax_fc (ax_v_pu (ax_r_lconst (v := 0) d_Z_acceptsIndex_169 (by decide))) (ax_fc (ax_v_ld (ax_r_aload_n (i := 0) d_Z_acceptsIndex_170 rfl)) (ax_fc (ax_w_gf (e := none) hal d_Z_acceptsIndex_171 fd_Z_284) ax_fn)))))) (y := (174, [(0, .inr (0, 38))], [.inl (.int ((s12.1 0 38 47))), .inl (.long ((0 : Int64))), .inl (.int ((s12.1 0 38 46))), .inr (0, 38)], ax_m (s12) ρ)) rfl ⟨trivial, trivial, (h0 38 rfl), trivial, trivial, (h0 38 rfl), trivial⟩ ?_
          obtain ⟨s13, q14, h⟩ := ax_bd h
          refine ax_bV (rest := []) hB (t_Z_emit h0 q14) cw_Z_243 im_Z_emit se_Z_emit d_Z_acceptsIndex_174 (h0 38 rfl) rfl rfl (by decide) (by decide) rfl rfl (Nat.le_of_ble_eq_true rfl) ?_
          change ax_R G 3 0 0 (177, [(0, .inr (0, 38))], [], ax_m (s13) ρ)
          refine ax_bk hK (ax_fc (ax_v_ld (ax_r_aload_n (i := 0) d_Z_acceptsIndex_177 rfl)) ax_fn) (y := (178, [(0, .inr (0, 38))], [.inr (0, 38)], ax_m (s13) ρ)) rfl ⟨trivial, trivial⟩ ?_
          obtain ⟨s15, q16, h⟩ := ax_bd h
          refine ax_bV (rest := []) hB (t_Z_complete h0 q16) cw_Z_247 im_Z_complete se_Z_complete d_Z_acceptsIndex_178 (h0 38 rfl) rfl rfl (by decide) (by decide) rfl rfl (Nat.le_of_ble_eq_true rfl) ?_
          change ax_R G 3 0 0 (181, [(0, .inr (0, 38))], [], ax_m (s15) ρ)
          refine ax_bk hK (ax_fc (ax_v_pu (ax_r_iconst (v := 1) d_Z_acceptsIndex_181 (by decide))) ax_fn) (y := (182, [(0, .inr (0, 38))], [.inl (.int ((1 : Int32)))], ax_m (s15) ρ)) rfl ⟨trivial, trivial⟩ ?_
          cases h
          exact ax_zret hA (by decide) d_Z_acceptsIndex_182
        clear h
        have h := hw17
        refine ax_ic_le (tgt := 183) hK d_Z_acceptsIndex_129 (by decide) (fun c8 => ?_) (fun c8 => ?_)
        · replace h := ax_it c8 h
          cases h
          exact ax_Lsub [] rfl (KTw17 rfl)
        · replace h := ax_if c8 h
          refine ax_bk hK (ax_fc (ax_v_ld (ax_r_iload_n (i := 1) d_Z_acceptsIndex_132 rfl)) (ax_fc (ax_v_pu (ax_r_bipush (v := 41) d_Z_acceptsIndex_133 (by decide))) ax_fn)) (y := (135, [(0, .inr (0, 38)), (1, .inl (.int (a1)))], [.inl (.int ((41 : Int32))), .inl (.int (a1))], ax_m (s) ρ)) rfl ⟨trivial, trivial, trivial⟩ ?_
          refine ax_ic_ne (tgt := 183) hK d_Z_acceptsIndex_135 (by decide) (fun c7 => ?_) (fun c7 => ?_)
          · replace h := ax_if c7 h
            cases h
            exact ax_Lsub [] rfl (KTw17 rfl)
          · replace h := ax_it c7 h
            cases h
            exact ax_Lsub [0] rfl (KFw17 rfl)
      have KFw19 : w19 = false → ax_R G 3 0 0 (115, [(0, .inr (0, 38))], [], ax_m (s) ρ) := by
        intro e9
        subst w19
        replace h := ax_cf h
        refine ax_bk hK (ax_fc (ax_v_ld (ax_r_aload_n (i := 0) d_Z_acceptsIndex_115 rfl)) (ax_fc (ax_v_pu (ax_r_bipush (v := 31) d_Z_acceptsIndex_116 (by decide))) (ax_fc (ax_w_pf (tc := 0) hal d_Z_acceptsIndex_118 fp_Z_168 rfl) ax_fn))) (y := (121, [(0, .inr (0, 38))], [], ax_m (ax_wI s 0 38 7 (31 : Int32)) ρ)) rfl ⟨trivial, trivial, (h0 38 rfl), trivial⟩ ?_
        refine ax_lt (Q := fun ςς => ax_R G 3 0 0 (121, [(0, .inr (0, 38))], [], ax_m (ςς) ρ)) h (fun s18 h => ?_)
        refine ax_bk hK (ax_fc (ax_v_pu (ax_r_iconst (v := 1) d_Z_acceptsIndex_121 (by decide))) ax_fn) (y := (122, [(0, .inr (0, 38))], [.inl (.int ((1 : Int32)))], ax_m (s18) ρ)) rfl ⟨trivial, trivial⟩ ?_
        cases h
        exact ax_zret hA (by decide) d_Z_acceptsIndex_122
      clear h
      have h := hw19
      refine ax_ic_le (tgt := 123) hK d_Z_acceptsIndex_106 (by decide) (fun c6 => ?_) (fun c6 => ?_)
      · replace h := ax_it c6 h
        cases h
        exact ax_Lsub [0, 1] rfl (KTw19 rfl)
      · replace h := ax_if c6 h
        refine ax_bk hK (ax_fc (ax_v_ld (ax_r_iload_n (i := 1) d_Z_acceptsIndex_109 rfl)) (ax_fc (ax_v_pu (ax_r_bipush (v := 43) d_Z_acceptsIndex_110 (by decide))) ax_fn)) (y := (112, [(0, .inr (0, 38)), (1, .inl (.int (a1)))], [.inl (.int ((43 : Int32))), .inl (.int (a1))], ax_m (s) ρ)) rfl ⟨trivial, trivial, trivial⟩ ?_
        refine ax_ic_ne (tgt := 123) hK d_Z_acceptsIndex_112 (by decide) (fun c5 => ?_) (fun c5 => ?_)
        · replace h := ax_if c5 h
          cases h
          exact ax_Lsub [0, 1] rfl (KTw19 rfl)
        · replace h := ax_it c5 h
          cases h
          exact ax_Lsub [0] rfl (KFw19 rfl)
    have KFw29 : w29 = false → ax_R G 3 0 0 (43, [(0, .inr (0, 38)), (1, .inl (.int (a1))), (2, .inl (.int (a2)))], [], ax_m (s) ρ) := by
      intro e9
      subst w29
      replace h := ax_cf h
      refine ax_bk hK (ax_fc (ax_v_ld (ax_r_aload_n (i := 0) d_Z_acceptsIndex_43 rfl)) (ax_fc (ax_w_gf (e := none) hal d_Z_acceptsIndex_44 fd_Z_168) (ax_fc (ax_v_pu (ax_r_bipush (v := 31) d_Z_acceptsIndex_47 (by decide))) ax_fn))) (y := (49, [(0, .inr (0, 38)), (1, .inl (.int (a1))), (2, .inl (.int (a2)))], [.inl (.int ((31 : Int32))), .inl (.int ((s.1 0 38 7)))], ax_m (s) ρ)) rfl ⟨trivial, (h0 38 rfl), trivial, trivial⟩ ?_
      obtain ⟨w33, hw33, h⟩ := ax_bd h
      have KEw33 : ∀ (s27 : ax_σ), w33 = s27 → ax_R G 3 0 0 (92, [(0, .inr (0, 38))], [], ax_m (s27) ρ) := by
        intro s27 e9
        subst w33
        try dsimp only at h
        refine ax_bk hK (ax_fc (ax_v_ld (ax_r_aload_n (i := 0) d_Z_acceptsIndex_92 rfl)) (ax_fc (ax_v_pu (ax_r_bipush (v := 33) d_Z_acceptsIndex_93 (by decide))) (ax_fc (ax_w_pf (tc := 0) hal d_Z_acceptsIndex_95 fp_Z_168 rfl) ax_fn))) (y := (98, [(0, .inr (0, 38))], [], ax_m (ax_wI s27 0 38 7 (33 : Int32)) ρ)) rfl ⟨trivial, trivial, (h0 38 rfl), trivial⟩ ?_
        refine ax_lt (Q := fun ςς => ax_R G 3 0 0 (98, [(0, .inr (0, 38))], [], ax_m (ςς) ρ)) h (fun s28 h => ?_)
        refine ax_bk hK (ax_fc (ax_v_pu (ax_r_iconst (v := 1) d_Z_acceptsIndex_98 (by decide))) ax_fn) (y := (99, [(0, .inr (0, 38))], [.inl (.int ((1 : Int32)))], ax_m (s28) ρ)) rfl ⟨trivial, trivial⟩ ?_
        cases h
        exact ax_zret hA (by decide) d_Z_acceptsIndex_99
      clear h
      have h := hw33
      refine ax_ic_ne (tgt := 65) hK d_Z_acceptsIndex_49 (by decide) (fun c26 => ?_) (fun c26 => ?_)
      · replace h := ax_if c26 h
        obtain ⟨b20, h⟩ := ax_gd h
        refine ax_bk hK (ax_fc (ax_v_ld (ax_r_aload_n (i := 0) d_Z_acceptsIndex_65 rfl)) (ax_fc (ax_w_gf (e := none) hal d_Z_acceptsIndex_66 fd_Z_90) (ax_fc (ax_v_ld (ax_r_aload_n (i := 0) d_Z_acceptsIndex_69 rfl)) (ax_fc (ax_w_gf (e := none) hal d_Z_acceptsIndex_70 fd_Z_198) (ax_fc (ax_v_pu (ax_r_iconst (v := 1) d_Z_acceptsIndex_73 (by decide))) (ax_fc (ax_v_pu (ax_r_isub d_Z_acceptsIndex_74)) (ax_fc (ax_v_ld (ax_r_iload_n (i := 1) d_Z_acceptsIndex_75 rfl)) (ax_fc (ax_v_pu (ax_r_bipush (v := 105) d_Z_acceptsIndex_76 (by decide))) (ax_fc (ax_v_pu (ax_r_isub d_Z_acceptsIndex_78)) (ax_fc (ax_w_iast hal d_Z_acceptsIndex_79) ax_fn)))))))))) (y := (80, [(0, .inr (0, 38)), (1, .inl (.int (a1))), (2, .inl (.int (a2)))], [], ax_m (ax_wI s 0 64 (((s.1 0 38 42) - (1 : Int32))).toNatClampNeg (a1 - (105 : Int32))) ρ)) rfl ⟨trivial, (h0 38 rfl), trivial, (h0 38 rfl), trivial, trivial, trivial, trivial, trivial, ⟨(h0 64 rfl), ax_inp b20⟩, trivial⟩ ?_
        refine ax_lt (Q := fun ςς => ax_R G 3 0 0 (80, [(0, .inr (0, 38)), (1, .inl (.int (a1))), (2, .inl (.int (a2)))], [], ax_m (ςς) ρ)) h (fun s21 h => ?_)
        obtain ⟨b22, h⟩ := ax_gd h
        refine ax_bk hK (ax_fc (ax_v_ld (ax_r_aload_n (i := 0) d_Z_acceptsIndex_80 rfl)) (ax_fc (ax_w_gf (e := none) hal d_Z_acceptsIndex_81 fd_Z_93) (ax_fc (ax_v_ld (ax_r_aload_n (i := 0) d_Z_acceptsIndex_84 rfl)) (ax_fc (ax_w_gf (e := none) hal d_Z_acceptsIndex_85 fd_Z_198) (ax_fc (ax_v_pu (ax_r_iconst (v := 1) d_Z_acceptsIndex_88 (by decide))) (ax_fc (ax_v_pu (ax_r_isub d_Z_acceptsIndex_89)) (ax_fc (ax_v_ld (ax_r_iload_n (i := 2) d_Z_acceptsIndex_90 rfl)) (ax_fc (ax_w_iast hal d_Z_acceptsIndex_91) ax_fn)))))))) (y := (92, [(0, .inr (0, 38)), (1, .inl (.int (a1))), (2, .inl (.int (a2)))], [], ax_m (ax_wI s21 0 65 (((s21.1 0 38 42) - (1 : Int32))).toNatClampNeg a2) ρ)) rfl ⟨trivial, (h0 38 rfl), trivial, (h0 38 rfl), trivial, trivial, trivial, ⟨(h0 65 rfl), ax_inp b22⟩, trivial⟩ ?_
        refine ax_lt (Q := fun ςς => ax_R G 3 0 0 (92, [(0, .inr (0, 38)), (1, .inl (.int (a1))), (2, .inl (.int (a2)))], [], ax_m (ςς) ρ)) h (fun s23 h => ?_)
        cases h
        exact ax_Lsub [0] rfl (KEw33 _ rfl)
      · replace h := ax_it c26 h
        refine ax_bk hK (ax_fc (ax_v_ld (ax_r_aload_n (i := 0) d_Z_acceptsIndex_52 rfl)) (ax_fc (ax_v_pu (ax_r_lconst (v := 1) d_Z_acceptsIndex_53 (by decide))) (ax_fc (ax_v_ld (ax_r_iload_n (i := 1) d_Z_acceptsIndex_54 rfl)) (ax_fc (ax_v_pu (ax_r_bipush (v := 105) d_Z_acceptsIndex_55 (by decide))) (ax_fc (ax_v_pu (ax_r_isub d_Z_acceptsIndex_57)) (ax_fc (ax_v_ld (ax_r_iload_n (i := 2) d_Z_acceptsIndex_58 rfl)) ax_fn)))))) (y := (59, [(0, .inr (0, 38)), (1, .inl (.int (a1))), (2, .inl (.int (a2)))], [.inl (.int (a2)), .inl (.int ((a1 - (105 : Int32)))), .inl (.long ((1 : Int64))), .inr (0, 38)], ax_m (s) ρ)) rfl ⟨trivial, trivial, trivial, trivial, trivial, trivial, trivial⟩ ?_
        obtain ⟨s24, q25, h⟩ := ax_bd h
        refine ax_bV (rest := []) hB (t_Z_addTerm h0 q25) cw_Z_250 im_Z_addTerm se_Z_addTerm d_Z_acceptsIndex_59 (h0 38 rfl) rfl rfl (by decide) (by decide) rfl rfl (Nat.le_of_ble_eq_true rfl) ?_
        change ax_R G 3 0 0 (62, [(0, .inr (0, 38)), (1, .inl (.int (a1))), (2, .inl (.int (a2)))], [], ax_m (s24) ρ)
        refine ax_bk hK (ax_fc (ax_v_go (tgt := 92) d_Z_acceptsIndex_62 (by decide)) ax_fn) (y := (92, [(0, .inr (0, 38)), (1, .inl (.int (a1))), (2, .inl (.int (a2)))], [], ax_m (s24) ρ)) rfl ⟨trivial, trivial⟩ ?_
        cases h
        exact ax_Lsub [0] rfl (KEw33 _ rfl)
    clear h
    have h := hw29
    refine ax_if_eq (tgt := 100) hK d_Z_acceptsIndex_31 (by decide) (fun c4 => ?_) (fun c4 => ?_)
    · replace h := ax_it c4 h
      cases h
      exact ax_Lsub [0, 1] rfl (KTw29 rfl)
    · replace h := ax_if c4 h
      refine ax_bk hK (ax_fc (ax_v_ld (ax_r_aload_n (i := 0) d_Z_acceptsIndex_34 rfl)) (ax_fc (ax_w_gf (e := none) hal d_Z_acceptsIndex_35 fd_Z_168) (ax_fc (ax_v_pu (ax_r_bipush (v := 33) d_Z_acceptsIndex_38 (by decide))) ax_fn))) (y := (40, [(0, .inr (0, 38)), (1, .inl (.int (a1))), (2, .inl (.int (a2)))], [.inl (.int ((33 : Int32))), .inl (.int ((s.1 0 38 7)))], ax_m (s) ρ)) rfl ⟨trivial, (h0 38 rfl), trivial, trivial⟩ ?_
      refine ax_ic_ge (tgt := 100) hK d_Z_acceptsIndex_40 (by decide) (fun c3 => ?_) (fun c3 => ?_)
      · replace h := ax_it c3 h
        cases h
        exact ax_Lsub [0, 1] rfl (KTw29 rfl)
      · replace h := ax_if c3 h
        cases h
        exact ax_Lsub [0, 1, 2] rfl (KFw29 rfl)
  · replace h := ax_it c32 h
    refine ax_bk hK (ax_fc (ax_v_ld (ax_r_aload_n (i := 0) d_Z_acceptsIndex_9 rfl)) (ax_fc (ax_v_pu (ax_r_bipush (v := 31) d_Z_acceptsIndex_10 (by decide))) (ax_fc (ax_w_pf (tc := 0) hal d_Z_acceptsIndex_12 fp_Z_168 rfl) ax_fn))) (y := (15, [(0, .inr (0, 38)), (1, .inl (.int (a1))), (2, .inl (.int (a2)))], [], ax_m (ax_wI s 0 38 7 (31 : Int32)) ρ)) rfl ⟨trivial, trivial, (h0 38 rfl), trivial⟩ ?_
    refine ax_lt (Q := fun ςς => ax_R G 3 0 0 (15, [(0, .inr (0, 38)), (1, .inl (.int (a1))), (2, .inl (.int (a2)))], [], ax_m (ςς) ρ)) h (fun s30 h => ?_)
    refine ax_bk hK (ax_fc (ax_v_ld (ax_r_iload_n (i := 1) d_Z_acceptsIndex_15 rfl)) (ax_fc (ax_v_pu (ax_r_bipush (v := 40) d_Z_acceptsIndex_16 (by decide))) ax_fn)) (y := (18, [(0, .inr (0, 38)), (1, .inl (.int (a1))), (2, .inl (.int (a2)))], [.inl (.int ((40 : Int32))), .inl (.int (a1))], ax_m (s30) ρ)) rfl ⟨trivial, trivial, trivial⟩ ?_
    refine ax_ic_ne (tgt := 25) hK d_Z_acceptsIndex_18 (by decide) (fun c31 => ?_) (fun c31 => ?_)
    · replace h := ax_if c31 h
      refine ax_bk hK (ax_fc (ax_v_pu (ax_r_iconst (v := 0) d_Z_acceptsIndex_25 (by decide))) ax_fn) (y := (26, [(0, .inr (0, 38)), (1, .inl (.int (a1))), (2, .inl (.int (a2)))], [.inl (.int ((0 : Int32)))], ax_m (s30) ρ)) rfl ⟨trivial, trivial⟩ ?_
      cases h
      exact ax_zret hA (by decide) d_Z_acceptsIndex_26
    · replace h := ax_it c31 h
      refine ax_bk hK (ax_fc (ax_v_pu (ax_r_iconst (v := 1) d_Z_acceptsIndex_21 (by decide))) (ax_fc (ax_v_go (tgt := 26) d_Z_acceptsIndex_22 (by decide)) ax_fn)) (y := (26, [(0, .inr (0, 38)), (1, .inl (.int (a1))), (2, .inl (.int (a2)))], [.inl (.int ((1 : Int32)))], ax_m (s30) ρ)) rfl ⟨trivial, trivial, trivial⟩ ?_
      cases h
      exact ax_zret hA (by decide) d_Z_acceptsIndex_26
def y_Z_acceptsStart : MethodName := ⟨"CipherNotationModel", "acceptsStart", "(II)Z"⟩
theorem d_Z_acceptsStart_0 : decode prog_8_method_25_code 0 = .ok (.iload_n 1, 1) := by decide +kernel
theorem d_Z_acceptsStart_1 : decode prog_8_method_25_code 1 = .ok (.invokestatic (272), 3) := by decide +kernel
theorem d_Z_acceptsStart_4 : decode prog_8_method_25_code 4 = .ok (.ifCond .ne (10), 3) := by decide +kernel
theorem d_Z_acceptsStart_7 : decode prog_8_method_25_code 7 = .ok (.iload_n 1, 1) := by decide +kernel
theorem d_Z_acceptsStart_8 : decode prog_8_method_25_code 8 = .ok (.invokestatic (269), 3) := by decide +kernel
theorem d_Z_acceptsStart_11 : decode prog_8_method_25_code 11 = .ok (.ifCond .eq (46), 3) := by decide +kernel
theorem d_Z_acceptsStart_14 : decode prog_8_method_25_code 14 = .ok (.aload_n 0, 1) := by decide +kernel
theorem d_Z_acceptsStart_15 : decode prog_8_method_25_code 15 = .ok (.iload_n 1, 1) := by decide +kernel
theorem d_Z_acceptsStart_16 : decode prog_8_method_25_code 16 = .ok (.invokestatic (272), 3) := by decide +kernel
theorem d_Z_acceptsStart_19 : decode prog_8_method_25_code 19 = .ok (.ifCond .eq (7), 3) := by decide +kernel
theorem d_Z_acceptsStart_22 : decode prog_8_method_25_code 22 = .ok (.iconst 1, 1) := by decide +kernel
theorem d_Z_acceptsStart_23 : decode prog_8_method_25_code 23 = .ok (.goto (4), 3) := by decide +kernel
theorem d_Z_acceptsStart_26 : decode prog_8_method_25_code 26 = .ok (.iconst 5, 1) := by decide +kernel
theorem d_Z_acceptsStart_27 : decode prog_8_method_25_code 27 = .ok (.iload_n 1, 1) := by decide +kernel
theorem d_Z_acceptsStart_28 : decode prog_8_method_25_code 28 = .ok (.invokestatic (272), 3) := by decide +kernel
theorem d_Z_acceptsStart_31 : decode prog_8_method_25_code 31 = .ok (.ifCond .eq (11), 3) := by decide +kernel
theorem d_Z_acceptsStart_34 : decode prog_8_method_25_code 34 = .ok (.iload_n 1, 1) := by decide +kernel
theorem d_Z_acceptsStart_35 : decode prog_8_method_25_code 35 = .ok (.bipush (65), 2) := by decide +kernel
theorem d_Z_acceptsStart_37 : decode prog_8_method_25_code 37 = .ok (.isub, 1) := by decide +kernel
theorem d_Z_acceptsStart_38 : decode prog_8_method_25_code 38 = .ok (.i2l, 1) := by decide +kernel
theorem d_Z_acceptsStart_39 : decode prog_8_method_25_code 39 = .ok (.goto (8), 3) := by decide +kernel
theorem d_Z_acceptsStart_42 : decode prog_8_method_25_code 42 = .ok (.iload_n 1, 1) := by decide +kernel
theorem d_Z_acceptsStart_43 : decode prog_8_method_25_code 43 = .ok (.bipush (105), 2) := by decide +kernel
theorem d_Z_acceptsStart_45 : decode prog_8_method_25_code 45 = .ok (.isub, 1) := by decide +kernel
theorem d_Z_acceptsStart_46 : decode prog_8_method_25_code 46 = .ok (.i2l, 1) := by decide +kernel
theorem d_Z_acceptsStart_47 : decode prog_8_method_25_code 47 = .ok (.iload_n 2, 1) := by decide +kernel
theorem d_Z_acceptsStart_48 : decode prog_8_method_25_code 48 = .ok (.invokevirtual (243), 3) := by decide +kernel
theorem d_Z_acceptsStart_51 : decode prog_8_method_25_code 51 = .ok (.aload_n 0, 1) := by decide +kernel
theorem d_Z_acceptsStart_52 : decode prog_8_method_25_code 52 = .ok (.invokevirtual (247), 3) := by decide +kernel
theorem d_Z_acceptsStart_55 : decode prog_8_method_25_code 55 = .ok (.iconst 1, 1) := by decide +kernel
theorem d_Z_acceptsStart_56 : decode prog_8_method_25_code 56 = .ok (.ireturn, 1) := by decide +kernel
theorem d_Z_acceptsStart_57 : decode prog_8_method_25_code 57 = .ok (.iload_n 1, 1) := by decide +kernel
theorem d_Z_acceptsStart_58 : decode prog_8_method_25_code 58 = .ok (.bipush (75), 2) := by decide +kernel
theorem d_Z_acceptsStart_60 : decode prog_8_method_25_code 60 = .ok (.if_icmp .eq (9), 3) := by decide +kernel
theorem d_Z_acceptsStart_63 : decode prog_8_method_25_code 63 = .ok (.iload_n 1, 1) := by decide +kernel
theorem d_Z_acceptsStart_64 : decode prog_8_method_25_code 64 = .ok (.bipush (83), 2) := by decide +kernel
theorem d_Z_acceptsStart_66 : decode prog_8_method_25_code 66 = .ok (.if_icmp .ne (39), 3) := by decide +kernel
theorem d_Z_acceptsStart_69 : decode prog_8_method_25_code 69 = .ok (.aload_n 0, 1) := by decide +kernel
theorem d_Z_acceptsStart_70 : decode prog_8_method_25_code 70 = .ok (.iload_n 1, 1) := by decide +kernel
theorem d_Z_acceptsStart_71 : decode prog_8_method_25_code 71 = .ok (.bipush (75), 2) := by decide +kernel
theorem d_Z_acceptsStart_73 : decode prog_8_method_25_code 73 = .ok (.if_icmp .ne (7), 3) := by decide +kernel
theorem d_Z_acceptsStart_76 : decode prog_8_method_25_code 76 = .ok (.iconst 2, 1) := by decide +kernel
theorem d_Z_acceptsStart_77 : decode prog_8_method_25_code 77 = .ok (.goto (4), 3) := by decide +kernel
theorem d_Z_acceptsStart_80 : decode prog_8_method_25_code 80 = .ok (.iconst 3, 1) := by decide +kernel
theorem d_Z_acceptsStart_81 : decode prog_8_method_25_code 81 = .ok (.putfield (281), 3) := by decide +kernel
theorem d_Z_acceptsStart_84 : decode prog_8_method_25_code 84 = .ok (.aload_n 0, 1) := by decide +kernel
theorem d_Z_acceptsStart_85 : decode prog_8_method_25_code 85 = .ok (.iload_n 2, 1) := by decide +kernel
theorem d_Z_acceptsStart_86 : decode prog_8_method_25_code 86 = .ok (.putfield (284), 3) := by decide +kernel
theorem d_Z_acceptsStart_89 : decode prog_8_method_25_code 89 = .ok (.aload_n 0, 1) := by decide +kernel
theorem d_Z_acceptsStart_90 : decode prog_8_method_25_code 90 = .ok (.aload_n 0, 1) := by decide +kernel
theorem d_Z_acceptsStart_91 : decode prog_8_method_25_code 91 = .ok (.getfield (198), 3) := by decide +kernel
theorem d_Z_acceptsStart_94 : decode prog_8_method_25_code 94 = .ok (.putfield (287), 3) := by decide +kernel
theorem d_Z_acceptsStart_97 : decode prog_8_method_25_code 97 = .ok (.aload_n 0, 1) := by decide +kernel
theorem d_Z_acceptsStart_98 : decode prog_8_method_25_code 98 = .ok (.bipush (30), 2) := by decide +kernel
theorem d_Z_acceptsStart_100 : decode prog_8_method_25_code 100 = .ok (.putfield (168), 3) := by decide +kernel
theorem d_Z_acceptsStart_103 : decode prog_8_method_25_code 103 = .ok (.iconst 1, 1) := by decide +kernel
theorem d_Z_acceptsStart_104 : decode prog_8_method_25_code 104 = .ok (.ireturn, 1) := by decide +kernel
theorem d_Z_acceptsStart_105 : decode prog_8_method_25_code 105 = .ok (.iload_n 1, 1) := by decide +kernel
theorem d_Z_acceptsStart_106 : decode prog_8_method_25_code 106 = .ok (.bipush (126), 2) := by decide +kernel
theorem d_Z_acceptsStart_108 : decode prog_8_method_25_code 108 = .ok (.if_icmp .ne (11), 3) := by decide +kernel
theorem d_Z_acceptsStart_111 : decode prog_8_method_25_code 111 = .ok (.aload_n 0, 1) := by decide +kernel
theorem d_Z_acceptsStart_112 : decode prog_8_method_25_code 112 = .ok (.iconst 0, 1) := by decide +kernel
theorem d_Z_acceptsStart_113 : decode prog_8_method_25_code 113 = .ok (.invokevirtual (290), 3) := by decide +kernel
theorem d_Z_acceptsStart_116 : decode prog_8_method_25_code 116 = .ok (.goto (22), 3) := by decide +kernel
theorem d_Z_acceptsStart_119 : decode prog_8_method_25_code 119 = .ok (.iload_n 1, 1) := by decide +kernel
theorem d_Z_acceptsStart_120 : decode prog_8_method_25_code 120 = .ok (.bipush (40), 2) := by decide +kernel
theorem d_Z_acceptsStart_122 : decode prog_8_method_25_code 122 = .ok (.if_icmp .ne (15), 3) := by decide +kernel
theorem d_Z_acceptsStart_125 : decode prog_8_method_25_code 125 = .ok (.aload_n 0, 1) := by decide +kernel
theorem d_Z_acceptsStart_126 : decode prog_8_method_25_code 126 = .ok (.iconst 1, 1) := by decide +kernel
theorem d_Z_acceptsStart_127 : decode prog_8_method_25_code 127 = .ok (.invokevirtual (290), 3) := by decide +kernel
theorem d_Z_acceptsStart_130 : decode prog_8_method_25_code 130 = .ok (.ifCond .eq (7), 3) := by decide +kernel
theorem d_Z_acceptsStart_133 : decode prog_8_method_25_code 133 = .ok (.iconst 1, 1) := by decide +kernel
theorem d_Z_acceptsStart_134 : decode prog_8_method_25_code 134 = .ok (.goto (4), 3) := by decide +kernel
theorem d_Z_acceptsStart_137 : decode prog_8_method_25_code 137 = .ok (.iconst 0, 1) := by decide +kernel
theorem d_Z_acceptsStart_138 : decode prog_8_method_25_code 138 = .ok (.ireturn, 1) := by decide +kernel
theorem fp_Z_281 : ax_fp "CipherNotationModel" 281 6 46 (.int) := ⟨nC6, nT6, 73, nY6, rfl, nW6, by decide, nw_4 183 (by decide +kernel) rfl, nO6, nA6, by decide +kernel, by decide +kernel⟩
theorem fp_Z_284 : ax_fp "CipherNotationModel" 284 6 47 (.int) := ⟨nC6, nT6, 73, nY6, rfl, nW6, by decide, nw_4 184 (by decide +kernel) rfl, nO6, nA6, by decide +kernel, by decide +kernel⟩
theorem fp_Z_287 : ax_fp "CipherNotationModel" 287 6 48 (.int) := ⟨nC6, nT6, 73, nY6, rfl, nW6, by decide, nw_4 185 (by decide +kernel) rfl, nO6, nA6, by decide +kernel, by decide +kernel⟩
set_option maxRecDepth 100000 in
theorem cw_Z_290 : ax_cw "CipherNotationModel" 290 y_Z_opens (.code y_Z_opens prog_8_method_23_code 2 (some .boolean)) 1 := ⟨nw_5 219 (by decide +kernel) rfl, nw_1 7 (by decide +kernel) rfl, nw_5 222 rfl rfl, by decide +kernel, by decide +kernel⟩
theorem im_Z_opens : Cond.instanceMethod y_Z_opens ∈ ax_tbl := nw_5 221 (by decide +kernel) rfl
theorem se_Z_opens : Cond.selects y_Z_opens.cls y_Z_opens y_Z_opens ∈ ax_tbl := nw_sel 61 (by decide +kernel) (by decide +kernel)
def f_Z_acceptsStart (F : Nat) (a1 : Int32) (a2 : Int32) (s : ax_σ) : Option (Int32 × ax_σ) :=
  Option.bind (f_Z_isState a1) (fun r1 =>
    Option.bind (
      if r1 = (0 : Int32) then
        Option.bind (f_Z_isLetter a1) (fun r3 =>
          if r3 = (0 : Int32) then
            some false
          else
            some true)
      else
        some true) (fun w37 => bif w37 then
      Option.bind (f_Z_isState a1) (fun r7 =>
        Option.bind (
          if r7 = (0 : Int32) then
            some (5 : Int32)
          else
            some (1 : Int32)) (fun v10 =>
          Option.bind (f_Z_isState a1) (fun r11 =>
            Option.bind (
              if r11 = (0 : Int32) then
                some (((a1 - (105 : Int32))).toInt64)
              else
                some (((a1 - (65 : Int32))).toInt64)) (fun v14 =>
              Option.bind (f_Z_emit v10 v14 a2 s) (fun s15 =>
                Option.bind (f_Z_complete F s15) (fun s17 =>
                  some (((1 : Int32), s17))))))))
    else
      Option.bind (
        if a1 = (75 : Int32) then
          some true
        else
          if a1 = (83 : Int32) then
            some true
          else
            some false) (fun w36 => bif w36 then
        Option.bind (
          if a1 = (75 : Int32) then
            some (2 : Int32)
          else
            some (3 : Int32)) (fun v22 =>
          ax_let (ax_wI s 0 38 46 v22) (fun s23 =>
            ax_let (ax_wI s23 0 38 47 a2) (fun s24 =>
              ax_let (ax_wI s24 0 38 48 (s24.1 0 38 42)) (fun s25 =>
                ax_let (ax_wI s25 0 38 7 (30 : Int32)) (fun s26 =>
                  some (((1 : Int32), s26)))))))
      else
        if a1 = (126 : Int32) then
          Option.bind (f_Z_opens (0 : Int32) s) (fun (r32, s33) =>
            bif ax_bo r32 then
              some ((r32, s33))
            else none)
        else
          if a1 = (40 : Int32) then
            Option.bind (f_Z_opens (1 : Int32) s) (fun (r27, s28) =>
              if r27 = (0 : Int32) then
                some (((0 : Int32), s28))
              else
                some (((1 : Int32), s28)))
          else
            some (((0 : Int32), s)))))
set_option maxHeartbeats 4000000 in
set_option maxRecDepth 100000 in
theorem t_Z_acceptsStart {l : Launch} {D : va_G} {cA : Nat → ClassId} {ad : Nat → Nat → Nat} {al : List (Nat × Nat)} {θ : ax_Θ} {ρ : ax_ρ} {F : Nat} (h0 : ax_M0 al) {a1 : Int32} {a2 : Int32} {s : ax_σ} {r0 : Int32} {s0 : ax_σ} (h : f_Z_acceptsStart F a1 a2 s = some (r0, s0)) : ax_T l D cA ad al θ y_Z_acceptsStart (.code y_Z_acceptsStart prog_8_method_25_code 3 (some .boolean)) 2 [.inr (0, 38), .inl (.int (a1)), .inl (.int (a2))] (ax_m s ρ) (some (.inl (.int r0))) (ax_m s0 ρ) := by
  refine ax_T_of (own := "CipherNotationModel") (by decide) rfl (Nat.le_of_ble_eq_true rfl) [(0, .inr (0, 38)), (1, .inl (.int (a1))), (2, .inl (.int (a2)))] rfl ?_
  intro G hA
  have hB := hA.B
  have hK := hB.K
  have hal := hB.la
  unfold f_Z_acceptsStart at h
  refine ax_bk hK (ax_fc (ax_v_ld (ax_r_iload_n (i := 1) d_Z_acceptsStart_0 rfl)) ax_fn) (y := (1, [(0, .inr (0, 38)), (1, .inl (.int (a1))), (2, .inl (.int (a2)))], [.inl (.int (a1))], ax_m (s) ρ)) rfl ⟨trivial, trivial⟩ ?_
  obtain ⟨r1, q2, h⟩ := ax_bd h
  refine ax_bS (rest := []) hB (t_Z_isState q2) cw_Z_272 sm_Z_isState d_Z_acceptsStart_1 (by decide) (by decide) rfl rfl (Nat.le_of_ble_eq_true rfl) ?_
  change ax_R G 3 0 0 (4, [(0, .inr (0, 38)), (1, .inl (.int (a1))), (2, .inl (.int (a2)))], [.inl (.int (r1))], ax_m (s) ρ)
  obtain ⟨w37, hw37, h⟩ := ax_bd h
  have KTw37 : w37 = true → ax_R G 3 0 0 (14, [(0, .inr (0, 38)), (1, .inl (.int (a1))), (2, .inl (.int (a2)))], [], ax_m (s) ρ) := by
    intro e9
    subst w37
    replace h := ax_ct h
    refine ax_bk hK (ax_fc (ax_v_ld (ax_r_aload_n (i := 0) d_Z_acceptsStart_14 rfl)) (ax_fc (ax_v_ld (ax_r_iload_n (i := 1) d_Z_acceptsStart_15 rfl)) ax_fn)) (y := (16, [(0, .inr (0, 38)), (1, .inl (.int (a1))), (2, .inl (.int (a2)))], [.inl (.int (a1)), .inr (0, 38)], ax_m (s) ρ)) rfl ⟨trivial, trivial, trivial⟩ ?_
    obtain ⟨r7, q8, h⟩ := ax_bd h
    refine ax_bS (rest := [.inr (0, 38)]) hB (t_Z_isState q8) cw_Z_272 sm_Z_isState d_Z_acceptsStart_16 (by decide) (by decide) rfl rfl (Nat.le_of_ble_eq_true rfl) ?_
    change ax_R G 3 0 0 (19, [(0, .inr (0, 38)), (1, .inl (.int (a1))), (2, .inl (.int (a2)))], [.inl (.int (r7)), .inr (0, 38)], ax_m (s) ρ)
    obtain ⟨w38, hw38, h⟩ := ax_bd h
    have KEw38 : ∀ (v10 : Int32), w38 = v10 → ax_R G 3 0 0 (27, [(0, .inr (0, 38)), (1, .inl (.int (a1))), (2, .inl (.int (a2)))], [.inl (.int (v10)), .inr (0, 38)], ax_m (s) ρ) := by
      intro v10 e9
      subst w38
      try dsimp only at h
      refine ax_bk hK (ax_fc (ax_v_ld (ax_r_iload_n (i := 1) d_Z_acceptsStart_27 rfl)) ax_fn) (y := (28, [(0, .inr (0, 38)), (1, .inl (.int (a1))), (2, .inl (.int (a2)))], [.inl (.int (a1)), .inl (.int (v10)), .inr (0, 38)], ax_m (s) ρ)) rfl ⟨trivial, trivial⟩ ?_
      obtain ⟨r11, q12, h⟩ := ax_bd h
      refine ax_bS (rest := [.inl (.int (v10)), .inr (0, 38)]) hB (t_Z_isState q12) cw_Z_272 sm_Z_isState d_Z_acceptsStart_28 (by decide) (by decide) rfl rfl (Nat.le_of_ble_eq_true rfl) ?_
      change ax_R G 3 0 0 (31, [(0, .inr (0, 38)), (1, .inl (.int (a1))), (2, .inl (.int (a2)))], [.inl (.int (r11)), .inl (.int (v10)), .inr (0, 38)], ax_m (s) ρ)
      obtain ⟨w39, hw39, h⟩ := ax_bd h
      have KEw39 : ∀ (v14 : Int64), w39 = v14 → ax_R G 3 0 0 (47, [(0, .inr (0, 38)), (2, .inl (.int (a2)))], [.inl (.long (v14)), .inl (.int (v10)), .inr (0, 38)], ax_m (s) ρ) := by
        intro v14 e9
        subst w39
        try dsimp only at h
        refine ax_bk hK (ax_fc (ax_v_ld (ax_r_iload_n (i := 2) d_Z_acceptsStart_47 rfl)) ax_fn) (y := (48, [(0, .inr (0, 38)), (2, .inl (.int (a2)))], [.inl (.int (a2)), .inl (.long (v14)), .inl (.int (v10)), .inr (0, 38)], ax_m (s) ρ)) rfl ⟨trivial, trivial⟩ ?_
        obtain ⟨s15, q16, h⟩ := ax_bd h
        refine ax_bV (rest := []) hB (t_Z_emit h0 q16) cw_Z_243 im_Z_emit se_Z_emit d_Z_acceptsStart_48 (h0 38 rfl) rfl rfl (by decide) (by decide) rfl rfl (Nat.le_of_ble_eq_true rfl) ?_
        change ax_R G 3 0 0 (51, [(0, .inr (0, 38)), (2, .inl (.int (a2)))], [], ax_m (s15) ρ)
        refine ax_bk hK (ax_fc (ax_v_ld (ax_r_aload_n (i := 0) d_Z_acceptsStart_51 rfl)) ax_fn) (y := (52, [(0, .inr (0, 38)), (2, .inl (.int (a2)))], [.inr (0, 38)], ax_m (s15) ρ)) rfl ⟨trivial, trivial⟩ ?_
        obtain ⟨s17, q18, h⟩ := ax_bd h
        refine ax_bV (rest := []) hB (t_Z_complete h0 q18) cw_Z_247 im_Z_complete se_Z_complete d_Z_acceptsStart_52 (h0 38 rfl) rfl rfl (by decide) (by decide) rfl rfl (Nat.le_of_ble_eq_true rfl) ?_
        change ax_R G 3 0 0 (55, [(0, .inr (0, 38)), (2, .inl (.int (a2)))], [], ax_m (s17) ρ)
        refine ax_bk hK (ax_fc (ax_v_pu (ax_r_iconst (v := 1) d_Z_acceptsStart_55 (by decide))) ax_fn) (y := (56, [(0, .inr (0, 38)), (2, .inl (.int (a2)))], [.inl (.int ((1 : Int32)))], ax_m (s17) ρ)) rfl ⟨trivial, trivial⟩ ?_
        cases h
        exact ax_zret hA (by decide) d_Z_acceptsStart_56
      clear h
      have h := hw39
      refine ax_if_eq (tgt := 42) hK d_Z_acceptsStart_31 (by decide) (fun c13 => ?_) (fun c13 => ?_)
      · replace h := ax_it c13 h
        refine ax_bk hK (ax_fc (ax_v_ld (ax_r_iload_n (i := 1) d_Z_acceptsStart_42 rfl)) (ax_fc (ax_v_pu (ax_r_bipush (v := 105) d_Z_acceptsStart_43 (by decide))) (ax_fc (ax_v_pu (ax_r_isub d_Z_acceptsStart_45)) (ax_fc (ax_v_pu (ax_r_i2l d_Z_acceptsStart_46)) ax_fn)))) (y := (47, [(0, .inr (0, 38)), (1, .inl (.int (a1))), (2, .inl (.int (a2)))], [.inl (.long (((a1 - (105 : Int32))).toInt64)), .inl (.int (v10)), .inr (0, 38)], ax_m (s) ρ)) rfl ⟨trivial, trivial, trivial, trivial, trivial⟩ ?_
        cases h
        exact ax_Lsub [0, 2] rfl (KEw39 _ rfl)
      · replace h := ax_if c13 h
        refine ax_bk hK (ax_fc (ax_v_ld (ax_r_iload_n (i := 1) d_Z_acceptsStart_34 rfl)) (ax_fc (ax_v_pu (ax_r_bipush (v := 65) d_Z_acceptsStart_35 (by decide))) (ax_fc (ax_v_pu (ax_r_isub d_Z_acceptsStart_37)) (ax_fc (ax_v_pu (ax_r_i2l d_Z_acceptsStart_38)) (ax_fc (ax_v_go (tgt := 47) d_Z_acceptsStart_39 (by decide)) ax_fn))))) (y := (47, [(0, .inr (0, 38)), (1, .inl (.int (a1))), (2, .inl (.int (a2)))], [.inl (.long (((a1 - (65 : Int32))).toInt64)), .inl (.int (v10)), .inr (0, 38)], ax_m (s) ρ)) rfl ⟨trivial, trivial, trivial, trivial, trivial, trivial⟩ ?_
        cases h
        exact ax_Lsub [0, 2] rfl (KEw39 _ rfl)
    clear h
    have h := hw38
    refine ax_if_eq (tgt := 26) hK d_Z_acceptsStart_19 (by decide) (fun c9 => ?_) (fun c9 => ?_)
    · replace h := ax_it c9 h
      refine ax_bk hK (ax_fc (ax_v_pu (ax_r_iconst (v := 5) d_Z_acceptsStart_26 (by decide))) ax_fn) (y := (27, [(0, .inr (0, 38)), (1, .inl (.int (a1))), (2, .inl (.int (a2)))], [.inl (.int ((5 : Int32))), .inr (0, 38)], ax_m (s) ρ)) rfl ⟨trivial, trivial⟩ ?_
      cases h
      exact ax_Lsub [0, 1, 2] rfl (KEw38 _ rfl)
    · replace h := ax_if c9 h
      refine ax_bk hK (ax_fc (ax_v_pu (ax_r_iconst (v := 1) d_Z_acceptsStart_22 (by decide))) (ax_fc (ax_v_go (tgt := 27) d_Z_acceptsStart_23 (by decide)) ax_fn)) (y := (27, [(0, .inr (0, 38)), (1, .inl (.int (a1))), (2, .inl (.int (a2)))], [.inl (.int ((1 : Int32))), .inr (0, 38)], ax_m (s) ρ)) rfl ⟨trivial, trivial, trivial⟩ ?_
      cases h
      exact ax_Lsub [0, 1, 2] rfl (KEw38 _ rfl)
  have KFw37 : w37 = false → ax_R G 3 0 0 (57, [(0, .inr (0, 38)), (1, .inl (.int (a1))), (2, .inl (.int (a2)))], [], ax_m (s) ρ) := by
    intro e9
    subst w37
    replace h := ax_cf h
    refine ax_bk hK (ax_fc (ax_v_ld (ax_r_iload_n (i := 1) d_Z_acceptsStart_57 rfl)) (ax_fc (ax_v_pu (ax_r_bipush (v := 75) d_Z_acceptsStart_58 (by decide))) ax_fn)) (y := (60, [(0, .inr (0, 38)), (1, .inl (.int (a1))), (2, .inl (.int (a2)))], [.inl (.int ((75 : Int32))), .inl (.int (a1))], ax_m (s) ρ)) rfl ⟨trivial, trivial, trivial⟩ ?_
    obtain ⟨w36, hw36, h⟩ := ax_bd h
    have KTw36 : w36 = true → ax_R G 3 0 0 (69, [(0, .inr (0, 38)), (1, .inl (.int (a1))), (2, .inl (.int (a2)))], [], ax_m (s) ρ) := by
      intro e9
      subst w36
      replace h := ax_ct h
      refine ax_bk hK (ax_fc (ax_v_ld (ax_r_aload_n (i := 0) d_Z_acceptsStart_69 rfl)) (ax_fc (ax_v_ld (ax_r_iload_n (i := 1) d_Z_acceptsStart_70 rfl)) (ax_fc (ax_v_pu (ax_r_bipush (v := 75) d_Z_acceptsStart_71 (by decide))) ax_fn))) (y := (73, [(0, .inr (0, 38)), (1, .inl (.int (a1))), (2, .inl (.int (a2)))], [.inl (.int ((75 : Int32))), .inl (.int (a1)), .inr (0, 38)], ax_m (s) ρ)) rfl ⟨trivial, trivial, trivial, trivial⟩ ?_
      obtain ⟨w40, hw40, h⟩ := ax_bd h
      have KEw40 : ∀ (v22 : Int32), w40 = v22 → ax_R G 3 0 0 (81, [(0, .inr (0, 38)), (2, .inl (.int (a2)))], [.inl (.int (v22)), .inr (0, 38)], ax_m (s) ρ) := by
        intro v22 e9
        subst w40
        try dsimp only at h
        refine ax_bk hK (ax_fc (ax_w_pf (tc := 0) hal d_Z_acceptsStart_81 fp_Z_281 rfl) ax_fn) (y := (84, [(0, .inr (0, 38)), (2, .inl (.int (a2)))], [], ax_m (ax_wI s 0 38 46 v22) ρ)) rfl ⟨(h0 38 rfl), trivial⟩ ?_
        refine ax_lt (Q := fun ςς => ax_R G 3 0 0 (84, [(0, .inr (0, 38)), (2, .inl (.int (a2)))], [], ax_m (ςς) ρ)) h (fun s23 h => ?_)
        refine ax_bk hK (ax_fc (ax_v_ld (ax_r_aload_n (i := 0) d_Z_acceptsStart_84 rfl)) (ax_fc (ax_v_ld (ax_r_iload_n (i := 2) d_Z_acceptsStart_85 rfl)) (ax_fc (ax_w_pf (tc := 0) hal d_Z_acceptsStart_86 fp_Z_284 rfl) ax_fn))) (y := (89, [(0, .inr (0, 38)), (2, .inl (.int (a2)))], [], ax_m (ax_wI s23 0 38 47 a2) ρ)) rfl ⟨trivial, trivial, (h0 38 rfl), trivial⟩ ?_
        refine ax_lt (Q := fun ςς => ax_R G 3 0 0 (89, [(0, .inr (0, 38)), (2, .inl (.int (a2)))], [], ax_m (ςς) ρ)) h (fun s24 h => ?_)
        refine ax_bk hK (ax_fc (ax_v_ld (ax_r_aload_n (i := 0) d_Z_acceptsStart_89 rfl)) (ax_fc (ax_v_ld (ax_r_aload_n (i := 0) d_Z_acceptsStart_90 rfl)) (ax_fc (ax_w_gf (e := none) hal d_Z_acceptsStart_91 fd_Z_198) (ax_fc (ax_w_pf (tc := 0) hal d_Z_acceptsStart_94 fp_Z_287 rfl) ax_fn)))) (y := (97, [(0, .inr (0, 38)), (2, .inl (.int (a2)))], [], ax_m (ax_wI s24 0 38 48 (s24.1 0 38 42)) ρ)) rfl ⟨trivial, trivial, (h0 38 rfl), (h0 38 rfl), trivial⟩ ?_
        refine ax_lt (Q := fun ςς => ax_R G 3 0 0 (97, [(0, .inr (0, 38)), (2, .inl (.int (a2)))], [], ax_m (ςς) ρ)) h (fun s25 h => ?_)
        refine ax_bk hK (ax_fc (ax_v_ld (ax_r_aload_n (i := 0) d_Z_acceptsStart_97 rfl)) (ax_fc (ax_v_pu (ax_r_bipush (v := 30) d_Z_acceptsStart_98 (by decide))) (ax_fc (ax_w_pf (tc := 0) hal d_Z_acceptsStart_100 fp_Z_168 rfl) ax_fn))) (y := (103, [(0, .inr (0, 38)), (2, .inl (.int (a2)))], [], ax_m (ax_wI s25 0 38 7 (30 : Int32)) ρ)) rfl ⟨trivial, trivial, (h0 38 rfl), trivial⟩ ?_
        refine ax_lt (Q := fun ςς => ax_R G 3 0 0 (103, [(0, .inr (0, 38)), (2, .inl (.int (a2)))], [], ax_m (ςς) ρ)) h (fun s26 h => ?_)
        refine ax_bk hK (ax_fc (ax_v_pu (ax_r_iconst (v := 1) d_Z_acceptsStart_103 (by decide))) ax_fn) (y := (104, [(0, .inr (0, 38)), (2, .inl (.int (a2)))], [.inl (.int ((1 : Int32)))], ax_m (s26) ρ)) rfl ⟨trivial, trivial⟩ ?_
        cases h
        exact ax_zret hA (by decide) d_Z_acceptsStart_104
      clear h
      have h := hw40
      refine ax_ic_ne (tgt := 80) hK d_Z_acceptsStart_73 (by decide) (fun c21 => ?_) (fun c21 => ?_)
      · replace h := ax_if c21 h
        refine ax_bk hK (ax_fc (ax_v_pu (ax_r_iconst (v := 3) d_Z_acceptsStart_80 (by decide))) ax_fn) (y := (81, [(0, .inr (0, 38)), (1, .inl (.int (a1))), (2, .inl (.int (a2)))], [.inl (.int ((3 : Int32))), .inr (0, 38)], ax_m (s) ρ)) rfl ⟨trivial, trivial⟩ ?_
        cases h
        exact ax_Lsub [0, 2] rfl (KEw40 _ rfl)
      · replace h := ax_it c21 h
        refine ax_bk hK (ax_fc (ax_v_pu (ax_r_iconst (v := 2) d_Z_acceptsStart_76 (by decide))) (ax_fc (ax_v_go (tgt := 81) d_Z_acceptsStart_77 (by decide)) ax_fn)) (y := (81, [(0, .inr (0, 38)), (1, .inl (.int (a1))), (2, .inl (.int (a2)))], [.inl (.int ((2 : Int32))), .inr (0, 38)], ax_m (s) ρ)) rfl ⟨trivial, trivial, trivial⟩ ?_
        cases h
        exact ax_Lsub [0, 2] rfl (KEw40 _ rfl)
    have KFw36 : w36 = false → ax_R G 3 0 0 (105, [(0, .inr (0, 38)), (1, .inl (.int (a1)))], [], ax_m (s) ρ) := by
      intro e9
      subst w36
      replace h := ax_cf h
      refine ax_bk hK (ax_fc (ax_v_ld (ax_r_iload_n (i := 1) d_Z_acceptsStart_105 rfl)) (ax_fc (ax_v_pu (ax_r_bipush (v := 126) d_Z_acceptsStart_106 (by decide))) ax_fn)) (y := (108, [(0, .inr (0, 38)), (1, .inl (.int (a1)))], [.inl (.int ((126 : Int32))), .inl (.int (a1))], ax_m (s) ρ)) rfl ⟨trivial, trivial, trivial⟩ ?_
      refine ax_ic_ne (tgt := 119) hK d_Z_acceptsStart_108 (by decide) (fun c35 => ?_) (fun c35 => ?_)
      · replace h := ax_if c35 h
        refine ax_bk hK (ax_fc (ax_v_ld (ax_r_iload_n (i := 1) d_Z_acceptsStart_119 rfl)) (ax_fc (ax_v_pu (ax_r_bipush (v := 40) d_Z_acceptsStart_120 (by decide))) ax_fn)) (y := (122, [(0, .inr (0, 38)), (1, .inl (.int (a1)))], [.inl (.int ((40 : Int32))), .inl (.int (a1))], ax_m (s) ρ)) rfl ⟨trivial, trivial, trivial⟩ ?_
        refine ax_ic_ne (tgt := 137) hK d_Z_acceptsStart_122 (by decide) (fun c31 => ?_) (fun c31 => ?_)
        · replace h := ax_if c31 h
          refine ax_bk hK (ax_fc (ax_v_pu (ax_r_iconst (v := 0) d_Z_acceptsStart_137 (by decide))) ax_fn) (y := (138, [(0, .inr (0, 38)), (1, .inl (.int (a1)))], [.inl (.int ((0 : Int32)))], ax_m (s) ρ)) rfl ⟨trivial, trivial⟩ ?_
          cases h
          exact ax_zret hA (by decide) d_Z_acceptsStart_138
        · replace h := ax_it c31 h
          refine ax_bk hK (ax_fc (ax_v_ld (ax_r_aload_n (i := 0) d_Z_acceptsStart_125 rfl)) (ax_fc (ax_v_pu (ax_r_iconst (v := 1) d_Z_acceptsStart_126 (by decide))) ax_fn)) (y := (127, [(0, .inr (0, 38)), (1, .inl (.int (a1)))], [.inl (.int ((1 : Int32))), .inr (0, 38)], ax_m (s) ρ)) rfl ⟨trivial, trivial, trivial⟩ ?_
          obtain ⟨⟨r27, s28⟩, q29, h⟩ := ax_bd h
          dsimp only at h
          refine ax_bV (rest := []) hB (t_Z_opens h0 q29) cw_Z_290 im_Z_opens se_Z_opens d_Z_acceptsStart_127 (h0 38 rfl) rfl rfl (by decide) (by decide) rfl rfl (Nat.le_of_ble_eq_true rfl) ?_
          change ax_R G 3 0 0 (130, [(0, .inr (0, 38)), (1, .inl (.int (a1)))], [.inl (.int (r27))], ax_m (s28) ρ)
          refine ax_if_eq (tgt := 137) hK d_Z_acceptsStart_130 (by decide) (fun c30 => ?_) (fun c30 => ?_)
          · replace h := ax_it c30 h
            refine ax_bk hK (ax_fc (ax_v_pu (ax_r_iconst (v := 0) d_Z_acceptsStart_137 (by decide))) ax_fn) (y := (138, [(0, .inr (0, 38)), (1, .inl (.int (a1)))], [.inl (.int ((0 : Int32)))], ax_m (s28) ρ)) rfl ⟨trivial, trivial⟩ ?_
            cases h
            exact ax_zret hA (by decide) d_Z_acceptsStart_138
          · replace h := ax_if c30 h
            refine ax_bk hK (ax_fc (ax_v_pu (ax_r_iconst (v := 1) d_Z_acceptsStart_133 (by decide))) (ax_fc (ax_v_go (tgt := 138) d_Z_acceptsStart_134 (by decide)) ax_fn)) (y := (138, [(0, .inr (0, 38)), (1, .inl (.int (a1)))], [.inl (.int ((1 : Int32)))], ax_m (s28) ρ)) rfl ⟨trivial, trivial, trivial⟩ ?_
            cases h
            exact ax_zret hA (by decide) d_Z_acceptsStart_138
      · replace h := ax_it c35 h
        refine ax_bk hK (ax_fc (ax_v_ld (ax_r_aload_n (i := 0) d_Z_acceptsStart_111 rfl)) (ax_fc (ax_v_pu (ax_r_iconst (v := 0) d_Z_acceptsStart_112 (by decide))) ax_fn)) (y := (113, [(0, .inr (0, 38)), (1, .inl (.int (a1)))], [.inl (.int ((0 : Int32))), .inr (0, 38)], ax_m (s) ρ)) rfl ⟨trivial, trivial, trivial⟩ ?_
        obtain ⟨⟨r32, s33⟩, q34, h⟩ := ax_bd h
        dsimp only at h
        refine ax_bV (rest := []) hB (t_Z_opens h0 q34) cw_Z_290 im_Z_opens se_Z_opens d_Z_acceptsStart_113 (h0 38 rfl) rfl rfl (by decide) (by decide) rfl rfl (Nat.le_of_ble_eq_true rfl) ?_
        change ax_R G 3 0 0 (116, [(0, .inr (0, 38)), (1, .inl (.int (a1)))], [.inl (.int (r32))], ax_m (s33) ρ)
        refine ax_bk hK (ax_fc (ax_v_go (tgt := 138) d_Z_acceptsStart_116 (by decide)) ax_fn) (y := (138, [(0, .inr (0, 38)), (1, .inl (.int (a1)))], [.inl (.int (r32))], ax_m (s33) ρ)) rfl ⟨trivial, trivial⟩ ?_
        obtain ⟨b41, h⟩ := ax_gd h
        cases h
        exact ax_zret hA (ax_bop b41) d_Z_acceptsStart_138
    clear h
    have h := hw36
    refine ax_ic_eq (tgt := 69) hK d_Z_acceptsStart_60 (by decide) (fun c20 => ?_) (fun c20 => ?_)
    · replace h := ax_it c20 h
      cases h
      exact ax_Lsub [0, 1, 2] rfl (KTw36 rfl)
    · replace h := ax_if c20 h
      refine ax_bk hK (ax_fc (ax_v_ld (ax_r_iload_n (i := 1) d_Z_acceptsStart_63 rfl)) (ax_fc (ax_v_pu (ax_r_bipush (v := 83) d_Z_acceptsStart_64 (by decide))) ax_fn)) (y := (66, [(0, .inr (0, 38)), (1, .inl (.int (a1))), (2, .inl (.int (a2)))], [.inl (.int ((83 : Int32))), .inl (.int (a1))], ax_m (s) ρ)) rfl ⟨trivial, trivial, trivial⟩ ?_
      refine ax_ic_ne (tgt := 105) hK d_Z_acceptsStart_66 (by decide) (fun c19 => ?_) (fun c19 => ?_)
      · replace h := ax_if c19 h
        cases h
        exact ax_Lsub [0, 1] rfl (KFw36 rfl)
      · replace h := ax_it c19 h
        cases h
        exact ax_Lsub [0, 1, 2] rfl (KTw36 rfl)
  clear h
  have h := hw37
  refine ax_if_ne (tgt := 14) hK d_Z_acceptsStart_4 (by decide) (fun c6 => ?_) (fun c6 => ?_)
  · replace h := ax_if c6 h
    cases h
    exact ax_Lsub [0, 1, 2] rfl (KTw37 rfl)
  · replace h := ax_it c6 h
    refine ax_bk hK (ax_fc (ax_v_ld (ax_r_iload_n (i := 1) d_Z_acceptsStart_7 rfl)) ax_fn) (y := (8, [(0, .inr (0, 38)), (1, .inl (.int (a1))), (2, .inl (.int (a2)))], [.inl (.int (a1))], ax_m (s) ρ)) rfl ⟨trivial, trivial⟩ ?_
    obtain ⟨r3, q4, h⟩ := ax_bd h
    refine ax_bS (rest := []) hB (t_Z_isLetter q4) cw_Z_269 sm_Z_isLetter d_Z_acceptsStart_8 (by decide) (by decide) rfl rfl (Nat.le_of_ble_eq_true rfl) ?_
    change ax_R G 3 0 0 (11, [(0, .inr (0, 38)), (1, .inl (.int (a1))), (2, .inl (.int (a2)))], [.inl (.int (r3))], ax_m (s) ρ)
    refine ax_if_eq (tgt := 57) hK d_Z_acceptsStart_11 (by decide) (fun c5 => ?_) (fun c5 => ?_)
    · replace h := ax_it c5 h
      cases h
      exact ax_Lsub [0, 1, 2] rfl (KFw37 rfl)
    · replace h := ax_if c5 h
      cases h
      exact ax_Lsub [0, 1, 2] rfl (KTw37 rfl)
