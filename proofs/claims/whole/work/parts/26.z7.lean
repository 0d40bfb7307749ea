def y_Z_checkExpression : MethodName := ⟨"CipherNotationModel", "checkExpression", "(I)V"⟩
theorem d_Z_checkExpression_0 : decode prog_8_method_37_code 0 = .ok (.aload_n 0, 1) := by decide +kernel
theorem d_Z_checkExpression_1 : decode prog_8_method_37_code 1 = .ok (.iload_n 1, 1) := by decide +kernel
theorem d_Z_checkExpression_2 : decode prog_8_method_37_code 2 = .ok (.invokevirtual (313), 3) := by decide +kernel
theorem d_Z_checkExpression_5 : decode prog_8_method_37_code 5 = .ok (.istore_n 2, 1) := by decide +kernel
theorem d_Z_checkExpression_6 : decode prog_8_method_37_code 6 = .ok (.aload_n 0, 1) := by decide +kernel
theorem d_Z_checkExpression_7 : decode prog_8_method_37_code 7 = .ok (.getfield (60), 3) := by decide +kernel
theorem d_Z_checkExpression_10 : decode prog_8_method_37_code 10 = .ok (.iload_n 1, 1) := by decide +kernel
theorem d_Z_checkExpression_11 : decode prog_8_method_37_code 11 = .ok (.iaload, 1) := by decide +kernel
theorem d_Z_checkExpression_12 : decode prog_8_method_37_code 12 = .ok (.istore_n 3, 1) := by decide +kernel
theorem d_Z_checkExpression_13 : decode prog_8_method_37_code 13 = .ok (.iload_n 3, 1) := by decide +kernel
theorem d_Z_checkExpression_14 : decode prog_8_method_37_code 14 = .ok (.aload_n 0, 1) := by decide +kernel
theorem d_Z_checkExpression_15 : decode prog_8_method_37_code 15 = .ok (.getfield (63), 3) := by decide +kernel
theorem d_Z_checkExpression_18 : decode prog_8_method_37_code 18 = .ok (.iload_n 1, 1) := by decide +kernel
theorem d_Z_checkExpression_19 : decode prog_8_method_37_code 19 = .ok (.iaload, 1) := by decide +kernel
theorem d_Z_checkExpression_20 : decode prog_8_method_37_code 20 = .ok (.if_icmp .ge (368), 3) := by decide +kernel
theorem d_Z_checkExpression_23 : decode prog_8_method_37_code 23 = .ok (.aload_n 0, 1) := by decide +kernel
theorem d_Z_checkExpression_24 : decode prog_8_method_37_code 24 = .ok (.getfield (72), 3) := by decide +kernel
theorem d_Z_checkExpression_27 : decode prog_8_method_37_code 27 = .ok (.iload_n 3, 1) := by decide +kernel
theorem d_Z_checkExpression_28 : decode prog_8_method_37_code 28 = .ok (.iaload, 1) := by decide +kernel
theorem d_Z_checkExpression_29 : decode prog_8_method_37_code 29 = .ok (.tableswitch (353) (1) (7) #[43, 220, 220, 127, 151, 353, 185], 43) := by decide +kernel
theorem d_Z_checkExpression_72 : decode prog_8_method_37_code 72 = .ok (.aload_n 0, 1) := by decide +kernel
theorem d_Z_checkExpression_73 : decode prog_8_method_37_code 73 = .ok (.iload_n 1, 1) := by decide +kernel
theorem d_Z_checkExpression_74 : decode prog_8_method_37_code 74 = .ok (.aload_n 0, 1) := by decide +kernel
theorem d_Z_checkExpression_75 : decode prog_8_method_37_code 75 = .ok (.getfield (189), 3) := by decide +kernel
theorem d_Z_checkExpression_78 : decode prog_8_method_37_code 78 = .ok (.if_icmp .lt (19), 3) := by decide +kernel
theorem d_Z_checkExpression_81 : decode prog_8_method_37_code 81 = .ok (.aload_n 0, 1) := by decide +kernel
theorem d_Z_checkExpression_82 : decode prog_8_method_37_code 82 = .ok (.getfield (75), 3) := by decide +kernel
theorem d_Z_checkExpression_85 : decode prog_8_method_37_code 85 = .ok (.iload_n 3, 1) := by decide +kernel
theorem d_Z_checkExpression_86 : decode prog_8_method_37_code 86 = .ok (.laload, 1) := by decide +kernel
theorem d_Z_checkExpression_87 : decode prog_8_method_37_code 87 = .ok (.aload_n 0, 1) := by decide +kernel
theorem d_Z_checkExpression_88 : decode prog_8_method_37_code 88 = .ok (.getfield (20), 3) := by decide +kernel
theorem d_Z_checkExpression_91 : decode prog_8_method_37_code 91 = .ok (.iconst 1, 1) := by decide +kernel
theorem d_Z_checkExpression_92 : decode prog_8_method_37_code 92 = .ok (.laload, 1) := by decide +kernel
theorem d_Z_checkExpression_93 : decode prog_8_method_37_code 93 = .ok (.lcmp, 1) := by decide +kernel
theorem d_Z_checkExpression_94 : decode prog_8_method_37_code 94 = .ok (.ifCond .lt (7), 3) := by decide +kernel
theorem d_Z_checkExpression_97 : decode prog_8_method_37_code 97 = .ok (.iconst 1, 1) := by decide +kernel
theorem d_Z_checkExpression_98 : decode prog_8_method_37_code 98 = .ok (.goto (4), 3) := by decide +kernel
theorem d_Z_checkExpression_101 : decode prog_8_method_37_code 101 = .ok (.iconst 0, 1) := by decide +kernel
theorem d_Z_checkExpression_102 : decode prog_8_method_37_code 102 = .ok (.iconst 4, 1) := by decide +kernel
theorem d_Z_checkExpression_103 : decode prog_8_method_37_code 103 = .ok (.aload_n 0, 1) := by decide +kernel
theorem d_Z_checkExpression_104 : decode prog_8_method_37_code 104 = .ok (.getfield (78), 3) := by decide +kernel
theorem d_Z_checkExpression_107 : decode prog_8_method_37_code 107 = .ok (.iload_n 3, 1) := by decide +kernel
theorem d_Z_checkExpression_108 : decode prog_8_method_37_code 108 = .ok (.iaload, 1) := by decide +kernel
theorem d_Z_checkExpression_109 : decode prog_8_method_37_code 109 = .ok (.invokevirtual (316), 3) := by decide +kernel
theorem d_Z_checkExpression_112 : decode prog_8_method_37_code 112 = .ok (.aload_n 0, 1) := by decide +kernel
theorem d_Z_checkExpression_113 : decode prog_8_method_37_code 113 = .ok (.iload_n 1, 1) := by decide +kernel
theorem d_Z_checkExpression_114 : decode prog_8_method_37_code 114 = .ok (.aload_n 0, 1) := by decide +kernel
theorem d_Z_checkExpression_115 : decode prog_8_method_37_code 115 = .ok (.getfield (189), 3) := by decide +kernel
theorem d_Z_checkExpression_118 : decode prog_8_method_37_code 118 = .ok (.if_icmp .lt (24), 3) := by decide +kernel
theorem d_Z_checkExpression_121 : decode prog_8_method_37_code 121 = .ok (.aload_n 0, 1) := by decide +kernel
theorem d_Z_checkExpression_122 : decode prog_8_method_37_code 122 = .ok (.getfield (75), 3) := by decide +kernel
theorem d_Z_checkExpression_125 : decode prog_8_method_37_code 125 = .ok (.iload_n 3, 1) := by decide +kernel
theorem d_Z_checkExpression_126 : decode prog_8_method_37_code 126 = .ok (.laload, 1) := by decide +kernel
theorem d_Z_checkExpression_127 : decode prog_8_method_37_code 127 = .ok (.aload_n 0, 1) := by decide +kernel
theorem d_Z_checkExpression_128 : decode prog_8_method_37_code 128 = .ok (.getfield (45), 3) := by decide +kernel
theorem d_Z_checkExpression_131 : decode prog_8_method_37_code 131 = .ok (.iload_n 1, 1) := by decide +kernel
theorem d_Z_checkExpression_132 : decode prog_8_method_37_code 132 = .ok (.iaload, 1) := by decide +kernel
theorem d_Z_checkExpression_133 : decode prog_8_method_37_code 133 = .ok (.i2l, 1) := by decide +kernel
theorem d_Z_checkExpression_134 : decode prog_8_method_37_code 134 = .ok (.lcmp, 1) := by decide +kernel
theorem d_Z_checkExpression_135 : decode prog_8_method_37_code 135 = .ok (.ifCond .ne (7), 3) := by decide +kernel
theorem d_Z_checkExpression_138 : decode prog_8_method_37_code 138 = .ok (.iconst 1, 1) := by decide +kernel
theorem d_Z_checkExpression_139 : decode prog_8_method_37_code 139 = .ok (.goto (4), 3) := by decide +kernel
theorem d_Z_checkExpression_142 : decode prog_8_method_37_code 142 = .ok (.iconst 0, 1) := by decide +kernel
theorem d_Z_checkExpression_143 : decode prog_8_method_37_code 143 = .ok (.iconst 5, 1) := by decide +kernel
theorem d_Z_checkExpression_144 : decode prog_8_method_37_code 144 = .ok (.aload_n 0, 1) := by decide +kernel
theorem d_Z_checkExpression_145 : decode prog_8_method_37_code 145 = .ok (.getfield (42), 3) := by decide +kernel
theorem d_Z_checkExpression_148 : decode prog_8_method_37_code 148 = .ok (.iload_n 1, 1) := by decide +kernel
theorem d_Z_checkExpression_149 : decode prog_8_method_37_code 149 = .ok (.iaload, 1) := by decide +kernel
theorem d_Z_checkExpression_150 : decode prog_8_method_37_code 150 = .ok (.invokevirtual (316), 3) := by decide +kernel
theorem d_Z_checkExpression_153 : decode prog_8_method_37_code 153 = .ok (.goto (229), 3) := by decide +kernel
theorem d_Z_checkExpression_156 : decode prog_8_method_37_code 156 = .ok (.aload_n 0, 1) := by decide +kernel
theorem d_Z_checkExpression_157 : decode prog_8_method_37_code 157 = .ok (.aload_n 0, 1) := by decide +kernel
theorem d_Z_checkExpression_158 : decode prog_8_method_37_code 158 = .ok (.aload_n 0, 1) := by decide +kernel
theorem d_Z_checkExpression_159 : decode prog_8_method_37_code 159 = .ok (.getfield (75), 3) := by decide +kernel
theorem d_Z_checkExpression_162 : decode prog_8_method_37_code 162 = .ok (.iload_n 3, 1) := by decide +kernel
theorem d_Z_checkExpression_163 : decode prog_8_method_37_code 163 = .ok (.laload, 1) := by decide +kernel
theorem d_Z_checkExpression_164 : decode prog_8_method_37_code 164 = .ok (.invokevirtual (320), 3) := by decide +kernel
theorem d_Z_checkExpression_167 : decode prog_8_method_37_code 167 = .ok (.iconst 3, 1) := by decide +kernel
theorem d_Z_checkExpression_168 : decode prog_8_method_37_code 168 = .ok (.aload_n 0, 1) := by decide +kernel
theorem d_Z_checkExpression_169 : decode prog_8_method_37_code 169 = .ok (.getfield (78), 3) := by decide +kernel
theorem d_Z_checkExpression_172 : decode prog_8_method_37_code 172 = .ok (.iload_n 3, 1) := by decide +kernel
theorem d_Z_checkExpression_173 : decode prog_8_method_37_code 173 = .ok (.iaload, 1) := by decide +kernel
theorem d_Z_checkExpression_174 : decode prog_8_method_37_code 174 = .ok (.invokevirtual (316), 3) := by decide +kernel
theorem d_Z_checkExpression_177 : decode prog_8_method_37_code 177 = .ok (.goto (205), 3) := by decide +kernel
theorem d_Z_checkExpression_180 : decode prog_8_method_37_code 180 = .ok (.aload_n 0, 1) := by decide +kernel
theorem d_Z_checkExpression_181 : decode prog_8_method_37_code 181 = .ok (.aload_n 0, 1) := by decide +kernel
theorem d_Z_checkExpression_182 : decode prog_8_method_37_code 182 = .ok (.aload_n 0, 1) := by decide +kernel
theorem d_Z_checkExpression_183 : decode prog_8_method_37_code 183 = .ok (.getfield (75), 3) := by decide +kernel
theorem d_Z_checkExpression_186 : decode prog_8_method_37_code 186 = .ok (.iload_n 3, 1) := by decide +kernel
theorem d_Z_checkExpression_187 : decode prog_8_method_37_code 187 = .ok (.laload, 1) := by decide +kernel
theorem d_Z_checkExpression_188 : decode prog_8_method_37_code 188 = .ok (.l2i, 1) := by decide +kernel
theorem d_Z_checkExpression_189 : decode prog_8_method_37_code 189 = .ok (.iload_n 2, 1) := by decide +kernel
theorem d_Z_checkExpression_190 : decode prog_8_method_37_code 190 = .ok (.invokevirtual (324), 3) := by decide +kernel
theorem d_Z_checkExpression_193 : decode prog_8_method_37_code 193 = .ok (.ifCond .ne (7), 3) := by decide +kernel
theorem d_Z_checkExpression_196 : decode prog_8_method_37_code 196 = .ok (.iconst 1, 1) := by decide +kernel
theorem d_Z_checkExpression_197 : decode prog_8_method_37_code 197 = .ok (.goto (4), 3) := by decide +kernel
theorem d_Z_checkExpression_200 : decode prog_8_method_37_code 200 = .ok (.iconst 0, 1) := by decide +kernel
theorem d_Z_checkExpression_201 : decode prog_8_method_37_code 201 = .ok (.iconst 4, 1) := by decide +kernel
theorem d_Z_checkExpression_202 : decode prog_8_method_37_code 202 = .ok (.aload_n 0, 1) := by decide +kernel
theorem d_Z_checkExpression_203 : decode prog_8_method_37_code 203 = .ok (.getfield (78), 3) := by decide +kernel
theorem d_Z_checkExpression_206 : decode prog_8_method_37_code 206 = .ok (.iload_n 3, 1) := by decide +kernel
theorem d_Z_checkExpression_207 : decode prog_8_method_37_code 207 = .ok (.iaload, 1) := by decide +kernel
theorem d_Z_checkExpression_208 : decode prog_8_method_37_code 208 = .ok (.invokevirtual (316), 3) := by decide +kernel
theorem d_Z_checkExpression_211 : decode prog_8_method_37_code 211 = .ok (.goto (171), 3) := by decide +kernel
theorem d_Z_checkExpression_214 : decode prog_8_method_37_code 214 = .ok (.aload_n 0, 1) := by decide +kernel
theorem d_Z_checkExpression_215 : decode prog_8_method_37_code 215 = .ok (.aload_n 0, 1) := by decide +kernel
theorem d_Z_checkExpression_216 : decode prog_8_method_37_code 216 = .ok (.getfield (75), 3) := by decide +kernel
theorem d_Z_checkExpression_219 : decode prog_8_method_37_code 219 = .ok (.iload_n 3, 1) := by decide +kernel
theorem d_Z_checkExpression_220 : decode prog_8_method_37_code 220 = .ok (.laload, 1) := by decide +kernel
theorem d_Z_checkExpression_221 : decode prog_8_method_37_code 221 = .ok (.aload_n 0, 1) := by decide +kernel
theorem d_Z_checkExpression_222 : decode prog_8_method_37_code 222 = .ok (.getfield (20), 3) := by decide +kernel
theorem d_Z_checkExpression_225 : decode prog_8_method_37_code 225 = .ok (.iconst 0, 1) := by decide +kernel
theorem d_Z_checkExpression_226 : decode prog_8_method_37_code 226 = .ok (.laload, 1) := by decide +kernel
theorem d_Z_checkExpression_227 : decode prog_8_method_37_code 227 = .ok (.lcmp, 1) := by decide +kernel
theorem d_Z_checkExpression_228 : decode prog_8_method_37_code 228 = .ok (.ifCond .lt (7), 3) := by decide +kernel
theorem d_Z_checkExpression_231 : decode prog_8_method_37_code 231 = .ok (.iconst 1, 1) := by decide +kernel
theorem d_Z_checkExpression_232 : decode prog_8_method_37_code 232 = .ok (.goto (4), 3) := by decide +kernel
theorem d_Z_checkExpression_235 : decode prog_8_method_37_code 235 = .ok (.iconst 0, 1) := by decide +kernel
theorem d_Z_checkExpression_236 : decode prog_8_method_37_code 236 = .ok (.iconst 3, 1) := by decide +kernel
theorem d_Z_checkExpression_237 : decode prog_8_method_37_code 237 = .ok (.aload_n 0, 1) := by decide +kernel
theorem d_Z_checkExpression_238 : decode prog_8_method_37_code 238 = .ok (.getfield (78), 3) := by decide +kernel
theorem d_Z_checkExpression_241 : decode prog_8_method_37_code 241 = .ok (.iload_n 3, 1) := by decide +kernel
theorem d_Z_checkExpression_242 : decode prog_8_method_37_code 242 = .ok (.iaload, 1) := by decide +kernel
theorem d_Z_checkExpression_243 : decode prog_8_method_37_code 243 = .ok (.invokevirtual (316), 3) := by decide +kernel
theorem d_Z_checkExpression_246 : decode prog_8_method_37_code 246 = .ok (.goto (136), 3) := by decide +kernel
theorem d_Z_checkExpression_249 : decode prog_8_method_37_code 249 = .ok (.iconst 1, 1) := by decide +kernel
theorem d_Z_checkExpression_250 : decode prog_8_method_37_code 250 = .ok (.istore (4), 2) := by decide +kernel
theorem d_Z_checkExpression_252 : decode prog_8_method_37_code 252 = .ok (.aload_n 0, 1) := by decide +kernel
theorem d_Z_checkExpression_253 : decode prog_8_method_37_code 253 = .ok (.getfield (81), 3) := by decide +kernel
theorem d_Z_checkExpression_256 : decode prog_8_method_37_code 256 = .ok (.iload_n 3, 1) := by decide +kernel
theorem d_Z_checkExpression_257 : decode prog_8_method_37_code 257 = .ok (.iaload, 1) := by decide +kernel
theorem d_Z_checkExpression_258 : decode prog_8_method_37_code 258 = .ok (.istore (5), 2) := by decide +kernel
theorem d_Z_checkExpression_260 : decode prog_8_method_37_code 260 = .ok (.iload (5), 2) := by decide +kernel
theorem d_Z_checkExpression_262 : decode prog_8_method_37_code 262 = .ok (.aload_n 0, 1) := by decide +kernel
theorem d_Z_checkExpression_263 : decode prog_8_method_37_code 263 = .ok (.getfield (84), 3) := by decide +kernel
theorem d_Z_checkExpression_266 : decode prog_8_method_37_code 266 = .ok (.iload_n 3, 1) := by decide +kernel
theorem d_Z_checkExpression_267 : decode prog_8_method_37_code 267 = .ok (.iaload, 1) := by decide +kernel
theorem d_Z_checkExpression_268 : decode prog_8_method_37_code 268 = .ok (.if_icmp .ge (80), 3) := by decide +kernel
theorem d_Z_checkExpression_271 : decode prog_8_method_37_code 271 = .ok (.aload_n 0, 1) := by decide +kernel
theorem d_Z_checkExpression_272 : decode prog_8_method_37_code 272 = .ok (.getfield (90), 3) := by decide +kernel
theorem d_Z_checkExpression_275 : decode prog_8_method_37_code 275 = .ok (.iload (5), 2) := by decide +kernel
theorem d_Z_checkExpression_277 : decode prog_8_method_37_code 277 = .ok (.iaload, 1) := by decide +kernel
theorem d_Z_checkExpression_278 : decode prog_8_method_37_code 278 = .ok (.ifCond .lt (18), 3) := by decide +kernel
theorem d_Z_checkExpression_281 : decode prog_8_method_37_code 281 = .ok (.aload_n 0, 1) := by decide +kernel
theorem d_Z_checkExpression_282 : decode prog_8_method_37_code 282 = .ok (.aload_n 0, 1) := by decide +kernel
theorem d_Z_checkExpression_283 : decode prog_8_method_37_code 283 = .ok (.getfield (90), 3) := by decide +kernel
theorem d_Z_checkExpression_286 : decode prog_8_method_37_code 286 = .ok (.iload (5), 2) := by decide +kernel
theorem d_Z_checkExpression_288 : decode prog_8_method_37_code 288 = .ok (.iaload, 1) := by decide +kernel
theorem d_Z_checkExpression_289 : decode prog_8_method_37_code 289 = .ok (.iload_n 2, 1) := by decide +kernel
theorem d_Z_checkExpression_290 : decode prog_8_method_37_code 290 = .ok (.invokevirtual (324), 3) := by decide +kernel
theorem d_Z_checkExpression_293 : decode prog_8_method_37_code 293 = .ok (.ifCond .eq (7), 3) := by decide +kernel
theorem d_Z_checkExpression_296 : decode prog_8_method_37_code 296 = .ok (.iconst 1, 1) := by decide +kernel
theorem d_Z_checkExpression_297 : decode prog_8_method_37_code 297 = .ok (.goto (4), 3) := by decide +kernel
theorem d_Z_checkExpression_300 : decode prog_8_method_37_code 300 = .ok (.iconst 0, 1) := by decide +kernel
theorem d_Z_checkExpression_301 : decode prog_8_method_37_code 301 = .ok (.istore (6), 2) := by decide +kernel
theorem d_Z_checkExpression_303 : decode prog_8_method_37_code 303 = .ok (.aload_n 0, 1) := by decide +kernel
theorem d_Z_checkExpression_304 : decode prog_8_method_37_code 304 = .ok (.iload (6), 2) := by decide +kernel
theorem d_Z_checkExpression_306 : decode prog_8_method_37_code 306 = .ok (.ifCond .ne (7), 3) := by decide +kernel
theorem d_Z_checkExpression_309 : decode prog_8_method_37_code 309 = .ok (.iconst 1, 1) := by decide +kernel
theorem d_Z_checkExpression_310 : decode prog_8_method_37_code 310 = .ok (.goto (4), 3) := by decide +kernel
theorem d_Z_checkExpression_313 : decode prog_8_method_37_code 313 = .ok (.iconst 0, 1) := by decide +kernel
theorem d_Z_checkExpression_314 : decode prog_8_method_37_code 314 = .ok (.iconst 4, 1) := by decide +kernel
theorem d_Z_checkExpression_315 : decode prog_8_method_37_code 315 = .ok (.aload_n 0, 1) := by decide +kernel
theorem d_Z_checkExpression_316 : decode prog_8_method_37_code 316 = .ok (.getfield (93), 3) := by decide +kernel
theorem d_Z_checkExpression_319 : decode prog_8_method_37_code 319 = .ok (.iload (5), 2) := by decide +kernel
theorem d_Z_checkExpression_321 : decode prog_8_method_37_code 321 = .ok (.iaload, 1) := by decide +kernel
theorem d_Z_checkExpression_322 : decode prog_8_method_37_code 322 = .ok (.invokevirtual (316), 3) := by decide +kernel
theorem d_Z_checkExpression_325 : decode prog_8_method_37_code 325 = .ok (.iload (4), 2) := by decide +kernel
theorem d_Z_checkExpression_327 : decode prog_8_method_37_code 327 = .ok (.ifCond .eq (12), 3) := by decide +kernel
theorem d_Z_checkExpression_330 : decode prog_8_method_37_code 330 = .ok (.iload (6), 2) := by decide +kernel
theorem d_Z_checkExpression_332 : decode prog_8_method_37_code 332 = .ok (.ifCond .eq (7), 3) := by decide +kernel
theorem d_Z_checkExpression_335 : decode prog_8_method_37_code 335 = .ok (.iconst 1, 1) := by decide +kernel
theorem d_Z_checkExpression_336 : decode prog_8_method_37_code 336 = .ok (.goto (4), 3) := by decide +kernel
theorem d_Z_checkExpression_339 : decode prog_8_method_37_code 339 = .ok (.iconst 0, 1) := by decide +kernel
theorem d_Z_checkExpression_340 : decode prog_8_method_37_code 340 = .ok (.istore (4), 2) := by decide +kernel
theorem d_Z_checkExpression_342 : decode prog_8_method_37_code 342 = .ok (.iinc 5 (1), 3) := by decide +kernel
theorem d_Z_checkExpression_345 : decode prog_8_method_37_code 345 = .ok (.goto (-85), 3) := by decide +kernel
theorem d_Z_checkExpression_348 : decode prog_8_method_37_code 348 = .ok (.aload_n 0, 1) := by decide +kernel
theorem d_Z_checkExpression_349 : decode prog_8_method_37_code 349 = .ok (.iload (4), 2) := by decide +kernel
theorem d_Z_checkExpression_351 : decode prog_8_method_37_code 351 = .ok (.ifCond .eq (17), 3) := by decide +kernel
theorem d_Z_checkExpression_354 : decode prog_8_method_37_code 354 = .ok (.aload_n 0, 1) := by decide +kernel
theorem d_Z_checkExpression_355 : decode prog_8_method_37_code 355 = .ok (.iload_n 1, 1) := by decide +kernel
theorem d_Z_checkExpression_356 : decode prog_8_method_37_code 356 = .ok (.iload_n 3, 1) := by decide +kernel
theorem d_Z_checkExpression_357 : decode prog_8_method_37_code 357 = .ok (.iload_n 2, 1) := by decide +kernel
theorem d_Z_checkExpression_358 : decode prog_8_method_37_code 358 = .ok (.invokevirtual (327), 3) := by decide +kernel
theorem d_Z_checkExpression_361 : decode prog_8_method_37_code 361 = .ok (.ifCond .eq (7), 3) := by decide +kernel
theorem d_Z_checkExpression_364 : decode prog_8_method_37_code 364 = .ok (.iconst 1, 1) := by decide +kernel
theorem d_Z_checkExpression_365 : decode prog_8_method_37_code 365 = .ok (.goto (4), 3) := by decide +kernel
theorem d_Z_checkExpression_368 : decode prog_8_method_37_code 368 = .ok (.iconst 0, 1) := by decide +kernel
theorem d_Z_checkExpression_369 : decode prog_8_method_37_code 369 = .ok (.iconst 3, 1) := by decide +kernel
theorem d_Z_checkExpression_370 : decode prog_8_method_37_code 370 = .ok (.aload_n 0, 1) := by decide +kernel
theorem d_Z_checkExpression_371 : decode prog_8_method_37_code 371 = .ok (.getfield (78), 3) := by decide +kernel
theorem d_Z_checkExpression_374 : decode prog_8_method_37_code 374 = .ok (.iload_n 3, 1) := by decide +kernel
theorem d_Z_checkExpression_375 : decode prog_8_method_37_code 375 = .ok (.iaload, 1) := by decide +kernel
theorem d_Z_checkExpression_376 : decode prog_8_method_37_code 376 = .ok (.invokevirtual (316), 3) := by decide +kernel
theorem d_Z_checkExpression_379 : decode prog_8_method_37_code 379 = .ok (.goto (3), 3) := by decide +kernel
theorem d_Z_checkExpression_382 : decode prog_8_method_37_code 382 = .ok (.iinc 3 (1), 3) := by decide +kernel
theorem d_Z_checkExpression_385 : decode prog_8_method_37_code 385 = .ok (.goto (-372), 3) := by decide +kernel
theorem d_Z_checkExpression_388 : decode prog_8_method_37_code 388 = .ok (.return_, 1) := by decide +kernel
set_option maxRecDepth 100000 in
theorem cw_Z_316 : ax_cw "CipherNotationModel" 316 y_Z_consider (.code y_Z_consider prog_8_method_28_code 4 none) 3 := ⟨nw_5 234 (by decide +kernel) rfl, nw_1 7 (by decide +kernel) rfl, nw_5 237 rfl rfl, by decide +kernel, by decide +kernel⟩
theorem im_Z_consider : Cond.instanceMethod y_Z_consider ∈ ax_tbl := nw_5 236 (by decide +kernel) rfl
theorem se_Z_consider : Cond.selects y_Z_consider.cls y_Z_consider y_Z_consider ∈ ax_tbl := nw_sel 64 (by decide +kernel) (by decide +kernel)
set_option maxRecDepth 100000 in
theorem cw_Z_324 : ax_cw "CipherNotationModel" 324 y_Z_isOpen (.code y_Z_isOpen prog_8_method_33_code 5 (some .boolean)) 2 := ⟨nw_6 5 (by decide +kernel) rfl, nw_1 7 (by decide +kernel) rfl, nw_6 8 rfl rfl, by decide +kernel, by decide +kernel⟩
theorem im_Z_isOpen : Cond.instanceMethod y_Z_isOpen ∈ ax_tbl := nw_6 7 (by decide +kernel) rfl
theorem se_Z_isOpen : Cond.selects y_Z_isOpen.cls y_Z_isOpen y_Z_isOpen ∈ ax_tbl := nw_sel 66 (by decide +kernel) (by decide +kernel)
def lp_Z_checkExpression_260 (F : Nat) (x1 : Int32) (x2 : Int32) (x3 : Int32) : Nat → Int32 → Int32 → ax_σ → Option (Int32 × ax_σ)
  | 0, _, _, _ => none
  | n + 1, x4, x5, s =>
    bif ax_in x3 240 then
    if (s.1 0 62 (x3).toNatClampNeg) ≤ x5 then
      some (x4, s)
    else
      bif ax_in x5 240 then
      Option.bind (
        Option.bind (
          if (s.1 0 64 (x5).toNatClampNeg) < (0 : Int32) then
            some true
          else
            bif ax_in x5 240 then
            Option.bind (f_Z_isOpen F (s.1 0 64 (x5).toNatClampNeg) x2 s) (fun r29 =>
              if r29 = (0 : Int32) then
                some false
              else
                some true)
            else none) (fun w33 => bif w33 then
          some (1 : Int32)
        else
          some (0 : Int32))) (fun v34 =>
        Option.bind (
          if v34 = (0 : Int32) then
            some (1 : Int32)
          else
            some (0 : Int32)) (fun v36 =>
          bif ax_in x5 240 then
          Option.bind (f_Z_consider v36 (4 : Int32) (s.1 0 65 (x5).toNatClampNeg) s) (fun s38 =>
            Option.bind (
              if x4 = (0 : Int32) then
                some true
              else
                if v34 = (0 : Int32) then
                  some true
                else
                  some false) (fun w42 => bif w42 then
              lp_Z_checkExpression_260 F x1 x2 x3 n (0 : Int32) (x5 + (1 : Int32)) s38
            else
              lp_Z_checkExpression_260 F x1 x2 x3 n (1 : Int32) (x5 + (1 : Int32)) s38))
          else none))
      else none
    else none
set_option maxHeartbeats 4000000 in
set_option maxRecDepth 100000 in
theorem pl_Z_checkExpression_260 {D : va_G} {cA : Nat → ClassId} {ad : Nat → Nat → Nat} {al : List (Nat × Nat)} {θ : ax_Θ} {l : Launch} {ρ : ax_ρ} {G : ax_G} {F : Nat} {x1 : Int32} {x2 : Int32} {x3 : Int32} (h0 : ax_M0 al) (hB : ax_B D cA ad al θ l "CipherNotationModel" prog_8_method_37_code 7 3 G) : ∀ (n : Nat) {x4 : Int32} {x5 : Int32} {s : ax_σ} (out : Int32 × ax_σ), lp_Z_checkExpression_260 F x1 x2 x3 n x4 x5 s = some out → (∀ (e4 : Int32) (es : ax_σ), out = (e4, es) → ax_R G 7 0 0 (348, [(0, .inr (0, 38)), (1, .inl (.int (x1))), (2, .inl (.int (x2))), (3, .inl (.int (x3))), (4, .inl (.int (e4)))], [], ax_m (es) ρ)) → ax_R G 7 0 0 (260, [(0, .inr (0, 38)), (1, .inl (.int (x1))), (2, .inl (.int (x2))), (3, .inl (.int (x3))), (4, .inl (.int (x4))), (5, .inl (.int (x5)))], [], ax_m (s) ρ) := by
  have hK := hB.K
  have hal := hB.la
  intro n
  induction n with
  | zero =>
    intro x4 x5 s out h
    cases h
  | succ n ih =>
    intro x4 x5 s out h KE
    rw [lp_Z_checkExpression_260] at h
    obtain ⟨b26, h⟩ := ax_gd h
    refine ax_bk hK (ax_fc (ax_v_ld (ax_r_iload d_Z_checkExpression_260)) (ax_fc (ax_v_ld (ax_r_aload_n (i := 0) d_Z_checkExpression_262 rfl)) (ax_fc (ax_w_gf (e := none) hal d_Z_checkExpression_263 fd_Z_84) (ax_fc (ax_v_ld (ax_r_iload_n (i := 3) d_Z_checkExpression_266 rfl)) (ax_fc (ax_w_iald hal d_Z_checkExpression_267) ax_fn))))) (y := (268, [(0, .inr (0, 38)), (1, .inl (.int (x1))), (2, .inl (.int (x2))), (3, .inl (.int (x3))), (4, .inl (.int (x4))), (5, .inl (.int (x5)))], [.inl (.int ((s.1 0 62 (x3).toNatClampNeg))), .inl (.int (x5))], ax_m (s) ρ)) rfl ⟨trivial, trivial, (h0 38 rfl), trivial, ⟨(h0 62 rfl), ax_inp b26⟩, trivial⟩ ?_
    refine ax_ic_ge (tgt := 348) hK d_Z_checkExpression_268 (by decide) (fun c43 => ?_) (fun c43 => ?_)
    · replace h := ax_it c43 h
      cases h
      exact ax_Lsub [0, 1, 2, 3, 4] rfl (KE _ _ rfl)
    · replace h := ax_if c43 h
      obtain ⟨b27, h⟩ := ax_gd h
      refine ax_bk hK (ax_fc (ax_v_ld (ax_r_aload_n (i := 0) d_Z_checkExpression_271 rfl)) (ax_fc (ax_w_gf (e := none) hal d_Z_checkExpression_272 fd_Z_90) (ax_fc (ax_v_ld (ax_r_iload d_Z_checkExpression_275)) (ax_fc (ax_w_iald hal d_Z_checkExpression_277) ax_fn)))) (y := (278, [(0, .inr (0, 38)), (1, .inl (.int (x1))), (2, .inl (.int (x2))), (3, .inl (.int (x3))), (4, .inl (.int (x4))), (5, .inl (.int (x5)))], [.inl (.int ((s.1 0 64 (x5).toNatClampNeg)))], ax_m (s) ρ)) rfl ⟨trivial, (h0 38 rfl), trivial, ⟨(h0 64 rfl), ax_inp b27⟩, trivial⟩ ?_
      obtain ⟨w44, hw44, h⟩ := ax_bd h
      have KEw44 : ∀ (v34 : Int32), w44 = v34 → ax_R G 7 0 0 (301, [(0, .inr (0, 38)), (1, .inl (.int (x1))), (2, .inl (.int (x2))), (3, .inl (.int (x3))), (4, .inl (.int (x4))), (5, .inl (.int (x5)))], [.inl (.int (v34))], ax_m (s) ρ) := by
        intro v34 e9
        subst w44
        try dsimp only at h
        refine ax_bk hK (ax_fc (ax_v_so (ax_r_istore d_Z_checkExpression_301)) (ax_fc (ax_v_ld (ax_r_aload_n (i := 0) d_Z_checkExpression_303 rfl)) (ax_fc (ax_v_ld (ax_r_iload d_Z_checkExpression_304)) ax_fn))) (y := (306, [(6, .inl (.int (v34))), (0, .inr (0, 38)), (1, .inl (.int (x1))), (2, .inl (.int (x2))), (3, .inl (.int (x3))), (4, .inl (.int (x4))), (5, .inl (.int (x5)))], [.inl (.int (v34)), .inr (0, 38)], ax_m (s) ρ)) rfl ⟨trivial, trivial, trivial, trivial⟩ ?_
        obtain ⟨w45, hw45, h⟩ := ax_bd h
        have KEw45 : ∀ (v36 : Int32), w45 = v36 → ax_R G 7 0 0 (314, [(0, .inr (0, 38)), (1, .inl (.int (x1))), (2, .inl (.int (x2))), (3, .inl (.int (x3))), (4, .inl (.int (x4))), (5, .inl (.int (x5))), (6, .inl (.int (v34)))], [.inl (.int (v36)), .inr (0, 38)], ax_m (s) ρ) := by
          intro v36 e9
          subst w45
          try dsimp only at h
          obtain ⟨b37, h⟩ := ax_gd h
          refine ax_bk hK (ax_fc (ax_v_pu (ax_r_iconst (v := 4) d_Z_checkExpression_314 (by decide))) (ax_fc (ax_v_ld (ax_r_aload_n (i := 0) d_Z_checkExpression_315 rfl)) (ax_fc (ax_w_gf (e := none) hal d_Z_checkExpression_316 fd_Z_93) (ax_fc (ax_v_ld (ax_r_iload d_Z_checkExpression_319)) (ax_fc (ax_w_iald hal d_Z_checkExpression_321) ax_fn))))) (y := (322, [(0, .inr (0, 38)), (1, .inl (.int (x1))), (2, .inl (.int (x2))), (3, .inl (.int (x3))), (4, .inl (.int (x4))), (5, .inl (.int (x5))), (6, .inl (.int (v34)))], [.inl (.int ((s.1 0 65 (x5).toNatClampNeg))), .inl (.int ((4 : Int32))), .inl (.int (v36)), .inr (0, 38)], ax_m (s) ρ)) rfl ⟨trivial, trivial, (h0 38 rfl), trivial, ⟨(h0 65 rfl), ax_inp b37⟩, trivial⟩ ?_
          obtain ⟨s38, q39, h⟩ := ax_bd h
          refine ax_bV (rest := []) hB (t_Z_consider h0 q39) cw_Z_316 im_Z_consider se_Z_consider d_Z_checkExpression_322 (h0 38 rfl) rfl rfl (by decide) (by decide) rfl rfl (Nat.le_of_ble_eq_true rfl) ?_
          change ax_R G 7 0 0 (325, [(0, .inr (0, 38)), (1, .inl (.int (x1))), (2, .inl (.int (x2))), (3, .inl (.int (x3))), (4, .inl (.int (x4))), (5, .inl (.int (x5))), (6, .inl (.int (v34)))], [], ax_m (s38) ρ)
          refine ax_bk hK (ax_fc (ax_v_ld (ax_r_iload d_Z_checkExpression_325)) ax_fn) (y := (327, [(0, .inr (0, 38)), (1, .inl (.int (x1))), (2, .inl (.int (x2))), (3, .inl (.int (x3))), (4, .inl (.int (x4))), (5, .inl (.int (x5))), (6, .inl (.int (v34)))], [.inl (.int (x4))], ax_m (s38) ρ)) rfl ⟨trivial, trivial⟩ ?_
          obtain ⟨w42, hw42, h⟩ := ax_bd h
          have KTw42 : w42 = true → ax_R G 7 0 0 (339, [(0, .inr (0, 38)), (1, .inl (.int (x1))), (2, .inl (.int (x2))), (3, .inl (.int (x3))), (5, .inl (.int (x5)))], [], ax_m (s38) ρ) := by
            intro e9
            subst w42
            replace h := ax_ct h
            refine ax_bk hK (ax_fc (ax_v_pu (ax_r_iconst (v := 0) d_Z_checkExpression_339 (by decide))) (ax_fc (ax_v_so (ax_r_istore d_Z_checkExpression_340)) (ax_fc (ax_v_ii (d := 1) d_Z_checkExpression_342 (by decide)) (ax_fc (ax_v_go (tgt := 260) d_Z_checkExpression_345 (by decide)) ax_fn)))) (y := (260, [(5, .inl (.int ((x5 + (1 : Int32))))), (4, .inl (.int ((0 : Int32)))), (0, .inr (0, 38)), (1, .inl (.int (x1))), (2, .inl (.int (x2))), (3, .inl (.int (x3)))], [], ax_m (s38) ρ)) rfl ⟨trivial, trivial, trivial, trivial, trivial⟩ ?_
            exact ax_Lsub [2, 3, 4, 5, 1, 0] rfl (ih _ h KE)
          have KFw42 : w42 = false → ax_R G 7 0 0 (335, [(0, .inr (0, 38)), (1, .inl (.int (x1))), (2, .inl (.int (x2))), (3, .inl (.int (x3))), (5, .inl (.int (x5)))], [], ax_m (s38) ρ) := by
            intro e9
            subst w42
            replace h := ax_cf h
            refine ax_bk hK (ax_fc (ax_v_pu (ax_r_iconst (v := 1) d_Z_checkExpression_335 (by decide))) (ax_fc (ax_v_go (tgt := 340) d_Z_checkExpression_336 (by decide)) ax_fn)) (y := (340, [(0, .inr (0, 38)), (1, .inl (.int (x1))), (2, .inl (.int (x2))), (3, .inl (.int (x3))), (5, .inl (.int (x5)))], [.inl (.int ((1 : Int32)))], ax_m (s38) ρ)) rfl ⟨trivial, trivial, trivial⟩ ?_
            refine ax_bk hK (ax_fc (ax_v_so (ax_r_istore d_Z_checkExpression_340)) (ax_fc (ax_v_ii (d := 1) d_Z_checkExpression_342 (by decide)) (ax_fc (ax_v_go (tgt := 260) d_Z_checkExpression_345 (by decide)) ax_fn))) (y := (260, [(5, .inl (.int ((x5 + (1 : Int32))))), (4, .inl (.int ((1 : Int32)))), (0, .inr (0, 38)), (1, .inl (.int (x1))), (2, .inl (.int (x2))), (3, .inl (.int (x3)))], [], ax_m (s38) ρ)) rfl ⟨trivial, trivial, trivial, trivial⟩ ?_
            exact ax_Lsub [2, 3, 4, 5, 1, 0] rfl (ih _ h KE)
          clear h
          have h := hw42
          refine ax_if_eq (tgt := 339) hK d_Z_checkExpression_327 (by decide) (fun c41 => ?_) (fun c41 => ?_)
          · replace h := ax_it c41 h
            cases h
            exact ax_Lsub [0, 1, 2, 3, 5] rfl (KTw42 rfl)
          · replace h := ax_if c41 h
            refine ax_bk hK (ax_fc (ax_v_ld (ax_r_iload d_Z_checkExpression_330)) ax_fn) (y := (332, [(0, .inr (0, 38)), (1, .inl (.int (x1))), (2, .inl (.int (x2))), (3, .inl (.int (x3))), (4, .inl (.int (x4))), (5, .inl (.int (x5))), (6, .inl (.int (v34)))], [.inl (.int (v34))], ax_m (s38) ρ)) rfl ⟨trivial, trivial⟩ ?_
            refine ax_if_eq (tgt := 339) hK d_Z_checkExpression_332 (by decide) (fun c40 => ?_) (fun c40 => ?_)
            · replace h := ax_it c40 h
              cases h
              exact ax_Lsub [0, 1, 2, 3, 5] rfl (KTw42 rfl)
            · replace h := ax_if c40 h
              cases h
              exact ax_Lsub [0, 1, 2, 3, 5] rfl (KFw42 rfl)
        clear h
        have h := hw45
        refine ax_if_ne (tgt := 313) hK d_Z_checkExpression_306 (by decide) (fun c35 => ?_) (fun c35 => ?_)
        · replace h := ax_if c35 h
          refine ax_bk hK (ax_fc (ax_v_pu (ax_r_iconst (v := 0) d_Z_checkExpression_313 (by decide))) ax_fn) (y := (314, [(6, .inl (.int (v34))), (0, .inr (0, 38)), (1, .inl (.int (x1))), (2, .inl (.int (x2))), (3, .inl (.int (x3))), (4, .inl (.int (x4))), (5, .inl (.int (x5)))], [.inl (.int ((0 : Int32))), .inr (0, 38)], ax_m (s) ρ)) rfl ⟨trivial, trivial⟩ ?_
          cases h
          exact ax_Lsub [1, 2, 3, 4, 5, 6, 0] rfl (KEw45 _ rfl)
        · replace h := ax_it c35 h
          refine ax_bk hK (ax_fc (ax_v_pu (ax_r_iconst (v := 1) d_Z_checkExpression_309 (by decide))) (ax_fc (ax_v_go (tgt := 314) d_Z_checkExpression_310 (by decide)) ax_fn)) (y := (314, [(6, .inl (.int (v34))), (0, .inr (0, 38)), (1, .inl (.int (x1))), (2, .inl (.int (x2))), (3, .inl (.int (x3))), (4, .inl (.int (x4))), (5, .inl (.int (x5)))], [.inl (.int ((1 : Int32))), .inr (0, 38)], ax_m (s) ρ)) rfl ⟨trivial, trivial, trivial⟩ ?_
          cases h
          exact ax_Lsub [1, 2, 3, 4, 5, 6, 0] rfl (KEw45 _ rfl)
      clear h
      have h := hw44
      obtain ⟨w33, hw33, h⟩ := ax_bd h
      have KTw33 : w33 = true → ax_R G 7 0 0 (296, [(0, .inr (0, 38)), (1, .inl (.int (x1))), (2, .inl (.int (x2))), (3, .inl (.int (x3))), (4, .inl (.int (x4))), (5, .inl (.int (x5)))], [], ax_m (s) ρ) := by
        intro e9
        subst w33
        replace h := ax_ct h
        refine ax_bk hK (ax_fc (ax_v_pu (ax_r_iconst (v := 1) d_Z_checkExpression_296 (by decide))) (ax_fc (ax_v_go (tgt := 301) d_Z_checkExpression_297 (by decide)) ax_fn)) (y := (301, [(0, .inr (0, 38)), (1, .inl (.int (x1))), (2, .inl (.int (x2))), (3, .inl (.int (x3))), (4, .inl (.int (x4))), (5, .inl (.int (x5)))], [.inl (.int ((1 : Int32)))], ax_m (s) ρ)) rfl ⟨trivial, trivial, trivial⟩ ?_
        cases h
        exact ax_Lsub [0, 1, 2, 3, 4, 5] rfl (KEw44 _ rfl)
      have KFw33 : w33 = false → ax_R G 7 0 0 (300, [(0, .inr (0, 38)), (1, .inl (.int (x1))), (2, .inl (.int (x2))), (3, .inl (.int (x3))), (4, .inl (.int (x4))), (5, .inl (.int (x5)))], [], ax_m (s) ρ) := by
        intro e9
        subst w33
        replace h := ax_cf h
        refine ax_bk hK (ax_fc (ax_v_pu (ax_r_iconst (v := 0) d_Z_checkExpression_300 (by decide))) ax_fn) (y := (301, [(0, .inr (0, 38)), (1, .inl (.int (x1))), (2, .inl (.int (x2))), (3, .inl (.int (x3))), (4, .inl (.int (x4))), (5, .inl (.int (x5)))], [.inl (.int ((0 : Int32)))], ax_m (s) ρ)) rfl ⟨trivial, trivial⟩ ?_
        cases h
        exact ax_Lsub [0, 1, 2, 3, 4, 5] rfl (KEw44 _ rfl)
      clear h
      have h := hw33
      refine ax_if_lt (tgt := 296) hK d_Z_checkExpression_278 (by decide) (fun c32 => ?_) (fun c32 => ?_)
      · replace h := ax_it c32 h
        cases h
        exact ax_Lsub [0, 1, 2, 3, 4, 5] rfl (KTw33 rfl)
      · replace h := ax_if c32 h
        obtain ⟨b28, h⟩ := ax_gd h
        refine ax_bk hK (ax_fc (ax_v_ld (ax_r_aload_n (i := 0) d_Z_checkExpression_281 rfl)) (ax_fc (ax_v_ld (ax_r_aload_n (i := 0) d_Z_checkExpression_282 rfl)) (ax_fc (ax_w_gf (e := none) hal d_Z_checkExpression_283 fd_Z_90) (ax_fc (ax_v_ld (ax_r_iload d_Z_checkExpression_286)) (ax_fc (ax_w_iald hal d_Z_checkExpression_288) (ax_fc (ax_v_ld (ax_r_iload_n (i := 2) d_Z_checkExpression_289 rfl)) ax_fn)))))) (y := (290, [(0, .inr (0, 38)), (1, .inl (.int (x1))), (2, .inl (.int (x2))), (3, .inl (.int (x3))), (4, .inl (.int (x4))), (5, .inl (.int (x5)))], [.inl (.int (x2)), .inl (.int ((s.1 0 64 (x5).toNatClampNeg))), .inr (0, 38)], ax_m (s) ρ)) rfl ⟨trivial, trivial, (h0 38 rfl), trivial, ⟨(h0 64 rfl), ax_inp b28⟩, trivial, trivial⟩ ?_
        obtain ⟨r29, q30, h⟩ := ax_bd h
        refine ax_bV (rest := []) hB (t_Z_isOpen h0 q30) cw_Z_324 im_Z_isOpen se_Z_isOpen d_Z_checkExpression_290 (h0 38 rfl) rfl rfl (by decide) (by decide) rfl rfl (Nat.le_of_ble_eq_true rfl) ?_
        change ax_R G 7 0 0 (293, [(0, .inr (0, 38)), (1, .inl (.int (x1))), (2, .inl (.int (x2))), (3, .inl (.int (x3))), (4, .inl (.int (x4))), (5, .inl (.int (x5)))], [.inl (.int (r29))], ax_m (s) ρ)
        refine ax_if_eq (tgt := 300) hK d_Z_checkExpression_293 (by decide) (fun c31 => ?_) (fun c31 => ?_)
        · replace h := ax_it c31 h
          cases h
          exact ax_Lsub [0, 1, 2, 3, 4, 5] rfl (KFw33 rfl)
        · replace h := ax_if c31 h
          cases h
          exact ax_Lsub [0, 1, 2, 3, 4, 5] rfl (KTw33 rfl)
set_option maxRecDepth 100000 in
theorem cw_Z_327 : ax_cw "CipherNotationModel" 327 y_Z_isTooGreat (.code y_Z_isTooGreat prog_8_method_36_code 11 (some .boolean)) 3 := ⟨nw_6 18 (by decide +kernel) rfl, nw_1 7 (by decide +kernel) rfl, nw_6 21 rfl rfl, by decide +kernel, by decide +kernel⟩
theorem im_Z_isTooGreat : Cond.instanceMethod y_Z_isTooGreat ∈ ax_tbl := nw_6 20 (by decide +kernel) rfl
theorem se_Z_isTooGreat : Cond.selects y_Z_isTooGreat.cls y_Z_isTooGreat y_Z_isTooGreat ∈ ax_tbl := nw_sel 69 (by decide +kernel) (by decide +kernel)
set_option maxRecDepth 100000 in
theorem cw_Z_320 : ax_cw "CipherNotationModel" 320 y_Z_isWide (.code y_Z_isWide prog_8_method_30_code 3 (some .boolean)) 1 := ⟨nw_6 13 (by decide +kernel) rfl, nw_1 7 (by decide +kernel) rfl, nw_6 16 rfl rfl, by decide +kernel, by decide +kernel⟩
theorem im_Z_isWide : Cond.instanceMethod y_Z_isWide ∈ ax_tbl := nw_6 15 (by decide +kernel) rfl
theorem se_Z_isWide : Cond.selects y_Z_isWide.cls y_Z_isWide y_Z_isWide ∈ ax_tbl := nw_sel 68 (by decide +kernel) (by decide +kernel)
def lp_Z_checkExpression_13 (F : Nat) (x1 : Int32) (x2 : Int32) : Nat → Int32 → ax_σ → Option (ax_σ)
  | 0, _, _ => none
  | n + 1, x3, s =>
    bif ax_in x1 240 then
    if (s.1 0 55 (x1).toNatClampNeg) ≤ x3 then
      some s
    else
      bif ax_in x3 240 then
      if (s.1 0 58 (x3).toNatClampNeg) = (1 : Int32) then
        Option.bind (
          Option.bind (
            if x1 < (s.1 0 38 23) then
              some true
            else
              bif ax_in x3 240 then
              bif ax_in (1 : Int32) 3 then
              if (lg_cmp (s.2 0 59 (x3).toNatClampNeg) (s.2 0 41 ((1 : Int32)).toNatClampNeg)) < (0 : Int32) then
                some false
              else
                some true
              else none
              else none) (fun w11 => bif w11 then
            some (1 : Int32)
          else
            some (0 : Int32))) (fun v12 =>
          bif ax_in x3 240 then
          Option.bind (f_Z_consider v12 (4 : Int32) (s.1 0 60 (x3).toNatClampNeg) s) (fun s14 =>
            Option.bind (
              Option.bind (
                if x1 < (s14.1 0 38 23) then
                  some true
                else
                  bif ax_in x3 240 then
                  bif ax_in x1 240 then
                  if (lg_cmp (s14.2 0 59 (x3).toNatClampNeg) ((s14.1 0 49 (x1).toNatClampNeg)).toInt64) = (0 : Int32) then
                    some false
                  else
                    some true
                  else none
                  else none) (fun w20 => bif w20 then
                some (0 : Int32)
              else
                some (1 : Int32))) (fun v21 =>
              bif ax_in x1 240 then
              Option.bind (f_Z_consider v21 (5 : Int32) (s14.1 0 48 (x1).toNatClampNeg) s14) (fun s23 =>
                lp_Z_checkExpression_13 F x1 x2 n (x3 + (1 : Int32)) s23)
              else none))
          else none)
      else
      if (s.1 0 58 (x3).toNatClampNeg) = (2 : Int32) then
        bif ax_in x3 240 then
        Option.bind (lp_Z_checkExpression_260 F x1 x2 x3 F (1 : Int32) (s.1 0 61 (x3).toNatClampNeg) s) (fun (v44, s45) =>
          Option.bind (
            if v44 = (0 : Int32) then
              some ((0 : Int32), s45)
            else
              Option.bind (f_Z_isTooGreat F x1 x3 x2 s45) (fun (r46, s47) =>
                if r46 = (0 : Int32) then
                  some ((0 : Int32), s47)
                else
                  some ((1 : Int32), s47))) (fun (v51, s52) =>
            bif ax_in x3 240 then
            Option.bind (f_Z_consider v51 (3 : Int32) (s52.1 0 60 (x3).toNatClampNeg) s52) (fun s54 =>
              lp_Z_checkExpression_13 F x1 x2 n (x3 + (1 : Int32)) s54)
            else none))
        else none
      else
      if (s.1 0 58 (x3).toNatClampNeg) = (3 : Int32) then
        bif ax_in x3 240 then
        Option.bind (lp_Z_checkExpression_260 F x1 x2 x3 F (1 : Int32) (s.1 0 61 (x3).toNatClampNeg) s) (fun (v57, s58) =>
          Option.bind (
            if v57 = (0 : Int32) then
              some ((0 : Int32), s58)
            else
              Option.bind (f_Z_isTooGreat F x1 x3 x2 s58) (fun (r59, s60) =>
                if r59 = (0 : Int32) then
                  some ((0 : Int32), s60)
                else
                  some ((1 : Int32), s60))) (fun (v64, s65) =>
            bif ax_in x3 240 then
            Option.bind (f_Z_consider v64 (3 : Int32) (s65.1 0 60 (x3).toNatClampNeg) s65) (fun s67 =>
              lp_Z_checkExpression_13 F x1 x2 n (x3 + (1 : Int32)) s67)
            else none))
        else none
      else
      if (s.1 0 58 (x3).toNatClampNeg) = (4 : Int32) then
        bif ax_in x3 240 then
        Option.bind (f_Z_isWide (s.2 0 59 (x3).toNatClampNeg) s) (fun r70 =>
          bif ax_in x3 240 then
          Option.bind (f_Z_consider r70 (3 : Int32) (s.1 0 60 (x3).toNatClampNeg) s) (fun s73 =>
            lp_Z_checkExpression_13 F x1 x2 n (x3 + (1 : Int32)) s73)
          else none)
        else none
      else
      if (s.1 0 58 (x3).toNatClampNeg) = (5 : Int32) then
        bif ax_in x3 240 then
        Option.bind (f_Z_isOpen F (((s.2 0 59 (x3).toNatClampNeg)).toInt32) x2 s) (fun r76 =>
          Option.bind (
            if r76 = (0 : Int32) then
              some (1 : Int32)
            else
              some (0 : Int32)) (fun v79 =>
            bif ax_in x3 240 then
            Option.bind (f_Z_consider v79 (4 : Int32) (s.1 0 60 (x3).toNatClampNeg) s) (fun s81 =>
              lp_Z_checkExpression_13 F x1 x2 n (x3 + (1 : Int32)) s81)
            else none))
        else none
      else
      if (s.1 0 58 (x3).toNatClampNeg) = (6 : Int32) then
        lp_Z_checkExpression_13 F x1 x2 n (x3 + (1 : Int32)) s
      else
      if (s.1 0 58 (x3).toNatClampNeg) = (7 : Int32) then
        bif ax_in x3 240 then
        bif ax_in (0 : Int32) 3 then
        Option.bind (
          if (lg_cmp (s.2 0 59 (x3).toNatClampNeg) (s.2 0 41 ((0 : Int32)).toNatClampNeg)) < (0 : Int32) then
            some (0 : Int32)
          else
            some (1 : Int32)) (fun v86 =>
          bif ax_in x3 240 then
          Option.bind (f_Z_consider v86 (3 : Int32) (s.1 0 60 (x3).toNatClampNeg) s) (fun s88 =>
            lp_Z_checkExpression_13 F x1 x2 n (x3 + (1 : Int32)) s88)
          else none)
        else none
        else none
      else
        lp_Z_checkExpression_13 F x1 x2 n (x3 + (1 : Int32)) s
      else none
    else none
set_option maxHeartbeats 4000000 in
set_option maxRecDepth 100000 in
theorem pl_Z_checkExpression_13 {D : va_G} {cA : Nat → ClassId} {ad : Nat → Nat → Nat} {al : List (Nat × Nat)} {θ : ax_Θ} {l : Launch} {ρ : ax_ρ} {G : ax_G} {F : Nat} {x1 : Int32} {x2 : Int32} (h0 : ax_M0 al) (hB : ax_B D cA ad al θ l "CipherNotationModel" prog_8_method_37_code 7 3 G) : ∀ (n : Nat) {x3 : Int32} {s : ax_σ} (out : ax_σ), lp_Z_checkExpression_13 F x1 x2 n x3 s = some out → (∀ (es : ax_σ), out = es → ax_R G 7 0 0 (388, [], [], ax_m (es) ρ)) → ax_R G 7 0 0 (13, [(0, .inr (0, 38)), (1, .inl (.int (x1))), (2, .inl (.int (x2))), (3, .inl (.int (x3)))], [], ax_m (s) ρ) := by
  have hK := hB.K
  have hal := hB.la
  intro n
  induction n with
  | zero =>
    intro x3 s out h
    cases h
  | succ n ih =>
    intro x3 s out h KE
    rw [lp_Z_checkExpression_13] at h
    obtain ⟨b5, h⟩ := ax_gd h
    refine ax_bk hK (ax_fc (ax_v_ld (ax_r_iload_n (i := 3) d_Z_checkExpression_13 rfl)) (ax_fc (ax_v_ld (ax_r_aload_n (i := 0) d_Z_checkExpression_14 rfl)) (ax_fc (ax_w_gf (e := none) hal d_Z_checkExpression_15 fd_Z_63) (ax_fc (ax_v_ld (ax_r_iload_n (i := 1) d_Z_checkExpression_18 rfl)) (ax_fc (ax_w_iald hal d_Z_checkExpression_19) ax_fn))))) (y := (20, [(0, .inr (0, 38)), (1, .inl (.int (x1))), (2, .inl (.int (x2))), (3, .inl (.int (x3)))], [.inl (.int ((s.1 0 55 (x1).toNatClampNeg))), .inl (.int (x3))], ax_m (s) ρ)) rfl ⟨trivial, trivial, (h0 38 rfl), trivial, ⟨(h0 55 rfl), ax_inp b5⟩, trivial⟩ ?_
    refine ax_ic_ge (tgt := 388) hK d_Z_checkExpression_20 (by decide) (fun c91 => ?_) (fun c91 => ?_)
    · replace h := ax_it c91 h
      cases h
      exact ax_Lsub [] rfl (KE _ rfl)
    · replace h := ax_if c91 h
      obtain ⟨b6, h⟩ := ax_gd h
      refine ax_bk hK (ax_fc (ax_v_ld (ax_r_aload_n (i := 0) d_Z_checkExpression_23 rfl)) (ax_fc (ax_w_gf (e := none) hal d_Z_checkExpression_24 fd_Z_72) (ax_fc (ax_v_ld (ax_r_iload_n (i := 3) d_Z_checkExpression_27 rfl)) (ax_fc (ax_w_iald hal d_Z_checkExpression_28) ax_fn)))) (y := (29, [(0, .inr (0, 38)), (1, .inl (.int (x1))), (2, .inl (.int (x2))), (3, .inl (.int (x3)))], [.inl (.int ((s.1 0 58 (x3).toNatClampNeg)))], ax_m (s) ρ)) rfl ⟨trivial, (h0 38 rfl), trivial, ⟨(h0 58 rfl), ax_inp b6⟩, trivial⟩ ?_
      refine ax_tsw (d := 382) (ks := [(1, 72), (2, 249), (3, 249), (4, 156), (5, 180), (6, 382), (7, 214)]) hK d_Z_checkExpression_29 (by decide) (by decide) (by decide) ?_
      refine And.intro (fun c90 => ?_) (fun c90 => ?_)
      · replace h := ax_it c90 h
        change ax_R G 7 0 0 (72, [(0, .inr (0, 38)), (1, .inl (.int (x1))), (2, .inl (.int (x2))), (3, .inl (.int (x3)))], [], ax_m (s) ρ)
        refine ax_bk hK (ax_fc (ax_v_ld (ax_r_aload_n (i := 0) d_Z_checkExpression_72 rfl)) (ax_fc (ax_v_ld (ax_r_iload_n (i := 1) d_Z_checkExpression_73 rfl)) (ax_fc (ax_v_ld (ax_r_aload_n (i := 0) d_Z_checkExpression_74 rfl)) (ax_fc (ax_w_gf (e := none) hal d_Z_checkExpression_75 fd_Z_189) ax_fn)))) (y := (78, [(0, .inr (0, 38)), (1, .inl (.int (x1))), (2, .inl (.int (x2))), (3, .inl (.int (x3)))], [.inl (.int ((s.1 0 38 23))), .inl (.int (x1)), .inr (0, 38)], ax_m (s) ρ)) rfl ⟨trivial, trivial, trivial, (h0 38 rfl), trivial⟩ ?_
        obtain ⟨w92, hw92, h⟩ := ax_bd h
        have KEw92 : ∀ (v12 : Int32), w92 = v12 → ax_R G 7 0 0 (102, [(0, .inr (0, 38)), (1, .inl (.int (x1))), (2, .inl (.int (x2))), (3, .inl (.int (x3)))], [.inl (.int (v12)), .inr (0, 38)], ax_m (s) ρ) := by
          intro v12 e9
          subst w92
          try dsimp only at h
          obtain ⟨b13, h⟩ := ax_gd h
          refine ax_bk hK (ax_fc (ax_v_pu (ax_r_iconst (v := 4) d_Z_checkExpression_102 (by decide))) (ax_fc (ax_v_ld (ax_r_aload_n (i := 0) d_Z_checkExpression_103 rfl)) (ax_fc (ax_w_gf (e := none) hal d_Z_checkExpression_104 fd_Z_78) (ax_fc (ax_v_ld (ax_r_iload_n (i := 3) d_Z_checkExpression_107 rfl)) (ax_fc (ax_w_iald hal d_Z_checkExpression_108) ax_fn))))) (y := (109, [(0, .inr (0, 38)), (1, .inl (.int (x1))), (2, .inl (.int (x2))), (3, .inl (.int (x3)))], [.inl (.int ((s.1 0 60 (x3).toNatClampNeg))), .inl (.int ((4 : Int32))), .inl (.int (v12)), .inr (0, 38)], ax_m (s) ρ)) rfl ⟨trivial, trivial, (h0 38 rfl), trivial, ⟨(h0 60 rfl), ax_inp b13⟩, trivial⟩ ?_
          obtain ⟨s14, q15, h⟩ := ax_bd h
          refine ax_bV (rest := []) hB (t_Z_consider h0 q15) cw_Z_316 im_Z_consider se_Z_consider d_Z_checkExpression_109 (h0 38 rfl) rfl rfl (by decide) (by decide) rfl rfl (Nat.le_of_ble_eq_true rfl) ?_
          change ax_R G 7 0 0 (112, [(0, .inr (0, 38)), (1, .inl (.int (x1))), (2, .inl (.int (x2))), (3, .inl (.int (x3)))], [], ax_m (s14) ρ)
          refine ax_bk hK (ax_fc (ax_v_ld (ax_r_aload_n (i := 0) d_Z_checkExpression_112 rfl)) (ax_fc (ax_v_ld (ax_r_iload_n (i := 1) d_Z_checkExpression_113 rfl)) (ax_fc (ax_v_ld (ax_r_aload_n (i := 0) d_Z_checkExpression_114 rfl)) (ax_fc (ax_w_gf (e := none) hal d_Z_checkExpression_115 fd_Z_189) ax_fn)))) (y := (118, [(0, .inr (0, 38)), (1, .inl (.int (x1))), (2, .inl (.int (x2))), (3, .inl (.int (x3)))], [.inl (.int ((s14.1 0 38 23))), .inl (.int (x1)), .inr (0, 38)], ax_m (s14) ρ)) rfl ⟨trivial, trivial, trivial, (h0 38 rfl), trivial⟩ ?_
          obtain ⟨w93, hw93, h⟩ := ax_bd h
          have KEw93 : ∀ (v21 : Int32), w93 = v21 → ax_R G 7 0 0 (143, [(0, .inr (0, 38)), (1, .inl (.int (x1))), (2, .inl (.int (x2))), (3, .inl (.int (x3)))], [.inl (.int (v21)), .inr (0, 38)], ax_m (s14) ρ) := by
            intro v21 e9
            subst w93
            try dsimp only at h
            obtain ⟨b22, h⟩ := ax_gd h
            refine ax_bk hK (ax_fc (ax_v_pu (ax_r_iconst (v := 5) d_Z_checkExpression_143 (by decide))) (ax_fc (ax_v_ld (ax_r_aload_n (i := 0) d_Z_checkExpression_144 rfl)) (ax_fc (ax_w_gf (e := none) hal d_Z_checkExpression_145 fd_Z_42) (ax_fc (ax_v_ld (ax_r_iload_n (i := 1) d_Z_checkExpression_148 rfl)) (ax_fc (ax_w_iald hal d_Z_checkExpression_149) ax_fn))))) (y := (150, [(0, .inr (0, 38)), (1, .inl (.int (x1))), (2, .inl (.int (x2))), (3, .inl (.int (x3)))], [.inl (.int ((s14.1 0 48 (x1).toNatClampNeg))), .inl (.int ((5 : Int32))), .inl (.int (v21)), .inr (0, 38)], ax_m (s14) ρ)) rfl ⟨trivial, trivial, (h0 38 rfl), trivial, ⟨(h0 48 rfl), ax_inp b22⟩, trivial⟩ ?_
            obtain ⟨s23, q24, h⟩ := ax_bd h
            refine ax_bV (rest := []) hB (t_Z_consider h0 q24) cw_Z_316 im_Z_consider se_Z_consider d_Z_checkExpression_150 (h0 38 rfl) rfl rfl (by decide) (by decide) rfl rfl (Nat.le_of_ble_eq_true rfl) ?_
            change ax_R G 7 0 0 (153, [(0, .inr (0, 38)), (1, .inl (.int (x1))), (2, .inl (.int (x2))), (3, .inl (.int (x3)))], [], ax_m (s23) ρ)
            refine ax_bk hK (ax_fc (ax_v_go (tgt := 382) d_Z_checkExpression_153 (by decide)) ax_fn) (y := (382, [(0, .inr (0, 38)), (1, .inl (.int (x1))), (2, .inl (.int (x2))), (3, .inl (.int (x3)))], [], ax_m (s23) ρ)) rfl ⟨trivial, trivial⟩ ?_
            refine ax_bk hK (ax_fc (ax_v_ii (d := 1) d_Z_checkExpression_382 (by decide)) (ax_fc (ax_v_go (tgt := 13) d_Z_checkExpression_385 (by decide)) ax_fn)) (y := (13, [(3, .inl (.int ((x3 + (1 : Int32))))), (0, .inr (0, 38)), (1, .inl (.int (x1))), (2, .inl (.int (x2)))], [], ax_m (s23) ρ)) rfl ⟨trivial, trivial, trivial⟩ ?_
            exact ax_Lsub [1, 2, 3, 0] rfl (ih _ h KE)
          clear h
          have h := hw93
          obtain ⟨w20, hw20, h⟩ := ax_bd h
          have KTw20 : w20 = true → ax_R G 7 0 0 (142, [(0, .inr (0, 38)), (1, .inl (.int (x1))), (2, .inl (.int (x2))), (3, .inl (.int (x3)))], [.inr (0, 38)], ax_m (s14) ρ) := by
            intro e9
            subst w20
            replace h := ax_ct h
            refine ax_bk hK (ax_fc (ax_v_pu (ax_r_iconst (v := 0) d_Z_checkExpression_142 (by decide))) ax_fn) (y := (143, [(0, .inr (0, 38)), (1, .inl (.int (x1))), (2, .inl (.int (x2))), (3, .inl (.int (x3)))], [.inl (.int ((0 : Int32))), .inr (0, 38)], ax_m (s14) ρ)) rfl ⟨trivial, trivial⟩ ?_
            cases h
            exact ax_Lsub [0, 1, 2, 3] rfl (KEw93 _ rfl)
          have KFw20 : w20 = false → ax_R G 7 0 0 (138, [(0, .inr (0, 38)), (1, .inl (.int (x1))), (2, .inl (.int (x2))), (3, .inl (.int (x3)))], [.inr (0, 38)], ax_m (s14) ρ) := by
            intro e9
            subst w20
            replace h := ax_cf h
            refine ax_bk hK (ax_fc (ax_v_pu (ax_r_iconst (v := 1) d_Z_checkExpression_138 (by decide))) (ax_fc (ax_v_go (tgt := 143) d_Z_checkExpression_139 (by decide)) ax_fn)) (y := (143, [(0, .inr (0, 38)), (1, .inl (.int (x1))), (2, .inl (.int (x2))), (3, .inl (.int (x3)))], [.inl (.int ((1 : Int32))), .inr (0, 38)], ax_m (s14) ρ)) rfl ⟨trivial, trivial, trivial⟩ ?_
            cases h
            exact ax_Lsub [0, 1, 2, 3] rfl (KEw93 _ rfl)
          clear h
          have h := hw20
          refine ax_ic_lt (tgt := 142) hK d_Z_checkExpression_118 (by decide) (fun c19 => ?_) (fun c19 => ?_)
          · replace h := ax_it c19 h
            cases h
            exact ax_Lsub [0, 1, 2, 3] rfl (KTw20 rfl)
          · replace h := ax_if c19 h
            obtain ⟨b16, h⟩ := ax_gd h
            obtain ⟨b17, h⟩ := ax_gd h
            refine ax_bk hK (ax_fc (ax_v_ld (ax_r_aload_n (i := 0) d_Z_checkExpression_121 rfl)) (ax_fc (ax_w_gf (e := none) hal d_Z_checkExpression_122 fd_Z_75) (ax_fc (ax_v_ld (ax_r_iload_n (i := 3) d_Z_checkExpression_125 rfl)) (ax_fc (ax_w_lald hal d_Z_checkExpression_126) (ax_fc (ax_v_ld (ax_r_aload_n (i := 0) d_Z_checkExpression_127 rfl)) (ax_fc (ax_w_gf (e := none) hal d_Z_checkExpression_128 fd_Z_45) (ax_fc (ax_v_ld (ax_r_iload_n (i := 1) d_Z_checkExpression_131 rfl)) (ax_fc (ax_w_iald hal d_Z_checkExpression_132) (ax_fc (ax_v_pu (ax_r_i2l d_Z_checkExpression_133)) (ax_fc (ax_v_pu (ax_r_lcmp d_Z_checkExpression_134)) ax_fn)))))))))) (y := (135, [(0, .inr (0, 38)), (1, .inl (.int (x1))), (2, .inl (.int (x2))), (3, .inl (.int (x3)))], [.inl (.int ((lg_cmp (s14.2 0 59 (x3).toNatClampNeg) ((s14.1 0 49 (x1).toNatClampNeg)).toInt64))), .inr (0, 38)], ax_m (s14) ρ)) rfl ⟨trivial, (h0 38 rfl), trivial, ⟨(h0 59 rfl), ax_inp b16⟩, trivial, (h0 38 rfl), trivial, ⟨(h0 49 rfl), ax_inp b17⟩, trivial, trivial, trivial⟩ ?_
            refine ax_if_ne (tgt := 142) hK d_Z_checkExpression_135 (by decide) (fun c18 => ?_) (fun c18 => ?_)
            · replace h := ax_if c18 h
              cases h
              exact ax_Lsub [0, 1, 2, 3] rfl (KTw20 rfl)
            · replace h := ax_it c18 h
              cases h
              exact ax_Lsub [0, 1, 2, 3] rfl (KFw20 rfl)
        clear h
        have h := hw92
        obtain ⟨w11, hw11, h⟩ := ax_bd h
        have KTw11 : w11 = true → ax_R G 7 0 0 (97, [(0, .inr (0, 38)), (1, .inl (.int (x1))), (2, .inl (.int (x2))), (3, .inl (.int (x3)))], [.inr (0, 38)], ax_m (s) ρ) := by
          intro e9
          subst w11
          replace h := ax_ct h
          refine ax_bk hK (ax_fc (ax_v_pu (ax_r_iconst (v := 1) d_Z_checkExpression_97 (by decide))) (ax_fc (ax_v_go (tgt := 102) d_Z_checkExpression_98 (by decide)) ax_fn)) (y := (102, [(0, .inr (0, 38)), (1, .inl (.int (x1))), (2, .inl (.int (x2))), (3, .inl (.int (x3)))], [.inl (.int ((1 : Int32))), .inr (0, 38)], ax_m (s) ρ)) rfl ⟨trivial, trivial, trivial⟩ ?_
          cases h
          exact ax_Lsub [0, 1, 2, 3] rfl (KEw92 _ rfl)
        have KFw11 : w11 = false → ax_R G 7 0 0 (101, [(0, .inr (0, 38)), (1, .inl (.int (x1))), (2, .inl (.int (x2))), (3, .inl (.int (x3)))], [.inr (0, 38)], ax_m (s) ρ) := by
          intro e9
          subst w11
          replace h := ax_cf h
          refine ax_bk hK (ax_fc (ax_v_pu (ax_r_iconst (v := 0) d_Z_checkExpression_101 (by decide))) ax_fn) (y := (102, [(0, .inr (0, 38)), (1, .inl (.int (x1))), (2, .inl (.int (x2))), (3, .inl (.int (x3)))], [.inl (.int ((0 : Int32))), .inr (0, 38)], ax_m (s) ρ)) rfl ⟨trivial, trivial⟩ ?_
          cases h
          exact ax_Lsub [0, 1, 2, 3] rfl (KEw92 _ rfl)
        clear h
        have h := hw11
        refine ax_ic_lt (tgt := 97) hK d_Z_checkExpression_78 (by decide) (fun c10 => ?_) (fun c10 => ?_)
        · replace h := ax_it c10 h
          cases h
          exact ax_Lsub [0, 1, 2, 3] rfl (KTw11 rfl)
        · replace h := ax_if c10 h
          obtain ⟨b7, h⟩ := ax_gd h
          obtain ⟨b8, h⟩ := ax_gd h
          refine ax_bk hK (ax_fc (ax_v_ld (ax_r_aload_n (i := 0) d_Z_checkExpression_81 rfl)) (ax_fc (ax_w_gf (e := none) hal d_Z_checkExpression_82 fd_Z_75) (ax_fc (ax_v_ld (ax_r_iload_n (i := 3) d_Z_checkExpression_85 rfl)) (ax_fc (ax_w_lald hal d_Z_checkExpression_86) (ax_fc (ax_v_ld (ax_r_aload_n (i := 0) d_Z_checkExpression_87 rfl)) (ax_fc (ax_w_gf (e := none) hal d_Z_checkExpression_88 fd_Z_20) (ax_fc (ax_v_pu (ax_r_iconst (v := 1) d_Z_checkExpression_91 (by decide))) (ax_fc (ax_w_lald hal d_Z_checkExpression_92) (ax_fc (ax_v_pu (ax_r_lcmp d_Z_checkExpression_93)) ax_fn))))))))) (y := (94, [(0, .inr (0, 38)), (1, .inl (.int (x1))), (2, .inl (.int (x2))), (3, .inl (.int (x3)))], [.inl (.int ((lg_cmp (s.2 0 59 (x3).toNatClampNeg) (s.2 0 41 ((1 : Int32)).toNatClampNeg)))), .inr (0, 38)], ax_m (s) ρ)) rfl ⟨trivial, (h0 38 rfl), trivial, ⟨(h0 59 rfl), ax_inp b7⟩, trivial, (h0 38 rfl), trivial, ⟨(h0 41 rfl), ax_inp b8⟩, trivial, trivial⟩ ?_
          refine ax_if_lt (tgt := 101) hK d_Z_checkExpression_94 (by decide) (fun c9 => ?_) (fun c9 => ?_)
          · replace h := ax_it c9 h
            cases h
            exact ax_Lsub [0, 1, 2, 3] rfl (KFw11 rfl)
          · replace h := ax_if c9 h
            cases h
            exact ax_Lsub [0, 1, 2, 3] rfl (KTw11 rfl)
      replace h := ax_if c90 h
      refine And.intro (fun c90 => ?_) (fun c90 => ?_)
      · replace h := ax_it c90 h
        change ax_R G 7 0 0 (249, [(0, .inr (0, 38)), (1, .inl (.int (x1))), (2, .inl (.int (x2))), (3, .inl (.int (x3)))], [], ax_m (s) ρ)
        obtain ⟨b25, h⟩ := ax_gd h
        refine ax_bk hK (ax_fc (ax_v_pu (ax_r_iconst (v := 1) d_Z_checkExpression_249 (by decide))) (ax_fc (ax_v_so (ax_r_istore d_Z_checkExpression_250)) (ax_fc (ax_v_ld (ax_r_aload_n (i := 0) d_Z_checkExpression_252 rfl)) (ax_fc (ax_w_gf (e := none) hal d_Z_checkExpression_253 fd_Z_81) (ax_fc (ax_v_ld (ax_r_iload_n (i := 3) d_Z_checkExpression_256 rfl)) (ax_fc (ax_w_iald hal d_Z_checkExpression_257) (ax_fc (ax_v_so (ax_r_istore d_Z_checkExpression_258)) ax_fn))))))) (y := (260, [(5, .inl (.int ((s.1 0 61 (x3).toNatClampNeg)))), (4, .inl (.int ((1 : Int32)))), (0, .inr (0, 38)), (1, .inl (.int (x1))), (2, .inl (.int (x2))), (3, .inl (.int (x3)))], [], ax_m (s) ρ)) rfl ⟨trivial, trivial, trivial, (h0 38 rfl), trivial, ⟨(h0 61 rfl), ax_inp b25⟩, trivial, trivial⟩ ?_
        obtain ⟨w94, hw94, h⟩ := ax_bd h
        refine ax_Lsub [2, 3, 4, 5, 1, 0] rfl (pl_Z_checkExpression_260 h0 hB F _ hw94 ?_)
        intro v44 s45 e9
        subst w94
        try dsimp only at h
        change ax_R G 7 0 0 (348, [(0, .inr (0, 38)), (1, .inl (.int (x1))), (2, .inl (.int (x2))), (3, .inl (.int (x3))), (4, .inl (.int (v44)))], [], ax_m (s45) ρ)
        refine ax_bk hK (ax_fc (ax_v_ld (ax_r_aload_n (i := 0) d_Z_checkExpression_348 rfl)) (ax_fc (ax_v_ld (ax_r_iload d_Z_checkExpression_349)) ax_fn)) (y := (351, [(0, .inr (0, 38)), (1, .inl (.int (x1))), (2, .inl (.int (x2))), (3, .inl (.int (x3))), (4, .inl (.int (v44)))], [.inl (.int (v44)), .inr (0, 38)], ax_m (s45) ρ)) rfl ⟨trivial, trivial, trivial⟩ ?_
        obtain ⟨w95, hw95, h⟩ := ax_bd h
        have KEw95 : ∀ (v51 : Int32) (s52 : ax_σ), w95 = (v51, s52) → ax_R G 7 0 0 (369, [(0, .inr (0, 38)), (1, .inl (.int (x1))), (2, .inl (.int (x2))), (3, .inl (.int (x3)))], [.inl (.int (v51)), .inr (0, 38)], ax_m (s52) ρ) := by
          intro v51 s52 e9
          subst w95
          try dsimp only at h
          obtain ⟨b53, h⟩ := ax_gd h
          refine ax_bk hK (ax_fc (ax_v_pu (ax_r_iconst (v := 3) d_Z_checkExpression_369 (by decide))) (ax_fc (ax_v_ld (ax_r_aload_n (i := 0) d_Z_checkExpression_370 rfl)) (ax_fc (ax_w_gf (e := none) hal d_Z_checkExpression_371 fd_Z_78) (ax_fc (ax_v_ld (ax_r_iload_n (i := 3) d_Z_checkExpression_374 rfl)) (ax_fc (ax_w_iald hal d_Z_checkExpression_375) ax_fn))))) (y := (376, [(0, .inr (0, 38)), (1, .inl (.int (x1))), (2, .inl (.int (x2))), (3, .inl (.int (x3)))], [.inl (.int ((s52.1 0 60 (x3).toNatClampNeg))), .inl (.int ((3 : Int32))), .inl (.int (v51)), .inr (0, 38)], ax_m (s52) ρ)) rfl ⟨trivial, trivial, (h0 38 rfl), trivial, ⟨(h0 60 rfl), ax_inp b53⟩, trivial⟩ ?_
          obtain ⟨s54, q55, h⟩ := ax_bd h
          refine ax_bV (rest := []) hB (t_Z_consider h0 q55) cw_Z_316 im_Z_consider se_Z_consider d_Z_checkExpression_376 (h0 38 rfl) rfl rfl (by decide) (by decide) rfl rfl (Nat.le_of_ble_eq_true rfl) ?_
          change ax_R G 7 0 0 (379, [(0, .inr (0, 38)), (1, .inl (.int (x1))), (2, .inl (.int (x2))), (3, .inl (.int (x3)))], [], ax_m (s54) ρ)
          refine ax_bk hK (ax_fc (ax_v_go (tgt := 382) d_Z_checkExpression_379 (by decide)) ax_fn) (y := (382, [(0, .inr (0, 38)), (1, .inl (.int (x1))), (2, .inl (.int (x2))), (3, .inl (.int (x3)))], [], ax_m (s54) ρ)) rfl ⟨trivial, trivial⟩ ?_
          refine ax_bk hK (ax_fc (ax_v_ii (d := 1) d_Z_checkExpression_382 (by decide)) (ax_fc (ax_v_go (tgt := 13) d_Z_checkExpression_385 (by decide)) ax_fn)) (y := (13, [(3, .inl (.int ((x3 + (1 : Int32))))), (0, .inr (0, 38)), (1, .inl (.int (x1))), (2, .inl (.int (x2)))], [], ax_m (s54) ρ)) rfl ⟨trivial, trivial, trivial⟩ ?_
          exact ax_Lsub [1, 2, 3, 0] rfl (ih _ h KE)
        clear h
        have h := hw95
        refine ax_if_eq (tgt := 368) hK d_Z_checkExpression_351 (by decide) (fun c50 => ?_) (fun c50 => ?_)
        · replace h := ax_it c50 h
          refine ax_bk hK (ax_fc (ax_v_pu (ax_r_iconst (v := 0) d_Z_checkExpression_368 (by decide))) ax_fn) (y := (369, [(0, .inr (0, 38)), (1, .inl (.int (x1))), (2, .inl (.int (x2))), (3, .inl (.int (x3))), (4, .inl (.int (v44)))], [.inl (.int ((0 : Int32))), .inr (0, 38)], ax_m (s45) ρ)) rfl ⟨trivial, trivial⟩ ?_
          cases h
          exact ax_Lsub [0, 1, 2, 3] rfl (KEw95 _ _ rfl)
        · replace h := ax_if c50 h
          refine ax_bk hK (ax_fc (ax_v_ld (ax_r_aload_n (i := 0) d_Z_checkExpression_354 rfl)) (ax_fc (ax_v_ld (ax_r_iload_n (i := 1) d_Z_checkExpression_355 rfl)) (ax_fc (ax_v_ld (ax_r_iload_n (i := 3) d_Z_checkExpression_356 rfl)) (ax_fc (ax_v_ld (ax_r_iload_n (i := 2) d_Z_checkExpression_357 rfl)) ax_fn)))) (y := (358, [(0, .inr (0, 38)), (1, .inl (.int (x1))), (2, .inl (.int (x2))), (3, .inl (.int (x3))), (4, .inl (.int (v44)))], [.inl (.int (x2)), .inl (.int (x3)), .inl (.int (x1)), .inr (0, 38), .inr (0, 38)], ax_m (s45) ρ)) rfl ⟨trivial, trivial, trivial, trivial, trivial⟩ ?_
          obtain ⟨⟨r46, s47⟩, q48, h⟩ := ax_bd h
          dsimp only at h
          refine ax_bV (rest := [.inr (0, 38)]) hB (t_Z_isTooGreat h0 q48) cw_Z_327 im_Z_isTooGreat se_Z_isTooGreat d_Z_checkExpression_358 (h0 38 rfl) rfl rfl (by decide) (by decide) rfl rfl (Nat.le_of_ble_eq_true rfl) ?_
          change ax_R G 7 0 0 (361, [(0, .inr (0, 38)), (1, .inl (.int (x1))), (2, .inl (.int (x2))), (3, .inl (.int (x3))), (4, .inl (.int (v44)))], [.inl (.int (r46)), .inr (0, 38)], ax_m (s47) ρ)
          refine ax_if_eq (tgt := 368) hK d_Z_checkExpression_361 (by decide) (fun c49 => ?_) (fun c49 => ?_)
          · replace h := ax_it c49 h
            refine ax_bk hK (ax_fc (ax_v_pu (ax_r_iconst (v := 0) d_Z_checkExpression_368 (by decide))) ax_fn) (y := (369, [(0, .inr (0, 38)), (1, .inl (.int (x1))), (2, .inl (.int (x2))), (3, .inl (.int (x3))), (4, .inl (.int (v44)))], [.inl (.int ((0 : Int32))), .inr (0, 38)], ax_m (s47) ρ)) rfl ⟨trivial, trivial⟩ ?_
            cases h
            exact ax_Lsub [0, 1, 2, 3] rfl (KEw95 _ _ rfl)
          · replace h := ax_if c49 h
            refine ax_bk hK (ax_fc (ax_v_pu (ax_r_iconst (v := 1) d_Z_checkExpression_364 (by decide))) (ax_fc (ax_v_go (tgt := 369) d_Z_checkExpression_365 (by decide)) ax_fn)) (y := (369, [(0, .inr (0, 38)), (1, .inl (.int (x1))), (2, .inl (.int (x2))), (3, .inl (.int (x3))), (4, .inl (.int (v44)))], [.inl (.int ((1 : Int32))), .inr (0, 38)], ax_m (s47) ρ)) rfl ⟨trivial, trivial, trivial⟩ ?_
            cases h
            exact ax_Lsub [0, 1, 2, 3] rfl (KEw95 _ _ rfl)
      replace h := ax_if c90 h
      refine And.intro (fun c90 => ?_) (fun c90 => ?_)
      · replace h := ax_it c90 h
        change ax_R G 7 0 0 (249, [(0, .inr (0, 38)), (1, .inl (.int (x1))), (2, .inl (.int (x2))), (3, .inl (.int (x3)))], [], ax_m (s) ρ)
        obtain ⟨b56, h⟩ := ax_gd h
        refine ax_bk hK (ax_fc (ax_v_pu (ax_r_iconst (v := 1) d_Z_checkExpression_249 (by decide))) (ax_fc (ax_v_so (ax_r_istore d_Z_checkExpression_250)) (ax_fc (ax_v_ld (ax_r_aload_n (i := 0) d_Z_checkExpression_252 rfl)) (ax_fc (ax_w_gf (e := none) hal d_Z_checkExpression_253 fd_Z_81) (ax_fc (ax_v_ld (ax_r_iload_n (i := 3) d_Z_checkExpression_256 rfl)) (ax_fc (ax_w_iald hal d_Z_checkExpression_257) (ax_fc (ax_v_so (ax_r_istore d_Z_checkExpression_258)) ax_fn))))))) (y := (260, [(5, .inl (.int ((s.1 0 61 (x3).toNatClampNeg)))), (4, .inl (.int ((1 : Int32)))), (0, .inr (0, 38)), (1, .inl (.int (x1))), (2, .inl (.int (x2))), (3, .inl (.int (x3)))], [], ax_m (s) ρ)) rfl ⟨trivial, trivial, trivial, (h0 38 rfl), trivial, ⟨(h0 61 rfl), ax_inp b56⟩, trivial, trivial⟩ ?_
        obtain ⟨w96, hw96, h⟩ := ax_bd h
        refine ax_Lsub [2, 3, 4, 5, 1, 0] rfl (pl_Z_checkExpression_260 h0 hB F _ hw96 ?_)
        intro v57 s58 e9
        subst w96
        try dsimp only at h
        change ax_R G 7 0 0 (348, [(0, .inr (0, 38)), (1, .inl (.int (x1))), (2, .inl (.int (x2))), (3, .inl (.int (x3))), (4, .inl (.int (v57)))], [], ax_m (s58) ρ)
        refine ax_bk hK (ax_fc (ax_v_ld (ax_r_aload_n (i := 0) d_Z_checkExpression_348 rfl)) (ax_fc (ax_v_ld (ax_r_iload d_Z_checkExpression_349)) ax_fn)) (y := (351, [(0, .inr (0, 38)), (1, .inl (.int (x1))), (2, .inl (.int (x2))), (3, .inl (.int (x3))), (4, .inl (.int (v57)))], [.inl (.int (v57)), .inr (0, 38)], ax_m (s58) ρ)) rfl ⟨trivial, trivial, trivial⟩ ?_
        obtain ⟨w97, hw97, h⟩ := ax_bd h
        have KEw97 : ∀ (v64 : Int32) (s65 : ax_σ), w97 = (v64, s65) → ax_R G 7 0 0 (369, [(0, .inr (0, 38)), (1, .inl (.int (x1))), (2, .inl (.int (x2))), (3, .inl (.int (x3)))], [.inl (.int (v64)), .inr (0, 38)], ax_m (s65) ρ) := by
          intro v64 s65 e9
          subst w97
          try dsimp only at h
          obtain ⟨b66, h⟩ := ax_gd h
          refine ax_bk hK (ax_fc (ax_v_pu (ax_r_iconst (v := 3) d_Z_checkExpression_369 (by decide))) (ax_fc (ax_v_ld (ax_r_aload_n (i := 0) d_Z_checkExpression_370 rfl)) (ax_fc (ax_w_gf (e := none) hal d_Z_checkExpression_371 fd_Z_78) (ax_fc (ax_v_ld (ax_r_iload_n (i := 3) d_Z_checkExpression_374 rfl)) (ax_fc (ax_w_iald hal d_Z_checkExpression_375) ax_fn))))) (y := (376, [(0, .inr (0, 38)), (1, .inl (.int (x1))), (2, .inl (.int (x2))), (3, .inl (.int (x3)))], [.inl (.int ((s65.1 0 60 (x3).toNatClampNeg))), .inl (.int ((3 : Int32))), .inl (.int (v64)), .inr (0, 38)], ax_m (s65) ρ)) rfl ⟨trivial, trivial, (h0 38 rfl), trivial, ⟨(h0 60 rfl), ax_inp b66⟩, trivial⟩ ?_
          obtain ⟨s67, q68, h⟩ := ax_bd h
          refine ax_bV (rest := []) hB (t_Z_consider h0 q68) cw_Z_316 im_Z_consider se_Z_consider d_Z_checkExpression_376 (h0 38 rfl) rfl rfl (by decide) (by decide) rfl rfl (Nat.le_of_ble_eq_true rfl) ?_
          change ax_R G 7 0 0 (379, [(0, .inr (0, 38)), (1, .inl (.int (x1))), (2, .inl (.int (x2))), (3, .inl (.int (x3)))], [], ax_m (s67) ρ)
          refine ax_bk hK (ax_fc (ax_v_go (tgt := 382) d_Z_checkExpression_379 (by decide)) ax_fn) (y := (382, [(0, .inr (0, 38)), (1, .inl (.int (x1))), (2, .inl (.int (x2))), (3, .inl (.int (x3)))], [], ax_m (s67) ρ)) rfl ⟨trivial, trivial⟩ ?_
          refine ax_bk hK (ax_fc (ax_v_ii (d := 1) d_Z_checkExpression_382 (by decide)) (ax_fc (ax_v_go (tgt := 13) d_Z_checkExpression_385 (by decide)) ax_fn)) (y := (13, [(3, .inl (.int ((x3 + (1 : Int32))))), (0, .inr (0, 38)), (1, .inl (.int (x1))), (2, .inl (.int (x2)))], [], ax_m (s67) ρ)) rfl ⟨trivial, trivial, trivial⟩ ?_
          exact ax_Lsub [1, 2, 3, 0] rfl (ih _ h KE)
        clear h
        have h := hw97
        refine ax_if_eq (tgt := 368) hK d_Z_checkExpression_351 (by decide) (fun c63 => ?_) (fun c63 => ?_)
        · replace h := ax_it c63 h
          refine ax_bk hK (ax_fc (ax_v_pu (ax_r_iconst (v := 0) d_Z_checkExpression_368 (by decide))) ax_fn) (y := (369, [(0, .inr (0, 38)), (1, .inl (.int (x1))), (2, .inl (.int (x2))), (3, .inl (.int (x3))), (4, .inl (.int (v57)))], [.inl (.int ((0 : Int32))), .inr (0, 38)], ax_m (s58) ρ)) rfl ⟨trivial, trivial⟩ ?_
          cases h
          exact ax_Lsub [0, 1, 2, 3] rfl (KEw97 _ _ rfl)
        · replace h := ax_if c63 h
          refine ax_bk hK (ax_fc (ax_v_ld (ax_r_aload_n (i := 0) d_Z_checkExpression_354 rfl)) (ax_fc (ax_v_ld (ax_r_iload_n (i := 1) d_Z_checkExpression_355 rfl)) (ax_fc (ax_v_ld (ax_r_iload_n (i := 3) d_Z_checkExpression_356 rfl)) (ax_fc (ax_v_ld (ax_r_iload_n (i := 2) d_Z_checkExpression_357 rfl)) ax_fn)))) (y := (358, [(0, .inr (0, 38)), (1, .inl (.int (x1))), (2, .inl (.int (x2))), (3, .inl (.int (x3))), (4, .inl (.int (v57)))], [.inl (.int (x2)), .inl (.int (x3)), .inl (.int (x1)), .inr (0, 38), .inr (0, 38)], ax_m (s58) ρ)) rfl ⟨trivial, trivial, trivial, trivial, trivial⟩ ?_
          obtain ⟨⟨r59, s60⟩, q61, h⟩ := ax_bd h
          dsimp only at h
          refine ax_bV (rest := [.inr (0, 38)]) hB (t_Z_isTooGreat h0 q61) cw_Z_327 im_Z_isTooGreat se_Z_isTooGreat d_Z_checkExpression_358 (h0 38 rfl) rfl rfl (by decide) (by decide) rfl rfl (Nat.le_of_ble_eq_true rfl) ?_
          change ax_R G 7 0 0 (361, [(0, .inr (0, 38)), (1, .inl (.int (x1))), (2, .inl (.int (x2))), (3, .inl (.int (x3))), (4, .inl (.int (v57)))], [.inl (.int (r59)), .inr (0, 38)], ax_m (s60) ρ)
          refine ax_if_eq (tgt := 368) hK d_Z_checkExpression_361 (by decide) (fun c62 => ?_) (fun c62 => ?_)
          · replace h := ax_it c62 h
            refine ax_bk hK (ax_fc (ax_v_pu (ax_r_iconst (v := 0) d_Z_checkExpression_368 (by decide))) ax_fn) (y := (369, [(0, .inr (0, 38)), (1, .inl (.int (x1))), (2, .inl (.int (x2))), (3, .inl (.int (x3))), (4, .inl (.int (v57)))], [.inl (.int ((0 : Int32))), .inr (0, 38)], ax_m (s60) ρ)) rfl ⟨trivial, trivial⟩ ?_
            cases h
            exact ax_Lsub [0, 1, 2, 3] rfl (KEw97 _ _ rfl)
          · replace h := ax_if c62 h
            refine ax_bk hK (ax_fc (ax_v_pu (ax_r_iconst (v := 1) d_Z_checkExpression_364 (by decide))) (ax_fc (ax_v_go (tgt := 369) d_Z_checkExpression_365 (by decide)) ax_fn)) (y := (369, [(0, .inr (0, 38)), (1, .inl (.int (x1))), (2, .inl (.int (x2))), (3, .inl (.int (x3))), (4, .inl (.int (v57)))], [.inl (.int ((1 : Int32))), .inr (0, 38)], ax_m (s60) ρ)) rfl ⟨trivial, trivial, trivial⟩ ?_
            cases h
            exact ax_Lsub [0, 1, 2, 3] rfl (KEw97 _ _ rfl)
      replace h := ax_if c90 h
      refine And.intro (fun c90 => ?_) (fun c90 => ?_)
      · replace h := ax_it c90 h
        change ax_R G 7 0 0 (156, [(0, .inr (0, 38)), (1, .inl (.int (x1))), (2, .inl (.int (x2))), (3, .inl (.int (x3)))], [], ax_m (s) ρ)
        obtain ⟨b69, h⟩ := ax_gd h
        refine ax_bk hK (ax_fc (ax_v_ld (ax_r_aload_n (i := 0) d_Z_checkExpression_156 rfl)) (ax_fc (ax_v_ld (ax_r_aload_n (i := 0) d_Z_checkExpression_157 rfl)) (ax_fc (ax_v_ld (ax_r_aload_n (i := 0) d_Z_checkExpression_158 rfl)) (ax_fc (ax_w_gf (e := none) hal d_Z_checkExpression_159 fd_Z_75) (ax_fc (ax_v_ld (ax_r_iload_n (i := 3) d_Z_checkExpression_162 rfl)) (ax_fc (ax_w_lald hal d_Z_checkExpression_163) ax_fn)))))) (y := (164, [(0, .inr (0, 38)), (1, .inl (.int (x1))), (2, .inl (.int (x2))), (3, .inl (.int (x3)))], [.inl (.long ((s.2 0 59 (x3).toNatClampNeg))), .inr (0, 38), .inr (0, 38)], ax_m (s) ρ)) rfl ⟨trivial, trivial, trivial, (h0 38 rfl), trivial, ⟨(h0 59 rfl), ax_inp b69⟩, trivial⟩ ?_
        obtain ⟨r70, q71, h⟩ := ax_bd h
        refine ax_bV (rest := [.inr (0, 38)]) hB (t_Z_isWide h0 q71) cw_Z_320 im_Z_isWide se_Z_isWide d_Z_checkExpression_164 (h0 38 rfl) rfl rfl (by decide) (by decide) rfl rfl (Nat.le_of_ble_eq_true rfl) ?_
        change ax_R G 7 0 0 (167, [(0, .inr (0, 38)), (1, .inl (.int (x1))), (2, .inl (.int (x2))), (3, .inl (.int (x3)))], [.inl (.int (r70)), .inr (0, 38)], ax_m (s) ρ)
        obtain ⟨b72, h⟩ := ax_gd h
        refine ax_bk hK (ax_fc (ax_v_pu (ax_r_iconst (v := 3) d_Z_checkExpression_167 (by decide))) (ax_fc (ax_v_ld (ax_r_aload_n (i := 0) d_Z_checkExpression_168 rfl)) (ax_fc (ax_w_gf (e := none) hal d_Z_checkExpression_169 fd_Z_78) (ax_fc (ax_v_ld (ax_r_iload_n (i := 3) d_Z_checkExpression_172 rfl)) (ax_fc (ax_w_iald hal d_Z_checkExpression_173) ax_fn))))) (y := (174, [(0, .inr (0, 38)), (1, .inl (.int (x1))), (2, .inl (.int (x2))), (3, .inl (.int (x3)))], [.inl (.int ((s.1 0 60 (x3).toNatClampNeg))), .inl (.int ((3 : Int32))), .inl (.int (r70)), .inr (0, 38)], ax_m (s) ρ)) rfl ⟨trivial, trivial, (h0 38 rfl), trivial, ⟨(h0 60 rfl), ax_inp b72⟩, trivial⟩ ?_
        obtain ⟨s73, q74, h⟩ := ax_bd h
        refine ax_bV (rest := []) hB (t_Z_consider h0 q74) cw_Z_316 im_Z_consider se_Z_consider d_Z_checkExpression_174 (h0 38 rfl) rfl rfl (by decide) (by decide) rfl rfl (Nat.le_of_ble_eq_true rfl) ?_
        change ax_R G 7 0 0 (177, [(0, .inr (0, 38)), (1, .inl (.int (x1))), (2, .inl (.int (x2))), (3, .inl (.int (x3)))], [], ax_m (s73) ρ)
        refine ax_bk hK (ax_fc (ax_v_go (tgt := 382) d_Z_checkExpression_177 (by decide)) ax_fn) (y := (382, [(0, .inr (0, 38)), (1, .inl (.int (x1))), (2, .inl (.int (x2))), (3, .inl (.int (x3)))], [], ax_m (s73) ρ)) rfl ⟨trivial, trivial⟩ ?_
        refine ax_bk hK (ax_fc (ax_v_ii (d := 1) d_Z_checkExpression_382 (by decide)) (ax_fc (ax_v_go (tgt := 13) d_Z_checkExpression_385 (by decide)) ax_fn)) (y := (13, [(3, .inl (.int ((x3 + (1 : Int32))))), (0, .inr (0, 38)), (1, .inl (.int (x1))), (2, .inl (.int (x2)))], [], ax_m (s73) ρ)) rfl ⟨trivial, trivial, trivial⟩ ?_
        exact ax_Lsub [1, 2, 3, 0] rfl (ih _ h KE)
      replace h := ax_if c90 h
      refine And.intro (fun c90 => ?_) (fun c90 => ?_)
      · replace h := ax_it c90 h
        change ax_R G 7 0 0 (180, [(0, .inr (0, 38)), (1, .inl (.int (x1))), (2, .inl (.int (x2))), (3, .inl (.int (x3)))], [], ax_m (s) ρ)
        obtain ⟨b75, h⟩ := ax_gd h
        refine ax_bk hK (ax_fc (ax_v_ld (ax_r_aload_n (i := 0) d_Z_checkExpression_180 rfl)) (ax_fc (ax_v_ld (ax_r_aload_n (i := 0) d_Z_checkExpression_181 rfl)) (ax_fc (ax_v_ld (ax_r_aload_n (i := 0) d_Z_checkExpression_182 rfl)) (ax_fc (ax_w_gf (e := none) hal d_Z_checkExpression_183 fd_Z_75) (ax_fc (ax_v_ld (ax_r_iload_n (i := 3) d_Z_checkExpression_186 rfl)) (ax_fc (ax_w_lald hal d_Z_checkExpression_187) (ax_fc (ax_v_pu (ax_r_l2i d_Z_checkExpression_188)) (ax_fc (ax_v_ld (ax_r_iload_n (i := 2) d_Z_checkExpression_189 rfl)) ax_fn)))))))) (y := (190, [(0, .inr (0, 38)), (1, .inl (.int (x1))), (2, .inl (.int (x2))), (3, .inl (.int (x3)))], [.inl (.int (x2)), .inl (.int (((s.2 0 59 (x3).toNatClampNeg)).toInt32)), .inr (0, 38), .inr (0, 38)], ax_m (s) ρ)) rfl ⟨trivial, trivial, trivial, (h0 38 rfl), trivial, ⟨(h0 59 rfl), ax_inp b75⟩, trivial, trivial, trivial⟩ ?_
        obtain ⟨r76, q77, h⟩ := ax_bd h
        refine ax_bV (rest := [.inr (0, 38)]) hB (t_Z_isOpen h0 q77) cw_Z_324 im_Z_isOpen se_Z_isOpen d_Z_checkExpression_190 (h0 38 rfl) rfl rfl (by decide) (by decide) rfl rfl (Nat.le_of_ble_eq_true rfl) ?_
        change ax_R G 7 0 0 (193, [(0, .inr (0, 38)), (1, .inl (.int (x1))), (2, .inl (.int (x2))), (3, .inl (.int (x3)))], [.inl (.int (r76)), .inr (0, 38)], ax_m (s) ρ)
        obtain ⟨w98, hw98, h⟩ := ax_bd h
        have KEw98 : ∀ (v79 : Int32), w98 = v79 → ax_R G 7 0 0 (201, [(0, .inr (0, 38)), (1, .inl (.int (x1))), (2, .inl (.int (x2))), (3, .inl (.int (x3)))], [.inl (.int (v79)), .inr (0, 38)], ax_m (s) ρ) := by
          intro v79 e9
          subst w98
          try dsimp only at h
          obtain ⟨b80, h⟩ := ax_gd h
          refine ax_bk hK (ax_fc (ax_v_pu (ax_r_iconst (v := 4) d_Z_checkExpression_201 (by decide))) (ax_fc (ax_v_ld (ax_r_aload_n (i := 0) d_Z_checkExpression_202 rfl)) (ax_fc (ax_w_gf (e := none) hal d_Z_checkExpression_203 fd_Z_78) (ax_fc (ax_v_ld (ax_r_iload_n (i := 3) d_Z_checkExpression_206 rfl)) (ax_fc (ax_w_iald hal d_Z_checkExpression_207) ax_fn))))) (y := (208, [(0, .inr (0, 38)), (1, .inl (.int (x1))), (2, .inl (.int (x2))), (3, .inl (.int (x3)))], [.inl (.int ((s.1 0 60 (x3).toNatClampNeg))), .inl (.int ((4 : Int32))), .inl (.int (v79)), .inr (0, 38)], ax_m (s) ρ)) rfl ⟨trivial, trivial, (h0 38 rfl), trivial, ⟨(h0 60 rfl), ax_inp b80⟩, trivial⟩ ?_
          obtain ⟨s81, q82, h⟩ := ax_bd h
          refine ax_bV (rest := []) hB (t_Z_consider h0 q82) cw_Z_316 im_Z_consider se_Z_consider d_Z_checkExpression_208 (h0 38 rfl) rfl rfl (by decide) (by decide) rfl rfl (Nat.le_of_ble_eq_true rfl) ?_
          change ax_R G 7 0 0 (211, [(0, .inr (0, 38)), (1, .inl (.int (x1))), (2, .inl (.int (x2))), (3, .inl (.int (x3)))], [], ax_m (s81) ρ)
          refine ax_bk hK (ax_fc (ax_v_go (tgt := 382) d_Z_checkExpression_211 (by decide)) ax_fn) (y := (382, [(0, .inr (0, 38)), (1, .inl (.int (x1))), (2, .inl (.int (x2))), (3, .inl (.int (x3)))], [], ax_m (s81) ρ)) rfl ⟨trivial, trivial⟩ ?_
          refine ax_bk hK (ax_fc (ax_v_ii (d := 1) d_Z_checkExpression_382 (by decide)) (ax_fc (ax_v_go (tgt := 13) d_Z_checkExpression_385 (by decide)) ax_fn)) (y := (13, [(3, .inl (.int ((x3 + (1 : Int32))))), (0, .inr (0, 38)), (1, .inl (.int (x1))), (2, .inl (.int (x2)))], [], ax_m (s81) ρ)) rfl ⟨trivial, trivial, trivial⟩ ?_
          exact ax_Lsub [1, 2, 3, 0] rfl (ih _ h KE)
        clear h
        have h := hw98
        refine ax_if_ne (tgt := 200) hK d_Z_checkExpression_193 (by decide) (fun c78 => ?_) (fun c78 => ?_)
        · replace h := ax_if c78 h
          refine ax_bk hK (ax_fc (ax_v_pu (ax_r_iconst (v := 0) d_Z_checkExpression_200 (by decide))) ax_fn) (y := (201, [(0, .inr (0, 38)), (1, .inl (.int (x1))), (2, .inl (.int (x2))), (3, .inl (.int (x3)))], [.inl (.int ((0 : Int32))), .inr (0, 38)], ax_m (s) ρ)) rfl ⟨trivial, trivial⟩ ?_
          cases h
          exact ax_Lsub [0, 1, 2, 3] rfl (KEw98 _ rfl)
        · replace h := ax_it c78 h
          refine ax_bk hK (ax_fc (ax_v_pu (ax_r_iconst (v := 1) d_Z_checkExpression_196 (by decide))) (ax_fc (ax_v_go (tgt := 201) d_Z_checkExpression_197 (by decide)) ax_fn)) (y := (201, [(0, .inr (0, 38)), (1, .inl (.int (x1))), (2, .inl (.int (x2))), (3, .inl (.int (x3)))], [.inl (.int ((1 : Int32))), .inr (0, 38)], ax_m (s) ρ)) rfl ⟨trivial, trivial, trivial⟩ ?_
          cases h
          exact ax_Lsub [0, 1, 2, 3] rfl (KEw98 _ rfl)
      replace h := ax_if c90 h
      refine And.intro (fun c90 => ?_) (fun c90 => ?_)
      · replace h := ax_it c90 h
        change ax_R G 7 0 0 (382, [(0, .inr (0, 38)), (1, .inl (.int (x1))), (2, .inl (.int (x2))), (3, .inl (.int (x3)))], [], ax_m (s) ρ)
        refine ax_bk hK (ax_fc (ax_v_ii (d := 1) d_Z_checkExpression_382 (by decide)) (ax_fc (ax_v_go (tgt := 13) d_Z_checkExpression_385 (by decide)) ax_fn)) (y := (13, [(3, .inl (.int ((x3 + (1 : Int32))))), (0, .inr (0, 38)), (1, .inl (.int (x1))), (2, .inl (.int (x2)))], [], ax_m (s) ρ)) rfl ⟨trivial, trivial, trivial⟩ ?_
        exact ax_Lsub [1, 2, 3, 0] rfl (ih _ h KE)
      replace h := ax_if c90 h
      refine And.intro (fun c90 => ?_) (fun c90 => ?_)
      · replace h := ax_it c90 h
        change ax_R G 7 0 0 (214, [(0, .inr (0, 38)), (1, .inl (.int (x1))), (2, .inl (.int (x2))), (3, .inl (.int (x3)))], [], ax_m (s) ρ)
        obtain ⟨b83, h⟩ := ax_gd h
        obtain ⟨b84, h⟩ := ax_gd h
        refine ax_bk hK (ax_fc (ax_v_ld (ax_r_aload_n (i := 0) d_Z_checkExpression_214 rfl)) (ax_fc (ax_v_ld (ax_r_aload_n (i := 0) d_Z_checkExpression_215 rfl)) (ax_fc (ax_w_gf (e := none) hal d_Z_checkExpression_216 fd_Z_75) (ax_fc (ax_v_ld (ax_r_iload_n (i := 3) d_Z_checkExpression_219 rfl)) (ax_fc (ax_w_lald hal d_Z_checkExpression_220) (ax_fc (ax_v_ld (ax_r_aload_n (i := 0) d_Z_checkExpression_221 rfl)) (ax_fc (ax_w_gf (e := none) hal d_Z_checkExpression_222 fd_Z_20) (ax_fc (ax_v_pu (ax_r_iconst (v := 0) d_Z_checkExpression_225 (by decide))) (ax_fc (ax_w_lald hal d_Z_checkExpression_226) (ax_fc (ax_v_pu (ax_r_lcmp d_Z_checkExpression_227)) ax_fn)))))))))) (y := (228, [(0, .inr (0, 38)), (1, .inl (.int (x1))), (2, .inl (.int (x2))), (3, .inl (.int (x3)))], [.inl (.int ((lg_cmp (s.2 0 59 (x3).toNatClampNeg) (s.2 0 41 ((0 : Int32)).toNatClampNeg)))), .inr (0, 38)], ax_m (s) ρ)) rfl ⟨trivial, trivial, (h0 38 rfl), trivial, ⟨(h0 59 rfl), ax_inp b83⟩, trivial, (h0 38 rfl), trivial, ⟨(h0 41 rfl), ax_inp b84⟩, trivial, trivial⟩ ?_
        obtain ⟨w99, hw99, h⟩ := ax_bd h
        have KEw99 : ∀ (v86 : Int32), w99 = v86 → ax_R G 7 0 0 (236, [(0, .inr (0, 38)), (1, .inl (.int (x1))), (2, .inl (.int (x2))), (3, .inl (.int (x3)))], [.inl (.int (v86)), .inr (0, 38)], ax_m (s) ρ) := by
          intro v86 e9
          subst w99
          try dsimp only at h
          obtain ⟨b87, h⟩ := ax_gd h
          refine ax_bk hK (ax_fc (ax_v_pu (ax_r_iconst (v := 3) d_Z_checkExpression_236 (by decide))) (ax_fc (ax_v_ld (ax_r_aload_n (i := 0) d_Z_checkExpression_237 rfl)) (ax_fc (ax_w_gf (e := none) hal d_Z_checkExpression_238 fd_Z_78) (ax_fc (ax_v_ld (ax_r_iload_n (i := 3) d_Z_checkExpression_241 rfl)) (ax_fc (ax_w_iald hal d_Z_checkExpression_242) ax_fn))))) (y := (243, [(0, .inr (0, 38)), (1, .inl (.int (x1))), (2, .inl (.int (x2))), (3, .inl (.int (x3)))], [.inl (.int ((s.1 0 60 (x3).toNatClampNeg))), .inl (.int ((3 : Int32))), .inl (.int (v86)), .inr (0, 38)], ax_m (s) ρ)) rfl ⟨trivial, trivial, (h0 38 rfl), trivial, ⟨(h0 60 rfl), ax_inp b87⟩, trivial⟩ ?_
          obtain ⟨s88, q89, h⟩ := ax_bd h
          refine ax_bV (rest := []) hB (t_Z_consider h0 q89) cw_Z_316 im_Z_consider se_Z_consider d_Z_checkExpression_243 (h0 38 rfl) rfl rfl (by decide) (by decide) rfl rfl (Nat.le_of_ble_eq_true rfl) ?_
          change ax_R G 7 0 0 (246, [(0, .inr (0, 38)), (1, .inl (.int (x1))), (2, .inl (.int (x2))), (3, .inl (.int (x3)))], [], ax_m (s88) ρ)
          refine ax_bk hK (ax_fc (ax_v_go (tgt := 382) d_Z_checkExpression_246 (by decide)) ax_fn) (y := (382, [(0, .inr (0, 38)), (1, .inl (.int (x1))), (2, .inl (.int (x2))), (3, .inl (.int (x3)))], [], ax_m (s88) ρ)) rfl ⟨trivial, trivial⟩ ?_
          refine ax_bk hK (ax_fc (ax_v_ii (d := 1) d_Z_checkExpression_382 (by decide)) (ax_fc (ax_v_go (tgt := 13) d_Z_checkExpression_385 (by decide)) ax_fn)) (y := (13, [(3, .inl (.int ((x3 + (1 : Int32))))), (0, .inr (0, 38)), (1, .inl (.int (x1))), (2, .inl (.int (x2)))], [], ax_m (s88) ρ)) rfl ⟨trivial, trivial, trivial⟩ ?_
          exact ax_Lsub [1, 2, 3, 0] rfl (ih _ h KE)
        clear h
        have h := hw99
        refine ax_if_lt (tgt := 235) hK d_Z_checkExpression_228 (by decide) (fun c85 => ?_) (fun c85 => ?_)
        · replace h := ax_it c85 h
          refine ax_bk hK (ax_fc (ax_v_pu (ax_r_iconst (v := 0) d_Z_checkExpression_235 (by decide))) ax_fn) (y := (236, [(0, .inr (0, 38)), (1, .inl (.int (x1))), (2, .inl (.int (x2))), (3, .inl (.int (x3)))], [.inl (.int ((0 : Int32))), .inr (0, 38)], ax_m (s) ρ)) rfl ⟨trivial, trivial⟩ ?_
          cases h
          exact ax_Lsub [0, 1, 2, 3] rfl (KEw99 _ rfl)
        · replace h := ax_if c85 h
          refine ax_bk hK (ax_fc (ax_v_pu (ax_r_iconst (v := 1) d_Z_checkExpression_231 (by decide))) (ax_fc (ax_v_go (tgt := 236) d_Z_checkExpression_232 (by decide)) ax_fn)) (y := (236, [(0, .inr (0, 38)), (1, .inl (.int (x1))), (2, .inl (.int (x2))), (3, .inl (.int (x3)))], [.inl (.int ((1 : Int32))), .inr (0, 38)], ax_m (s) ρ)) rfl ⟨trivial, trivial, trivial⟩ ?_
          cases h
          exact ax_Lsub [0, 1, 2, 3] rfl (KEw99 _ rfl)
      replace h := ax_if c90 h
      change ax_R G 7 0 0 (382, [(0, .inr (0, 38)), (1, .inl (.int (x1))), (2, .inl (.int (x2))), (3, .inl (.int (x3)))], [], ax_m (s) ρ)
      refine ax_bk hK (ax_fc (ax_v_ii (d := 1) d_Z_checkExpression_382 (by decide)) (ax_fc (ax_v_go (tgt := 13) d_Z_checkExpression_385 (by decide)) ax_fn)) (y := (13, [(3, .inl (.int ((x3 + (1 : Int32))))), (0, .inr (0, 38)), (1, .inl (.int (x1))), (2, .inl (.int (x2)))], [], ax_m (s) ρ)) rfl ⟨trivial, trivial, trivial⟩ ?_
      exact ax_Lsub [1, 2, 3, 0] rfl (ih _ h KE)
set_option maxRecDepth 100000 in
theorem cw_Z_313 : ax_cw "CipherNotationModel" 313 y_Z_around (.code y_Z_around prog_8_method_32_code 4 (some .int)) 1 := ⟨nw_6 1 (by decide +kernel) rfl, nw_1 7 (by decide +kernel) rfl, nw_6 4 rfl rfl, by decide +kernel, by decide +kernel⟩
theorem im_Z_around : Cond.instanceMethod y_Z_around ∈ ax_tbl := nw_6 3 (by decide +kernel) rfl
theorem se_Z_around : Cond.selects y_Z_around.cls y_Z_around y_Z_around ∈ ax_tbl := nw_sel 65 (by decide +kernel) (by decide +kernel)
def f_Z_checkExpression (F : Nat) (a1 : Int32) (s : ax_σ) : Option (ax_σ) :=
  Option.bind (f_Z_around F a1 s) (fun (r1, s2) =>
    bif ax_in a1 240 then
    Option.bind (lp_Z_checkExpression_13 F a1 r1 F (s2.1 0 54 (a1).toNatClampNeg) s2) (fun s92 =>
      some (s92))
    else none)
set_option maxHeartbeats 4000000 in
set_option maxRecDepth 100000 in
theorem t_Z_checkExpression {l : Launch} {D : va_G} {cA : Nat → ClassId} {ad : Nat → Nat → Nat} {al : List (Nat × Nat)} {θ : ax_Θ} {ρ : ax_ρ} {F : Nat} (h0 : ax_M0 al) {a1 : Int32} {s : ax_σ} {s0 : ax_σ} (h : f_Z_checkExpression F a1 s = some s0) : ax_T l D cA ad al θ y_Z_checkExpression (.code y_Z_checkExpression prog_8_method_37_code 7 none) 3 [.inr (0, 38), .inl (.int (a1))] (ax_m s ρ) none (ax_m s0 ρ) := by
  refine ax_T_of (own := "CipherNotationModel") (by decide) rfl (Nat.le_of_ble_eq_true rfl) [(0, .inr (0, 38)), (1, .inl (.int (a1)))] rfl ?_
  intro G hA
  have hB := hA.B
  have hK := hB.K
  have hal := hB.la
  unfold f_Z_checkExpression at h
  refine ax_bk hK (ax_fc (ax_v_ld (ax_r_aload_n (i := 0) d_Z_checkExpression_0 rfl)) (ax_fc (ax_v_ld (ax_r_iload_n (i := 1) d_Z_checkExpression_1 rfl)) ax_fn)) (y := (2, [(0, .inr (0, 38)), (1, .inl (.int (a1)))], [.inl (.int (a1)), .inr (0, 38)], ax_m (s) ρ)) rfl ⟨trivial, trivial, trivial⟩ ?_
  obtain ⟨⟨r1, s2⟩, q3, h⟩ := ax_bd h
  dsimp only at h
  refine ax_bV (rest := []) hB (t_Z_around h0 q3) cw_Z_313 im_Z_around se_Z_around d_Z_checkExpression_2 (h0 38 rfl) rfl rfl (by decide) (by decide) rfl rfl (Nat.le_of_ble_eq_true rfl) ?_
  change ax_R G 7 0 0 (5, [(0, .inr (0, 38)), (1, .inl (.int (a1)))], [.inl (.int (r1))], ax_m (s2) ρ)
  obtain ⟨b4, h⟩ := ax_gd h
  refine ax_bk hK (ax_fc (ax_v_so (ax_r_istore_n (i := 2) d_Z_checkExpression_5 rfl)) (ax_fc (ax_v_ld (ax_r_aload_n (i := 0) d_Z_checkExpression_6 rfl)) (ax_fc (ax_w_gf (e := none) hal d_Z_checkExpression_7 fd_Z_60) (ax_fc (ax_v_ld (ax_r_iload_n (i := 1) d_Z_checkExpression_10 rfl)) (ax_fc (ax_w_iald hal d_Z_checkExpression_11) (ax_fc (ax_v_so (ax_r_istore_n (i := 3) d_Z_checkExpression_12 rfl)) ax_fn)))))) (y := (13, [(3, .inl (.int ((s2.1 0 54 (a1).toNatClampNeg)))), (2, .inl (.int (r1))), (0, .inr (0, 38)), (1, .inl (.int (a1)))], [], ax_m (s2) ρ)) rfl ⟨trivial, trivial, (h0 38 rfl), trivial, ⟨(h0 54 rfl), ax_inp b4⟩, trivial, trivial⟩ ?_
  obtain ⟨w93, hw93, h⟩ := ax_bd h
  refine ax_Lsub [2, 3, 1, 0] rfl (pl_Z_checkExpression_13 h0 hB F _ hw93 ?_)
  intro s92 e9
  subst w93
  try dsimp only at h
  change ax_R G 7 0 0 (388, [], [], ax_m (s92) ρ)
  cases h
  exact ax_vret hA d_Z_checkExpression_388
def y_Z_checkStep : MethodName := ⟨"CipherNotationModel", "checkStep", "(I)V"⟩
theorem d_Z_checkStep_0 : decode prog_8_method_39_code 0 = .ok (.aload_n 0, 1) := by decide +kernel
theorem d_Z_checkStep_1 : decode prog_8_method_39_code 1 = .ok (.aload_n 0, 1) := by decide +kernel
theorem d_Z_checkStep_2 : decode prog_8_method_39_code 2 = .ok (.getfield (45), 3) := by decide +kernel
theorem d_Z_checkStep_5 : decode prog_8_method_39_code 5 = .ok (.iload_n 1, 1) := by decide +kernel
theorem d_Z_checkStep_6 : decode prog_8_method_39_code 6 = .ok (.iaload, 1) := by decide +kernel
theorem d_Z_checkStep_7 : decode prog_8_method_39_code 7 = .ok (.i2l, 1) := by decide +kernel
theorem d_Z_checkStep_8 : decode prog_8_method_39_code 8 = .ok (.aload_n 0, 1) := by decide +kernel
theorem d_Z_checkStep_9 : decode prog_8_method_39_code 9 = .ok (.getfield (20), 3) := by decide +kernel
theorem d_Z_checkStep_12 : decode prog_8_method_39_code 12 = .ok (.iconst 1, 1) := by decide +kernel
theorem d_Z_checkStep_13 : decode prog_8_method_39_code 13 = .ok (.laload, 1) := by decide +kernel
theorem d_Z_checkStep_14 : decode prog_8_method_39_code 14 = .ok (.lcmp, 1) := by decide +kernel
theorem d_Z_checkStep_15 : decode prog_8_method_39_code 15 = .ok (.ifCond .lt (7), 3) := by decide +kernel
theorem d_Z_checkStep_18 : decode prog_8_method_39_code 18 = .ok (.iconst 1, 1) := by decide +kernel
theorem d_Z_checkStep_19 : decode prog_8_method_39_code 19 = .ok (.goto (4), 3) := by decide +kernel
theorem d_Z_checkStep_22 : decode prog_8_method_39_code 22 = .ok (.iconst 0, 1) := by decide +kernel
theorem d_Z_checkStep_23 : decode prog_8_method_39_code 23 = .ok (.iconst 4, 1) := by decide +kernel
theorem d_Z_checkStep_24 : decode prog_8_method_39_code 24 = .ok (.aload_n 0, 1) := by decide +kernel
theorem d_Z_checkStep_25 : decode prog_8_method_39_code 25 = .ok (.getfield (42), 3) := by decide +kernel
theorem d_Z_checkStep_28 : decode prog_8_method_39_code 28 = .ok (.iload_n 1, 1) := by decide +kernel
theorem d_Z_checkStep_29 : decode prog_8_method_39_code 29 = .ok (.iaload, 1) := by decide +kernel
theorem d_Z_checkStep_30 : decode prog_8_method_39_code 30 = .ok (.invokevirtual (316), 3) := by decide +kernel
theorem d_Z_checkStep_33 : decode prog_8_method_39_code 33 = .ok (.aload_n 0, 1) := by decide +kernel
theorem d_Z_checkStep_34 : decode prog_8_method_39_code 34 = .ok (.getfield (39), 3) := by decide +kernel
theorem d_Z_checkStep_37 : decode prog_8_method_39_code 37 = .ok (.iload_n 1, 1) := by decide +kernel
theorem d_Z_checkStep_38 : decode prog_8_method_39_code 38 = .ok (.iaload, 1) := by decide +kernel
theorem d_Z_checkStep_39 : decode prog_8_method_39_code 39 = .ok (.tableswitch (378) (7) (12) #[37, 92, 127, 127, 205, 286], 37) := by decide +kernel
theorem d_Z_checkStep_76 : decode prog_8_method_39_code 76 = .ok (.aload_n 0, 1) := by decide +kernel
theorem d_Z_checkStep_77 : decode prog_8_method_39_code 77 = .ok (.aload_n 0, 1) := by decide +kernel
theorem d_Z_checkStep_78 : decode prog_8_method_39_code 78 = .ok (.aload_n 0, 1) := by decide +kernel
theorem d_Z_checkStep_79 : decode prog_8_method_39_code 79 = .ok (.getfield (54), 3) := by decide +kernel
theorem d_Z_checkStep_82 : decode prog_8_method_39_code 82 = .ok (.iload_n 1, 1) := by decide +kernel
theorem d_Z_checkStep_83 : decode prog_8_method_39_code 83 = .ok (.laload, 1) := by decide +kernel
theorem d_Z_checkStep_84 : decode prog_8_method_39_code 84 = .ok (.invokevirtual (320), 3) := by decide +kernel
theorem d_Z_checkStep_87 : decode prog_8_method_39_code 87 = .ok (.iconst 3, 1) := by decide +kernel
theorem d_Z_checkStep_88 : decode prog_8_method_39_code 88 = .ok (.aload_n 0, 1) := by decide +kernel
theorem d_Z_checkStep_89 : decode prog_8_method_39_code 89 = .ok (.getfield (57), 3) := by decide +kernel
theorem d_Z_checkStep_92 : decode prog_8_method_39_code 92 = .ok (.iload_n 1, 1) := by decide +kernel
theorem d_Z_checkStep_93 : decode prog_8_method_39_code 93 = .ok (.iaload, 1) := by decide +kernel
theorem d_Z_checkStep_94 : decode prog_8_method_39_code 94 = .ok (.invokevirtual (316), 3) := by decide +kernel
theorem d_Z_checkStep_97 : decode prog_8_method_39_code 97 = .ok (.aload_n 0, 1) := by decide +kernel
theorem d_Z_checkStep_98 : decode prog_8_method_39_code 98 = .ok (.aload_n 0, 1) := by decide +kernel
theorem d_Z_checkStep_99 : decode prog_8_method_39_code 99 = .ok (.getfield (54), 3) := by decide +kernel
theorem d_Z_checkStep_102 : decode prog_8_method_39_code 102 = .ok (.iload_n 1, 1) := by decide +kernel
theorem d_Z_checkStep_103 : decode prog_8_method_39_code 103 = .ok (.laload, 1) := by decide +kernel
theorem d_Z_checkStep_104 : decode prog_8_method_39_code 104 = .ok (.ldc2_w (331), 3) := by decide +kernel
theorem d_Z_checkStep_107 : decode prog_8_method_39_code 107 = .ok (.lrem, 1) := by decide +kernel
theorem d_Z_checkStep_108 : decode prog_8_method_39_code 108 = .ok (.lconst 0, 1) := by decide +kernel
theorem d_Z_checkStep_109 : decode prog_8_method_39_code 109 = .ok (.lcmp, 1) := by decide +kernel
theorem d_Z_checkStep_110 : decode prog_8_method_39_code 110 = .ok (.ifCond .ne (7), 3) := by decide +kernel
theorem d_Z_checkStep_113 : decode prog_8_method_39_code 113 = .ok (.iconst 1, 1) := by decide +kernel
theorem d_Z_checkStep_114 : decode prog_8_method_39_code 114 = .ok (.goto (4), 3) := by decide +kernel
theorem d_Z_checkStep_117 : decode prog_8_method_39_code 117 = .ok (.iconst 0, 1) := by decide +kernel
theorem d_Z_checkStep_118 : decode prog_8_method_39_code 118 = .ok (.iconst 5, 1) := by decide +kernel
theorem d_Z_checkStep_119 : decode prog_8_method_39_code 119 = .ok (.aload_n 0, 1) := by decide +kernel
theorem d_Z_checkStep_120 : decode prog_8_method_39_code 120 = .ok (.getfield (42), 3) := by decide +kernel
theorem d_Z_checkStep_123 : decode prog_8_method_39_code 123 = .ok (.iload_n 1, 1) := by decide +kernel
theorem d_Z_checkStep_124 : decode prog_8_method_39_code 124 = .ok (.iaload, 1) := by decide +kernel
theorem d_Z_checkStep_125 : decode prog_8_method_39_code 125 = .ok (.invokevirtual (316), 3) := by decide +kernel
theorem d_Z_checkStep_128 : decode prog_8_method_39_code 128 = .ok (.goto (294), 3) := by decide +kernel
theorem d_Z_checkStep_131 : decode prog_8_method_39_code 131 = .ok (.aload_n 0, 1) := by decide +kernel
theorem d_Z_checkStep_132 : decode prog_8_method_39_code 132 = .ok (.aload_n 0, 1) := by decide +kernel
theorem d_Z_checkStep_133 : decode prog_8_method_39_code 133 = .ok (.getfield (54), 3) := by decide +kernel
theorem d_Z_checkStep_136 : decode prog_8_method_39_code 136 = .ok (.iload_n 1, 1) := by decide +kernel
theorem d_Z_checkStep_137 : decode prog_8_method_39_code 137 = .ok (.laload, 1) := by decide +kernel
theorem d_Z_checkStep_138 : decode prog_8_method_39_code 138 = .ok (.aload_n 0, 1) := by decide +kernel
theorem d_Z_checkStep_139 : decode prog_8_method_39_code 139 = .ok (.getfield (20), 3) := by decide +kernel
theorem d_Z_checkStep_142 : decode prog_8_method_39_code 142 = .ok (.iconst 0, 1) := by decide +kernel
theorem d_Z_checkStep_143 : decode prog_8_method_39_code 143 = .ok (.laload, 1) := by decide +kernel
theorem d_Z_checkStep_144 : decode prog_8_method_39_code 144 = .ok (.lcmp, 1) := by decide +kernel
theorem d_Z_checkStep_145 : decode prog_8_method_39_code 145 = .ok (.ifCond .lt (7), 3) := by decide +kernel
theorem d_Z_checkStep_148 : decode prog_8_method_39_code 148 = .ok (.iconst 1, 1) := by decide +kernel
theorem d_Z_checkStep_149 : decode prog_8_method_39_code 149 = .ok (.goto (4), 3) := by decide +kernel
theorem d_Z_checkStep_152 : decode prog_8_method_39_code 152 = .ok (.iconst 0, 1) := by decide +kernel
theorem d_Z_checkStep_153 : decode prog_8_method_39_code 153 = .ok (.iconst 3, 1) := by decide +kernel
theorem d_Z_checkStep_154 : decode prog_8_method_39_code 154 = .ok (.aload_n 0, 1) := by decide +kernel
theorem d_Z_checkStep_155 : decode prog_8_method_39_code 155 = .ok (.getfield (57), 3) := by decide +kernel
theorem d_Z_checkStep_158 : decode prog_8_method_39_code 158 = .ok (.iload_n 1, 1) := by decide +kernel
theorem d_Z_checkStep_159 : decode prog_8_method_39_code 159 = .ok (.iaload, 1) := by decide +kernel
theorem d_Z_checkStep_160 : decode prog_8_method_39_code 160 = .ok (.invokevirtual (316), 3) := by decide +kernel
theorem d_Z_checkStep_163 : decode prog_8_method_39_code 163 = .ok (.goto (259), 3) := by decide +kernel
theorem d_Z_checkStep_166 : decode prog_8_method_39_code 166 = .ok (.aload_n 0, 1) := by decide +kernel
theorem d_Z_checkStep_167 : decode prog_8_method_39_code 167 = .ok (.aload_n 0, 1) := by decide +kernel
theorem d_Z_checkStep_168 : decode prog_8_method_39_code 168 = .ok (.getfield (48), 3) := by decide +kernel
theorem d_Z_checkStep_171 : decode prog_8_method_39_code 171 = .ok (.iload_n 1, 1) := by decide +kernel
theorem d_Z_checkStep_172 : decode prog_8_method_39_code 172 = .ok (.iaload, 1) := by decide +kernel
theorem d_Z_checkStep_173 : decode prog_8_method_39_code 173 = .ok (.i2l, 1) := by decide +kernel
theorem d_Z_checkStep_174 : decode prog_8_method_39_code 174 = .ok (.aload_n 0, 1) := by decide +kernel
theorem d_Z_checkStep_175 : decode prog_8_method_39_code 175 = .ok (.getfield (20), 3) := by decide +kernel
theorem d_Z_checkStep_178 : decode prog_8_method_39_code 178 = .ok (.iconst 1, 1) := by decide +kernel
theorem d_Z_checkStep_179 : decode prog_8_method_39_code 179 = .ok (.laload, 1) := by decide +kernel
theorem d_Z_checkStep_180 : decode prog_8_method_39_code 180 = .ok (.lcmp, 1) := by decide +kernel
theorem d_Z_checkStep_181 : decode prog_8_method_39_code 181 = .ok (.ifCond .lt (7), 3) := by decide +kernel
theorem d_Z_checkStep_184 : decode prog_8_method_39_code 184 = .ok (.iconst 1, 1) := by decide +kernel
theorem d_Z_checkStep_185 : decode prog_8_method_39_code 185 = .ok (.goto (4), 3) := by decide +kernel
theorem d_Z_checkStep_188 : decode prog_8_method_39_code 188 = .ok (.iconst 0, 1) := by decide +kernel
theorem d_Z_checkStep_189 : decode prog_8_method_39_code 189 = .ok (.iconst 4, 1) := by decide +kernel
theorem d_Z_checkStep_190 : decode prog_8_method_39_code 190 = .ok (.aload_n 0, 1) := by decide +kernel
theorem d_Z_checkStep_191 : decode prog_8_method_39_code 191 = .ok (.getfield (51), 3) := by decide +kernel
theorem d_Z_checkStep_194 : decode prog_8_method_39_code 194 = .ok (.iload_n 1, 1) := by decide +kernel
theorem d_Z_checkStep_195 : decode prog_8_method_39_code 195 = .ok (.iaload, 1) := by decide +kernel
theorem d_Z_checkStep_196 : decode prog_8_method_39_code 196 = .ok (.invokevirtual (316), 3) := by decide +kernel
theorem d_Z_checkStep_199 : decode prog_8_method_39_code 199 = .ok (.aload_n 0, 1) := by decide +kernel
theorem d_Z_checkStep_200 : decode prog_8_method_39_code 200 = .ok (.aload_n 0, 1) := by decide +kernel
theorem d_Z_checkStep_201 : decode prog_8_method_39_code 201 = .ok (.getfield (39), 3) := by decide +kernel
theorem d_Z_checkStep_204 : decode prog_8_method_39_code 204 = .ok (.iload_n 1, 1) := by decide +kernel
theorem d_Z_checkStep_205 : decode prog_8_method_39_code 205 = .ok (.iaload, 1) := by decide +kernel
theorem d_Z_checkStep_206 : decode prog_8_method_39_code 206 = .ok (.bipush (9), 2) := by decide +kernel
theorem d_Z_checkStep_208 : decode prog_8_method_39_code 208 = .ok (.if_icmp .ne (22), 3) := by decide +kernel
theorem d_Z_checkStep_211 : decode prog_8_method_39_code 211 = .ok (.aload_n 0, 1) := by decide +kernel
theorem d_Z_checkStep_212 : decode prog_8_method_39_code 212 = .ok (.getfield (48), 3) := by decide +kernel
theorem d_Z_checkStep_215 : decode prog_8_method_39_code 215 = .ok (.iload_n 1, 1) := by decide +kernel
theorem d_Z_checkStep_216 : decode prog_8_method_39_code 216 = .ok (.iaload, 1) := by decide +kernel
theorem d_Z_checkStep_217 : decode prog_8_method_39_code 217 = .ok (.aload_n 0, 1) := by decide +kernel
theorem d_Z_checkStep_218 : decode prog_8_method_39_code 218 = .ok (.getfield (45), 3) := by decide +kernel
theorem d_Z_checkStep_221 : decode prog_8_method_39_code 221 = .ok (.iload_n 1, 1) := by decide +kernel
theorem d_Z_checkStep_222 : decode prog_8_method_39_code 222 = .ok (.iaload, 1) := by decide +kernel
theorem d_Z_checkStep_223 : decode prog_8_method_39_code 223 = .ok (.if_icmp .ne (7), 3) := by decide +kernel
theorem d_Z_checkStep_226 : decode prog_8_method_39_code 226 = .ok (.iconst 1, 1) := by decide +kernel
theorem d_Z_checkStep_227 : decode prog_8_method_39_code 227 = .ok (.goto (4), 3) := by decide +kernel
theorem d_Z_checkStep_230 : decode prog_8_method_39_code 230 = .ok (.iconst 0, 1) := by decide +kernel
theorem d_Z_checkStep_231 : decode prog_8_method_39_code 231 = .ok (.iconst 5, 1) := by decide +kernel
theorem d_Z_checkStep_232 : decode prog_8_method_39_code 232 = .ok (.aload_n 0, 1) := by decide +kernel
theorem d_Z_checkStep_233 : decode prog_8_method_39_code 233 = .ok (.getfield (42), 3) := by decide +kernel
theorem d_Z_checkStep_236 : decode prog_8_method_39_code 236 = .ok (.iload_n 1, 1) := by decide +kernel
theorem d_Z_checkStep_237 : decode prog_8_method_39_code 237 = .ok (.iaload, 1) := by decide +kernel
theorem d_Z_checkStep_238 : decode prog_8_method_39_code 238 = .ok (.invokevirtual (316), 3) := by decide +kernel
theorem d_Z_checkStep_241 : decode prog_8_method_39_code 241 = .ok (.goto (181), 3) := by decide +kernel
theorem d_Z_checkStep_244 : decode prog_8_method_39_code 244 = .ok (.aload_n 0, 1) := by decide +kernel
theorem d_Z_checkStep_245 : decode prog_8_method_39_code 245 = .ok (.aload_n 0, 1) := by decide +kernel
theorem d_Z_checkStep_246 : decode prog_8_method_39_code 246 = .ok (.getfield (54), 3) := by decide +kernel
theorem d_Z_checkStep_249 : decode prog_8_method_39_code 249 = .ok (.iload_n 1, 1) := by decide +kernel
theorem d_Z_checkStep_250 : decode prog_8_method_39_code 250 = .ok (.laload, 1) := by decide +kernel
theorem d_Z_checkStep_251 : decode prog_8_method_39_code 251 = .ok (.aload_n 0, 1) := by decide +kernel
theorem d_Z_checkStep_252 : decode prog_8_method_39_code 252 = .ok (.getfield (177), 3) := by decide +kernel
theorem d_Z_checkStep_255 : decode prog_8_method_39_code 255 = .ok (.i2l, 1) := by decide +kernel
theorem d_Z_checkStep_256 : decode prog_8_method_39_code 256 = .ok (.lcmp, 1) := by decide +kernel
theorem d_Z_checkStep_257 : decode prog_8_method_39_code 257 = .ok (.ifCond .lt (7), 3) := by decide +kernel
theorem d_Z_checkStep_260 : decode prog_8_method_39_code 260 = .ok (.iconst 1, 1) := by decide +kernel
theorem d_Z_checkStep_261 : decode prog_8_method_39_code 261 = .ok (.goto (4), 3) := by decide +kernel
theorem d_Z_checkStep_264 : decode prog_8_method_39_code 264 = .ok (.iconst 0, 1) := by decide +kernel
theorem d_Z_checkStep_265 : decode prog_8_method_39_code 265 = .ok (.iconst 4, 1) := by decide +kernel
theorem d_Z_checkStep_266 : decode prog_8_method_39_code 266 = .ok (.aload_n 0, 1) := by decide +kernel
theorem d_Z_checkStep_267 : decode prog_8_method_39_code 267 = .ok (.getfield (57), 3) := by decide +kernel
theorem d_Z_checkStep_270 : decode prog_8_method_39_code 270 = .ok (.iload_n 1, 1) := by decide +kernel
theorem d_Z_checkStep_271 : decode prog_8_method_39_code 271 = .ok (.iaload, 1) := by decide +kernel
theorem d_Z_checkStep_272 : decode prog_8_method_39_code 272 = .ok (.invokevirtual (316), 3) := by decide +kernel
theorem d_Z_checkStep_275 : decode prog_8_method_39_code 275 = .ok (.aload_n 0, 1) := by decide +kernel
theorem d_Z_checkStep_276 : decode prog_8_method_39_code 276 = .ok (.aload_n 0, 1) := by decide +kernel
theorem d_Z_checkStep_277 : decode prog_8_method_39_code 277 = .ok (.getfield (54), 3) := by decide +kernel
theorem d_Z_checkStep_280 : decode prog_8_method_39_code 280 = .ok (.iload_n 1, 1) := by decide +kernel
theorem d_Z_checkStep_281 : decode prog_8_method_39_code 281 = .ok (.laload, 1) := by decide +kernel
theorem d_Z_checkStep_282 : decode prog_8_method_39_code 282 = .ok (.aload_n 0, 1) := by decide +kernel
theorem d_Z_checkStep_283 : decode prog_8_method_39_code 283 = .ok (.getfield (177), 3) := by decide +kernel
theorem d_Z_checkStep_286 : decode prog_8_method_39_code 286 = .ok (.i2l, 1) := by decide +kernel
theorem d_Z_checkStep_287 : decode prog_8_method_39_code 287 = .ok (.lcmp, 1) := by decide +kernel
theorem d_Z_checkStep_288 : decode prog_8_method_39_code 288 = .ok (.ifCond .ge (23), 3) := by decide +kernel
theorem d_Z_checkStep_291 : decode prog_8_method_39_code 291 = .ok (.aload_n 0, 1) := by decide +kernel
theorem d_Z_checkStep_292 : decode prog_8_method_39_code 292 = .ok (.aload_n 0, 1) := by decide +kernel
theorem d_Z_checkStep_293 : decode prog_8_method_39_code 293 = .ok (.getfield (54), 3) := by decide +kernel
theorem d_Z_checkStep_296 : decode prog_8_method_39_code 296 = .ok (.iload_n 1, 1) := by decide +kernel
theorem d_Z_checkStep_297 : decode prog_8_method_39_code 297 = .ok (.laload, 1) := by decide +kernel
theorem d_Z_checkStep_298 : decode prog_8_method_39_code 298 = .ok (.lconst 1, 1) := by decide +kernel
theorem d_Z_checkStep_299 : decode prog_8_method_39_code 299 = .ok (.land, 1) := by decide +kernel
theorem d_Z_checkStep_300 : decode prog_8_method_39_code 300 = .ok (.l2i, 1) := by decide +kernel
theorem d_Z_checkStep_301 : decode prog_8_method_39_code 301 = .ok (.invokevirtual (333), 3) := by decide +kernel
theorem d_Z_checkStep_304 : decode prog_8_method_39_code 304 = .ok (.ifCond .eq (7), 3) := by decide +kernel
theorem d_Z_checkStep_307 : decode prog_8_method_39_code 307 = .ok (.iconst 1, 1) := by decide +kernel
theorem d_Z_checkStep_308 : decode prog_8_method_39_code 308 = .ok (.goto (4), 3) := by decide +kernel
theorem d_Z_checkStep_311 : decode prog_8_method_39_code 311 = .ok (.iconst 0, 1) := by decide +kernel
theorem d_Z_checkStep_312 : decode prog_8_method_39_code 312 = .ok (.iconst 5, 1) := by decide +kernel
theorem d_Z_checkStep_313 : decode prog_8_method_39_code 313 = .ok (.aload_n 0, 1) := by decide +kernel
theorem d_Z_checkStep_314 : decode prog_8_method_39_code 314 = .ok (.getfield (42), 3) := by decide +kernel
theorem d_Z_checkStep_317 : decode prog_8_method_39_code 317 = .ok (.iload_n 1, 1) := by decide +kernel
theorem d_Z_checkStep_318 : decode prog_8_method_39_code 318 = .ok (.iaload, 1) := by decide +kernel
theorem d_Z_checkStep_319 : decode prog_8_method_39_code 319 = .ok (.invokevirtual (316), 3) := by decide +kernel
theorem d_Z_checkStep_322 : decode prog_8_method_39_code 322 = .ok (.goto (100), 3) := by decide +kernel
theorem d_Z_checkStep_325 : decode prog_8_method_39_code 325 = .ok (.aload_n 0, 1) := by decide +kernel
theorem d_Z_checkStep_326 : decode prog_8_method_39_code 326 = .ok (.getfield (60), 3) := by decide +kernel
theorem d_Z_checkStep_329 : decode prog_8_method_39_code 329 = .ok (.iload_n 1, 1) := by decide +kernel
theorem d_Z_checkStep_330 : decode prog_8_method_39_code 330 = .ok (.iaload, 1) := by decide +kernel
theorem d_Z_checkStep_331 : decode prog_8_method_39_code 331 = .ok (.istore_n 2, 1) := by decide +kernel
theorem d_Z_checkStep_332 : decode prog_8_method_39_code 332 = .ok (.iload_n 2, 1) := by decide +kernel
theorem d_Z_checkStep_333 : decode prog_8_method_39_code 333 = .ok (.aload_n 0, 1) := by decide +kernel
theorem d_Z_checkStep_334 : decode prog_8_method_39_code 334 = .ok (.getfield (63), 3) := by decide +kernel
theorem d_Z_checkStep_337 : decode prog_8_method_39_code 337 = .ok (.iload_n 1, 1) := by decide +kernel
theorem d_Z_checkStep_338 : decode prog_8_method_39_code 338 = .ok (.iaload, 1) := by decide +kernel
theorem d_Z_checkStep_339 : decode prog_8_method_39_code 339 = .ok (.if_icmp .ge (41), 3) := by decide +kernel
theorem d_Z_checkStep_342 : decode prog_8_method_39_code 342 = .ok (.aload_n 0, 1) := by decide +kernel
theorem d_Z_checkStep_343 : decode prog_8_method_39_code 343 = .ok (.aload_n 0, 1) := by decide +kernel
theorem d_Z_checkStep_344 : decode prog_8_method_39_code 344 = .ok (.getfield (66), 3) := by decide +kernel
theorem d_Z_checkStep_347 : decode prog_8_method_39_code 347 = .ok (.iload_n 2, 1) := by decide +kernel
theorem d_Z_checkStep_348 : decode prog_8_method_39_code 348 = .ok (.laload, 1) := by decide +kernel
theorem d_Z_checkStep_349 : decode prog_8_method_39_code 349 = .ok (.aload_n 0, 1) := by decide +kernel
theorem d_Z_checkStep_350 : decode prog_8_method_39_code 350 = .ok (.getfield (20), 3) := by decide +kernel
theorem d_Z_checkStep_353 : decode prog_8_method_39_code 353 = .ok (.iconst 0, 1) := by decide +kernel
theorem d_Z_checkStep_354 : decode prog_8_method_39_code 354 = .ok (.laload, 1) := by decide +kernel
theorem d_Z_checkStep_355 : decode prog_8_method_39_code 355 = .ok (.lcmp, 1) := by decide +kernel
theorem d_Z_checkStep_356 : decode prog_8_method_39_code 356 = .ok (.ifCond .lt (7), 3) := by decide +kernel
theorem d_Z_checkStep_359 : decode prog_8_method_39_code 359 = .ok (.iconst 1, 1) := by decide +kernel
theorem d_Z_checkStep_360 : decode prog_8_method_39_code 360 = .ok (.goto (4), 3) := by decide +kernel
theorem d_Z_checkStep_363 : decode prog_8_method_39_code 363 = .ok (.iconst 0, 1) := by decide +kernel
theorem d_Z_checkStep_364 : decode prog_8_method_39_code 364 = .ok (.iconst 3, 1) := by decide +kernel
theorem d_Z_checkStep_365 : decode prog_8_method_39_code 365 = .ok (.aload_n 0, 1) := by decide +kernel
theorem d_Z_checkStep_366 : decode prog_8_method_39_code 366 = .ok (.getfield (69), 3) := by decide +kernel
theorem d_Z_checkStep_369 : decode prog_8_method_39_code 369 = .ok (.iload_n 2, 1) := by decide +kernel
theorem d_Z_checkStep_370 : decode prog_8_method_39_code 370 = .ok (.iaload, 1) := by decide +kernel
theorem d_Z_checkStep_371 : decode prog_8_method_39_code 371 = .ok (.invokevirtual (316), 3) := by decide +kernel
theorem d_Z_checkStep_374 : decode prog_8_method_39_code 374 = .ok (.iinc 2 (1), 3) := by decide +kernel
theorem d_Z_checkStep_377 : decode prog_8_method_39_code 377 = .ok (.goto (-45), 3) := by decide +kernel
theorem d_Z_checkStep_380 : decode prog_8_method_39_code 380 = .ok (.aload_n 0, 1) := by decide +kernel
theorem d_Z_checkStep_381 : decode prog_8_method_39_code 381 = .ok (.aload_n 0, 1) := by decide +kernel
theorem d_Z_checkStep_382 : decode prog_8_method_39_code 382 = .ok (.getfield (63), 3) := by decide +kernel
theorem d_Z_checkStep_385 : decode prog_8_method_39_code 385 = .ok (.iload_n 1, 1) := by decide +kernel
theorem d_Z_checkStep_386 : decode prog_8_method_39_code 386 = .ok (.iaload, 1) := by decide +kernel
theorem d_Z_checkStep_387 : decode prog_8_method_39_code 387 = .ok (.aload_n 0, 1) := by decide +kernel
theorem d_Z_checkStep_388 : decode prog_8_method_39_code 388 = .ok (.getfield (60), 3) := by decide +kernel
theorem d_Z_checkStep_391 : decode prog_8_method_39_code 391 = .ok (.iload_n 1, 1) := by decide +kernel
theorem d_Z_checkStep_392 : decode prog_8_method_39_code 392 = .ok (.iaload, 1) := by decide +kernel
theorem d_Z_checkStep_393 : decode prog_8_method_39_code 393 = .ok (.isub, 1) := by decide +kernel
theorem d_Z_checkStep_394 : decode prog_8_method_39_code 394 = .ok (.iconst 2, 1) := by decide +kernel
theorem d_Z_checkStep_395 : decode prog_8_method_39_code 395 = .ok (.irem, 1) := by decide +kernel
theorem d_Z_checkStep_396 : decode prog_8_method_39_code 396 = .ok (.ifCond .ne (7), 3) := by decide +kernel
theorem d_Z_checkStep_399 : decode prog_8_method_39_code 399 = .ok (.iconst 1, 1) := by decide +kernel
theorem d_Z_checkStep_400 : decode prog_8_method_39_code 400 = .ok (.goto (4), 3) := by decide +kernel
theorem d_Z_checkStep_403 : decode prog_8_method_39_code 403 = .ok (.iconst 0, 1) := by decide +kernel
theorem d_Z_checkStep_404 : decode prog_8_method_39_code 404 = .ok (.iconst 5, 1) := by decide +kernel
theorem d_Z_checkStep_405 : decode prog_8_method_39_code 405 = .ok (.aload_n 0, 1) := by decide +kernel
theorem d_Z_checkStep_406 : decode prog_8_method_39_code 406 = .ok (.getfield (42), 3) := by decide +kernel
theorem d_Z_checkStep_409 : decode prog_8_method_39_code 409 = .ok (.iload_n 1, 1) := by decide +kernel
theorem d_Z_checkStep_410 : decode prog_8_method_39_code 410 = .ok (.iaload, 1) := by decide +kernel
theorem d_Z_checkStep_411 : decode prog_8_method_39_code 411 = .ok (.invokevirtual (316), 3) := by decide +kernel
theorem d_Z_checkStep_414 : decode prog_8_method_39_code 414 = .ok (.goto (8), 3) := by decide +kernel
theorem d_Z_checkStep_417 : decode prog_8_method_39_code 417 = .ok (.aload_n 0, 1) := by decide +kernel
theorem d_Z_checkStep_418 : decode prog_8_method_39_code 418 = .ok (.iload_n 1, 1) := by decide +kernel
theorem d_Z_checkStep_419 : decode prog_8_method_39_code 419 = .ok (.invokevirtual (336), 3) := by decide +kernel
theorem d_Z_checkStep_422 : decode prog_8_method_39_code 422 = .ok (.return_, 1) := by decide +kernel
def lp_Z_checkStep_332 (F : Nat) (x1 : Int32) : Nat → Int32 → ax_σ → Option (ax_σ)
  | 0, _, _ => none
  | n + 1, x2, s =>
    bif ax_in x1 240 then
    if (s.1 0 55 (x1).toNatClampNeg) ≤ x2 then
      some s
    else
      bif ax_in x2 240 then
      bif ax_in (0 : Int32) 3 then
      Option.bind (
        if (lg_cmp (s.2 0 56 (x2).toNatClampNeg) (s.2 0 41 ((0 : Int32)).toNatClampNeg)) < (0 : Int32) then
          some (0 : Int32)
        else
          some (1 : Int32)) (fun v84 =>
        bif ax_in x2 240 then
        Option.bind (f_Z_consider v84 (3 : Int32) (s.1 0 57 (x2).toNatClampNeg) s) (fun s86 =>
          lp_Z_checkStep_332 F x1 n (x2 + (1 : Int32)) s86)
        else none)
      else none
      else none
    else none
set_option maxHeartbeats 4000000 in
set_option maxRecDepth 100000 in
theorem pl_Z_checkStep_332 {D : va_G} {cA : Nat → ClassId} {ad : Nat → Nat → Nat} {al : List (Nat × Nat)} {θ : ax_Θ} {l : Launch} {ρ : ax_ρ} {G : ax_G} {F : Nat} {x1 : Int32} (h0 : ax_M0 al) (hB : ax_B D cA ad al θ l "CipherNotationModel" prog_8_method_39_code 3 4 G) : ∀ (n : Nat) {x2 : Int32} {s : ax_σ} (out : ax_σ), lp_Z_checkStep_332 F x1 n x2 s = some out → (∀ (es : ax_σ), out = es → ax_R G 3 0 0 (380, [(0, .inr (0, 38)), (1, .inl (.int (x1)))], [], ax_m (es) ρ)) → ax_R G 3 0 0 (332, [(0, .inr (0, 38)), (1, .inl (.int (x1))), (2, .inl (.int (x2)))], [], ax_m (s) ρ) := by
  have hK := hB.K
  have hal := hB.la
  intro n
  induction n with
  | zero =>
    intro x2 s out h
    cases h
  | succ n ih =>
    intro x2 s out h KE
    rw [lp_Z_checkStep_332] at h
    obtain ⟨b80, h⟩ := ax_gd h
    refine ax_bk hK (ax_fc (ax_v_ld (ax_r_iload_n (i := 2) d_Z_checkStep_332 rfl)) (ax_fc (ax_v_ld (ax_r_aload_n (i := 0) d_Z_checkStep_333 rfl)) (ax_fc (ax_w_gf (e := none) hal d_Z_checkStep_334 fd_Z_63) (ax_fc (ax_v_ld (ax_r_iload_n (i := 1) d_Z_checkStep_337 rfl)) (ax_fc (ax_w_iald hal d_Z_checkStep_338) ax_fn))))) (y := (339, [(0, .inr (0, 38)), (1, .inl (.int (x1))), (2, .inl (.int (x2)))], [.inl (.int ((s.1 0 55 (x1).toNatClampNeg))), .inl (.int (x2))], ax_m (s) ρ)) rfl ⟨trivial, trivial, (h0 38 rfl), trivial, ⟨(h0 55 rfl), ax_inp b80⟩, trivial⟩ ?_
    refine ax_ic_ge (tgt := 380) hK d_Z_checkStep_339 (by decide) (fun c88 => ?_) (fun c88 => ?_)
    · replace h := ax_it c88 h
      cases h
      exact ax_Lsub [0, 1] rfl (KE _ rfl)
    · replace h := ax_if c88 h
      obtain ⟨b81, h⟩ := ax_gd h
      obtain ⟨b82, h⟩ := ax_gd h
      refine ax_bk hK (ax_fc (ax_v_ld (ax_r_aload_n (i := 0) d_Z_checkStep_342 rfl)) (ax_fc (ax_v_ld (ax_r_aload_n (i := 0) d_Z_checkStep_343 rfl)) (ax_fc (ax_w_gf (e := none) hal d_Z_checkStep_344 fd_Z_66) (ax_fc (ax_v_ld (ax_r_iload_n (i := 2) d_Z_checkStep_347 rfl)) (ax_fc (ax_w_lald hal d_Z_checkStep_348) (ax_fc (ax_v_ld (ax_r_aload_n (i := 0) d_Z_checkStep_349 rfl)) (ax_fc (ax_w_gf (e := none) hal d_Z_checkStep_350 fd_Z_20) (ax_fc (ax_v_pu (ax_r_iconst (v := 0) d_Z_checkStep_353 (by decide))) (ax_fc (ax_w_lald hal d_Z_checkStep_354) (ax_fc (ax_v_pu (ax_r_lcmp d_Z_checkStep_355)) ax_fn)))))))))) (y := (356, [(0, .inr (0, 38)), (1, .inl (.int (x1))), (2, .inl (.int (x2)))], [.inl (.int ((lg_cmp (s.2 0 56 (x2).toNatClampNeg) (s.2 0 41 ((0 : Int32)).toNatClampNeg)))), .inr (0, 38)], ax_m (s) ρ)) rfl ⟨trivial, trivial, (h0 38 rfl), trivial, ⟨(h0 56 rfl), ax_inp b81⟩, trivial, (h0 38 rfl), trivial, ⟨(h0 41 rfl), ax_inp b82⟩, trivial, trivial⟩ ?_
      obtain ⟨w89, hw89, h⟩ := ax_bd h
      have KEw89 : ∀ (v84 : Int32), w89 = v84 → ax_R G 3 0 0 (364, [(0, .inr (0, 38)), (1, .inl (.int (x1))), (2, .inl (.int (x2)))], [.inl (.int (v84)), .inr (0, 38)], ax_m (s) ρ) := by
        intro v84 e9
        subst w89
        try dsimp only at h
        obtain ⟨b85, h⟩ := ax_gd h
        refine ax_bk hK (ax_fc (ax_v_pu (ax_r_iconst (v := 3) d_Z_checkStep_364 (by decide))) (ax_fc (ax_v_ld (ax_r_aload_n (i := 0) d_Z_checkStep_365 rfl)) (ax_fc (ax_w_gf (e := none) hal d_Z_checkStep_366 fd_Z_69) (ax_fc (ax_v_ld (ax_r_iload_n (i := 2) d_Z_checkStep_369 rfl)) (ax_fc (ax_w_iald hal d_Z_checkStep_370) ax_fn))))) (y := (371, [(0, .inr (0, 38)), (1, .inl (.int (x1))), (2, .inl (.int (x2)))], [.inl (.int ((s.1 0 57 (x2).toNatClampNeg))), .inl (.int ((3 : Int32))), .inl (.int (v84)), .inr (0, 38)], ax_m (s) ρ)) rfl ⟨trivial, trivial, (h0 38 rfl), trivial, ⟨(h0 57 rfl), ax_inp b85⟩, trivial⟩ ?_
        obtain ⟨s86, q87, h⟩ := ax_bd h
        refine ax_bV (rest := []) hB (t_Z_consider h0 q87) cw_Z_316 im_Z_consider se_Z_consider d_Z_checkStep_371 (h0 38 rfl) rfl rfl (by decide) (by decide) rfl rfl (Nat.le_of_ble_eq_true rfl) ?_
        change ax_R G 3 0 0 (374, [(0, .inr (0, 38)), (1, .inl (.int (x1))), (2, .inl (.int (x2)))], [], ax_m (s86) ρ)
        refine ax_bk hK (ax_fc (ax_v_ii (d := 1) d_Z_checkStep_374 (by decide)) (ax_fc (ax_v_go (tgt := 332) d_Z_checkStep_377 (by decide)) ax_fn)) (y := (332, [(2, .inl (.int ((x2 + (1 : Int32))))), (0, .inr (0, 38)), (1, .inl (.int (x1)))], [], ax_m (s86) ρ)) rfl ⟨trivial, trivial, trivial⟩ ?_
        exact ax_Lsub [1, 2, 0] rfl (ih _ h KE)
      clear h
      have h := hw89
      refine ax_if_lt (tgt := 363) hK d_Z_checkStep_356 (by decide) (fun c83 => ?_) (fun c83 => ?_)
      · replace h := ax_it c83 h
        refine ax_bk hK (ax_fc (ax_v_pu (ax_r_iconst (v := 0) d_Z_checkStep_363 (by decide))) ax_fn) (y := (364, [(0, .inr (0, 38)), (1, .inl (.int (x1))), (2, .inl (.int (x2)))], [.inl (.int ((0 : Int32))), .inr (0, 38)], ax_m (s) ρ)) rfl ⟨trivial, trivial⟩ ?_
        cases h
        exact ax_Lsub [0, 1, 2] rfl (KEw89 _ rfl)
      · replace h := ax_if c83 h
        refine ax_bk hK (ax_fc (ax_v_pu (ax_r_iconst (v := 1) d_Z_checkStep_359 (by decide))) (ax_fc (ax_v_go (tgt := 364) d_Z_checkStep_360 (by decide)) ax_fn)) (y := (364, [(0, .inr (0, 38)), (1, .inl (.int (x1))), (2, .inl (.int (x2)))], [.inl (.int ((1 : Int32))), .inr (0, 38)], ax_m (s) ρ)) rfl ⟨trivial, trivial, trivial⟩ ?_
        cases h
        exact ax_Lsub [0, 1, 2] rfl (KEw89 _ rfl)
set_option maxRecDepth 100000 in
theorem cw_Z_333 : ax_cw "CipherNotationModel" 333 y_Z_repeats (.code y_Z_repeats prog_8_method_38_code 5 (some .boolean)) 1 := ⟨nw_6 38 (by decide +kernel) rfl, nw_1 7 (by decide +kernel) rfl, nw_6 41 rfl rfl, by decide +kernel, by decide +kernel⟩
theorem im_Z_repeats : Cond.instanceMethod y_Z_repeats ∈ ax_tbl := nw_6 40 (by decide +kernel) rfl
theorem se_Z_repeats : Cond.selects y_Z_repeats.cls y_Z_repeats y_Z_repeats ∈ ax_tbl := nw_sel 74 (by decide +kernel) (by decide +kernel)
set_option maxRecDepth 100000 in
theorem cw_Z_336 : ax_cw "CipherNotationModel" 336 y_Z_checkExpression (.code y_Z_checkExpression prog_8_method_37_code 7 none) 1 := ⟨nw_6 9 (by decide +kernel) rfl, nw_1 7 (by decide +kernel) rfl, nw_6 12 rfl rfl, by decide +kernel, by decide +kernel⟩
theorem im_Z_checkExpression : Cond.instanceMethod y_Z_checkExpression ∈ ax_tbl := nw_6 11 (by decide +kernel) rfl
theorem se_Z_checkExpression : Cond.selects y_Z_checkExpression.cls y_Z_checkExpression y_Z_checkExpression ∈ ax_tbl := nw_sel 67 (by decide +kernel) (by decide +kernel)
def f_Z_checkStep (F : Nat) (a1 : Int32) (s : ax_σ) : Option (ax_σ) :=
  bif ax_in a1 240 then
  bif ax_in (1 : Int32) 3 then
  Option.bind (
    if (lg_cmp ((s.1 0 49 (a1).toNatClampNeg)).toInt64 (s.2 0 41 ((1 : Int32)).toNatClampNeg)) < (0 : Int32) then
      some (0 : Int32)
    else
      some (1 : Int32)) (fun v4 =>
    bif ax_in a1 240 then
    Option.bind (f_Z_consider v4 (4 : Int32) (s.1 0 48 (a1).toNatClampNeg) s) (fun s6 =>
      bif ax_in a1 240 then
      if (s6.1 0 47 (a1).toNatClampNeg) = (7 : Int32) then
        bif ax_in a1 240 then
        Option.bind (f_Z_isWide (s6.2 0 52 (a1).toNatClampNeg) s6) (fun r10 =>
          bif ax_in a1 240 then
          Option.bind (f_Z_consider r10 (3 : Int32) (s6.1 0 53 (a1).toNatClampNeg) s6) (fun s13 =>
            bif ax_in a1 240 then
            Option.bind (
              if (lg_cmp ((s13.2 0 52 (a1).toNatClampNeg) - (s13.2 0 52 (a1).toNatClampNeg) / (2 : Int64) * (2 : Int64)) (0 : Int64)) = (0 : Int32) then
                some (1 : Int32)
              else
                some (0 : Int32)) (fun v17 =>
              bif ax_in a1 240 then
              Option.bind (f_Z_consider v17 (5 : Int32) (s13.1 0 48 (a1).toNatClampNeg) s13) (fun s19 =>
                some (s19))
              else none)
            else none)
          else none)
        else none
      else
      if (s6.1 0 47 (a1).toNatClampNeg) = (8 : Int32) then
        bif ax_in a1 240 then
        bif ax_in (0 : Int32) 3 then
        Option.bind (
          if (lg_cmp (s6.2 0 52 (a1).toNatClampNeg) (s6.2 0 41 ((0 : Int32)).toNatClampNeg)) < (0 : Int32) then
            some (0 : Int32)
          else
            some (1 : Int32)) (fun v24 =>
          bif ax_in a1 240 then
          Option.bind (f_Z_consider v24 (3 : Int32) (s6.1 0 53 (a1).toNatClampNeg) s6) (fun s26 =>
            some (s26))
          else none)
        else none
        else none
      else
      if (s6.1 0 47 (a1).toNatClampNeg) = (9 : Int32) then
        bif ax_in a1 240 then
        bif ax_in (1 : Int32) 3 then
        Option.bind (
          if (lg_cmp ((s6.1 0 50 (a1).toNatClampNeg)).toInt64 (s6.2 0 41 ((1 : Int32)).toNatClampNeg)) < (0 : Int32) then
            some (0 : Int32)
          else
            some (1 : Int32)) (fun v31 =>
          bif ax_in a1 240 then
          Option.bind (f_Z_consider v31 (4 : Int32) (s6.1 0 51 (a1).toNatClampNeg) s6) (fun s33 =>
            bif ax_in a1 240 then
            Option.bind (
              Option.bind (
                if (s33.1 0 47 (a1).toNatClampNeg) = (9 : Int32) then
                  bif ax_in a1 240 then
                  bif ax_in a1 240 then
                  if (s33.1 0 50 (a1).toNatClampNeg) = (s33.1 0 49 (a1).toNatClampNeg) then
                    some false
                  else
                    some true
                  else none
                  else none
                else
                  some true) (fun w40 => bif w40 then
                some (0 : Int32)
              else
                some (1 : Int32))) (fun v41 =>
              bif ax_in a1 240 then
              Option.bind (f_Z_consider v41 (5 : Int32) (s33.1 0 48 (a1).toNatClampNeg) s33) (fun s43 =>
                some (s43))
              else none)
            else none)
          else none)
        else none
        else none
      else
      if (s6.1 0 47 (a1).toNatClampNeg) = (10 : Int32) then
        bif ax_in a1 240 then
        bif ax_in (1 : Int32) 3 then
        Option.bind (
          if (lg_cmp ((s6.1 0 50 (a1).toNatClampNeg)).toInt64 (s6.2 0 41 ((1 : Int32)).toNatClampNeg)) < (0 : Int32) then
            some (0 : Int32)
          else
            some (1 : Int32)) (fun v48 =>
          bif ax_in a1 240 then
          Option.bind (f_Z_consider v48 (4 : Int32) (s6.1 0 51 (a1).toNatClampNeg) s6) (fun s50 =>
            bif ax_in a1 240 then
            Option.bind (
              Option.bind (
                if (s50.1 0 47 (a1).toNatClampNeg) = (9 : Int32) then
                  bif ax_in a1 240 then
                  bif ax_in a1 240 then
                  if (s50.1 0 50 (a1).toNatClampNeg) = (s50.1 0 49 (a1).toNatClampNeg) then
                    some false
                  else
                    some true
                  else none
                  else none
                else
                  some true) (fun w57 => bif w57 then
                some (0 : Int32)
              else
                some (1 : Int32))) (fun v58 =>
              bif ax_in a1 240 then
              Option.bind (f_Z_consider v58 (5 : Int32) (s50.1 0 48 (a1).toNatClampNeg) s50) (fun s60 =>
                some (s60))
              else none)
            else none)
          else none)
        else none
        else none
      else
      if (s6.1 0 47 (a1).toNatClampNeg) = (11 : Int32) then
        bif ax_in a1 240 then
        Option.bind (
          if (lg_cmp (s6.2 0 52 (a1).toNatClampNeg) ((s6.1 0 38 14)).toInt64) < (0 : Int32) then
            some (0 : Int32)
          else
            some (1 : Int32)) (fun v64 =>
          bif ax_in a1 240 then
          Option.bind (f_Z_consider v64 (4 : Int32) (s6.1 0 53 (a1).toNatClampNeg) s6) (fun s66 =>
            bif ax_in a1 240 then
            Option.bind (
              Option.bind (
                if (0 : Int32) ≤ (lg_cmp (s66.2 0 52 (a1).toNatClampNeg) ((s66.1 0 38 14)).toInt64) then
                  some true
                else
                  bif ax_in a1 240 then
                  Option.bind (f_Z_repeats F ((((s66.2 0 52 (a1).toNatClampNeg) &&& (1 : Int64))).toInt32) s66) (fun r70 =>
                    if r70 = (0 : Int32) then
                      some true
                    else
                      some false)
                  else none) (fun w74 => bif w74 then
                some (0 : Int32)
              else
                some (1 : Int32))) (fun v75 =>
              bif ax_in a1 240 then
              Option.bind (f_Z_consider v75 (5 : Int32) (s66.1 0 48 (a1).toNatClampNeg) s66) (fun s77 =>
                some (s77))
              else none)
            else none)
          else none)
        else none
      else
      if (s6.1 0 47 (a1).toNatClampNeg) = (12 : Int32) then
        bif ax_in a1 240 then
        Option.bind (lp_Z_checkStep_332 F a1 F (s6.1 0 54 (a1).toNatClampNeg) s6) (fun s89 =>
          bif ax_in a1 240 then
          bif ax_in a1 240 then
          Option.bind (
            if (((s89.1 0 55 (a1).toNatClampNeg) - (s89.1 0 54 (a1).toNatClampNeg)) - ((s89.1 0 55 (a1).toNatClampNeg) - (s89.1 0 54 (a1).toNatClampNeg)) / (2 : Int32) * (2 : Int32)) = (0 : Int32) then
              some (1 : Int32)
            else
              some (0 : Int32)) (fun v93 =>
            bif ax_in a1 240 then
            Option.bind (f_Z_consider v93 (5 : Int32) (s89.1 0 48 (a1).toNatClampNeg) s89) (fun s95 =>
              some (s95))
            else none)
          else none
          else none)
        else none
      else
        Option.bind (f_Z_checkExpression F a1 s6) (fun s97 =>
          some (s97))
      else none)
    else none)
  else none
  else none
set_option maxHeartbeats 4000000 in
set_option maxRecDepth 100000 in
theorem t_Z_checkStep {l : Launch} {D : va_G} {cA : Nat → ClassId} {ad : Nat → Nat → Nat} {al : List (Nat × Nat)} {θ : ax_Θ} {ρ : ax_ρ} {F : Nat} (h0 : ax_M0 al) {a1 : Int32} {s : ax_σ} {s0 : ax_σ} (h : f_Z_checkStep F a1 s = some s0) : ax_T l D cA ad al θ y_Z_checkStep (.code y_Z_checkStep prog_8_method_39_code 3 none) 4 [.inr (0, 38), .inl (.int (a1))] (ax_m s ρ) none (ax_m s0 ρ) := by
  refine ax_T_of (own := "CipherNotationModel") (by decide) rfl (Nat.le_of_ble_eq_true rfl) [(0, .inr (0, 38)), (1, .inl (.int (a1)))] rfl ?_
  intro G hA
  have hB := hA.B
  have hK := hB.K
  have hal := hB.la
  unfold f_Z_checkStep at h
  obtain ⟨b1, h⟩ := ax_gd h
  obtain ⟨b2, h⟩ := ax_gd h
  refine ax_bk hK (ax_fc (ax_v_ld (ax_r_aload_n (i := 0) d_Z_checkStep_0 rfl)) (ax_fc (ax_v_ld (ax_r_aload_n (i := 0) d_Z_checkStep_1 rfl)) (ax_fc (ax_w_gf (e := none) hal d_Z_checkStep_2 fd_Z_45) (ax_fc (ax_v_ld (ax_r_iload_n (i := 1) d_Z_checkStep_5 rfl)) (ax_fc (ax_w_iald hal d_Z_checkStep_6) (ax_fc (ax_v_pu (ax_r_i2l d_Z_checkStep_7)) (ax_fc (ax_v_ld (ax_r_aload_n (i := 0) d_Z_checkStep_8 rfl)) (ax_fc (ax_w_gf (e := none) hal d_Z_checkStep_9 fd_Z_20) (ax_fc (ax_v_pu (ax_r_iconst (v := 1) d_Z_checkStep_12 (by decide))) (ax_fc (ax_w_lald hal d_Z_checkStep_13) (ax_fc (ax_v_pu (ax_r_lcmp d_Z_checkStep_14)) ax_fn))))))))))) (y := (15, [(0, .inr (0, 38)), (1, .inl (.int (a1)))], [.inl (.int ((lg_cmp ((s.1 0 49 (a1).toNatClampNeg)).toInt64 (s.2 0 41 ((1 : Int32)).toNatClampNeg)))), .inr (0, 38)], ax_m (s) ρ)) rfl ⟨trivial, trivial, (h0 38 rfl), trivial, ⟨(h0 49 rfl), ax_inp b1⟩, trivial, trivial, (h0 38 rfl), trivial, ⟨(h0 41 rfl), ax_inp b2⟩, trivial, trivial⟩ ?_
  obtain ⟨w100, hw100, h⟩ := ax_bd h
  have KEw100 : ∀ (v4 : Int32), w100 = v4 → ax_R G 3 0 0 (23, [(0, .inr (0, 38)), (1, .inl (.int (a1)))], [.inl (.int (v4)), .inr (0, 38)], ax_m (s) ρ) := by
    intro v4 e9
    subst w100
    try dsimp only at h
    obtain ⟨b5, h⟩ := ax_gd h
    refine ax_bk hK (ax_fc (ax_v_pu (ax_r_iconst (v := 4) d_Z_checkStep_23 (by decide))) (ax_fc (ax_v_ld (ax_r_aload_n (i := 0) d_Z_checkStep_24 rfl)) (ax_fc (ax_w_gf (e := none) hal d_Z_checkStep_25 fd_Z_42) (ax_fc (ax_v_ld (ax_r_iload_n (i := 1) d_Z_checkStep_28 rfl)) (ax_fc (ax_w_iald hal d_Z_checkStep_29) ax_fn))))) (y := (30, [(0, .inr (0, 38)), (1, .inl (.int (a1)))], [.inl (.int ((s.1 0 48 (a1).toNatClampNeg))), .inl (.int ((4 : Int32))), .inl (.int (v4)), .inr (0, 38)], ax_m (s) ρ)) rfl ⟨trivial, trivial, (h0 38 rfl), trivial, ⟨(h0 48 rfl), ax_inp b5⟩, trivial⟩ ?_
    obtain ⟨s6, q7, h⟩ := ax_bd h
    refine ax_bV (rest := []) hB (t_Z_consider h0 q7) cw_Z_316 im_Z_consider se_Z_consider d_Z_checkStep_30 (h0 38 rfl) rfl rfl (by decide) (by decide) rfl rfl (Nat.le_of_ble_eq_true rfl) ?_
    change ax_R G 3 0 0 (33, [(0, .inr (0, 38)), (1, .inl (.int (a1)))], [], ax_m (s6) ρ)
    obtain ⟨b8, h⟩ := ax_gd h
    refine ax_bk hK (ax_fc (ax_v_ld (ax_r_aload_n (i := 0) d_Z_checkStep_33 rfl)) (ax_fc (ax_w_gf (e := none) hal d_Z_checkStep_34 fd_Z_39) (ax_fc (ax_v_ld (ax_r_iload_n (i := 1) d_Z_checkStep_37 rfl)) (ax_fc (ax_w_iald hal d_Z_checkStep_38) ax_fn)))) (y := (39, [(0, .inr (0, 38)), (1, .inl (.int (a1)))], [.inl (.int ((s6.1 0 47 (a1).toNatClampNeg)))], ax_m (s6) ρ)) rfl ⟨trivial, (h0 38 rfl), trivial, ⟨(h0 47 rfl), ax_inp b8⟩, trivial⟩ ?_
    refine ax_tsw (d := 417) (ks := [(7, 76), (8, 131), (9, 166), (10, 166), (11, 244), (12, 325)]) hK d_Z_checkStep_39 (by decide) (by decide) (by decide) ?_
    refine And.intro (fun c99 => ?_) (fun c99 => ?_)
    · replace h := ax_it c99 h
      change ax_R G 3 0 0 (76, [(0, .inr (0, 38)), (1, .inl (.int (a1)))], [], ax_m (s6) ρ)
      obtain ⟨b9, h⟩ := ax_gd h
      refine ax_bk hK (ax_fc (ax_v_ld (ax_r_aload_n (i := 0) d_Z_checkStep_76 rfl)) (ax_fc (ax_v_ld (ax_r_aload_n (i := 0) d_Z_checkStep_77 rfl)) (ax_fc (ax_v_ld (ax_r_aload_n (i := 0) d_Z_checkStep_78 rfl)) (ax_fc (ax_w_gf (e := none) hal d_Z_checkStep_79 fd_Z_54) (ax_fc (ax_v_ld (ax_r_iload_n (i := 1) d_Z_checkStep_82 rfl)) (ax_fc (ax_w_lald hal d_Z_checkStep_83) ax_fn)))))) (y := (84, [(0, .inr (0, 38)), (1, .inl (.int (a1)))], [.inl (.long ((s6.2 0 52 (a1).toNatClampNeg))), .inr (0, 38), .inr (0, 38)], ax_m (s6) ρ)) rfl ⟨trivial, trivial, trivial, (h0 38 rfl), trivial, ⟨(h0 52 rfl), ax_inp b9⟩, trivial⟩ ?_
      obtain ⟨r10, q11, h⟩ := ax_bd h
      refine ax_bV (rest := [.inr (0, 38)]) hB (t_Z_isWide h0 q11) cw_Z_320 im_Z_isWide se_Z_isWide d_Z_checkStep_84 (h0 38 rfl) rfl rfl (by decide) (by decide) rfl rfl (Nat.le_of_ble_eq_true rfl) ?_
      change ax_R G 3 0 0 (87, [(0, .inr (0, 38)), (1, .inl (.int (a1)))], [.inl (.int (r10)), .inr (0, 38)], ax_m (s6) ρ)
      obtain ⟨b12, h⟩ := ax_gd h
      refine ax_bk hK (ax_fc (ax_v_pu (ax_r_iconst (v := 3) d_Z_checkStep_87 (by decide))) (ax_fc (ax_v_ld (ax_r_aload_n (i := 0) d_Z_checkStep_88 rfl)) (ax_fc (ax_w_gf (e := none) hal d_Z_checkStep_89 fd_Z_57) (ax_fc (ax_v_ld (ax_r_iload_n (i := 1) d_Z_checkStep_92 rfl)) (ax_fc (ax_w_iald hal d_Z_checkStep_93) ax_fn))))) (y := (94, [(0, .inr (0, 38)), (1, .inl (.int (a1)))], [.inl (.int ((s6.1 0 53 (a1).toNatClampNeg))), .inl (.int ((3 : Int32))), .inl (.int (r10)), .inr (0, 38)], ax_m (s6) ρ)) rfl ⟨trivial, trivial, (h0 38 rfl), trivial, ⟨(h0 53 rfl), ax_inp b12⟩, trivial⟩ ?_
      obtain ⟨s13, q14, h⟩ := ax_bd h
      refine ax_bV (rest := []) hB (t_Z_consider h0 q14) cw_Z_316 im_Z_consider se_Z_consider d_Z_checkStep_94 (h0 38 rfl) rfl rfl (by decide) (by decide) rfl rfl (Nat.le_of_ble_eq_true rfl) ?_
      change ax_R G 3 0 0 (97, [(0, .inr (0, 38)), (1, .inl (.int (a1)))], [], ax_m (s13) ρ)
      obtain ⟨b15, h⟩ := ax_gd h
      refine ax_bk hK (ax_fc (ax_v_ld (ax_r_aload_n (i := 0) d_Z_checkStep_97 rfl)) (ax_fc (ax_v_ld (ax_r_aload_n (i := 0) d_Z_checkStep_98 rfl)) (ax_fc (ax_w_gf (e := none) hal d_Z_checkStep_99 fd_Z_54) (ax_fc (ax_v_ld (ax_r_iload_n (i := 1) d_Z_checkStep_102 rfl)) (ax_fc (ax_w_lald hal d_Z_checkStep_103) (ax_fc (ax_v_ldc2 (v := 2) d_Z_checkStep_104 (nw_5 238 (by decide +kernel) rfl)) (ax_fc (ax_v_lrem d_Z_checkStep_107) (ax_fc (ax_v_pu (ax_r_lconst (v := 0) d_Z_checkStep_108 (by decide))) (ax_fc (ax_v_pu (ax_r_lcmp d_Z_checkStep_109)) ax_fn))))))))) (y := (110, [(0, .inr (0, 38)), (1, .inl (.int (a1)))], [.inl (.int ((lg_cmp ((s13.2 0 52 (a1).toNatClampNeg) - (s13.2 0 52 (a1).toNatClampNeg) / (2 : Int64) * (2 : Int64)) (0 : Int64)))), .inr (0, 38)], ax_m (s13) ρ)) rfl ⟨trivial, trivial, (h0 38 rfl), trivial, ⟨(h0 52 rfl), ax_inp b15⟩, trivial, (by decide), trivial, trivial, trivial⟩ ?_
      obtain ⟨w101, hw101, h⟩ := ax_bd h
      have KEw101 : ∀ (v17 : Int32), w101 = v17 → ax_R G 3 0 0 (118, [(0, .inr (0, 38)), (1, .inl (.int (a1)))], [.inl (.int (v17)), .inr (0, 38)], ax_m (s13) ρ) := by
        intro v17 e9
        subst w101
        try dsimp only at h
        obtain ⟨b18, h⟩ := ax_gd h
        refine ax_bk hK (ax_fc (ax_v_pu (ax_r_iconst (v := 5) d_Z_checkStep_118 (by decide))) (ax_fc (ax_v_ld (ax_r_aload_n (i := 0) d_Z_checkStep_119 rfl)) (ax_fc (ax_w_gf (e := none) hal d_Z_checkStep_120 fd_Z_42) (ax_fc (ax_v_ld (ax_r_iload_n (i := 1) d_Z_checkStep_123 rfl)) (ax_fc (ax_w_iald hal d_Z_checkStep_124) ax_fn))))) (y := (125, [(0, .inr (0, 38)), (1, .inl (.int (a1)))], [.inl (.int ((s13.1 0 48 (a1).toNatClampNeg))), .inl (.int ((5 : Int32))), .inl (.int (v17)), .inr (0, 38)], ax_m (s13) ρ)) rfl ⟨trivial, trivial, (h0 38 rfl), trivial, ⟨(h0 48 rfl), ax_inp b18⟩, trivial⟩ ?_
        obtain ⟨s19, q20, h⟩ := ax_bd h
        refine ax_bV (rest := []) hB (t_Z_consider h0 q20) cw_Z_316 im_Z_consider se_Z_consider d_Z_checkStep_125 (h0 38 rfl) rfl rfl (by decide) (by decide) rfl rfl (Nat.le_of_ble_eq_true rfl) ?_
        change ax_R G 3 0 0 (128, [(0, .inr (0, 38)), (1, .inl (.int (a1)))], [], ax_m (s19) ρ)
        refine ax_bk hK (ax_fc (ax_v_go (tgt := 422) d_Z_checkStep_128 (by decide)) ax_fn) (y := (422, [(0, .inr (0, 38)), (1, .inl (.int (a1)))], [], ax_m (s19) ρ)) rfl ⟨trivial, trivial⟩ ?_
        cases h
        exact ax_vret hA d_Z_checkStep_422
      clear h
      have h := hw101
      refine ax_if_ne (tgt := 117) hK d_Z_checkStep_110 (by decide) (fun c16 => ?_) (fun c16 => ?_)
      · replace h := ax_if c16 h
        refine ax_bk hK (ax_fc (ax_v_pu (ax_r_iconst (v := 0) d_Z_checkStep_117 (by decide))) ax_fn) (y := (118, [(0, .inr (0, 38)), (1, .inl (.int (a1)))], [.inl (.int ((0 : Int32))), .inr (0, 38)], ax_m (s13) ρ)) rfl ⟨trivial, trivial⟩ ?_
        cases h
        exact ax_Lsub [0, 1] rfl (KEw101 _ rfl)
      · replace h := ax_it c16 h
        refine ax_bk hK (ax_fc (ax_v_pu (ax_r_iconst (v := 1) d_Z_checkStep_113 (by decide))) (ax_fc (ax_v_go (tgt := 118) d_Z_checkStep_114 (by decide)) ax_fn)) (y := (118, [(0, .inr (0, 38)), (1, .inl (.int (a1)))], [.inl (.int ((1 : Int32))), .inr (0, 38)], ax_m (s13) ρ)) rfl ⟨trivial, trivial, trivial⟩ ?_
        cases h
        exact ax_Lsub [0, 1] rfl (KEw101 _ rfl)
    replace h := ax_if c99 h
    refine And.intro (fun c99 => ?_) (fun c99 => ?_)
    · replace h := ax_it c99 h
      change ax_R G 3 0 0 (131, [(0, .inr (0, 38)), (1, .inl (.int (a1)))], [], ax_m (s6) ρ)
      obtain ⟨b21, h⟩ := ax_gd h
      obtain ⟨b22, h⟩ := ax_gd h
      refine ax_bk hK (ax_fc (ax_v_ld (ax_r_aload_n (i := 0) d_Z_checkStep_131 rfl)) (ax_fc (ax_v_ld (ax_r_aload_n (i := 0) d_Z_checkStep_132 rfl)) (ax_fc (ax_w_gf (e := none) hal d_Z_checkStep_133 fd_Z_54) (ax_fc (ax_v_ld (ax_r_iload_n (i := 1) d_Z_checkStep_136 rfl)) (ax_fc (ax_w_lald hal d_Z_checkStep_137) (ax_fc (ax_v_ld (ax_r_aload_n (i := 0) d_Z_checkStep_138 rfl)) (ax_fc (ax_w_gf (e := none) hal d_Z_checkStep_139 fd_Z_20) (ax_fc (ax_v_pu (ax_r_iconst (v := 0) d_Z_checkStep_142 (by decide))) (ax_fc (ax_w_lald hal d_Z_checkStep_143) (ax_fc (ax_v_pu (ax_r_lcmp d_Z_checkStep_144)) ax_fn)))))))))) (y := (145, [(0, .inr (0, 38)), (1, .inl (.int (a1)))], [.inl (.int ((lg_cmp (s6.2 0 52 (a1).toNatClampNeg) (s6.2 0 41 ((0 : Int32)).toNatClampNeg)))), .inr (0, 38)], ax_m (s6) ρ)) rfl ⟨trivial, trivial, (h0 38 rfl), trivial, ⟨(h0 52 rfl), ax_inp b21⟩, trivial, (h0 38 rfl), trivial, ⟨(h0 41 rfl), ax_inp b22⟩, trivial, trivial⟩ ?_
      obtain ⟨w102, hw102, h⟩ := ax_bd h
      have KEw102 : ∀ (v24 : Int32), w102 = v24 → ax_R G 3 0 0 (153, [(0, .inr (0, 38)), (1, .inl (.int (a1)))], [.inl (.int (v24)), .inr (0, 38)], ax_m (s6) ρ) := by
        intro v24 e9
        subst w102
        try dsimp only at h
        obtain ⟨b25, h⟩ := ax_gd h
        refine ax_bk hK (ax_fc (ax_v_pu (ax_r_iconst (v := 3) d_Z_checkStep_153 (by decide))) (ax_fc (ax_v_ld (ax_r_aload_n (i := 0) d_Z_checkStep_154 rfl)) (ax_fc (ax_w_gf (e := none) hal d_Z_checkStep_155 fd_Z_57) (ax_fc (ax_v_ld (ax_r_iload_n (i := 1) d_Z_checkStep_158 rfl)) (ax_fc (ax_w_iald hal d_Z_checkStep_159) ax_fn))))) (y := (160, [(0, .inr (0, 38)), (1, .inl (.int (a1)))], [.inl (.int ((s6.1 0 53 (a1).toNatClampNeg))), .inl (.int ((3 : Int32))), .inl (.int (v24)), .inr (0, 38)], ax_m (s6) ρ)) rfl ⟨trivial, trivial, (h0 38 rfl), trivial, ⟨(h0 53 rfl), ax_inp b25⟩, trivial⟩ ?_
        obtain ⟨s26, q27, h⟩ := ax_bd h
        refine ax_bV (rest := []) hB (t_Z_consider h0 q27) cw_Z_316 im_Z_consider se_Z_consider d_Z_checkStep_160 (h0 38 rfl) rfl rfl (by decide) (by decide) rfl rfl (Nat.le_of_ble_eq_true rfl) ?_
        change ax_R G 3 0 0 (163, [(0, .inr (0, 38)), (1, .inl (.int (a1)))], [], ax_m (s26) ρ)
        refine ax_bk hK (ax_fc (ax_v_go (tgt := 422) d_Z_checkStep_163 (by decide)) ax_fn) (y := (422, [(0, .inr (0, 38)), (1, .inl (.int (a1)))], [], ax_m (s26) ρ)) rfl ⟨trivial, trivial⟩ ?_
        cases h
        exact ax_vret hA d_Z_checkStep_422
      clear h
      have h := hw102
      refine ax_if_lt (tgt := 152) hK d_Z_checkStep_145 (by decide) (fun c23 => ?_) (fun c23 => ?_)
      · replace h := ax_it c23 h
        refine ax_bk hK (ax_fc (ax_v_pu (ax_r_iconst (v := 0) d_Z_checkStep_152 (by decide))) ax_fn) (y := (153, [(0, .inr (0, 38)), (1, .inl (.int (a1)))], [.inl (.int ((0 : Int32))), .inr (0, 38)], ax_m (s6) ρ)) rfl ⟨trivial, trivial⟩ ?_
        cases h
        exact ax_Lsub [0, 1] rfl (KEw102 _ rfl)
      · replace h := ax_if c23 h
        refine ax_bk hK (ax_fc (ax_v_pu (ax_r_iconst (v := 1) d_Z_checkStep_148 (by decide))) (ax_fc (ax_v_go (tgt := 153) d_Z_checkStep_149 (by decide)) ax_fn)) (y := (153, [(0, .inr (0, 38)), (1, .inl (.int (a1)))], [.inl (.int ((1 : Int32))), .inr (0, 38)], ax_m (s6) ρ)) rfl ⟨trivial, trivial, trivial⟩ ?_
        cases h
        exact ax_Lsub [0, 1] rfl (KEw102 _ rfl)
    replace h := ax_if c99 h
    refine And.intro (fun c99 => ?_) (fun c99 => ?_)
    · replace h := ax_it c99 h
      change ax_R G 3 0 0 (166, [(0, .inr (0, 38)), (1, .inl (.int (a1)))], [], ax_m (s6) ρ)
      obtain ⟨b28, h⟩ := ax_gd h
      obtain ⟨b29, h⟩ := ax_gd h
      refine ax_bk hK (ax_fc (ax_v_ld (ax_r_aload_n (i := 0) d_Z_checkStep_166 rfl)) (ax_fc (ax_v_ld (ax_r_aload_n (i := 0) d_Z_checkStep_167 rfl)) (ax_fc (ax_w_gf (e := none) hal d_Z_checkStep_168 fd_Z_48) (ax_fc (ax_v_ld (ax_r_iload_n (i := 1) d_Z_checkStep_171 rfl)) (ax_fc (ax_w_iald hal d_Z_checkStep_172) (ax_fc (ax_v_pu (ax_r_i2l d_Z_checkStep_173)) (ax_fc (ax_v_ld (ax_r_aload_n (i := 0) d_Z_checkStep_174 rfl)) (ax_fc (ax_w_gf (e := none) hal d_Z_checkStep_175 fd_Z_20) (ax_fc (ax_v_pu (ax_r_iconst (v := 1) d_Z_checkStep_178 (by decide))) (ax_fc (ax_w_lald hal d_Z_checkStep_179) (ax_fc (ax_v_pu (ax_r_lcmp d_Z_checkStep_180)) ax_fn))))))))))) (y := (181, [(0, .inr (0, 38)), (1, .inl (.int (a1)))], [.inl (.int ((lg_cmp ((s6.1 0 50 (a1).toNatClampNeg)).toInt64 (s6.2 0 41 ((1 : Int32)).toNatClampNeg)))), .inr (0, 38)], ax_m (s6) ρ)) rfl ⟨trivial, trivial, (h0 38 rfl), trivial, ⟨(h0 50 rfl), ax_inp b28⟩, trivial, trivial, (h0 38 rfl), trivial, ⟨(h0 41 rfl), ax_inp b29⟩, trivial, trivial⟩ ?_
      obtain ⟨w103, hw103, h⟩ := ax_bd h
      have KEw103 : ∀ (v31 : Int32), w103 = v31 → ax_R G 3 0 0 (189, [(0, .inr (0, 38)), (1, .inl (.int (a1)))], [.inl (.int (v31)), .inr (0, 38)], ax_m (s6) ρ) := by
        intro v31 e9
        subst w103
        try dsimp only at h
        obtain ⟨b32, h⟩ := ax_gd h
        refine ax_bk hK (ax_fc (ax_v_pu (ax_r_iconst (v := 4) d_Z_checkStep_189 (by decide))) (ax_fc (ax_v_ld (ax_r_aload_n (i := 0) d_Z_checkStep_190 rfl)) (ax_fc (ax_w_gf (e := none) hal d_Z_checkStep_191 fd_Z_51) (ax_fc (ax_v_ld (ax_r_iload_n (i := 1) d_Z_checkStep_194 rfl)) (ax_fc (ax_w_iald hal d_Z_checkStep_195) ax_fn))))) (y := (196, [(0, .inr (0, 38)), (1, .inl (.int (a1)))], [.inl (.int ((s6.1 0 51 (a1).toNatClampNeg))), .inl (.int ((4 : Int32))), .inl (.int (v31)), .inr (0, 38)], ax_m (s6) ρ)) rfl ⟨trivial, trivial, (h0 38 rfl), trivial, ⟨(h0 51 rfl), ax_inp b32⟩, trivial⟩ ?_
        obtain ⟨s33, q34, h⟩ := ax_bd h
        refine ax_bV (rest := []) hB (t_Z_consider h0 q34) cw_Z_316 im_Z_consider se_Z_consider d_Z_checkStep_196 (h0 38 rfl) rfl rfl (by decide) (by decide) rfl rfl (Nat.le_of_ble_eq_true rfl) ?_
        change ax_R G 3 0 0 (199, [(0, .inr (0, 38)), (1, .inl (.int (a1)))], [], ax_m (s33) ρ)
        obtain ⟨b35, h⟩ := ax_gd h
        refine ax_bk hK (ax_fc (ax_v_ld (ax_r_aload_n (i := 0) d_Z_checkStep_199 rfl)) (ax_fc (ax_v_ld (ax_r_aload_n (i := 0) d_Z_checkStep_200 rfl)) (ax_fc (ax_w_gf (e := none) hal d_Z_checkStep_201 fd_Z_39) (ax_fc (ax_v_ld (ax_r_iload_n (i := 1) d_Z_checkStep_204 rfl)) (ax_fc (ax_w_iald hal d_Z_checkStep_205) (ax_fc (ax_v_pu (ax_r_bipush (v := 9) d_Z_checkStep_206 (by decide))) ax_fn)))))) (y := (208, [(0, .inr (0, 38)), (1, .inl (.int (a1)))], [.inl (.int ((9 : Int32))), .inl (.int ((s33.1 0 47 (a1).toNatClampNeg))), .inr (0, 38)], ax_m (s33) ρ)) rfl ⟨trivial, trivial, (h0 38 rfl), trivial, ⟨(h0 47 rfl), ax_inp b35⟩, trivial, trivial⟩ ?_
        obtain ⟨w104, hw104, h⟩ := ax_bd h
        have KEw104 : ∀ (v41 : Int32), w104 = v41 → ax_R G 3 0 0 (231, [(0, .inr (0, 38)), (1, .inl (.int (a1)))], [.inl (.int (v41)), .inr (0, 38)], ax_m (s33) ρ) := by
          intro v41 e9
          subst w104
          try dsimp only at h
          obtain ⟨b42, h⟩ := ax_gd h
          refine ax_bk hK (ax_fc (ax_v_pu (ax_r_iconst (v := 5) d_Z_checkStep_231 (by decide))) (ax_fc (ax_v_ld (ax_r_aload_n (i := 0) d_Z_checkStep_232 rfl)) (ax_fc (ax_w_gf (e := none) hal d_Z_checkStep_233 fd_Z_42) (ax_fc (ax_v_ld (ax_r_iload_n (i := 1) d_Z_checkStep_236 rfl)) (ax_fc (ax_w_iald hal d_Z_checkStep_237) ax_fn))))) (y := (238, [(0, .inr (0, 38)), (1, .inl (.int (a1)))], [.inl (.int ((s33.1 0 48 (a1).toNatClampNeg))), .inl (.int ((5 : Int32))), .inl (.int (v41)), .inr (0, 38)], ax_m (s33) ρ)) rfl ⟨trivial, trivial, (h0 38 rfl), trivial, ⟨(h0 48 rfl), ax_inp b42⟩, trivial⟩ ?_
          obtain ⟨s43, q44, h⟩ := ax_bd h
          refine ax_bV (rest := []) hB (t_Z_consider h0 q44) cw_Z_316 im_Z_consider se_Z_consider d_Z_checkStep_238 (h0 38 rfl) rfl rfl (by decide) (by decide) rfl rfl (Nat.le_of_ble_eq_true rfl) ?_
          change ax_R G 3 0 0 (241, [(0, .inr (0, 38)), (1, .inl (.int (a1)))], [], ax_m (s43) ρ)
          refine ax_bk hK (ax_fc (ax_v_go (tgt := 422) d_Z_checkStep_241 (by decide)) ax_fn) (y := (422, [(0, .inr (0, 38)), (1, .inl (.int (a1)))], [], ax_m (s43) ρ)) rfl ⟨trivial, trivial⟩ ?_
          cases h
          exact ax_vret hA d_Z_checkStep_422
        clear h
        have h := hw104
        obtain ⟨w40, hw40, h⟩ := ax_bd h
        have KTw40 : w40 = true → ax_R G 3 0 0 (230, [(0, .inr (0, 38)), (1, .inl (.int (a1)))], [.inr (0, 38)], ax_m (s33) ρ) := by
          intro e9
          subst w40
          replace h := ax_ct h
          refine ax_bk hK (ax_fc (ax_v_pu (ax_r_iconst (v := 0) d_Z_checkStep_230 (by decide))) ax_fn) (y := (231, [(0, .inr (0, 38)), (1, .inl (.int (a1)))], [.inl (.int ((0 : Int32))), .inr (0, 38)], ax_m (s33) ρ)) rfl ⟨trivial, trivial⟩ ?_
          cases h
          exact ax_Lsub [0, 1] rfl (KEw104 _ rfl)
        have KFw40 : w40 = false → ax_R G 3 0 0 (226, [(0, .inr (0, 38)), (1, .inl (.int (a1)))], [.inr (0, 38)], ax_m (s33) ρ) := by
          intro e9
          subst w40
          replace h := ax_cf h
          refine ax_bk hK (ax_fc (ax_v_pu (ax_r_iconst (v := 1) d_Z_checkStep_226 (by decide))) (ax_fc (ax_v_go (tgt := 231) d_Z_checkStep_227 (by decide)) ax_fn)) (y := (231, [(0, .inr (0, 38)), (1, .inl (.int (a1)))], [.inl (.int ((1 : Int32))), .inr (0, 38)], ax_m (s33) ρ)) rfl ⟨trivial, trivial, trivial⟩ ?_
          cases h
          exact ax_Lsub [0, 1] rfl (KEw104 _ rfl)
        clear h
        have h := hw40
        refine ax_ic_ne (tgt := 230) hK d_Z_checkStep_208 (by decide) (fun c39 => ?_) (fun c39 => ?_)
        · replace h := ax_if c39 h
          cases h
          exact ax_Lsub [0, 1] rfl (KTw40 rfl)
        · replace h := ax_it c39 h
          obtain ⟨b36, h⟩ := ax_gd h
          obtain ⟨b37, h⟩ := ax_gd h
          refine ax_bk hK (ax_fc (ax_v_ld (ax_r_aload_n (i := 0) d_Z_checkStep_211 rfl)) (ax_fc (ax_w_gf (e := none) hal d_Z_checkStep_212 fd_Z_48) (ax_fc (ax_v_ld (ax_r_iload_n (i := 1) d_Z_checkStep_215 rfl)) (ax_fc (ax_w_iald hal d_Z_checkStep_216) (ax_fc (ax_v_ld (ax_r_aload_n (i := 0) d_Z_checkStep_217 rfl)) (ax_fc (ax_w_gf (e := none) hal d_Z_checkStep_218 fd_Z_45) (ax_fc (ax_v_ld (ax_r_iload_n (i := 1) d_Z_checkStep_221 rfl)) (ax_fc (ax_w_iald hal d_Z_checkStep_222) ax_fn)))))))) (y := (223, [(0, .inr (0, 38)), (1, .inl (.int (a1)))], [.inl (.int ((s33.1 0 49 (a1).toNatClampNeg))), .inl (.int ((s33.1 0 50 (a1).toNatClampNeg))), .inr (0, 38)], ax_m (s33) ρ)) rfl ⟨trivial, (h0 38 rfl), trivial, ⟨(h0 50 rfl), ax_inp b36⟩, trivial, (h0 38 rfl), trivial, ⟨(h0 49 rfl), ax_inp b37⟩, trivial⟩ ?_
          refine ax_ic_ne (tgt := 230) hK d_Z_checkStep_223 (by decide) (fun c38 => ?_) (fun c38 => ?_)
          · replace h := ax_if c38 h
            cases h
            exact ax_Lsub [0, 1] rfl (KTw40 rfl)
          · replace h := ax_it c38 h
            cases h
            exact ax_Lsub [0, 1] rfl (KFw40 rfl)
      clear h
      have h := hw103
      refine ax_if_lt (tgt := 188) hK d_Z_checkStep_181 (by decide) (fun c30 => ?_) (fun c30 => ?_)
      · replace h := ax_it c30 h
        refine ax_bk hK (ax_fc (ax_v_pu (ax_r_iconst (v := 0) d_Z_checkStep_188 (by decide))) ax_fn) (y := (189, [(0, .inr (0, 38)), (1, .inl (.int (a1)))], [.inl (.int ((0 : Int32))), .inr (0, 38)], ax_m (s6) ρ)) rfl ⟨trivial, trivial⟩ ?_
        cases h
        exact ax_Lsub [0, 1] rfl (KEw103 _ rfl)
      · replace h := ax_if c30 h
        refine ax_bk hK (ax_fc (ax_v_pu (ax_r_iconst (v := 1) d_Z_checkStep_184 (by decide))) (ax_fc (ax_v_go (tgt := 189) d_Z_checkStep_185 (by decide)) ax_fn)) (y := (189, [(0, .inr (0, 38)), (1, .inl (.int (a1)))], [.inl (.int ((1 : Int32))), .inr (0, 38)], ax_m (s6) ρ)) rfl ⟨trivial, trivial, trivial⟩ ?_
        cases h
        exact ax_Lsub [0, 1] rfl (KEw103 _ rfl)
    replace h := ax_if c99 h
    refine And.intro (fun c99 => ?_) (fun c99 => ?_)
    · replace h := ax_it c99 h
      change ax_R G 3 0 0 (166, [(0, .inr (0, 38)), (1, .inl (.int (a1)))], [], ax_m (s6) ρ)
      obtain ⟨b45, h⟩ := ax_gd h
      obtain ⟨b46, h⟩ := ax_gd h
      refine ax_bk hK (ax_fc (ax_v_ld (ax_r_aload_n (i := 0) d_Z_checkStep_166 rfl)) (ax_fc (ax_v_ld (ax_r_aload_n (i := 0) d_Z_checkStep_167 rfl)) (ax_fc (ax_w_gf (e := none) hal d_Z_checkStep_168 fd_Z_48) (ax_fc (ax_v_ld (ax_r_iload_n (i := 1) d_Z_checkStep_171 rfl)) (ax_fc (ax_w_iald hal d_Z_checkStep_172) (ax_fc (ax_v_pu (ax_r_i2l d_Z_checkStep_173)) (ax_fc (ax_v_ld (ax_r_aload_n (i := 0) d_Z_checkStep_174 rfl)) (ax_fc (ax_w_gf (e := none) hal d_Z_checkStep_175 fd_Z_20) (ax_fc (ax_v_pu (ax_r_iconst (v := 1) d_Z_checkStep_178 (by decide))) (ax_fc (ax_w_lald hal d_Z_checkStep_179) (ax_fc (ax_v_pu (ax_r_lcmp d_Z_checkStep_180)) ax_fn))))))))))) (y := (181, [(0, .inr (0, 38)), (1, .inl (.int (a1)))], [.inl (.int ((lg_cmp ((s6.1 0 50 (a1).toNatClampNeg)).toInt64 (s6.2 0 41 ((1 : Int32)).toNatClampNeg)))), .inr (0, 38)], ax_m (s6) ρ)) rfl ⟨trivial, trivial, (h0 38 rfl), trivial, ⟨(h0 50 rfl), ax_inp b45⟩, trivial, trivial, (h0 38 rfl), trivial, ⟨(h0 41 rfl), ax_inp b46⟩, trivial, trivial⟩ ?_
      obtain ⟨w105, hw105, h⟩ := ax_bd h
      have KEw105 : ∀ (v48 : Int32), w105 = v48 → ax_R G 3 0 0 (189, [(0, .inr (0, 38)), (1, .inl (.int (a1)))], [.inl (.int (v48)), .inr (0, 38)], ax_m (s6) ρ) := by
        intro v48 e9
        subst w105
        try dsimp only at h
        obtain ⟨b49, h⟩ := ax_gd h
        refine ax_bk hK (ax_fc (ax_v_pu (ax_r_iconst (v := 4) d_Z_checkStep_189 (by decide))) (ax_fc (ax_v_ld (ax_r_aload_n (i := 0) d_Z_checkStep_190 rfl)) (ax_fc (ax_w_gf (e := none) hal d_Z_checkStep_191 fd_Z_51) (ax_fc (ax_v_ld (ax_r_iload_n (i := 1) d_Z_checkStep_194 rfl)) (ax_fc (ax_w_iald hal d_Z_checkStep_195) ax_fn))))) (y := (196, [(0, .inr (0, 38)), (1, .inl (.int (a1)))], [.inl (.int ((s6.1 0 51 (a1).toNatClampNeg))), .inl (.int ((4 : Int32))), .inl (.int (v48)), .inr (0, 38)], ax_m (s6) ρ)) rfl ⟨trivial, trivial, (h0 38 rfl), trivial, ⟨(h0 51 rfl), ax_inp b49⟩, trivial⟩ ?_
        obtain ⟨s50, q51, h⟩ := ax_bd h
        refine ax_bV (rest := []) hB (t_Z_consider h0 q51) cw_Z_316 im_Z_consider se_Z_consider d_Z_checkStep_196 (h0 38 rfl) rfl rfl (by decide) (by decide) rfl rfl (Nat.le_of_ble_eq_true rfl) ?_
        change ax_R G 3 0 0 (199, [(0, .inr (0, 38)), (1, .inl (.int (a1)))], [], ax_m (s50) ρ)
        obtain ⟨b52, h⟩ := ax_gd h
        refine ax_bk hK (ax_fc (ax_v_ld (ax_r_aload_n (i := 0) d_Z_checkStep_199 rfl)) (ax_fc (ax_v_ld (ax_r_aload_n (i := 0) d_Z_checkStep_200 rfl)) (ax_fc (ax_w_gf (e := none) hal d_Z_checkStep_201 fd_Z_39) (ax_fc (ax_v_ld (ax_r_iload_n (i := 1) d_Z_checkStep_204 rfl)) (ax_fc (ax_w_iald hal d_Z_checkStep_205) (ax_fc (ax_v_pu (ax_r_bipush (v := 9) d_Z_checkStep_206 (by decide))) ax_fn)))))) (y := (208, [(0, .inr (0, 38)), (1, .inl (.int (a1)))], [.inl (.int ((9 : Int32))), .inl (.int ((s50.1 0 47 (a1).toNatClampNeg))), .inr (0, 38)], ax_m (s50) ρ)) rfl ⟨trivial, trivial, (h0 38 rfl), trivial, ⟨(h0 47 rfl), ax_inp b52⟩, trivial, trivial⟩ ?_
        obtain ⟨w106, hw106, h⟩ := ax_bd h
        have KEw106 : ∀ (v58 : Int32), w106 = v58 → ax_R G 3 0 0 (231, [(0, .inr (0, 38)), (1, .inl (.int (a1)))], [.inl (.int (v58)), .inr (0, 38)], ax_m (s50) ρ) := by
          intro v58 e9
          subst w106
          try dsimp only at h
          obtain ⟨b59, h⟩ := ax_gd h
          refine ax_bk hK (ax_fc (ax_v_pu (ax_r_iconst (v := 5) d_Z_checkStep_231 (by decide))) (ax_fc (ax_v_ld (ax_r_aload_n (i := 0) d_Z_checkStep_232 rfl)) (ax_fc (ax_w_gf (e := none) hal d_Z_checkStep_233 fd_Z_42) (ax_fc (ax_v_ld (ax_r_iload_n (i := 1) d_Z_checkStep_236 rfl)) (ax_fc (ax_w_iald hal d_Z_checkStep_237) ax_fn))))) (y := (238, [(0, .inr (0, 38)), (1, .inl (.int (a1)))], [.inl (.int ((s50.1 0 48 (a1).toNatClampNeg))), .inl (.int ((5 : Int32))), .inl (.int (v58)), .inr (0, 38)], ax_m (s50) ρ)) rfl ⟨trivial, trivial, (h0 38 rfl), trivial, ⟨(h0 48 rfl), ax_inp b59⟩, trivial⟩ ?_
          obtain ⟨s60, q61, h⟩ := ax_bd h
          refine ax_bV (rest := []) hB (t_Z_consider h0 q61) cw_Z_316 im_Z_consider se_Z_consider d_Z_checkStep_238 (h0 38 rfl) rfl rfl (by decide) (by decide) rfl rfl (Nat.le_of_ble_eq_true rfl) ?_
          change ax_R G 3 0 0 (241, [(0, .inr (0, 38)), (1, .inl (.int (a1)))], [], ax_m (s60) ρ)
          refine ax_bk hK (ax_fc (ax_v_go (tgt := 422) d_Z_checkStep_241 (by decide)) ax_fn) (y := (422, [(0, .inr (0, 38)), (1, .inl (.int (a1)))], [], ax_m (s60) ρ)) rfl ⟨trivial, trivial⟩ ?_
          cases h
          exact ax_vret hA d_Z_checkStep_422
        clear h
        have h := hw106
        obtain ⟨w57, hw57, h⟩ := ax_bd h
        have KTw57 : w57 = true → ax_R G 3 0 0 (230, [(0, .inr (0, 38)), (1, .inl (.int (a1)))], [.inr (0, 38)], ax_m (s50) ρ) := by
          intro e9
          subst w57
          replace h := ax_ct h
          refine ax_bk hK (ax_fc (ax_v_pu (ax_r_iconst (v := 0) d_Z_checkStep_230 (by decide))) ax_fn) (y := (231, [(0, .inr (0, 38)), (1, .inl (.int (a1)))], [.inl (.int ((0 : Int32))), .inr (0, 38)], ax_m (s50) ρ)) rfl ⟨trivial, trivial⟩ ?_
          cases h
          exact ax_Lsub [0, 1] rfl (KEw106 _ rfl)
        have KFw57 : w57 = false → ax_R G 3 0 0 (226, [(0, .inr (0, 38)), (1, .inl (.int (a1)))], [.inr (0, 38)], ax_m (s50) ρ) := by
          intro e9
          subst w57
          replace h := ax_cf h
          refine ax_bk hK (ax_fc (ax_v_pu (ax_r_iconst (v := 1) d_Z_checkStep_226 (by decide))) (ax_fc (ax_v_go (tgt := 231) d_Z_checkStep_227 (by decide)) ax_fn)) (y := (231, [(0, .inr (0, 38)), (1, .inl (.int (a1)))], [.inl (.int ((1 : Int32))), .inr (0, 38)], ax_m (s50) ρ)) rfl ⟨trivial, trivial, trivial⟩ ?_
          cases h
          exact ax_Lsub [0, 1] rfl (KEw106 _ rfl)
        clear h
        have h := hw57
        refine ax_ic_ne (tgt := 230) hK d_Z_checkStep_208 (by decide) (fun c56 => ?_) (fun c56 => ?_)
        · replace h := ax_if c56 h
          cases h
          exact ax_Lsub [0, 1] rfl (KTw57 rfl)
        · replace h := ax_it c56 h
          obtain ⟨b53, h⟩ := ax_gd h
          obtain ⟨b54, h⟩ := ax_gd h
          refine ax_bk hK (ax_fc (ax_v_ld (ax_r_aload_n (i := 0) d_Z_checkStep_211 rfl)) (ax_fc (ax_w_gf (e := none) hal d_Z_checkStep_212 fd_Z_48) (ax_fc (ax_v_ld (ax_r_iload_n (i := 1) d_Z_checkStep_215 rfl)) (ax_fc (ax_w_iald hal d_Z_checkStep_216) (ax_fc (ax_v_ld (ax_r_aload_n (i := 0) d_Z_checkStep_217 rfl)) (ax_fc (ax_w_gf (e := none) hal d_Z_checkStep_218 fd_Z_45) (ax_fc (ax_v_ld (ax_r_iload_n (i := 1) d_Z_checkStep_221 rfl)) (ax_fc (ax_w_iald hal d_Z_checkStep_222) ax_fn)))))))) (y := (223, [(0, .inr (0, 38)), (1, .inl (.int (a1)))], [.inl (.int ((s50.1 0 49 (a1).toNatClampNeg))), .inl (.int ((s50.1 0 50 (a1).toNatClampNeg))), .inr (0, 38)], ax_m (s50) ρ)) rfl ⟨trivial, (h0 38 rfl), trivial, ⟨(h0 50 rfl), ax_inp b53⟩, trivial, (h0 38 rfl), trivial, ⟨(h0 49 rfl), ax_inp b54⟩, trivial⟩ ?_
          refine ax_ic_ne (tgt := 230) hK d_Z_checkStep_223 (by decide) (fun c55 => ?_) (fun c55 => ?_)
          · replace h := ax_if c55 h
            cases h
            exact ax_Lsub [0, 1] rfl (KTw57 rfl)
          · replace h := ax_it c55 h
            cases h
            exact ax_Lsub [0, 1] rfl (KFw57 rfl)
      clear h
      have h := hw105
      refine ax_if_lt (tgt := 188) hK d_Z_checkStep_181 (by decide) (fun c47 => ?_) (fun c47 => ?_)
      · replace h := ax_it c47 h
        refine ax_bk hK (ax_fc (ax_v_pu (ax_r_iconst (v := 0) d_Z_checkStep_188 (by decide))) ax_fn) (y := (189, [(0, .inr (0, 38)), (1, .inl (.int (a1)))], [.inl (.int ((0 : Int32))), .inr (0, 38)], ax_m (s6) ρ)) rfl ⟨trivial, trivial⟩ ?_
        cases h
        exact ax_Lsub [0, 1] rfl (KEw105 _ rfl)
      · replace h := ax_if c47 h
        refine ax_bk hK (ax_fc (ax_v_pu (ax_r_iconst (v := 1) d_Z_checkStep_184 (by decide))) (ax_fc (ax_v_go (tgt := 189) d_Z_checkStep_185 (by decide)) ax_fn)) (y := (189, [(0, .inr (0, 38)), (1, .inl (.int (a1)))], [.inl (.int ((1 : Int32))), .inr (0, 38)], ax_m (s6) ρ)) rfl ⟨trivial, trivial, trivial⟩ ?_
        cases h
        exact ax_Lsub [0, 1] rfl (KEw105 _ rfl)
    replace h := ax_if c99 h
    refine And.intro (fun c99 => ?_) (fun c99 => ?_)
    · replace h := ax_it c99 h
      change ax_R G 3 0 0 (244, [(0, .inr (0, 38)), (1, .inl (.int (a1)))], [], ax_m (s6) ρ)
      obtain ⟨b62, h⟩ := ax_gd h
      refine ax_bk hK (ax_fc (ax_v_ld (ax_r_aload_n (i := 0) d_Z_checkStep_244 rfl)) (ax_fc (ax_v_ld (ax_r_aload_n (i := 0) d_Z_checkStep_245 rfl)) (ax_fc (ax_w_gf (e := none) hal d_Z_checkStep_246 fd_Z_54) (ax_fc (ax_v_ld (ax_r_iload_n (i := 1) d_Z_checkStep_249 rfl)) (ax_fc (ax_w_lald hal d_Z_checkStep_250) (ax_fc (ax_v_ld (ax_r_aload_n (i := 0) d_Z_checkStep_251 rfl)) (ax_fc (ax_w_gf (e := none) hal d_Z_checkStep_252 fd_Z_177) (ax_fc (ax_v_pu (ax_r_i2l d_Z_checkStep_255)) (ax_fc (ax_v_pu (ax_r_lcmp d_Z_checkStep_256)) ax_fn))))))))) (y := (257, [(0, .inr (0, 38)), (1, .inl (.int (a1)))], [.inl (.int ((lg_cmp (s6.2 0 52 (a1).toNatClampNeg) ((s6.1 0 38 14)).toInt64))), .inr (0, 38)], ax_m (s6) ρ)) rfl ⟨trivial, trivial, (h0 38 rfl), trivial, ⟨(h0 52 rfl), ax_inp b62⟩, trivial, (h0 38 rfl), trivial, trivial, trivial⟩ ?_
      obtain ⟨w107, hw107, h⟩ := ax_bd h
      have KEw107 : ∀ (v64 : Int32), w107 = v64 → ax_R G 3 0 0 (265, [(0, .inr (0, 38)), (1, .inl (.int (a1)))], [.inl (.int (v64)), .inr (0, 38)], ax_m (s6) ρ) := by
        intro v64 e9
        subst w107
        try dsimp only at h
        obtain ⟨b65, h⟩ := ax_gd h
        refine ax_bk hK (ax_fc (ax_v_pu (ax_r_iconst (v := 4) d_Z_checkStep_265 (by decide))) (ax_fc (ax_v_ld (ax_r_aload_n (i := 0) d_Z_checkStep_266 rfl)) (ax_fc (ax_w_gf (e := none) hal d_Z_checkStep_267 fd_Z_57) (ax_fc (ax_v_ld (ax_r_iload_n (i := 1) d_Z_checkStep_270 rfl)) (ax_fc (ax_w_iald hal d_Z_checkStep_271) ax_fn))))) (y := (272, [(0, .inr (0, 38)), (1, .inl (.int (a1)))], [.inl (.int ((s6.1 0 53 (a1).toNatClampNeg))), .inl (.int ((4 : Int32))), .inl (.int (v64)), .inr (0, 38)], ax_m (s6) ρ)) rfl ⟨trivial, trivial, (h0 38 rfl), trivial, ⟨(h0 53 rfl), ax_inp b65⟩, trivial⟩ ?_
        obtain ⟨s66, q67, h⟩ := ax_bd h
        refine ax_bV (rest := []) hB (t_Z_consider h0 q67) cw_Z_316 im_Z_consider se_Z_consider d_Z_checkStep_272 (h0 38 rfl) rfl rfl (by decide) (by decide) rfl rfl (Nat.le_of_ble_eq_true rfl) ?_
        change ax_R G 3 0 0 (275, [(0, .inr (0, 38)), (1, .inl (.int (a1)))], [], ax_m (s66) ρ)
        obtain ⟨b68, h⟩ := ax_gd h
        refine ax_bk hK (ax_fc (ax_v_ld (ax_r_aload_n (i := 0) d_Z_checkStep_275 rfl)) (ax_fc (ax_v_ld (ax_r_aload_n (i := 0) d_Z_checkStep_276 rfl)) (ax_fc (ax_w_gf (e := none) hal d_Z_checkStep_277 fd_Z_54) (ax_fc (ax_v_ld (ax_r_iload_n (i := 1) d_Z_checkStep_280 rfl)) (ax_fc (ax_w_lald hal d_Z_checkStep_281) (ax_fc (ax_v_ld (ax_r_aload_n (i := 0) d_Z_checkStep_282 rfl)) (ax_fc (ax_w_gf (e := none) hal d_Z_checkStep_283 fd_Z_177) (ax_fc (ax_v_pu (ax_r_i2l d_Z_checkStep_286)) (ax_fc (ax_v_pu (ax_r_lcmp d_Z_checkStep_287)) ax_fn))))))))) (y := (288, [(0, .inr (0, 38)), (1, .inl (.int (a1)))], [.inl (.int ((lg_cmp (s66.2 0 52 (a1).toNatClampNeg) ((s66.1 0 38 14)).toInt64))), .inr (0, 38)], ax_m (s66) ρ)) rfl ⟨trivial, trivial, (h0 38 rfl), trivial, ⟨(h0 52 rfl), ax_inp b68⟩, trivial, (h0 38 rfl), trivial, trivial, trivial⟩ ?_
        obtain ⟨w108, hw108, h⟩ := ax_bd h
        have KEw108 : ∀ (v75 : Int32), w108 = v75 → ax_R G 3 0 0 (312, [(0, .inr (0, 38)), (1, .inl (.int (a1)))], [.inl (.int (v75)), .inr (0, 38)], ax_m (s66) ρ) := by
          intro v75 e9
          subst w108
          try dsimp only at h
          obtain ⟨b76, h⟩ := ax_gd h
          refine ax_bk hK (ax_fc (ax_v_pu (ax_r_iconst (v := 5) d_Z_checkStep_312 (by decide))) (ax_fc (ax_v_ld (ax_r_aload_n (i := 0) d_Z_checkStep_313 rfl)) (ax_fc (ax_w_gf (e := none) hal d_Z_checkStep_314 fd_Z_42) (ax_fc (ax_v_ld (ax_r_iload_n (i := 1) d_Z_checkStep_317 rfl)) (ax_fc (ax_w_iald hal d_Z_checkStep_318) ax_fn))))) (y := (319, [(0, .inr (0, 38)), (1, .inl (.int (a1)))], [.inl (.int ((s66.1 0 48 (a1).toNatClampNeg))), .inl (.int ((5 : Int32))), .inl (.int (v75)), .inr (0, 38)], ax_m (s66) ρ)) rfl ⟨trivial, trivial, (h0 38 rfl), trivial, ⟨(h0 48 rfl), ax_inp b76⟩, trivial⟩ ?_
          obtain ⟨s77, q78, h⟩ := ax_bd h
          refine ax_bV (rest := []) hB (t_Z_consider h0 q78) cw_Z_316 im_Z_consider se_Z_consider d_Z_checkStep_319 (h0 38 rfl) rfl rfl (by decide) (by decide) rfl rfl (Nat.le_of_ble_eq_true rfl) ?_
          change ax_R G 3 0 0 (322, [(0, .inr (0, 38)), (1, .inl (.int (a1)))], [], ax_m (s77) ρ)
          refine ax_bk hK (ax_fc (ax_v_go (tgt := 422) d_Z_checkStep_322 (by decide)) ax_fn) (y := (422, [(0, .inr (0, 38)), (1, .inl (.int (a1)))], [], ax_m (s77) ρ)) rfl ⟨trivial, trivial⟩ ?_
          cases h
          exact ax_vret hA d_Z_checkStep_422
        clear h
        have h := hw108
        obtain ⟨w74, hw74, h⟩ := ax_bd h
        have KTw74 : w74 = true → ax_R G 3 0 0 (311, [(0, .inr (0, 38)), (1, .inl (.int (a1)))], [.inr (0, 38)], ax_m (s66) ρ) := by
          intro e9
          subst w74
          replace h := ax_ct h
          refine ax_bk hK (ax_fc (ax_v_pu (ax_r_iconst (v := 0) d_Z_checkStep_311 (by decide))) ax_fn) (y := (312, [(0, .inr (0, 38)), (1, .inl (.int (a1)))], [.inl (.int ((0 : Int32))), .inr (0, 38)], ax_m (s66) ρ)) rfl ⟨trivial, trivial⟩ ?_
          cases h
          exact ax_Lsub [0, 1] rfl (KEw108 _ rfl)
        have KFw74 : w74 = false → ax_R G 3 0 0 (307, [(0, .inr (0, 38)), (1, .inl (.int (a1)))], [.inr (0, 38)], ax_m (s66) ρ) := by
          intro e9
          subst w74
          replace h := ax_cf h
          refine ax_bk hK (ax_fc (ax_v_pu (ax_r_iconst (v := 1) d_Z_checkStep_307 (by decide))) (ax_fc (ax_v_go (tgt := 312) d_Z_checkStep_308 (by decide)) ax_fn)) (y := (312, [(0, .inr (0, 38)), (1, .inl (.int (a1)))], [.inl (.int ((1 : Int32))), .inr (0, 38)], ax_m (s66) ρ)) rfl ⟨trivial, trivial, trivial⟩ ?_
          cases h
          exact ax_Lsub [0, 1] rfl (KEw108 _ rfl)
        clear h
        have h := hw74
        refine ax_if_ge (tgt := 311) hK d_Z_checkStep_288 (by decide) (fun c73 => ?_) (fun c73 => ?_)
        · replace h := ax_it c73 h
          cases h
          exact ax_Lsub [0, 1] rfl (KTw74 rfl)
        · replace h := ax_if c73 h
          obtain ⟨b69, h⟩ := ax_gd h
          refine ax_bk hK (ax_fc (ax_v_ld (ax_r_aload_n (i := 0) d_Z_checkStep_291 rfl)) (ax_fc (ax_v_ld (ax_r_aload_n (i := 0) d_Z_checkStep_292 rfl)) (ax_fc (ax_w_gf (e := none) hal d_Z_checkStep_293 fd_Z_54) (ax_fc (ax_v_ld (ax_r_iload_n (i := 1) d_Z_checkStep_296 rfl)) (ax_fc (ax_w_lald hal d_Z_checkStep_297) (ax_fc (ax_v_pu (ax_r_lconst (v := 1) d_Z_checkStep_298 (by decide))) (ax_fc (ax_v_pu (ax_r_land d_Z_checkStep_299)) (ax_fc (ax_v_pu (ax_r_l2i d_Z_checkStep_300)) ax_fn)))))))) (y := (301, [(0, .inr (0, 38)), (1, .inl (.int (a1)))], [.inl (.int ((((s66.2 0 52 (a1).toNatClampNeg) &&& (1 : Int64))).toInt32)), .inr (0, 38), .inr (0, 38)], ax_m (s66) ρ)) rfl ⟨trivial, trivial, (h0 38 rfl), trivial, ⟨(h0 52 rfl), ax_inp b69⟩, trivial, trivial, trivial, trivial⟩ ?_
          obtain ⟨r70, q71, h⟩ := ax_bd h
          refine ax_bV (rest := [.inr (0, 38)]) hB (t_Z_repeats h0 q71) cw_Z_333 im_Z_repeats se_Z_repeats d_Z_checkStep_301 (h0 38 rfl) rfl rfl (by decide) (by decide) rfl rfl (Nat.le_of_ble_eq_true rfl) ?_
          change ax_R G 3 0 0 (304, [(0, .inr (0, 38)), (1, .inl (.int (a1)))], [.inl (.int (r70)), .inr (0, 38)], ax_m (s66) ρ)
          refine ax_if_eq (tgt := 311) hK d_Z_checkStep_304 (by decide) (fun c72 => ?_) (fun c72 => ?_)
          · replace h := ax_it c72 h
            cases h
            exact ax_Lsub [0, 1] rfl (KTw74 rfl)
          · replace h := ax_if c72 h
            cases h
            exact ax_Lsub [0, 1] rfl (KFw74 rfl)
      clear h
      have h := hw107
      refine ax_if_lt (tgt := 264) hK d_Z_checkStep_257 (by decide) (fun c63 => ?_) (fun c63 => ?_)
      · replace h := ax_it c63 h
        refine ax_bk hK (ax_fc (ax_v_pu (ax_r_iconst (v := 0) d_Z_checkStep_264 (by decide))) ax_fn) (y := (265, [(0, .inr (0, 38)), (1, .inl (.int (a1)))], [.inl (.int ((0 : Int32))), .inr (0, 38)], ax_m (s6) ρ)) rfl ⟨trivial, trivial⟩ ?_
        cases h
        exact ax_Lsub [0, 1] rfl (KEw107 _ rfl)
      · replace h := ax_if c63 h
        refine ax_bk hK (ax_fc (ax_v_pu (ax_r_iconst (v := 1) d_Z_checkStep_260 (by decide))) (ax_fc (ax_v_go (tgt := 265) d_Z_checkStep_261 (by decide)) ax_fn)) (y := (265, [(0, .inr (0, 38)), (1, .inl (.int (a1)))], [.inl (.int ((1 : Int32))), .inr (0, 38)], ax_m (s6) ρ)) rfl ⟨trivial, trivial, trivial⟩ ?_
        cases h
        exact ax_Lsub [0, 1] rfl (KEw107 _ rfl)
    replace h := ax_if c99 h
    refine And.intro (fun c99 => ?_) (fun c99 => ?_)
    · replace h := ax_it c99 h
      change ax_R G 3 0 0 (325, [(0, .inr (0, 38)), (1, .inl (.int (a1)))], [], ax_m (s6) ρ)
      obtain ⟨b79, h⟩ := ax_gd h
      refine ax_bk hK (ax_fc (ax_v_ld (ax_r_aload_n (i := 0) d_Z_checkStep_325 rfl)) (ax_fc (ax_w_gf (e := none) hal d_Z_checkStep_326 fd_Z_60) (ax_fc (ax_v_ld (ax_r_iload_n (i := 1) d_Z_checkStep_329 rfl)) (ax_fc (ax_w_iald hal d_Z_checkStep_330) (ax_fc (ax_v_so (ax_r_istore_n (i := 2) d_Z_checkStep_331 rfl)) ax_fn))))) (y := (332, [(2, .inl (.int ((s6.1 0 54 (a1).toNatClampNeg)))), (0, .inr (0, 38)), (1, .inl (.int (a1)))], [], ax_m (s6) ρ)) rfl ⟨trivial, (h0 38 rfl), trivial, ⟨(h0 54 rfl), ax_inp b79⟩, trivial, trivial⟩ ?_
      obtain ⟨w109, hw109, h⟩ := ax_bd h
      refine ax_Lsub [1, 2, 0] rfl (pl_Z_checkStep_332 h0 hB F _ hw109 ?_)
      intro s89 e9
      subst w109
      try dsimp only at h
      change ax_R G 3 0 0 (380, [(0, .inr (0, 38)), (1, .inl (.int (a1)))], [], ax_m (s89) ρ)
      obtain ⟨b90, h⟩ := ax_gd h
      obtain ⟨b91, h⟩ := ax_gd h
      refine ax_bk hK (ax_fc (ax_v_ld (ax_r_aload_n (i := 0) d_Z_checkStep_380 rfl)) (ax_fc (ax_v_ld (ax_r_aload_n (i := 0) d_Z_checkStep_381 rfl)) (ax_fc (ax_w_gf (e := none) hal d_Z_checkStep_382 fd_Z_63) (ax_fc (ax_v_ld (ax_r_iload_n (i := 1) d_Z_checkStep_385 rfl)) (ax_fc (ax_w_iald hal d_Z_checkStep_386) (ax_fc (ax_v_ld (ax_r_aload_n (i := 0) d_Z_checkStep_387 rfl)) (ax_fc (ax_w_gf (e := none) hal d_Z_checkStep_388 fd_Z_60) (ax_fc (ax_v_ld (ax_r_iload_n (i := 1) d_Z_checkStep_391 rfl)) (ax_fc (ax_w_iald hal d_Z_checkStep_392) (ax_fc (ax_v_pu (ax_r_isub d_Z_checkStep_393)) (ax_fc (ax_v_pu (ax_r_iconst (v := 2) d_Z_checkStep_394 (by decide))) (ax_fc (ax_v_irem d_Z_checkStep_395) ax_fn)))))))))))) (y := (396, [(0, .inr (0, 38)), (1, .inl (.int (a1)))], [.inl (.int ((((s89.1 0 55 (a1).toNatClampNeg) - (s89.1 0 54 (a1).toNatClampNeg)) - ((s89.1 0 55 (a1).toNatClampNeg) - (s89.1 0 54 (a1).toNatClampNeg)) / (2 : Int32) * (2 : Int32)))), .inr (0, 38)], ax_m (s89) ρ)) rfl ⟨trivial, trivial, (h0 38 rfl), trivial, ⟨(h0 55 rfl), ax_inp b90⟩, trivial, (h0 38 rfl), trivial, ⟨(h0 54 rfl), ax_inp b91⟩, trivial, trivial, (by decide), trivial⟩ ?_
      obtain ⟨w110, hw110, h⟩ := ax_bd h
      have KEw110 : ∀ (v93 : Int32), w110 = v93 → ax_R G 3 0 0 (404, [(0, .inr (0, 38)), (1, .inl (.int (a1)))], [.inl (.int (v93)), .inr (0, 38)], ax_m (s89) ρ) := by
        intro v93 e9
        subst w110
        try dsimp only at h
        obtain ⟨b94, h⟩ := ax_gd h
        refine ax_bk hK (ax_fc (ax_v_pu (ax_r_iconst (v := 5) d_Z_checkStep_404 (by decide))) (ax_fc (ax_v_ld (ax_r_aload_n (i := 0) d_Z_checkStep_405 rfl)) (ax_fc (ax_w_gf (e := none) hal d_Z_checkStep_406 fd_Z_42) (ax_fc (ax_v_ld (ax_r_iload_n (i := 1) d_Z_checkStep_409 rfl)) (ax_fc (ax_w_iald hal d_Z_checkStep_410) ax_fn))))) (y := (411, [(0, .inr (0, 38)), (1, .inl (.int (a1)))], [.inl (.int ((s89.1 0 48 (a1).toNatClampNeg))), .inl (.int ((5 : Int32))), .inl (.int (v93)), .inr (0, 38)], ax_m (s89) ρ)) rfl ⟨trivial, trivial, (h0 38 rfl), trivial, ⟨(h0 48 rfl), ax_inp b94⟩, trivial⟩ ?_
        obtain ⟨s95, q96, h⟩ := ax_bd h
        refine ax_bV (rest := []) hB (t_Z_consider h0 q96) cw_Z_316 im_Z_consider se_Z_consider d_Z_checkStep_411 (h0 38 rfl) rfl rfl (by decide) (by decide) rfl rfl (Nat.le_of_ble_eq_true rfl) ?_
        change ax_R G 3 0 0 (414, [(0, .inr (0, 38)), (1, .inl (.int (a1)))], [], ax_m (s95) ρ)
        refine ax_bk hK (ax_fc (ax_v_go (tgt := 422) d_Z_checkStep_414 (by decide)) ax_fn) (y := (422, [(0, .inr (0, 38)), (1, .inl (.int (a1)))], [], ax_m (s95) ρ)) rfl ⟨trivial, trivial⟩ ?_
        cases h
        exact ax_vret hA d_Z_checkStep_422
      clear h
      have h := hw110
      refine ax_if_ne (tgt := 403) hK d_Z_checkStep_396 (by decide) (fun c92 => ?_) (fun c92 => ?_)
      · replace h := ax_if c92 h
        refine ax_bk hK (ax_fc (ax_v_pu (ax_r_iconst (v := 0) d_Z_checkStep_403 (by decide))) ax_fn) (y := (404, [(0, .inr (0, 38)), (1, .inl (.int (a1)))], [.inl (.int ((0 : Int32))), .inr (0, 38)], ax_m (s89) ρ)) rfl ⟨trivial, trivial⟩ ?_
        cases h
        exact ax_Lsub [0, 1] rfl (KEw110 _ rfl)
      · replace h := ax_it c92 h
        refine ax_bk hK (ax_fc (ax_v_pu (ax_r_iconst (v := 1) d_Z_checkStep_399 (by decide))) (ax_fc (ax_v_go (tgt := 404) d_Z_checkStep_400 (by decide)) ax_fn)) (y := (404, [(0, .inr (0, 38)), (1, .inl (.int (a1)))], [.inl (.int ((1 : Int32))), .inr (0, 38)], ax_m (s89) ρ)) rfl ⟨trivial, trivial, trivial⟩ ?_
        cases h
        exact ax_Lsub [0, 1] rfl (KEw110 _ rfl)
    replace h := ax_if c99 h
    change ax_R G 3 0 0 (417, [(0, .inr (0, 38)), (1, .inl (.int (a1)))], [], ax_m (s6) ρ)
    refine ax_bk hK (ax_fc (ax_v_ld (ax_r_aload_n (i := 0) d_Z_checkStep_417 rfl)) (ax_fc (ax_v_ld (ax_r_iload_n (i := 1) d_Z_checkStep_418 rfl)) ax_fn)) (y := (419, [(0, .inr (0, 38)), (1, .inl (.int (a1)))], [.inl (.int (a1)), .inr (0, 38)], ax_m (s6) ρ)) rfl ⟨trivial, trivial, trivial⟩ ?_
    obtain ⟨s97, q98, h⟩ := ax_bd h
    refine ax_bV (rest := []) hB (t_Z_checkExpression h0 q98) cw_Z_336 im_Z_checkExpression se_Z_checkExpression d_Z_checkStep_419 (h0 38 rfl) rfl rfl (by decide) (by decide) rfl rfl (Nat.le_of_ble_eq_true rfl) ?_
    change ax_R G 3 0 0 (422, [(0, .inr (0, 38)), (1, .inl (.int (a1)))], [], ax_m (s97) ρ)
    cases h
    exact ax_vret hA d_Z_checkStep_422
  clear h
  have h := hw100
  refine ax_if_lt (tgt := 22) hK d_Z_checkStep_15 (by decide) (fun c3 => ?_) (fun c3 => ?_)
  · replace h := ax_it c3 h
    refine ax_bk hK (ax_fc (ax_v_pu (ax_r_iconst (v := 0) d_Z_checkStep_22 (by decide))) ax_fn) (y := (23, [(0, .inr (0, 38)), (1, .inl (.int (a1)))], [.inl (.int ((0 : Int32))), .inr (0, 38)], ax_m (s) ρ)) rfl ⟨trivial, trivial⟩ ?_
    cases h
    exact ax_Lsub [0, 1] rfl (KEw100 _ rfl)
  · replace h := ax_if c3 h
    refine ax_bk hK (ax_fc (ax_v_pu (ax_r_iconst (v := 1) d_Z_checkStep_18 (by decide))) (ax_fc (ax_v_go (tgt := 23) d_Z_checkStep_19 (by decide)) ax_fn)) (y := (23, [(0, .inr (0, 38)), (1, .inl (.int (a1)))], [.inl (.int ((1 : Int32))), .inr (0, 38)], ax_m (s) ρ)) rfl ⟨trivial, trivial, trivial⟩ ?_
    cases h
    exact ax_Lsub [0, 1] rfl (KEw100 _ rfl)
def y_Z_checkAll : MethodName := ⟨"CipherNotationModel", "checkAll", "()V"⟩
theorem d_Z_checkAll_0 : decode prog_8_method_40_code 0 = .ok (.aload_n 0, 1) := by decide +kernel
theorem d_Z_checkAll_1 : decode prog_8_method_40_code 1 = .ok (.iconst 0, 1) := by decide +kernel
theorem d_Z_checkAll_2 : decode prog_8_method_40_code 2 = .ok (.putfield (293), 3) := by decide +kernel
theorem d_Z_checkAll_5 : decode prog_8_method_40_code 5 = .ok (.aload_n 0, 1) := by decide +kernel
theorem d_Z_checkAll_6 : decode prog_8_method_40_code 6 = .ok (.aload_n 0, 1) := by decide +kernel
theorem d_Z_checkAll_7 : decode prog_8_method_40_code 7 = .ok (.getfield (20), 3) := by decide +kernel
theorem d_Z_checkAll_10 : decode prog_8_method_40_code 10 = .ok (.iconst 0, 1) := by decide +kernel
theorem d_Z_checkAll_11 : decode prog_8_method_40_code 11 = .ok (.laload, 1) := by decide +kernel
theorem d_Z_checkAll_12 : decode prog_8_method_40_code 12 = .ok (.ldc2_w (340), 3) := by decide +kernel
theorem d_Z_checkAll_15 : decode prog_8_method_40_code 15 = .ok (.lcmp, 1) := by decide +kernel
theorem d_Z_checkAll_16 : decode prog_8_method_40_code 16 = .ok (.ifCond .eq (46), 3) := by decide +kernel
theorem d_Z_checkAll_19 : decode prog_8_method_40_code 19 = .ok (.aload_n 0, 1) := by decide +kernel
theorem d_Z_checkAll_20 : decode prog_8_method_40_code 20 = .ok (.getfield (20), 3) := by decide +kernel
theorem d_Z_checkAll_23 : decode prog_8_method_40_code 23 = .ok (.iconst 0, 1) := by decide +kernel
theorem d_Z_checkAll_24 : decode prog_8_method_40_code 24 = .ok (.laload, 1) := by decide +kernel
theorem d_Z_checkAll_25 : decode prog_8_method_40_code 25 = .ok (.ldc2_w (264), 3) := by decide +kernel
theorem d_Z_checkAll_28 : decode prog_8_method_40_code 28 = .ok (.lcmp, 1) := by decide +kernel
theorem d_Z_checkAll_29 : decode prog_8_method_40_code 29 = .ok (.ifCond .eq (33), 3) := by decide +kernel
theorem d_Z_checkAll_32 : decode prog_8_method_40_code 32 = .ok (.aload_n 0, 1) := by decide +kernel
theorem d_Z_checkAll_33 : decode prog_8_method_40_code 33 = .ok (.getfield (20), 3) := by decide +kernel
theorem d_Z_checkAll_36 : decode prog_8_method_40_code 36 = .ok (.iconst 0, 1) := by decide +kernel
theorem d_Z_checkAll_37 : decode prog_8_method_40_code 37 = .ok (.laload, 1) := by decide +kernel
theorem d_Z_checkAll_38 : decode prog_8_method_40_code 38 = .ok (.ldc2_w (342), 3) := by decide +kernel
theorem d_Z_checkAll_41 : decode prog_8_method_40_code 41 = .ok (.lcmp, 1) := by decide +kernel
theorem d_Z_checkAll_42 : decode prog_8_method_40_code 42 = .ok (.ifCond .eq (20), 3) := by decide +kernel
theorem d_Z_checkAll_45 : decode prog_8_method_40_code 45 = .ok (.aload_n 0, 1) := by decide +kernel
theorem d_Z_checkAll_46 : decode prog_8_method_40_code 46 = .ok (.getfield (20), 3) := by decide +kernel
theorem d_Z_checkAll_49 : decode prog_8_method_40_code 49 = .ok (.iconst 0, 1) := by decide +kernel
theorem d_Z_checkAll_50 : decode prog_8_method_40_code 50 = .ok (.laload, 1) := by decide +kernel
theorem d_Z_checkAll_51 : decode prog_8_method_40_code 51 = .ok (.ldc2_w (344), 3) := by decide +kernel
theorem d_Z_checkAll_54 : decode prog_8_method_40_code 54 = .ok (.lcmp, 1) := by decide +kernel
theorem d_Z_checkAll_55 : decode prog_8_method_40_code 55 = .ok (.ifCond .eq (7), 3) := by decide +kernel
theorem d_Z_checkAll_58 : decode prog_8_method_40_code 58 = .ok (.iconst 1, 1) := by decide +kernel
theorem d_Z_checkAll_59 : decode prog_8_method_40_code 59 = .ok (.goto (4), 3) := by decide +kernel
theorem d_Z_checkAll_62 : decode prog_8_method_40_code 62 = .ok (.iconst 0, 1) := by decide +kernel
theorem d_Z_checkAll_63 : decode prog_8_method_40_code 63 = .ok (.iconst 2, 1) := by decide +kernel
theorem d_Z_checkAll_64 : decode prog_8_method_40_code 64 = .ok (.aload_n 0, 1) := by decide +kernel
theorem d_Z_checkAll_65 : decode prog_8_method_40_code 65 = .ok (.getfield (24), 3) := by decide +kernel
theorem d_Z_checkAll_68 : decode prog_8_method_40_code 68 = .ok (.iconst 0, 1) := by decide +kernel
theorem d_Z_checkAll_69 : decode prog_8_method_40_code 69 = .ok (.iaload, 1) := by decide +kernel
theorem d_Z_checkAll_70 : decode prog_8_method_40_code 70 = .ok (.invokevirtual (316), 3) := by decide +kernel
theorem d_Z_checkAll_73 : decode prog_8_method_40_code 73 = .ok (.aload_n 0, 1) := by decide +kernel
theorem d_Z_checkAll_74 : decode prog_8_method_40_code 74 = .ok (.aload_n 0, 1) := by decide +kernel
theorem d_Z_checkAll_75 : decode prog_8_method_40_code 75 = .ok (.getfield (20), 3) := by decide +kernel
theorem d_Z_checkAll_78 : decode prog_8_method_40_code 78 = .ok (.iconst 1, 1) := by decide +kernel
theorem d_Z_checkAll_79 : decode prog_8_method_40_code 79 = .ok (.laload, 1) := by decide +kernel
theorem d_Z_checkAll_80 : decode prog_8_method_40_code 80 = .ok (.ldc2_w (331), 3) := by decide +kernel
theorem d_Z_checkAll_83 : decode prog_8_method_40_code 83 = .ok (.lcmp, 1) := by decide +kernel
theorem d_Z_checkAll_84 : decode prog_8_method_40_code 84 = .ok (.ifCond .lt (16), 3) := by decide +kernel
theorem d_Z_checkAll_87 : decode prog_8_method_40_code 87 = .ok (.aload_n 0, 1) := by decide +kernel
theorem d_Z_checkAll_88 : decode prog_8_method_40_code 88 = .ok (.getfield (20), 3) := by decide +kernel
theorem d_Z_checkAll_91 : decode prog_8_method_40_code 91 = .ok (.iconst 1, 1) := by decide +kernel
theorem d_Z_checkAll_92 : decode prog_8_method_40_code 92 = .ok (.laload, 1) := by decide +kernel
theorem d_Z_checkAll_93 : decode prog_8_method_40_code 93 = .ok (.ldc2_w (346), 3) := by decide +kernel
theorem d_Z_checkAll_96 : decode prog_8_method_40_code 96 = .ok (.lcmp, 1) := by decide +kernel
theorem d_Z_checkAll_97 : decode prog_8_method_40_code 97 = .ok (.ifCond .le (7), 3) := by decide +kernel
theorem d_Z_checkAll_100 : decode prog_8_method_40_code 100 = .ok (.iconst 1, 1) := by decide +kernel
theorem d_Z_checkAll_101 : decode prog_8_method_40_code 101 = .ok (.goto (4), 3) := by decide +kernel
theorem d_Z_checkAll_104 : decode prog_8_method_40_code 104 = .ok (.iconst 0, 1) := by decide +kernel
theorem d_Z_checkAll_105 : decode prog_8_method_40_code 105 = .ok (.iconst 2, 1) := by decide +kernel
theorem d_Z_checkAll_106 : decode prog_8_method_40_code 106 = .ok (.aload_n 0, 1) := by decide +kernel
theorem d_Z_checkAll_107 : decode prog_8_method_40_code 107 = .ok (.getfield (24), 3) := by decide +kernel
theorem d_Z_checkAll_110 : decode prog_8_method_40_code 110 = .ok (.iconst 1, 1) := by decide +kernel
theorem d_Z_checkAll_111 : decode prog_8_method_40_code 111 = .ok (.iaload, 1) := by decide +kernel
theorem d_Z_checkAll_112 : decode prog_8_method_40_code 112 = .ok (.invokevirtual (316), 3) := by decide +kernel
theorem d_Z_checkAll_115 : decode prog_8_method_40_code 115 = .ok (.aload_n 0, 1) := by decide +kernel
theorem d_Z_checkAll_116 : decode prog_8_method_40_code 116 = .ok (.aload_n 0, 1) := by decide +kernel
theorem d_Z_checkAll_117 : decode prog_8_method_40_code 117 = .ok (.getfield (20), 3) := by decide +kernel
theorem d_Z_checkAll_120 : decode prog_8_method_40_code 120 = .ok (.iconst 2, 1) := by decide +kernel
theorem d_Z_checkAll_121 : decode prog_8_method_40_code 121 = .ok (.laload, 1) := by decide +kernel
theorem d_Z_checkAll_122 : decode prog_8_method_40_code 122 = .ok (.lconst 1, 1) := by decide +kernel
theorem d_Z_checkAll_123 : decode prog_8_method_40_code 123 = .ok (.lcmp, 1) := by decide +kernel
theorem d_Z_checkAll_124 : decode prog_8_method_40_code 124 = .ok (.ifCond .lt (16), 3) := by decide +kernel
theorem d_Z_checkAll_127 : decode prog_8_method_40_code 127 = .ok (.aload_n 0, 1) := by decide +kernel
theorem d_Z_checkAll_128 : decode prog_8_method_40_code 128 = .ok (.getfield (20), 3) := by decide +kernel
theorem d_Z_checkAll_131 : decode prog_8_method_40_code 131 = .ok (.iconst 2, 1) := by decide +kernel
theorem d_Z_checkAll_132 : decode prog_8_method_40_code 132 = .ok (.laload, 1) := by decide +kernel
theorem d_Z_checkAll_133 : decode prog_8_method_40_code 133 = .ok (.ldc2_w (346), 3) := by decide +kernel
theorem d_Z_checkAll_136 : decode prog_8_method_40_code 136 = .ok (.lcmp, 1) := by decide +kernel
theorem d_Z_checkAll_137 : decode prog_8_method_40_code 137 = .ok (.ifCond .le (7), 3) := by decide +kernel
theorem d_Z_checkAll_140 : decode prog_8_method_40_code 140 = .ok (.iconst 1, 1) := by decide +kernel
theorem d_Z_checkAll_141 : decode prog_8_method_40_code 141 = .ok (.goto (4), 3) := by decide +kernel
theorem d_Z_checkAll_144 : decode prog_8_method_40_code 144 = .ok (.iconst 0, 1) := by decide +kernel
theorem d_Z_checkAll_145 : decode prog_8_method_40_code 145 = .ok (.iconst 2, 1) := by decide +kernel
theorem d_Z_checkAll_146 : decode prog_8_method_40_code 146 = .ok (.aload_n 0, 1) := by decide +kernel
theorem d_Z_checkAll_147 : decode prog_8_method_40_code 147 = .ok (.getfield (24), 3) := by decide +kernel
theorem d_Z_checkAll_150 : decode prog_8_method_40_code 150 = .ok (.iconst 2, 1) := by decide +kernel
theorem d_Z_checkAll_151 : decode prog_8_method_40_code 151 = .ok (.iaload, 1) := by decide +kernel
theorem d_Z_checkAll_152 : decode prog_8_method_40_code 152 = .ok (.invokevirtual (316), 3) := by decide +kernel
theorem d_Z_checkAll_155 : decode prog_8_method_40_code 155 = .ok (.aload_n 0, 1) := by decide +kernel
theorem d_Z_checkAll_156 : decode prog_8_method_40_code 156 = .ok (.getfield (293), 3) := by decide +kernel
theorem d_Z_checkAll_159 : decode prog_8_method_40_code 159 = .ok (.ifCond .eq (4), 3) := by decide +kernel
theorem d_Z_checkAll_162 : decode prog_8_method_40_code 162 = .ok (.return_, 1) := by decide +kernel
theorem d_Z_checkAll_163 : decode prog_8_method_40_code 163 = .ok (.iconst 0, 1) := by decide +kernel
theorem d_Z_checkAll_164 : decode prog_8_method_40_code 164 = .ok (.istore_n 1, 1) := by decide +kernel
theorem d_Z_checkAll_165 : decode prog_8_method_40_code 165 = .ok (.iload_n 1, 1) := by decide +kernel
theorem d_Z_checkAll_166 : decode prog_8_method_40_code 166 = .ok (.aload_n 0, 1) := by decide +kernel
theorem d_Z_checkAll_167 : decode prog_8_method_40_code 167 = .ok (.getfield (177), 3) := by decide +kernel
theorem d_Z_checkAll_170 : decode prog_8_method_40_code 170 = .ok (.if_icmp .ge (68), 3) := by decide +kernel
theorem d_Z_checkAll_173 : decode prog_8_method_40_code 173 = .ok (.iconst 2, 1) := by decide +kernel
theorem d_Z_checkAll_174 : decode prog_8_method_40_code 174 = .ok (.iload_n 1, 1) := by decide +kernel
theorem d_Z_checkAll_175 : decode prog_8_method_40_code 175 = .ok (.imul, 1) := by decide +kernel
theorem d_Z_checkAll_176 : decode prog_8_method_40_code 176 = .ok (.istore_n 2, 1) := by decide +kernel
theorem d_Z_checkAll_177 : decode prog_8_method_40_code 177 = .ok (.iload_n 2, 1) := by decide +kernel
theorem d_Z_checkAll_178 : decode prog_8_method_40_code 178 = .ok (.iconst 2, 1) := by decide +kernel
theorem d_Z_checkAll_179 : decode prog_8_method_40_code 179 = .ok (.iload_n 1, 1) := by decide +kernel
theorem d_Z_checkAll_180 : decode prog_8_method_40_code 180 = .ok (.imul, 1) := by decide +kernel
theorem d_Z_checkAll_181 : decode prog_8_method_40_code 181 = .ok (.iconst 2, 1) := by decide +kernel
theorem d_Z_checkAll_182 : decode prog_8_method_40_code 182 = .ok (.iadd, 1) := by decide +kernel
theorem d_Z_checkAll_183 : decode prog_8_method_40_code 183 = .ok (.if_icmp .ge (49), 3) := by decide +kernel
theorem d_Z_checkAll_186 : decode prog_8_method_40_code 186 = .ok (.aload_n 0, 1) := by decide +kernel
theorem d_Z_checkAll_187 : decode prog_8_method_40_code 187 = .ok (.getfield (33), 3) := by decide +kernel
theorem d_Z_checkAll_190 : decode prog_8_method_40_code 190 = .ok (.iconst 2, 1) := by decide +kernel
theorem d_Z_checkAll_191 : decode prog_8_method_40_code 191 = .ok (.iload_n 1, 1) := by decide +kernel
theorem d_Z_checkAll_192 : decode prog_8_method_40_code 192 = .ok (.imul, 1) := by decide +kernel
theorem d_Z_checkAll_193 : decode prog_8_method_40_code 193 = .ok (.iaload, 1) := by decide +kernel
theorem d_Z_checkAll_194 : decode prog_8_method_40_code 194 = .ok (.ifCond .lt (38), 3) := by decide +kernel
theorem d_Z_checkAll_197 : decode prog_8_method_40_code 197 = .ok (.aload_n 0, 1) := by decide +kernel
theorem d_Z_checkAll_198 : decode prog_8_method_40_code 198 = .ok (.aload_n 0, 1) := by decide +kernel
theorem d_Z_checkAll_199 : decode prog_8_method_40_code 199 = .ok (.getfield (30), 3) := by decide +kernel
theorem d_Z_checkAll_202 : decode prog_8_method_40_code 202 = .ok (.iload_n 2, 1) := by decide +kernel
theorem d_Z_checkAll_203 : decode prog_8_method_40_code 203 = .ok (.laload, 1) := by decide +kernel
theorem d_Z_checkAll_204 : decode prog_8_method_40_code 204 = .ok (.ldc2_w (348), 3) := by decide +kernel
theorem d_Z_checkAll_207 : decode prog_8_method_40_code 207 = .ok (.lcmp, 1) := by decide +kernel
theorem d_Z_checkAll_208 : decode prog_8_method_40_code 208 = .ok (.ifCond .le (7), 3) := by decide +kernel
theorem d_Z_checkAll_211 : decode prog_8_method_40_code 211 = .ok (.iconst 1, 1) := by decide +kernel
theorem d_Z_checkAll_212 : decode prog_8_method_40_code 212 = .ok (.goto (4), 3) := by decide +kernel
theorem d_Z_checkAll_215 : decode prog_8_method_40_code 215 = .ok (.iconst 0, 1) := by decide +kernel
theorem d_Z_checkAll_216 : decode prog_8_method_40_code 216 = .ok (.iconst 3, 1) := by decide +kernel
theorem d_Z_checkAll_217 : decode prog_8_method_40_code 217 = .ok (.aload_n 0, 1) := by decide +kernel
theorem d_Z_checkAll_218 : decode prog_8_method_40_code 218 = .ok (.getfield (33), 3) := by decide +kernel
theorem d_Z_checkAll_221 : decode prog_8_method_40_code 221 = .ok (.iload_n 2, 1) := by decide +kernel
theorem d_Z_checkAll_222 : decode prog_8_method_40_code 222 = .ok (.iaload, 1) := by decide +kernel
theorem d_Z_checkAll_223 : decode prog_8_method_40_code 223 = .ok (.invokevirtual (316), 3) := by decide +kernel
theorem d_Z_checkAll_226 : decode prog_8_method_40_code 226 = .ok (.iinc 2 (1), 3) := by decide +kernel
theorem d_Z_checkAll_229 : decode prog_8_method_40_code 229 = .ok (.goto (-52), 3) := by decide +kernel
theorem d_Z_checkAll_232 : decode prog_8_method_40_code 232 = .ok (.iinc 1 (1), 3) := by decide +kernel
theorem d_Z_checkAll_235 : decode prog_8_method_40_code 235 = .ok (.goto (-70), 3) := by decide +kernel
theorem d_Z_checkAll_238 : decode prog_8_method_40_code 238 = .ok (.iconst 0, 1) := by decide +kernel
theorem d_Z_checkAll_239 : decode prog_8_method_40_code 239 = .ok (.istore_n 1, 1) := by decide +kernel
theorem d_Z_checkAll_240 : decode prog_8_method_40_code 240 = .ok (.iload_n 1, 1) := by decide +kernel
theorem d_Z_checkAll_241 : decode prog_8_method_40_code 241 = .ok (.aload_n 0, 1) := by decide +kernel
theorem d_Z_checkAll_242 : decode prog_8_method_40_code 242 = .ok (.getfield (186), 3) := by decide +kernel
theorem d_Z_checkAll_245 : decode prog_8_method_40_code 245 = .ok (.if_icmp .ge (121), 3) := by decide +kernel
theorem d_Z_checkAll_248 : decode prog_8_method_40_code 248 = .ok (.aload_n 0, 1) := by decide +kernel
theorem d_Z_checkAll_249 : decode prog_8_method_40_code 249 = .ok (.getfield (39), 3) := by decide +kernel
theorem d_Z_checkAll_252 : decode prog_8_method_40_code 252 = .ok (.iload_n 1, 1) := by decide +kernel
theorem d_Z_checkAll_253 : decode prog_8_method_40_code 253 = .ok (.iaload, 1) := by decide +kernel
theorem d_Z_checkAll_254 : decode prog_8_method_40_code 254 = .ok (.iconst 2, 1) := by decide +kernel
theorem d_Z_checkAll_255 : decode prog_8_method_40_code 255 = .ok (.if_icmp .ne (72), 3) := by decide +kernel
theorem d_Z_checkAll_258 : decode prog_8_method_40_code 258 = .ok (.aload_n 0, 1) := by decide +kernel
theorem d_Z_checkAll_259 : decode prog_8_method_40_code 259 = .ok (.aload_n 0, 1) := by decide +kernel
theorem d_Z_checkAll_260 : decode prog_8_method_40_code 260 = .ok (.aload_n 0, 1) := by decide +kernel
theorem d_Z_checkAll_261 : decode prog_8_method_40_code 261 = .ok (.getfield (45), 3) := by decide +kernel
theorem d_Z_checkAll_264 : decode prog_8_method_40_code 264 = .ok (.iload_n 1, 1) := by decide +kernel
theorem d_Z_checkAll_265 : decode prog_8_method_40_code 265 = .ok (.iaload, 1) := by decide +kernel
theorem d_Z_checkAll_266 : decode prog_8_method_40_code 266 = .ok (.aload_n 0, 1) := by decide +kernel
theorem d_Z_checkAll_267 : decode prog_8_method_40_code 267 = .ok (.iload_n 1, 1) := by decide +kernel
theorem d_Z_checkAll_268 : decode prog_8_method_40_code 268 = .ok (.invokevirtual (313), 3) := by decide +kernel
theorem d_Z_checkAll_271 : decode prog_8_method_40_code 271 = .ok (.invokevirtual (324), 3) := by decide +kernel
theorem d_Z_checkAll_274 : decode prog_8_method_40_code 274 = .ok (.iconst 4, 1) := by decide +kernel
theorem d_Z_checkAll_275 : decode prog_8_method_40_code 275 = .ok (.aload_n 0, 1) := by decide +kernel
theorem d_Z_checkAll_276 : decode prog_8_method_40_code 276 = .ok (.getfield (42), 3) := by decide +kernel
theorem d_Z_checkAll_279 : decode prog_8_method_40_code 279 = .ok (.iload_n 1, 1) := by decide +kernel
theorem d_Z_checkAll_280 : decode prog_8_method_40_code 280 = .ok (.iaload, 1) := by decide +kernel
theorem d_Z_checkAll_281 : decode prog_8_method_40_code 281 = .ok (.invokevirtual (316), 3) := by decide +kernel
theorem d_Z_checkAll_284 : decode prog_8_method_40_code 284 = .ok (.aload_n 0, 1) := by decide +kernel
theorem d_Z_checkAll_285 : decode prog_8_method_40_code 285 = .ok (.aload_n 0, 1) := by decide +kernel
theorem d_Z_checkAll_286 : decode prog_8_method_40_code 286 = .ok (.getfield (54), 3) := by decide +kernel
theorem d_Z_checkAll_289 : decode prog_8_method_40_code 289 = .ok (.iload_n 1, 1) := by decide +kernel
theorem d_Z_checkAll_290 : decode prog_8_method_40_code 290 = .ok (.laload, 1) := by decide +kernel
theorem d_Z_checkAll_291 : decode prog_8_method_40_code 291 = .ok (.lconst 1, 1) := by decide +kernel
theorem d_Z_checkAll_292 : decode prog_8_method_40_code 292 = .ok (.lcmp, 1) := by decide +kernel
theorem d_Z_checkAll_293 : decode prog_8_method_40_code 293 = .ok (.ifCond .lt (16), 3) := by decide +kernel
theorem d_Z_checkAll_296 : decode prog_8_method_40_code 296 = .ok (.aload_n 0, 1) := by decide +kernel
theorem d_Z_checkAll_297 : decode prog_8_method_40_code 297 = .ok (.getfield (54), 3) := by decide +kernel
theorem d_Z_checkAll_300 : decode prog_8_method_40_code 300 = .ok (.iload_n 1, 1) := by decide +kernel
theorem d_Z_checkAll_301 : decode prog_8_method_40_code 301 = .ok (.laload, 1) := by decide +kernel
theorem d_Z_checkAll_302 : decode prog_8_method_40_code 302 = .ok (.ldc2_w (264), 3) := by decide +kernel
theorem d_Z_checkAll_305 : decode prog_8_method_40_code 305 = .ok (.lcmp, 1) := by decide +kernel
theorem d_Z_checkAll_306 : decode prog_8_method_40_code 306 = .ok (.ifCond .le (7), 3) := by decide +kernel
theorem d_Z_checkAll_309 : decode prog_8_method_40_code 309 = .ok (.iconst 1, 1) := by decide +kernel
theorem d_Z_checkAll_310 : decode prog_8_method_40_code 310 = .ok (.goto (4), 3) := by decide +kernel
theorem d_Z_checkAll_313 : decode prog_8_method_40_code 313 = .ok (.iconst 0, 1) := by decide +kernel
theorem d_Z_checkAll_314 : decode prog_8_method_40_code 314 = .ok (.iconst 3, 1) := by decide +kernel
theorem d_Z_checkAll_315 : decode prog_8_method_40_code 315 = .ok (.aload_n 0, 1) := by decide +kernel
theorem d_Z_checkAll_316 : decode prog_8_method_40_code 316 = .ok (.getfield (57), 3) := by decide +kernel
theorem d_Z_checkAll_319 : decode prog_8_method_40_code 319 = .ok (.iload_n 1, 1) := by decide +kernel
theorem d_Z_checkAll_320 : decode prog_8_method_40_code 320 = .ok (.iaload, 1) := by decide +kernel
theorem d_Z_checkAll_321 : decode prog_8_method_40_code 321 = .ok (.invokevirtual (316), 3) := by decide +kernel
theorem d_Z_checkAll_324 : decode prog_8_method_40_code 324 = .ok (.goto (36), 3) := by decide +kernel
theorem d_Z_checkAll_327 : decode prog_8_method_40_code 327 = .ok (.aload_n 0, 1) := by decide +kernel
theorem d_Z_checkAll_328 : decode prog_8_method_40_code 328 = .ok (.getfield (39), 3) := by decide +kernel
theorem d_Z_checkAll_331 : decode prog_8_method_40_code 331 = .ok (.iload_n 1, 1) := by decide +kernel
theorem d_Z_checkAll_332 : decode prog_8_method_40_code 332 = .ok (.iaload, 1) := by decide +kernel
theorem d_Z_checkAll_333 : decode prog_8_method_40_code 333 = .ok (.iconst 1, 1) := by decide +kernel
theorem d_Z_checkAll_334 : decode prog_8_method_40_code 334 = .ok (.if_icmp .ne (11), 3) := by decide +kernel
theorem d_Z_checkAll_337 : decode prog_8_method_40_code 337 = .ok (.aload_n 0, 1) := by decide +kernel
theorem d_Z_checkAll_338 : decode prog_8_method_40_code 338 = .ok (.iload_n 1, 1) := by decide +kernel
theorem d_Z_checkAll_339 : decode prog_8_method_40_code 339 = .ok (.invokevirtual (336), 3) := by decide +kernel
theorem d_Z_checkAll_342 : decode prog_8_method_40_code 342 = .ok (.goto (18), 3) := by decide +kernel
theorem d_Z_checkAll_345 : decode prog_8_method_40_code 345 = .ok (.aload_n 0, 1) := by decide +kernel
theorem d_Z_checkAll_346 : decode prog_8_method_40_code 346 = .ok (.getfield (39), 3) := by decide +kernel
theorem d_Z_checkAll_349 : decode prog_8_method_40_code 349 = .ok (.iload_n 1, 1) := by decide +kernel
theorem d_Z_checkAll_350 : decode prog_8_method_40_code 350 = .ok (.iaload, 1) := by decide +kernel
theorem d_Z_checkAll_351 : decode prog_8_method_40_code 351 = .ok (.iconst 3, 1) := by decide +kernel
theorem d_Z_checkAll_352 : decode prog_8_method_40_code 352 = .ok (.if_icmp .eq (8), 3) := by decide +kernel
theorem d_Z_checkAll_355 : decode prog_8_method_40_code 355 = .ok (.aload_n 0, 1) := by decide +kernel
theorem d_Z_checkAll_356 : decode prog_8_method_40_code 356 = .ok (.iload_n 1, 1) := by decide +kernel
theorem d_Z_checkAll_357 : decode prog_8_method_40_code 357 = .ok (.invokevirtual (350), 3) := by decide +kernel
theorem d_Z_checkAll_360 : decode prog_8_method_40_code 360 = .ok (.iinc 1 (1), 3) := by decide +kernel
theorem d_Z_checkAll_363 : decode prog_8_method_40_code 363 = .ok (.goto (-123), 3) := by decide +kernel
theorem d_Z_checkAll_366 : decode prog_8_method_40_code 366 = .ok (.return_, 1) := by decide +kernel
def lp_Z_checkAll_177 (F : Nat) (x1 : Int32) : Nat → Int32 → ax_σ → Option (ax_σ)
  | 0, _, _ => none
  | n + 1, x2, s =>
    Option.bind (
      if (((2 : Int32) * x1) + (2 : Int32)) ≤ x2 then
        some true
      else
        bif ax_in ((2 : Int32) * x1) 4 then
        if (s.1 0 45 (((2 : Int32) * x1)).toNatClampNeg) < (0 : Int32) then
          some true
        else
          some false
        else none) (fun w42 => bif w42 then
      some s
    else
      bif ax_in x2 4 then
      Option.bind (
        if (lg_cmp (s.2 0 44 (x2).toNatClampNeg) (15 : Int64)) ≤ (0 : Int32) then
          some (0 : Int32)
        else
          some (1 : Int32)) (fun v38 =>
        bif ax_in x2 4 then
        Option.bind (f_Z_consider v38 (3 : Int32) (s.1 0 45 (x2).toNatClampNeg) s) (fun s40 =>
          lp_Z_checkAll_177 F x1 n (x2 + (1 : Int32)) s40)
        else none)
      else none)
set_option maxHeartbeats 4000000 in
set_option maxRecDepth 100000 in
theorem pl_Z_checkAll_177 {D : va_G} {cA : Nat → ClassId} {ad : Nat → Nat → Nat} {al : List (Nat × Nat)} {θ : ax_Θ} {l : Launch} {ρ : ax_ρ} {G : ax_G} {F : Nat} {x1 : Int32} (h0 : ax_M0 al) (hB : ax_B D cA ad al θ l "CipherNotationModel" prog_8_method_40_code 3 5 G) : ∀ (n : Nat) {x2 : Int32} {s : ax_σ} (out : ax_σ), lp_Z_checkAll_177 F x1 n x2 s = some out → (∀ (es : ax_σ), out = es → ax_R G 3 0 0 (232, [(0, .inr (0, 38)), (1, .inl (.int (x1)))], [], ax_m (es) ρ)) → ax_R G 3 0 0 (177, [(0, .inr (0, 38)), (1, .inl (.int (x1))), (2, .inl (.int (x2)))], [], ax_m (s) ρ) := by
  have hK := hB.K
  have hal := hB.la
  intro n
  induction n with
  | zero =>
    intro x2 s out h
    cases h
  | succ n ih =>
    intro x2 s out h KE
    rw [lp_Z_checkAll_177] at h
    refine ax_bk hK (ax_fc (ax_v_ld (ax_r_iload_n (i := 2) d_Z_checkAll_177 rfl)) (ax_fc (ax_v_pu (ax_r_iconst (v := 2) d_Z_checkAll_178 (by decide))) (ax_fc (ax_v_ld (ax_r_iload_n (i := 1) d_Z_checkAll_179 rfl)) (ax_fc (ax_v_pu (ax_r_imul d_Z_checkAll_180)) (ax_fc (ax_v_pu (ax_r_iconst (v := 2) d_Z_checkAll_181 (by decide))) (ax_fc (ax_v_pu (ax_r_iadd d_Z_checkAll_182)) ax_fn)))))) (y := (183, [(0, .inr (0, 38)), (1, .inl (.int (x1))), (2, .inl (.int (x2)))], [.inl (.int ((((2 : Int32) * x1) + (2 : Int32)))), .inl (.int (x2))], ax_m (s) ρ)) rfl ⟨trivial, trivial, trivial, trivial, trivial, trivial, trivial⟩ ?_
    obtain ⟨w42, hw42, h⟩ := ax_bd h
    have KTw42 : w42 = true → ax_R G 3 0 0 (232, [(0, .inr (0, 38)), (1, .inl (.int (x1)))], [], ax_m (s) ρ) := by
      intro e9
      subst w42
      replace h := ax_ct h
      cases h
      exact ax_Lsub [0, 1] rfl (KE _ rfl)
    have KFw42 : w42 = false → ax_R G 3 0 0 (197, [(0, .inr (0, 38)), (1, .inl (.int (x1))), (2, .inl (.int (x2)))], [], ax_m (s) ρ) := by
      intro e9
      subst w42
      replace h := ax_cf h
      obtain ⟨b36, h⟩ := ax_gd h
      refine ax_bk hK (ax_fc (ax_v_ld (ax_r_aload_n (i := 0) d_Z_checkAll_197 rfl)) (ax_fc (ax_v_ld (ax_r_aload_n (i := 0) d_Z_checkAll_198 rfl)) (ax_fc (ax_w_gf (e := none) hal d_Z_checkAll_199 fd_Z_30) (ax_fc (ax_v_ld (ax_r_iload_n (i := 2) d_Z_checkAll_202 rfl)) (ax_fc (ax_w_lald hal d_Z_checkAll_203) (ax_fc (ax_v_ldc2 (v := 15) d_Z_checkAll_204 (nw_6 0 (by decide +kernel) rfl)) (ax_fc (ax_v_pu (ax_r_lcmp d_Z_checkAll_207)) ax_fn))))))) (y := (208, [(0, .inr (0, 38)), (1, .inl (.int (x1))), (2, .inl (.int (x2)))], [.inl (.int ((lg_cmp (s.2 0 44 (x2).toNatClampNeg) (15 : Int64)))), .inr (0, 38)], ax_m (s) ρ)) rfl ⟨trivial, trivial, (h0 38 rfl), trivial, ⟨(h0 44 rfl), ax_inp b36⟩, trivial, trivial, trivial⟩ ?_
      obtain ⟨w43, hw43, h⟩ := ax_bd h
      have KEw43 : ∀ (v38 : Int32), w43 = v38 → ax_R G 3 0 0 (216, [(0, .inr (0, 38)), (1, .inl (.int (x1))), (2, .inl (.int (x2)))], [.inl (.int (v38)), .inr (0, 38)], ax_m (s) ρ) := by
        intro v38 e9
        subst w43
        try dsimp only at h
        obtain ⟨b39, h⟩ := ax_gd h
        refine ax_bk hK (ax_fc (ax_v_pu (ax_r_iconst (v := 3) d_Z_checkAll_216 (by decide))) (ax_fc (ax_v_ld (ax_r_aload_n (i := 0) d_Z_checkAll_217 rfl)) (ax_fc (ax_w_gf (e := none) hal d_Z_checkAll_218 fd_Z_33) (ax_fc (ax_v_ld (ax_r_iload_n (i := 2) d_Z_checkAll_221 rfl)) (ax_fc (ax_w_iald hal d_Z_checkAll_222) ax_fn))))) (y := (223, [(0, .inr (0, 38)), (1, .inl (.int (x1))), (2, .inl (.int (x2)))], [.inl (.int ((s.1 0 45 (x2).toNatClampNeg))), .inl (.int ((3 : Int32))), .inl (.int (v38)), .inr (0, 38)], ax_m (s) ρ)) rfl ⟨trivial, trivial, (h0 38 rfl), trivial, ⟨(h0 45 rfl), ax_inp b39⟩, trivial⟩ ?_
        obtain ⟨s40, q41, h⟩ := ax_bd h
        refine ax_bV (rest := []) hB (t_Z_consider h0 q41) cw_Z_316 im_Z_consider se_Z_consider d_Z_checkAll_223 (h0 38 rfl) rfl rfl (by decide) (by decide) rfl rfl (Nat.le_of_ble_eq_true rfl) ?_
        change ax_R G 3 0 0 (226, [(0, .inr (0, 38)), (1, .inl (.int (x1))), (2, .inl (.int (x2)))], [], ax_m (s40) ρ)
        refine ax_bk hK (ax_fc (ax_v_ii (d := 1) d_Z_checkAll_226 (by decide)) (ax_fc (ax_v_go (tgt := 177) d_Z_checkAll_229 (by decide)) ax_fn)) (y := (177, [(2, .inl (.int ((x2 + (1 : Int32))))), (0, .inr (0, 38)), (1, .inl (.int (x1)))], [], ax_m (s40) ρ)) rfl ⟨trivial, trivial, trivial⟩ ?_
        exact ax_Lsub [1, 2, 0] rfl (ih _ h KE)
      clear h
      have h := hw43
      refine ax_if_le (tgt := 215) hK d_Z_checkAll_208 (by decide) (fun c37 => ?_) (fun c37 => ?_)
      · replace h := ax_it c37 h
        refine ax_bk hK (ax_fc (ax_v_pu (ax_r_iconst (v := 0) d_Z_checkAll_215 (by decide))) ax_fn) (y := (216, [(0, .inr (0, 38)), (1, .inl (.int (x1))), (2, .inl (.int (x2)))], [.inl (.int ((0 : Int32))), .inr (0, 38)], ax_m (s) ρ)) rfl ⟨trivial, trivial⟩ ?_
        cases h
        exact ax_Lsub [0, 1, 2] rfl (KEw43 _ rfl)
      · replace h := ax_if c37 h
        refine ax_bk hK (ax_fc (ax_v_pu (ax_r_iconst (v := 1) d_Z_checkAll_211 (by decide))) (ax_fc (ax_v_go (tgt := 216) d_Z_checkAll_212 (by decide)) ax_fn)) (y := (216, [(0, .inr (0, 38)), (1, .inl (.int (x1))), (2, .inl (.int (x2)))], [.inl (.int ((1 : Int32))), .inr (0, 38)], ax_m (s) ρ)) rfl ⟨trivial, trivial, trivial⟩ ?_
        cases h
        exact ax_Lsub [0, 1, 2] rfl (KEw43 _ rfl)
    clear h
    have h := hw42
    refine ax_ic_ge (tgt := 232) hK d_Z_checkAll_183 (by decide) (fun c35 => ?_) (fun c35 => ?_)
    · replace h := ax_it c35 h
      cases h
      exact ax_Lsub [0, 1] rfl (KTw42 rfl)
    · replace h := ax_if c35 h
      obtain ⟨b33, h⟩ := ax_gd h
      refine ax_bk hK (ax_fc (ax_v_ld (ax_r_aload_n (i := 0) d_Z_checkAll_186 rfl)) (ax_fc (ax_w_gf (e := none) hal d_Z_checkAll_187 fd_Z_33) (ax_fc (ax_v_pu (ax_r_iconst (v := 2) d_Z_checkAll_190 (by decide))) (ax_fc (ax_v_ld (ax_r_iload_n (i := 1) d_Z_checkAll_191 rfl)) (ax_fc (ax_v_pu (ax_r_imul d_Z_checkAll_192)) (ax_fc (ax_w_iald hal d_Z_checkAll_193) ax_fn)))))) (y := (194, [(0, .inr (0, 38)), (1, .inl (.int (x1))), (2, .inl (.int (x2)))], [.inl (.int ((s.1 0 45 (((2 : Int32) * x1)).toNatClampNeg)))], ax_m (s) ρ)) rfl ⟨trivial, (h0 38 rfl), trivial, trivial, trivial, ⟨(h0 45 rfl), ax_inp b33⟩, trivial⟩ ?_
      refine ax_if_lt (tgt := 232) hK d_Z_checkAll_194 (by decide) (fun c34 => ?_) (fun c34 => ?_)
      · replace h := ax_it c34 h
        cases h
        exact ax_Lsub [0, 1] rfl (KTw42 rfl)
      · replace h := ax_if c34 h
        cases h
        exact ax_Lsub [0, 1, 2] rfl (KFw42 rfl)
def lp_Z_checkAll_165 (F : Nat) : Nat → Int32 → ax_σ → Option (ax_σ)
  | 0, _, _ => none
  | n + 1, x1, s =>
    if (s.1 0 38 14) ≤ x1 then
      some s
    else
      Option.bind (lp_Z_checkAll_177 F x1 F ((2 : Int32) * x1) s) (fun s43 =>
        lp_Z_checkAll_165 F n (x1 + (1 : Int32)) s43)
set_option maxHeartbeats 4000000 in
set_option maxRecDepth 100000 in
theorem pl_Z_checkAll_165 {D : va_G} {cA : Nat → ClassId} {ad : Nat → Nat → Nat} {al : List (Nat × Nat)} {θ : ax_Θ} {l : Launch} {ρ : ax_ρ} {G : ax_G} {F : Nat}  (h0 : ax_M0 al) (hB : ax_B D cA ad al θ l "CipherNotationModel" prog_8_method_40_code 3 5 G) : ∀ (n : Nat) {x1 : Int32} {s : ax_σ} (out : ax_σ), lp_Z_checkAll_165 F n x1 s = some out → (∀ (es : ax_σ), out = es → ax_R G 3 0 0 (238, [(0, .inr (0, 38))], [], ax_m (es) ρ)) → ax_R G 3 0 0 (165, [(0, .inr (0, 38)), (1, .inl (.int (x1)))], [], ax_m (s) ρ) := by
  have hK := hB.K
  have hal := hB.la
  intro n
  induction n with
  | zero =>
    intro x1 s out h
    cases h
  | succ n ih =>
    intro x1 s out h KE
    rw [lp_Z_checkAll_165] at h
    refine ax_bk hK (ax_fc (ax_v_ld (ax_r_iload_n (i := 1) d_Z_checkAll_165 rfl)) (ax_fc (ax_v_ld (ax_r_aload_n (i := 0) d_Z_checkAll_166 rfl)) (ax_fc (ax_w_gf (e := none) hal d_Z_checkAll_167 fd_Z_177) ax_fn))) (y := (170, [(0, .inr (0, 38)), (1, .inl (.int (x1)))], [.inl (.int ((s.1 0 38 14))), .inl (.int (x1))], ax_m (s) ρ)) rfl ⟨trivial, trivial, (h0 38 rfl), trivial⟩ ?_
    refine ax_ic_ge (tgt := 238) hK d_Z_checkAll_170 (by decide) (fun c44 => ?_) (fun c44 => ?_)
    · replace h := ax_it c44 h
      cases h
      exact ax_Lsub [0] rfl (KE _ rfl)
    · replace h := ax_if c44 h
      refine ax_bk hK (ax_fc (ax_v_pu (ax_r_iconst (v := 2) d_Z_checkAll_173 (by decide))) (ax_fc (ax_v_ld (ax_r_iload_n (i := 1) d_Z_checkAll_174 rfl)) (ax_fc (ax_v_pu (ax_r_imul d_Z_checkAll_175)) (ax_fc (ax_v_so (ax_r_istore_n (i := 2) d_Z_checkAll_176 rfl)) ax_fn)))) (y := (177, [(2, .inl (.int (((2 : Int32) * x1)))), (0, .inr (0, 38)), (1, .inl (.int (x1)))], [], ax_m (s) ρ)) rfl ⟨trivial, trivial, trivial, trivial, trivial⟩ ?_
      obtain ⟨w45, hw45, h⟩ := ax_bd h
      refine ax_Lsub [1, 2, 0] rfl (pl_Z_checkAll_177 h0 hB F _ hw45 ?_)
      intro s43 e9
      subst w45
      try dsimp only at h
      change ax_R G 3 0 0 (232, [(0, .inr (0, 38)), (1, .inl (.int (x1)))], [], ax_m (s43) ρ)
      refine ax_bk hK (ax_fc (ax_v_ii (d := 1) d_Z_checkAll_232 (by decide)) (ax_fc (ax_v_go (tgt := 165) d_Z_checkAll_235 (by decide)) ax_fn)) (y := (165, [(1, .inl (.int ((x1 + (1 : Int32))))), (0, .inr (0, 38))], [], ax_m (s43) ρ)) rfl ⟨trivial, trivial, trivial⟩ ?_
      exact ax_Lsub [1, 0] rfl (ih _ h KE)
set_option maxRecDepth 100000 in
theorem cw_Z_350 : ax_cw "CipherNotationModel" 350 y_Z_checkStep (.code y_Z_checkStep prog_8_method_39_code 3 none) 1 := ⟨nw_6 34 (by decide +kernel) rfl, nw_1 7 (by decide +kernel) rfl, nw_6 37 rfl rfl, by decide +kernel, by decide +kernel⟩
theorem im_Z_checkStep : Cond.instanceMethod y_Z_checkStep ∈ ax_tbl := nw_6 36 (by decide +kernel) rfl
theorem se_Z_checkStep : Cond.selects y_Z_checkStep.cls y_Z_checkStep y_Z_checkStep ∈ ax_tbl := nw_sel 73 (by decide +kernel) (by decide +kernel)
def lp_Z_checkAll_240 (F : Nat) : Nat → Int32 → ax_σ → Option (ax_σ)
  | 0, _, _ => none
  | n + 1, x1, s =>
    if (s.1 0 38 22) ≤ x1 then
      some s
    else
      bif ax_in x1 240 then
      if (s.1 0 47 (x1).toNatClampNeg) = (2 : Int32) then
        bif ax_in x1 240 then
        Option.bind (f_Z_around F x1 s) (fun (r56, s57) =>
          Option.bind (f_Z_isOpen F (s.1 0 49 (x1).toNatClampNeg) r56 s57) (fun r59 =>
            bif ax_in x1 240 then
            Option.bind (f_Z_consider r59 (4 : Int32) (s57.1 0 48 (x1).toNatClampNeg) s57) (fun s62 =>
              bif ax_in x1 240 then
              Option.bind (
                Option.bind (
                  if (lg_cmp (s62.2 0 52 (x1).toNatClampNeg) (1 : Int64)) < (0 : Int32) then
                    some true
                  else
                    bif ax_in x1 240 then
                    if (lg_cmp (s62.2 0 52 (x1).toNatClampNeg) (16 : Int64)) ≤ (0 : Int32) then
                      some false
                    else
                      some true
                    else none) (fun w68 => bif w68 then
                  some (1 : Int32)
                else
                  some (0 : Int32))) (fun v69 =>
                bif ax_in x1 240 then
                Option.bind (f_Z_consider v69 (3 : Int32) (s62.1 0 53 (x1).toNatClampNeg) s62) (fun s71 =>
                  lp_Z_checkAll_240 F n (x1 + (1 : Int32)) s71)
                else none)
              else none)
            else none))
        else none
      else
        bif ax_in x1 240 then
        if (s.1 0 47 (x1).toNatClampNeg) = (1 : Int32) then
          Option.bind (f_Z_checkExpression F x1 s) (fun s52 =>
            lp_Z_checkAll_240 F n (x1 + (1 : Int32)) s52)
        else
          bif ax_in x1 240 then
          if (s.1 0 47 (x1).toNatClampNeg) = (3 : Int32) then
            lp_Z_checkAll_240 F n (x1 + (1 : Int32)) s
          else
            Option.bind (f_Z_checkStep F x1 s) (fun s49 =>
              lp_Z_checkAll_240 F n (x1 + (1 : Int32)) s49)
          else none
        else none
      else none
set_option maxHeartbeats 4000000 in
set_option maxRecDepth 100000 in
theorem pl_Z_checkAll_240 {D : va_G} {cA : Nat → ClassId} {ad : Nat → Nat → Nat} {al : List (Nat × Nat)} {θ : ax_Θ} {l : Launch} {ρ : ax_ρ} {G : ax_G} {F : Nat}  (h0 : ax_M0 al) (hB : ax_B D cA ad al θ l "CipherNotationModel" prog_8_method_40_code 3 5 G) : ∀ (n : Nat) {x1 : Int32} {s : ax_σ} (out : ax_σ), lp_Z_checkAll_240 F n x1 s = some out → (∀ (es : ax_σ), out = es → ax_R G 3 0 0 (366, [], [], ax_m (es) ρ)) → ax_R G 3 0 0 (240, [(0, .inr (0, 38)), (1, .inl (.int (x1)))], [], ax_m (s) ρ) := by
  have hK := hB.K
  have hal := hB.la
  intro n
  induction n with
  | zero =>
    intro x1 s out h
    cases h
  | succ n ih =>
    intro x1 s out h KE
    rw [lp_Z_checkAll_240] at h
    refine ax_bk hK (ax_fc (ax_v_ld (ax_r_iload_n (i := 1) d_Z_checkAll_240 rfl)) (ax_fc (ax_v_ld (ax_r_aload_n (i := 0) d_Z_checkAll_241 rfl)) (ax_fc (ax_w_gf (e := none) hal d_Z_checkAll_242 fd_Z_186) ax_fn))) (y := (245, [(0, .inr (0, 38)), (1, .inl (.int (x1)))], [.inl (.int ((s.1 0 38 22))), .inl (.int (x1))], ax_m (s) ρ)) rfl ⟨trivial, trivial, (h0 38 rfl), trivial⟩ ?_
    refine ax_ic_ge (tgt := 366) hK d_Z_checkAll_245 (by decide) (fun c74 => ?_) (fun c74 => ?_)
    · replace h := ax_it c74 h
      cases h
      exact ax_Lsub [] rfl (KE _ rfl)
    · replace h := ax_if c74 h
      obtain ⟨b46, h⟩ := ax_gd h
      refine ax_bk hK (ax_fc (ax_v_ld (ax_r_aload_n (i := 0) d_Z_checkAll_248 rfl)) (ax_fc (ax_w_gf (e := none) hal d_Z_checkAll_249 fd_Z_39) (ax_fc (ax_v_ld (ax_r_iload_n (i := 1) d_Z_checkAll_252 rfl)) (ax_fc (ax_w_iald hal d_Z_checkAll_253) (ax_fc (ax_v_pu (ax_r_iconst (v := 2) d_Z_checkAll_254 (by decide))) ax_fn))))) (y := (255, [(0, .inr (0, 38)), (1, .inl (.int (x1)))], [.inl (.int ((2 : Int32))), .inl (.int ((s.1 0 47 (x1).toNatClampNeg)))], ax_m (s) ρ)) rfl ⟨trivial, (h0 38 rfl), trivial, ⟨(h0 47 rfl), ax_inp b46⟩, trivial, trivial⟩ ?_
      refine ax_ic_ne (tgt := 327) hK d_Z_checkAll_255 (by decide) (fun c73 => ?_) (fun c73 => ?_)
      · replace h := ax_if c73 h
        obtain ⟨b47, h⟩ := ax_gd h
        refine ax_bk hK (ax_fc (ax_v_ld (ax_r_aload_n (i := 0) d_Z_checkAll_327 rfl)) (ax_fc (ax_w_gf (e := none) hal d_Z_checkAll_328 fd_Z_39) (ax_fc (ax_v_ld (ax_r_iload_n (i := 1) d_Z_checkAll_331 rfl)) (ax_fc (ax_w_iald hal d_Z_checkAll_332) (ax_fc (ax_v_pu (ax_r_iconst (v := 1) d_Z_checkAll_333 (by decide))) ax_fn))))) (y := (334, [(0, .inr (0, 38)), (1, .inl (.int (x1)))], [.inl (.int ((1 : Int32))), .inl (.int ((s.1 0 47 (x1).toNatClampNeg)))], ax_m (s) ρ)) rfl ⟨trivial, (h0 38 rfl), trivial, ⟨(h0 47 rfl), ax_inp b47⟩, trivial, trivial⟩ ?_
        refine ax_ic_ne (tgt := 345) hK d_Z_checkAll_334 (by decide) (fun c54 => ?_) (fun c54 => ?_)
        · replace h := ax_if c54 h
          obtain ⟨b48, h⟩ := ax_gd h
          refine ax_bk hK (ax_fc (ax_v_ld (ax_r_aload_n (i := 0) d_Z_checkAll_345 rfl)) (ax_fc (ax_w_gf (e := none) hal d_Z_checkAll_346 fd_Z_39) (ax_fc (ax_v_ld (ax_r_iload_n (i := 1) d_Z_checkAll_349 rfl)) (ax_fc (ax_w_iald hal d_Z_checkAll_350) (ax_fc (ax_v_pu (ax_r_iconst (v := 3) d_Z_checkAll_351 (by decide))) ax_fn))))) (y := (352, [(0, .inr (0, 38)), (1, .inl (.int (x1)))], [.inl (.int ((3 : Int32))), .inl (.int ((s.1 0 47 (x1).toNatClampNeg)))], ax_m (s) ρ)) rfl ⟨trivial, (h0 38 rfl), trivial, ⟨(h0 47 rfl), ax_inp b48⟩, trivial, trivial⟩ ?_
          refine ax_ic_eq (tgt := 360) hK d_Z_checkAll_352 (by decide) (fun c51 => ?_) (fun c51 => ?_)
          · replace h := ax_it c51 h
            refine ax_bk hK (ax_fc (ax_v_ii (d := 1) d_Z_checkAll_360 (by decide)) (ax_fc (ax_v_go (tgt := 240) d_Z_checkAll_363 (by decide)) ax_fn)) (y := (240, [(1, .inl (.int ((x1 + (1 : Int32))))), (0, .inr (0, 38))], [], ax_m (s) ρ)) rfl ⟨trivial, trivial, trivial⟩ ?_
            exact ax_Lsub [1, 0] rfl (ih _ h KE)
          · replace h := ax_if c51 h
            refine ax_bk hK (ax_fc (ax_v_ld (ax_r_aload_n (i := 0) d_Z_checkAll_355 rfl)) (ax_fc (ax_v_ld (ax_r_iload_n (i := 1) d_Z_checkAll_356 rfl)) ax_fn)) (y := (357, [(0, .inr (0, 38)), (1, .inl (.int (x1)))], [.inl (.int (x1)), .inr (0, 38)], ax_m (s) ρ)) rfl ⟨trivial, trivial, trivial⟩ ?_
            obtain ⟨s49, q50, h⟩ := ax_bd h
            refine ax_bV (rest := []) hB (t_Z_checkStep h0 q50) cw_Z_350 im_Z_checkStep se_Z_checkStep d_Z_checkAll_357 (h0 38 rfl) rfl rfl (by decide) (by decide) rfl rfl (Nat.le_of_ble_eq_true rfl) ?_
            change ax_R G 3 0 0 (360, [(0, .inr (0, 38)), (1, .inl (.int (x1)))], [], ax_m (s49) ρ)
            refine ax_bk hK (ax_fc (ax_v_ii (d := 1) d_Z_checkAll_360 (by decide)) (ax_fc (ax_v_go (tgt := 240) d_Z_checkAll_363 (by decide)) ax_fn)) (y := (240, [(1, .inl (.int ((x1 + (1 : Int32))))), (0, .inr (0, 38))], [], ax_m (s49) ρ)) rfl ⟨trivial, trivial, trivial⟩ ?_
            exact ax_Lsub [1, 0] rfl (ih _ h KE)
        · replace h := ax_it c54 h
          refine ax_bk hK (ax_fc (ax_v_ld (ax_r_aload_n (i := 0) d_Z_checkAll_337 rfl)) (ax_fc (ax_v_ld (ax_r_iload_n (i := 1) d_Z_checkAll_338 rfl)) ax_fn)) (y := (339, [(0, .inr (0, 38)), (1, .inl (.int (x1)))], [.inl (.int (x1)), .inr (0, 38)], ax_m (s) ρ)) rfl ⟨trivial, trivial, trivial⟩ ?_
          obtain ⟨s52, q53, h⟩ := ax_bd h
          refine ax_bV (rest := []) hB (t_Z_checkExpression h0 q53) cw_Z_336 im_Z_checkExpression se_Z_checkExpression d_Z_checkAll_339 (h0 38 rfl) rfl rfl (by decide) (by decide) rfl rfl (Nat.le_of_ble_eq_true rfl) ?_
          change ax_R G 3 0 0 (342, [(0, .inr (0, 38)), (1, .inl (.int (x1)))], [], ax_m (s52) ρ)
          refine ax_bk hK (ax_fc (ax_v_go (tgt := 360) d_Z_checkAll_342 (by decide)) ax_fn) (y := (360, [(0, .inr (0, 38)), (1, .inl (.int (x1)))], [], ax_m (s52) ρ)) rfl ⟨trivial, trivial⟩ ?_
          refine ax_bk hK (ax_fc (ax_v_ii (d := 1) d_Z_checkAll_360 (by decide)) (ax_fc (ax_v_go (tgt := 240) d_Z_checkAll_363 (by decide)) ax_fn)) (y := (240, [(1, .inl (.int ((x1 + (1 : Int32))))), (0, .inr (0, 38))], [], ax_m (s52) ρ)) rfl ⟨trivial, trivial, trivial⟩ ?_
          exact ax_Lsub [1, 0] rfl (ih _ h KE)
      · replace h := ax_it c73 h
        obtain ⟨b55, h⟩ := ax_gd h
        refine ax_bk hK (ax_fc (ax_v_ld (ax_r_aload_n (i := 0) d_Z_checkAll_258 rfl)) (ax_fc (ax_v_ld (ax_r_aload_n (i := 0) d_Z_checkAll_259 rfl)) (ax_fc (ax_v_ld (ax_r_aload_n (i := 0) d_Z_checkAll_260 rfl)) (ax_fc (ax_w_gf (e := none) hal d_Z_checkAll_261 fd_Z_45) (ax_fc (ax_v_ld (ax_r_iload_n (i := 1) d_Z_checkAll_264 rfl)) (ax_fc (ax_w_iald hal d_Z_checkAll_265) (ax_fc (ax_v_ld (ax_r_aload_n (i := 0) d_Z_checkAll_266 rfl)) (ax_fc (ax_v_ld (ax_r_iload_n (i := 1) d_Z_checkAll_267 rfl)) ax_fn)))))))) (y := (268, [(0, .inr (0, 38)), (1, .inl (.int (x1)))], [.inl (.int (x1)), .inr (0, 38), .inl (.int ((s.1 0 49 (x1).toNatClampNeg))), .inr (0, 38), .inr (0, 38)], ax_m (s) ρ)) rfl ⟨trivial, trivial, trivial, (h0 38 rfl), trivial, ⟨(h0 49 rfl), ax_inp b55⟩, trivial, trivial, trivial⟩ ?_
        obtain ⟨⟨r56, s57⟩, q58, h⟩ := ax_bd h
        dsimp only at h
        refine ax_bV (rest := [.inl (.int ((s.1 0 49 (x1).toNatClampNeg))), .inr (0, 38), .inr (0, 38)]) hB (t_Z_around h0 q58) cw_Z_313 im_Z_around se_Z_around d_Z_checkAll_268 (h0 38 rfl) rfl rfl (by decide) (by decide) rfl rfl (Nat.le_of_ble_eq_true rfl) ?_
        change ax_R G 3 0 0 (271, [(0, .inr (0, 38)), (1, .inl (.int (x1)))], [.inl (.int (r56)), .inl (.int ((s.1 0 49 (x1).toNatClampNeg))), .inr (0, 38), .inr (0, 38)], ax_m (s57) ρ)
        obtain ⟨r59, q60, h⟩ := ax_bd h
        refine ax_bV (rest := [.inr (0, 38)]) hB (t_Z_isOpen h0 q60) cw_Z_324 im_Z_isOpen se_Z_isOpen d_Z_checkAll_271 (h0 38 rfl) rfl rfl (by decide) (by decide) rfl rfl (Nat.le_of_ble_eq_true rfl) ?_
        change ax_R G 3 0 0 (274, [(0, .inr (0, 38)), (1, .inl (.int (x1)))], [.inl (.int (r59)), .inr (0, 38)], ax_m (s57) ρ)
        obtain ⟨b61, h⟩ := ax_gd h
        refine ax_bk hK (ax_fc (ax_v_pu (ax_r_iconst (v := 4) d_Z_checkAll_274 (by decide))) (ax_fc (ax_v_ld (ax_r_aload_n (i := 0) d_Z_checkAll_275 rfl)) (ax_fc (ax_w_gf (e := none) hal d_Z_checkAll_276 fd_Z_42) (ax_fc (ax_v_ld (ax_r_iload_n (i := 1) d_Z_checkAll_279 rfl)) (ax_fc (ax_w_iald hal d_Z_checkAll_280) ax_fn))))) (y := (281, [(0, .inr (0, 38)), (1, .inl (.int (x1)))], [.inl (.int ((s57.1 0 48 (x1).toNatClampNeg))), .inl (.int ((4 : Int32))), .inl (.int (r59)), .inr (0, 38)], ax_m (s57) ρ)) rfl ⟨trivial, trivial, (h0 38 rfl), trivial, ⟨(h0 48 rfl), ax_inp b61⟩, trivial⟩ ?_
        obtain ⟨s62, q63, h⟩ := ax_bd h
        refine ax_bV (rest := []) hB (t_Z_consider h0 q63) cw_Z_316 im_Z_consider se_Z_consider d_Z_checkAll_281 (h0 38 rfl) rfl rfl (by decide) (by decide) rfl rfl (Nat.le_of_ble_eq_true rfl) ?_
        change ax_R G 3 0 0 (284, [(0, .inr (0, 38)), (1, .inl (.int (x1)))], [], ax_m (s62) ρ)
        obtain ⟨b64, h⟩ := ax_gd h
        refine ax_bk hK (ax_fc (ax_v_ld (ax_r_aload_n (i := 0) d_Z_checkAll_284 rfl)) (ax_fc (ax_v_ld (ax_r_aload_n (i := 0) d_Z_checkAll_285 rfl)) (ax_fc (ax_w_gf (e := none) hal d_Z_checkAll_286 fd_Z_54) (ax_fc (ax_v_ld (ax_r_iload_n (i := 1) d_Z_checkAll_289 rfl)) (ax_fc (ax_w_lald hal d_Z_checkAll_290) (ax_fc (ax_v_pu (ax_r_lconst (v := 1) d_Z_checkAll_291 (by decide))) (ax_fc (ax_v_pu (ax_r_lcmp d_Z_checkAll_292)) ax_fn))))))) (y := (293, [(0, .inr (0, 38)), (1, .inl (.int (x1)))], [.inl (.int ((lg_cmp (s62.2 0 52 (x1).toNatClampNeg) (1 : Int64)))), .inr (0, 38)], ax_m (s62) ρ)) rfl ⟨trivial, trivial, (h0 38 rfl), trivial, ⟨(h0 52 rfl), ax_inp b64⟩, trivial, trivial, trivial⟩ ?_
        obtain ⟨w75, hw75, h⟩ := ax_bd h
        have KEw75 : ∀ (v69 : Int32), w75 = v69 → ax_R G 3 0 0 (314, [(0, .inr (0, 38)), (1, .inl (.int (x1)))], [.inl (.int (v69)), .inr (0, 38)], ax_m (s62) ρ) := by
          intro v69 e9
          subst w75
          try dsimp only at h
          obtain ⟨b70, h⟩ := ax_gd h
          refine ax_bk hK (ax_fc (ax_v_pu (ax_r_iconst (v := 3) d_Z_checkAll_314 (by decide))) (ax_fc (ax_v_ld (ax_r_aload_n (i := 0) d_Z_checkAll_315 rfl)) (ax_fc (ax_w_gf (e := none) hal d_Z_checkAll_316 fd_Z_57) (ax_fc (ax_v_ld (ax_r_iload_n (i := 1) d_Z_checkAll_319 rfl)) (ax_fc (ax_w_iald hal d_Z_checkAll_320) ax_fn))))) (y := (321, [(0, .inr (0, 38)), (1, .inl (.int (x1)))], [.inl (.int ((s62.1 0 53 (x1).toNatClampNeg))), .inl (.int ((3 : Int32))), .inl (.int (v69)), .inr (0, 38)], ax_m (s62) ρ)) rfl ⟨trivial, trivial, (h0 38 rfl), trivial, ⟨(h0 53 rfl), ax_inp b70⟩, trivial⟩ ?_
          obtain ⟨s71, q72, h⟩ := ax_bd h
          refine ax_bV (rest := []) hB (t_Z_consider h0 q72) cw_Z_316 im_Z_consider se_Z_consider d_Z_checkAll_321 (h0 38 rfl) rfl rfl (by decide) (by decide) rfl rfl (Nat.le_of_ble_eq_true rfl) ?_
          change ax_R G 3 0 0 (324, [(0, .inr (0, 38)), (1, .inl (.int (x1)))], [], ax_m (s71) ρ)
          refine ax_bk hK (ax_fc (ax_v_go (tgt := 360) d_Z_checkAll_324 (by decide)) ax_fn) (y := (360, [(0, .inr (0, 38)), (1, .inl (.int (x1)))], [], ax_m (s71) ρ)) rfl ⟨trivial, trivial⟩ ?_
          refine ax_bk hK (ax_fc (ax_v_ii (d := 1) d_Z_checkAll_360 (by decide)) (ax_fc (ax_v_go (tgt := 240) d_Z_checkAll_363 (by decide)) ax_fn)) (y := (240, [(1, .inl (.int ((x1 + (1 : Int32))))), (0, .inr (0, 38))], [], ax_m (s71) ρ)) rfl ⟨trivial, trivial, trivial⟩ ?_
          exact ax_Lsub [1, 0] rfl (ih _ h KE)
        clear h
        have h := hw75
        obtain ⟨w68, hw68, h⟩ := ax_bd h
        have KTw68 : w68 = true → ax_R G 3 0 0 (309, [(0, .inr (0, 38)), (1, .inl (.int (x1)))], [.inr (0, 38)], ax_m (s62) ρ) := by
          intro e9
          subst w68
          replace h := ax_ct h
          refine ax_bk hK (ax_fc (ax_v_pu (ax_r_iconst (v := 1) d_Z_checkAll_309 (by decide))) (ax_fc (ax_v_go (tgt := 314) d_Z_checkAll_310 (by decide)) ax_fn)) (y := (314, [(0, .inr (0, 38)), (1, .inl (.int (x1)))], [.inl (.int ((1 : Int32))), .inr (0, 38)], ax_m (s62) ρ)) rfl ⟨trivial, trivial, trivial⟩ ?_
          cases h
          exact ax_Lsub [0, 1] rfl (KEw75 _ rfl)
        have KFw68 : w68 = false → ax_R G 3 0 0 (313, [(0, .inr (0, 38)), (1, .inl (.int (x1)))], [.inr (0, 38)], ax_m (s62) ρ) := by
          intro e9
          subst w68
          replace h := ax_cf h
          refine ax_bk hK (ax_fc (ax_v_pu (ax_r_iconst (v := 0) d_Z_checkAll_313 (by decide))) ax_fn) (y := (314, [(0, .inr (0, 38)), (1, .inl (.int (x1)))], [.inl (.int ((0 : Int32))), .inr (0, 38)], ax_m (s62) ρ)) rfl ⟨trivial, trivial⟩ ?_
          cases h
          exact ax_Lsub [0, 1] rfl (KEw75 _ rfl)
        clear h
        have h := hw68
        refine ax_if_lt (tgt := 309) hK d_Z_checkAll_293 (by decide) (fun c67 => ?_) (fun c67 => ?_)
        · replace h := ax_it c67 h
          cases h
          exact ax_Lsub [0, 1] rfl (KTw68 rfl)
        · replace h := ax_if c67 h
          obtain ⟨b65, h⟩ := ax_gd h
          refine ax_bk hK (ax_fc (ax_v_ld (ax_r_aload_n (i := 0) d_Z_checkAll_296 rfl)) (ax_fc (ax_w_gf (e := none) hal d_Z_checkAll_297 fd_Z_54) (ax_fc (ax_v_ld (ax_r_iload_n (i := 1) d_Z_checkAll_300 rfl)) (ax_fc (ax_w_lald hal d_Z_checkAll_301) (ax_fc (ax_v_ldc2 (v := 16) d_Z_checkAll_302 (nw_5 192 (by decide +kernel) rfl)) (ax_fc (ax_v_pu (ax_r_lcmp d_Z_checkAll_305)) ax_fn)))))) (y := (306, [(0, .inr (0, 38)), (1, .inl (.int (x1)))], [.inl (.int ((lg_cmp (s62.2 0 52 (x1).toNatClampNeg) (16 : Int64)))), .inr (0, 38)], ax_m (s62) ρ)) rfl ⟨trivial, (h0 38 rfl), trivial, ⟨(h0 52 rfl), ax_inp b65⟩, trivial, trivial, trivial⟩ ?_
          refine ax_if_le (tgt := 313) hK d_Z_checkAll_306 (by decide) (fun c66 => ?_) (fun c66 => ?_)
          · replace h := ax_it c66 h
            cases h
            exact ax_Lsub [0, 1] rfl (KFw68 rfl)
          · replace h := ax_if c66 h
            cases h
            exact ax_Lsub [0, 1] rfl (KTw68 rfl)
def f_Z_checkAll (F : Nat) (s : ax_σ) : Option (ax_σ) :=
  ax_let (ax_wI s 0 38 53 (0 : Int32)) (fun s1 =>
    bif ax_in (0 : Int32) 3 then
    Option.bind (
      Option.bind (
        if (lg_cmp (s1.2 0 41 ((0 : Int32)).toNatClampNeg) (8 : Int64)) = (0 : Int32) then
          some true
        else
          bif ax_in (0 : Int32) 3 then
          if (lg_cmp (s1.2 0 41 ((0 : Int32)).toNatClampNeg) (16 : Int64)) = (0 : Int32) then
            some true
          else
            bif ax_in (0 : Int32) 3 then
            if (lg_cmp (s1.2 0 41 ((0 : Int32)).toNatClampNeg) (32 : Int64)) = (0 : Int32) then
              some true
            else
              bif ax_in (0 : Int32) 3 then
              if (lg_cmp (s1.2 0 41 ((0 : Int32)).toNatClampNeg) (64 : Int64)) = (0 : Int32) then
                some true
              else
                some false
              else none
            else none
          else none) (fun w10 => bif w10 then
        some (0 : Int32)
      else
        some (1 : Int32))) (fun v11 =>
      bif ax_in (0 : Int32) 3 then
      Option.bind (f_Z_consider v11 (2 : Int32) (s1.1 0 42 ((0 : Int32)).toNatClampNeg) s1) (fun s13 =>
        bif ax_in (1 : Int32) 3 then
        Option.bind (
          Option.bind (
            if (lg_cmp (s13.2 0 41 ((1 : Int32)).toNatClampNeg) (2 : Int64)) < (0 : Int32) then
              some true
            else
              bif ax_in (1 : Int32) 3 then
              if (lg_cmp (s13.2 0 41 ((1 : Int32)).toNatClampNeg) (4 : Int64)) ≤ (0 : Int32) then
                some false
              else
                some true
              else none) (fun w19 => bif w19 then
            some (1 : Int32)
          else
            some (0 : Int32))) (fun v20 =>
          bif ax_in (1 : Int32) 3 then
          Option.bind (f_Z_consider v20 (2 : Int32) (s13.1 0 42 ((1 : Int32)).toNatClampNeg) s13) (fun s22 =>
            bif ax_in (2 : Int32) 3 then
            Option.bind (
              Option.bind (
                if (lg_cmp (s22.2 0 41 ((2 : Int32)).toNatClampNeg) (1 : Int64)) < (0 : Int32) then
                  some true
                else
                  bif ax_in (2 : Int32) 3 then
                  if (lg_cmp (s22.2 0 41 ((2 : Int32)).toNatClampNeg) (4 : Int64)) ≤ (0 : Int32) then
                    some false
                  else
                    some true
                  else none) (fun w28 => bif w28 then
                some (1 : Int32)
              else
                some (0 : Int32))) (fun v29 =>
              bif ax_in (2 : Int32) 3 then
              Option.bind (f_Z_consider v29 (2 : Int32) (s22.1 0 42 ((2 : Int32)).toNatClampNeg) s22) (fun s31 =>
                if (s31.1 0 38 53) = (0 : Int32) then
                  Option.bind (lp_Z_checkAll_165 F F (0 : Int32) s31) (fun s45 =>
                    Option.bind (lp_Z_checkAll_240 F F (0 : Int32) s45) (fun s75 =>
                      some (s75)))
                else
                  some (s31))
              else none)
            else none)
          else none)
        else none)
      else none)
    else none)
set_option maxHeartbeats 4000000 in
set_option maxRecDepth 100000 in
theorem t_Z_checkAll {l : Launch} {D : va_G} {cA : Nat → ClassId} {ad : Nat → Nat → Nat} {al : List (Nat × Nat)} {θ : ax_Θ} {ρ : ax_ρ} {F : Nat} (h0 : ax_M0 al)  {s : ax_σ} {s0 : ax_σ} (h : f_Z_checkAll F s = some s0) : ax_T l D cA ad al θ y_Z_checkAll (.code y_Z_checkAll prog_8_method_40_code 3 none) 5 [.inr (0, 38)] (ax_m s ρ) none (ax_m s0 ρ) := by
  refine ax_T_of (own := "CipherNotationModel") (by decide) rfl (Nat.le_of_ble_eq_true rfl) [(0, .inr (0, 38))] rfl ?_
  intro G hA
  have hB := hA.B
  have hK := hB.K
  have hal := hB.la
  unfold f_Z_checkAll at h
  refine ax_bk hK (ax_fc (ax_v_ld (ax_r_aload_n (i := 0) d_Z_checkAll_0 rfl)) (ax_fc (ax_v_pu (ax_r_iconst (v := 0) d_Z_checkAll_1 (by decide))) (ax_fc (ax_w_pf (tc := 0) hal d_Z_checkAll_2 fp_Z_293 rfl) ax_fn))) (y := (5, [(0, .inr (0, 38))], [], ax_m (ax_wI s 0 38 53 (0 : Int32)) ρ)) rfl ⟨trivial, trivial, (h0 38 rfl), trivial⟩ ?_
  refine ax_lt (Q := fun ςς => ax_R G 3 0 0 (5, [(0, .inr (0, 38))], [], ax_m (ςς) ρ)) h (fun s1 h => ?_)
  obtain ⟨b2, h⟩ := ax_gd h
  refine ax_bk hK (ax_fc (ax_v_ld (ax_r_aload_n (i := 0) d_Z_checkAll_5 rfl)) (ax_fc (ax_v_ld (ax_r_aload_n (i := 0) d_Z_checkAll_6 rfl)) (ax_fc (ax_w_gf (e := none) hal d_Z_checkAll_7 fd_Z_20) (ax_fc (ax_v_pu (ax_r_iconst (v := 0) d_Z_checkAll_10 (by decide))) (ax_fc (ax_w_lald hal d_Z_checkAll_11) (ax_fc (ax_v_ldc2 (v := 8) d_Z_checkAll_12 (nw_5 231 (by decide +kernel) rfl)) (ax_fc (ax_v_pu (ax_r_lcmp d_Z_checkAll_15)) ax_fn))))))) (y := (16, [(0, .inr (0, 38))], [.inl (.int ((lg_cmp (s1.2 0 41 ((0 : Int32)).toNatClampNeg) (8 : Int64)))), .inr (0, 38)], ax_m (s1) ρ)) rfl ⟨trivial, trivial, (h0 38 rfl), trivial, ⟨(h0 41 rfl), ax_inp b2⟩, trivial, trivial, trivial⟩ ?_
  obtain ⟨w77, hw77, h⟩ := ax_bd h
  have KEw77 : ∀ (v11 : Int32), w77 = v11 → ax_R G 3 0 0 (63, [(0, .inr (0, 38))], [.inl (.int (v11)), .inr (0, 38)], ax_m (s1) ρ) := by
    intro v11 e9
    subst w77
    try dsimp only at h
    obtain ⟨b12, h⟩ := ax_gd h
    refine ax_bk hK (ax_fc (ax_v_pu (ax_r_iconst (v := 2) d_Z_checkAll_63 (by decide))) (ax_fc (ax_v_ld (ax_r_aload_n (i := 0) d_Z_checkAll_64 rfl)) (ax_fc (ax_w_gf (e := none) hal d_Z_checkAll_65 fd_Z_24) (ax_fc (ax_v_pu (ax_r_iconst (v := 0) d_Z_checkAll_68 (by decide))) (ax_fc (ax_w_iald hal d_Z_checkAll_69) ax_fn))))) (y := (70, [(0, .inr (0, 38))], [.inl (.int ((s1.1 0 42 ((0 : Int32)).toNatClampNeg))), .inl (.int ((2 : Int32))), .inl (.int (v11)), .inr (0, 38)], ax_m (s1) ρ)) rfl ⟨trivial, trivial, (h0 38 rfl), trivial, ⟨(h0 42 rfl), ax_inp b12⟩, trivial⟩ ?_
    obtain ⟨s13, q14, h⟩ := ax_bd h
    refine ax_bV (rest := []) hB (t_Z_consider h0 q14) cw_Z_316 im_Z_consider se_Z_consider d_Z_checkAll_70 (h0 38 rfl) rfl rfl (by decide) (by decide) rfl rfl (Nat.le_of_ble_eq_true rfl) ?_
    change ax_R G 3 0 0 (73, [(0, .inr (0, 38))], [], ax_m (s13) ρ)
    obtain ⟨b15, h⟩ := ax_gd h
    refine ax_bk hK (ax_fc (ax_v_ld (ax_r_aload_n (i := 0) d_Z_checkAll_73 rfl)) (ax_fc (ax_v_ld (ax_r_aload_n (i := 0) d_Z_checkAll_74 rfl)) (ax_fc (ax_w_gf (e := none) hal d_Z_checkAll_75 fd_Z_20) (ax_fc (ax_v_pu (ax_r_iconst (v := 1) d_Z_checkAll_78 (by decide))) (ax_fc (ax_w_lald hal d_Z_checkAll_79) (ax_fc (ax_v_ldc2 (v := 2) d_Z_checkAll_80 (nw_5 238 (by decide +kernel) rfl)) (ax_fc (ax_v_pu (ax_r_lcmp d_Z_checkAll_83)) ax_fn))))))) (y := (84, [(0, .inr (0, 38))], [.inl (.int ((lg_cmp (s13.2 0 41 ((1 : Int32)).toNatClampNeg) (2 : Int64)))), .inr (0, 38)], ax_m (s13) ρ)) rfl ⟨trivial, trivial, (h0 38 rfl), trivial, ⟨(h0 41 rfl), ax_inp b15⟩, trivial, trivial, trivial⟩ ?_
    obtain ⟨w78, hw78, h⟩ := ax_bd h
    have KEw78 : ∀ (v20 : Int32), w78 = v20 → ax_R G 3 0 0 (105, [(0, .inr (0, 38))], [.inl (.int (v20)), .inr (0, 38)], ax_m (s13) ρ) := by
      intro v20 e9
      subst w78
      try dsimp only at h
      obtain ⟨b21, h⟩ := ax_gd h
      refine ax_bk hK (ax_fc (ax_v_pu (ax_r_iconst (v := 2) d_Z_checkAll_105 (by decide))) (ax_fc (ax_v_ld (ax_r_aload_n (i := 0) d_Z_checkAll_106 rfl)) (ax_fc (ax_w_gf (e := none) hal d_Z_checkAll_107 fd_Z_24) (ax_fc (ax_v_pu (ax_r_iconst (v := 1) d_Z_checkAll_110 (by decide))) (ax_fc (ax_w_iald hal d_Z_checkAll_111) ax_fn))))) (y := (112, [(0, .inr (0, 38))], [.inl (.int ((s13.1 0 42 ((1 : Int32)).toNatClampNeg))), .inl (.int ((2 : Int32))), .inl (.int (v20)), .inr (0, 38)], ax_m (s13) ρ)) rfl ⟨trivial, trivial, (h0 38 rfl), trivial, ⟨(h0 42 rfl), ax_inp b21⟩, trivial⟩ ?_
      obtain ⟨s22, q23, h⟩ := ax_bd h
      refine ax_bV (rest := []) hB (t_Z_consider h0 q23) cw_Z_316 im_Z_consider se_Z_consider d_Z_checkAll_112 (h0 38 rfl) rfl rfl (by decide) (by decide) rfl rfl (Nat.le_of_ble_eq_true rfl) ?_
      change ax_R G 3 0 0 (115, [(0, .inr (0, 38))], [], ax_m (s22) ρ)
      obtain ⟨b24, h⟩ := ax_gd h
      refine ax_bk hK (ax_fc (ax_v_ld (ax_r_aload_n (i := 0) d_Z_checkAll_115 rfl)) (ax_fc (ax_v_ld (ax_r_aload_n (i := 0) d_Z_checkAll_116 rfl)) (ax_fc (ax_w_gf (e := none) hal d_Z_checkAll_117 fd_Z_20) (ax_fc (ax_v_pu (ax_r_iconst (v := 2) d_Z_checkAll_120 (by decide))) (ax_fc (ax_w_lald hal d_Z_checkAll_121) (ax_fc (ax_v_pu (ax_r_lconst (v := 1) d_Z_checkAll_122 (by decide))) (ax_fc (ax_v_pu (ax_r_lcmp d_Z_checkAll_123)) ax_fn))))))) (y := (124, [(0, .inr (0, 38))], [.inl (.int ((lg_cmp (s22.2 0 41 ((2 : Int32)).toNatClampNeg) (1 : Int64)))), .inr (0, 38)], ax_m (s22) ρ)) rfl ⟨trivial, trivial, (h0 38 rfl), trivial, ⟨(h0 41 rfl), ax_inp b24⟩, trivial, trivial, trivial⟩ ?_
      obtain ⟨w79, hw79, h⟩ := ax_bd h
      have KEw79 : ∀ (v29 : Int32), w79 = v29 → ax_R G 3 0 0 (145, [(0, .inr (0, 38))], [.inl (.int (v29)), .inr (0, 38)], ax_m (s22) ρ) := by
        intro v29 e9
        subst w79
        try dsimp only at h
        obtain ⟨b30, h⟩ := ax_gd h
        refine ax_bk hK (ax_fc (ax_v_pu (ax_r_iconst (v := 2) d_Z_checkAll_145 (by decide))) (ax_fc (ax_v_ld (ax_r_aload_n (i := 0) d_Z_checkAll_146 rfl)) (ax_fc (ax_w_gf (e := none) hal d_Z_checkAll_147 fd_Z_24) (ax_fc (ax_v_pu (ax_r_iconst (v := 2) d_Z_checkAll_150 (by decide))) (ax_fc (ax_w_iald hal d_Z_checkAll_151) ax_fn))))) (y := (152, [(0, .inr (0, 38))], [.inl (.int ((s22.1 0 42 ((2 : Int32)).toNatClampNeg))), .inl (.int ((2 : Int32))), .inl (.int (v29)), .inr (0, 38)], ax_m (s22) ρ)) rfl ⟨trivial, trivial, (h0 38 rfl), trivial, ⟨(h0 42 rfl), ax_inp b30⟩, trivial⟩ ?_
        obtain ⟨s31, q32, h⟩ := ax_bd h
        refine ax_bV (rest := []) hB (t_Z_consider h0 q32) cw_Z_316 im_Z_consider se_Z_consider d_Z_checkAll_152 (h0 38 rfl) rfl rfl (by decide) (by decide) rfl rfl (Nat.le_of_ble_eq_true rfl) ?_
        change ax_R G 3 0 0 (155, [(0, .inr (0, 38))], [], ax_m (s31) ρ)
        refine ax_bk hK (ax_fc (ax_v_ld (ax_r_aload_n (i := 0) d_Z_checkAll_155 rfl)) (ax_fc (ax_w_gf (e := none) hal d_Z_checkAll_156 fd_Z_293) ax_fn)) (y := (159, [(0, .inr (0, 38))], [.inl (.int ((s31.1 0 38 53)))], ax_m (s31) ρ)) rfl ⟨trivial, (h0 38 rfl), trivial⟩ ?_
        refine ax_if_eq (tgt := 163) hK d_Z_checkAll_159 (by decide) (fun c76 => ?_) (fun c76 => ?_)
        · replace h := ax_it c76 h
          refine ax_bk hK (ax_fc (ax_v_pu (ax_r_iconst (v := 0) d_Z_checkAll_163 (by decide))) (ax_fc (ax_v_so (ax_r_istore_n (i := 1) d_Z_checkAll_164 rfl)) ax_fn)) (y := (165, [(1, .inl (.int ((0 : Int32)))), (0, .inr (0, 38))], [], ax_m (s31) ρ)) rfl ⟨trivial, trivial, trivial⟩ ?_
          obtain ⟨w80, hw80, h⟩ := ax_bd h
          refine ax_Lsub [1, 0] rfl (pl_Z_checkAll_165 h0 hB F _ hw80 ?_)
          intro s45 e9
          subst w80
          try dsimp only at h
          change ax_R G 3 0 0 (238, [(0, .inr (0, 38))], [], ax_m (s45) ρ)
          refine ax_bk hK (ax_fc (ax_v_pu (ax_r_iconst (v := 0) d_Z_checkAll_238 (by decide))) (ax_fc (ax_v_so (ax_r_istore_n (i := 1) d_Z_checkAll_239 rfl)) ax_fn)) (y := (240, [(1, .inl (.int ((0 : Int32)))), (0, .inr (0, 38))], [], ax_m (s45) ρ)) rfl ⟨trivial, trivial, trivial⟩ ?_
          obtain ⟨w81, hw81, h⟩ := ax_bd h
          refine ax_Lsub [1, 0] rfl (pl_Z_checkAll_240 h0 hB F _ hw81 ?_)
          intro s75 e9
          subst w81
          try dsimp only at h
          change ax_R G 3 0 0 (366, [], [], ax_m (s75) ρ)
          cases h
          exact ax_vret hA d_Z_checkAll_366
        · replace h := ax_if c76 h
          cases h
          exact ax_vret hA d_Z_checkAll_162
      clear h
      have h := hw79
      obtain ⟨w28, hw28, h⟩ := ax_bd h
      have KTw28 : w28 = true → ax_R G 3 0 0 (140, [(0, .inr (0, 38))], [.inr (0, 38)], ax_m (s22) ρ) := by
        intro e9
        subst w28
        replace h := ax_ct h
        refine ax_bk hK (ax_fc (ax_v_pu (ax_r_iconst (v := 1) d_Z_checkAll_140 (by decide))) (ax_fc (ax_v_go (tgt := 145) d_Z_checkAll_141 (by decide)) ax_fn)) (y := (145, [(0, .inr (0, 38))], [.inl (.int ((1 : Int32))), .inr (0, 38)], ax_m (s22) ρ)) rfl ⟨trivial, trivial, trivial⟩ ?_
        cases h
        exact ax_Lsub [0] rfl (KEw79 _ rfl)
      have KFw28 : w28 = false → ax_R G 3 0 0 (144, [(0, .inr (0, 38))], [.inr (0, 38)], ax_m (s22) ρ) := by
        intro e9
        subst w28
        replace h := ax_cf h
        refine ax_bk hK (ax_fc (ax_v_pu (ax_r_iconst (v := 0) d_Z_checkAll_144 (by decide))) ax_fn) (y := (145, [(0, .inr (0, 38))], [.inl (.int ((0 : Int32))), .inr (0, 38)], ax_m (s22) ρ)) rfl ⟨trivial, trivial⟩ ?_
        cases h
        exact ax_Lsub [0] rfl (KEw79 _ rfl)
      clear h
      have h := hw28
      refine ax_if_lt (tgt := 140) hK d_Z_checkAll_124 (by decide) (fun c27 => ?_) (fun c27 => ?_)
      · replace h := ax_it c27 h
        cases h
        exact ax_Lsub [0] rfl (KTw28 rfl)
      · replace h := ax_if c27 h
        obtain ⟨b25, h⟩ := ax_gd h
        refine ax_bk hK (ax_fc (ax_v_ld (ax_r_aload_n (i := 0) d_Z_checkAll_127 rfl)) (ax_fc (ax_w_gf (e := none) hal d_Z_checkAll_128 fd_Z_20) (ax_fc (ax_v_pu (ax_r_iconst (v := 2) d_Z_checkAll_131 (by decide))) (ax_fc (ax_w_lald hal d_Z_checkAll_132) (ax_fc (ax_v_ldc2 (v := 4) d_Z_checkAll_133 (nw_5 239 (by decide +kernel) rfl)) (ax_fc (ax_v_pu (ax_r_lcmp d_Z_checkAll_136)) ax_fn)))))) (y := (137, [(0, .inr (0, 38))], [.inl (.int ((lg_cmp (s22.2 0 41 ((2 : Int32)).toNatClampNeg) (4 : Int64)))), .inr (0, 38)], ax_m (s22) ρ)) rfl ⟨trivial, (h0 38 rfl), trivial, ⟨(h0 41 rfl), ax_inp b25⟩, trivial, trivial, trivial⟩ ?_
        refine ax_if_le (tgt := 144) hK d_Z_checkAll_137 (by decide) (fun c26 => ?_) (fun c26 => ?_)
        · replace h := ax_it c26 h
          cases h
          exact ax_Lsub [0] rfl (KFw28 rfl)
        · replace h := ax_if c26 h
          cases h
          exact ax_Lsub [0] rfl (KTw28 rfl)
    clear h
    have h := hw78
    obtain ⟨w19, hw19, h⟩ := ax_bd h
    have KTw19 : w19 = true → ax_R G 3 0 0 (100, [(0, .inr (0, 38))], [.inr (0, 38)], ax_m (s13) ρ) := by
      intro e9
      subst w19
      replace h := ax_ct h
      refine ax_bk hK (ax_fc (ax_v_pu (ax_r_iconst (v := 1) d_Z_checkAll_100 (by decide))) (ax_fc (ax_v_go (tgt := 105) d_Z_checkAll_101 (by decide)) ax_fn)) (y := (105, [(0, .inr (0, 38))], [.inl (.int ((1 : Int32))), .inr (0, 38)], ax_m (s13) ρ)) rfl ⟨trivial, trivial, trivial⟩ ?_
      cases h
      exact ax_Lsub [0] rfl (KEw78 _ rfl)
    have KFw19 : w19 = false → ax_R G 3 0 0 (104, [(0, .inr (0, 38))], [.inr (0, 38)], ax_m (s13) ρ) := by
      intro e9
      subst w19
      replace h := ax_cf h
      refine ax_bk hK (ax_fc (ax_v_pu (ax_r_iconst (v := 0) d_Z_checkAll_104 (by decide))) ax_fn) (y := (105, [(0, .inr (0, 38))], [.inl (.int ((0 : Int32))), .inr (0, 38)], ax_m (s13) ρ)) rfl ⟨trivial, trivial⟩ ?_
      cases h
      exact ax_Lsub [0] rfl (KEw78 _ rfl)
    clear h
    have h := hw19
    refine ax_if_lt (tgt := 100) hK d_Z_checkAll_84 (by decide) (fun c18 => ?_) (fun c18 => ?_)
    · replace h := ax_it c18 h
      cases h
      exact ax_Lsub [0] rfl (KTw19 rfl)
    · replace h := ax_if c18 h
      obtain ⟨b16, h⟩ := ax_gd h
      refine ax_bk hK (ax_fc (ax_v_ld (ax_r_aload_n (i := 0) d_Z_checkAll_87 rfl)) (ax_fc (ax_w_gf (e := none) hal d_Z_checkAll_88 fd_Z_20) (ax_fc (ax_v_pu (ax_r_iconst (v := 1) d_Z_checkAll_91 (by decide))) (ax_fc (ax_w_lald hal d_Z_checkAll_92) (ax_fc (ax_v_ldc2 (v := 4) d_Z_checkAll_93 (nw_5 239 (by decide +kernel) rfl)) (ax_fc (ax_v_pu (ax_r_lcmp d_Z_checkAll_96)) ax_fn)))))) (y := (97, [(0, .inr (0, 38))], [.inl (.int ((lg_cmp (s13.2 0 41 ((1 : Int32)).toNatClampNeg) (4 : Int64)))), .inr (0, 38)], ax_m (s13) ρ)) rfl ⟨trivial, (h0 38 rfl), trivial, ⟨(h0 41 rfl), ax_inp b16⟩, trivial, trivial, trivial⟩ ?_
      refine ax_if_le (tgt := 104) hK d_Z_checkAll_97 (by decide) (fun c17 => ?_) (fun c17 => ?_)
      · replace h := ax_it c17 h
        cases h
        exact ax_Lsub [0] rfl (KFw19 rfl)
      · replace h := ax_if c17 h
        cases h
        exact ax_Lsub [0] rfl (KTw19 rfl)
  clear h
  have h := hw77
  obtain ⟨w10, hw10, h⟩ := ax_bd h
  have KTw10 : w10 = true → ax_R G 3 0 0 (62, [(0, .inr (0, 38))], [.inr (0, 38)], ax_m (s1) ρ) := by
    intro e9
    subst w10
    replace h := ax_ct h
    refine ax_bk hK (ax_fc (ax_v_pu (ax_r_iconst (v := 0) d_Z_checkAll_62 (by decide))) ax_fn) (y := (63, [(0, .inr (0, 38))], [.inl (.int ((0 : Int32))), .inr (0, 38)], ax_m (s1) ρ)) rfl ⟨trivial, trivial⟩ ?_
    cases h
    exact ax_Lsub [0] rfl (KEw77 _ rfl)
  have KFw10 : w10 = false → ax_R G 3 0 0 (58, [(0, .inr (0, 38))], [.inr (0, 38)], ax_m (s1) ρ) := by
    intro e9
    subst w10
    replace h := ax_cf h
    refine ax_bk hK (ax_fc (ax_v_pu (ax_r_iconst (v := 1) d_Z_checkAll_58 (by decide))) (ax_fc (ax_v_go (tgt := 63) d_Z_checkAll_59 (by decide)) ax_fn)) (y := (63, [(0, .inr (0, 38))], [.inl (.int ((1 : Int32))), .inr (0, 38)], ax_m (s1) ρ)) rfl ⟨trivial, trivial, trivial⟩ ?_
    cases h
    exact ax_Lsub [0] rfl (KEw77 _ rfl)
  clear h
  have h := hw10
  refine ax_if_eq (tgt := 62) hK d_Z_checkAll_16 (by decide) (fun c9 => ?_) (fun c9 => ?_)
  · replace h := ax_it c9 h
    cases h
    exact ax_Lsub [0] rfl (KTw10 rfl)
  · replace h := ax_if c9 h
    obtain ⟨b3, h⟩ := ax_gd h
    refine ax_bk hK (ax_fc (ax_v_ld (ax_r_aload_n (i := 0) d_Z_checkAll_19 rfl)) (ax_fc (ax_w_gf (e := none) hal d_Z_checkAll_20 fd_Z_20) (ax_fc (ax_v_pu (ax_r_iconst (v := 0) d_Z_checkAll_23 (by decide))) (ax_fc (ax_w_lald hal d_Z_checkAll_24) (ax_fc (ax_v_ldc2 (v := 16) d_Z_checkAll_25 (nw_5 192 (by decide +kernel) rfl)) (ax_fc (ax_v_pu (ax_r_lcmp d_Z_checkAll_28)) ax_fn)))))) (y := (29, [(0, .inr (0, 38))], [.inl (.int ((lg_cmp (s1.2 0 41 ((0 : Int32)).toNatClampNeg) (16 : Int64)))), .inr (0, 38)], ax_m (s1) ρ)) rfl ⟨trivial, (h0 38 rfl), trivial, ⟨(h0 41 rfl), ax_inp b3⟩, trivial, trivial, trivial⟩ ?_
    refine ax_if_eq (tgt := 62) hK d_Z_checkAll_29 (by decide) (fun c8 => ?_) (fun c8 => ?_)
    · replace h := ax_it c8 h
      cases h
      exact ax_Lsub [0] rfl (KTw10 rfl)
    · replace h := ax_if c8 h
      obtain ⟨b4, h⟩ := ax_gd h
      refine ax_bk hK (ax_fc (ax_v_ld (ax_r_aload_n (i := 0) d_Z_checkAll_32 rfl)) (ax_fc (ax_w_gf (e := none) hal d_Z_checkAll_33 fd_Z_20) (ax_fc (ax_v_pu (ax_r_iconst (v := 0) d_Z_checkAll_36 (by decide))) (ax_fc (ax_w_lald hal d_Z_checkAll_37) (ax_fc (ax_v_ldc2 (v := 32) d_Z_checkAll_38 (nw_5 232 (by decide +kernel) rfl)) (ax_fc (ax_v_pu (ax_r_lcmp d_Z_checkAll_41)) ax_fn)))))) (y := (42, [(0, .inr (0, 38))], [.inl (.int ((lg_cmp (s1.2 0 41 ((0 : Int32)).toNatClampNeg) (32 : Int64)))), .inr (0, 38)], ax_m (s1) ρ)) rfl ⟨trivial, (h0 38 rfl), trivial, ⟨(h0 41 rfl), ax_inp b4⟩, trivial, trivial, trivial⟩ ?_
      refine ax_if_eq (tgt := 62) hK d_Z_checkAll_42 (by decide) (fun c7 => ?_) (fun c7 => ?_)
      · replace h := ax_it c7 h
        cases h
        exact ax_Lsub [0] rfl (KTw10 rfl)
      · replace h := ax_if c7 h
        obtain ⟨b5, h⟩ := ax_gd h
        refine ax_bk hK (ax_fc (ax_v_ld (ax_r_aload_n (i := 0) d_Z_checkAll_45 rfl)) (ax_fc (ax_w_gf (e := none) hal d_Z_checkAll_46 fd_Z_20) (ax_fc (ax_v_pu (ax_r_iconst (v := 0) d_Z_checkAll_49 (by decide))) (ax_fc (ax_w_lald hal d_Z_checkAll_50) (ax_fc (ax_v_ldc2 (v := 64) d_Z_checkAll_51 (nw_5 233 (by decide +kernel) rfl)) (ax_fc (ax_v_pu (ax_r_lcmp d_Z_checkAll_54)) ax_fn)))))) (y := (55, [(0, .inr (0, 38))], [.inl (.int ((lg_cmp (s1.2 0 41 ((0 : Int32)).toNatClampNeg) (64 : Int64)))), .inr (0, 38)], ax_m (s1) ρ)) rfl ⟨trivial, (h0 38 rfl), trivial, ⟨(h0 41 rfl), ax_inp b5⟩, trivial, trivial, trivial⟩ ?_
        refine ax_if_eq (tgt := 62) hK d_Z_checkAll_55 (by decide) (fun c6 => ?_) (fun c6 => ?_)
        · replace h := ax_it c6 h
          cases h
          exact ax_Lsub [0] rfl (KTw10 rfl)
        · replace h := ax_if c6 h
          cases h
          exact ax_Lsub [0] rfl (KFw10 rfl)
