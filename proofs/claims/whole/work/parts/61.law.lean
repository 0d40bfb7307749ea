/-! THE LAW, case by case -/
theorem d_W_law_0 : decode code 0 = .ok (.new (8), 3) := by decide +kernel
theorem d_W_law_3 : decode code 3 = .ok (.dup, 1) := by decide +kernel
theorem d_W_law_4 : decode code 4 = .ok (.invokespecial (51), 3) := by decide +kernel
theorem d_W_law_7 : decode code 7 = .ok (.astore_n 1, 1) := by decide +kernel
theorem d_W_law_8 : decode code 8 = .ok (.new (52), 3) := by decide +kernel
theorem d_W_law_11 : decode code 11 = .ok (.dup, 1) := by decide +kernel
theorem d_W_law_12 : decode code 12 = .ok (.invokespecial (54), 3) := by decide +kernel
theorem d_W_law_15 : decode code 15 = .ok (.astore_n 2, 1) := by decide +kernel
theorem d_W_law_16 : decode code 16 = .ok (.iconst 1, 1) := by decide +kernel
theorem d_W_law_17 : decode code 17 = .ok (.newarray .long, 2) := by decide +kernel
theorem d_W_law_19 : decode code 19 = .ok (.astore_n 3, 1) := by decide +kernel
theorem d_W_law_20 : decode code 20 = .ok (.iconst 0, 1) := by decide +kernel
theorem d_W_law_21 : decode code 21 = .ok (.istore (4), 2) := by decide +kernel
theorem d_W_law_23 : decode code 23 = .ok (.iload (4), 2) := by decide +kernel
theorem d_W_law_25 : decode code 25 = .ok (.aload_n 0, 1) := by decide +kernel
theorem d_W_law_26 : decode code 26 = .ok (.arraylength, 1) := by decide +kernel
theorem d_W_law_27 : decode code 27 = .ok (.iconst 4, 1) := by decide +kernel
theorem d_W_law_28 : decode code 28 = .ok (.isub, 1) := by decide +kernel
theorem d_W_law_29 : decode code 29 = .ok (.if_icmp .gt (881), 3) := by decide +kernel
theorem d_W_law_32 : decode code 32 = .ok (.aload_n 0, 1) := by decide +kernel
theorem d_W_law_33 : decode code 33 = .ok (.iload (4), 2) := by decide +kernel
theorem d_W_law_35 : decode code 35 = .ok (.iaload, 1) := by decide +kernel
theorem d_W_law_36 : decode code 36 = .ok (.bipush (15), 2) := by decide +kernel
theorem d_W_law_38 : decode code 38 = .ok (.iand, 1) := by decide +kernel
theorem d_W_law_39 : decode code 39 = .ok (.tableswitch (865) (0) (14) #[73, 130, 143, 156, 169, 225, 250, 346, 445, 544, 599, 654, 709, 753, 797], 73) := by decide +kernel
theorem d_W_law_112 : decode code 112 = .ok (.aload_n 1, 1) := by decide +kernel
theorem d_W_law_113 : decode code 113 = .ok (.aload_n 0, 1) := by decide +kernel
theorem d_W_law_114 : decode code 114 = .ok (.iload (4), 2) := by decide +kernel
theorem d_W_law_116 : decode code 116 = .ok (.iconst 1, 1) := by decide +kernel
theorem d_W_law_117 : decode code 117 = .ok (.iadd, 1) := by decide +kernel
theorem d_W_law_118 : decode code 118 = .ok (.iaload, 1) := by decide +kernel
theorem d_W_law_119 : decode code 119 = .ok (.i2l, 1) := by decide +kernel
theorem d_W_law_120 : decode code 120 = .ok (.bipush (32), 2) := by decide +kernel
theorem d_W_law_122 : decode code 122 = .ok (.lshl, 1) := by decide +kernel
theorem d_W_law_123 : decode code 123 = .ok (.aload_n 0, 1) := by decide +kernel
theorem d_W_law_124 : decode code 124 = .ok (.iload (4), 2) := by decide +kernel
theorem d_W_law_126 : decode code 126 = .ok (.iconst 2, 1) := by decide +kernel
theorem d_W_law_127 : decode code 127 = .ok (.iadd, 1) := by decide +kernel
theorem d_W_law_128 : decode code 128 = .ok (.iaload, 1) := by decide +kernel
theorem d_W_law_129 : decode code 129 = .ok (.i2l, 1) := by decide +kernel
theorem d_W_law_130 : decode code 130 = .ok (.ldc2_w (55), 3) := by decide +kernel
theorem d_W_law_133 : decode code 133 = .ok (.land, 1) := by decide +kernel
theorem d_W_law_134 : decode code 134 = .ok (.lor, 1) := by decide +kernel
theorem d_W_law_135 : decode code 135 = .ok (.invokevirtual (57), 3) := by decide +kernel
theorem d_W_law_138 : decode code 138 = .ok (.aload_n 2, 1) := by decide +kernel
theorem d_W_law_139 : decode code 139 = .ok (.aload_n 0, 1) := by decide +kernel
theorem d_W_law_140 : decode code 140 = .ok (.iload (4), 2) := by decide +kernel
theorem d_W_law_142 : decode code 142 = .ok (.iconst 1, 1) := by decide +kernel
theorem d_W_law_143 : decode code 143 = .ok (.iadd, 1) := by decide +kernel
theorem d_W_law_144 : decode code 144 = .ok (.iaload, 1) := by decide +kernel
theorem d_W_law_145 : decode code 145 = .ok (.i2l, 1) := by decide +kernel
theorem d_W_law_146 : decode code 146 = .ok (.bipush (32), 2) := by decide +kernel
theorem d_W_law_148 : decode code 148 = .ok (.lshl, 1) := by decide +kernel
theorem d_W_law_149 : decode code 149 = .ok (.aload_n 0, 1) := by decide +kernel
theorem d_W_law_150 : decode code 150 = .ok (.iload (4), 2) := by decide +kernel
theorem d_W_law_152 : decode code 152 = .ok (.iconst 2, 1) := by decide +kernel
theorem d_W_law_153 : decode code 153 = .ok (.iadd, 1) := by decide +kernel
theorem d_W_law_154 : decode code 154 = .ok (.iaload, 1) := by decide +kernel
theorem d_W_law_155 : decode code 155 = .ok (.i2l, 1) := by decide +kernel
theorem d_W_law_156 : decode code 156 = .ok (.ldc2_w (55), 3) := by decide +kernel
theorem d_W_law_159 : decode code 159 = .ok (.land, 1) := by decide +kernel
theorem d_W_law_160 : decode code 160 = .ok (.lor, 1) := by decide +kernel
theorem d_W_law_161 : decode code 161 = .ok (.invokevirtual (61), 3) := by decide +kernel
theorem d_W_law_164 : decode code 164 = .ok (.if_icmp .eq (740), 3) := by decide +kernel
theorem d_W_law_167 : decode code 167 = .ok (.iconst 0, 1) := by decide +kernel
theorem d_W_law_168 : decode code 168 = .ok (.ireturn, 1) := by decide +kernel
theorem d_W_law_169 : decode code 169 = .ok (.aload_n 1, 1) := by decide +kernel
theorem d_W_law_170 : decode code 170 = .ok (.invokevirtual (62), 3) := by decide +kernel
theorem d_W_law_173 : decode code 173 = .ok (.aload_n 2, 1) := by decide +kernel
theorem d_W_law_174 : decode code 174 = .ok (.invokevirtual (65), 3) := by decide +kernel
theorem d_W_law_177 : decode code 177 = .ok (.if_icmp .eq (727), 3) := by decide +kernel
theorem d_W_law_180 : decode code 180 = .ok (.iconst 0, 1) := by decide +kernel
theorem d_W_law_181 : decode code 181 = .ok (.ireturn, 1) := by decide +kernel
theorem d_W_law_182 : decode code 182 = .ok (.aload_n 1, 1) := by decide +kernel
theorem d_W_law_183 : decode code 183 = .ok (.invokevirtual (66), 3) := by decide +kernel
theorem d_W_law_186 : decode code 186 = .ok (.aload_n 2, 1) := by decide +kernel
theorem d_W_law_187 : decode code 187 = .ok (.invokevirtual (69), 3) := by decide +kernel
theorem d_W_law_190 : decode code 190 = .ok (.if_icmp .eq (714), 3) := by decide +kernel
theorem d_W_law_193 : decode code 193 = .ok (.iconst 0, 1) := by decide +kernel
theorem d_W_law_194 : decode code 194 = .ok (.ireturn, 1) := by decide +kernel
theorem d_W_law_195 : decode code 195 = .ok (.aload_n 1, 1) := by decide +kernel
theorem d_W_law_196 : decode code 196 = .ok (.invokevirtual (70), 3) := by decide +kernel
theorem d_W_law_199 : decode code 199 = .ok (.aload_n 2, 1) := by decide +kernel
theorem d_W_law_200 : decode code 200 = .ok (.invokevirtual (73), 3) := by decide +kernel
theorem d_W_law_203 : decode code 203 = .ok (.if_icmp .eq (701), 3) := by decide +kernel
theorem d_W_law_206 : decode code 206 = .ok (.iconst 0, 1) := by decide +kernel
theorem d_W_law_207 : decode code 207 = .ok (.ireturn, 1) := by decide +kernel
theorem d_W_law_208 : decode code 208 = .ok (.aload_n 1, 1) := by decide +kernel
theorem d_W_law_209 : decode code 209 = .ok (.aload_n 0, 1) := by decide +kernel
theorem d_W_law_210 : decode code 210 = .ok (.iload (4), 2) := by decide +kernel
theorem d_W_law_212 : decode code 212 = .ok (.iconst 1, 1) := by decide +kernel
theorem d_W_law_213 : decode code 213 = .ok (.iadd, 1) := by decide +kernel
theorem d_W_law_214 : decode code 214 = .ok (.iaload, 1) := by decide +kernel
theorem d_W_law_215 : decode code 215 = .ok (.aload_n 3, 1) := by decide +kernel
theorem d_W_law_216 : decode code 216 = .ok (.invokestatic (74), 3) := by decide +kernel
theorem d_W_law_219 : decode code 219 = .ok (.istore (5), 2) := by decide +kernel
theorem d_W_law_221 : decode code 221 = .ok (.aload_n 2, 1) := by decide +kernel
theorem d_W_law_222 : decode code 222 = .ok (.aload_n 0, 1) := by decide +kernel
theorem d_W_law_223 : decode code 223 = .ok (.iload (4), 2) := by decide +kernel
theorem d_W_law_225 : decode code 225 = .ok (.iconst 1, 1) := by decide +kernel
theorem d_W_law_226 : decode code 226 = .ok (.iadd, 1) := by decide +kernel
theorem d_W_law_227 : decode code 227 = .ok (.iaload, 1) := by decide +kernel
theorem d_W_law_228 : decode code 228 = .ok (.invokevirtual (79), 3) := by decide +kernel
theorem d_W_law_231 : decode code 231 = .ok (.istore (6), 2) := by decide +kernel
theorem d_W_law_233 : decode code 233 = .ok (.aload_n 2, 1) := by decide +kernel
theorem d_W_law_234 : decode code 234 = .ok (.invokevirtual (80), 3) := by decide +kernel
theorem d_W_law_237 : decode code 237 = .ok (.iload (5), 2) := by decide +kernel
theorem d_W_law_239 : decode code 239 = .ok (.if_icmp .eq (5), 3) := by decide +kernel
theorem d_W_law_242 : decode code 242 = .ok (.iconst 0, 1) := by decide +kernel
theorem d_W_law_243 : decode code 243 = .ok (.ireturn, 1) := by decide +kernel
theorem d_W_law_244 : decode code 244 = .ok (.iload (5), 2) := by decide +kernel
theorem d_W_law_246 : decode code 246 = .ok (.ifCond .ne (15), 3) := by decide +kernel
theorem d_W_law_249 : decode code 249 = .ok (.aload_n 3, 1) := by decide +kernel
theorem d_W_law_250 : decode code 250 = .ok (.iconst 0, 1) := by decide +kernel
theorem d_W_law_251 : decode code 251 = .ok (.laload, 1) := by decide +kernel
theorem d_W_law_252 : decode code 252 = .ok (.iload (6), 2) := by decide +kernel
theorem d_W_law_254 : decode code 254 = .ok (.i2l, 1) := by decide +kernel
theorem d_W_law_255 : decode code 255 = .ok (.lcmp, 1) := by decide +kernel
theorem d_W_law_256 : decode code 256 = .ok (.ifCond .eq (5), 3) := by decide +kernel
theorem d_W_law_259 : decode code 259 = .ok (.iconst 0, 1) := by decide +kernel
theorem d_W_law_260 : decode code 260 = .ok (.ireturn, 1) := by decide +kernel
theorem d_W_law_261 : decode code 261 = .ok (.goto (643), 3) := by decide +kernel
theorem d_W_law_264 : decode code 264 = .ok (.aload_n 1, 1) := by decide +kernel
theorem d_W_law_265 : decode code 265 = .ok (.aload_n 0, 1) := by decide +kernel
theorem d_W_law_266 : decode code 266 = .ok (.iload (4), 2) := by decide +kernel
theorem d_W_law_268 : decode code 268 = .ok (.iconst 1, 1) := by decide +kernel
theorem d_W_law_269 : decode code 269 = .ok (.iadd, 1) := by decide +kernel
theorem d_W_law_270 : decode code 270 = .ok (.iaload, 1) := by decide +kernel
theorem d_W_law_271 : decode code 271 = .ok (.invokevirtual (83), 3) := by decide +kernel
theorem d_W_law_274 : decode code 274 = .ok (.aload_n 2, 1) := by decide +kernel
theorem d_W_law_275 : decode code 275 = .ok (.aload_n 0, 1) := by decide +kernel
theorem d_W_law_276 : decode code 276 = .ok (.iload (4), 2) := by decide +kernel
theorem d_W_law_278 : decode code 278 = .ok (.iconst 1, 1) := by decide +kernel
theorem d_W_law_279 : decode code 279 = .ok (.iadd, 1) := by decide +kernel
theorem d_W_law_280 : decode code 280 = .ok (.iaload, 1) := by decide +kernel
theorem d_W_law_281 : decode code 281 = .ok (.invokevirtual (86), 3) := by decide +kernel
theorem d_W_law_284 : decode code 284 = .ok (.if_icmp .eq (620), 3) := by decide +kernel
theorem d_W_law_287 : decode code 287 = .ok (.iconst 0, 1) := by decide +kernel
theorem d_W_law_288 : decode code 288 = .ok (.ireturn, 1) := by decide +kernel
theorem d_W_law_289 : decode code 289 = .ok (.aload_n 1, 1) := by decide +kernel
theorem d_W_law_290 : decode code 290 = .ok (.aload_n 0, 1) := by decide +kernel
theorem d_W_law_291 : decode code 291 = .ok (.iload (4), 2) := by decide +kernel
theorem d_W_law_293 : decode code 293 = .ok (.iconst 1, 1) := by decide +kernel
theorem d_W_law_294 : decode code 294 = .ok (.iadd, 1) := by decide +kernel
theorem d_W_law_295 : decode code 295 = .ok (.iaload, 1) := by decide +kernel
theorem d_W_law_296 : decode code 296 = .ok (.aload_n 0, 1) := by decide +kernel
theorem d_W_law_297 : decode code 297 = .ok (.iload (4), 2) := by decide +kernel
theorem d_W_law_299 : decode code 299 = .ok (.iconst 2, 1) := by decide +kernel
theorem d_W_law_300 : decode code 300 = .ok (.iadd, 1) := by decide +kernel
theorem d_W_law_301 : decode code 301 = .ok (.iaload, 1) := by decide +kernel
theorem d_W_law_302 : decode code 302 = .ok (.aload_n 0, 1) := by decide +kernel
theorem d_W_law_303 : decode code 303 = .ok (.iload (4), 2) := by decide +kernel
theorem d_W_law_305 : decode code 305 = .ok (.iconst 3, 1) := by decide +kernel
theorem d_W_law_306 : decode code 306 = .ok (.iadd, 1) := by decide +kernel
theorem d_W_law_307 : decode code 307 = .ok (.iaload, 1) := by decide +kernel
theorem d_W_law_308 : decode code 308 = .ok (.ifCond .eq (7), 3) := by decide +kernel
theorem d_W_law_311 : decode code 311 = .ok (.iconst 1, 1) := by decide +kernel
theorem d_W_law_312 : decode code 312 = .ok (.goto (4), 3) := by decide +kernel
theorem d_W_law_315 : decode code 315 = .ok (.iconst 0, 1) := by decide +kernel
theorem d_W_law_316 : decode code 316 = .ok (.aload_n 3, 1) := by decide +kernel
theorem d_W_law_317 : decode code 317 = .ok (.invokestatic (87), 3) := by decide +kernel
theorem d_W_law_320 : decode code 320 = .ok (.istore (5), 2) := by decide +kernel
theorem d_W_law_322 : decode code 322 = .ok (.aload_n 2, 1) := by decide +kernel
theorem d_W_law_323 : decode code 323 = .ok (.aload_n 0, 1) := by decide +kernel
theorem d_W_law_324 : decode code 324 = .ok (.iload (4), 2) := by decide +kernel
theorem d_W_law_326 : decode code 326 = .ok (.iconst 1, 1) := by decide +kernel
theorem d_W_law_327 : decode code 327 = .ok (.iadd, 1) := by decide +kernel
theorem d_W_law_328 : decode code 328 = .ok (.iaload, 1) := by decide +kernel
theorem d_W_law_329 : decode code 329 = .ok (.aload_n 0, 1) := by decide +kernel
theorem d_W_law_330 : decode code 330 = .ok (.iload (4), 2) := by decide +kernel
theorem d_W_law_332 : decode code 332 = .ok (.iconst 2, 1) := by decide +kernel
theorem d_W_law_333 : decode code 333 = .ok (.iadd, 1) := by decide +kernel
theorem d_W_law_334 : decode code 334 = .ok (.iaload, 1) := by decide +kernel
theorem d_W_law_335 : decode code 335 = .ok (.aload_n 0, 1) := by decide +kernel
theorem d_W_law_336 : decode code 336 = .ok (.iload (4), 2) := by decide +kernel
theorem d_W_law_338 : decode code 338 = .ok (.iconst 3, 1) := by decide +kernel
theorem d_W_law_339 : decode code 339 = .ok (.iadd, 1) := by decide +kernel
theorem d_W_law_340 : decode code 340 = .ok (.iaload, 1) := by decide +kernel
theorem d_W_law_341 : decode code 341 = .ok (.ifCond .eq (7), 3) := by decide +kernel
theorem d_W_law_344 : decode code 344 = .ok (.iconst 1, 1) := by decide +kernel
theorem d_W_law_345 : decode code 345 = .ok (.goto (4), 3) := by decide +kernel
theorem d_W_law_348 : decode code 348 = .ok (.iconst 0, 1) := by decide +kernel
theorem d_W_law_349 : decode code 349 = .ok (.invokevirtual (90), 3) := by decide +kernel
theorem d_W_law_352 : decode code 352 = .ok (.istore (6), 2) := by decide +kernel
theorem d_W_law_354 : decode code 354 = .ok (.aload_n 2, 1) := by decide +kernel
theorem d_W_law_355 : decode code 355 = .ok (.invokevirtual (80), 3) := by decide +kernel
theorem d_W_law_358 : decode code 358 = .ok (.iload (5), 2) := by decide +kernel
theorem d_W_law_360 : decode code 360 = .ok (.if_icmp .eq (5), 3) := by decide +kernel
theorem d_W_law_363 : decode code 363 = .ok (.iconst 0, 1) := by decide +kernel
theorem d_W_law_364 : decode code 364 = .ok (.ireturn, 1) := by decide +kernel
theorem d_W_law_365 : decode code 365 = .ok (.iload (5), 2) := by decide +kernel
theorem d_W_law_367 : decode code 367 = .ok (.ifCond .ne (15), 3) := by decide +kernel
theorem d_W_law_370 : decode code 370 = .ok (.aload_n 3, 1) := by decide +kernel
theorem d_W_law_371 : decode code 371 = .ok (.iconst 0, 1) := by decide +kernel
theorem d_W_law_372 : decode code 372 = .ok (.laload, 1) := by decide +kernel
theorem d_W_law_373 : decode code 373 = .ok (.iload (6), 2) := by decide +kernel
theorem d_W_law_375 : decode code 375 = .ok (.i2l, 1) := by decide +kernel
theorem d_W_law_376 : decode code 376 = .ok (.lcmp, 1) := by decide +kernel
theorem d_W_law_377 : decode code 377 = .ok (.ifCond .eq (5), 3) := by decide +kernel
theorem d_W_law_380 : decode code 380 = .ok (.iconst 0, 1) := by decide +kernel
theorem d_W_law_381 : decode code 381 = .ok (.ireturn, 1) := by decide +kernel
theorem d_W_law_382 : decode code 382 = .ok (.goto (522), 3) := by decide +kernel
theorem d_W_law_385 : decode code 385 = .ok (.aload_n 1, 1) := by decide +kernel
theorem d_W_law_386 : decode code 386 = .ok (.aload_n 0, 1) := by decide +kernel
theorem d_W_law_387 : decode code 387 = .ok (.iload (4), 2) := by decide +kernel
theorem d_W_law_389 : decode code 389 = .ok (.iconst 1, 1) := by decide +kernel
theorem d_W_law_390 : decode code 390 = .ok (.iadd, 1) := by decide +kernel
theorem d_W_law_391 : decode code 391 = .ok (.iaload, 1) := by decide +kernel
theorem d_W_law_392 : decode code 392 = .ok (.aload_n 0, 1) := by decide +kernel
theorem d_W_law_393 : decode code 393 = .ok (.iload (4), 2) := by decide +kernel
theorem d_W_law_395 : decode code 395 = .ok (.iconst 2, 1) := by decide +kernel
theorem d_W_law_396 : decode code 396 = .ok (.iadd, 1) := by decide +kernel
theorem d_W_law_397 : decode code 397 = .ok (.iaload, 1) := by decide +kernel
theorem d_W_law_398 : decode code 398 = .ok (.i2l, 1) := by decide +kernel
theorem d_W_law_399 : decode code 399 = .ok (.bipush (32), 2) := by decide +kernel
theorem d_W_law_401 : decode code 401 = .ok (.lshl, 1) := by decide +kernel
theorem d_W_law_402 : decode code 402 = .ok (.aload_n 0, 1) := by decide +kernel
theorem d_W_law_403 : decode code 403 = .ok (.iload (4), 2) := by decide +kernel
theorem d_W_law_405 : decode code 405 = .ok (.iconst 3, 1) := by decide +kernel
theorem d_W_law_406 : decode code 406 = .ok (.iadd, 1) := by decide +kernel
theorem d_W_law_407 : decode code 407 = .ok (.iaload, 1) := by decide +kernel
theorem d_W_law_408 : decode code 408 = .ok (.i2l, 1) := by decide +kernel
theorem d_W_law_409 : decode code 409 = .ok (.ldc2_w (55), 3) := by decide +kernel
theorem d_W_law_412 : decode code 412 = .ok (.land, 1) := by decide +kernel
theorem d_W_law_413 : decode code 413 = .ok (.lor, 1) := by decide +kernel
theorem d_W_law_414 : decode code 414 = .ok (.aload_n 3, 1) := by decide +kernel
theorem d_W_law_415 : decode code 415 = .ok (.invokestatic (91), 3) := by decide +kernel
theorem d_W_law_418 : decode code 418 = .ok (.istore (5), 2) := by decide +kernel
theorem d_W_law_420 : decode code 420 = .ok (.aload_n 2, 1) := by decide +kernel
theorem d_W_law_421 : decode code 421 = .ok (.aload_n 0, 1) := by decide +kernel
theorem d_W_law_422 : decode code 422 = .ok (.iload (4), 2) := by decide +kernel
theorem d_W_law_424 : decode code 424 = .ok (.iconst 1, 1) := by decide +kernel
theorem d_W_law_425 : decode code 425 = .ok (.iadd, 1) := by decide +kernel
theorem d_W_law_426 : decode code 426 = .ok (.iaload, 1) := by decide +kernel
theorem d_W_law_427 : decode code 427 = .ok (.aload_n 0, 1) := by decide +kernel
theorem d_W_law_428 : decode code 428 = .ok (.iload (4), 2) := by decide +kernel
theorem d_W_law_430 : decode code 430 = .ok (.iconst 2, 1) := by decide +kernel
theorem d_W_law_431 : decode code 431 = .ok (.iadd, 1) := by decide +kernel
theorem d_W_law_432 : decode code 432 = .ok (.iaload, 1) := by decide +kernel
theorem d_W_law_433 : decode code 433 = .ok (.i2l, 1) := by decide +kernel
theorem d_W_law_434 : decode code 434 = .ok (.bipush (32), 2) := by decide +kernel
theorem d_W_law_436 : decode code 436 = .ok (.lshl, 1) := by decide +kernel
theorem d_W_law_437 : decode code 437 = .ok (.aload_n 0, 1) := by decide +kernel
theorem d_W_law_438 : decode code 438 = .ok (.iload (4), 2) := by decide +kernel
theorem d_W_law_440 : decode code 440 = .ok (.iconst 3, 1) := by decide +kernel
theorem d_W_law_441 : decode code 441 = .ok (.iadd, 1) := by decide +kernel
theorem d_W_law_442 : decode code 442 = .ok (.iaload, 1) := by decide +kernel
theorem d_W_law_443 : decode code 443 = .ok (.i2l, 1) := by decide +kernel
theorem d_W_law_444 : decode code 444 = .ok (.ldc2_w (55), 3) := by decide +kernel
theorem d_W_law_447 : decode code 447 = .ok (.land, 1) := by decide +kernel
theorem d_W_law_448 : decode code 448 = .ok (.lor, 1) := by decide +kernel
theorem d_W_law_449 : decode code 449 = .ok (.invokevirtual (94), 3) := by decide +kernel
theorem d_W_law_452 : decode code 452 = .ok (.lstore (6), 2) := by decide +kernel
theorem d_W_law_454 : decode code 454 = .ok (.aload_n 2, 1) := by decide +kernel
theorem d_W_law_455 : decode code 455 = .ok (.invokevirtual (80), 3) := by decide +kernel
theorem d_W_law_458 : decode code 458 = .ok (.iload (5), 2) := by decide +kernel
theorem d_W_law_460 : decode code 460 = .ok (.if_icmp .eq (5), 3) := by decide +kernel
theorem d_W_law_463 : decode code 463 = .ok (.iconst 0, 1) := by decide +kernel
theorem d_W_law_464 : decode code 464 = .ok (.ireturn, 1) := by decide +kernel
theorem d_W_law_465 : decode code 465 = .ok (.iload (5), 2) := by decide +kernel
theorem d_W_law_467 : decode code 467 = .ok (.ifCond .ne (14), 3) := by decide +kernel
theorem d_W_law_470 : decode code 470 = .ok (.aload_n 3, 1) := by decide +kernel
theorem d_W_law_471 : decode code 471 = .ok (.iconst 0, 1) := by decide +kernel
theorem d_W_law_472 : decode code 472 = .ok (.laload, 1) := by decide +kernel
theorem d_W_law_473 : decode code 473 = .ok (.lload (6), 2) := by decide +kernel
theorem d_W_law_475 : decode code 475 = .ok (.lcmp, 1) := by decide +kernel
theorem d_W_law_476 : decode code 476 = .ok (.ifCond .eq (5), 3) := by decide +kernel
theorem d_W_law_479 : decode code 479 = .ok (.iconst 0, 1) := by decide +kernel
theorem d_W_law_480 : decode code 480 = .ok (.ireturn, 1) := by decide +kernel
theorem d_W_law_481 : decode code 481 = .ok (.goto (423), 3) := by decide +kernel
theorem d_W_law_484 : decode code 484 = .ok (.aload_n 1, 1) := by decide +kernel
theorem d_W_law_485 : decode code 485 = .ok (.aload_n 0, 1) := by decide +kernel
theorem d_W_law_486 : decode code 486 = .ok (.iload (4), 2) := by decide +kernel
theorem d_W_law_488 : decode code 488 = .ok (.iconst 1, 1) := by decide +kernel
theorem d_W_law_489 : decode code 489 = .ok (.iadd, 1) := by decide +kernel
theorem d_W_law_490 : decode code 490 = .ok (.iaload, 1) := by decide +kernel
theorem d_W_law_491 : decode code 491 = .ok (.aload_n 0, 1) := by decide +kernel
theorem d_W_law_492 : decode code 492 = .ok (.iload (4), 2) := by decide +kernel
theorem d_W_law_494 : decode code 494 = .ok (.iconst 2, 1) := by decide +kernel
theorem d_W_law_495 : decode code 495 = .ok (.iadd, 1) := by decide +kernel
theorem d_W_law_496 : decode code 496 = .ok (.iaload, 1) := by decide +kernel
theorem d_W_law_497 : decode code 497 = .ok (.i2l, 1) := by decide +kernel
theorem d_W_law_498 : decode code 498 = .ok (.bipush (32), 2) := by decide +kernel
theorem d_W_law_500 : decode code 500 = .ok (.lshl, 1) := by decide +kernel
theorem d_W_law_501 : decode code 501 = .ok (.aload_n 0, 1) := by decide +kernel
theorem d_W_law_502 : decode code 502 = .ok (.iload (4), 2) := by decide +kernel
theorem d_W_law_504 : decode code 504 = .ok (.iconst 3, 1) := by decide +kernel
theorem d_W_law_505 : decode code 505 = .ok (.iadd, 1) := by decide +kernel
theorem d_W_law_506 : decode code 506 = .ok (.iaload, 1) := by decide +kernel
theorem d_W_law_507 : decode code 507 = .ok (.i2l, 1) := by decide +kernel
theorem d_W_law_508 : decode code 508 = .ok (.ldc2_w (55), 3) := by decide +kernel
theorem d_W_law_511 : decode code 511 = .ok (.land, 1) := by decide +kernel
theorem d_W_law_512 : decode code 512 = .ok (.lor, 1) := by decide +kernel
theorem d_W_law_513 : decode code 513 = .ok (.aload_n 3, 1) := by decide +kernel
theorem d_W_law_514 : decode code 514 = .ok (.invokestatic (95), 3) := by decide +kernel
theorem d_W_law_517 : decode code 517 = .ok (.istore (5), 2) := by decide +kernel
theorem d_W_law_519 : decode code 519 = .ok (.aload_n 2, 1) := by decide +kernel
theorem d_W_law_520 : decode code 520 = .ok (.aload_n 0, 1) := by decide +kernel
theorem d_W_law_521 : decode code 521 = .ok (.iload (4), 2) := by decide +kernel
theorem d_W_law_523 : decode code 523 = .ok (.iconst 1, 1) := by decide +kernel
theorem d_W_law_524 : decode code 524 = .ok (.iadd, 1) := by decide +kernel
theorem d_W_law_525 : decode code 525 = .ok (.iaload, 1) := by decide +kernel
theorem d_W_law_526 : decode code 526 = .ok (.aload_n 0, 1) := by decide +kernel
theorem d_W_law_527 : decode code 527 = .ok (.iload (4), 2) := by decide +kernel
theorem d_W_law_529 : decode code 529 = .ok (.iconst 2, 1) := by decide +kernel
theorem d_W_law_530 : decode code 530 = .ok (.iadd, 1) := by decide +kernel
theorem d_W_law_531 : decode code 531 = .ok (.iaload, 1) := by decide +kernel
theorem d_W_law_532 : decode code 532 = .ok (.i2l, 1) := by decide +kernel
theorem d_W_law_533 : decode code 533 = .ok (.bipush (32), 2) := by decide +kernel
theorem d_W_law_535 : decode code 535 = .ok (.lshl, 1) := by decide +kernel
theorem d_W_law_536 : decode code 536 = .ok (.aload_n 0, 1) := by decide +kernel
theorem d_W_law_537 : decode code 537 = .ok (.iload (4), 2) := by decide +kernel
theorem d_W_law_539 : decode code 539 = .ok (.iconst 3, 1) := by decide +kernel
theorem d_W_law_540 : decode code 540 = .ok (.iadd, 1) := by decide +kernel
theorem d_W_law_541 : decode code 541 = .ok (.iaload, 1) := by decide +kernel
theorem d_W_law_542 : decode code 542 = .ok (.i2l, 1) := by decide +kernel
theorem d_W_law_543 : decode code 543 = .ok (.ldc2_w (55), 3) := by decide +kernel
theorem d_W_law_546 : decode code 546 = .ok (.land, 1) := by decide +kernel
theorem d_W_law_547 : decode code 547 = .ok (.lor, 1) := by decide +kernel
theorem d_W_law_548 : decode code 548 = .ok (.invokevirtual (97), 3) := by decide +kernel
theorem d_W_law_551 : decode code 551 = .ok (.lstore (6), 2) := by decide +kernel
theorem d_W_law_553 : decode code 553 = .ok (.aload_n 2, 1) := by decide +kernel
theorem d_W_law_554 : decode code 554 = .ok (.invokevirtual (80), 3) := by decide +kernel
theorem d_W_law_557 : decode code 557 = .ok (.iload (5), 2) := by decide +kernel
theorem d_W_law_559 : decode code 559 = .ok (.if_icmp .eq (5), 3) := by decide +kernel
theorem d_W_law_562 : decode code 562 = .ok (.iconst 0, 1) := by decide +kernel
theorem d_W_law_563 : decode code 563 = .ok (.ireturn, 1) := by decide +kernel
theorem d_W_law_564 : decode code 564 = .ok (.iload (5), 2) := by decide +kernel
theorem d_W_law_566 : decode code 566 = .ok (.ifCond .ne (14), 3) := by decide +kernel
theorem d_W_law_569 : decode code 569 = .ok (.aload_n 3, 1) := by decide +kernel
theorem d_W_law_570 : decode code 570 = .ok (.iconst 0, 1) := by decide +kernel
theorem d_W_law_571 : decode code 571 = .ok (.laload, 1) := by decide +kernel
theorem d_W_law_572 : decode code 572 = .ok (.lload (6), 2) := by decide +kernel
theorem d_W_law_574 : decode code 574 = .ok (.lcmp, 1) := by decide +kernel
theorem d_W_law_575 : decode code 575 = .ok (.ifCond .eq (5), 3) := by decide +kernel
theorem d_W_law_578 : decode code 578 = .ok (.iconst 0, 1) := by decide +kernel
theorem d_W_law_579 : decode code 579 = .ok (.ireturn, 1) := by decide +kernel
theorem d_W_law_580 : decode code 580 = .ok (.goto (324), 3) := by decide +kernel
theorem d_W_law_583 : decode code 583 = .ok (.aload_n 1, 1) := by decide +kernel
theorem d_W_law_584 : decode code 584 = .ok (.aload_n 0, 1) := by decide +kernel
theorem d_W_law_585 : decode code 585 = .ok (.iload (4), 2) := by decide +kernel
theorem d_W_law_587 : decode code 587 = .ok (.iconst 1, 1) := by decide +kernel
theorem d_W_law_588 : decode code 588 = .ok (.iadd, 1) := by decide +kernel
theorem d_W_law_589 : decode code 589 = .ok (.iaload, 1) := by decide +kernel
theorem d_W_law_590 : decode code 590 = .ok (.aload_n 3, 1) := by decide +kernel
theorem d_W_law_591 : decode code 591 = .ok (.invokestatic (98), 3) := by decide +kernel
theorem d_W_law_594 : decode code 594 = .ok (.istore (5), 2) := by decide +kernel
theorem d_W_law_596 : decode code 596 = .ok (.aload_n 2, 1) := by decide +kernel
theorem d_W_law_597 : decode code 597 = .ok (.aload_n 0, 1) := by decide +kernel
theorem d_W_law_598 : decode code 598 = .ok (.iload (4), 2) := by decide +kernel
theorem d_W_law_600 : decode code 600 = .ok (.iconst 1, 1) := by decide +kernel
theorem d_W_law_601 : decode code 601 = .ok (.iadd, 1) := by decide +kernel
theorem d_W_law_602 : decode code 602 = .ok (.iaload, 1) := by decide +kernel
theorem d_W_law_603 : decode code 603 = .ok (.invokevirtual (100), 3) := by decide +kernel
theorem d_W_law_606 : decode code 606 = .ok (.lstore (6), 2) := by decide +kernel
theorem d_W_law_608 : decode code 608 = .ok (.aload_n 2, 1) := by decide +kernel
theorem d_W_law_609 : decode code 609 = .ok (.invokevirtual (80), 3) := by decide +kernel
theorem d_W_law_612 : decode code 612 = .ok (.iload (5), 2) := by decide +kernel
theorem d_W_law_614 : decode code 614 = .ok (.if_icmp .eq (5), 3) := by decide +kernel
theorem d_W_law_617 : decode code 617 = .ok (.iconst 0, 1) := by decide +kernel
theorem d_W_law_618 : decode code 618 = .ok (.ireturn, 1) := by decide +kernel
theorem d_W_law_619 : decode code 619 = .ok (.iload (5), 2) := by decide +kernel
theorem d_W_law_621 : decode code 621 = .ok (.ifCond .ne (14), 3) := by decide +kernel
theorem d_W_law_624 : decode code 624 = .ok (.aload_n 3, 1) := by decide +kernel
theorem d_W_law_625 : decode code 625 = .ok (.iconst 0, 1) := by decide +kernel
theorem d_W_law_626 : decode code 626 = .ok (.laload, 1) := by decide +kernel
theorem d_W_law_627 : decode code 627 = .ok (.lload (6), 2) := by decide +kernel
theorem d_W_law_629 : decode code 629 = .ok (.lcmp, 1) := by decide +kernel
theorem d_W_law_630 : decode code 630 = .ok (.ifCond .eq (5), 3) := by decide +kernel
theorem d_W_law_633 : decode code 633 = .ok (.iconst 0, 1) := by decide +kernel
theorem d_W_law_634 : decode code 634 = .ok (.ireturn, 1) := by decide +kernel
theorem d_W_law_635 : decode code 635 = .ok (.goto (269), 3) := by decide +kernel
theorem d_W_law_638 : decode code 638 = .ok (.aload_n 1, 1) := by decide +kernel
theorem d_W_law_639 : decode code 639 = .ok (.aload_n 0, 1) := by decide +kernel
theorem d_W_law_640 : decode code 640 = .ok (.iload (4), 2) := by decide +kernel
theorem d_W_law_642 : decode code 642 = .ok (.iconst 1, 1) := by decide +kernel
theorem d_W_law_643 : decode code 643 = .ok (.iadd, 1) := by decide +kernel
theorem d_W_law_644 : decode code 644 = .ok (.iaload, 1) := by decide +kernel
theorem d_W_law_645 : decode code 645 = .ok (.aload_n 3, 1) := by decide +kernel
theorem d_W_law_646 : decode code 646 = .ok (.invokestatic (101), 3) := by decide +kernel
theorem d_W_law_649 : decode code 649 = .ok (.istore (5), 2) := by decide +kernel
theorem d_W_law_651 : decode code 651 = .ok (.aload_n 2, 1) := by decide +kernel
theorem d_W_law_652 : decode code 652 = .ok (.aload_n 0, 1) := by decide +kernel
theorem d_W_law_653 : decode code 653 = .ok (.iload (4), 2) := by decide +kernel
theorem d_W_law_655 : decode code 655 = .ok (.iconst 1, 1) := by decide +kernel
theorem d_W_law_656 : decode code 656 = .ok (.iadd, 1) := by decide +kernel
theorem d_W_law_657 : decode code 657 = .ok (.iaload, 1) := by decide +kernel
theorem d_W_law_658 : decode code 658 = .ok (.invokevirtual (103), 3) := by decide +kernel
theorem d_W_law_661 : decode code 661 = .ok (.lstore (6), 2) := by decide +kernel
theorem d_W_law_663 : decode code 663 = .ok (.aload_n 2, 1) := by decide +kernel
theorem d_W_law_664 : decode code 664 = .ok (.invokevirtual (80), 3) := by decide +kernel
theorem d_W_law_667 : decode code 667 = .ok (.iload (5), 2) := by decide +kernel
theorem d_W_law_669 : decode code 669 = .ok (.if_icmp .eq (5), 3) := by decide +kernel
theorem d_W_law_672 : decode code 672 = .ok (.iconst 0, 1) := by decide +kernel
theorem d_W_law_673 : decode code 673 = .ok (.ireturn, 1) := by decide +kernel
theorem d_W_law_674 : decode code 674 = .ok (.iload (5), 2) := by decide +kernel
theorem d_W_law_676 : decode code 676 = .ok (.ifCond .ne (14), 3) := by decide +kernel
theorem d_W_law_679 : decode code 679 = .ok (.aload_n 3, 1) := by decide +kernel
theorem d_W_law_680 : decode code 680 = .ok (.iconst 0, 1) := by decide +kernel
theorem d_W_law_681 : decode code 681 = .ok (.laload, 1) := by decide +kernel
theorem d_W_law_682 : decode code 682 = .ok (.lload (6), 2) := by decide +kernel
theorem d_W_law_684 : decode code 684 = .ok (.lcmp, 1) := by decide +kernel
theorem d_W_law_685 : decode code 685 = .ok (.ifCond .eq (5), 3) := by decide +kernel
theorem d_W_law_688 : decode code 688 = .ok (.iconst 0, 1) := by decide +kernel
theorem d_W_law_689 : decode code 689 = .ok (.ireturn, 1) := by decide +kernel
theorem d_W_law_690 : decode code 690 = .ok (.goto (214), 3) := by decide +kernel
theorem d_W_law_693 : decode code 693 = .ok (.aload_n 1, 1) := by decide +kernel
theorem d_W_law_694 : decode code 694 = .ok (.aload_n 0, 1) := by decide +kernel
theorem d_W_law_695 : decode code 695 = .ok (.iload (4), 2) := by decide +kernel
theorem d_W_law_697 : decode code 697 = .ok (.iconst 1, 1) := by decide +kernel
theorem d_W_law_698 : decode code 698 = .ok (.iadd, 1) := by decide +kernel
theorem d_W_law_699 : decode code 699 = .ok (.iaload, 1) := by decide +kernel
theorem d_W_law_700 : decode code 700 = .ok (.aload_n 3, 1) := by decide +kernel
theorem d_W_law_701 : decode code 701 = .ok (.invokestatic (104), 3) := by decide +kernel
theorem d_W_law_704 : decode code 704 = .ok (.istore (5), 2) := by decide +kernel
theorem d_W_law_706 : decode code 706 = .ok (.aload_n 2, 1) := by decide +kernel
theorem d_W_law_707 : decode code 707 = .ok (.aload_n 0, 1) := by decide +kernel
theorem d_W_law_708 : decode code 708 = .ok (.iload (4), 2) := by decide +kernel
theorem d_W_law_710 : decode code 710 = .ok (.iconst 1, 1) := by decide +kernel
theorem d_W_law_711 : decode code 711 = .ok (.iadd, 1) := by decide +kernel
theorem d_W_law_712 : decode code 712 = .ok (.iaload, 1) := by decide +kernel
theorem d_W_law_713 : decode code 713 = .ok (.invokevirtual (106), 3) := by decide +kernel
theorem d_W_law_716 : decode code 716 = .ok (.lstore (6), 2) := by decide +kernel
theorem d_W_law_718 : decode code 718 = .ok (.aload_n 2, 1) := by decide +kernel
theorem d_W_law_719 : decode code 719 = .ok (.invokevirtual (80), 3) := by decide +kernel
theorem d_W_law_722 : decode code 722 = .ok (.iload (5), 2) := by decide +kernel
theorem d_W_law_724 : decode code 724 = .ok (.if_icmp .eq (5), 3) := by decide +kernel
theorem d_W_law_727 : decode code 727 = .ok (.iconst 0, 1) := by decide +kernel
theorem d_W_law_728 : decode code 728 = .ok (.ireturn, 1) := by decide +kernel
theorem d_W_law_729 : decode code 729 = .ok (.iload (5), 2) := by decide +kernel
theorem d_W_law_731 : decode code 731 = .ok (.ifCond .ne (14), 3) := by decide +kernel
theorem d_W_law_734 : decode code 734 = .ok (.aload_n 3, 1) := by decide +kernel
theorem d_W_law_735 : decode code 735 = .ok (.iconst 0, 1) := by decide +kernel
theorem d_W_law_736 : decode code 736 = .ok (.laload, 1) := by decide +kernel
theorem d_W_law_737 : decode code 737 = .ok (.lload (6), 2) := by decide +kernel
theorem d_W_law_739 : decode code 739 = .ok (.lcmp, 1) := by decide +kernel
theorem d_W_law_740 : decode code 740 = .ok (.ifCond .eq (5), 3) := by decide +kernel
theorem d_W_law_743 : decode code 743 = .ok (.iconst 0, 1) := by decide +kernel
theorem d_W_law_744 : decode code 744 = .ok (.ireturn, 1) := by decide +kernel
theorem d_W_law_745 : decode code 745 = .ok (.goto (159), 3) := by decide +kernel
theorem d_W_law_748 : decode code 748 = .ok (.aload_n 1, 1) := by decide +kernel
theorem d_W_law_749 : decode code 749 = .ok (.aload_n 3, 1) := by decide +kernel
theorem d_W_law_750 : decode code 750 = .ok (.invokestatic (107), 3) := by decide +kernel
theorem d_W_law_753 : decode code 753 = .ok (.istore (5), 2) := by decide +kernel
theorem d_W_law_755 : decode code 755 = .ok (.aload_n 2, 1) := by decide +kernel
theorem d_W_law_756 : decode code 756 = .ok (.invokevirtual (110), 3) := by decide +kernel
theorem d_W_law_759 : decode code 759 = .ok (.istore (6), 2) := by decide +kernel
theorem d_W_law_761 : decode code 761 = .ok (.aload_n 2, 1) := by decide +kernel
theorem d_W_law_762 : decode code 762 = .ok (.invokevirtual (80), 3) := by decide +kernel
theorem d_W_law_765 : decode code 765 = .ok (.iload (5), 2) := by decide +kernel
theorem d_W_law_767 : decode code 767 = .ok (.if_icmp .eq (5), 3) := by decide +kernel
theorem d_W_law_770 : decode code 770 = .ok (.iconst 0, 1) := by decide +kernel
theorem d_W_law_771 : decode code 771 = .ok (.ireturn, 1) := by decide +kernel
theorem d_W_law_772 : decode code 772 = .ok (.iload (5), 2) := by decide +kernel
theorem d_W_law_774 : decode code 774 = .ok (.ifCond .ne (15), 3) := by decide +kernel
theorem d_W_law_777 : decode code 777 = .ok (.aload_n 3, 1) := by decide +kernel
theorem d_W_law_778 : decode code 778 = .ok (.iconst 0, 1) := by decide +kernel
theorem d_W_law_779 : decode code 779 = .ok (.laload, 1) := by decide +kernel
theorem d_W_law_780 : decode code 780 = .ok (.iload (6), 2) := by decide +kernel
theorem d_W_law_782 : decode code 782 = .ok (.i2l, 1) := by decide +kernel
theorem d_W_law_783 : decode code 783 = .ok (.lcmp, 1) := by decide +kernel
theorem d_W_law_784 : decode code 784 = .ok (.ifCond .eq (5), 3) := by decide +kernel
theorem d_W_law_787 : decode code 787 = .ok (.iconst 0, 1) := by decide +kernel
theorem d_W_law_788 : decode code 788 = .ok (.ireturn, 1) := by decide +kernel
theorem d_W_law_789 : decode code 789 = .ok (.goto (115), 3) := by decide +kernel
theorem d_W_law_792 : decode code 792 = .ok (.aload_n 1, 1) := by decide +kernel
theorem d_W_law_793 : decode code 793 = .ok (.aload_n 3, 1) := by decide +kernel
theorem d_W_law_794 : decode code 794 = .ok (.invokestatic (111), 3) := by decide +kernel
theorem d_W_law_797 : decode code 797 = .ok (.istore (5), 2) := by decide +kernel
theorem d_W_law_799 : decode code 799 = .ok (.aload_n 2, 1) := by decide +kernel
theorem d_W_law_800 : decode code 800 = .ok (.invokevirtual (113), 3) := by decide +kernel
theorem d_W_law_803 : decode code 803 = .ok (.istore (6), 2) := by decide +kernel
theorem d_W_law_805 : decode code 805 = .ok (.aload_n 2, 1) := by decide +kernel
theorem d_W_law_806 : decode code 806 = .ok (.invokevirtual (80), 3) := by decide +kernel
theorem d_W_law_809 : decode code 809 = .ok (.iload (5), 2) := by decide +kernel
theorem d_W_law_811 : decode code 811 = .ok (.if_icmp .eq (5), 3) := by decide +kernel
theorem d_W_law_814 : decode code 814 = .ok (.iconst 0, 1) := by decide +kernel
theorem d_W_law_815 : decode code 815 = .ok (.ireturn, 1) := by decide +kernel
theorem d_W_law_816 : decode code 816 = .ok (.iload (5), 2) := by decide +kernel
theorem d_W_law_818 : decode code 818 = .ok (.ifCond .ne (15), 3) := by decide +kernel
theorem d_W_law_821 : decode code 821 = .ok (.aload_n 3, 1) := by decide +kernel
theorem d_W_law_822 : decode code 822 = .ok (.iconst 0, 1) := by decide +kernel
theorem d_W_law_823 : decode code 823 = .ok (.laload, 1) := by decide +kernel
theorem d_W_law_824 : decode code 824 = .ok (.iload (6), 2) := by decide +kernel
theorem d_W_law_826 : decode code 826 = .ok (.i2l, 1) := by decide +kernel
theorem d_W_law_827 : decode code 827 = .ok (.lcmp, 1) := by decide +kernel
theorem d_W_law_828 : decode code 828 = .ok (.ifCond .eq (5), 3) := by decide +kernel
theorem d_W_law_831 : decode code 831 = .ok (.iconst 0, 1) := by decide +kernel
theorem d_W_law_832 : decode code 832 = .ok (.ireturn, 1) := by decide +kernel
theorem d_W_law_833 : decode code 833 = .ok (.goto (71), 3) := by decide +kernel
theorem d_W_law_836 : decode code 836 = .ok (.aload_n 1, 1) := by decide +kernel
theorem d_W_law_837 : decode code 837 = .ok (.aload_n 0, 1) := by decide +kernel
theorem d_W_law_838 : decode code 838 = .ok (.iload (4), 2) := by decide +kernel
theorem d_W_law_840 : decode code 840 = .ok (.iconst 1, 1) := by decide +kernel
theorem d_W_law_841 : decode code 841 = .ok (.iadd, 1) := by decide +kernel
theorem d_W_law_842 : decode code 842 = .ok (.iaload, 1) := by decide +kernel
theorem d_W_law_843 : decode code 843 = .ok (.aload_n 0, 1) := by decide +kernel
theorem d_W_law_844 : decode code 844 = .ok (.iload (4), 2) := by decide +kernel
theorem d_W_law_846 : decode code 846 = .ok (.iconst 2, 1) := by decide +kernel
theorem d_W_law_847 : decode code 847 = .ok (.iadd, 1) := by decide +kernel
theorem d_W_law_848 : decode code 848 = .ok (.iaload, 1) := by decide +kernel
theorem d_W_law_849 : decode code 849 = .ok (.aload_n 3, 1) := by decide +kernel
theorem d_W_law_850 : decode code 850 = .ok (.invokestatic (114), 3) := by decide +kernel
theorem d_W_law_853 : decode code 853 = .ok (.istore (5), 2) := by decide +kernel
theorem d_W_law_855 : decode code 855 = .ok (.aload_n 2, 1) := by decide +kernel
theorem d_W_law_856 : decode code 856 = .ok (.aload_n 0, 1) := by decide +kernel
theorem d_W_law_857 : decode code 857 = .ok (.iload (4), 2) := by decide +kernel
theorem d_W_law_859 : decode code 859 = .ok (.iconst 1, 1) := by decide +kernel
theorem d_W_law_860 : decode code 860 = .ok (.iadd, 1) := by decide +kernel
theorem d_W_law_861 : decode code 861 = .ok (.iaload, 1) := by decide +kernel
theorem d_W_law_862 : decode code 862 = .ok (.aload_n 0, 1) := by decide +kernel
theorem d_W_law_863 : decode code 863 = .ok (.iload (4), 2) := by decide +kernel
theorem d_W_law_865 : decode code 865 = .ok (.iconst 2, 1) := by decide +kernel
theorem d_W_law_866 : decode code 866 = .ok (.iadd, 1) := by decide +kernel
theorem d_W_law_867 : decode code 867 = .ok (.iaload, 1) := by decide +kernel
theorem d_W_law_868 : decode code 868 = .ok (.invokevirtual (117), 3) := by decide +kernel
theorem d_W_law_871 : decode code 871 = .ok (.istore (6), 2) := by decide +kernel
theorem d_W_law_873 : decode code 873 = .ok (.aload_n 2, 1) := by decide +kernel
theorem d_W_law_874 : decode code 874 = .ok (.invokevirtual (80), 3) := by decide +kernel
theorem d_W_law_877 : decode code 877 = .ok (.iload (5), 2) := by decide +kernel
theorem d_W_law_879 : decode code 879 = .ok (.if_icmp .eq (5), 3) := by decide +kernel
theorem d_W_law_882 : decode code 882 = .ok (.iconst 0, 1) := by decide +kernel
theorem d_W_law_883 : decode code 883 = .ok (.ireturn, 1) := by decide +kernel
theorem d_W_law_884 : decode code 884 = .ok (.iload (5), 2) := by decide +kernel
theorem d_W_law_886 : decode code 886 = .ok (.ifCond .ne (15), 3) := by decide +kernel
theorem d_W_law_889 : decode code 889 = .ok (.aload_n 3, 1) := by decide +kernel
theorem d_W_law_890 : decode code 890 = .ok (.iconst 0, 1) := by decide +kernel
theorem d_W_law_891 : decode code 891 = .ok (.laload, 1) := by decide +kernel
theorem d_W_law_892 : decode code 892 = .ok (.iload (6), 2) := by decide +kernel
theorem d_W_law_894 : decode code 894 = .ok (.i2l, 1) := by decide +kernel
theorem d_W_law_895 : decode code 895 = .ok (.lcmp, 1) := by decide +kernel
theorem d_W_law_896 : decode code 896 = .ok (.ifCond .eq (5), 3) := by decide +kernel
theorem d_W_law_899 : decode code 899 = .ok (.iconst 0, 1) := by decide +kernel
theorem d_W_law_900 : decode code 900 = .ok (.ireturn, 1) := by decide +kernel
theorem d_W_law_901 : decode code 901 = .ok (.goto (3), 3) := by decide +kernel
theorem d_W_law_904 : decode code 904 = .ok (.iinc 4 (4), 3) := by decide +kernel
theorem d_W_law_907 : decode code 907 = .ok (.goto (-884), 3) := by decide +kernel
theorem d_W_law_910 : decode code 910 = .ok (.iconst 1, 1) := by decide +kernel
theorem d_W_law_911 : decode code 911 = .ok (.ireturn, 1) := by decide +kernel
theorem lcw_57 : ax_cw "CipherNotationLaw" 57 y_X_write (.code y_X_write prog_1_method_2_code 6 (some .int)) 1 := ⟨nw_2 45 (by decide +kernel) rfl, nw_1 1 (by decide +kernel) rfl, nw_2 48 rfl rfl, by decide +kernel, by decide +kernel⟩
theorem lim_57 : Cond.instanceMethod y_X_write ∈ ax_tbl := nw_2 46 (by decide +kernel) rfl
theorem lse_57 : Cond.selects y_X_write.cls y_X_write y_X_write ∈ ax_tbl := nw_2 47 (by decide +kernel) rfl
theorem lcw_61 : ax_cw "CipherNotationLaw" 61 y_Z_write (.code y_Z_write prog_8_method_3_code 6 (some .int)) 1 := ⟨nw_5 122 (by decide +kernel) rfl, nw_1 7 (by decide +kernel) rfl, nw_5 125 rfl rfl, by decide +kernel, by decide +kernel⟩
theorem lim_61 : Cond.instanceMethod y_Z_write ∈ ax_tbl := nw_5 123 (by decide +kernel) rfl
theorem lse_61 : Cond.selects y_Z_write.cls y_Z_write y_Z_write ∈ ax_tbl := nw_5 124 (by decide +kernel) rfl
set_option maxHeartbeats 4000000 in
set_option maxRecDepth 100000 in
theorem lc_write {p : Program} {l : Launch} {e : Env} {R : Room} {st : State} {m : MethodId} {args : Array Value} {below : List Frame} {meth : Method} {c : Code} {Q : State → Prop} {A : Nat → Prop} {D : va_G} {cA : Nat → ClassId} {ad : Nat → Nat → Nat} {al : List (Nat × Nat)} {θ : ax_Θ} {b Ln cells slots : Nat} {xs : Nat → Int32} {i : Int32} {s : ax_σ} {ρ : ax_ρ} (hK : ax_K "CipherNotationLaw" code 8 ((p, l, e, R, st, m, args), (below, meth, c), (Q, A), (D, cA, ad, al, θ))) (hfr : 100 ≤ R.frames) (hlo : 8000 ≤ R.locals) (hX : ax_scr b Ln xs ((p, l, e, R, st, m, args), (below, meth, c), (Q, A), (D, cA, ad, al, θ))) (h0 : ax_M0 al) (hc : cells ≤ R.cells) (hs : slots ≤ R.slots) (hk1 : vp_in (i + (1 : Int32)) Ln) (hk2 : vp_in (i + (2 : Int32)) Ln) {s1 : ax_σ} {r : Int32} {ρ1 : ax_ρ} (hT : ax_T l D cA ad al θ y_X_write (.code y_X_write prog_1_method_2_code 6 (some .int)) 0 [.inr (0, 23), .inl (.long (((((xs ((i + (1 : Int32))).toNatClampNeg)).toInt64 <<< (((32 : Int32)).toInt64 &&& 63)) ||| (((xs ((i + (2 : Int32))).toNatClampNeg)).toInt64 &&& (4294967295 : Int64)))))] (ax_m s ρ) (some (.inl (.int r))) (ax_m s1 ρ)) {F : Nat} {s2 : ax_σ} (hz2 : f_Z_write F (((((xs ((i + (1 : Int32))).toNatClampNeg)).toInt64 <<< (((32 : Int32)).toInt64 &&& 63)) ||| (((xs ((i + (2 : Int32))).toNatClampNeg)).toInt64 &&& (4294967295 : Int64)))) s1 = some (r, s2)) (kk : ax_R ((p, l, e, R, st, m, args), (below, meth, c), (Q, A), (D, cA, ad, al, θ)) 8 cells slots (904, [(4, .inl (.int (i))), (3, .inr (0, 37)), (2, .inr (0, 38)), (1, .inr (0, 23)), (0, .inl (.ref b))], [], ax_m s2 ρ)) : ax_R ((p, l, e, R, st, m, args), (below, meth, c), (Q, A), (D, cA, ad, al, θ)) 8 cells slots (112, [(4, .inl (.int (i))), (3, .inr (0, 37)), (2, .inr (0, 38)), (1, .inr (0, 23)), (0, .inl (.ref b))], [], ax_m s ρ) := by
  have hal : ax_al ((p, l, e, R, st, m, args), (below, meth, c), (Q, A), (D, cA, ad, al, θ)) = al := rfl
  refine ax_bk hK (ax_fc (ax_v_ld (ax_r_aload_n (i := 1) d_W_law_112 rfl)) (ax_fc (ax_v_ld (ax_r_aload_n (i := 0) d_W_law_113 rfl)) (ax_fc (ax_v_ld (ax_r_iload d_W_law_114)) (ax_fc (ax_v_pu (ax_r_iconst (v := 1) d_W_law_116 (by decide))) (ax_fc (ax_v_pu (ax_r_iadd d_W_law_117)) (ax_fc (ax_w_sc hX d_W_law_118) (ax_fc (ax_v_pu (ax_r_i2l d_W_law_119)) (ax_fc (ax_v_pu (ax_r_bipush (v := 32) d_W_law_120 (by decide))) (ax_fc (ax_v_pu (ax_r_lshl d_W_law_122)) (ax_fc (ax_v_ld (ax_r_aload_n (i := 0) d_W_law_123 rfl)) (ax_fc (ax_v_ld (ax_r_iload d_W_law_124)) (ax_fc (ax_v_pu (ax_r_iconst (v := 2) d_W_law_126 (by decide))) (ax_fc (ax_v_pu (ax_r_iadd d_W_law_127)) (ax_fc (ax_w_sc hX d_W_law_128) (ax_fc (ax_v_pu (ax_r_i2l d_W_law_129)) (ax_fc (ax_v_ldc2 (v := 4294967295) d_W_law_130 (nw_6 159 (by decide +kernel) rfl)) (ax_fc (ax_v_pu (ax_r_land d_W_law_133)) (ax_fc (ax_v_pu (ax_r_lor d_W_law_134)) ax_fn)))))))))))))))))) (y := (135, [(4, .inl (.int (i))), (3, .inr (0, 37)), (2, .inr (0, 38)), (1, .inr (0, 23)), (0, .inl (.ref b))], [.inl (.long (((((xs ((i + (1 : Int32))).toNatClampNeg)).toInt64 <<< (((32 : Int32)).toInt64 &&& 63)) ||| (((xs ((i + (2 : Int32))).toNatClampNeg)).toInt64 &&& (4294967295 : Int64))))), .inr (0, 23)], ax_m s ρ)) rfl ⟨trivial, trivial, trivial, trivial, trivial, ⟨rfl, hk1⟩, trivial, trivial, trivial, trivial, trivial, trivial, trivial, ⟨rfl, hk2⟩, trivial, trivial, trivial, trivial, trivial⟩ ?_
  refine ax_gV (rest := []) hK (Nat.le_trans (by decide) hfr) (Nat.le_trans (by decide) hlo) hT lcw_57 lim_57 lse_57 d_W_law_135 (h0 23 rfl) rfl rfl (by decide) rfl rfl (Nat.le_of_ble_eq_true rfl) hc hs ?_
  change ax_R _ 8 cells slots (138, [(4, .inl (.int (i))), (3, .inr (0, 37)), (2, .inr (0, 38)), (1, .inr (0, 23)), (0, .inl (.ref b))], [.inl (.int (r))], ax_m s1 ρ)
  refine ax_bk hK (ax_fc (ax_v_ld (ax_r_aload_n (i := 2) d_W_law_138 rfl)) (ax_fc (ax_v_ld (ax_r_aload_n (i := 0) d_W_law_139 rfl)) (ax_fc (ax_v_ld (ax_r_iload d_W_law_140)) (ax_fc (ax_v_pu (ax_r_iconst (v := 1) d_W_law_142 (by decide))) (ax_fc (ax_v_pu (ax_r_iadd d_W_law_143)) (ax_fc (ax_w_sc hX d_W_law_144) (ax_fc (ax_v_pu (ax_r_i2l d_W_law_145)) (ax_fc (ax_v_pu (ax_r_bipush (v := 32) d_W_law_146 (by decide))) (ax_fc (ax_v_pu (ax_r_lshl d_W_law_148)) (ax_fc (ax_v_ld (ax_r_aload_n (i := 0) d_W_law_149 rfl)) (ax_fc (ax_v_ld (ax_r_iload d_W_law_150)) (ax_fc (ax_v_pu (ax_r_iconst (v := 2) d_W_law_152 (by decide))) (ax_fc (ax_v_pu (ax_r_iadd d_W_law_153)) (ax_fc (ax_w_sc hX d_W_law_154) (ax_fc (ax_v_pu (ax_r_i2l d_W_law_155)) (ax_fc (ax_v_ldc2 (v := 4294967295) d_W_law_156 (nw_6 159 (by decide +kernel) rfl)) (ax_fc (ax_v_pu (ax_r_land d_W_law_159)) (ax_fc (ax_v_pu (ax_r_lor d_W_law_160)) ax_fn)))))))))))))))))) (y := (161, [(4, .inl (.int (i))), (3, .inr (0, 37)), (2, .inr (0, 38)), (1, .inr (0, 23)), (0, .inl (.ref b))], [.inl (.long (((((xs ((i + (1 : Int32))).toNatClampNeg)).toInt64 <<< (((32 : Int32)).toInt64 &&& 63)) ||| (((xs ((i + (2 : Int32))).toNatClampNeg)).toInt64 &&& (4294967295 : Int64))))), .inr (0, 38), .inl (.int (r))], ax_m s1 ρ)) rfl ⟨trivial, trivial, trivial, trivial, trivial, ⟨rfl, hk1⟩, trivial, trivial, trivial, trivial, trivial, trivial, trivial, ⟨rfl, hk2⟩, trivial, trivial, trivial, trivial, trivial⟩ ?_
  refine ax_gV (rest := [.inl (.int (r))]) hK (Nat.le_trans (by decide) hfr) (Nat.le_trans (by decide) hlo) (t_Z_write h0 hz2) lcw_61 lim_61 lse_61 d_W_law_161 (h0 38 rfl) rfl rfl (by decide) rfl rfl (Nat.le_of_ble_eq_true rfl) hc hs ?_
  change ax_R _ 8 cells slots (164, [(4, .inl (.int (i))), (3, .inr (0, 37)), (2, .inr (0, 38)), (1, .inr (0, 23)), (0, .inl (.ref b))], [.inl (.int (r)), .inl (.int (r))], ax_m s2 ρ)
  exact ax_ic_eq (tgt := 904) hK d_W_law_164 (by decide) (fun _ => kk) (fun c9 => absurd rfl c9)
theorem lcw_62 : ax_cw "CipherNotationLaw" 62 y_X_wipe (.code y_X_wipe prog_1_method_3_code 2 (some .int)) 0 := ⟨nw_2 49 (by decide +kernel) rfl, nw_1 1 (by decide +kernel) rfl, nw_2 52 rfl rfl, by decide +kernel, by decide +kernel⟩
theorem lim_62 : Cond.instanceMethod y_X_wipe ∈ ax_tbl := nw_2 50 (by decide +kernel) rfl
theorem lse_62 : Cond.selects y_X_wipe.cls y_X_wipe y_X_wipe ∈ ax_tbl := nw_2 51 (by decide +kernel) rfl
theorem lcw_65 : ax_cw "CipherNotationLaw" 65 y_Z_wipe (.code y_Z_wipe prog_8_method_4_code 2 (some .int)) 0 := ⟨nw_5 127 (by decide +kernel) rfl, nw_1 7 (by decide +kernel) rfl, nw_5 130 rfl rfl, by decide +kernel, by decide +kernel⟩
theorem lim_65 : Cond.instanceMethod y_Z_wipe ∈ ax_tbl := nw_5 128 (by decide +kernel) rfl
theorem lse_65 : Cond.selects y_Z_wipe.cls y_Z_wipe y_Z_wipe ∈ ax_tbl := nw_5 129 (by decide +kernel) rfl
set_option maxHeartbeats 4000000 in
set_option maxRecDepth 100000 in
theorem lc_wipe {p : Program} {l : Launch} {e : Env} {R : Room} {st : State} {m : MethodId} {args : Array Value} {below : List Frame} {meth : Method} {c : Code} {Q : State → Prop} {A : Nat → Prop} {D : va_G} {cA : Nat → ClassId} {ad : Nat → Nat → Nat} {al : List (Nat × Nat)} {θ : ax_Θ} {b Ln cells slots : Nat} {xs : Nat → Int32} {i : Int32} {s : ax_σ} {ρ : ax_ρ} (hK : ax_K "CipherNotationLaw" code 8 ((p, l, e, R, st, m, args), (below, meth, c), (Q, A), (D, cA, ad, al, θ))) (hfr : 100 ≤ R.frames) (hlo : 8000 ≤ R.locals) (hX : ax_scr b Ln xs ((p, l, e, R, st, m, args), (below, meth, c), (Q, A), (D, cA, ad, al, θ))) (h0 : ax_M0 al) (hc : cells ≤ R.cells) (hs : slots ≤ R.slots)  {s1 : ax_σ} {r : Int32} {ρ1 : ax_ρ} (hT : ax_T l D cA ad al θ y_X_wipe (.code y_X_wipe prog_1_method_3_code 2 (some .int)) 0 [.inr (0, 23)] (ax_m s ρ) (some (.inl (.int r))) (ax_m s1 ρ)) {F : Nat} {s2 : ax_σ} (hz2 : f_Z_wipe  s1 = some (r, s2)) (kk : ax_R ((p, l, e, R, st, m, args), (below, meth, c), (Q, A), (D, cA, ad, al, θ)) 8 cells slots (904, [(4, .inl (.int (i))), (3, .inr (0, 37)), (2, .inr (0, 38)), (1, .inr (0, 23)), (0, .inl (.ref b))], [], ax_m s2 ρ)) : ax_R ((p, l, e, R, st, m, args), (below, meth, c), (Q, A), (D, cA, ad, al, θ)) 8 cells slots (169, [(4, .inl (.int (i))), (3, .inr (0, 37)), (2, .inr (0, 38)), (1, .inr (0, 23)), (0, .inl (.ref b))], [], ax_m s ρ) := by
  have hal : ax_al ((p, l, e, R, st, m, args), (below, meth, c), (Q, A), (D, cA, ad, al, θ)) = al := rfl
  refine ax_bk hK (ax_fc (ax_v_ld (ax_r_aload_n (i := 1) d_W_law_169 rfl)) ax_fn) (y := (170, [(4, .inl (.int (i))), (3, .inr (0, 37)), (2, .inr (0, 38)), (1, .inr (0, 23)), (0, .inl (.ref b))], [.inr (0, 23)], ax_m s ρ)) rfl ⟨trivial, trivial⟩ ?_
  refine ax_gV (rest := []) hK (Nat.le_trans (by decide) hfr) (Nat.le_trans (by decide) hlo) hT lcw_62 lim_62 lse_62 d_W_law_170 (h0 23 rfl) rfl rfl (by decide) rfl rfl (Nat.le_of_ble_eq_true rfl) hc hs ?_
  change ax_R _ 8 cells slots (173, [(4, .inl (.int (i))), (3, .inr (0, 37)), (2, .inr (0, 38)), (1, .inr (0, 23)), (0, .inl (.ref b))], [.inl (.int (r))], ax_m s1 ρ)
  refine ax_bk hK (ax_fc (ax_v_ld (ax_r_aload_n (i := 2) d_W_law_173 rfl)) ax_fn) (y := (174, [(4, .inl (.int (i))), (3, .inr (0, 37)), (2, .inr (0, 38)), (1, .inr (0, 23)), (0, .inl (.ref b))], [.inr (0, 38), .inl (.int (r))], ax_m s1 ρ)) rfl ⟨trivial, trivial⟩ ?_
  refine ax_gV (rest := [.inl (.int (r))]) hK (Nat.le_trans (by decide) hfr) (Nat.le_trans (by decide) hlo) (t_Z_wipe h0 hz2) lcw_65 lim_65 lse_65 d_W_law_174 (h0 38 rfl) rfl rfl (by decide) rfl rfl (Nat.le_of_ble_eq_true rfl) hc hs ?_
  change ax_R _ 8 cells slots (177, [(4, .inl (.int (i))), (3, .inr (0, 37)), (2, .inr (0, 38)), (1, .inr (0, 23)), (0, .inl (.ref b))], [.inl (.int (r)), .inl (.int (r))], ax_m s2 ρ)
  exact ax_ic_eq (tgt := 904) hK d_W_law_177 (by decide) (fun _ => kk) (fun c9 => absurd rfl c9)
theorem lcw_66 : ax_cw "CipherNotationLaw" 66 y_X_compile (.code y_X_compile prog_1_method_4_code 3 (some .int)) 0 := ⟨nw_2 53 (by decide +kernel) rfl, nw_1 1 (by decide +kernel) rfl, nw_2 56 rfl rfl, by decide +kernel, by decide +kernel⟩
theorem lim_66 : Cond.instanceMethod y_X_compile ∈ ax_tbl := nw_2 54 (by decide +kernel) rfl
theorem lse_66 : Cond.selects y_X_compile.cls y_X_compile y_X_compile ∈ ax_tbl := nw_2 55 (by decide +kernel) rfl
theorem lcw_69 : ax_cw "CipherNotationLaw" 69 y_Z_compile (.code y_Z_compile prog_8_method_45_code 4 (some .int)) 0 := ⟨nw_5 131 (by decide +kernel) rfl, nw_1 7 (by decide +kernel) rfl, nw_5 134 rfl rfl, by decide +kernel, by decide +kernel⟩
theorem lim_69 : Cond.instanceMethod y_Z_compile ∈ ax_tbl := nw_5 132 (by decide +kernel) rfl
theorem lse_69 : Cond.selects y_Z_compile.cls y_Z_compile y_Z_compile ∈ ax_tbl := nw_5 133 (by decide +kernel) rfl
set_option maxHeartbeats 4000000 in
set_option maxRecDepth 100000 in
theorem lc_compile {p : Program} {l : Launch} {e : Env} {R : Room} {st : State} {m : MethodId} {args : Array Value} {below : List Frame} {meth : Method} {c : Code} {Q : State → Prop} {A : Nat → Prop} {D : va_G} {cA : Nat → ClassId} {ad : Nat → Nat → Nat} {al : List (Nat × Nat)} {θ : ax_Θ} {b Ln cells slots : Nat} {xs : Nat → Int32} {i : Int32} {s : ax_σ} {ρ : ax_ρ} (hK : ax_K "CipherNotationLaw" code 8 ((p, l, e, R, st, m, args), (below, meth, c), (Q, A), (D, cA, ad, al, θ))) (hfr : 100 ≤ R.frames) (hlo : 8000 ≤ R.locals) (hX : ax_scr b Ln xs ((p, l, e, R, st, m, args), (below, meth, c), (Q, A), (D, cA, ad, al, θ))) (h0 : ax_M0 al) (hc : cells ≤ R.cells) (hs : slots ≤ R.slots)  {s1 : ax_σ} {r : Int32} {ρ1 : ax_ρ} (hT : ax_T l D cA ad al θ y_X_compile (.code y_X_compile prog_1_method_4_code 3 (some .int)) 42 [.inr (0, 23)] (ax_m s ρ) (some (.inl (.int r))) (ax_m s1 ρ1)) {F : Nat} {s2 : ax_σ} (hz2 : f_Z_compile F s1 = some (r, s2)) (kk : ax_R ((p, l, e, R, st, m, args), (below, meth, c), (Q, A), (D, cA, ad, al, θ)) 8 cells slots (904, [(4, .inl (.int (i))), (3, .inr (0, 37)), (2, .inr (0, 38)), (1, .inr (0, 23)), (0, .inl (.ref b))], [], ax_m s2 ρ1)) : ax_R ((p, l, e, R, st, m, args), (below, meth, c), (Q, A), (D, cA, ad, al, θ)) 8 cells slots (182, [(4, .inl (.int (i))), (3, .inr (0, 37)), (2, .inr (0, 38)), (1, .inr (0, 23)), (0, .inl (.ref b))], [], ax_m s ρ) := by
  have hal : ax_al ((p, l, e, R, st, m, args), (below, meth, c), (Q, A), (D, cA, ad, al, θ)) = al := rfl
  refine ax_bk hK (ax_fc (ax_v_ld (ax_r_aload_n (i := 1) d_W_law_182 rfl)) ax_fn) (y := (183, [(4, .inl (.int (i))), (3, .inr (0, 37)), (2, .inr (0, 38)), (1, .inr (0, 23)), (0, .inl (.ref b))], [.inr (0, 23)], ax_m s ρ)) rfl ⟨trivial, trivial⟩ ?_
  refine ax_gV (rest := []) hK (Nat.le_trans (by decide) hfr) (Nat.le_trans (by decide) hlo) hT lcw_66 lim_66 lse_66 d_W_law_183 (h0 23 rfl) rfl rfl (by decide) rfl rfl (Nat.le_of_ble_eq_true rfl) hc hs ?_
  change ax_R _ 8 cells slots (186, [(4, .inl (.int (i))), (3, .inr (0, 37)), (2, .inr (0, 38)), (1, .inr (0, 23)), (0, .inl (.ref b))], [.inl (.int (r))], ax_m s1 ρ1)
  refine ax_bk hK (ax_fc (ax_v_ld (ax_r_aload_n (i := 2) d_W_law_186 rfl)) ax_fn) (y := (187, [(4, .inl (.int (i))), (3, .inr (0, 37)), (2, .inr (0, 38)), (1, .inr (0, 23)), (0, .inl (.ref b))], [.inr (0, 38), .inl (.int (r))], ax_m s1 ρ1)) rfl ⟨trivial, trivial⟩ ?_
  refine ax_gV (rest := [.inl (.int (r))]) hK (Nat.le_trans (by decide) hfr) (Nat.le_trans (by decide) hlo) (t_Z_compile h0 hz2) lcw_69 lim_69 lse_69 d_W_law_187 (h0 38 rfl) rfl rfl (by decide) rfl rfl (Nat.le_of_ble_eq_true rfl) hc hs ?_
  change ax_R _ 8 cells slots (190, [(4, .inl (.int (i))), (3, .inr (0, 37)), (2, .inr (0, 38)), (1, .inr (0, 23)), (0, .inl (.ref b))], [.inl (.int (r)), .inl (.int (r))], ax_m s2 ρ1)
  exact ax_ic_eq (tgt := 904) hK d_W_law_190 (by decide) (fun _ => kk) (fun c9 => absurd rfl c9)
theorem lcw_70 : ax_cw "CipherNotationLaw" 70 y_X_place (.code y_X_place prog_1_method_5_code 1 (some .int)) 0 := ⟨nw_3 135 (by decide +kernel) rfl, nw_1 1 (by decide +kernel) rfl, nw_3 138 rfl rfl, by decide +kernel, by decide +kernel⟩
theorem lim_70 : Cond.instanceMethod y_X_place ∈ ax_tbl := nw_3 136 (by decide +kernel) rfl
theorem lse_70 : Cond.selects y_X_place.cls y_X_place y_X_place ∈ ax_tbl := nw_3 137 (by decide +kernel) rfl
theorem lcw_73 : ax_cw "CipherNotationLaw" 73 y_Z_place (.code y_Z_place prog_8_method_46_code 1 (some .int)) 0 := ⟨nw_6 58 (by decide +kernel) rfl, nw_1 7 (by decide +kernel) rfl, nw_6 61 rfl rfl, by decide +kernel, by decide +kernel⟩
theorem lim_73 : Cond.instanceMethod y_Z_place ∈ ax_tbl := nw_6 59 (by decide +kernel) rfl
theorem lse_73 : Cond.selects y_Z_place.cls y_Z_place y_Z_place ∈ ax_tbl := nw_6 60 (by decide +kernel) rfl
set_option maxHeartbeats 4000000 in
set_option maxRecDepth 100000 in
theorem lc_place {p : Program} {l : Launch} {e : Env} {R : Room} {st : State} {m : MethodId} {args : Array Value} {below : List Frame} {meth : Method} {c : Code} {Q : State → Prop} {A : Nat → Prop} {D : va_G} {cA : Nat → ClassId} {ad : Nat → Nat → Nat} {al : List (Nat × Nat)} {θ : ax_Θ} {b Ln cells slots : Nat} {xs : Nat → Int32} {i : Int32} {s : ax_σ} {ρ : ax_ρ} (hK : ax_K "CipherNotationLaw" code 8 ((p, l, e, R, st, m, args), (below, meth, c), (Q, A), (D, cA, ad, al, θ))) (hfr : 100 ≤ R.frames) (hlo : 8000 ≤ R.locals) (hX : ax_scr b Ln xs ((p, l, e, R, st, m, args), (below, meth, c), (Q, A), (D, cA, ad, al, θ))) (h0 : ax_M0 al) (hc : cells ≤ R.cells) (hs : slots ≤ R.slots)  {s1 : ax_σ} {r : Int32} {ρ1 : ax_ρ} (hT : ax_T l D cA ad al θ y_X_place (.code y_X_place prog_1_method_5_code 1 (some .int)) 0 [.inr (0, 23)] (ax_m s ρ) (some (.inl (.int r))) (ax_m s1 ρ)) {F : Nat} {s2 : ax_σ} (hz2 : f_Z_place  s1 = some (r, s2)) (kk : ax_R ((p, l, e, R, st, m, args), (below, meth, c), (Q, A), (D, cA, ad, al, θ)) 8 cells slots (904, [(4, .inl (.int (i))), (3, .inr (0, 37)), (2, .inr (0, 38)), (1, .inr (0, 23)), (0, .inl (.ref b))], [], ax_m s2 ρ)) : ax_R ((p, l, e, R, st, m, args), (below, meth, c), (Q, A), (D, cA, ad, al, θ)) 8 cells slots (195, [(4, .inl (.int (i))), (3, .inr (0, 37)), (2, .inr (0, 38)), (1, .inr (0, 23)), (0, .inl (.ref b))], [], ax_m s ρ) := by
  have hal : ax_al ((p, l, e, R, st, m, args), (below, meth, c), (Q, A), (D, cA, ad, al, θ)) = al := rfl
  refine ax_bk hK (ax_fc (ax_v_ld (ax_r_aload_n (i := 1) d_W_law_195 rfl)) ax_fn) (y := (196, [(4, .inl (.int (i))), (3, .inr (0, 37)), (2, .inr (0, 38)), (1, .inr (0, 23)), (0, .inl (.ref b))], [.inr (0, 23)], ax_m s ρ)) rfl ⟨trivial, trivial⟩ ?_
  refine ax_gV (rest := []) hK (Nat.le_trans (by decide) hfr) (Nat.le_trans (by decide) hlo) hT lcw_70 lim_70 lse_70 d_W_law_196 (h0 23 rfl) rfl rfl (by decide) rfl rfl (Nat.le_of_ble_eq_true rfl) hc hs ?_
  change ax_R _ 8 cells slots (199, [(4, .inl (.int (i))), (3, .inr (0, 37)), (2, .inr (0, 38)), (1, .inr (0, 23)), (0, .inl (.ref b))], [.inl (.int (r))], ax_m s1 ρ)
  refine ax_bk hK (ax_fc (ax_v_ld (ax_r_aload_n (i := 2) d_W_law_199 rfl)) ax_fn) (y := (200, [(4, .inl (.int (i))), (3, .inr (0, 37)), (2, .inr (0, 38)), (1, .inr (0, 23)), (0, .inl (.ref b))], [.inr (0, 38), .inl (.int (r))], ax_m s1 ρ)) rfl ⟨trivial, trivial⟩ ?_
  refine ax_gV (rest := [.inl (.int (r))]) hK (Nat.le_trans (by decide) hfr) (Nat.le_trans (by decide) hlo) (t_Z_place h0 hz2) lcw_73 lim_73 lse_73 d_W_law_200 (h0 38 rfl) rfl rfl (by decide) rfl rfl (Nat.le_of_ble_eq_true rfl) hc hs ?_
  change ax_R _ 8 cells slots (203, [(4, .inl (.int (i))), (3, .inr (0, 37)), (2, .inr (0, 38)), (1, .inr (0, 23)), (0, .inl (.ref b))], [.inl (.int (r)), .inl (.int (r))], ax_m s2 ρ)
  exact ax_ic_eq (tgt := 904) hK d_W_law_203 (by decide) (fun _ => kk) (fun c9 => absurd rfl c9)
theorem lcw_79 : ax_cw "CipherNotationLaw" 79 y_Z_number (.code y_Z_number prog_8_method_57_code 2 (some .int)) 1 := ⟨nw_6 62 (by decide +kernel) rfl, nw_1 7 (by decide +kernel) rfl, nw_6 65 rfl rfl, by decide +kernel, by decide +kernel⟩
theorem lim_79 : Cond.instanceMethod y_Z_number ∈ ax_tbl := nw_6 63 (by decide +kernel) rfl
theorem lse_79 : Cond.selects y_Z_number.cls y_Z_number y_Z_number ∈ ax_tbl := nw_6 64 (by decide +kernel) rfl
theorem lcw_80 : ax_cw "CipherNotationLaw" 80 y_Z_thrown (.code y_Z_thrown prog_8_method_2_code 1 (some .int)) 0 := ⟨nw_5 118 (by decide +kernel) rfl, nw_1 7 (by decide +kernel) rfl, nw_5 121 rfl rfl, by decide +kernel, by decide +kernel⟩
theorem lim_80 : Cond.instanceMethod y_Z_thrown ∈ ax_tbl := nw_5 119 (by decide +kernel) rfl
theorem lse_80 : Cond.selects y_Z_thrown.cls y_Z_thrown y_Z_thrown ∈ ax_tbl := nw_5 120 (by decide +kernel) rfl
set_option maxHeartbeats 4000000 in
set_option maxRecDepth 100000 in
theorem lc_number {p : Program} {l : Launch} {e : Env} {R : Room} {st : State} {m : MethodId} {args : Array Value} {below : List Frame} {meth : Method} {c : Code} {Q : State → Prop} {A : Nat → Prop} {D : va_G} {cA : Nat → ClassId} {ad : Nat → Nat → Nat} {al : List (Nat × Nat)} {θ : ax_Θ} {b Ln cells slots : Nat} {xs : Nat → Int32} {i : Int32} {s : ax_σ} {ρ : ax_ρ} (hK : ax_K "CipherNotationLaw" code 8 ((p, l, e, R, st, m, args), (below, meth, c), (Q, A), (D, cA, ad, al, θ))) (hfr : 100 ≤ R.frames) (hlo : 8000 ≤ R.locals) (hX : ax_scr b Ln xs ((p, l, e, R, st, m, args), (below, meth, c), (Q, A), (D, cA, ad, al, θ))) (h0 : ax_M0 al) (hc : cells + 1 ≤ R.cells) (hs : slots + 6 ≤ R.slots) (hk1 : vp_in (i + (1 : Int32)) Ln) {s1 : ax_σ} {k : Int32} (hT : ax_U l D cA ad al θ y_W_number (.codeWith y_W_number method_3_code 4 (some .int) [(0, 9, 12, 13), (0, 9, 15, 15)]) 8 [.inr (0, 23), .inl (.int ((xs ((i + (1 : Int32))).toNatClampNeg))), .inr (0, 37)] (ax_m s ρ) (some (.inl (.int k))) (ax_m s1 ρ)) {F : Nat} {s2 : ax_σ} {b0 : Int32} (hz2 : f_Z_number ((xs ((i + (1 : Int32))).toNatClampNeg)) s1 = some (b0, s2)) (hz3 : f_Z_thrown s2 = some k) (hz4 : k = 0 → (s2.2 0 37 ((0 : Int32)).toNatClampNeg) = (b0).toInt64) (kk : ax_R ((p, l, e, R, st, m, args), (below, meth, c), (Q, A), (D, cA, ad, al, θ)) 8 (cells + 1) (slots + 6) (904, [(4, .inl (.int (i))), (3, .inr (0, 37)), (2, .inr (0, 38)), (1, .inr (0, 23)), (0, .inl (.ref b))], [], ax_m s2 ρ)) : ax_R ((p, l, e, R, st, m, args), (below, meth, c), (Q, A), (D, cA, ad, al, θ)) 8 cells slots (208, [(4, .inl (.int (i))), (3, .inr (0, 37)), (2, .inr (0, 38)), (1, .inr (0, 23)), (0, .inl (.ref b))], [], ax_m s ρ) := by
  have hal : ax_al ((p, l, e, R, st, m, args), (below, meth, c), (Q, A), (D, cA, ad, al, θ)) = al := rfl
  refine ax_bk hK (ax_fc (ax_v_ld (ax_r_aload_n (i := 1) d_W_law_208 rfl)) (ax_fc (ax_v_ld (ax_r_aload_n (i := 0) d_W_law_209 rfl)) (ax_fc (ax_v_ld (ax_r_iload d_W_law_210)) (ax_fc (ax_v_pu (ax_r_iconst (v := 1) d_W_law_212 (by decide))) (ax_fc (ax_v_pu (ax_r_iadd d_W_law_213)) (ax_fc (ax_w_sc hX d_W_law_214) (ax_fc (ax_v_ld (ax_r_aload_n (i := 3) d_W_law_215 rfl)) ax_fn))))))) (y := (216, [(4, .inl (.int (i))), (3, .inr (0, 37)), (2, .inr (0, 38)), (1, .inr (0, 23)), (0, .inl (.ref b))], [.inr (0, 37), .inl (.int ((xs ((i + (1 : Int32))).toNatClampNeg))), .inr (0, 23)], ax_m s ρ)) rfl ⟨trivial, trivial, trivial, trivial, trivial, ⟨rfl, hk1⟩, trivial, trivial⟩ ?_
  refine ax_gU (n := 3) (rest := []) hK (Nat.le_trans (by decide) hfr) (Nat.le_trans (by decide) hlo) hT (nw_3 143 (by decide +kernel) rfl) (nw_1 0 (by decide +kernel) rfl) (nw_3 145 rfl rfl) (by decide +kernel) (by decide +kernel) (nw_3 144 (by decide +kernel) rfl) d_W_law_216 (by decide) rfl rfl (Nat.le_of_ble_eq_true rfl) hc hs ?_
  change ax_R _ 8 (cells + 1) (slots + 6) (219, [(4, .inl (.int (i))), (3, .inr (0, 37)), (2, .inr (0, 38)), (1, .inr (0, 23)), (0, .inl (.ref b))], [.inl (.int (k))], ax_m s1 ρ)
  refine ax_bk hK (ax_fc (ax_v_so (ax_r_istore d_W_law_219)) (ax_fc (ax_v_ld (ax_r_aload_n (i := 2) d_W_law_221 rfl)) (ax_fc (ax_v_ld (ax_r_aload_n (i := 0) d_W_law_222 rfl)) (ax_fc (ax_v_ld (ax_r_iload d_W_law_223)) (ax_fc (ax_v_pu (ax_r_iconst (v := 1) d_W_law_225 (by decide))) (ax_fc (ax_v_pu (ax_r_iadd d_W_law_226)) (ax_fc (ax_w_sc hX d_W_law_227) ax_fn))))))) (y := (228, [(5, .inl (.int (k))), (4, .inl (.int (i))), (3, .inr (0, 37)), (2, .inr (0, 38)), (1, .inr (0, 23)), (0, .inl (.ref b))], [.inl (.int ((xs ((i + (1 : Int32))).toNatClampNeg))), .inr (0, 38)], ax_m s1 ρ)) rfl ⟨trivial, trivial, trivial, trivial, trivial, trivial, ⟨rfl, hk1⟩, trivial⟩ ?_
  refine ax_gV (rest := []) hK (Nat.le_trans (by decide) hfr) (Nat.le_trans (by decide) hlo) (t_Z_number h0 hz2) lcw_79 lim_79 lse_79 d_W_law_228 (h0 38 rfl) rfl rfl (by decide) rfl rfl (Nat.le_of_ble_eq_true rfl) hc hs ?_
  change ax_R _ 8 (cells + 1) (slots + 6) (231, [(5, .inl (.int (k))), (4, .inl (.int (i))), (3, .inr (0, 37)), (2, .inr (0, 38)), (1, .inr (0, 23)), (0, .inl (.ref b))], [.inl (.int (b0))], ax_m s2 ρ)
  refine ax_bk hK (ax_fc (ax_v_so (ax_r_istore d_W_law_231)) (ax_fc (ax_v_ld (ax_r_aload_n (i := 2) d_W_law_233 rfl)) ax_fn)) (y := (234, [(6, .inl (.int (b0))), (5, .inl (.int (k))), (4, .inl (.int (i))), (3, .inr (0, 37)), (2, .inr (0, 38)), (1, .inr (0, 23)), (0, .inl (.ref b))], [.inr (0, 38)], ax_m s2 ρ)) rfl ⟨trivial, trivial, trivial⟩ ?_
  refine ax_gV (rest := []) hK (Nat.le_trans (by decide) hfr) (Nat.le_trans (by decide) hlo) (t_Z_thrown h0 hz3) lcw_80 lim_80 lse_80 d_W_law_234 (h0 38 rfl) rfl rfl (by decide) rfl rfl (Nat.le_of_ble_eq_true rfl) hc hs ?_
  change ax_R _ 8 (cells + 1) (slots + 6) (237, [(6, .inl (.int (b0))), (5, .inl (.int (k))), (4, .inl (.int (i))), (3, .inr (0, 37)), (2, .inr (0, 38)), (1, .inr (0, 23)), (0, .inl (.ref b))], [.inl (.int (k))], ax_m s2 ρ)
  refine ax_bk hK (ax_fc (ax_v_ld (ax_r_iload d_W_law_237)) ax_fn) (y := (239, [(6, .inl (.int (b0))), (5, .inl (.int (k))), (4, .inl (.int (i))), (3, .inr (0, 37)), (2, .inr (0, 38)), (1, .inr (0, 23)), (0, .inl (.ref b))], [.inl (.int (k)), .inl (.int (k))], ax_m s2 ρ)) rfl ⟨trivial, trivial⟩ ?_
  refine ax_ic_eq (tgt := 244) hK d_W_law_239 (by decide) (fun _ => ?_) (fun c9 => absurd rfl c9)
  refine ax_bk hK (ax_fc (ax_v_ld (ax_r_iload d_W_law_244)) ax_fn) (y := (246, [(6, .inl (.int (b0))), (5, .inl (.int (k))), (4, .inl (.int (i))), (3, .inr (0, 37)), (2, .inr (0, 38)), (1, .inr (0, 23)), (0, .inl (.ref b))], [.inl (.int (k))], ax_m s2 ρ)) rfl ⟨trivial, trivial⟩ ?_
  have KE : ax_R ((p, l, e, R, st, m, args), (below, meth, c), (Q, A), (D, cA, ad, al, θ)) 8 (cells + 1) (slots + 6) (261, [(6, .inl (.int (b0))), (5, .inl (.int (k))), (4, .inl (.int (i))), (3, .inr (0, 37)), (2, .inr (0, 38)), (1, .inr (0, 23)), (0, .inl (.ref b))], [], ax_m s2 ρ) := by
    refine ax_bk hK (ax_fc (ax_v_go (tgt := 904) d_W_law_261 (by decide)) ax_fn) (y := (904, [(6, .inl (.int (b0))), (5, .inl (.int (k))), (4, .inl (.int (i))), (3, .inr (0, 37)), (2, .inr (0, 38)), (1, .inr (0, 23)), (0, .inl (.ref b))], [], ax_m s2 ρ)) rfl ⟨trivial, trivial⟩ ?_
    exact ax_Lsub [2, 3, 4, 5, 6] rfl kk
  refine ax_if_ne (tgt := 261) hK d_W_law_246 (by decide) (fun _ => KE) (fun c8 => ?_)
  refine ax_bk hK (ax_fc (ax_v_ld (ax_r_aload_n (i := 3) d_W_law_249 rfl)) (ax_fc (ax_v_pu (ax_r_iconst (v := 0) d_W_law_250 (by decide))) (ax_fc (ax_w_lald hal d_W_law_251) (ax_fc (ax_v_ld (ax_r_iload d_W_law_252)) (ax_fc (ax_v_pu (ax_r_i2l d_W_law_254)) (ax_fc (ax_v_pu (ax_r_lcmp d_W_law_255)) ax_fn)))))) (y := (256, [(6, .inl (.int (b0))), (5, .inl (.int (k))), (4, .inl (.int (i))), (3, .inr (0, 37)), (2, .inr (0, 38)), (1, .inr (0, 23)), (0, .inl (.ref b))], [.inl (.int ((lg_cmp (s2.2 0 37 ((0 : Int32)).toNatClampNeg) (b0).toInt64)))], ax_m s2 ρ)) rfl ⟨trivial, trivial, ⟨h0 37 rfl, ax_inp (by decide)⟩, trivial, trivial, trivial, trivial⟩ ?_
  refine ax_if_eq (tgt := 261) hK d_W_law_256 (by decide) (fun _ => KE) (fun c7 => ?_)
  exact absurd (by rw [hz4 c8]; simp [lg_cmp]) c7
theorem lcw_83 : ax_cw "CipherNotationLaw" 83 y_X_print (.code y_X_print prog_1_method_7_code 2 (some .int)) 1 := ⟨nw_3 139 (by decide +kernel) rfl, nw_1 1 (by decide +kernel) rfl, nw_3 142 rfl rfl, by decide +kernel, by decide +kernel⟩
theorem lim_83 : Cond.instanceMethod y_X_print ∈ ax_tbl := nw_3 140 (by decide +kernel) rfl
theorem lse_83 : Cond.selects y_X_print.cls y_X_print y_X_print ∈ ax_tbl := nw_3 141 (by decide +kernel) rfl
theorem lcw_86 : ax_cw "CipherNotationLaw" 86 y_Z_print_I (.code y_Z_print_I prog_8_method_58_code 2 (some .int)) 1 := ⟨nw_6 66 (by decide +kernel) rfl, nw_1 7 (by decide +kernel) rfl, nw_6 69 rfl rfl, by decide +kernel, by decide +kernel⟩
theorem lim_86 : Cond.instanceMethod y_Z_print_I ∈ ax_tbl := nw_6 67 (by decide +kernel) rfl
theorem lse_86 : Cond.selects y_Z_print_I.cls y_Z_print_I y_Z_print_I ∈ ax_tbl := nw_6 68 (by decide +kernel) rfl
set_option maxHeartbeats 4000000 in
set_option maxRecDepth 100000 in
theorem lc_print {p : Program} {l : Launch} {e : Env} {R : Room} {st : State} {m : MethodId} {args : Array Value} {below : List Frame} {meth : Method} {c : Code} {Q : State → Prop} {A : Nat → Prop} {D : va_G} {cA : Nat → ClassId} {ad : Nat → Nat → Nat} {al : List (Nat × Nat)} {θ : ax_Θ} {b Ln cells slots : Nat} {xs : Nat → Int32} {i : Int32} {s : ax_σ} {ρ : ax_ρ} (hK : ax_K "CipherNotationLaw" code 8 ((p, l, e, R, st, m, args), (below, meth, c), (Q, A), (D, cA, ad, al, θ))) (hfr : 100 ≤ R.frames) (hlo : 8000 ≤ R.locals) (hX : ax_scr b Ln xs ((p, l, e, R, st, m, args), (below, meth, c), (Q, A), (D, cA, ad, al, θ))) (h0 : ax_M0 al) (hc : cells ≤ R.cells) (hs : slots ≤ R.slots) (hk1 : vp_in (i + (1 : Int32)) Ln) {s1 : ax_σ} {r : Int32} {ρ1 : ax_ρ} (hT : ax_T l D cA ad al θ y_X_print (.code y_X_print prog_1_method_7_code 2 (some .int)) 0 [.inr (0, 23), .inl (.int ((xs ((i + (1 : Int32))).toNatClampNeg)))] (ax_m s ρ) (some (.inl (.int r))) (ax_m s1 ρ)) {F : Nat} {s2 : ax_σ} (hz2 : f_Z_print_I ((xs ((i + (1 : Int32))).toNatClampNeg)) s1 = some (r, s2)) (kk : ax_R ((p, l, e, R, st, m, args), (below, meth, c), (Q, A), (D, cA, ad, al, θ)) 8 cells slots (904, [(4, .inl (.int (i))), (3, .inr (0, 37)), (2, .inr (0, 38)), (1, .inr (0, 23)), (0, .inl (.ref b))], [], ax_m s2 ρ)) : ax_R ((p, l, e, R, st, m, args), (below, meth, c), (Q, A), (D, cA, ad, al, θ)) 8 cells slots (264, [(4, .inl (.int (i))), (3, .inr (0, 37)), (2, .inr (0, 38)), (1, .inr (0, 23)), (0, .inl (.ref b))], [], ax_m s ρ) := by
  have hal : ax_al ((p, l, e, R, st, m, args), (below, meth, c), (Q, A), (D, cA, ad, al, θ)) = al := rfl
  refine ax_bk hK (ax_fc (ax_v_ld (ax_r_aload_n (i := 1) d_W_law_264 rfl)) (ax_fc (ax_v_ld (ax_r_aload_n (i := 0) d_W_law_265 rfl)) (ax_fc (ax_v_ld (ax_r_iload d_W_law_266)) (ax_fc (ax_v_pu (ax_r_iconst (v := 1) d_W_law_268 (by decide))) (ax_fc (ax_v_pu (ax_r_iadd d_W_law_269)) (ax_fc (ax_w_sc hX d_W_law_270) ax_fn)))))) (y := (271, [(4, .inl (.int (i))), (3, .inr (0, 37)), (2, .inr (0, 38)), (1, .inr (0, 23)), (0, .inl (.ref b))], [.inl (.int ((xs ((i + (1 : Int32))).toNatClampNeg))), .inr (0, 23)], ax_m s ρ)) rfl ⟨trivial, trivial, trivial, trivial, trivial, ⟨rfl, hk1⟩, trivial⟩ ?_
  refine ax_gV (rest := []) hK (Nat.le_trans (by decide) hfr) (Nat.le_trans (by decide) hlo) hT lcw_83 lim_83 lse_83 d_W_law_271 (h0 23 rfl) rfl rfl (by decide) rfl rfl (Nat.le_of_ble_eq_true rfl) hc hs ?_
  change ax_R _ 8 cells slots (274, [(4, .inl (.int (i))), (3, .inr (0, 37)), (2, .inr (0, 38)), (1, .inr (0, 23)), (0, .inl (.ref b))], [.inl (.int (r))], ax_m s1 ρ)
  refine ax_bk hK (ax_fc (ax_v_ld (ax_r_aload_n (i := 2) d_W_law_274 rfl)) (ax_fc (ax_v_ld (ax_r_aload_n (i := 0) d_W_law_275 rfl)) (ax_fc (ax_v_ld (ax_r_iload d_W_law_276)) (ax_fc (ax_v_pu (ax_r_iconst (v := 1) d_W_law_278 (by decide))) (ax_fc (ax_v_pu (ax_r_iadd d_W_law_279)) (ax_fc (ax_w_sc hX d_W_law_280) ax_fn)))))) (y := (281, [(4, .inl (.int (i))), (3, .inr (0, 37)), (2, .inr (0, 38)), (1, .inr (0, 23)), (0, .inl (.ref b))], [.inl (.int ((xs ((i + (1 : Int32))).toNatClampNeg))), .inr (0, 38), .inl (.int (r))], ax_m s1 ρ)) rfl ⟨trivial, trivial, trivial, trivial, trivial, ⟨rfl, hk1⟩, trivial⟩ ?_
  refine ax_gV (rest := [.inl (.int (r))]) hK (Nat.le_trans (by decide) hfr) (Nat.le_trans (by decide) hlo) (t_Z_print_I h0 hz2) lcw_86 lim_86 lse_86 d_W_law_281 (h0 38 rfl) rfl rfl (by decide) rfl rfl (Nat.le_of_ble_eq_true rfl) hc hs ?_
  change ax_R _ 8 cells slots (284, [(4, .inl (.int (i))), (3, .inr (0, 37)), (2, .inr (0, 38)), (1, .inr (0, 23)), (0, .inl (.ref b))], [.inl (.int (r)), .inl (.int (r))], ax_m s2 ρ)
  exact ax_ic_eq (tgt := 904) hK d_W_law_284 (by decide) (fun _ => kk) (fun c9 => absurd rfl c9)
theorem lcw_90 : ax_cw "CipherNotationLaw" 90 y_Z_table (.code y_Z_table prog_8_method_59_code 4 (some .int)) 3 := ⟨nw_6 70 (by decide +kernel) rfl, nw_1 7 (by decide +kernel) rfl, nw_6 73 rfl rfl, by decide +kernel, by decide +kernel⟩
theorem lim_90 : Cond.instanceMethod y_Z_table ∈ ax_tbl := nw_6 71 (by decide +kernel) rfl
theorem lse_90 : Cond.selects y_Z_table.cls y_Z_table y_Z_table ∈ ax_tbl := nw_6 72 (by decide +kernel) rfl
set_option maxHeartbeats 4000000 in
set_option maxRecDepth 100000 in
theorem lc_table {p : Program} {l : Launch} {e : Env} {R : Room} {st : State} {m : MethodId} {args : Array Value} {below : List Frame} {meth : Method} {c : Code} {Q : State → Prop} {A : Nat → Prop} {D : va_G} {cA : Nat → ClassId} {ad : Nat → Nat → Nat} {al : List (Nat × Nat)} {θ : ax_Θ} {b Ln cells slots : Nat} {xs : Nat → Int32} {i : Int32} {s : ax_σ} {ρ : ax_ρ} (hK : ax_K "CipherNotationLaw" code 8 ((p, l, e, R, st, m, args), (below, meth, c), (Q, A), (D, cA, ad, al, θ))) (hfr : 100 ≤ R.frames) (hlo : 8000 ≤ R.locals) (hX : ax_scr b Ln xs ((p, l, e, R, st, m, args), (below, meth, c), (Q, A), (D, cA, ad, al, θ))) (h0 : ax_M0 al) (hc : cells + 1 ≤ R.cells) (hs : slots + 6 ≤ R.slots) (hk1 : vp_in (i + (1 : Int32)) Ln) (hk2 : vp_in (i + (2 : Int32)) Ln) (hk3 : vp_in (i + (3 : Int32)) Ln) {z : Int32} (hz0 : (xs ((i + (3 : Int32))).toNatClampNeg) = 0 → z = 0) (hz1 : ¬ (xs ((i + (3 : Int32))).toNatClampNeg) = 0 → z = 1) {s1 : ax_σ} {k : Int32} (hT : ax_U l D cA ad al θ y_W_table (.codeWith y_W_table method_4_code 6 (some .int) [(0, 12, 15, 13), (0, 12, 19, 21)]) 8 [.inr (0, 23), .inl (.int ((xs ((i + (1 : Int32))).toNatClampNeg))), .inl (.int ((xs ((i + (2 : Int32))).toNatClampNeg))), .inl (.int (z)), .inr (0, 37)] (ax_m s ρ) (some (.inl (.int k))) (ax_m s1 ρ)) {F : Nat} {s2 : ax_σ} {b0 : Int32} (hz2 : f_Z_table F ((xs ((i + (1 : Int32))).toNatClampNeg)) ((xs ((i + (2 : Int32))).toNatClampNeg)) (z) s1 = some (b0, s2)) (hz3 : f_Z_thrown s2 = some k) (hz4 : k = 0 → (s2.2 0 37 ((0 : Int32)).toNatClampNeg) = (b0).toInt64) (kk : ax_R ((p, l, e, R, st, m, args), (below, meth, c), (Q, A), (D, cA, ad, al, θ)) 8 (cells + 1) (slots + 6) (904, [(4, .inl (.int (i))), (3, .inr (0, 37)), (2, .inr (0, 38)), (1, .inr (0, 23)), (0, .inl (.ref b))], [], ax_m s2 ρ)) : ax_R ((p, l, e, R, st, m, args), (below, meth, c), (Q, A), (D, cA, ad, al, θ)) 8 cells slots (289, [(4, .inl (.int (i))), (3, .inr (0, 37)), (2, .inr (0, 38)), (1, .inr (0, 23)), (0, .inl (.ref b))], [], ax_m s ρ) := by
  have hal : ax_al ((p, l, e, R, st, m, args), (below, meth, c), (Q, A), (D, cA, ad, al, θ)) = al := rfl
  refine ax_bk hK (ax_fc (ax_v_ld (ax_r_aload_n (i := 1) d_W_law_289 rfl)) (ax_fc (ax_v_ld (ax_r_aload_n (i := 0) d_W_law_290 rfl)) (ax_fc (ax_v_ld (ax_r_iload d_W_law_291)) (ax_fc (ax_v_pu (ax_r_iconst (v := 1) d_W_law_293 (by decide))) (ax_fc (ax_v_pu (ax_r_iadd d_W_law_294)) (ax_fc (ax_w_sc hX d_W_law_295) (ax_fc (ax_v_ld (ax_r_aload_n (i := 0) d_W_law_296 rfl)) (ax_fc (ax_v_ld (ax_r_iload d_W_law_297)) (ax_fc (ax_v_pu (ax_r_iconst (v := 2) d_W_law_299 (by decide))) (ax_fc (ax_v_pu (ax_r_iadd d_W_law_300)) (ax_fc (ax_w_sc hX d_W_law_301) (ax_fc (ax_v_ld (ax_r_aload_n (i := 0) d_W_law_302 rfl)) (ax_fc (ax_v_ld (ax_r_iload d_W_law_303)) (ax_fc (ax_v_pu (ax_r_iconst (v := 3) d_W_law_305 (by decide))) (ax_fc (ax_v_pu (ax_r_iadd d_W_law_306)) (ax_fc (ax_w_sc hX d_W_law_307) ax_fn)))))))))))))))) (y := (308, [(4, .inl (.int (i))), (3, .inr (0, 37)), (2, .inr (0, 38)), (1, .inr (0, 23)), (0, .inl (.ref b))], [.inl (.int ((xs ((i + (3 : Int32))).toNatClampNeg))), .inl (.int ((xs ((i + (2 : Int32))).toNatClampNeg))), .inl (.int ((xs ((i + (1 : Int32))).toNatClampNeg))), .inr (0, 23)], ax_m s ρ)) rfl ⟨trivial, trivial, trivial, trivial, trivial, ⟨rfl, hk1⟩, trivial, trivial, trivial, trivial, ⟨rfl, hk2⟩, trivial, trivial, trivial, trivial, ⟨rfl, hk3⟩, trivial⟩ ?_
  have hz : ∀ K9 : ax_R ((p, l, e, R, st, m, args), (below, meth, c), (Q, A), (D, cA, ad, al, θ)) 8 cells slots (316, [(4, .inl (.int (i))), (3, .inr (0, 37)), (2, .inr (0, 38)), (1, .inr (0, 23)), (0, .inl (.ref b))], [.inl (.int z), .inl (.int ((xs ((i + (2 : Int32))).toNatClampNeg))), .inl (.int ((xs ((i + (1 : Int32))).toNatClampNeg))), .inr (0, 23)], ax_m s ρ), ax_R ((p, l, e, R, st, m, args), (below, meth, c), (Q, A), (D, cA, ad, al, θ)) 8 cells slots (308, [(4, .inl (.int (i))), (3, .inr (0, 37)), (2, .inr (0, 38)), (1, .inr (0, 23)), (0, .inl (.ref b))], [.inl (.int ((xs ((i + (3 : Int32))).toNatClampNeg))), .inl (.int ((xs ((i + (2 : Int32))).toNatClampNeg))), .inl (.int ((xs ((i + (1 : Int32))).toNatClampNeg))), .inr (0, 23)], ax_m s ρ) := by
    intro K9
    refine ax_if_eq (tgt := 315) hK d_W_law_308 (by decide) (fun c9 => ?_) (fun c9 => ?_)
    · rw [hz0 c9] at K9
      exact ax_bk hK (ax_fc (ax_v_pu (ax_r_iconst (v := 0) d_W_law_315 (by decide))) ax_fn) rfl ⟨trivial, trivial⟩ K9
    · rw [hz1 c9] at K9
      exact ax_bk hK (ax_fc (ax_v_pu (ax_r_iconst (v := 1) d_W_law_311 (by decide))) (ax_fc (ax_v_go (tgt := 316) d_W_law_312 (by decide)) ax_fn)) rfl ⟨trivial, trivial, trivial⟩ K9
  refine hz ?_
  refine ax_bk hK (ax_fc (ax_v_ld (ax_r_aload_n (i := 3) d_W_law_316 rfl)) ax_fn) (y := (317, [(4, .inl (.int (i))), (3, .inr (0, 37)), (2, .inr (0, 38)), (1, .inr (0, 23)), (0, .inl (.ref b))], [.inr (0, 37), .inl (.int (z)), .inl (.int ((xs ((i + (2 : Int32))).toNatClampNeg))), .inl (.int ((xs ((i + (1 : Int32))).toNatClampNeg))), .inr (0, 23)], ax_m s ρ)) rfl ⟨trivial, trivial⟩ ?_
  refine ax_gU (n := 5) (rest := []) hK (Nat.le_trans (by decide) hfr) (Nat.le_trans (by decide) hlo) hT (nw_3 234 (by decide +kernel) rfl) (nw_1 0 (by decide +kernel) rfl) (nw_3 236 rfl rfl) (by decide +kernel) (by decide +kernel) (nw_3 235 (by decide +kernel) rfl) d_W_law_317 (by decide) rfl rfl (Nat.le_of_ble_eq_true rfl) hc hs ?_
  change ax_R _ 8 (cells + 1) (slots + 6) (320, [(4, .inl (.int (i))), (3, .inr (0, 37)), (2, .inr (0, 38)), (1, .inr (0, 23)), (0, .inl (.ref b))], [.inl (.int (k))], ax_m s1 ρ)
  refine ax_bk hK (ax_fc (ax_v_so (ax_r_istore d_W_law_320)) (ax_fc (ax_v_ld (ax_r_aload_n (i := 2) d_W_law_322 rfl)) (ax_fc (ax_v_ld (ax_r_aload_n (i := 0) d_W_law_323 rfl)) (ax_fc (ax_v_ld (ax_r_iload d_W_law_324)) (ax_fc (ax_v_pu (ax_r_iconst (v := 1) d_W_law_326 (by decide))) (ax_fc (ax_v_pu (ax_r_iadd d_W_law_327)) (ax_fc (ax_w_sc hX d_W_law_328) (ax_fc (ax_v_ld (ax_r_aload_n (i := 0) d_W_law_329 rfl)) (ax_fc (ax_v_ld (ax_r_iload d_W_law_330)) (ax_fc (ax_v_pu (ax_r_iconst (v := 2) d_W_law_332 (by decide))) (ax_fc (ax_v_pu (ax_r_iadd d_W_law_333)) (ax_fc (ax_w_sc hX d_W_law_334) (ax_fc (ax_v_ld (ax_r_aload_n (i := 0) d_W_law_335 rfl)) (ax_fc (ax_v_ld (ax_r_iload d_W_law_336)) (ax_fc (ax_v_pu (ax_r_iconst (v := 3) d_W_law_338 (by decide))) (ax_fc (ax_v_pu (ax_r_iadd d_W_law_339)) (ax_fc (ax_w_sc hX d_W_law_340) ax_fn))))))))))))))))) (y := (341, [(5, .inl (.int (k))), (4, .inl (.int (i))), (3, .inr (0, 37)), (2, .inr (0, 38)), (1, .inr (0, 23)), (0, .inl (.ref b))], [.inl (.int ((xs ((i + (3 : Int32))).toNatClampNeg))), .inl (.int ((xs ((i + (2 : Int32))).toNatClampNeg))), .inl (.int ((xs ((i + (1 : Int32))).toNatClampNeg))), .inr (0, 38)], ax_m s1 ρ)) rfl ⟨trivial, trivial, trivial, trivial, trivial, trivial, ⟨rfl, hk1⟩, trivial, trivial, trivial, trivial, ⟨rfl, hk2⟩, trivial, trivial, trivial, trivial, ⟨rfl, hk3⟩, trivial⟩ ?_
  have hzz : ∀ K9 : ax_R ((p, l, e, R, st, m, args), (below, meth, c), (Q, A), (D, cA, ad, al, θ)) 8 (cells + 1) (slots + 6) (349, [(5, .inl (.int (k))), (4, .inl (.int (i))), (3, .inr (0, 37)), (2, .inr (0, 38)), (1, .inr (0, 23)), (0, .inl (.ref b))], [.inl (.int z), .inl (.int ((xs ((i + (2 : Int32))).toNatClampNeg))), .inl (.int ((xs ((i + (1 : Int32))).toNatClampNeg))), .inr (0, 38)], ax_m s1 ρ), ax_R ((p, l, e, R, st, m, args), (below, meth, c), (Q, A), (D, cA, ad, al, θ)) 8 (cells + 1) (slots + 6) (341, [(5, .inl (.int (k))), (4, .inl (.int (i))), (3, .inr (0, 37)), (2, .inr (0, 38)), (1, .inr (0, 23)), (0, .inl (.ref b))], [.inl (.int ((xs ((i + (3 : Int32))).toNatClampNeg))), .inl (.int ((xs ((i + (2 : Int32))).toNatClampNeg))), .inl (.int ((xs ((i + (1 : Int32))).toNatClampNeg))), .inr (0, 38)], ax_m s1 ρ) := by
    intro K9
    refine ax_if_eq (tgt := 348) hK d_W_law_341 (by decide) (fun c9 => ?_) (fun c9 => ?_)
    · rw [hz0 c9] at K9
      exact ax_bk hK (ax_fc (ax_v_pu (ax_r_iconst (v := 0) d_W_law_348 (by decide))) ax_fn) rfl ⟨trivial, trivial⟩ K9
    · rw [hz1 c9] at K9
      exact ax_bk hK (ax_fc (ax_v_pu (ax_r_iconst (v := 1) d_W_law_344 (by decide))) (ax_fc (ax_v_go (tgt := 349) d_W_law_345 (by decide)) ax_fn)) rfl ⟨trivial, trivial, trivial⟩ K9
  refine hzz ?_
  refine ax_gV (rest := []) hK (Nat.le_trans (by decide) hfr) (Nat.le_trans (by decide) hlo) (t_Z_table h0 hz2) lcw_90 lim_90 lse_90 d_W_law_349 (h0 38 rfl) rfl rfl (by decide) rfl rfl (Nat.le_of_ble_eq_true rfl) hc hs ?_
  change ax_R _ 8 (cells + 1) (slots + 6) (352, [(5, .inl (.int (k))), (4, .inl (.int (i))), (3, .inr (0, 37)), (2, .inr (0, 38)), (1, .inr (0, 23)), (0, .inl (.ref b))], [.inl (.int (b0))], ax_m s2 ρ)
  refine ax_bk hK (ax_fc (ax_v_so (ax_r_istore d_W_law_352)) (ax_fc (ax_v_ld (ax_r_aload_n (i := 2) d_W_law_354 rfl)) ax_fn)) (y := (355, [(6, .inl (.int (b0))), (5, .inl (.int (k))), (4, .inl (.int (i))), (3, .inr (0, 37)), (2, .inr (0, 38)), (1, .inr (0, 23)), (0, .inl (.ref b))], [.inr (0, 38)], ax_m s2 ρ)) rfl ⟨trivial, trivial, trivial⟩ ?_
  refine ax_gV (rest := []) hK (Nat.le_trans (by decide) hfr) (Nat.le_trans (by decide) hlo) (t_Z_thrown h0 hz3) lcw_80 lim_80 lse_80 d_W_law_355 (h0 38 rfl) rfl rfl (by decide) rfl rfl (Nat.le_of_ble_eq_true rfl) hc hs ?_
  change ax_R _ 8 (cells + 1) (slots + 6) (358, [(6, .inl (.int (b0))), (5, .inl (.int (k))), (4, .inl (.int (i))), (3, .inr (0, 37)), (2, .inr (0, 38)), (1, .inr (0, 23)), (0, .inl (.ref b))], [.inl (.int (k))], ax_m s2 ρ)
  refine ax_bk hK (ax_fc (ax_v_ld (ax_r_iload d_W_law_358)) ax_fn) (y := (360, [(6, .inl (.int (b0))), (5, .inl (.int (k))), (4, .inl (.int (i))), (3, .inr (0, 37)), (2, .inr (0, 38)), (1, .inr (0, 23)), (0, .inl (.ref b))], [.inl (.int (k)), .inl (.int (k))], ax_m s2 ρ)) rfl ⟨trivial, trivial⟩ ?_
  refine ax_ic_eq (tgt := 365) hK d_W_law_360 (by decide) (fun _ => ?_) (fun c9 => absurd rfl c9)
  refine ax_bk hK (ax_fc (ax_v_ld (ax_r_iload d_W_law_365)) ax_fn) (y := (367, [(6, .inl (.int (b0))), (5, .inl (.int (k))), (4, .inl (.int (i))), (3, .inr (0, 37)), (2, .inr (0, 38)), (1, .inr (0, 23)), (0, .inl (.ref b))], [.inl (.int (k))], ax_m s2 ρ)) rfl ⟨trivial, trivial⟩ ?_
  have KE : ax_R ((p, l, e, R, st, m, args), (below, meth, c), (Q, A), (D, cA, ad, al, θ)) 8 (cells + 1) (slots + 6) (382, [(6, .inl (.int (b0))), (5, .inl (.int (k))), (4, .inl (.int (i))), (3, .inr (0, 37)), (2, .inr (0, 38)), (1, .inr (0, 23)), (0, .inl (.ref b))], [], ax_m s2 ρ) := by
    refine ax_bk hK (ax_fc (ax_v_go (tgt := 904) d_W_law_382 (by decide)) ax_fn) (y := (904, [(6, .inl (.int (b0))), (5, .inl (.int (k))), (4, .inl (.int (i))), (3, .inr (0, 37)), (2, .inr (0, 38)), (1, .inr (0, 23)), (0, .inl (.ref b))], [], ax_m s2 ρ)) rfl ⟨trivial, trivial⟩ ?_
    exact ax_Lsub [2, 3, 4, 5, 6] rfl kk
  refine ax_if_ne (tgt := 382) hK d_W_law_367 (by decide) (fun _ => KE) (fun c8 => ?_)
  refine ax_bk hK (ax_fc (ax_v_ld (ax_r_aload_n (i := 3) d_W_law_370 rfl)) (ax_fc (ax_v_pu (ax_r_iconst (v := 0) d_W_law_371 (by decide))) (ax_fc (ax_w_lald hal d_W_law_372) (ax_fc (ax_v_ld (ax_r_iload d_W_law_373)) (ax_fc (ax_v_pu (ax_r_i2l d_W_law_375)) (ax_fc (ax_v_pu (ax_r_lcmp d_W_law_376)) ax_fn)))))) (y := (377, [(6, .inl (.int (b0))), (5, .inl (.int (k))), (4, .inl (.int (i))), (3, .inr (0, 37)), (2, .inr (0, 38)), (1, .inr (0, 23)), (0, .inl (.ref b))], [.inl (.int ((lg_cmp (s2.2 0 37 ((0 : Int32)).toNatClampNeg) (b0).toInt64)))], ax_m s2 ρ)) rfl ⟨trivial, trivial, ⟨h0 37 rfl, ax_inp (by decide)⟩, trivial, trivial, trivial, trivial⟩ ?_
  refine ax_if_eq (tgt := 382) hK d_W_law_377 (by decide) (fun _ => KE) (fun c7 => ?_)
  exact absurd (by rw [hz4 c8]; simp [lg_cmp]) c7
theorem lcw_94 : ax_cw "CipherNotationLaw" 94 y_Z_key (.code y_Z_key prog_8_method_61_code 6 (some .long)) 2 := ⟨nw_6 78 (by decide +kernel) rfl, nw_1 7 (by decide +kernel) rfl, nw_6 81 rfl rfl, by decide +kernel, by decide +kernel⟩
theorem lim_94 : Cond.instanceMethod y_Z_key ∈ ax_tbl := nw_6 79 (by decide +kernel) rfl
theorem lse_94 : Cond.selects y_Z_key.cls y_Z_key y_Z_key ∈ ax_tbl := nw_6 80 (by decide +kernel) rfl
set_option maxHeartbeats 4000000 in
set_option maxRecDepth 100000 in
theorem lc_key {p : Program} {l : Launch} {e : Env} {R : Room} {st : State} {m : MethodId} {args : Array Value} {below : List Frame} {meth : Method} {c : Code} {Q : State → Prop} {A : Nat → Prop} {D : va_G} {cA : Nat → ClassId} {ad : Nat → Nat → Nat} {al : List (Nat × Nat)} {θ : ax_Θ} {b Ln cells slots : Nat} {xs : Nat → Int32} {i : Int32} {s : ax_σ} {ρ : ax_ρ} (hK : ax_K "CipherNotationLaw" code 8 ((p, l, e, R, st, m, args), (below, meth, c), (Q, A), (D, cA, ad, al, θ))) (hfr : 100 ≤ R.frames) (hlo : 8000 ≤ R.locals) (hX : ax_scr b Ln xs ((p, l, e, R, st, m, args), (below, meth, c), (Q, A), (D, cA, ad, al, θ))) (h0 : ax_M0 al) (hc : cells + 1 ≤ R.cells) (hs : slots + 6 ≤ R.slots) (hk1 : vp_in (i + (1 : Int32)) Ln) (hk2 : vp_in (i + (2 : Int32)) Ln) (hk3 : vp_in (i + (3 : Int32)) Ln) {s1 : ax_σ} {k : Int32} (hT : ax_U l D cA ad al θ y_W_key (.codeWith y_W_key method_5_code 6 (some .int) [(0, 10, 13, 13), (0, 10, 17, 21), (0, 10, 21, 15)]) 8 [.inr (0, 23), .inl (.int ((xs ((i + (1 : Int32))).toNatClampNeg))), .inl (.long (((((xs ((i + (2 : Int32))).toNatClampNeg)).toInt64 <<< (((32 : Int32)).toInt64 &&& 63)) ||| (((xs ((i + (3 : Int32))).toNatClampNeg)).toInt64 &&& (4294967295 : Int64))))), .inr (0, 37)] (ax_m s ρ) (some (.inl (.int k))) (ax_m s1 ρ)) {F : Nat} {s2 : ax_σ} {b0 : Int64} (hz2 : f_Z_key ((xs ((i + (1 : Int32))).toNatClampNeg)) (((((xs ((i + (2 : Int32))).toNatClampNeg)).toInt64 <<< (((32 : Int32)).toInt64 &&& 63)) ||| (((xs ((i + (3 : Int32))).toNatClampNeg)).toInt64 &&& (4294967295 : Int64)))) s1 = some (b0, s2)) (hz3 : f_Z_thrown s2 = some k) (hz4 : k = 0 → (s2.2 0 37 ((0 : Int32)).toNatClampNeg) = b0) (kk : ax_R ((p, l, e, R, st, m, args), (below, meth, c), (Q, A), (D, cA, ad, al, θ)) 8 (cells + 1) (slots + 6) (904, [(4, .inl (.int (i))), (3, .inr (0, 37)), (2, .inr (0, 38)), (1, .inr (0, 23)), (0, .inl (.ref b))], [], ax_m s2 ρ)) : ax_R ((p, l, e, R, st, m, args), (below, meth, c), (Q, A), (D, cA, ad, al, θ)) 8 cells slots (385, [(4, .inl (.int (i))), (3, .inr (0, 37)), (2, .inr (0, 38)), (1, .inr (0, 23)), (0, .inl (.ref b))], [], ax_m s ρ) := by
  have hal : ax_al ((p, l, e, R, st, m, args), (below, meth, c), (Q, A), (D, cA, ad, al, θ)) = al := rfl
  refine ax_bk hK (ax_fc (ax_v_ld (ax_r_aload_n (i := 1) d_W_law_385 rfl)) (ax_fc (ax_v_ld (ax_r_aload_n (i := 0) d_W_law_386 rfl)) (ax_fc (ax_v_ld (ax_r_iload d_W_law_387)) (ax_fc (ax_v_pu (ax_r_iconst (v := 1) d_W_law_389 (by decide))) (ax_fc (ax_v_pu (ax_r_iadd d_W_law_390)) (ax_fc (ax_w_sc hX d_W_law_391) (ax_fc (ax_v_ld (ax_r_aload_n (i := 0) d_W_law_392 rfl)) (ax_fc (ax_v_ld (ax_r_iload d_W_law_393)) (ax_fc (ax_v_pu (ax_r_iconst (v := 2) d_W_law_395 (by decide))) (ax_fc (ax_v_pu (ax_r_iadd d_W_law_396)) (ax_fc (ax_w_sc hX d_W_law_397) (ax_fc (ax_v_pu (ax_r_i2l d_W_law_398)) (ax_fc (ax_v_pu (ax_r_bipush (v := 32) d_W_law_399 (by decide))) (ax_fc (ax_v_pu (ax_r_lshl d_W_law_401)) (ax_fc (ax_v_ld (ax_r_aload_n (i := 0) d_W_law_402 rfl)) (ax_fc (ax_v_ld (ax_r_iload d_W_law_403)) (ax_fc (ax_v_pu (ax_r_iconst (v := 3) d_W_law_405 (by decide))) (ax_fc (ax_v_pu (ax_r_iadd d_W_law_406)) (ax_fc (ax_w_sc hX d_W_law_407) (ax_fc (ax_v_pu (ax_r_i2l d_W_law_408)) (ax_fc (ax_v_ldc2 (v := 4294967295) d_W_law_409 (nw_6 159 (by decide +kernel) rfl)) (ax_fc (ax_v_pu (ax_r_land d_W_law_412)) (ax_fc (ax_v_pu (ax_r_lor d_W_law_413)) (ax_fc (ax_v_ld (ax_r_aload_n (i := 3) d_W_law_414 rfl)) ax_fn)))))))))))))))))))))))) (y := (415, [(4, .inl (.int (i))), (3, .inr (0, 37)), (2, .inr (0, 38)), (1, .inr (0, 23)), (0, .inl (.ref b))], [.inr (0, 37), .inl (.long (((((xs ((i + (2 : Int32))).toNatClampNeg)).toInt64 <<< (((32 : Int32)).toInt64 &&& 63)) ||| (((xs ((i + (3 : Int32))).toNatClampNeg)).toInt64 &&& (4294967295 : Int64))))), .inl (.int ((xs ((i + (1 : Int32))).toNatClampNeg))), .inr (0, 23)], ax_m s ρ)) rfl ⟨trivial, trivial, trivial, trivial, trivial, ⟨rfl, hk1⟩, trivial, trivial, trivial, trivial, ⟨rfl, hk2⟩, trivial, trivial, trivial, trivial, trivial, trivial, trivial, ⟨rfl, hk3⟩, trivial, trivial, trivial, trivial, trivial, trivial⟩ ?_
  refine ax_gU (n := 4) (rest := []) hK (Nat.le_trans (by decide) hfr) (Nat.le_trans (by decide) hlo) hT (nw_4 20 (by decide +kernel) rfl) (nw_1 0 (by decide +kernel) rfl) (nw_4 22 rfl rfl) (by decide +kernel) (by decide +kernel) (nw_4 21 (by decide +kernel) rfl) d_W_law_415 (by decide) rfl rfl (Nat.le_of_ble_eq_true rfl) hc hs ?_
  change ax_R _ 8 (cells + 1) (slots + 6) (418, [(4, .inl (.int (i))), (3, .inr (0, 37)), (2, .inr (0, 38)), (1, .inr (0, 23)), (0, .inl (.ref b))], [.inl (.int (k))], ax_m s1 ρ)
  refine ax_bk hK (ax_fc (ax_v_so (ax_r_istore d_W_law_418)) (ax_fc (ax_v_ld (ax_r_aload_n (i := 2) d_W_law_420 rfl)) (ax_fc (ax_v_ld (ax_r_aload_n (i := 0) d_W_law_421 rfl)) (ax_fc (ax_v_ld (ax_r_iload d_W_law_422)) (ax_fc (ax_v_pu (ax_r_iconst (v := 1) d_W_law_424 (by decide))) (ax_fc (ax_v_pu (ax_r_iadd d_W_law_425)) (ax_fc (ax_w_sc hX d_W_law_426) (ax_fc (ax_v_ld (ax_r_aload_n (i := 0) d_W_law_427 rfl)) (ax_fc (ax_v_ld (ax_r_iload d_W_law_428)) (ax_fc (ax_v_pu (ax_r_iconst (v := 2) d_W_law_430 (by decide))) (ax_fc (ax_v_pu (ax_r_iadd d_W_law_431)) (ax_fc (ax_w_sc hX d_W_law_432) (ax_fc (ax_v_pu (ax_r_i2l d_W_law_433)) (ax_fc (ax_v_pu (ax_r_bipush (v := 32) d_W_law_434 (by decide))) (ax_fc (ax_v_pu (ax_r_lshl d_W_law_436)) (ax_fc (ax_v_ld (ax_r_aload_n (i := 0) d_W_law_437 rfl)) (ax_fc (ax_v_ld (ax_r_iload d_W_law_438)) (ax_fc (ax_v_pu (ax_r_iconst (v := 3) d_W_law_440 (by decide))) (ax_fc (ax_v_pu (ax_r_iadd d_W_law_441)) (ax_fc (ax_w_sc hX d_W_law_442) (ax_fc (ax_v_pu (ax_r_i2l d_W_law_443)) (ax_fc (ax_v_ldc2 (v := 4294967295) d_W_law_444 (nw_6 159 (by decide +kernel) rfl)) (ax_fc (ax_v_pu (ax_r_land d_W_law_447)) (ax_fc (ax_v_pu (ax_r_lor d_W_law_448)) ax_fn)))))))))))))))))))))))) (y := (449, [(5, .inl (.int (k))), (4, .inl (.int (i))), (3, .inr (0, 37)), (2, .inr (0, 38)), (1, .inr (0, 23)), (0, .inl (.ref b))], [.inl (.long (((((xs ((i + (2 : Int32))).toNatClampNeg)).toInt64 <<< (((32 : Int32)).toInt64 &&& 63)) ||| (((xs ((i + (3 : Int32))).toNatClampNeg)).toInt64 &&& (4294967295 : Int64))))), .inl (.int ((xs ((i + (1 : Int32))).toNatClampNeg))), .inr (0, 38)], ax_m s1 ρ)) rfl ⟨trivial, trivial, trivial, trivial, trivial, trivial, ⟨rfl, hk1⟩, trivial, trivial, trivial, trivial, ⟨rfl, hk2⟩, trivial, trivial, trivial, trivial, trivial, trivial, trivial, ⟨rfl, hk3⟩, trivial, trivial, trivial, trivial, trivial⟩ ?_
  refine ax_gV (rest := []) hK (Nat.le_trans (by decide) hfr) (Nat.le_trans (by decide) hlo) (t_Z_key h0 hz2) lcw_94 lim_94 lse_94 d_W_law_449 (h0 38 rfl) rfl rfl (by decide) rfl rfl (Nat.le_of_ble_eq_true rfl) hc hs ?_
  change ax_R _ 8 (cells + 1) (slots + 6) (452, [(5, .inl (.int (k))), (4, .inl (.int (i))), (3, .inr (0, 37)), (2, .inr (0, 38)), (1, .inr (0, 23)), (0, .inl (.ref b))], [.inl (.long (b0))], ax_m s2 ρ)
  refine ax_bk hK (ax_fc (ax_v_so (ax_r_lstore d_W_law_452)) (ax_fc (ax_v_ld (ax_r_aload_n (i := 2) d_W_law_454 rfl)) ax_fn)) (y := (455, [(6, .inl (.long (b0))), (5, .inl (.int (k))), (4, .inl (.int (i))), (3, .inr (0, 37)), (2, .inr (0, 38)), (1, .inr (0, 23)), (0, .inl (.ref b))], [.inr (0, 38)], ax_m s2 ρ)) rfl ⟨trivial, trivial, trivial⟩ ?_
  refine ax_gV (rest := []) hK (Nat.le_trans (by decide) hfr) (Nat.le_trans (by decide) hlo) (t_Z_thrown h0 hz3) lcw_80 lim_80 lse_80 d_W_law_455 (h0 38 rfl) rfl rfl (by decide) rfl rfl (Nat.le_of_ble_eq_true rfl) hc hs ?_
  change ax_R _ 8 (cells + 1) (slots + 6) (458, [(6, .inl (.long (b0))), (5, .inl (.int (k))), (4, .inl (.int (i))), (3, .inr (0, 37)), (2, .inr (0, 38)), (1, .inr (0, 23)), (0, .inl (.ref b))], [.inl (.int (k))], ax_m s2 ρ)
  refine ax_bk hK (ax_fc (ax_v_ld (ax_r_iload d_W_law_458)) ax_fn) (y := (460, [(6, .inl (.long (b0))), (5, .inl (.int (k))), (4, .inl (.int (i))), (3, .inr (0, 37)), (2, .inr (0, 38)), (1, .inr (0, 23)), (0, .inl (.ref b))], [.inl (.int (k)), .inl (.int (k))], ax_m s2 ρ)) rfl ⟨trivial, trivial⟩ ?_
  refine ax_ic_eq (tgt := 465) hK d_W_law_460 (by decide) (fun _ => ?_) (fun c9 => absurd rfl c9)
  refine ax_bk hK (ax_fc (ax_v_ld (ax_r_iload d_W_law_465)) ax_fn) (y := (467, [(6, .inl (.long (b0))), (5, .inl (.int (k))), (4, .inl (.int (i))), (3, .inr (0, 37)), (2, .inr (0, 38)), (1, .inr (0, 23)), (0, .inl (.ref b))], [.inl (.int (k))], ax_m s2 ρ)) rfl ⟨trivial, trivial⟩ ?_
  have KE : ax_R ((p, l, e, R, st, m, args), (below, meth, c), (Q, A), (D, cA, ad, al, θ)) 8 (cells + 1) (slots + 6) (481, [(6, .inl (.long (b0))), (5, .inl (.int (k))), (4, .inl (.int (i))), (3, .inr (0, 37)), (2, .inr (0, 38)), (1, .inr (0, 23)), (0, .inl (.ref b))], [], ax_m s2 ρ) := by
    refine ax_bk hK (ax_fc (ax_v_go (tgt := 904) d_W_law_481 (by decide)) ax_fn) (y := (904, [(6, .inl (.long (b0))), (5, .inl (.int (k))), (4, .inl (.int (i))), (3, .inr (0, 37)), (2, .inr (0, 38)), (1, .inr (0, 23)), (0, .inl (.ref b))], [], ax_m s2 ρ)) rfl ⟨trivial, trivial⟩ ?_
    exact ax_Lsub [2, 3, 4, 5, 6] rfl kk
  refine ax_if_ne (tgt := 481) hK d_W_law_467 (by decide) (fun _ => KE) (fun c8 => ?_)
  refine ax_bk hK (ax_fc (ax_v_ld (ax_r_aload_n (i := 3) d_W_law_470 rfl)) (ax_fc (ax_v_pu (ax_r_iconst (v := 0) d_W_law_471 (by decide))) (ax_fc (ax_w_lald hal d_W_law_472) (ax_fc (ax_v_ld (ax_r_lload d_W_law_473)) (ax_fc (ax_v_pu (ax_r_lcmp d_W_law_475)) ax_fn))))) (y := (476, [(6, .inl (.long (b0))), (5, .inl (.int (k))), (4, .inl (.int (i))), (3, .inr (0, 37)), (2, .inr (0, 38)), (1, .inr (0, 23)), (0, .inl (.ref b))], [.inl (.int ((lg_cmp (s2.2 0 37 ((0 : Int32)).toNatClampNeg) b0)))], ax_m s2 ρ)) rfl ⟨trivial, trivial, ⟨h0 37 rfl, ax_inp (by decide)⟩, trivial, trivial, trivial⟩ ?_
  refine ax_if_eq (tgt := 481) hK d_W_law_476 (by decide) (fun _ => KE) (fun c7 => ?_)
  exact absurd (by rw [hz4 c8]; simp [lg_cmp]) c7
theorem lcw_97 : ax_cw "CipherNotationLaw" 97 y_Z_state (.code y_Z_state prog_8_method_62_code 6 (some .long)) 2 := ⟨nw_6 90 (by decide +kernel) rfl, nw_1 7 (by decide +kernel) rfl, nw_6 93 rfl rfl, by decide +kernel, by decide +kernel⟩
theorem lim_97 : Cond.instanceMethod y_Z_state ∈ ax_tbl := nw_6 91 (by decide +kernel) rfl
theorem lse_97 : Cond.selects y_Z_state.cls y_Z_state y_Z_state ∈ ax_tbl := nw_6 92 (by decide +kernel) rfl
set_option maxHeartbeats 4000000 in
set_option maxRecDepth 100000 in
theorem lc_state {p : Program} {l : Launch} {e : Env} {R : Room} {st : State} {m : MethodId} {args : Array Value} {below : List Frame} {meth : Method} {c : Code} {Q : State → Prop} {A : Nat → Prop} {D : va_G} {cA : Nat → ClassId} {ad : Nat → Nat → Nat} {al : List (Nat × Nat)} {θ : ax_Θ} {b Ln cells slots : Nat} {xs : Nat → Int32} {i : Int32} {s : ax_σ} {ρ : ax_ρ} (hK : ax_K "CipherNotationLaw" code 8 ((p, l, e, R, st, m, args), (below, meth, c), (Q, A), (D, cA, ad, al, θ))) (hfr : 100 ≤ R.frames) (hlo : 8000 ≤ R.locals) (hX : ax_scr b Ln xs ((p, l, e, R, st, m, args), (below, meth, c), (Q, A), (D, cA, ad, al, θ))) (h0 : ax_M0 al) (hc : cells + 1 ≤ R.cells) (hs : slots + 6 ≤ R.slots) (hk1 : vp_in (i + (1 : Int32)) Ln) (hk2 : vp_in (i + (2 : Int32)) Ln) (hk3 : vp_in (i + (3 : Int32)) Ln) {s1 : ax_σ} {k : Int32} (hT : ax_U l D cA ad al θ y_W_state (.codeWith y_W_state method_6_code 6 (some .int) [(0, 10, 13, 13), (0, 10, 17, 21), (0, 10, 21, 15)]) 8 [.inr (0, 23), .inl (.int ((xs ((i + (1 : Int32))).toNatClampNeg))), .inl (.long (((((xs ((i + (2 : Int32))).toNatClampNeg)).toInt64 <<< (((32 : Int32)).toInt64 &&& 63)) ||| (((xs ((i + (3 : Int32))).toNatClampNeg)).toInt64 &&& (4294967295 : Int64))))), .inr (0, 37)] (ax_m s ρ) (some (.inl (.int k))) (ax_m s1 ρ)) {F : Nat} {s2 : ax_σ} {b0 : Int64} (hz2 : f_Z_state ((xs ((i + (1 : Int32))).toNatClampNeg)) (((((xs ((i + (2 : Int32))).toNatClampNeg)).toInt64 <<< (((32 : Int32)).toInt64 &&& 63)) ||| (((xs ((i + (3 : Int32))).toNatClampNeg)).toInt64 &&& (4294967295 : Int64)))) s1 = some (b0, s2)) (hz3 : f_Z_thrown s2 = some k) (hz4 : k = 0 → (s2.2 0 37 ((0 : Int32)).toNatClampNeg) = b0) (kk : ax_R ((p, l, e, R, st, m, args), (below, meth, c), (Q, A), (D, cA, ad, al, θ)) 8 (cells + 1) (slots + 6) (904, [(4, .inl (.int (i))), (3, .inr (0, 37)), (2, .inr (0, 38)), (1, .inr (0, 23)), (0, .inl (.ref b))], [], ax_m s2 ρ)) : ax_R ((p, l, e, R, st, m, args), (below, meth, c), (Q, A), (D, cA, ad, al, θ)) 8 cells slots (484, [(4, .inl (.int (i))), (3, .inr (0, 37)), (2, .inr (0, 38)), (1, .inr (0, 23)), (0, .inl (.ref b))], [], ax_m s ρ) := by
  have hal : ax_al ((p, l, e, R, st, m, args), (below, meth, c), (Q, A), (D, cA, ad, al, θ)) = al := rfl
  refine ax_bk hK (ax_fc (ax_v_ld (ax_r_aload_n (i := 1) d_W_law_484 rfl)) (ax_fc (ax_v_ld (ax_r_aload_n (i := 0) d_W_law_485 rfl)) (ax_fc (ax_v_ld (ax_r_iload d_W_law_486)) (ax_fc (ax_v_pu (ax_r_iconst (v := 1) d_W_law_488 (by decide))) (ax_fc (ax_v_pu (ax_r_iadd d_W_law_489)) (ax_fc (ax_w_sc hX d_W_law_490) (ax_fc (ax_v_ld (ax_r_aload_n (i := 0) d_W_law_491 rfl)) (ax_fc (ax_v_ld (ax_r_iload d_W_law_492)) (ax_fc (ax_v_pu (ax_r_iconst (v := 2) d_W_law_494 (by decide))) (ax_fc (ax_v_pu (ax_r_iadd d_W_law_495)) (ax_fc (ax_w_sc hX d_W_law_496) (ax_fc (ax_v_pu (ax_r_i2l d_W_law_497)) (ax_fc (ax_v_pu (ax_r_bipush (v := 32) d_W_law_498 (by decide))) (ax_fc (ax_v_pu (ax_r_lshl d_W_law_500)) (ax_fc (ax_v_ld (ax_r_aload_n (i := 0) d_W_law_501 rfl)) (ax_fc (ax_v_ld (ax_r_iload d_W_law_502)) (ax_fc (ax_v_pu (ax_r_iconst (v := 3) d_W_law_504 (by decide))) (ax_fc (ax_v_pu (ax_r_iadd d_W_law_505)) (ax_fc (ax_w_sc hX d_W_law_506) (ax_fc (ax_v_pu (ax_r_i2l d_W_law_507)) (ax_fc (ax_v_ldc2 (v := 4294967295) d_W_law_508 (nw_6 159 (by decide +kernel) rfl)) (ax_fc (ax_v_pu (ax_r_land d_W_law_511)) (ax_fc (ax_v_pu (ax_r_lor d_W_law_512)) (ax_fc (ax_v_ld (ax_r_aload_n (i := 3) d_W_law_513 rfl)) ax_fn)))))))))))))))))))))))) (y := (514, [(4, .inl (.int (i))), (3, .inr (0, 37)), (2, .inr (0, 38)), (1, .inr (0, 23)), (0, .inl (.ref b))], [.inr (0, 37), .inl (.long (((((xs ((i + (2 : Int32))).toNatClampNeg)).toInt64 <<< (((32 : Int32)).toInt64 &&& 63)) ||| (((xs ((i + (3 : Int32))).toNatClampNeg)).toInt64 &&& (4294967295 : Int64))))), .inl (.int ((xs ((i + (1 : Int32))).toNatClampNeg))), .inr (0, 23)], ax_m s ρ)) rfl ⟨trivial, trivial, trivial, trivial, trivial, ⟨rfl, hk1⟩, trivial, trivial, trivial, trivial, ⟨rfl, hk2⟩, trivial, trivial, trivial, trivial, trivial, trivial, trivial, ⟨rfl, hk3⟩, trivial, trivial, trivial, trivial, trivial, trivial⟩ ?_
  refine ax_gU (n := 4) (rest := []) hK (Nat.le_trans (by decide) hfr) (Nat.le_trans (by decide) hlo) hT (nw_4 32 (by decide +kernel) rfl) (nw_1 0 (by decide +kernel) rfl) (nw_4 34 rfl rfl) (by decide +kernel) (by decide +kernel) (nw_4 33 (by decide +kernel) rfl) d_W_law_514 (by decide) rfl rfl (Nat.le_of_ble_eq_true rfl) hc hs ?_
  change ax_R _ 8 (cells + 1) (slots + 6) (517, [(4, .inl (.int (i))), (3, .inr (0, 37)), (2, .inr (0, 38)), (1, .inr (0, 23)), (0, .inl (.ref b))], [.inl (.int (k))], ax_m s1 ρ)
  refine ax_bk hK (ax_fc (ax_v_so (ax_r_istore d_W_law_517)) (ax_fc (ax_v_ld (ax_r_aload_n (i := 2) d_W_law_519 rfl)) (ax_fc (ax_v_ld (ax_r_aload_n (i := 0) d_W_law_520 rfl)) (ax_fc (ax_v_ld (ax_r_iload d_W_law_521)) (ax_fc (ax_v_pu (ax_r_iconst (v := 1) d_W_law_523 (by decide))) (ax_fc (ax_v_pu (ax_r_iadd d_W_law_524)) (ax_fc (ax_w_sc hX d_W_law_525) (ax_fc (ax_v_ld (ax_r_aload_n (i := 0) d_W_law_526 rfl)) (ax_fc (ax_v_ld (ax_r_iload d_W_law_527)) (ax_fc (ax_v_pu (ax_r_iconst (v := 2) d_W_law_529 (by decide))) (ax_fc (ax_v_pu (ax_r_iadd d_W_law_530)) (ax_fc (ax_w_sc hX d_W_law_531) (ax_fc (ax_v_pu (ax_r_i2l d_W_law_532)) (ax_fc (ax_v_pu (ax_r_bipush (v := 32) d_W_law_533 (by decide))) (ax_fc (ax_v_pu (ax_r_lshl d_W_law_535)) (ax_fc (ax_v_ld (ax_r_aload_n (i := 0) d_W_law_536 rfl)) (ax_fc (ax_v_ld (ax_r_iload d_W_law_537)) (ax_fc (ax_v_pu (ax_r_iconst (v := 3) d_W_law_539 (by decide))) (ax_fc (ax_v_pu (ax_r_iadd d_W_law_540)) (ax_fc (ax_w_sc hX d_W_law_541) (ax_fc (ax_v_pu (ax_r_i2l d_W_law_542)) (ax_fc (ax_v_ldc2 (v := 4294967295) d_W_law_543 (nw_6 159 (by decide +kernel) rfl)) (ax_fc (ax_v_pu (ax_r_land d_W_law_546)) (ax_fc (ax_v_pu (ax_r_lor d_W_law_547)) ax_fn)))))))))))))))))))))))) (y := (548, [(5, .inl (.int (k))), (4, .inl (.int (i))), (3, .inr (0, 37)), (2, .inr (0, 38)), (1, .inr (0, 23)), (0, .inl (.ref b))], [.inl (.long (((((xs ((i + (2 : Int32))).toNatClampNeg)).toInt64 <<< (((32 : Int32)).toInt64 &&& 63)) ||| (((xs ((i + (3 : Int32))).toNatClampNeg)).toInt64 &&& (4294967295 : Int64))))), .inl (.int ((xs ((i + (1 : Int32))).toNatClampNeg))), .inr (0, 38)], ax_m s1 ρ)) rfl ⟨trivial, trivial, trivial, trivial, trivial, trivial, ⟨rfl, hk1⟩, trivial, trivial, trivial, trivial, ⟨rfl, hk2⟩, trivial, trivial, trivial, trivial, trivial, trivial, trivial, ⟨rfl, hk3⟩, trivial, trivial, trivial, trivial, trivial⟩ ?_
  refine ax_gV (rest := []) hK (Nat.le_trans (by decide) hfr) (Nat.le_trans (by decide) hlo) (t_Z_state h0 hz2) lcw_97 lim_97 lse_97 d_W_law_548 (h0 38 rfl) rfl rfl (by decide) rfl rfl (Nat.le_of_ble_eq_true rfl) hc hs ?_
  change ax_R _ 8 (cells + 1) (slots + 6) (551, [(5, .inl (.int (k))), (4, .inl (.int (i))), (3, .inr (0, 37)), (2, .inr (0, 38)), (1, .inr (0, 23)), (0, .inl (.ref b))], [.inl (.long (b0))], ax_m s2 ρ)
  refine ax_bk hK (ax_fc (ax_v_so (ax_r_lstore d_W_law_551)) (ax_fc (ax_v_ld (ax_r_aload_n (i := 2) d_W_law_553 rfl)) ax_fn)) (y := (554, [(6, .inl (.long (b0))), (5, .inl (.int (k))), (4, .inl (.int (i))), (3, .inr (0, 37)), (2, .inr (0, 38)), (1, .inr (0, 23)), (0, .inl (.ref b))], [.inr (0, 38)], ax_m s2 ρ)) rfl ⟨trivial, trivial, trivial⟩ ?_
  refine ax_gV (rest := []) hK (Nat.le_trans (by decide) hfr) (Nat.le_trans (by decide) hlo) (t_Z_thrown h0 hz3) lcw_80 lim_80 lse_80 d_W_law_554 (h0 38 rfl) rfl rfl (by decide) rfl rfl (Nat.le_of_ble_eq_true rfl) hc hs ?_
  change ax_R _ 8 (cells + 1) (slots + 6) (557, [(6, .inl (.long (b0))), (5, .inl (.int (k))), (4, .inl (.int (i))), (3, .inr (0, 37)), (2, .inr (0, 38)), (1, .inr (0, 23)), (0, .inl (.ref b))], [.inl (.int (k))], ax_m s2 ρ)
  refine ax_bk hK (ax_fc (ax_v_ld (ax_r_iload d_W_law_557)) ax_fn) (y := (559, [(6, .inl (.long (b0))), (5, .inl (.int (k))), (4, .inl (.int (i))), (3, .inr (0, 37)), (2, .inr (0, 38)), (1, .inr (0, 23)), (0, .inl (.ref b))], [.inl (.int (k)), .inl (.int (k))], ax_m s2 ρ)) rfl ⟨trivial, trivial⟩ ?_
  refine ax_ic_eq (tgt := 564) hK d_W_law_559 (by decide) (fun _ => ?_) (fun c9 => absurd rfl c9)
  refine ax_bk hK (ax_fc (ax_v_ld (ax_r_iload d_W_law_564)) ax_fn) (y := (566, [(6, .inl (.long (b0))), (5, .inl (.int (k))), (4, .inl (.int (i))), (3, .inr (0, 37)), (2, .inr (0, 38)), (1, .inr (0, 23)), (0, .inl (.ref b))], [.inl (.int (k))], ax_m s2 ρ)) rfl ⟨trivial, trivial⟩ ?_
  have KE : ax_R ((p, l, e, R, st, m, args), (below, meth, c), (Q, A), (D, cA, ad, al, θ)) 8 (cells + 1) (slots + 6) (580, [(6, .inl (.long (b0))), (5, .inl (.int (k))), (4, .inl (.int (i))), (3, .inr (0, 37)), (2, .inr (0, 38)), (1, .inr (0, 23)), (0, .inl (.ref b))], [], ax_m s2 ρ) := by
    refine ax_bk hK (ax_fc (ax_v_go (tgt := 904) d_W_law_580 (by decide)) ax_fn) (y := (904, [(6, .inl (.long (b0))), (5, .inl (.int (k))), (4, .inl (.int (i))), (3, .inr (0, 37)), (2, .inr (0, 38)), (1, .inr (0, 23)), (0, .inl (.ref b))], [], ax_m s2 ρ)) rfl ⟨trivial, trivial⟩ ?_
    exact ax_Lsub [2, 3, 4, 5, 6] rfl kk
  refine ax_if_ne (tgt := 580) hK d_W_law_566 (by decide) (fun _ => KE) (fun c8 => ?_)
  refine ax_bk hK (ax_fc (ax_v_ld (ax_r_aload_n (i := 3) d_W_law_569 rfl)) (ax_fc (ax_v_pu (ax_r_iconst (v := 0) d_W_law_570 (by decide))) (ax_fc (ax_w_lald hal d_W_law_571) (ax_fc (ax_v_ld (ax_r_lload d_W_law_572)) (ax_fc (ax_v_pu (ax_r_lcmp d_W_law_574)) ax_fn))))) (y := (575, [(6, .inl (.long (b0))), (5, .inl (.int (k))), (4, .inl (.int (i))), (3, .inr (0, 37)), (2, .inr (0, 38)), (1, .inr (0, 23)), (0, .inl (.ref b))], [.inl (.int ((lg_cmp (s2.2 0 37 ((0 : Int32)).toNatClampNeg) b0)))], ax_m s2 ρ)) rfl ⟨trivial, trivial, ⟨h0 37 rfl, ax_inp (by decide)⟩, trivial, trivial, trivial⟩ ?_
  refine ax_if_eq (tgt := 580) hK d_W_law_575 (by decide) (fun _ => KE) (fun c7 => ?_)
  exact absurd (by rw [hz4 c8]; simp [lg_cmp]) c7
theorem lcw_100 : ax_cw "CipherNotationLaw" 100 y_Z_keyWord (.code y_Z_keyWord prog_8_method_63_code 2 (some .long)) 1 := ⟨nw_6 94 (by decide +kernel) rfl, nw_1 7 (by decide +kernel) rfl, nw_6 97 rfl rfl, by decide +kernel, by decide +kernel⟩
theorem lim_100 : Cond.instanceMethod y_Z_keyWord ∈ ax_tbl := nw_6 95 (by decide +kernel) rfl
theorem lse_100 : Cond.selects y_Z_keyWord.cls y_Z_keyWord y_Z_keyWord ∈ ax_tbl := nw_6 96 (by decide +kernel) rfl
set_option maxHeartbeats 4000000 in
set_option maxRecDepth 100000 in
theorem lc_keyWord {p : Program} {l : Launch} {e : Env} {R : Room} {st : State} {m : MethodId} {args : Array Value} {below : List Frame} {meth : Method} {c : Code} {Q : State → Prop} {A : Nat → Prop} {D : va_G} {cA : Nat → ClassId} {ad : Nat → Nat → Nat} {al : List (Nat × Nat)} {θ : ax_Θ} {b Ln cells slots : Nat} {xs : Nat → Int32} {i : Int32} {s : ax_σ} {ρ : ax_ρ} (hK : ax_K "CipherNotationLaw" code 8 ((p, l, e, R, st, m, args), (below, meth, c), (Q, A), (D, cA, ad, al, θ))) (hfr : 100 ≤ R.frames) (hlo : 8000 ≤ R.locals) (hX : ax_scr b Ln xs ((p, l, e, R, st, m, args), (below, meth, c), (Q, A), (D, cA, ad, al, θ))) (h0 : ax_M0 al) (hc : cells + 1 ≤ R.cells) (hs : slots + 6 ≤ R.slots) (hk1 : vp_in (i + (1 : Int32)) Ln) {s1 : ax_σ} {k : Int32} (hT : ax_U l D cA ad al θ y_W_keyWord (.codeWith y_W_keyWord method_7_code 4 (some .int) [(0, 8, 11, 13), (0, 8, 14, 21)]) 8 [.inr (0, 23), .inl (.int ((xs ((i + (1 : Int32))).toNatClampNeg))), .inr (0, 37)] (ax_m s ρ) (some (.inl (.int k))) (ax_m s1 ρ)) {F : Nat} {s2 : ax_σ} {b0 : Int64} (hz2 : f_Z_keyWord ((xs ((i + (1 : Int32))).toNatClampNeg)) s1 = some (b0, s2)) (hz3 : f_Z_thrown s2 = some k) (hz4 : k = 0 → (s2.2 0 37 ((0 : Int32)).toNatClampNeg) = b0) (kk : ax_R ((p, l, e, R, st, m, args), (below, meth, c), (Q, A), (D, cA, ad, al, θ)) 8 (cells + 1) (slots + 6) (904, [(4, .inl (.int (i))), (3, .inr (0, 37)), (2, .inr (0, 38)), (1, .inr (0, 23)), (0, .inl (.ref b))], [], ax_m s2 ρ)) : ax_R ((p, l, e, R, st, m, args), (below, meth, c), (Q, A), (D, cA, ad, al, θ)) 8 cells slots (583, [(4, .inl (.int (i))), (3, .inr (0, 37)), (2, .inr (0, 38)), (1, .inr (0, 23)), (0, .inl (.ref b))], [], ax_m s ρ) := by
  have hal : ax_al ((p, l, e, R, st, m, args), (below, meth, c), (Q, A), (D, cA, ad, al, θ)) = al := rfl
  refine ax_bk hK (ax_fc (ax_v_ld (ax_r_aload_n (i := 1) d_W_law_583 rfl)) (ax_fc (ax_v_ld (ax_r_aload_n (i := 0) d_W_law_584 rfl)) (ax_fc (ax_v_ld (ax_r_iload d_W_law_585)) (ax_fc (ax_v_pu (ax_r_iconst (v := 1) d_W_law_587 (by decide))) (ax_fc (ax_v_pu (ax_r_iadd d_W_law_588)) (ax_fc (ax_w_sc hX d_W_law_589) (ax_fc (ax_v_ld (ax_r_aload_n (i := 3) d_W_law_590 rfl)) ax_fn))))))) (y := (591, [(4, .inl (.int (i))), (3, .inr (0, 37)), (2, .inr (0, 38)), (1, .inr (0, 23)), (0, .inl (.ref b))], [.inr (0, 37), .inl (.int ((xs ((i + (1 : Int32))).toNatClampNeg))), .inr (0, 23)], ax_m s ρ)) rfl ⟨trivial, trivial, trivial, trivial, trivial, ⟨rfl, hk1⟩, trivial, trivial⟩ ?_
  refine ax_gU (n := 3) (rest := []) hK (Nat.le_trans (by decide) hfr) (Nat.le_trans (by decide) hlo) hT (nw_4 39 (by decide +kernel) rfl) (nw_1 0 (by decide +kernel) rfl) (nw_4 41 rfl rfl) (by decide +kernel) (by decide +kernel) (nw_4 40 (by decide +kernel) rfl) d_W_law_591 (by decide) rfl rfl (Nat.le_of_ble_eq_true rfl) hc hs ?_
  change ax_R _ 8 (cells + 1) (slots + 6) (594, [(4, .inl (.int (i))), (3, .inr (0, 37)), (2, .inr (0, 38)), (1, .inr (0, 23)), (0, .inl (.ref b))], [.inl (.int (k))], ax_m s1 ρ)
  refine ax_bk hK (ax_fc (ax_v_so (ax_r_istore d_W_law_594)) (ax_fc (ax_v_ld (ax_r_aload_n (i := 2) d_W_law_596 rfl)) (ax_fc (ax_v_ld (ax_r_aload_n (i := 0) d_W_law_597 rfl)) (ax_fc (ax_v_ld (ax_r_iload d_W_law_598)) (ax_fc (ax_v_pu (ax_r_iconst (v := 1) d_W_law_600 (by decide))) (ax_fc (ax_v_pu (ax_r_iadd d_W_law_601)) (ax_fc (ax_w_sc hX d_W_law_602) ax_fn))))))) (y := (603, [(5, .inl (.int (k))), (4, .inl (.int (i))), (3, .inr (0, 37)), (2, .inr (0, 38)), (1, .inr (0, 23)), (0, .inl (.ref b))], [.inl (.int ((xs ((i + (1 : Int32))).toNatClampNeg))), .inr (0, 38)], ax_m s1 ρ)) rfl ⟨trivial, trivial, trivial, trivial, trivial, trivial, ⟨rfl, hk1⟩, trivial⟩ ?_
  refine ax_gV (rest := []) hK (Nat.le_trans (by decide) hfr) (Nat.le_trans (by decide) hlo) (t_Z_keyWord h0 hz2) lcw_100 lim_100 lse_100 d_W_law_603 (h0 38 rfl) rfl rfl (by decide) rfl rfl (Nat.le_of_ble_eq_true rfl) hc hs ?_
  change ax_R _ 8 (cells + 1) (slots + 6) (606, [(5, .inl (.int (k))), (4, .inl (.int (i))), (3, .inr (0, 37)), (2, .inr (0, 38)), (1, .inr (0, 23)), (0, .inl (.ref b))], [.inl (.long (b0))], ax_m s2 ρ)
  refine ax_bk hK (ax_fc (ax_v_so (ax_r_lstore d_W_law_606)) (ax_fc (ax_v_ld (ax_r_aload_n (i := 2) d_W_law_608 rfl)) ax_fn)) (y := (609, [(6, .inl (.long (b0))), (5, .inl (.int (k))), (4, .inl (.int (i))), (3, .inr (0, 37)), (2, .inr (0, 38)), (1, .inr (0, 23)), (0, .inl (.ref b))], [.inr (0, 38)], ax_m s2 ρ)) rfl ⟨trivial, trivial, trivial⟩ ?_
  refine ax_gV (rest := []) hK (Nat.le_trans (by decide) hfr) (Nat.le_trans (by decide) hlo) (t_Z_thrown h0 hz3) lcw_80 lim_80 lse_80 d_W_law_609 (h0 38 rfl) rfl rfl (by decide) rfl rfl (Nat.le_of_ble_eq_true rfl) hc hs ?_
  change ax_R _ 8 (cells + 1) (slots + 6) (612, [(6, .inl (.long (b0))), (5, .inl (.int (k))), (4, .inl (.int (i))), (3, .inr (0, 37)), (2, .inr (0, 38)), (1, .inr (0, 23)), (0, .inl (.ref b))], [.inl (.int (k))], ax_m s2 ρ)
  refine ax_bk hK (ax_fc (ax_v_ld (ax_r_iload d_W_law_612)) ax_fn) (y := (614, [(6, .inl (.long (b0))), (5, .inl (.int (k))), (4, .inl (.int (i))), (3, .inr (0, 37)), (2, .inr (0, 38)), (1, .inr (0, 23)), (0, .inl (.ref b))], [.inl (.int (k)), .inl (.int (k))], ax_m s2 ρ)) rfl ⟨trivial, trivial⟩ ?_
  refine ax_ic_eq (tgt := 619) hK d_W_law_614 (by decide) (fun _ => ?_) (fun c9 => absurd rfl c9)
  refine ax_bk hK (ax_fc (ax_v_ld (ax_r_iload d_W_law_619)) ax_fn) (y := (621, [(6, .inl (.long (b0))), (5, .inl (.int (k))), (4, .inl (.int (i))), (3, .inr (0, 37)), (2, .inr (0, 38)), (1, .inr (0, 23)), (0, .inl (.ref b))], [.inl (.int (k))], ax_m s2 ρ)) rfl ⟨trivial, trivial⟩ ?_
  have KE : ax_R ((p, l, e, R, st, m, args), (below, meth, c), (Q, A), (D, cA, ad, al, θ)) 8 (cells + 1) (slots + 6) (635, [(6, .inl (.long (b0))), (5, .inl (.int (k))), (4, .inl (.int (i))), (3, .inr (0, 37)), (2, .inr (0, 38)), (1, .inr (0, 23)), (0, .inl (.ref b))], [], ax_m s2 ρ) := by
    refine ax_bk hK (ax_fc (ax_v_go (tgt := 904) d_W_law_635 (by decide)) ax_fn) (y := (904, [(6, .inl (.long (b0))), (5, .inl (.int (k))), (4, .inl (.int (i))), (3, .inr (0, 37)), (2, .inr (0, 38)), (1, .inr (0, 23)), (0, .inl (.ref b))], [], ax_m s2 ρ)) rfl ⟨trivial, trivial⟩ ?_
    exact ax_Lsub [2, 3, 4, 5, 6] rfl kk
  refine ax_if_ne (tgt := 635) hK d_W_law_621 (by decide) (fun _ => KE) (fun c8 => ?_)
  refine ax_bk hK (ax_fc (ax_v_ld (ax_r_aload_n (i := 3) d_W_law_624 rfl)) (ax_fc (ax_v_pu (ax_r_iconst (v := 0) d_W_law_625 (by decide))) (ax_fc (ax_w_lald hal d_W_law_626) (ax_fc (ax_v_ld (ax_r_lload d_W_law_627)) (ax_fc (ax_v_pu (ax_r_lcmp d_W_law_629)) ax_fn))))) (y := (630, [(6, .inl (.long (b0))), (5, .inl (.int (k))), (4, .inl (.int (i))), (3, .inr (0, 37)), (2, .inr (0, 38)), (1, .inr (0, 23)), (0, .inl (.ref b))], [.inl (.int ((lg_cmp (s2.2 0 37 ((0 : Int32)).toNatClampNeg) b0)))], ax_m s2 ρ)) rfl ⟨trivial, trivial, ⟨h0 37 rfl, ax_inp (by decide)⟩, trivial, trivial, trivial⟩ ?_
  refine ax_if_eq (tgt := 635) hK d_W_law_630 (by decide) (fun _ => KE) (fun c7 => ?_)
  exact absurd (by rw [hz4 c8]; simp [lg_cmp]) c7
theorem lcw_103 : ax_cw "CipherNotationLaw" 103 y_Z_word (.code y_Z_word prog_8_method_64_code 2 (some .long)) 1 := ⟨nw_6 98 (by decide +kernel) rfl, nw_1 7 (by decide +kernel) rfl, nw_6 101 rfl rfl, by decide +kernel, by decide +kernel⟩
theorem lim_103 : Cond.instanceMethod y_Z_word ∈ ax_tbl := nw_6 99 (by decide +kernel) rfl
theorem lse_103 : Cond.selects y_Z_word.cls y_Z_word y_Z_word ∈ ax_tbl := nw_6 100 (by decide +kernel) rfl
set_option maxHeartbeats 4000000 in
set_option maxRecDepth 100000 in
theorem lc_word {p : Program} {l : Launch} {e : Env} {R : Room} {st : State} {m : MethodId} {args : Array Value} {below : List Frame} {meth : Method} {c : Code} {Q : State → Prop} {A : Nat → Prop} {D : va_G} {cA : Nat → ClassId} {ad : Nat → Nat → Nat} {al : List (Nat × Nat)} {θ : ax_Θ} {b Ln cells slots : Nat} {xs : Nat → Int32} {i : Int32} {s : ax_σ} {ρ : ax_ρ} (hK : ax_K "CipherNotationLaw" code 8 ((p, l, e, R, st, m, args), (below, meth, c), (Q, A), (D, cA, ad, al, θ))) (hfr : 100 ≤ R.frames) (hlo : 8000 ≤ R.locals) (hX : ax_scr b Ln xs ((p, l, e, R, st, m, args), (below, meth, c), (Q, A), (D, cA, ad, al, θ))) (h0 : ax_M0 al) (hc : cells + 1 ≤ R.cells) (hs : slots + 6 ≤ R.slots) (hk1 : vp_in (i + (1 : Int32)) Ln) {s1 : ax_σ} {k : Int32} (hT : ax_U l D cA ad al θ y_W_word (.codeWith y_W_word method_8_code 4 (some .int) [(0, 8, 11, 13), (0, 8, 14, 21)]) 8 [.inr (0, 23), .inl (.int ((xs ((i + (1 : Int32))).toNatClampNeg))), .inr (0, 37)] (ax_m s ρ) (some (.inl (.int k))) (ax_m s1 ρ)) {F : Nat} {s2 : ax_σ} {b0 : Int64} (hz2 : f_Z_word ((xs ((i + (1 : Int32))).toNatClampNeg)) s1 = some (b0, s2)) (hz3 : f_Z_thrown s2 = some k) (hz4 : k = 0 → (s2.2 0 37 ((0 : Int32)).toNatClampNeg) = b0) (kk : ax_R ((p, l, e, R, st, m, args), (below, meth, c), (Q, A), (D, cA, ad, al, θ)) 8 (cells + 1) (slots + 6) (904, [(4, .inl (.int (i))), (3, .inr (0, 37)), (2, .inr (0, 38)), (1, .inr (0, 23)), (0, .inl (.ref b))], [], ax_m s2 ρ)) : ax_R ((p, l, e, R, st, m, args), (below, meth, c), (Q, A), (D, cA, ad, al, θ)) 8 cells slots (638, [(4, .inl (.int (i))), (3, .inr (0, 37)), (2, .inr (0, 38)), (1, .inr (0, 23)), (0, .inl (.ref b))], [], ax_m s ρ) := by
  have hal : ax_al ((p, l, e, R, st, m, args), (below, meth, c), (Q, A), (D, cA, ad, al, θ)) = al := rfl
  refine ax_bk hK (ax_fc (ax_v_ld (ax_r_aload_n (i := 1) d_W_law_638 rfl)) (ax_fc (ax_v_ld (ax_r_aload_n (i := 0) d_W_law_639 rfl)) (ax_fc (ax_v_ld (ax_r_iload d_W_law_640)) (ax_fc (ax_v_pu (ax_r_iconst (v := 1) d_W_law_642 (by decide))) (ax_fc (ax_v_pu (ax_r_iadd d_W_law_643)) (ax_fc (ax_w_sc hX d_W_law_644) (ax_fc (ax_v_ld (ax_r_aload_n (i := 3) d_W_law_645 rfl)) ax_fn))))))) (y := (646, [(4, .inl (.int (i))), (3, .inr (0, 37)), (2, .inr (0, 38)), (1, .inr (0, 23)), (0, .inl (.ref b))], [.inr (0, 37), .inl (.int ((xs ((i + (1 : Int32))).toNatClampNeg))), .inr (0, 23)], ax_m s ρ)) rfl ⟨trivial, trivial, trivial, trivial, trivial, ⟨rfl, hk1⟩, trivial, trivial⟩ ?_
  refine ax_gU (n := 3) (rest := []) hK (Nat.le_trans (by decide) hfr) (Nat.le_trans (by decide) hlo) hT (nw_4 46 (by decide +kernel) rfl) (nw_1 0 (by decide +kernel) rfl) (nw_4 48 rfl rfl) (by decide +kernel) (by decide +kernel) (nw_4 47 (by decide +kernel) rfl) d_W_law_646 (by decide) rfl rfl (Nat.le_of_ble_eq_true rfl) hc hs ?_
  change ax_R _ 8 (cells + 1) (slots + 6) (649, [(4, .inl (.int (i))), (3, .inr (0, 37)), (2, .inr (0, 38)), (1, .inr (0, 23)), (0, .inl (.ref b))], [.inl (.int (k))], ax_m s1 ρ)
  refine ax_bk hK (ax_fc (ax_v_so (ax_r_istore d_W_law_649)) (ax_fc (ax_v_ld (ax_r_aload_n (i := 2) d_W_law_651 rfl)) (ax_fc (ax_v_ld (ax_r_aload_n (i := 0) d_W_law_652 rfl)) (ax_fc (ax_v_ld (ax_r_iload d_W_law_653)) (ax_fc (ax_v_pu (ax_r_iconst (v := 1) d_W_law_655 (by decide))) (ax_fc (ax_v_pu (ax_r_iadd d_W_law_656)) (ax_fc (ax_w_sc hX d_W_law_657) ax_fn))))))) (y := (658, [(5, .inl (.int (k))), (4, .inl (.int (i))), (3, .inr (0, 37)), (2, .inr (0, 38)), (1, .inr (0, 23)), (0, .inl (.ref b))], [.inl (.int ((xs ((i + (1 : Int32))).toNatClampNeg))), .inr (0, 38)], ax_m s1 ρ)) rfl ⟨trivial, trivial, trivial, trivial, trivial, trivial, ⟨rfl, hk1⟩, trivial⟩ ?_
  refine ax_gV (rest := []) hK (Nat.le_trans (by decide) hfr) (Nat.le_trans (by decide) hlo) (t_Z_word h0 hz2) lcw_103 lim_103 lse_103 d_W_law_658 (h0 38 rfl) rfl rfl (by decide) rfl rfl (Nat.le_of_ble_eq_true rfl) hc hs ?_
  change ax_R _ 8 (cells + 1) (slots + 6) (661, [(5, .inl (.int (k))), (4, .inl (.int (i))), (3, .inr (0, 37)), (2, .inr (0, 38)), (1, .inr (0, 23)), (0, .inl (.ref b))], [.inl (.long (b0))], ax_m s2 ρ)
  refine ax_bk hK (ax_fc (ax_v_so (ax_r_lstore d_W_law_661)) (ax_fc (ax_v_ld (ax_r_aload_n (i := 2) d_W_law_663 rfl)) ax_fn)) (y := (664, [(6, .inl (.long (b0))), (5, .inl (.int (k))), (4, .inl (.int (i))), (3, .inr (0, 37)), (2, .inr (0, 38)), (1, .inr (0, 23)), (0, .inl (.ref b))], [.inr (0, 38)], ax_m s2 ρ)) rfl ⟨trivial, trivial, trivial⟩ ?_
  refine ax_gV (rest := []) hK (Nat.le_trans (by decide) hfr) (Nat.le_trans (by decide) hlo) (t_Z_thrown h0 hz3) lcw_80 lim_80 lse_80 d_W_law_664 (h0 38 rfl) rfl rfl (by decide) rfl rfl (Nat.le_of_ble_eq_true rfl) hc hs ?_
  change ax_R _ 8 (cells + 1) (slots + 6) (667, [(6, .inl (.long (b0))), (5, .inl (.int (k))), (4, .inl (.int (i))), (3, .inr (0, 37)), (2, .inr (0, 38)), (1, .inr (0, 23)), (0, .inl (.ref b))], [.inl (.int (k))], ax_m s2 ρ)
  refine ax_bk hK (ax_fc (ax_v_ld (ax_r_iload d_W_law_667)) ax_fn) (y := (669, [(6, .inl (.long (b0))), (5, .inl (.int (k))), (4, .inl (.int (i))), (3, .inr (0, 37)), (2, .inr (0, 38)), (1, .inr (0, 23)), (0, .inl (.ref b))], [.inl (.int (k)), .inl (.int (k))], ax_m s2 ρ)) rfl ⟨trivial, trivial⟩ ?_
  refine ax_ic_eq (tgt := 674) hK d_W_law_669 (by decide) (fun _ => ?_) (fun c9 => absurd rfl c9)
  refine ax_bk hK (ax_fc (ax_v_ld (ax_r_iload d_W_law_674)) ax_fn) (y := (676, [(6, .inl (.long (b0))), (5, .inl (.int (k))), (4, .inl (.int (i))), (3, .inr (0, 37)), (2, .inr (0, 38)), (1, .inr (0, 23)), (0, .inl (.ref b))], [.inl (.int (k))], ax_m s2 ρ)) rfl ⟨trivial, trivial⟩ ?_
  have KE : ax_R ((p, l, e, R, st, m, args), (below, meth, c), (Q, A), (D, cA, ad, al, θ)) 8 (cells + 1) (slots + 6) (690, [(6, .inl (.long (b0))), (5, .inl (.int (k))), (4, .inl (.int (i))), (3, .inr (0, 37)), (2, .inr (0, 38)), (1, .inr (0, 23)), (0, .inl (.ref b))], [], ax_m s2 ρ) := by
    refine ax_bk hK (ax_fc (ax_v_go (tgt := 904) d_W_law_690 (by decide)) ax_fn) (y := (904, [(6, .inl (.long (b0))), (5, .inl (.int (k))), (4, .inl (.int (i))), (3, .inr (0, 37)), (2, .inr (0, 38)), (1, .inr (0, 23)), (0, .inl (.ref b))], [], ax_m s2 ρ)) rfl ⟨trivial, trivial⟩ ?_
    exact ax_Lsub [2, 3, 4, 5, 6] rfl kk
  refine ax_if_ne (tgt := 690) hK d_W_law_676 (by decide) (fun _ => KE) (fun c8 => ?_)
  refine ax_bk hK (ax_fc (ax_v_ld (ax_r_aload_n (i := 3) d_W_law_679 rfl)) (ax_fc (ax_v_pu (ax_r_iconst (v := 0) d_W_law_680 (by decide))) (ax_fc (ax_w_lald hal d_W_law_681) (ax_fc (ax_v_ld (ax_r_lload d_W_law_682)) (ax_fc (ax_v_pu (ax_r_lcmp d_W_law_684)) ax_fn))))) (y := (685, [(6, .inl (.long (b0))), (5, .inl (.int (k))), (4, .inl (.int (i))), (3, .inr (0, 37)), (2, .inr (0, 38)), (1, .inr (0, 23)), (0, .inl (.ref b))], [.inl (.int ((lg_cmp (s2.2 0 37 ((0 : Int32)).toNatClampNeg) b0)))], ax_m s2 ρ)) rfl ⟨trivial, trivial, ⟨h0 37 rfl, ax_inp (by decide)⟩, trivial, trivial, trivial⟩ ?_
  refine ax_if_eq (tgt := 690) hK d_W_law_685 (by decide) (fun _ => KE) (fun c7 => ?_)
  exact absurd (by rw [hz4 c8]; simp [lg_cmp]) c7
theorem lcw_106 : ax_cw "CipherNotationLaw" 106 y_Z_subkey (.code y_Z_subkey prog_8_method_65_code 2 (some .long)) 1 := ⟨nw_6 102 (by decide +kernel) rfl, nw_1 7 (by decide +kernel) rfl, nw_6 105 rfl rfl, by decide +kernel, by decide +kernel⟩
theorem lim_106 : Cond.instanceMethod y_Z_subkey ∈ ax_tbl := nw_6 103 (by decide +kernel) rfl
theorem lse_106 : Cond.selects y_Z_subkey.cls y_Z_subkey y_Z_subkey ∈ ax_tbl := nw_6 104 (by decide +kernel) rfl
set_option maxHeartbeats 4000000 in
set_option maxRecDepth 100000 in
theorem lc_subkey {p : Program} {l : Launch} {e : Env} {R : Room} {st : State} {m : MethodId} {args : Array Value} {below : List Frame} {meth : Method} {c : Code} {Q : State → Prop} {A : Nat → Prop} {D : va_G} {cA : Nat → ClassId} {ad : Nat → Nat → Nat} {al : List (Nat × Nat)} {θ : ax_Θ} {b Ln cells slots : Nat} {xs : Nat → Int32} {i : Int32} {s : ax_σ} {ρ : ax_ρ} (hK : ax_K "CipherNotationLaw" code 8 ((p, l, e, R, st, m, args), (below, meth, c), (Q, A), (D, cA, ad, al, θ))) (hfr : 100 ≤ R.frames) (hlo : 8000 ≤ R.locals) (hX : ax_scr b Ln xs ((p, l, e, R, st, m, args), (below, meth, c), (Q, A), (D, cA, ad, al, θ))) (h0 : ax_M0 al) (hc : cells + 1 ≤ R.cells) (hs : slots + 6 ≤ R.slots) (hk1 : vp_in (i + (1 : Int32)) Ln) {s1 : ax_σ} {k : Int32} (hT : ax_U l D cA ad al θ y_W_subkey (.codeWith y_W_subkey method_9_code 4 (some .int) [(0, 8, 11, 13), (0, 8, 14, 21)]) 8 [.inr (0, 23), .inl (.int ((xs ((i + (1 : Int32))).toNatClampNeg))), .inr (0, 37)] (ax_m s ρ) (some (.inl (.int k))) (ax_m s1 ρ)) {F : Nat} {s2 : ax_σ} {b0 : Int64} (hz2 : f_Z_subkey F ((xs ((i + (1 : Int32))).toNatClampNeg)) s1 = some (b0, s2)) (hz3 : f_Z_thrown s2 = some k) (hz4 : k = 0 → (s2.2 0 37 ((0 : Int32)).toNatClampNeg) = b0) (kk : ax_R ((p, l, e, R, st, m, args), (below, meth, c), (Q, A), (D, cA, ad, al, θ)) 8 (cells + 1) (slots + 6) (904, [(4, .inl (.int (i))), (3, .inr (0, 37)), (2, .inr (0, 38)), (1, .inr (0, 23)), (0, .inl (.ref b))], [], ax_m s2 ρ)) : ax_R ((p, l, e, R, st, m, args), (below, meth, c), (Q, A), (D, cA, ad, al, θ)) 8 cells slots (693, [(4, .inl (.int (i))), (3, .inr (0, 37)), (2, .inr (0, 38)), (1, .inr (0, 23)), (0, .inl (.ref b))], [], ax_m s ρ) := by
  have hal : ax_al ((p, l, e, R, st, m, args), (below, meth, c), (Q, A), (D, cA, ad, al, θ)) = al := rfl
  refine ax_bk hK (ax_fc (ax_v_ld (ax_r_aload_n (i := 1) d_W_law_693 rfl)) (ax_fc (ax_v_ld (ax_r_aload_n (i := 0) d_W_law_694 rfl)) (ax_fc (ax_v_ld (ax_r_iload d_W_law_695)) (ax_fc (ax_v_pu (ax_r_iconst (v := 1) d_W_law_697 (by decide))) (ax_fc (ax_v_pu (ax_r_iadd d_W_law_698)) (ax_fc (ax_w_sc hX d_W_law_699) (ax_fc (ax_v_ld (ax_r_aload_n (i := 3) d_W_law_700 rfl)) ax_fn))))))) (y := (701, [(4, .inl (.int (i))), (3, .inr (0, 37)), (2, .inr (0, 38)), (1, .inr (0, 23)), (0, .inl (.ref b))], [.inr (0, 37), .inl (.int ((xs ((i + (1 : Int32))).toNatClampNeg))), .inr (0, 23)], ax_m s ρ)) rfl ⟨trivial, trivial, trivial, trivial, trivial, ⟨rfl, hk1⟩, trivial, trivial⟩ ?_
  refine ax_gU (n := 3) (rest := []) hK (Nat.le_trans (by decide) hfr) (Nat.le_trans (by decide) hlo) hT (nw_4 53 (by decide +kernel) rfl) (nw_1 0 (by decide +kernel) rfl) (nw_4 55 rfl rfl) (by decide +kernel) (by decide +kernel) (nw_4 54 (by decide +kernel) rfl) d_W_law_701 (by decide) rfl rfl (Nat.le_of_ble_eq_true rfl) hc hs ?_
  change ax_R _ 8 (cells + 1) (slots + 6) (704, [(4, .inl (.int (i))), (3, .inr (0, 37)), (2, .inr (0, 38)), (1, .inr (0, 23)), (0, .inl (.ref b))], [.inl (.int (k))], ax_m s1 ρ)
  refine ax_bk hK (ax_fc (ax_v_so (ax_r_istore d_W_law_704)) (ax_fc (ax_v_ld (ax_r_aload_n (i := 2) d_W_law_706 rfl)) (ax_fc (ax_v_ld (ax_r_aload_n (i := 0) d_W_law_707 rfl)) (ax_fc (ax_v_ld (ax_r_iload d_W_law_708)) (ax_fc (ax_v_pu (ax_r_iconst (v := 1) d_W_law_710 (by decide))) (ax_fc (ax_v_pu (ax_r_iadd d_W_law_711)) (ax_fc (ax_w_sc hX d_W_law_712) ax_fn))))))) (y := (713, [(5, .inl (.int (k))), (4, .inl (.int (i))), (3, .inr (0, 37)), (2, .inr (0, 38)), (1, .inr (0, 23)), (0, .inl (.ref b))], [.inl (.int ((xs ((i + (1 : Int32))).toNatClampNeg))), .inr (0, 38)], ax_m s1 ρ)) rfl ⟨trivial, trivial, trivial, trivial, trivial, trivial, ⟨rfl, hk1⟩, trivial⟩ ?_
  refine ax_gV (rest := []) hK (Nat.le_trans (by decide) hfr) (Nat.le_trans (by decide) hlo) (t_Z_subkey h0 hz2) lcw_106 lim_106 lse_106 d_W_law_713 (h0 38 rfl) rfl rfl (by decide) rfl rfl (Nat.le_of_ble_eq_true rfl) hc hs ?_
  change ax_R _ 8 (cells + 1) (slots + 6) (716, [(5, .inl (.int (k))), (4, .inl (.int (i))), (3, .inr (0, 37)), (2, .inr (0, 38)), (1, .inr (0, 23)), (0, .inl (.ref b))], [.inl (.long (b0))], ax_m s2 ρ)
  refine ax_bk hK (ax_fc (ax_v_so (ax_r_lstore d_W_law_716)) (ax_fc (ax_v_ld (ax_r_aload_n (i := 2) d_W_law_718 rfl)) ax_fn)) (y := (719, [(6, .inl (.long (b0))), (5, .inl (.int (k))), (4, .inl (.int (i))), (3, .inr (0, 37)), (2, .inr (0, 38)), (1, .inr (0, 23)), (0, .inl (.ref b))], [.inr (0, 38)], ax_m s2 ρ)) rfl ⟨trivial, trivial, trivial⟩ ?_
  refine ax_gV (rest := []) hK (Nat.le_trans (by decide) hfr) (Nat.le_trans (by decide) hlo) (t_Z_thrown h0 hz3) lcw_80 lim_80 lse_80 d_W_law_719 (h0 38 rfl) rfl rfl (by decide) rfl rfl (Nat.le_of_ble_eq_true rfl) hc hs ?_
  change ax_R _ 8 (cells + 1) (slots + 6) (722, [(6, .inl (.long (b0))), (5, .inl (.int (k))), (4, .inl (.int (i))), (3, .inr (0, 37)), (2, .inr (0, 38)), (1, .inr (0, 23)), (0, .inl (.ref b))], [.inl (.int (k))], ax_m s2 ρ)
  refine ax_bk hK (ax_fc (ax_v_ld (ax_r_iload d_W_law_722)) ax_fn) (y := (724, [(6, .inl (.long (b0))), (5, .inl (.int (k))), (4, .inl (.int (i))), (3, .inr (0, 37)), (2, .inr (0, 38)), (1, .inr (0, 23)), (0, .inl (.ref b))], [.inl (.int (k)), .inl (.int (k))], ax_m s2 ρ)) rfl ⟨trivial, trivial⟩ ?_
  refine ax_ic_eq (tgt := 729) hK d_W_law_724 (by decide) (fun _ => ?_) (fun c9 => absurd rfl c9)
  refine ax_bk hK (ax_fc (ax_v_ld (ax_r_iload d_W_law_729)) ax_fn) (y := (731, [(6, .inl (.long (b0))), (5, .inl (.int (k))), (4, .inl (.int (i))), (3, .inr (0, 37)), (2, .inr (0, 38)), (1, .inr (0, 23)), (0, .inl (.ref b))], [.inl (.int (k))], ax_m s2 ρ)) rfl ⟨trivial, trivial⟩ ?_
  have KE : ax_R ((p, l, e, R, st, m, args), (below, meth, c), (Q, A), (D, cA, ad, al, θ)) 8 (cells + 1) (slots + 6) (745, [(6, .inl (.long (b0))), (5, .inl (.int (k))), (4, .inl (.int (i))), (3, .inr (0, 37)), (2, .inr (0, 38)), (1, .inr (0, 23)), (0, .inl (.ref b))], [], ax_m s2 ρ) := by
    refine ax_bk hK (ax_fc (ax_v_go (tgt := 904) d_W_law_745 (by decide)) ax_fn) (y := (904, [(6, .inl (.long (b0))), (5, .inl (.int (k))), (4, .inl (.int (i))), (3, .inr (0, 37)), (2, .inr (0, 38)), (1, .inr (0, 23)), (0, .inl (.ref b))], [], ax_m s2 ρ)) rfl ⟨trivial, trivial⟩ ?_
    exact ax_Lsub [2, 3, 4, 5, 6] rfl kk
  refine ax_if_ne (tgt := 745) hK d_W_law_731 (by decide) (fun _ => KE) (fun c8 => ?_)
  refine ax_bk hK (ax_fc (ax_v_ld (ax_r_aload_n (i := 3) d_W_law_734 rfl)) (ax_fc (ax_v_pu (ax_r_iconst (v := 0) d_W_law_735 (by decide))) (ax_fc (ax_w_lald hal d_W_law_736) (ax_fc (ax_v_ld (ax_r_lload d_W_law_737)) (ax_fc (ax_v_pu (ax_r_lcmp d_W_law_739)) ax_fn))))) (y := (740, [(6, .inl (.long (b0))), (5, .inl (.int (k))), (4, .inl (.int (i))), (3, .inr (0, 37)), (2, .inr (0, 38)), (1, .inr (0, 23)), (0, .inl (.ref b))], [.inl (.int ((lg_cmp (s2.2 0 37 ((0 : Int32)).toNatClampNeg) b0)))], ax_m s2 ρ)) rfl ⟨trivial, trivial, ⟨h0 37 rfl, ax_inp (by decide)⟩, trivial, trivial, trivial⟩ ?_
  refine ax_if_eq (tgt := 745) hK d_W_law_740 (by decide) (fun _ => KE) (fun c7 => ?_)
  exact absurd (by rw [hz4 c8]; simp [lg_cmp]) c7
theorem lcw_110 : ax_cw "CipherNotationLaw" 110 y_Z_encrypt (.code y_Z_encrypt prog_8_method_66_code 2 (some .int)) 0 := ⟨nw_6 132 (by decide +kernel) rfl, nw_1 7 (by decide +kernel) rfl, nw_6 135 rfl rfl, by decide +kernel, by decide +kernel⟩
theorem lim_110 : Cond.instanceMethod y_Z_encrypt ∈ ax_tbl := nw_6 133 (by decide +kernel) rfl
theorem lse_110 : Cond.selects y_Z_encrypt.cls y_Z_encrypt y_Z_encrypt ∈ ax_tbl := nw_6 134 (by decide +kernel) rfl
set_option maxHeartbeats 4000000 in
set_option maxRecDepth 100000 in
theorem lc_encrypt {p : Program} {l : Launch} {e : Env} {R : Room} {st : State} {m : MethodId} {args : Array Value} {below : List Frame} {meth : Method} {c : Code} {Q : State → Prop} {A : Nat → Prop} {D : va_G} {cA : Nat → ClassId} {ad : Nat → Nat → Nat} {al : List (Nat × Nat)} {θ : ax_Θ} {b Ln cells slots : Nat} {xs : Nat → Int32} {i : Int32} {s : ax_σ} {ρ : ax_ρ} (hK : ax_K "CipherNotationLaw" code 8 ((p, l, e, R, st, m, args), (below, meth, c), (Q, A), (D, cA, ad, al, θ))) (hfr : 100 ≤ R.frames) (hlo : 8000 ≤ R.locals) (hX : ax_scr b Ln xs ((p, l, e, R, st, m, args), (below, meth, c), (Q, A), (D, cA, ad, al, θ))) (h0 : ax_M0 al) (hc : cells + 1 ≤ R.cells) (hs : slots + 6 ≤ R.slots)  {s1 : ax_σ} {k : Int32} (hT : ax_U l D cA ad al θ y_W_encrypt (.codeWith y_W_encrypt method_10_code 3 (some .int) [(0, 8, 11, 13)]) 8 [.inr (0, 23), .inr (0, 37)] (ax_m s ρ) (some (.inl (.int k))) (ax_m s1 ρ)) {F : Nat} {s2 : ax_σ} {b0 : Int32} (hz2 : f_Z_encrypt F s1 = some (b0, s2)) (hz3 : f_Z_thrown s2 = some k) (hz4 : k = 0 → (s2.2 0 37 ((0 : Int32)).toNatClampNeg) = (b0).toInt64) (kk : ax_R ((p, l, e, R, st, m, args), (below, meth, c), (Q, A), (D, cA, ad, al, θ)) 8 (cells + 1) (slots + 6) (904, [(4, .inl (.int (i))), (3, .inr (0, 37)), (2, .inr (0, 38)), (1, .inr (0, 23)), (0, .inl (.ref b))], [], ax_m s2 ρ)) : ax_R ((p, l, e, R, st, m, args), (below, meth, c), (Q, A), (D, cA, ad, al, θ)) 8 cells slots (748, [(4, .inl (.int (i))), (3, .inr (0, 37)), (2, .inr (0, 38)), (1, .inr (0, 23)), (0, .inl (.ref b))], [], ax_m s ρ) := by
  have hal : ax_al ((p, l, e, R, st, m, args), (below, meth, c), (Q, A), (D, cA, ad, al, θ)) = al := rfl
  refine ax_bk hK (ax_fc (ax_v_ld (ax_r_aload_n (i := 1) d_W_law_748 rfl)) (ax_fc (ax_v_ld (ax_r_aload_n (i := 3) d_W_law_749 rfl)) ax_fn)) (y := (750, [(4, .inl (.int (i))), (3, .inr (0, 37)), (2, .inr (0, 38)), (1, .inr (0, 23)), (0, .inl (.ref b))], [.inr (0, 37), .inr (0, 23)], ax_m s ρ)) rfl ⟨trivial, trivial, trivial⟩ ?_
  refine ax_gU (n := 2) (rest := []) hK (Nat.le_trans (by decide) hfr) (Nat.le_trans (by decide) hlo) hT (nw_4 85 (by decide +kernel) rfl) (nw_1 0 (by decide +kernel) rfl) (nw_4 87 rfl rfl) (by decide +kernel) (by decide +kernel) (nw_4 86 (by decide +kernel) rfl) d_W_law_750 (by decide) rfl rfl (Nat.le_of_ble_eq_true rfl) hc hs ?_
  change ax_R _ 8 (cells + 1) (slots + 6) (753, [(4, .inl (.int (i))), (3, .inr (0, 37)), (2, .inr (0, 38)), (1, .inr (0, 23)), (0, .inl (.ref b))], [.inl (.int (k))], ax_m s1 ρ)
  refine ax_bk hK (ax_fc (ax_v_so (ax_r_istore d_W_law_753)) (ax_fc (ax_v_ld (ax_r_aload_n (i := 2) d_W_law_755 rfl)) ax_fn)) (y := (756, [(5, .inl (.int (k))), (4, .inl (.int (i))), (3, .inr (0, 37)), (2, .inr (0, 38)), (1, .inr (0, 23)), (0, .inl (.ref b))], [.inr (0, 38)], ax_m s1 ρ)) rfl ⟨trivial, trivial, trivial⟩ ?_
  refine ax_gV (rest := []) hK (Nat.le_trans (by decide) hfr) (Nat.le_trans (by decide) hlo) (t_Z_encrypt h0 hz2) lcw_110 lim_110 lse_110 d_W_law_756 (h0 38 rfl) rfl rfl (by decide) rfl rfl (Nat.le_of_ble_eq_true rfl) hc hs ?_
  change ax_R _ 8 (cells + 1) (slots + 6) (759, [(5, .inl (.int (k))), (4, .inl (.int (i))), (3, .inr (0, 37)), (2, .inr (0, 38)), (1, .inr (0, 23)), (0, .inl (.ref b))], [.inl (.int (b0))], ax_m s2 ρ)
  refine ax_bk hK (ax_fc (ax_v_so (ax_r_istore d_W_law_759)) (ax_fc (ax_v_ld (ax_r_aload_n (i := 2) d_W_law_761 rfl)) ax_fn)) (y := (762, [(6, .inl (.int (b0))), (5, .inl (.int (k))), (4, .inl (.int (i))), (3, .inr (0, 37)), (2, .inr (0, 38)), (1, .inr (0, 23)), (0, .inl (.ref b))], [.inr (0, 38)], ax_m s2 ρ)) rfl ⟨trivial, trivial, trivial⟩ ?_
  refine ax_gV (rest := []) hK (Nat.le_trans (by decide) hfr) (Nat.le_trans (by decide) hlo) (t_Z_thrown h0 hz3) lcw_80 lim_80 lse_80 d_W_law_762 (h0 38 rfl) rfl rfl (by decide) rfl rfl (Nat.le_of_ble_eq_true rfl) hc hs ?_
  change ax_R _ 8 (cells + 1) (slots + 6) (765, [(6, .inl (.int (b0))), (5, .inl (.int (k))), (4, .inl (.int (i))), (3, .inr (0, 37)), (2, .inr (0, 38)), (1, .inr (0, 23)), (0, .inl (.ref b))], [.inl (.int (k))], ax_m s2 ρ)
  refine ax_bk hK (ax_fc (ax_v_ld (ax_r_iload d_W_law_765)) ax_fn) (y := (767, [(6, .inl (.int (b0))), (5, .inl (.int (k))), (4, .inl (.int (i))), (3, .inr (0, 37)), (2, .inr (0, 38)), (1, .inr (0, 23)), (0, .inl (.ref b))], [.inl (.int (k)), .inl (.int (k))], ax_m s2 ρ)) rfl ⟨trivial, trivial⟩ ?_
  refine ax_ic_eq (tgt := 772) hK d_W_law_767 (by decide) (fun _ => ?_) (fun c9 => absurd rfl c9)
  refine ax_bk hK (ax_fc (ax_v_ld (ax_r_iload d_W_law_772)) ax_fn) (y := (774, [(6, .inl (.int (b0))), (5, .inl (.int (k))), (4, .inl (.int (i))), (3, .inr (0, 37)), (2, .inr (0, 38)), (1, .inr (0, 23)), (0, .inl (.ref b))], [.inl (.int (k))], ax_m s2 ρ)) rfl ⟨trivial, trivial⟩ ?_
  have KE : ax_R ((p, l, e, R, st, m, args), (below, meth, c), (Q, A), (D, cA, ad, al, θ)) 8 (cells + 1) (slots + 6) (789, [(6, .inl (.int (b0))), (5, .inl (.int (k))), (4, .inl (.int (i))), (3, .inr (0, 37)), (2, .inr (0, 38)), (1, .inr (0, 23)), (0, .inl (.ref b))], [], ax_m s2 ρ) := by
    refine ax_bk hK (ax_fc (ax_v_go (tgt := 904) d_W_law_789 (by decide)) ax_fn) (y := (904, [(6, .inl (.int (b0))), (5, .inl (.int (k))), (4, .inl (.int (i))), (3, .inr (0, 37)), (2, .inr (0, 38)), (1, .inr (0, 23)), (0, .inl (.ref b))], [], ax_m s2 ρ)) rfl ⟨trivial, trivial⟩ ?_
    exact ax_Lsub [2, 3, 4, 5, 6] rfl kk
  refine ax_if_ne (tgt := 789) hK d_W_law_774 (by decide) (fun _ => KE) (fun c8 => ?_)
  refine ax_bk hK (ax_fc (ax_v_ld (ax_r_aload_n (i := 3) d_W_law_777 rfl)) (ax_fc (ax_v_pu (ax_r_iconst (v := 0) d_W_law_778 (by decide))) (ax_fc (ax_w_lald hal d_W_law_779) (ax_fc (ax_v_ld (ax_r_iload d_W_law_780)) (ax_fc (ax_v_pu (ax_r_i2l d_W_law_782)) (ax_fc (ax_v_pu (ax_r_lcmp d_W_law_783)) ax_fn)))))) (y := (784, [(6, .inl (.int (b0))), (5, .inl (.int (k))), (4, .inl (.int (i))), (3, .inr (0, 37)), (2, .inr (0, 38)), (1, .inr (0, 23)), (0, .inl (.ref b))], [.inl (.int ((lg_cmp (s2.2 0 37 ((0 : Int32)).toNatClampNeg) (b0).toInt64)))], ax_m s2 ρ)) rfl ⟨trivial, trivial, ⟨h0 37 rfl, ax_inp (by decide)⟩, trivial, trivial, trivial, trivial⟩ ?_
  refine ax_if_eq (tgt := 789) hK d_W_law_784 (by decide) (fun _ => KE) (fun c7 => ?_)
  exact absurd (by rw [hz4 c8]; simp [lg_cmp]) c7
theorem lcw_113 : ax_cw "CipherNotationLaw" 113 y_Z_decrypt (.code y_Z_decrypt prog_8_method_67_code 2 (some .int)) 0 := ⟨nw_6 151 (by decide +kernel) rfl, nw_1 7 (by decide +kernel) rfl, nw_6 154 rfl rfl, by decide +kernel, by decide +kernel⟩
theorem lim_113 : Cond.instanceMethod y_Z_decrypt ∈ ax_tbl := nw_6 152 (by decide +kernel) rfl
theorem lse_113 : Cond.selects y_Z_decrypt.cls y_Z_decrypt y_Z_decrypt ∈ ax_tbl := nw_6 153 (by decide +kernel) rfl
set_option maxHeartbeats 4000000 in
set_option maxRecDepth 100000 in
theorem lc_decrypt {p : Program} {l : Launch} {e : Env} {R : Room} {st : State} {m : MethodId} {args : Array Value} {below : List Frame} {meth : Method} {c : Code} {Q : State → Prop} {A : Nat → Prop} {D : va_G} {cA : Nat → ClassId} {ad : Nat → Nat → Nat} {al : List (Nat × Nat)} {θ : ax_Θ} {b Ln cells slots : Nat} {xs : Nat → Int32} {i : Int32} {s : ax_σ} {ρ : ax_ρ} (hK : ax_K "CipherNotationLaw" code 8 ((p, l, e, R, st, m, args), (below, meth, c), (Q, A), (D, cA, ad, al, θ))) (hfr : 100 ≤ R.frames) (hlo : 8000 ≤ R.locals) (hX : ax_scr b Ln xs ((p, l, e, R, st, m, args), (below, meth, c), (Q, A), (D, cA, ad, al, θ))) (h0 : ax_M0 al) (hc : cells + 1 ≤ R.cells) (hs : slots + 6 ≤ R.slots)  {s1 : ax_σ} {k : Int32} (hT : ax_U l D cA ad al θ y_W_decrypt (.codeWith y_W_decrypt method_11_code 3 (some .int) [(0, 8, 11, 13)]) 8 [.inr (0, 23), .inr (0, 37)] (ax_m s ρ) (some (.inl (.int k))) (ax_m s1 ρ)) {F : Nat} {s2 : ax_σ} {b0 : Int32} (hz2 : f_Z_decrypt F s1 = some (b0, s2)) (hz3 : f_Z_thrown s2 = some k) (hz4 : k = 0 → (s2.2 0 37 ((0 : Int32)).toNatClampNeg) = (b0).toInt64) (kk : ax_R ((p, l, e, R, st, m, args), (below, meth, c), (Q, A), (D, cA, ad, al, θ)) 8 (cells + 1) (slots + 6) (904, [(4, .inl (.int (i))), (3, .inr (0, 37)), (2, .inr (0, 38)), (1, .inr (0, 23)), (0, .inl (.ref b))], [], ax_m s2 ρ)) : ax_R ((p, l, e, R, st, m, args), (below, meth, c), (Q, A), (D, cA, ad, al, θ)) 8 cells slots (792, [(4, .inl (.int (i))), (3, .inr (0, 37)), (2, .inr (0, 38)), (1, .inr (0, 23)), (0, .inl (.ref b))], [], ax_m s ρ) := by
  have hal : ax_al ((p, l, e, R, st, m, args), (below, meth, c), (Q, A), (D, cA, ad, al, θ)) = al := rfl
  refine ax_bk hK (ax_fc (ax_v_ld (ax_r_aload_n (i := 1) d_W_law_792 rfl)) (ax_fc (ax_v_ld (ax_r_aload_n (i := 3) d_W_law_793 rfl)) ax_fn)) (y := (794, [(4, .inl (.int (i))), (3, .inr (0, 37)), (2, .inr (0, 38)), (1, .inr (0, 23)), (0, .inl (.ref b))], [.inr (0, 37), .inr (0, 23)], ax_m s ρ)) rfl ⟨trivial, trivial, trivial⟩ ?_
  refine ax_gU (n := 2) (rest := []) hK (Nat.le_trans (by decide) hfr) (Nat.le_trans (by decide) hlo) hT (nw_4 117 (by decide +kernel) rfl) (nw_1 0 (by decide +kernel) rfl) (nw_4 119 rfl rfl) (by decide +kernel) (by decide +kernel) (nw_4 118 (by decide +kernel) rfl) d_W_law_794 (by decide) rfl rfl (Nat.le_of_ble_eq_true rfl) hc hs ?_
  change ax_R _ 8 (cells + 1) (slots + 6) (797, [(4, .inl (.int (i))), (3, .inr (0, 37)), (2, .inr (0, 38)), (1, .inr (0, 23)), (0, .inl (.ref b))], [.inl (.int (k))], ax_m s1 ρ)
  refine ax_bk hK (ax_fc (ax_v_so (ax_r_istore d_W_law_797)) (ax_fc (ax_v_ld (ax_r_aload_n (i := 2) d_W_law_799 rfl)) ax_fn)) (y := (800, [(5, .inl (.int (k))), (4, .inl (.int (i))), (3, .inr (0, 37)), (2, .inr (0, 38)), (1, .inr (0, 23)), (0, .inl (.ref b))], [.inr (0, 38)], ax_m s1 ρ)) rfl ⟨trivial, trivial, trivial⟩ ?_
  refine ax_gV (rest := []) hK (Nat.le_trans (by decide) hfr) (Nat.le_trans (by decide) hlo) (t_Z_decrypt h0 hz2) lcw_113 lim_113 lse_113 d_W_law_800 (h0 38 rfl) rfl rfl (by decide) rfl rfl (Nat.le_of_ble_eq_true rfl) hc hs ?_
  change ax_R _ 8 (cells + 1) (slots + 6) (803, [(5, .inl (.int (k))), (4, .inl (.int (i))), (3, .inr (0, 37)), (2, .inr (0, 38)), (1, .inr (0, 23)), (0, .inl (.ref b))], [.inl (.int (b0))], ax_m s2 ρ)
  refine ax_bk hK (ax_fc (ax_v_so (ax_r_istore d_W_law_803)) (ax_fc (ax_v_ld (ax_r_aload_n (i := 2) d_W_law_805 rfl)) ax_fn)) (y := (806, [(6, .inl (.int (b0))), (5, .inl (.int (k))), (4, .inl (.int (i))), (3, .inr (0, 37)), (2, .inr (0, 38)), (1, .inr (0, 23)), (0, .inl (.ref b))], [.inr (0, 38)], ax_m s2 ρ)) rfl ⟨trivial, trivial, trivial⟩ ?_
  refine ax_gV (rest := []) hK (Nat.le_trans (by decide) hfr) (Nat.le_trans (by decide) hlo) (t_Z_thrown h0 hz3) lcw_80 lim_80 lse_80 d_W_law_806 (h0 38 rfl) rfl rfl (by decide) rfl rfl (Nat.le_of_ble_eq_true rfl) hc hs ?_
  change ax_R _ 8 (cells + 1) (slots + 6) (809, [(6, .inl (.int (b0))), (5, .inl (.int (k))), (4, .inl (.int (i))), (3, .inr (0, 37)), (2, .inr (0, 38)), (1, .inr (0, 23)), (0, .inl (.ref b))], [.inl (.int (k))], ax_m s2 ρ)
  refine ax_bk hK (ax_fc (ax_v_ld (ax_r_iload d_W_law_809)) ax_fn) (y := (811, [(6, .inl (.int (b0))), (5, .inl (.int (k))), (4, .inl (.int (i))), (3, .inr (0, 37)), (2, .inr (0, 38)), (1, .inr (0, 23)), (0, .inl (.ref b))], [.inl (.int (k)), .inl (.int (k))], ax_m s2 ρ)) rfl ⟨trivial, trivial⟩ ?_
  refine ax_ic_eq (tgt := 816) hK d_W_law_811 (by decide) (fun _ => ?_) (fun c9 => absurd rfl c9)
  refine ax_bk hK (ax_fc (ax_v_ld (ax_r_iload d_W_law_816)) ax_fn) (y := (818, [(6, .inl (.int (b0))), (5, .inl (.int (k))), (4, .inl (.int (i))), (3, .inr (0, 37)), (2, .inr (0, 38)), (1, .inr (0, 23)), (0, .inl (.ref b))], [.inl (.int (k))], ax_m s2 ρ)) rfl ⟨trivial, trivial⟩ ?_
  have KE : ax_R ((p, l, e, R, st, m, args), (below, meth, c), (Q, A), (D, cA, ad, al, θ)) 8 (cells + 1) (slots + 6) (833, [(6, .inl (.int (b0))), (5, .inl (.int (k))), (4, .inl (.int (i))), (3, .inr (0, 37)), (2, .inr (0, 38)), (1, .inr (0, 23)), (0, .inl (.ref b))], [], ax_m s2 ρ) := by
    refine ax_bk hK (ax_fc (ax_v_go (tgt := 904) d_W_law_833 (by decide)) ax_fn) (y := (904, [(6, .inl (.int (b0))), (5, .inl (.int (k))), (4, .inl (.int (i))), (3, .inr (0, 37)), (2, .inr (0, 38)), (1, .inr (0, 23)), (0, .inl (.ref b))], [], ax_m s2 ρ)) rfl ⟨trivial, trivial⟩ ?_
    exact ax_Lsub [2, 3, 4, 5, 6] rfl kk
  refine ax_if_ne (tgt := 833) hK d_W_law_818 (by decide) (fun _ => KE) (fun c8 => ?_)
  refine ax_bk hK (ax_fc (ax_v_ld (ax_r_aload_n (i := 3) d_W_law_821 rfl)) (ax_fc (ax_v_pu (ax_r_iconst (v := 0) d_W_law_822 (by decide))) (ax_fc (ax_w_lald hal d_W_law_823) (ax_fc (ax_v_ld (ax_r_iload d_W_law_824)) (ax_fc (ax_v_pu (ax_r_i2l d_W_law_826)) (ax_fc (ax_v_pu (ax_r_lcmp d_W_law_827)) ax_fn)))))) (y := (828, [(6, .inl (.int (b0))), (5, .inl (.int (k))), (4, .inl (.int (i))), (3, .inr (0, 37)), (2, .inr (0, 38)), (1, .inr (0, 23)), (0, .inl (.ref b))], [.inl (.int ((lg_cmp (s2.2 0 37 ((0 : Int32)).toNatClampNeg) (b0).toInt64)))], ax_m s2 ρ)) rfl ⟨trivial, trivial, ⟨h0 37 rfl, ax_inp (by decide)⟩, trivial, trivial, trivial, trivial⟩ ?_
  refine ax_if_eq (tgt := 833) hK d_W_law_828 (by decide) (fun _ => KE) (fun c7 => ?_)
  exact absurd (by rw [hz4 c8]; simp [lg_cmp]) c7
theorem lcw_117 : ax_cw "CipherNotationLaw" 117 y_Z_apply (.code y_Z_apply prog_8_method_68_code 4 (some .int)) 2 := ⟨nw_6 155 (by decide +kernel) rfl, nw_1 7 (by decide +kernel) rfl, nw_6 158 rfl rfl, by decide +kernel, by decide +kernel⟩
theorem lim_117 : Cond.instanceMethod y_Z_apply ∈ ax_tbl := nw_6 156 (by decide +kernel) rfl
theorem lse_117 : Cond.selects y_Z_apply.cls y_Z_apply y_Z_apply ∈ ax_tbl := nw_6 157 (by decide +kernel) rfl
set_option maxHeartbeats 4000000 in
set_option maxRecDepth 100000 in
theorem lc_apply {p : Program} {l : Launch} {e : Env} {R : Room} {st : State} {m : MethodId} {args : Array Value} {below : List Frame} {meth : Method} {c : Code} {Q : State → Prop} {A : Nat → Prop} {D : va_G} {cA : Nat → ClassId} {ad : Nat → Nat → Nat} {al : List (Nat × Nat)} {θ : ax_Θ} {b Ln cells slots : Nat} {xs : Nat → Int32} {i : Int32} {s : ax_σ} {ρ : ax_ρ} (hK : ax_K "CipherNotationLaw" code 8 ((p, l, e, R, st, m, args), (below, meth, c), (Q, A), (D, cA, ad, al, θ))) (hfr : 100 ≤ R.frames) (hlo : 8000 ≤ R.locals) (hX : ax_scr b Ln xs ((p, l, e, R, st, m, args), (below, meth, c), (Q, A), (D, cA, ad, al, θ))) (h0 : ax_M0 al) (hc : cells + 1 ≤ R.cells) (hs : slots + 6 ≤ R.slots) (hk1 : vp_in (i + (1 : Int32)) Ln) (hk2 : vp_in (i + (2 : Int32)) Ln) {s1 : ax_σ} {k : Int32} (hT : ax_U l D cA ad al θ y_W_apply (.codeWith y_W_apply method_12_code 5 (some .int) [(0, 10, 13, 13), (0, 10, 17, 15)]) 8 [.inr (0, 23), .inl (.int ((xs ((i + (1 : Int32))).toNatClampNeg))), .inl (.int ((xs ((i + (2 : Int32))).toNatClampNeg))), .inr (0, 37)] (ax_m s ρ) (some (.inl (.int k))) (ax_m s1 ρ)) {F : Nat} {s2 : ax_σ} {b0 : Int32} (hz2 : f_Z_apply F ((xs ((i + (1 : Int32))).toNatClampNeg)) ((xs ((i + (2 : Int32))).toNatClampNeg)) s1 = some (b0, s2)) (hz3 : f_Z_thrown s2 = some k) (hz4 : k = 0 → (s2.2 0 37 ((0 : Int32)).toNatClampNeg) = (b0).toInt64) (kk : ax_R ((p, l, e, R, st, m, args), (below, meth, c), (Q, A), (D, cA, ad, al, θ)) 8 (cells + 1) (slots + 6) (904, [(4, .inl (.int (i))), (3, .inr (0, 37)), (2, .inr (0, 38)), (1, .inr (0, 23)), (0, .inl (.ref b))], [], ax_m s2 ρ)) : ax_R ((p, l, e, R, st, m, args), (below, meth, c), (Q, A), (D, cA, ad, al, θ)) 8 cells slots (836, [(4, .inl (.int (i))), (3, .inr (0, 37)), (2, .inr (0, 38)), (1, .inr (0, 23)), (0, .inl (.ref b))], [], ax_m s ρ) := by
  have hal : ax_al ((p, l, e, R, st, m, args), (below, meth, c), (Q, A), (D, cA, ad, al, θ)) = al := rfl
  refine ax_bk hK (ax_fc (ax_v_ld (ax_r_aload_n (i := 1) d_W_law_836 rfl)) (ax_fc (ax_v_ld (ax_r_aload_n (i := 0) d_W_law_837 rfl)) (ax_fc (ax_v_ld (ax_r_iload d_W_law_838)) (ax_fc (ax_v_pu (ax_r_iconst (v := 1) d_W_law_840 (by decide))) (ax_fc (ax_v_pu (ax_r_iadd d_W_law_841)) (ax_fc (ax_w_sc hX d_W_law_842) (ax_fc (ax_v_ld (ax_r_aload_n (i := 0) d_W_law_843 rfl)) (ax_fc (ax_v_ld (ax_r_iload d_W_law_844)) (ax_fc (ax_v_pu (ax_r_iconst (v := 2) d_W_law_846 (by decide))) (ax_fc (ax_v_pu (ax_r_iadd d_W_law_847)) (ax_fc (ax_w_sc hX d_W_law_848) (ax_fc (ax_v_ld (ax_r_aload_n (i := 3) d_W_law_849 rfl)) ax_fn)))))))))))) (y := (850, [(4, .inl (.int (i))), (3, .inr (0, 37)), (2, .inr (0, 38)), (1, .inr (0, 23)), (0, .inl (.ref b))], [.inr (0, 37), .inl (.int ((xs ((i + (2 : Int32))).toNatClampNeg))), .inl (.int ((xs ((i + (1 : Int32))).toNatClampNeg))), .inr (0, 23)], ax_m s ρ)) rfl ⟨trivial, trivial, trivial, trivial, trivial, ⟨rfl, hk1⟩, trivial, trivial, trivial, trivial, ⟨rfl, hk2⟩, trivial, trivial⟩ ?_
  refine ax_gU (n := 4) (rest := []) hK (Nat.le_trans (by decide) hfr) (Nat.le_trans (by decide) hlo) hT (nw_4 124 (by decide +kernel) rfl) (nw_1 0 (by decide +kernel) rfl) (nw_4 126 rfl rfl) (by decide +kernel) (by decide +kernel) (nw_4 125 (by decide +kernel) rfl) d_W_law_850 (by decide) rfl rfl (Nat.le_of_ble_eq_true rfl) hc hs ?_
  change ax_R _ 8 (cells + 1) (slots + 6) (853, [(4, .inl (.int (i))), (3, .inr (0, 37)), (2, .inr (0, 38)), (1, .inr (0, 23)), (0, .inl (.ref b))], [.inl (.int (k))], ax_m s1 ρ)
  refine ax_bk hK (ax_fc (ax_v_so (ax_r_istore d_W_law_853)) (ax_fc (ax_v_ld (ax_r_aload_n (i := 2) d_W_law_855 rfl)) (ax_fc (ax_v_ld (ax_r_aload_n (i := 0) d_W_law_856 rfl)) (ax_fc (ax_v_ld (ax_r_iload d_W_law_857)) (ax_fc (ax_v_pu (ax_r_iconst (v := 1) d_W_law_859 (by decide))) (ax_fc (ax_v_pu (ax_r_iadd d_W_law_860)) (ax_fc (ax_w_sc hX d_W_law_861) (ax_fc (ax_v_ld (ax_r_aload_n (i := 0) d_W_law_862 rfl)) (ax_fc (ax_v_ld (ax_r_iload d_W_law_863)) (ax_fc (ax_v_pu (ax_r_iconst (v := 2) d_W_law_865 (by decide))) (ax_fc (ax_v_pu (ax_r_iadd d_W_law_866)) (ax_fc (ax_w_sc hX d_W_law_867) ax_fn)))))))))))) (y := (868, [(5, .inl (.int (k))), (4, .inl (.int (i))), (3, .inr (0, 37)), (2, .inr (0, 38)), (1, .inr (0, 23)), (0, .inl (.ref b))], [.inl (.int ((xs ((i + (2 : Int32))).toNatClampNeg))), .inl (.int ((xs ((i + (1 : Int32))).toNatClampNeg))), .inr (0, 38)], ax_m s1 ρ)) rfl ⟨trivial, trivial, trivial, trivial, trivial, trivial, ⟨rfl, hk1⟩, trivial, trivial, trivial, trivial, ⟨rfl, hk2⟩, trivial⟩ ?_
  refine ax_gV (rest := []) hK (Nat.le_trans (by decide) hfr) (Nat.le_trans (by decide) hlo) (t_Z_apply h0 hz2) lcw_117 lim_117 lse_117 d_W_law_868 (h0 38 rfl) rfl rfl (by decide) rfl rfl (Nat.le_of_ble_eq_true rfl) hc hs ?_
  change ax_R _ 8 (cells + 1) (slots + 6) (871, [(5, .inl (.int (k))), (4, .inl (.int (i))), (3, .inr (0, 37)), (2, .inr (0, 38)), (1, .inr (0, 23)), (0, .inl (.ref b))], [.inl (.int (b0))], ax_m s2 ρ)
  refine ax_bk hK (ax_fc (ax_v_so (ax_r_istore d_W_law_871)) (ax_fc (ax_v_ld (ax_r_aload_n (i := 2) d_W_law_873 rfl)) ax_fn)) (y := (874, [(6, .inl (.int (b0))), (5, .inl (.int (k))), (4, .inl (.int (i))), (3, .inr (0, 37)), (2, .inr (0, 38)), (1, .inr (0, 23)), (0, .inl (.ref b))], [.inr (0, 38)], ax_m s2 ρ)) rfl ⟨trivial, trivial, trivial⟩ ?_
  refine ax_gV (rest := []) hK (Nat.le_trans (by decide) hfr) (Nat.le_trans (by decide) hlo) (t_Z_thrown h0 hz3) lcw_80 lim_80 lse_80 d_W_law_874 (h0 38 rfl) rfl rfl (by decide) rfl rfl (Nat.le_of_ble_eq_true rfl) hc hs ?_
  change ax_R _ 8 (cells + 1) (slots + 6) (877, [(6, .inl (.int (b0))), (5, .inl (.int (k))), (4, .inl (.int (i))), (3, .inr (0, 37)), (2, .inr (0, 38)), (1, .inr (0, 23)), (0, .inl (.ref b))], [.inl (.int (k))], ax_m s2 ρ)
  refine ax_bk hK (ax_fc (ax_v_ld (ax_r_iload d_W_law_877)) ax_fn) (y := (879, [(6, .inl (.int (b0))), (5, .inl (.int (k))), (4, .inl (.int (i))), (3, .inr (0, 37)), (2, .inr (0, 38)), (1, .inr (0, 23)), (0, .inl (.ref b))], [.inl (.int (k)), .inl (.int (k))], ax_m s2 ρ)) rfl ⟨trivial, trivial⟩ ?_
  refine ax_ic_eq (tgt := 884) hK d_W_law_879 (by decide) (fun _ => ?_) (fun c9 => absurd rfl c9)
  refine ax_bk hK (ax_fc (ax_v_ld (ax_r_iload d_W_law_884)) ax_fn) (y := (886, [(6, .inl (.int (b0))), (5, .inl (.int (k))), (4, .inl (.int (i))), (3, .inr (0, 37)), (2, .inr (0, 38)), (1, .inr (0, 23)), (0, .inl (.ref b))], [.inl (.int (k))], ax_m s2 ρ)) rfl ⟨trivial, trivial⟩ ?_
  have KE : ax_R ((p, l, e, R, st, m, args), (below, meth, c), (Q, A), (D, cA, ad, al, θ)) 8 (cells + 1) (slots + 6) (901, [(6, .inl (.int (b0))), (5, .inl (.int (k))), (4, .inl (.int (i))), (3, .inr (0, 37)), (2, .inr (0, 38)), (1, .inr (0, 23)), (0, .inl (.ref b))], [], ax_m s2 ρ) := by
    refine ax_bk hK (ax_fc (ax_v_go (tgt := 904) d_W_law_901 (by decide)) ax_fn) (y := (904, [(6, .inl (.int (b0))), (5, .inl (.int (k))), (4, .inl (.int (i))), (3, .inr (0, 37)), (2, .inr (0, 38)), (1, .inr (0, 23)), (0, .inl (.ref b))], [], ax_m s2 ρ)) rfl ⟨trivial, trivial⟩ ?_
    exact ax_Lsub [2, 3, 4, 5, 6] rfl kk
  refine ax_if_ne (tgt := 901) hK d_W_law_886 (by decide) (fun _ => KE) (fun c8 => ?_)
  refine ax_bk hK (ax_fc (ax_v_ld (ax_r_aload_n (i := 3) d_W_law_889 rfl)) (ax_fc (ax_v_pu (ax_r_iconst (v := 0) d_W_law_890 (by decide))) (ax_fc (ax_w_lald hal d_W_law_891) (ax_fc (ax_v_ld (ax_r_iload d_W_law_892)) (ax_fc (ax_v_pu (ax_r_i2l d_W_law_894)) (ax_fc (ax_v_pu (ax_r_lcmp d_W_law_895)) ax_fn)))))) (y := (896, [(6, .inl (.int (b0))), (5, .inl (.int (k))), (4, .inl (.int (i))), (3, .inr (0, 37)), (2, .inr (0, 38)), (1, .inr (0, 23)), (0, .inl (.ref b))], [.inl (.int ((lg_cmp (s2.2 0 37 ((0 : Int32)).toNatClampNeg) (b0).toInt64)))], ax_m s2 ρ)) rfl ⟨trivial, trivial, ⟨h0 37 rfl, ax_inp (by decide)⟩, trivial, trivial, trivial, trivial⟩ ?_
  refine ax_if_eq (tgt := 901) hK d_W_law_896 (by decide) (fun _ => KE) (fun c7 => ?_)
  exact absurd (by rw [hz4 c8]; simp [lg_cmp]) c7
