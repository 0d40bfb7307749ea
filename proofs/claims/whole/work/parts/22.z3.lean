def y_Z_acceptsHead : MethodName := ⟨"CipherNotationModel", "acceptsHead", "(I)Z"⟩
theorem d_Z_acceptsHead_0 : decode prog_8_method_16_code 0 = .ok (.aload_n 0, 1) := by decide +kernel
theorem d_Z_acceptsHead_1 : decode prog_8_method_16_code 1 = .ok (.getfield (168), 3) := by decide +kernel
theorem d_Z_acceptsHead_4 : decode prog_8_method_16_code 4 = .ok (.iconst 1, 1) := by decide +kernel
theorem d_Z_acceptsHead_5 : decode prog_8_method_16_code 5 = .ok (.if_icmp .ne (51), 3) := by decide +kernel
theorem d_Z_acceptsHead_8 : decode prog_8_method_16_code 8 = .ok (.aload_n 0, 1) := by decide +kernel
theorem d_Z_acceptsHead_9 : decode prog_8_method_16_code 9 = .ok (.getfield (174), 3) := by decide +kernel
theorem d_Z_acceptsHead_12 : decode prog_8_method_16_code 12 = .ok (.iconst 3, 1) := by decide +kernel
theorem d_Z_acceptsHead_13 : decode prog_8_method_16_code 13 = .ok (.if_icmp .ne (7), 3) := by decide +kernel
theorem d_Z_acceptsHead_16 : decode prog_8_method_16_code 16 = .ok (.iconst 1, 1) := by decide +kernel
theorem d_Z_acceptsHead_17 : decode prog_8_method_16_code 17 = .ok (.goto (4), 3) := by decide +kernel
theorem d_Z_acceptsHead_20 : decode prog_8_method_16_code 20 = .ok (.iconst 0, 1) := by decide +kernel
theorem d_Z_acceptsHead_21 : decode prog_8_method_16_code 21 = .ok (.istore_n 2, 1) := by decide +kernel
theorem d_Z_acceptsHead_22 : decode prog_8_method_16_code 22 = .ok (.aload_n 0, 1) := by decide +kernel
theorem d_Z_acceptsHead_23 : decode prog_8_method_16_code 23 = .ok (.iload_n 2, 1) := by decide +kernel
theorem d_Z_acceptsHead_24 : decode prog_8_method_16_code 24 = .ok (.ifCond .eq (7), 3) := by decide +kernel
theorem d_Z_acceptsHead_27 : decode prog_8_method_16_code 27 = .ok (.iconst 2, 1) := by decide +kernel
theorem d_Z_acceptsHead_28 : decode prog_8_method_16_code 28 = .ok (.goto (4), 3) := by decide +kernel
theorem d_Z_acceptsHead_31 : decode prog_8_method_16_code 31 = .ok (.iconst 0, 1) := by decide +kernel
theorem d_Z_acceptsHead_32 : decode prog_8_method_16_code 32 = .ok (.putfield (168), 3) := by decide +kernel
theorem d_Z_acceptsHead_35 : decode prog_8_method_16_code 35 = .ok (.iload_n 1, 1) := by decide +kernel
theorem d_Z_acceptsHead_36 : decode prog_8_method_16_code 36 = .ok (.iload_n 2, 1) := by decide +kernel
theorem d_Z_acceptsHead_37 : decode prog_8_method_16_code 37 = .ok (.ifCond .eq (8), 3) := by decide +kernel
theorem d_Z_acceptsHead_40 : decode prog_8_method_16_code 40 = .ok (.bipush (59), 2) := by decide +kernel
theorem d_Z_acceptsHead_42 : decode prog_8_method_16_code 42 = .ok (.goto (5), 3) := by decide +kernel
theorem d_Z_acceptsHead_45 : decode prog_8_method_16_code 45 = .ok (.bipush (58), 2) := by decide +kernel
theorem d_Z_acceptsHead_47 : decode prog_8_method_16_code 47 = .ok (.if_icmp .ne (7), 3) := by decide +kernel
theorem d_Z_acceptsHead_50 : decode prog_8_method_16_code 50 = .ok (.iconst 1, 1) := by decide +kernel
theorem d_Z_acceptsHead_51 : decode prog_8_method_16_code 51 = .ok (.goto (4), 3) := by decide +kernel
theorem d_Z_acceptsHead_54 : decode prog_8_method_16_code 54 = .ok (.iconst 0, 1) := by decide +kernel
theorem d_Z_acceptsHead_55 : decode prog_8_method_16_code 55 = .ok (.ireturn, 1) := by decide +kernel
theorem d_Z_acceptsHead_56 : decode prog_8_method_16_code 56 = .ok (.aload_n 0, 1) := by decide +kernel
theorem d_Z_acceptsHead_57 : decode prog_8_method_16_code 57 = .ok (.getfield (168), 3) := by decide +kernel
theorem d_Z_acceptsHead_60 : decode prog_8_method_16_code 60 = .ok (.iconst 2, 1) := by decide +kernel
theorem d_Z_acceptsHead_61 : decode prog_8_method_16_code 61 = .ok (.if_icmp .ne (71), 3) := by decide +kernel
theorem d_Z_acceptsHead_64 : decode prog_8_method_16_code 64 = .ok (.iload_n 1, 1) := by decide +kernel
theorem d_Z_acceptsHead_65 : decode prog_8_method_16_code 65 = .ok (.bipush (35), 2) := by decide +kernel
theorem d_Z_acceptsHead_67 : decode prog_8_method_16_code 67 = .ok (.if_icmp .ne (47), 3) := by decide +kernel
theorem d_Z_acceptsHead_70 : decode prog_8_method_16_code 70 = .ok (.aload_n 0, 1) := by decide +kernel
theorem d_Z_acceptsHead_71 : decode prog_8_method_16_code 71 = .ok (.getfield (177), 3) := by decide +kernel
theorem d_Z_acceptsHead_74 : decode prog_8_method_16_code 74 = .ok (.iconst 2, 1) := by decide +kernel
theorem d_Z_acceptsHead_75 : decode prog_8_method_16_code 75 = .ok (.if_icmp .ge (39), 3) := by decide +kernel
theorem d_Z_acceptsHead_78 : decode prog_8_method_16_code 78 = .ok (.aload_n 0, 1) := by decide +kernel
theorem d_Z_acceptsHead_79 : decode prog_8_method_16_code 79 = .ok (.dup, 1) := by decide +kernel
theorem d_Z_acceptsHead_80 : decode prog_8_method_16_code 80 = .ok (.getfield (177), 3) := by decide +kernel
theorem d_Z_acceptsHead_83 : decode prog_8_method_16_code 83 = .ok (.iconst 1, 1) := by decide +kernel
theorem d_Z_acceptsHead_84 : decode prog_8_method_16_code 84 = .ok (.iadd, 1) := by decide +kernel
theorem d_Z_acceptsHead_85 : decode prog_8_method_16_code 85 = .ok (.putfield (177), 3) := by decide +kernel
theorem d_Z_acceptsHead_88 : decode prog_8_method_16_code 88 = .ok (.aload_n 0, 1) := by decide +kernel
theorem d_Z_acceptsHead_89 : decode prog_8_method_16_code 89 = .ok (.iconst 0, 1) := by decide +kernel
theorem d_Z_acceptsHead_90 : decode prog_8_method_16_code 90 = .ok (.putfield (254), 3) := by decide +kernel
theorem d_Z_acceptsHead_93 : decode prog_8_method_16_code 93 = .ok (.aload_n 0, 1) := by decide +kernel
theorem d_Z_acceptsHead_94 : decode prog_8_method_16_code 94 = .ok (.getfield (33), 3) := by decide +kernel
theorem d_Z_acceptsHead_97 : decode prog_8_method_16_code 97 = .ok (.iconst 2, 1) := by decide +kernel
theorem d_Z_acceptsHead_98 : decode prog_8_method_16_code 98 = .ok (.aload_n 0, 1) := by decide +kernel
theorem d_Z_acceptsHead_99 : decode prog_8_method_16_code 99 = .ok (.getfield (177), 3) := by decide +kernel
theorem d_Z_acceptsHead_102 : decode prog_8_method_16_code 102 = .ok (.imul, 1) := by decide +kernel
theorem d_Z_acceptsHead_103 : decode prog_8_method_16_code 103 = .ok (.iconst 2, 1) := by decide +kernel
theorem d_Z_acceptsHead_104 : decode prog_8_method_16_code 104 = .ok (.isub, 1) := by decide +kernel
theorem d_Z_acceptsHead_105 : decode prog_8_method_16_code 105 = .ok (.iconst (-1), 1) := by decide +kernel
theorem d_Z_acceptsHead_106 : decode prog_8_method_16_code 106 = .ok (.iastore, 1) := by decide +kernel
theorem d_Z_acceptsHead_107 : decode prog_8_method_16_code 107 = .ok (.aload_n 0, 1) := by decide +kernel
theorem d_Z_acceptsHead_108 : decode prog_8_method_16_code 108 = .ok (.iconst 3, 1) := by decide +kernel
theorem d_Z_acceptsHead_109 : decode prog_8_method_16_code 109 = .ok (.putfield (168), 3) := by decide +kernel
theorem d_Z_acceptsHead_112 : decode prog_8_method_16_code 112 = .ok (.iconst 1, 1) := by decide +kernel
theorem d_Z_acceptsHead_113 : decode prog_8_method_16_code 113 = .ok (.ireturn, 1) := by decide +kernel
theorem d_Z_acceptsHead_114 : decode prog_8_method_16_code 114 = .ok (.aload_n 0, 1) := by decide +kernel
theorem d_Z_acceptsHead_115 : decode prog_8_method_16_code 115 = .ok (.bipush (10), 2) := by decide +kernel
theorem d_Z_acceptsHead_117 : decode prog_8_method_16_code 117 = .ok (.putfield (168), 3) := by decide +kernel
theorem d_Z_acceptsHead_120 : decode prog_8_method_16_code 120 = .ok (.iload_n 1, 1) := by decide +kernel
theorem d_Z_acceptsHead_121 : decode prog_8_method_16_code 121 = .ok (.bipush (123), 2) := by decide +kernel
theorem d_Z_acceptsHead_123 : decode prog_8_method_16_code 123 = .ok (.if_icmp .ne (7), 3) := by decide +kernel
theorem d_Z_acceptsHead_126 : decode prog_8_method_16_code 126 = .ok (.iconst 1, 1) := by decide +kernel
theorem d_Z_acceptsHead_127 : decode prog_8_method_16_code 127 = .ok (.goto (4), 3) := by decide +kernel
theorem d_Z_acceptsHead_130 : decode prog_8_method_16_code 130 = .ok (.iconst 0, 1) := by decide +kernel
theorem d_Z_acceptsHead_131 : decode prog_8_method_16_code 131 = .ok (.ireturn, 1) := by decide +kernel
theorem d_Z_acceptsHead_132 : decode prog_8_method_16_code 132 = .ok (.aload_n 0, 1) := by decide +kernel
theorem d_Z_acceptsHead_133 : decode prog_8_method_16_code 133 = .ok (.getfield (168), 3) := by decide +kernel
theorem d_Z_acceptsHead_136 : decode prog_8_method_16_code 136 = .ok (.iconst 3, 1) := by decide +kernel
theorem d_Z_acceptsHead_137 : decode prog_8_method_16_code 137 = .ok (.if_icmp .ne (16), 3) := by decide +kernel
theorem d_Z_acceptsHead_140 : decode prog_8_method_16_code 140 = .ok (.iload_n 1, 1) := by decide +kernel
theorem d_Z_acceptsHead_141 : decode prog_8_method_16_code 141 = .ok (.bipush (42), 2) := by decide +kernel
theorem d_Z_acceptsHead_143 : decode prog_8_method_16_code 143 = .ok (.if_icmp .ne (10), 3) := by decide +kernel
theorem d_Z_acceptsHead_146 : decode prog_8_method_16_code 146 = .ok (.aload_n 0, 1) := by decide +kernel
theorem d_Z_acceptsHead_147 : decode prog_8_method_16_code 147 = .ok (.iconst 5, 1) := by decide +kernel
theorem d_Z_acceptsHead_148 : decode prog_8_method_16_code 148 = .ok (.putfield (168), 3) := by decide +kernel
theorem d_Z_acceptsHead_151 : decode prog_8_method_16_code 151 = .ok (.iconst 1, 1) := by decide +kernel
theorem d_Z_acceptsHead_152 : decode prog_8_method_16_code 152 = .ok (.ireturn, 1) := by decide +kernel
theorem d_Z_acceptsHead_153 : decode prog_8_method_16_code 153 = .ok (.aload_n 0, 1) := by decide +kernel
theorem d_Z_acceptsHead_154 : decode prog_8_method_16_code 154 = .ok (.getfield (168), 3) := by decide +kernel
theorem d_Z_acceptsHead_157 : decode prog_8_method_16_code 157 = .ok (.iconst 3, 1) := by decide +kernel
theorem d_Z_acceptsHead_158 : decode prog_8_method_16_code 158 = .ok (.if_icmp .eq (20), 3) := by decide +kernel
theorem d_Z_acceptsHead_161 : decode prog_8_method_16_code 161 = .ok (.aload_n 0, 1) := by decide +kernel
theorem d_Z_acceptsHead_162 : decode prog_8_method_16_code 162 = .ok (.getfield (168), 3) := by decide +kernel
theorem d_Z_acceptsHead_165 : decode prog_8_method_16_code 165 = .ok (.iconst 4, 1) := by decide +kernel
theorem d_Z_acceptsHead_166 : decode prog_8_method_16_code 166 = .ok (.if_icmp .ne (67), 3) := by decide +kernel
theorem d_Z_acceptsHead_169 : decode prog_8_method_16_code 169 = .ok (.aload_n 0, 1) := by decide +kernel
theorem d_Z_acceptsHead_170 : decode prog_8_method_16_code 170 = .ok (.getfield (254), 3) := by decide +kernel
theorem d_Z_acceptsHead_173 : decode prog_8_method_16_code 173 = .ok (.bipush (16), 2) := by decide +kernel
theorem d_Z_acceptsHead_175 : decode prog_8_method_16_code 175 = .ok (.if_icmp .ge (58), 3) := by decide +kernel
theorem d_Z_acceptsHead_178 : decode prog_8_method_16_code 178 = .ok (.aload_n 0, 1) := by decide +kernel
theorem d_Z_acceptsHead_179 : decode prog_8_method_16_code 179 = .ok (.getfield (27), 3) := by decide +kernel
theorem d_Z_acceptsHead_182 : decode prog_8_method_16_code 182 = .ok (.bipush (16), 2) := by decide +kernel
theorem d_Z_acceptsHead_184 : decode prog_8_method_16_code 184 = .ok (.aload_n 0, 1) := by decide +kernel
theorem d_Z_acceptsHead_185 : decode prog_8_method_16_code 185 = .ok (.getfield (177), 3) := by decide +kernel
theorem d_Z_acceptsHead_188 : decode prog_8_method_16_code 188 = .ok (.imul, 1) := by decide +kernel
theorem d_Z_acceptsHead_189 : decode prog_8_method_16_code 189 = .ok (.bipush (16), 2) := by decide +kernel
theorem d_Z_acceptsHead_191 : decode prog_8_method_16_code 191 = .ok (.isub, 1) := by decide +kernel
theorem d_Z_acceptsHead_192 : decode prog_8_method_16_code 192 = .ok (.aload_n 0, 1) := by decide +kernel
theorem d_Z_acceptsHead_193 : decode prog_8_method_16_code 193 = .ok (.getfield (254), 3) := by decide +kernel
theorem d_Z_acceptsHead_196 : decode prog_8_method_16_code 196 = .ok (.iadd, 1) := by decide +kernel
theorem d_Z_acceptsHead_197 : decode prog_8_method_16_code 197 = .ok (.bipush (32), 2) := by decide +kernel
theorem d_Z_acceptsHead_199 : decode prog_8_method_16_code 199 = .ok (.irem, 1) := by decide +kernel
theorem d_Z_acceptsHead_200 : decode prog_8_method_16_code 200 = .ok (.iload_n 1, 1) := by decide +kernel
theorem d_Z_acceptsHead_201 : decode prog_8_method_16_code 201 = .ok (.invokestatic (257), 3) := by decide +kernel
theorem d_Z_acceptsHead_204 : decode prog_8_method_16_code 204 = .ok (.iastore, 1) := by decide +kernel
theorem d_Z_acceptsHead_205 : decode prog_8_method_16_code 205 = .ok (.aload_n 0, 1) := by decide +kernel
theorem d_Z_acceptsHead_206 : decode prog_8_method_16_code 206 = .ok (.dup, 1) := by decide +kernel
theorem d_Z_acceptsHead_207 : decode prog_8_method_16_code 207 = .ok (.getfield (254), 3) := by decide +kernel
theorem d_Z_acceptsHead_210 : decode prog_8_method_16_code 210 = .ok (.iconst 1, 1) := by decide +kernel
theorem d_Z_acceptsHead_211 : decode prog_8_method_16_code 211 = .ok (.iadd, 1) := by decide +kernel
theorem d_Z_acceptsHead_212 : decode prog_8_method_16_code 212 = .ok (.putfield (254), 3) := by decide +kernel
theorem d_Z_acceptsHead_215 : decode prog_8_method_16_code 215 = .ok (.aload_n 0, 1) := by decide +kernel
theorem d_Z_acceptsHead_216 : decode prog_8_method_16_code 216 = .ok (.iconst 4, 1) := by decide +kernel
theorem d_Z_acceptsHead_217 : decode prog_8_method_16_code 217 = .ok (.putfield (168), 3) := by decide +kernel
theorem d_Z_acceptsHead_220 : decode prog_8_method_16_code 220 = .ok (.iload_n 1, 1) := by decide +kernel
theorem d_Z_acceptsHead_221 : decode prog_8_method_16_code 221 = .ok (.invokestatic (257), 3) := by decide +kernel
theorem d_Z_acceptsHead_224 : decode prog_8_method_16_code 224 = .ok (.ifCond .lt (7), 3) := by decide +kernel
theorem d_Z_acceptsHead_227 : decode prog_8_method_16_code 227 = .ok (.iconst 1, 1) := by decide +kernel
theorem d_Z_acceptsHead_228 : decode prog_8_method_16_code 228 = .ok (.goto (4), 3) := by decide +kernel
theorem d_Z_acceptsHead_231 : decode prog_8_method_16_code 231 = .ok (.iconst 0, 1) := by decide +kernel
theorem d_Z_acceptsHead_232 : decode prog_8_method_16_code 232 = .ok (.ireturn, 1) := by decide +kernel
theorem d_Z_acceptsHead_233 : decode prog_8_method_16_code 233 = .ok (.aload_n 0, 1) := by decide +kernel
theorem d_Z_acceptsHead_234 : decode prog_8_method_16_code 234 = .ok (.getfield (168), 3) := by decide +kernel
theorem d_Z_acceptsHead_237 : decode prog_8_method_16_code 237 = .ok (.bipush (6), 2) := by decide +kernel
theorem d_Z_acceptsHead_239 : decode prog_8_method_16_code 239 = .ok (.if_icmp .ne (21), 3) := by decide +kernel
theorem d_Z_acceptsHead_242 : decode prog_8_method_16_code 242 = .ok (.aload_n 0, 1) := by decide +kernel
theorem d_Z_acceptsHead_243 : decode prog_8_method_16_code 243 = .ok (.bipush (7), 2) := by decide +kernel
theorem d_Z_acceptsHead_245 : decode prog_8_method_16_code 245 = .ok (.putfield (168), 3) := by decide +kernel
theorem d_Z_acceptsHead_248 : decode prog_8_method_16_code 248 = .ok (.iload_n 1, 1) := by decide +kernel
theorem d_Z_acceptsHead_249 : decode prog_8_method_16_code 249 = .ok (.bipush (43), 2) := by decide +kernel
theorem d_Z_acceptsHead_251 : decode prog_8_method_16_code 251 = .ok (.if_icmp .ne (7), 3) := by decide +kernel
theorem d_Z_acceptsHead_254 : decode prog_8_method_16_code 254 = .ok (.iconst 1, 1) := by decide +kernel
theorem d_Z_acceptsHead_255 : decode prog_8_method_16_code 255 = .ok (.goto (4), 3) := by decide +kernel
theorem d_Z_acceptsHead_258 : decode prog_8_method_16_code 258 = .ok (.iconst 0, 1) := by decide +kernel
theorem d_Z_acceptsHead_259 : decode prog_8_method_16_code 259 = .ok (.ireturn, 1) := by decide +kernel
theorem d_Z_acceptsHead_260 : decode prog_8_method_16_code 260 = .ok (.aload_n 0, 1) := by decide +kernel
theorem d_Z_acceptsHead_261 : decode prog_8_method_16_code 261 = .ok (.getfield (168), 3) := by decide +kernel
theorem d_Z_acceptsHead_264 : decode prog_8_method_16_code 264 = .ok (.iconst 4, 1) := by decide +kernel
theorem d_Z_acceptsHead_265 : decode prog_8_method_16_code 265 = .ok (.if_icmp .eq (12), 3) := by decide +kernel
theorem d_Z_acceptsHead_268 : decode prog_8_method_16_code 268 = .ok (.aload_n 0, 1) := by decide +kernel
theorem d_Z_acceptsHead_269 : decode prog_8_method_16_code 269 = .ok (.getfield (168), 3) := by decide +kernel
theorem d_Z_acceptsHead_272 : decode prog_8_method_16_code 272 = .ok (.bipush (8), 2) := by decide +kernel
theorem d_Z_acceptsHead_274 : decode prog_8_method_16_code 274 = .ok (.if_icmp .ne (39), 3) := by decide +kernel
theorem d_Z_acceptsHead_277 : decode prog_8_method_16_code 277 = .ok (.aload_n 0, 1) := by decide +kernel
theorem d_Z_acceptsHead_278 : decode prog_8_method_16_code 278 = .ok (.getfield (168), 3) := by decide +kernel
theorem d_Z_acceptsHead_281 : decode prog_8_method_16_code 281 = .ok (.bipush (8), 2) := by decide +kernel
theorem d_Z_acceptsHead_283 : decode prog_8_method_16_code 283 = .ok (.if_icmp .ne (13), 3) := by decide +kernel
theorem d_Z_acceptsHead_286 : decode prog_8_method_16_code 286 = .ok (.iload_n 1, 1) := by decide +kernel
theorem d_Z_acceptsHead_287 : decode prog_8_method_16_code 287 = .ok (.bipush (59), 2) := by decide +kernel
theorem d_Z_acceptsHead_289 : decode prog_8_method_16_code 289 = .ok (.if_icmp .ne (7), 3) := by decide +kernel
theorem d_Z_acceptsHead_292 : decode prog_8_method_16_code 292 = .ok (.aload_n 0, 1) := by decide +kernel
theorem d_Z_acceptsHead_293 : decode prog_8_method_16_code 293 = .ok (.invokevirtual (261), 3) := by decide +kernel
theorem d_Z_acceptsHead_296 : decode prog_8_method_16_code 296 = .ok (.aload_n 0, 1) := by decide +kernel
theorem d_Z_acceptsHead_297 : decode prog_8_method_16_code 297 = .ok (.iconst 2, 1) := by decide +kernel
theorem d_Z_acceptsHead_298 : decode prog_8_method_16_code 298 = .ok (.putfield (168), 3) := by decide +kernel
theorem d_Z_acceptsHead_301 : decode prog_8_method_16_code 301 = .ok (.iload_n 1, 1) := by decide +kernel
theorem d_Z_acceptsHead_302 : decode prog_8_method_16_code 302 = .ok (.bipush (59), 2) := by decide +kernel
theorem d_Z_acceptsHead_304 : decode prog_8_method_16_code 304 = .ok (.if_icmp .ne (7), 3) := by decide +kernel
theorem d_Z_acceptsHead_307 : decode prog_8_method_16_code 307 = .ok (.iconst 1, 1) := by decide +kernel
theorem d_Z_acceptsHead_308 : decode prog_8_method_16_code 308 = .ok (.goto (4), 3) := by decide +kernel
theorem d_Z_acceptsHead_311 : decode prog_8_method_16_code 311 = .ok (.iconst 0, 1) := by decide +kernel
theorem d_Z_acceptsHead_312 : decode prog_8_method_16_code 312 = .ok (.ireturn, 1) := by decide +kernel
theorem d_Z_acceptsHead_313 : decode prog_8_method_16_code 313 = .ok (.aload_n 0, 1) := by decide +kernel
theorem d_Z_acceptsHead_314 : decode prog_8_method_16_code 314 = .ok (.getfield (168), 3) := by decide +kernel
theorem d_Z_acceptsHead_317 : decode prog_8_method_16_code 317 = .ok (.bipush (50), 2) := by decide +kernel
theorem d_Z_acceptsHead_319 : decode prog_8_method_16_code 319 = .ok (.if_icmp .ne (13), 3) := by decide +kernel
theorem d_Z_acceptsHead_322 : decode prog_8_method_16_code 322 = .ok (.iload_n 1, 1) := by decide +kernel
theorem d_Z_acceptsHead_323 : decode prog_8_method_16_code 323 = .ok (.bipush (123), 2) := by decide +kernel
theorem d_Z_acceptsHead_325 : decode prog_8_method_16_code 325 = .ok (.if_icmp .ne (7), 3) := by decide +kernel
theorem d_Z_acceptsHead_328 : decode prog_8_method_16_code 328 = .ok (.iconst 1, 1) := by decide +kernel
theorem d_Z_acceptsHead_329 : decode prog_8_method_16_code 329 = .ok (.goto (4), 3) := by decide +kernel
theorem d_Z_acceptsHead_332 : decode prog_8_method_16_code 332 = .ok (.iconst 0, 1) := by decide +kernel
theorem d_Z_acceptsHead_333 : decode prog_8_method_16_code 333 = .ok (.istore_n 2, 1) := by decide +kernel
theorem d_Z_acceptsHead_334 : decode prog_8_method_16_code 334 = .ok (.aload_n 0, 1) := by decide +kernel
theorem d_Z_acceptsHead_335 : decode prog_8_method_16_code 335 = .ok (.iload_n 2, 1) := by decide +kernel
theorem d_Z_acceptsHead_336 : decode prog_8_method_16_code 336 = .ok (.ifCond .eq (7), 3) := by decide +kernel
theorem d_Z_acceptsHead_339 : decode prog_8_method_16_code 339 = .ok (.iconst 1, 1) := by decide +kernel
theorem d_Z_acceptsHead_340 : decode prog_8_method_16_code 340 = .ok (.goto (7), 3) := by decide +kernel
theorem d_Z_acceptsHead_343 : decode prog_8_method_16_code 343 = .ok (.aload_n 0, 1) := by decide +kernel
theorem d_Z_acceptsHead_344 : decode prog_8_method_16_code 344 = .ok (.getfield (180), 3) := by decide +kernel
theorem d_Z_acceptsHead_347 : decode prog_8_method_16_code 347 = .ok (.putfield (180), 3) := by decide +kernel
theorem d_Z_acceptsHead_350 : decode prog_8_method_16_code 350 = .ok (.aload_n 0, 1) := by decide +kernel
theorem d_Z_acceptsHead_351 : decode prog_8_method_16_code 351 = .ok (.iload_n 2, 1) := by decide +kernel
theorem d_Z_acceptsHead_352 : decode prog_8_method_16_code 352 = .ok (.ifCond .eq (8), 3) := by decide +kernel
theorem d_Z_acceptsHead_355 : decode prog_8_method_16_code 355 = .ok (.bipush (10), 2) := by decide +kernel
theorem d_Z_acceptsHead_357 : decode prog_8_method_16_code 357 = .ok (.goto (7), 3) := by decide +kernel
theorem d_Z_acceptsHead_360 : decode prog_8_method_16_code 360 = .ok (.aload_n 0, 1) := by decide +kernel
theorem d_Z_acceptsHead_361 : decode prog_8_method_16_code 361 = .ok (.getfield (168), 3) := by decide +kernel
theorem d_Z_acceptsHead_364 : decode prog_8_method_16_code 364 = .ok (.putfield (168), 3) := by decide +kernel
theorem d_Z_acceptsHead_367 : decode prog_8_method_16_code 367 = .ok (.iload_n 2, 1) := by decide +kernel
theorem d_Z_acceptsHead_368 : decode prog_8_method_16_code 368 = .ok (.ireturn, 1) := by decide +kernel
theorem fd_Z_254 : ax_fd "CipherNotationModel" 254 6 15 := ⟨nC6, nT6, 73, nY6, rfl, nW6, by decide, nw_4 152 (by decide +kernel) rfl, nO6, nA6⟩
set_option maxRecDepth 100000 in
theorem cw_Z_257 : ax_cw "CipherNotationModel" 257 y_Z_hex (.code y_Z_hex prog_8_method_6_code 1 (some .int)) 1 := ⟨nw_5 185 (by decide +kernel) rfl, nw_1 7 (by decide +kernel) rfl, nw_5 187 rfl rfl, by decide +kernel, by decide +kernel⟩
theorem sm_Z_hex : Cond.static y_Z_hex ∈ ax_tbl := nw_5 186 (by decide +kernel) rfl
theorem fp_Z_254 : ax_fp "CipherNotationModel" 254 6 15 (.int) := ⟨nC6, nT6, 73, nY6, rfl, nW6, by decide, nw_4 152 (by decide +kernel) rfl, nO6, nA6, by decide +kernel, by decide +kernel⟩
set_option maxRecDepth 100000 in
theorem cw_Z_261 : ax_cw "CipherNotationModel" 261 y_Z_reckon (.code y_Z_reckon prog_8_method_17_code 4 none) 0 := ⟨nw_5 188 (by decide +kernel) rfl, nw_1 7 (by decide +kernel) rfl, nw_5 191 rfl rfl, by decide +kernel, by decide +kernel⟩
theorem im_Z_reckon : Cond.instanceMethod y_Z_reckon ∈ ax_tbl := nw_5 190 (by decide +kernel) rfl
theorem se_Z_reckon : Cond.selects y_Z_reckon.cls y_Z_reckon y_Z_reckon ∈ ax_tbl := nw_sel 55 (by decide +kernel) (by decide +kernel)
theorem fd_Z_180 : ax_fd "CipherNotationModel" 180 6 19 := ⟨nC6, nT6, 73, nY6, rfl, nW6, by decide, nw_4 156 (by decide +kernel) rfl, nO6, nA6⟩
def f_Z_acceptsHead (F : Nat) (a1 : Int32) (s : ax_σ) : Option (Int32 × ax_σ) :=
  if (s.1 0 38 7) = (1 : Int32) then
    Option.bind (
      if (s.1 0 38 11) = (3 : Int32) then
        some (1 : Int32)
      else
        some (0 : Int32)) (fun v63 =>
      Option.bind (
        if v63 = (0 : Int32) then
          some (0 : Int32)
        else
          some (2 : Int32)) (fun v65 =>
        ax_let (ax_wI s 0 38 7 v65) (fun s66 =>
          Option.bind (
            if v63 = (0 : Int32) then
              some (58 : Int32)
            else
              some (59 : Int32)) (fun v68 =>
            if a1 = v68 then
              some (((1 : Int32), s66))
            else
              some (((0 : Int32), s66))))))
  else
    if (s.1 0 38 7) = (2 : Int32) then
      Option.bind (
        if a1 = (35 : Int32) then
          if (2 : Int32) ≤ (s.1 0 38 14) then
            some true
          else
            some false
        else
          some true) (fun w60 => bif w60 then
        ax_let (ax_wI s 0 38 7 (10 : Int32)) (fun s53 =>
          if a1 = (123 : Int32) then
            some (((1 : Int32), s53))
          else
            some (((0 : Int32), s53)))
      else
        ax_let (ax_wI s 0 38 14 ((s.1 0 38 14) + (1 : Int32))) (fun s55 =>
          ax_let (ax_wI s55 0 38 15 (0 : Int32)) (fun s56 =>
            bif ax_in (((2 : Int32) * (s56.1 0 38 14)) - (2 : Int32)) 4 then
            ax_let (ax_wI s56 0 45 ((((2 : Int32) * (s56.1 0 38 14)) - (2 : Int32))).toNatClampNeg (-1 : Int32)) (fun s58 =>
              ax_let (ax_wI s58 0 38 7 (3 : Int32)) (fun s59 =>
                some (((1 : Int32), s59))))
            else none)))
    else
      Option.bind (
        if (s.1 0 38 7) = (3 : Int32) then
          if a1 = (42 : Int32) then
            some false
          else
            some true
        else
          some true) (fun w50 => bif w50 then
        if (s.1 0 38 7) = (3 : Int32) then
          Option.bind (f_Z_hex a1) (fun r3 =>
            bif ax_in (((((16 : Int32) * (s.1 0 38 14)) - (16 : Int32)) + (s.1 0 38 15)) - ((((16 : Int32) * (s.1 0 38 14)) - (16 : Int32)) + (s.1 0 38 15)) / (32 : Int32) * (32 : Int32)) 32 then
            ax_let (ax_wI s 0 43 ((((((16 : Int32) * (s.1 0 38 14)) - (16 : Int32)) + (s.1 0 38 15)) - ((((16 : Int32) * (s.1 0 38 14)) - (16 : Int32)) + (s.1 0 38 15)) / (32 : Int32) * (32 : Int32))).toNatClampNeg r3) (fun s6 =>
              ax_let (ax_wI s6 0 38 15 ((s6.1 0 38 15) + (1 : Int32))) (fun s7 =>
                ax_let (ax_wI s7 0 38 7 (4 : Int32)) (fun s8 =>
                  Option.bind (f_Z_hex a1) (fun r9 =>
                    if r9 < (0 : Int32) then
                      some (((0 : Int32), s8))
                    else
                      some (((1 : Int32), s8))))))
            else none)
        else
          Option.bind (
            if (s.1 0 38 7) = (4 : Int32) then
              if (16 : Int32) ≤ (s.1 0 38 15) then
                some true
              else
                some false
            else
              some true) (fun w47 => bif w47 then
            if (s.1 0 38 7) = (6 : Int32) then
              ax_let (ax_wI s 0 38 7 (7 : Int32)) (fun s35 =>
                if a1 = (43 : Int32) then
                  some (((1 : Int32), s35))
                else
                  some (((0 : Int32), s35)))
            else
              Option.bind (
                if (s.1 0 38 7) = (4 : Int32) then
                  some true
                else
                  if (s.1 0 38 7) = (8 : Int32) then
                    some true
                  else
                    some false) (fun w34 => bif w34 then
                Option.bind (
                  Option.bind (
                    if (s.1 0 38 7) = (8 : Int32) then
                      if a1 = (59 : Int32) then
                        some false
                      else
                        some true
                    else
                      some true) (fun w20 => bif w20 then
                    some s
                  else
                    Option.bind (f_Z_reckon F s) (fun s18 =>
                      some s18))) (fun s21 =>
                  ax_let (ax_wI s21 0 38 7 (2 : Int32)) (fun s22 =>
                    if a1 = (59 : Int32) then
                      some (((1 : Int32), s22))
                    else
                      some (((0 : Int32), s22))))
              else
                Option.bind (
                  Option.bind (
                    if (s.1 0 38 7) = (50 : Int32) then
                      if a1 = (123 : Int32) then
                        some false
                      else
                        some true
                    else
                      some true) (fun w26 => bif w26 then
                    some (0 : Int32)
                  else
                    some (1 : Int32))) (fun v27 =>
                  Option.bind (
                    if v27 = (0 : Int32) then
                      some (s.1 0 38 19)
                    else
                      some (1 : Int32)) (fun v29 =>
                    ax_let (ax_wI s 0 38 19 v29) (fun s30 =>
                      Option.bind (
                        if v27 = (0 : Int32) then
                          some (s30.1 0 38 7)
                        else
                          some (10 : Int32)) (fun v32 =>
                        ax_let (ax_wI s30 0 38 7 v32) (fun s33 =>
                          bif ax_bo v27 then
                            some ((v27, s33))
                          else none))))))
          else
            Option.bind (f_Z_hex a1) (fun r38 =>
              bif ax_in (((((16 : Int32) * (s.1 0 38 14)) - (16 : Int32)) + (s.1 0 38 15)) - ((((16 : Int32) * (s.1 0 38 14)) - (16 : Int32)) + (s.1 0 38 15)) / (32 : Int32) * (32 : Int32)) 32 then
              ax_let (ax_wI s 0 43 ((((((16 : Int32) * (s.1 0 38 14)) - (16 : Int32)) + (s.1 0 38 15)) - ((((16 : Int32) * (s.1 0 38 14)) - (16 : Int32)) + (s.1 0 38 15)) / (32 : Int32) * (32 : Int32))).toNatClampNeg r38) (fun s41 =>
                ax_let (ax_wI s41 0 38 15 ((s41.1 0 38 15) + (1 : Int32))) (fun s42 =>
                  ax_let (ax_wI s42 0 38 7 (4 : Int32)) (fun s43 =>
                    Option.bind (f_Z_hex a1) (fun r44 =>
                      if r44 < (0 : Int32) then
                        some (((0 : Int32), s43))
                      else
                        some (((1 : Int32), s43))))))
              else none))
      else
        ax_let (ax_wI s 0 38 7 (5 : Int32)) (fun s49 =>
          some (((1 : Int32), s49))))
set_option maxHeartbeats 4000000 in
set_option maxRecDepth 100000 in
theorem t_Z_acceptsHead {l : Launch} {D : va_G} {cA : Nat → ClassId} {ad : Nat → Nat → Nat} {al : List (Nat × Nat)} {θ : ax_Θ} {ρ : ax_ρ} {F : Nat} (h0 : ax_M0 al) {a1 : Int32} {s : ax_σ} {r0 : Int32} {s0 : ax_σ} (h : f_Z_acceptsHead F a1 s = some (r0, s0)) : ax_T l D cA ad al θ y_Z_acceptsHead (.code y_Z_acceptsHead prog_8_method_16_code 3 (some .boolean)) 2 [.inr (0, 38), .inl (.int (a1))] (ax_m s ρ) (some (.inl (.int r0))) (ax_m s0 ρ) := by
  refine ax_T_of (own := "CipherNotationModel") (by decide) rfl (Nat.le_of_ble_eq_true rfl) [(0, .inr (0, 38)), (1, .inl (.int (a1)))] rfl ?_
  intro G hA
  have hB := hA.B
  have hK := hB.K
  have hal := hB.la
  unfold f_Z_acceptsHead at h
  refine ax_bk hK (ax_fc (ax_v_ld (ax_r_aload_n (i := 0) d_Z_acceptsHead_0 rfl)) (ax_fc (ax_w_gf (e := none) hal d_Z_acceptsHead_1 fd_Z_168) (ax_fc (ax_v_pu (ax_r_iconst (v := 1) d_Z_acceptsHead_4 (by decide))) ax_fn))) (y := (5, [(0, .inr (0, 38)), (1, .inl (.int (a1)))], [.inl (.int ((1 : Int32))), .inl (.int ((s.1 0 38 7)))], ax_m (s) ρ)) rfl ⟨trivial, (h0 38 rfl), trivial, trivial⟩ ?_
  refine ax_ic_ne (tgt := 56) hK d_Z_acceptsHead_5 (by decide) (fun c70 => ?_) (fun c70 => ?_)
  · replace h := ax_if c70 h
    refine ax_bk hK (ax_fc (ax_v_ld (ax_r_aload_n (i := 0) d_Z_acceptsHead_56 rfl)) (ax_fc (ax_w_gf (e := none) hal d_Z_acceptsHead_57 fd_Z_168) (ax_fc (ax_v_pu (ax_r_iconst (v := 2) d_Z_acceptsHead_60 (by decide))) ax_fn))) (y := (61, [(0, .inr (0, 38)), (1, .inl (.int (a1)))], [.inl (.int ((2 : Int32))), .inl (.int ((s.1 0 38 7)))], ax_m (s) ρ)) rfl ⟨trivial, (h0 38 rfl), trivial, trivial⟩ ?_
    refine ax_ic_ne (tgt := 132) hK d_Z_acceptsHead_61 (by decide) (fun c61 => ?_) (fun c61 => ?_)
    · replace h := ax_if c61 h
      refine ax_bk hK (ax_fc (ax_v_ld (ax_r_aload_n (i := 0) d_Z_acceptsHead_132 rfl)) (ax_fc (ax_w_gf (e := none) hal d_Z_acceptsHead_133 fd_Z_168) (ax_fc (ax_v_pu (ax_r_iconst (v := 3) d_Z_acceptsHead_136 (by decide))) ax_fn))) (y := (137, [(0, .inr (0, 38)), (1, .inl (.int (a1)))], [.inl (.int ((3 : Int32))), .inl (.int ((s.1 0 38 7)))], ax_m (s) ρ)) rfl ⟨trivial, (h0 38 rfl), trivial, trivial⟩ ?_
      obtain ⟨w50, hw50, h⟩ := ax_bd h
      have KTw50 : w50 = true → ax_R G 3 0 0 (153, [(0, .inr (0, 38)), (1, .inl (.int (a1)))], [], ax_m (s) ρ) := by
        intro e9
        subst w50
        replace h := ax_ct h
        refine ax_bk hK (ax_fc (ax_v_ld (ax_r_aload_n (i := 0) d_Z_acceptsHead_153 rfl)) (ax_fc (ax_w_gf (e := none) hal d_Z_acceptsHead_154 fd_Z_168) (ax_fc (ax_v_pu (ax_r_iconst (v := 3) d_Z_acceptsHead_157 (by decide))) ax_fn))) (y := (158, [(0, .inr (0, 38)), (1, .inl (.int (a1)))], [.inl (.int ((3 : Int32))), .inl (.int ((s.1 0 38 7)))], ax_m (s) ρ)) rfl ⟨trivial, (h0 38 rfl), trivial, trivial⟩ ?_
        refine ax_ic_eq (tgt := 178) hK d_Z_acceptsHead_158 (by decide) (fun c48 => ?_) (fun c48 => ?_)
        · replace h := ax_it c48 h
          refine ax_bk hK (ax_fc (ax_v_ld (ax_r_aload_n (i := 0) d_Z_acceptsHead_178 rfl)) (ax_fc (ax_w_gf (e := none) hal d_Z_acceptsHead_179 fd_Z_27) (ax_fc (ax_v_pu (ax_r_bipush (v := 16) d_Z_acceptsHead_182 (by decide))) (ax_fc (ax_v_ld (ax_r_aload_n (i := 0) d_Z_acceptsHead_184 rfl)) (ax_fc (ax_w_gf (e := none) hal d_Z_acceptsHead_185 fd_Z_177) (ax_fc (ax_v_pu (ax_r_imul d_Z_acceptsHead_188)) (ax_fc (ax_v_pu (ax_r_bipush (v := 16) d_Z_acceptsHead_189 (by decide))) (ax_fc (ax_v_pu (ax_r_isub d_Z_acceptsHead_191)) (ax_fc (ax_v_ld (ax_r_aload_n (i := 0) d_Z_acceptsHead_192 rfl)) (ax_fc (ax_w_gf (e := none) hal d_Z_acceptsHead_193 fd_Z_254) (ax_fc (ax_v_pu (ax_r_iadd d_Z_acceptsHead_196)) (ax_fc (ax_v_pu (ax_r_bipush (v := 32) d_Z_acceptsHead_197 (by decide))) (ax_fc (ax_v_irem d_Z_acceptsHead_199) (ax_fc (ax_v_ld (ax_r_iload_n (i := 1) d_Z_acceptsHead_200 rfl)) ax_fn)))))))))))))) (y := (201, [(0, .inr (0, 38)), (1, .inl (.int (a1)))], [.inl (.int (a1)), .inl (.int ((((((16 : Int32) * (s.1 0 38 14)) - (16 : Int32)) + (s.1 0 38 15)) - ((((16 : Int32) * (s.1 0 38 14)) - (16 : Int32)) + (s.1 0 38 15)) / (32 : Int32) * (32 : Int32)))), .inr (0, 43)], ax_m (s) ρ)) rfl ⟨trivial, (h0 38 rfl), trivial, trivial, (h0 38 rfl), trivial, trivial, trivial, trivial, (h0 38 rfl), trivial, trivial, (by decide), trivial, trivial⟩ ?_
          obtain ⟨r3, q4, h⟩ := ax_bd h
          refine ax_bS (rest := [.inl (.int ((((((16 : Int32) * (s.1 0 38 14)) - (16 : Int32)) + (s.1 0 38 15)) - ((((16 : Int32) * (s.1 0 38 14)) - (16 : Int32)) + (s.1 0 38 15)) / (32 : Int32) * (32 : Int32)))), .inr (0, 43)]) hB (t_Z_hex q4) cw_Z_257 sm_Z_hex d_Z_acceptsHead_201 (by decide) (by decide) rfl rfl (Nat.le_of_ble_eq_true rfl) ?_
          change ax_R G 3 0 0 (204, [(0, .inr (0, 38)), (1, .inl (.int (a1)))], [.inl (.int (r3)), .inl (.int ((((((16 : Int32) * (s.1 0 38 14)) - (16 : Int32)) + (s.1 0 38 15)) - ((((16 : Int32) * (s.1 0 38 14)) - (16 : Int32)) + (s.1 0 38 15)) / (32 : Int32) * (32 : Int32)))), .inr (0, 43)], ax_m (s) ρ)
          obtain ⟨b5, h⟩ := ax_gd h
          refine ax_bk hK (ax_fc (ax_w_iast hal d_Z_acceptsHead_204) ax_fn) (y := (205, [(0, .inr (0, 38)), (1, .inl (.int (a1)))], [], ax_m (ax_wI s 0 43 ((((((16 : Int32) * (s.1 0 38 14)) - (16 : Int32)) + (s.1 0 38 15)) - ((((16 : Int32) * (s.1 0 38 14)) - (16 : Int32)) + (s.1 0 38 15)) / (32 : Int32) * (32 : Int32))).toNatClampNeg r3) ρ)) rfl ⟨⟨(h0 43 rfl), ax_inp b5⟩, trivial⟩ ?_
          refine ax_lt (Q := fun ςς => ax_R G 3 0 0 (205, [(0, .inr (0, 38)), (1, .inl (.int (a1)))], [], ax_m (ςς) ρ)) h (fun s6 h => ?_)
          refine ax_bk hK (ax_fc (ax_v_ld (ax_r_aload_n (i := 0) d_Z_acceptsHead_205 rfl)) (ax_fc (ax_v_pu (ax_r_dup d_Z_acceptsHead_206)) (ax_fc (ax_w_gf (e := none) hal d_Z_acceptsHead_207 fd_Z_254) (ax_fc (ax_v_pu (ax_r_iconst (v := 1) d_Z_acceptsHead_210 (by decide))) (ax_fc (ax_v_pu (ax_r_iadd d_Z_acceptsHead_211)) (ax_fc (ax_w_pf (tc := 0) hal d_Z_acceptsHead_212 fp_Z_254 rfl) ax_fn)))))) (y := (215, [(0, .inr (0, 38)), (1, .inl (.int (a1)))], [], ax_m (ax_wI s6 0 38 15 ((s6.1 0 38 15) + (1 : Int32))) ρ)) rfl ⟨trivial, trivial, (h0 38 rfl), trivial, trivial, (h0 38 rfl), trivial⟩ ?_
          refine ax_lt (Q := fun ςς => ax_R G 3 0 0 (215, [(0, .inr (0, 38)), (1, .inl (.int (a1)))], [], ax_m (ςς) ρ)) h (fun s7 h => ?_)
          refine ax_bk hK (ax_fc (ax_v_ld (ax_r_aload_n (i := 0) d_Z_acceptsHead_215 rfl)) (ax_fc (ax_v_pu (ax_r_iconst (v := 4) d_Z_acceptsHead_216 (by decide))) (ax_fc (ax_w_pf (tc := 0) hal d_Z_acceptsHead_217 fp_Z_168 rfl) ax_fn))) (y := (220, [(0, .inr (0, 38)), (1, .inl (.int (a1)))], [], ax_m (ax_wI s7 0 38 7 (4 : Int32)) ρ)) rfl ⟨trivial, trivial, (h0 38 rfl), trivial⟩ ?_
          refine ax_lt (Q := fun ςς => ax_R G 3 0 0 (220, [(0, .inr (0, 38)), (1, .inl (.int (a1)))], [], ax_m (ςς) ρ)) h (fun s8 h => ?_)
          refine ax_bk hK (ax_fc (ax_v_ld (ax_r_iload_n (i := 1) d_Z_acceptsHead_220 rfl)) ax_fn) (y := (221, [(0, .inr (0, 38)), (1, .inl (.int (a1)))], [.inl (.int (a1))], ax_m (s8) ρ)) rfl ⟨trivial, trivial⟩ ?_
          obtain ⟨r9, q10, h⟩ := ax_bd h
          refine ax_bS (rest := []) hB (t_Z_hex q10) cw_Z_257 sm_Z_hex d_Z_acceptsHead_221 (by decide) (by decide) rfl rfl (Nat.le_of_ble_eq_true rfl) ?_
          change ax_R G 3 0 0 (224, [(0, .inr (0, 38)), (1, .inl (.int (a1)))], [.inl (.int (r9))], ax_m (s8) ρ)
          refine ax_if_lt (tgt := 231) hK d_Z_acceptsHead_224 (by decide) (fun c11 => ?_) (fun c11 => ?_)
          · replace h := ax_it c11 h
            refine ax_bk hK (ax_fc (ax_v_pu (ax_r_iconst (v := 0) d_Z_acceptsHead_231 (by decide))) ax_fn) (y := (232, [(0, .inr (0, 38)), (1, .inl (.int (a1)))], [.inl (.int ((0 : Int32)))], ax_m (s8) ρ)) rfl ⟨trivial, trivial⟩ ?_
            cases h
            exact ax_zret hA (by decide) d_Z_acceptsHead_232
          · replace h := ax_if c11 h
            refine ax_bk hK (ax_fc (ax_v_pu (ax_r_iconst (v := 1) d_Z_acceptsHead_227 (by decide))) (ax_fc (ax_v_go (tgt := 232) d_Z_acceptsHead_228 (by decide)) ax_fn)) (y := (232, [(0, .inr (0, 38)), (1, .inl (.int (a1)))], [.inl (.int ((1 : Int32)))], ax_m (s8) ρ)) rfl ⟨trivial, trivial, trivial⟩ ?_
            cases h
            exact ax_zret hA (by decide) d_Z_acceptsHead_232
        · replace h := ax_if c48 h
          refine ax_bk hK (ax_fc (ax_v_ld (ax_r_aload_n (i := 0) d_Z_acceptsHead_161 rfl)) (ax_fc (ax_w_gf (e := none) hal d_Z_acceptsHead_162 fd_Z_168) (ax_fc (ax_v_pu (ax_r_iconst (v := 4) d_Z_acceptsHead_165 (by decide))) ax_fn))) (y := (166, [(0, .inr (0, 38)), (1, .inl (.int (a1)))], [.inl (.int ((4 : Int32))), .inl (.int ((s.1 0 38 7)))], ax_m (s) ρ)) rfl ⟨trivial, (h0 38 rfl), trivial, trivial⟩ ?_
          obtain ⟨w47, hw47, h⟩ := ax_bd h
          have KTw47 : w47 = true → ax_R G 3 0 0 (233, [(0, .inr (0, 38)), (1, .inl (.int (a1)))], [], ax_m (s) ρ) := by
            intro e9
            subst w47
            replace h := ax_ct h
            refine ax_bk hK (ax_fc (ax_v_ld (ax_r_aload_n (i := 0) d_Z_acceptsHead_233 rfl)) (ax_fc (ax_w_gf (e := none) hal d_Z_acceptsHead_234 fd_Z_168) (ax_fc (ax_v_pu (ax_r_bipush (v := 6) d_Z_acceptsHead_237 (by decide))) ax_fn))) (y := (239, [(0, .inr (0, 38)), (1, .inl (.int (a1)))], [.inl (.int ((6 : Int32))), .inl (.int ((s.1 0 38 7)))], ax_m (s) ρ)) rfl ⟨trivial, (h0 38 rfl), trivial, trivial⟩ ?_
            refine ax_ic_ne (tgt := 260) hK d_Z_acceptsHead_239 (by decide) (fun c37 => ?_) (fun c37 => ?_)
            · replace h := ax_if c37 h
              refine ax_bk hK (ax_fc (ax_v_ld (ax_r_aload_n (i := 0) d_Z_acceptsHead_260 rfl)) (ax_fc (ax_w_gf (e := none) hal d_Z_acceptsHead_261 fd_Z_168) (ax_fc (ax_v_pu (ax_r_iconst (v := 4) d_Z_acceptsHead_264 (by decide))) ax_fn))) (y := (265, [(0, .inr (0, 38)), (1, .inl (.int (a1)))], [.inl (.int ((4 : Int32))), .inl (.int ((s.1 0 38 7)))], ax_m (s) ρ)) rfl ⟨trivial, (h0 38 rfl), trivial, trivial⟩ ?_
              obtain ⟨w34, hw34, h⟩ := ax_bd h
              have KTw34 : w34 = true → ax_R G 3 0 0 (277, [(0, .inr (0, 38)), (1, .inl (.int (a1)))], [], ax_m (s) ρ) := by
                intro e9
                subst w34
                replace h := ax_ct h
                refine ax_bk hK (ax_fc (ax_v_ld (ax_r_aload_n (i := 0) d_Z_acceptsHead_277 rfl)) (ax_fc (ax_w_gf (e := none) hal d_Z_acceptsHead_278 fd_Z_168) (ax_fc (ax_v_pu (ax_r_bipush (v := 8) d_Z_acceptsHead_281 (by decide))) ax_fn))) (y := (283, [(0, .inr (0, 38)), (1, .inl (.int (a1)))], [.inl (.int ((8 : Int32))), .inl (.int ((s.1 0 38 7)))], ax_m (s) ρ)) rfl ⟨trivial, (h0 38 rfl), trivial, trivial⟩ ?_
                obtain ⟨w71, hw71, h⟩ := ax_bd h
                have KEw71 : ∀ (s21 : ax_σ), w71 = s21 → ax_R G 3 0 0 (296, [(0, .inr (0, 38)), (1, .inl (.int (a1)))], [], ax_m (s21) ρ) := by
                  intro s21 e9
                  subst w71
                  try dsimp only at h
                  refine ax_bk hK (ax_fc (ax_v_ld (ax_r_aload_n (i := 0) d_Z_acceptsHead_296 rfl)) (ax_fc (ax_v_pu (ax_r_iconst (v := 2) d_Z_acceptsHead_297 (by decide))) (ax_fc (ax_w_pf (tc := 0) hal d_Z_acceptsHead_298 fp_Z_168 rfl) ax_fn))) (y := (301, [(0, .inr (0, 38)), (1, .inl (.int (a1)))], [], ax_m (ax_wI s21 0 38 7 (2 : Int32)) ρ)) rfl ⟨trivial, trivial, (h0 38 rfl), trivial⟩ ?_
                  refine ax_lt (Q := fun ςς => ax_R G 3 0 0 (301, [(0, .inr (0, 38)), (1, .inl (.int (a1)))], [], ax_m (ςς) ρ)) h (fun s22 h => ?_)
                  refine ax_bk hK (ax_fc (ax_v_ld (ax_r_iload_n (i := 1) d_Z_acceptsHead_301 rfl)) (ax_fc (ax_v_pu (ax_r_bipush (v := 59) d_Z_acceptsHead_302 (by decide))) ax_fn)) (y := (304, [(0, .inr (0, 38)), (1, .inl (.int (a1)))], [.inl (.int ((59 : Int32))), .inl (.int (a1))], ax_m (s22) ρ)) rfl ⟨trivial, trivial, trivial⟩ ?_
                  refine ax_ic_ne (tgt := 311) hK d_Z_acceptsHead_304 (by decide) (fun c23 => ?_) (fun c23 => ?_)
                  · replace h := ax_if c23 h
                    refine ax_bk hK (ax_fc (ax_v_pu (ax_r_iconst (v := 0) d_Z_acceptsHead_311 (by decide))) ax_fn) (y := (312, [(0, .inr (0, 38)), (1, .inl (.int (a1)))], [.inl (.int ((0 : Int32)))], ax_m (s22) ρ)) rfl ⟨trivial, trivial⟩ ?_
                    cases h
                    exact ax_zret hA (by decide) d_Z_acceptsHead_312
                  · replace h := ax_it c23 h
                    refine ax_bk hK (ax_fc (ax_v_pu (ax_r_iconst (v := 1) d_Z_acceptsHead_307 (by decide))) (ax_fc (ax_v_go (tgt := 312) d_Z_acceptsHead_308 (by decide)) ax_fn)) (y := (312, [(0, .inr (0, 38)), (1, .inl (.int (a1)))], [.inl (.int ((1 : Int32)))], ax_m (s22) ρ)) rfl ⟨trivial, trivial, trivial⟩ ?_
                    cases h
                    exact ax_zret hA (by decide) d_Z_acceptsHead_312
                clear h
                have h := hw71
                obtain ⟨w20, hw20, h⟩ := ax_bd h
                have KTw20 : w20 = true → ax_R G 3 0 0 (296, [(0, .inr (0, 38)), (1, .inl (.int (a1)))], [], ax_m (s) ρ) := by
                  intro e9
                  subst w20
                  replace h := ax_ct h
                  cases h
                  exact ax_Lsub [0, 1] rfl (KEw71 _ rfl)
                have KFw20 : w20 = false → ax_R G 3 0 0 (292, [(0, .inr (0, 38)), (1, .inl (.int (a1)))], [], ax_m (s) ρ) := by
                  intro e9
                  subst w20
                  replace h := ax_cf h
                  refine ax_bk hK (ax_fc (ax_v_ld (ax_r_aload_n (i := 0) d_Z_acceptsHead_292 rfl)) ax_fn) (y := (293, [(0, .inr (0, 38)), (1, .inl (.int (a1)))], [.inr (0, 38)], ax_m (s) ρ)) rfl ⟨trivial, trivial⟩ ?_
                  obtain ⟨s18, q19, h⟩ := ax_bd h
                  refine ax_bV (rest := []) hB (t_Z_reckon h0 q19) cw_Z_261 im_Z_reckon se_Z_reckon d_Z_acceptsHead_293 (h0 38 rfl) rfl rfl (by decide) (by decide) rfl rfl (Nat.le_of_ble_eq_true rfl) ?_
                  change ax_R G 3 0 0 (296, [(0, .inr (0, 38)), (1, .inl (.int (a1)))], [], ax_m (s18) ρ)
                  cases h
                  exact ax_Lsub [0, 1] rfl (KEw71 _ rfl)
                clear h
                have h := hw20
                refine ax_ic_ne (tgt := 296) hK d_Z_acceptsHead_283 (by decide) (fun c17 => ?_) (fun c17 => ?_)
                · replace h := ax_if c17 h
                  cases h
                  exact ax_Lsub [0, 1] rfl (KTw20 rfl)
                · replace h := ax_it c17 h
                  refine ax_bk hK (ax_fc (ax_v_ld (ax_r_iload_n (i := 1) d_Z_acceptsHead_286 rfl)) (ax_fc (ax_v_pu (ax_r_bipush (v := 59) d_Z_acceptsHead_287 (by decide))) ax_fn)) (y := (289, [(0, .inr (0, 38)), (1, .inl (.int (a1)))], [.inl (.int ((59 : Int32))), .inl (.int (a1))], ax_m (s) ρ)) rfl ⟨trivial, trivial, trivial⟩ ?_
                  refine ax_ic_ne (tgt := 296) hK d_Z_acceptsHead_289 (by decide) (fun c16 => ?_) (fun c16 => ?_)
                  · replace h := ax_if c16 h
                    cases h
                    exact ax_Lsub [0, 1] rfl (KTw20 rfl)
                  · replace h := ax_it c16 h
                    cases h
                    exact ax_Lsub [0, 1] rfl (KFw20 rfl)
              have KFw34 : w34 = false → ax_R G 3 0 0 (313, [(0, .inr (0, 38)), (1, .inl (.int (a1)))], [], ax_m (s) ρ) := by
                intro e9
                subst w34
                replace h := ax_cf h
                refine ax_bk hK (ax_fc (ax_v_ld (ax_r_aload_n (i := 0) d_Z_acceptsHead_313 rfl)) (ax_fc (ax_w_gf (e := none) hal d_Z_acceptsHead_314 fd_Z_168) (ax_fc (ax_v_pu (ax_r_bipush (v := 50) d_Z_acceptsHead_317 (by decide))) ax_fn))) (y := (319, [(0, .inr (0, 38)), (1, .inl (.int (a1)))], [.inl (.int ((50 : Int32))), .inl (.int ((s.1 0 38 7)))], ax_m (s) ρ)) rfl ⟨trivial, (h0 38 rfl), trivial, trivial⟩ ?_
                obtain ⟨w72, hw72, h⟩ := ax_bd h
                have KEw72 : ∀ (v27 : Int32), w72 = v27 → ax_R G 3 0 0 (333, [(0, .inr (0, 38))], [.inl (.int (v27))], ax_m (s) ρ) := by
                  intro v27 e9
                  subst w72
                  try dsimp only at h
                  refine ax_bk hK (ax_fc (ax_v_so (ax_r_istore_n (i := 2) d_Z_acceptsHead_333 rfl)) (ax_fc (ax_v_ld (ax_r_aload_n (i := 0) d_Z_acceptsHead_334 rfl)) (ax_fc (ax_v_ld (ax_r_iload_n (i := 2) d_Z_acceptsHead_335 rfl)) ax_fn))) (y := (336, [(2, .inl (.int (v27))), (0, .inr (0, 38))], [.inl (.int (v27)), .inr (0, 38)], ax_m (s) ρ)) rfl ⟨trivial, trivial, trivial, trivial⟩ ?_
                  obtain ⟨w73, hw73, h⟩ := ax_bd h
                  have KEw73 : ∀ (v29 : Int32), w73 = v29 → ax_R G 3 0 0 (347, [(0, .inr (0, 38)), (2, .inl (.int (v27)))], [.inl (.int (v29)), .inr (0, 38)], ax_m (s) ρ) := by
                    intro v29 e9
                    subst w73
                    try dsimp only at h
                    refine ax_bk hK (ax_fc (ax_w_pf (tc := 0) hal d_Z_acceptsHead_347 fp_Z_180 rfl) ax_fn) (y := (350, [(0, .inr (0, 38)), (2, .inl (.int (v27)))], [], ax_m (ax_wI s 0 38 19 v29) ρ)) rfl ⟨(h0 38 rfl), trivial⟩ ?_
                    refine ax_lt (Q := fun ςς => ax_R G 3 0 0 (350, [(0, .inr (0, 38)), (2, .inl (.int (v27)))], [], ax_m (ςς) ρ)) h (fun s30 h => ?_)
                    refine ax_bk hK (ax_fc (ax_v_ld (ax_r_aload_n (i := 0) d_Z_acceptsHead_350 rfl)) (ax_fc (ax_v_ld (ax_r_iload_n (i := 2) d_Z_acceptsHead_351 rfl)) ax_fn)) (y := (352, [(0, .inr (0, 38)), (2, .inl (.int (v27)))], [.inl (.int (v27)), .inr (0, 38)], ax_m (s30) ρ)) rfl ⟨trivial, trivial, trivial⟩ ?_
                    obtain ⟨w74, hw74, h⟩ := ax_bd h
                    have KEw74 : ∀ (v32 : Int32), w74 = v32 → ax_R G 3 0 0 (364, [(2, .inl (.int (v27)))], [.inl (.int (v32)), .inr (0, 38)], ax_m (s30) ρ) := by
                      intro v32 e9
                      subst w74
                      try dsimp only at h
                      refine ax_bk hK (ax_fc (ax_w_pf (tc := 0) hal d_Z_acceptsHead_364 fp_Z_168 rfl) ax_fn) (y := (367, [(2, .inl (.int (v27)))], [], ax_m (ax_wI s30 0 38 7 v32) ρ)) rfl ⟨(h0 38 rfl), trivial⟩ ?_
                      refine ax_lt (Q := fun ςς => ax_R G 3 0 0 (367, [(2, .inl (.int (v27)))], [], ax_m (ςς) ρ)) h (fun s33 h => ?_)
                      refine ax_bk hK (ax_fc (ax_v_ld (ax_r_iload_n (i := 2) d_Z_acceptsHead_367 rfl)) ax_fn) (y := (368, [(2, .inl (.int (v27)))], [.inl (.int (v27))], ax_m (s33) ρ)) rfl ⟨trivial, trivial⟩ ?_
                      obtain ⟨b75, h⟩ := ax_gd h
                      cases h
                      exact ax_zret hA (ax_bop b75) d_Z_acceptsHead_368
                    clear h
                    have h := hw74
                    refine ax_if_eq (tgt := 360) hK d_Z_acceptsHead_352 (by decide) (fun c31 => ?_) (fun c31 => ?_)
                    · replace h := ax_it c31 h
                      refine ax_bk hK (ax_fc (ax_v_ld (ax_r_aload_n (i := 0) d_Z_acceptsHead_360 rfl)) (ax_fc (ax_w_gf (e := none) hal d_Z_acceptsHead_361 fd_Z_168) ax_fn)) (y := (364, [(0, .inr (0, 38)), (2, .inl (.int (v27)))], [.inl (.int ((s30.1 0 38 7))), .inr (0, 38)], ax_m (s30) ρ)) rfl ⟨trivial, (h0 38 rfl), trivial⟩ ?_
                      cases h
                      exact ax_Lsub [1] rfl (KEw74 _ rfl)
                    · replace h := ax_if c31 h
                      refine ax_bk hK (ax_fc (ax_v_pu (ax_r_bipush (v := 10) d_Z_acceptsHead_355 (by decide))) (ax_fc (ax_v_go (tgt := 364) d_Z_acceptsHead_357 (by decide)) ax_fn)) (y := (364, [(0, .inr (0, 38)), (2, .inl (.int (v27)))], [.inl (.int ((10 : Int32))), .inr (0, 38)], ax_m (s30) ρ)) rfl ⟨trivial, trivial, trivial⟩ ?_
                      cases h
                      exact ax_Lsub [1] rfl (KEw74 _ rfl)
                  clear h
                  have h := hw73
                  refine ax_if_eq (tgt := 343) hK d_Z_acceptsHead_336 (by decide) (fun c28 => ?_) (fun c28 => ?_)
                  · replace h := ax_it c28 h
                    refine ax_bk hK (ax_fc (ax_v_ld (ax_r_aload_n (i := 0) d_Z_acceptsHead_343 rfl)) (ax_fc (ax_w_gf (e := none) hal d_Z_acceptsHead_344 fd_Z_180) ax_fn)) (y := (347, [(2, .inl (.int (v27))), (0, .inr (0, 38))], [.inl (.int ((s.1 0 38 19))), .inr (0, 38)], ax_m (s) ρ)) rfl ⟨trivial, (h0 38 rfl), trivial⟩ ?_
                    cases h
                    exact ax_Lsub [1, 0] rfl (KEw73 _ rfl)
                  · replace h := ax_if c28 h
                    refine ax_bk hK (ax_fc (ax_v_pu (ax_r_iconst (v := 1) d_Z_acceptsHead_339 (by decide))) (ax_fc (ax_v_go (tgt := 347) d_Z_acceptsHead_340 (by decide)) ax_fn)) (y := (347, [(2, .inl (.int (v27))), (0, .inr (0, 38))], [.inl (.int ((1 : Int32))), .inr (0, 38)], ax_m (s) ρ)) rfl ⟨trivial, trivial, trivial⟩ ?_
                    cases h
                    exact ax_Lsub [1, 0] rfl (KEw73 _ rfl)
                clear h
                have h := hw72
                obtain ⟨w26, hw26, h⟩ := ax_bd h
                have KTw26 : w26 = true → ax_R G 3 0 0 (332, [(0, .inr (0, 38))], [], ax_m (s) ρ) := by
                  intro e9
                  subst w26
                  replace h := ax_ct h
                  refine ax_bk hK (ax_fc (ax_v_pu (ax_r_iconst (v := 0) d_Z_acceptsHead_332 (by decide))) ax_fn) (y := (333, [(0, .inr (0, 38))], [.inl (.int ((0 : Int32)))], ax_m (s) ρ)) rfl ⟨trivial, trivial⟩ ?_
                  cases h
                  exact ax_Lsub [0] rfl (KEw72 _ rfl)
                have KFw26 : w26 = false → ax_R G 3 0 0 (328, [(0, .inr (0, 38))], [], ax_m (s) ρ) := by
                  intro e9
                  subst w26
                  replace h := ax_cf h
                  refine ax_bk hK (ax_fc (ax_v_pu (ax_r_iconst (v := 1) d_Z_acceptsHead_328 (by decide))) (ax_fc (ax_v_go (tgt := 333) d_Z_acceptsHead_329 (by decide)) ax_fn)) (y := (333, [(0, .inr (0, 38))], [.inl (.int ((1 : Int32)))], ax_m (s) ρ)) rfl ⟨trivial, trivial, trivial⟩ ?_
                  cases h
                  exact ax_Lsub [0] rfl (KEw72 _ rfl)
                clear h
                have h := hw26
                refine ax_ic_ne (tgt := 332) hK d_Z_acceptsHead_319 (by decide) (fun c25 => ?_) (fun c25 => ?_)
                · replace h := ax_if c25 h
                  cases h
                  exact ax_Lsub [0] rfl (KTw26 rfl)
                · replace h := ax_it c25 h
                  refine ax_bk hK (ax_fc (ax_v_ld (ax_r_iload_n (i := 1) d_Z_acceptsHead_322 rfl)) (ax_fc (ax_v_pu (ax_r_bipush (v := 123) d_Z_acceptsHead_323 (by decide))) ax_fn)) (y := (325, [(0, .inr (0, 38)), (1, .inl (.int (a1)))], [.inl (.int ((123 : Int32))), .inl (.int (a1))], ax_m (s) ρ)) rfl ⟨trivial, trivial, trivial⟩ ?_
                  refine ax_ic_ne (tgt := 332) hK d_Z_acceptsHead_325 (by decide) (fun c24 => ?_) (fun c24 => ?_)
                  · replace h := ax_if c24 h
                    cases h
                    exact ax_Lsub [0] rfl (KTw26 rfl)
                  · replace h := ax_it c24 h
                    cases h
                    exact ax_Lsub [0] rfl (KFw26 rfl)
              clear h
              have h := hw34
              refine ax_ic_eq (tgt := 277) hK d_Z_acceptsHead_265 (by decide) (fun c15 => ?_) (fun c15 => ?_)
              · replace h := ax_it c15 h
                cases h
                exact ax_Lsub [0, 1] rfl (KTw34 rfl)
              · replace h := ax_if c15 h
                refine ax_bk hK (ax_fc (ax_v_ld (ax_r_aload_n (i := 0) d_Z_acceptsHead_268 rfl)) (ax_fc (ax_w_gf (e := none) hal d_Z_acceptsHead_269 fd_Z_168) (ax_fc (ax_v_pu (ax_r_bipush (v := 8) d_Z_acceptsHead_272 (by decide))) ax_fn))) (y := (274, [(0, .inr (0, 38)), (1, .inl (.int (a1)))], [.inl (.int ((8 : Int32))), .inl (.int ((s.1 0 38 7)))], ax_m (s) ρ)) rfl ⟨trivial, (h0 38 rfl), trivial, trivial⟩ ?_
                refine ax_ic_ne (tgt := 313) hK d_Z_acceptsHead_274 (by decide) (fun c14 => ?_) (fun c14 => ?_)
                · replace h := ax_if c14 h
                  cases h
                  exact ax_Lsub [0, 1] rfl (KFw34 rfl)
                · replace h := ax_it c14 h
                  cases h
                  exact ax_Lsub [0, 1] rfl (KTw34 rfl)
            · replace h := ax_it c37 h
              refine ax_bk hK (ax_fc (ax_v_ld (ax_r_aload_n (i := 0) d_Z_acceptsHead_242 rfl)) (ax_fc (ax_v_pu (ax_r_bipush (v := 7) d_Z_acceptsHead_243 (by decide))) (ax_fc (ax_w_pf (tc := 0) hal d_Z_acceptsHead_245 fp_Z_168 rfl) ax_fn))) (y := (248, [(0, .inr (0, 38)), (1, .inl (.int (a1)))], [], ax_m (ax_wI s 0 38 7 (7 : Int32)) ρ)) rfl ⟨trivial, trivial, (h0 38 rfl), trivial⟩ ?_
              refine ax_lt (Q := fun ςς => ax_R G 3 0 0 (248, [(0, .inr (0, 38)), (1, .inl (.int (a1)))], [], ax_m (ςς) ρ)) h (fun s35 h => ?_)
              refine ax_bk hK (ax_fc (ax_v_ld (ax_r_iload_n (i := 1) d_Z_acceptsHead_248 rfl)) (ax_fc (ax_v_pu (ax_r_bipush (v := 43) d_Z_acceptsHead_249 (by decide))) ax_fn)) (y := (251, [(0, .inr (0, 38)), (1, .inl (.int (a1)))], [.inl (.int ((43 : Int32))), .inl (.int (a1))], ax_m (s35) ρ)) rfl ⟨trivial, trivial, trivial⟩ ?_
              refine ax_ic_ne (tgt := 258) hK d_Z_acceptsHead_251 (by decide) (fun c36 => ?_) (fun c36 => ?_)
              · replace h := ax_if c36 h
                refine ax_bk hK (ax_fc (ax_v_pu (ax_r_iconst (v := 0) d_Z_acceptsHead_258 (by decide))) ax_fn) (y := (259, [(0, .inr (0, 38)), (1, .inl (.int (a1)))], [.inl (.int ((0 : Int32)))], ax_m (s35) ρ)) rfl ⟨trivial, trivial⟩ ?_
                cases h
                exact ax_zret hA (by decide) d_Z_acceptsHead_259
              · replace h := ax_it c36 h
                refine ax_bk hK (ax_fc (ax_v_pu (ax_r_iconst (v := 1) d_Z_acceptsHead_254 (by decide))) (ax_fc (ax_v_go (tgt := 259) d_Z_acceptsHead_255 (by decide)) ax_fn)) (y := (259, [(0, .inr (0, 38)), (1, .inl (.int (a1)))], [.inl (.int ((1 : Int32)))], ax_m (s35) ρ)) rfl ⟨trivial, trivial, trivial⟩ ?_
                cases h
                exact ax_zret hA (by decide) d_Z_acceptsHead_259
          have KFw47 : w47 = false → ax_R G 3 0 0 (178, [(0, .inr (0, 38)), (1, .inl (.int (a1)))], [], ax_m (s) ρ) := by
            intro e9
            subst w47
            replace h := ax_cf h
            refine ax_bk hK (ax_fc (ax_v_ld (ax_r_aload_n (i := 0) d_Z_acceptsHead_178 rfl)) (ax_fc (ax_w_gf (e := none) hal d_Z_acceptsHead_179 fd_Z_27) (ax_fc (ax_v_pu (ax_r_bipush (v := 16) d_Z_acceptsHead_182 (by decide))) (ax_fc (ax_v_ld (ax_r_aload_n (i := 0) d_Z_acceptsHead_184 rfl)) (ax_fc (ax_w_gf (e := none) hal d_Z_acceptsHead_185 fd_Z_177) (ax_fc (ax_v_pu (ax_r_imul d_Z_acceptsHead_188)) (ax_fc (ax_v_pu (ax_r_bipush (v := 16) d_Z_acceptsHead_189 (by decide))) (ax_fc (ax_v_pu (ax_r_isub d_Z_acceptsHead_191)) (ax_fc (ax_v_ld (ax_r_aload_n (i := 0) d_Z_acceptsHead_192 rfl)) (ax_fc (ax_w_gf (e := none) hal d_Z_acceptsHead_193 fd_Z_254) (ax_fc (ax_v_pu (ax_r_iadd d_Z_acceptsHead_196)) (ax_fc (ax_v_pu (ax_r_bipush (v := 32) d_Z_acceptsHead_197 (by decide))) (ax_fc (ax_v_irem d_Z_acceptsHead_199) (ax_fc (ax_v_ld (ax_r_iload_n (i := 1) d_Z_acceptsHead_200 rfl)) ax_fn)))))))))))))) (y := (201, [(0, .inr (0, 38)), (1, .inl (.int (a1)))], [.inl (.int (a1)), .inl (.int ((((((16 : Int32) * (s.1 0 38 14)) - (16 : Int32)) + (s.1 0 38 15)) - ((((16 : Int32) * (s.1 0 38 14)) - (16 : Int32)) + (s.1 0 38 15)) / (32 : Int32) * (32 : Int32)))), .inr (0, 43)], ax_m (s) ρ)) rfl ⟨trivial, (h0 38 rfl), trivial, trivial, (h0 38 rfl), trivial, trivial, trivial, trivial, (h0 38 rfl), trivial, trivial, (by decide), trivial, trivial⟩ ?_
            obtain ⟨r38, q39, h⟩ := ax_bd h
            refine ax_bS (rest := [.inl (.int ((((((16 : Int32) * (s.1 0 38 14)) - (16 : Int32)) + (s.1 0 38 15)) - ((((16 : Int32) * (s.1 0 38 14)) - (16 : Int32)) + (s.1 0 38 15)) / (32 : Int32) * (32 : Int32)))), .inr (0, 43)]) hB (t_Z_hex q39) cw_Z_257 sm_Z_hex d_Z_acceptsHead_201 (by decide) (by decide) rfl rfl (Nat.le_of_ble_eq_true rfl) ?_
            change ax_R G 3 0 0 (204, [(0, .inr (0, 38)), (1, .inl (.int (a1)))], [.inl (.int (r38)), .inl (.int ((((((16 : Int32) * (s.1 0 38 14)) - (16 : Int32)) + (s.1 0 38 15)) - ((((16 : Int32) * (s.1 0 38 14)) - (16 : Int32)) + (s.1 0 38 15)) / (32 : Int32) * (32 : Int32)))), .inr (0, 43)], ax_m (s) ρ)
            obtain ⟨b40, h⟩ := ax_gd h
            refine ax_bk hK (ax_fc (ax_w_iast hal d_Z_acceptsHead_204) ax_fn) (y := (205, [(0, .inr (0, 38)), (1, .inl (.int (a1)))], [], ax_m (ax_wI s 0 43 ((((((16 : Int32) * (s.1 0 38 14)) - (16 : Int32)) + (s.1 0 38 15)) - ((((16 : Int32) * (s.1 0 38 14)) - (16 : Int32)) + (s.1 0 38 15)) / (32 : Int32) * (32 : Int32))).toNatClampNeg r38) ρ)) rfl ⟨⟨(h0 43 rfl), ax_inp b40⟩, trivial⟩ ?_
            refine ax_lt (Q := fun ςς => ax_R G 3 0 0 (205, [(0, .inr (0, 38)), (1, .inl (.int (a1)))], [], ax_m (ςς) ρ)) h (fun s41 h => ?_)
            refine ax_bk hK (ax_fc (ax_v_ld (ax_r_aload_n (i := 0) d_Z_acceptsHead_205 rfl)) (ax_fc (ax_v_pu (ax_r_dup d_Z_acceptsHead_206)) (ax_fc (ax_w_gf (e := none) hal d_Z_acceptsHead_207 fd_Z_254) (ax_fc (ax_v_pu (ax_r_iconst (v := 1) d_Z_acceptsHead_210 (by decide))) (ax_fc (ax_v_pu (ax_r_iadd d_Z_acceptsHead_211)) (ax_fc (ax_w_pf (tc := 0) hal d_Z_acceptsHead_212 fp_Z_254 rfl) ax_fn)))))) (y := (215, [(0, .inr (0, 38)), (1, .inl (.int (a1)))], [], ax_m (ax_wI s41 0 38 15 ((s41.1 0 38 15) + (1 : Int32))) ρ)) rfl ⟨trivial, trivial, (h0 38 rfl), trivial, trivial, (h0 38 rfl), trivial⟩ ?_
            refine ax_lt (Q := fun ςς => ax_R G 3 0 0 (215, [(0, .inr (0, 38)), (1, .inl (.int (a1)))], [], ax_m (ςς) ρ)) h (fun s42 h => ?_)
            refine ax_bk hK (ax_fc (ax_v_ld (ax_r_aload_n (i := 0) d_Z_acceptsHead_215 rfl)) (ax_fc (ax_v_pu (ax_r_iconst (v := 4) d_Z_acceptsHead_216 (by decide))) (ax_fc (ax_w_pf (tc := 0) hal d_Z_acceptsHead_217 fp_Z_168 rfl) ax_fn))) (y := (220, [(0, .inr (0, 38)), (1, .inl (.int (a1)))], [], ax_m (ax_wI s42 0 38 7 (4 : Int32)) ρ)) rfl ⟨trivial, trivial, (h0 38 rfl), trivial⟩ ?_
            refine ax_lt (Q := fun ςς => ax_R G 3 0 0 (220, [(0, .inr (0, 38)), (1, .inl (.int (a1)))], [], ax_m (ςς) ρ)) h (fun s43 h => ?_)
            refine ax_bk hK (ax_fc (ax_v_ld (ax_r_iload_n (i := 1) d_Z_acceptsHead_220 rfl)) ax_fn) (y := (221, [(0, .inr (0, 38)), (1, .inl (.int (a1)))], [.inl (.int (a1))], ax_m (s43) ρ)) rfl ⟨trivial, trivial⟩ ?_
            obtain ⟨r44, q45, h⟩ := ax_bd h
            refine ax_bS (rest := []) hB (t_Z_hex q45) cw_Z_257 sm_Z_hex d_Z_acceptsHead_221 (by decide) (by decide) rfl rfl (Nat.le_of_ble_eq_true rfl) ?_
            change ax_R G 3 0 0 (224, [(0, .inr (0, 38)), (1, .inl (.int (a1)))], [.inl (.int (r44))], ax_m (s43) ρ)
            refine ax_if_lt (tgt := 231) hK d_Z_acceptsHead_224 (by decide) (fun c46 => ?_) (fun c46 => ?_)
            · replace h := ax_it c46 h
              refine ax_bk hK (ax_fc (ax_v_pu (ax_r_iconst (v := 0) d_Z_acceptsHead_231 (by decide))) ax_fn) (y := (232, [(0, .inr (0, 38)), (1, .inl (.int (a1)))], [.inl (.int ((0 : Int32)))], ax_m (s43) ρ)) rfl ⟨trivial, trivial⟩ ?_
              cases h
              exact ax_zret hA (by decide) d_Z_acceptsHead_232
            · replace h := ax_if c46 h
              refine ax_bk hK (ax_fc (ax_v_pu (ax_r_iconst (v := 1) d_Z_acceptsHead_227 (by decide))) (ax_fc (ax_v_go (tgt := 232) d_Z_acceptsHead_228 (by decide)) ax_fn)) (y := (232, [(0, .inr (0, 38)), (1, .inl (.int (a1)))], [.inl (.int ((1 : Int32)))], ax_m (s43) ρ)) rfl ⟨trivial, trivial, trivial⟩ ?_
              cases h
              exact ax_zret hA (by decide) d_Z_acceptsHead_232
          clear h
          have h := hw47
          refine ax_ic_ne (tgt := 233) hK d_Z_acceptsHead_166 (by decide) (fun c13 => ?_) (fun c13 => ?_)
          · replace h := ax_if c13 h
            cases h
            exact ax_Lsub [0, 1] rfl (KTw47 rfl)
          · replace h := ax_it c13 h
            refine ax_bk hK (ax_fc (ax_v_ld (ax_r_aload_n (i := 0) d_Z_acceptsHead_169 rfl)) (ax_fc (ax_w_gf (e := none) hal d_Z_acceptsHead_170 fd_Z_254) (ax_fc (ax_v_pu (ax_r_bipush (v := 16) d_Z_acceptsHead_173 (by decide))) ax_fn))) (y := (175, [(0, .inr (0, 38)), (1, .inl (.int (a1)))], [.inl (.int ((16 : Int32))), .inl (.int ((s.1 0 38 15)))], ax_m (s) ρ)) rfl ⟨trivial, (h0 38 rfl), trivial, trivial⟩ ?_
            refine ax_ic_ge (tgt := 233) hK d_Z_acceptsHead_175 (by decide) (fun c12 => ?_) (fun c12 => ?_)
            · replace h := ax_it c12 h
              cases h
              exact ax_Lsub [0, 1] rfl (KTw47 rfl)
            · replace h := ax_if c12 h
              cases h
              exact ax_Lsub [0, 1] rfl (KFw47 rfl)
      have KFw50 : w50 = false → ax_R G 3 0 0 (146, [(0, .inr (0, 38))], [], ax_m (s) ρ) := by
        intro e9
        subst w50
        replace h := ax_cf h
        refine ax_bk hK (ax_fc (ax_v_ld (ax_r_aload_n (i := 0) d_Z_acceptsHead_146 rfl)) (ax_fc (ax_v_pu (ax_r_iconst (v := 5) d_Z_acceptsHead_147 (by decide))) (ax_fc (ax_w_pf (tc := 0) hal d_Z_acceptsHead_148 fp_Z_168 rfl) ax_fn))) (y := (151, [(0, .inr (0, 38))], [], ax_m (ax_wI s 0 38 7 (5 : Int32)) ρ)) rfl ⟨trivial, trivial, (h0 38 rfl), trivial⟩ ?_
        refine ax_lt (Q := fun ςς => ax_R G 3 0 0 (151, [(0, .inr (0, 38))], [], ax_m (ςς) ρ)) h (fun s49 h => ?_)
        refine ax_bk hK (ax_fc (ax_v_pu (ax_r_iconst (v := 1) d_Z_acceptsHead_151 (by decide))) ax_fn) (y := (152, [(0, .inr (0, 38))], [.inl (.int ((1 : Int32)))], ax_m (s49) ρ)) rfl ⟨trivial, trivial⟩ ?_
        cases h
        exact ax_zret hA (by decide) d_Z_acceptsHead_152
      clear h
      have h := hw50
      refine ax_ic_ne (tgt := 153) hK d_Z_acceptsHead_137 (by decide) (fun c2 => ?_) (fun c2 => ?_)
      · replace h := ax_if c2 h
        cases h
        exact ax_Lsub [0, 1] rfl (KTw50 rfl)
      · replace h := ax_it c2 h
        refine ax_bk hK (ax_fc (ax_v_ld (ax_r_iload_n (i := 1) d_Z_acceptsHead_140 rfl)) (ax_fc (ax_v_pu (ax_r_bipush (v := 42) d_Z_acceptsHead_141 (by decide))) ax_fn)) (y := (143, [(0, .inr (0, 38)), (1, .inl (.int (a1)))], [.inl (.int ((42 : Int32))), .inl (.int (a1))], ax_m (s) ρ)) rfl ⟨trivial, trivial, trivial⟩ ?_
        refine ax_ic_ne (tgt := 153) hK d_Z_acceptsHead_143 (by decide) (fun c1 => ?_) (fun c1 => ?_)
        · replace h := ax_if c1 h
          cases h
          exact ax_Lsub [0, 1] rfl (KTw50 rfl)
        · replace h := ax_it c1 h
          cases h
          exact ax_Lsub [0] rfl (KFw50 rfl)
    · replace h := ax_it c61 h
      refine ax_bk hK (ax_fc (ax_v_ld (ax_r_iload_n (i := 1) d_Z_acceptsHead_64 rfl)) (ax_fc (ax_v_pu (ax_r_bipush (v := 35) d_Z_acceptsHead_65 (by decide))) ax_fn)) (y := (67, [(0, .inr (0, 38)), (1, .inl (.int (a1)))], [.inl (.int ((35 : Int32))), .inl (.int (a1))], ax_m (s) ρ)) rfl ⟨trivial, trivial, trivial⟩ ?_
      obtain ⟨w60, hw60, h⟩ := ax_bd h
      have KTw60 : w60 = true → ax_R G 3 0 0 (114, [(0, .inr (0, 38)), (1, .inl (.int (a1)))], [], ax_m (s) ρ) := by
        intro e9
        subst w60
        replace h := ax_ct h
        refine ax_bk hK (ax_fc (ax_v_ld (ax_r_aload_n (i := 0) d_Z_acceptsHead_114 rfl)) (ax_fc (ax_v_pu (ax_r_bipush (v := 10) d_Z_acceptsHead_115 (by decide))) (ax_fc (ax_w_pf (tc := 0) hal d_Z_acceptsHead_117 fp_Z_168 rfl) ax_fn))) (y := (120, [(0, .inr (0, 38)), (1, .inl (.int (a1)))], [], ax_m (ax_wI s 0 38 7 (10 : Int32)) ρ)) rfl ⟨trivial, trivial, (h0 38 rfl), trivial⟩ ?_
        refine ax_lt (Q := fun ςς => ax_R G 3 0 0 (120, [(0, .inr (0, 38)), (1, .inl (.int (a1)))], [], ax_m (ςς) ρ)) h (fun s53 h => ?_)
        refine ax_bk hK (ax_fc (ax_v_ld (ax_r_iload_n (i := 1) d_Z_acceptsHead_120 rfl)) (ax_fc (ax_v_pu (ax_r_bipush (v := 123) d_Z_acceptsHead_121 (by decide))) ax_fn)) (y := (123, [(0, .inr (0, 38)), (1, .inl (.int (a1)))], [.inl (.int ((123 : Int32))), .inl (.int (a1))], ax_m (s53) ρ)) rfl ⟨trivial, trivial, trivial⟩ ?_
        refine ax_ic_ne (tgt := 130) hK d_Z_acceptsHead_123 (by decide) (fun c54 => ?_) (fun c54 => ?_)
        · replace h := ax_if c54 h
          refine ax_bk hK (ax_fc (ax_v_pu (ax_r_iconst (v := 0) d_Z_acceptsHead_130 (by decide))) ax_fn) (y := (131, [(0, .inr (0, 38)), (1, .inl (.int (a1)))], [.inl (.int ((0 : Int32)))], ax_m (s53) ρ)) rfl ⟨trivial, trivial⟩ ?_
          cases h
          exact ax_zret hA (by decide) d_Z_acceptsHead_131
        · replace h := ax_it c54 h
          refine ax_bk hK (ax_fc (ax_v_pu (ax_r_iconst (v := 1) d_Z_acceptsHead_126 (by decide))) (ax_fc (ax_v_go (tgt := 131) d_Z_acceptsHead_127 (by decide)) ax_fn)) (y := (131, [(0, .inr (0, 38)), (1, .inl (.int (a1)))], [.inl (.int ((1 : Int32)))], ax_m (s53) ρ)) rfl ⟨trivial, trivial, trivial⟩ ?_
          cases h
          exact ax_zret hA (by decide) d_Z_acceptsHead_131
      have KFw60 : w60 = false → ax_R G 3 0 0 (78, [(0, .inr (0, 38))], [], ax_m (s) ρ) := by
        intro e9
        subst w60
        replace h := ax_cf h
        refine ax_bk hK (ax_fc (ax_v_ld (ax_r_aload_n (i := 0) d_Z_acceptsHead_78 rfl)) (ax_fc (ax_v_pu (ax_r_dup d_Z_acceptsHead_79)) (ax_fc (ax_w_gf (e := none) hal d_Z_acceptsHead_80 fd_Z_177) (ax_fc (ax_v_pu (ax_r_iconst (v := 1) d_Z_acceptsHead_83 (by decide))) (ax_fc (ax_v_pu (ax_r_iadd d_Z_acceptsHead_84)) (ax_fc (ax_w_pf (tc := 0) hal d_Z_acceptsHead_85 fp_Z_177 rfl) ax_fn)))))) (y := (88, [(0, .inr (0, 38))], [], ax_m (ax_wI s 0 38 14 ((s.1 0 38 14) + (1 : Int32))) ρ)) rfl ⟨trivial, trivial, (h0 38 rfl), trivial, trivial, (h0 38 rfl), trivial⟩ ?_
        refine ax_lt (Q := fun ςς => ax_R G 3 0 0 (88, [(0, .inr (0, 38))], [], ax_m (ςς) ρ)) h (fun s55 h => ?_)
        refine ax_bk hK (ax_fc (ax_v_ld (ax_r_aload_n (i := 0) d_Z_acceptsHead_88 rfl)) (ax_fc (ax_v_pu (ax_r_iconst (v := 0) d_Z_acceptsHead_89 (by decide))) (ax_fc (ax_w_pf (tc := 0) hal d_Z_acceptsHead_90 fp_Z_254 rfl) ax_fn))) (y := (93, [(0, .inr (0, 38))], [], ax_m (ax_wI s55 0 38 15 (0 : Int32)) ρ)) rfl ⟨trivial, trivial, (h0 38 rfl), trivial⟩ ?_
        refine ax_lt (Q := fun ςς => ax_R G 3 0 0 (93, [(0, .inr (0, 38))], [], ax_m (ςς) ρ)) h (fun s56 h => ?_)
        obtain ⟨b57, h⟩ := ax_gd h
        refine ax_bk hK (ax_fc (ax_v_ld (ax_r_aload_n (i := 0) d_Z_acceptsHead_93 rfl)) (ax_fc (ax_w_gf (e := none) hal d_Z_acceptsHead_94 fd_Z_33) (ax_fc (ax_v_pu (ax_r_iconst (v := 2) d_Z_acceptsHead_97 (by decide))) (ax_fc (ax_v_ld (ax_r_aload_n (i := 0) d_Z_acceptsHead_98 rfl)) (ax_fc (ax_w_gf (e := none) hal d_Z_acceptsHead_99 fd_Z_177) (ax_fc (ax_v_pu (ax_r_imul d_Z_acceptsHead_102)) (ax_fc (ax_v_pu (ax_r_iconst (v := 2) d_Z_acceptsHead_103 (by decide))) (ax_fc (ax_v_pu (ax_r_isub d_Z_acceptsHead_104)) (ax_fc (ax_v_pu (ax_r_iconst (v := -1) d_Z_acceptsHead_105 (by decide))) (ax_fc (ax_w_iast hal d_Z_acceptsHead_106) ax_fn)))))))))) (y := (107, [(0, .inr (0, 38))], [], ax_m (ax_wI s56 0 45 ((((2 : Int32) * (s56.1 0 38 14)) - (2 : Int32))).toNatClampNeg (-1 : Int32)) ρ)) rfl ⟨trivial, (h0 38 rfl), trivial, trivial, (h0 38 rfl), trivial, trivial, trivial, trivial, ⟨(h0 45 rfl), ax_inp b57⟩, trivial⟩ ?_
        refine ax_lt (Q := fun ςς => ax_R G 3 0 0 (107, [(0, .inr (0, 38))], [], ax_m (ςς) ρ)) h (fun s58 h => ?_)
        refine ax_bk hK (ax_fc (ax_v_ld (ax_r_aload_n (i := 0) d_Z_acceptsHead_107 rfl)) (ax_fc (ax_v_pu (ax_r_iconst (v := 3) d_Z_acceptsHead_108 (by decide))) (ax_fc (ax_w_pf (tc := 0) hal d_Z_acceptsHead_109 fp_Z_168 rfl) ax_fn))) (y := (112, [(0, .inr (0, 38))], [], ax_m (ax_wI s58 0 38 7 (3 : Int32)) ρ)) rfl ⟨trivial, trivial, (h0 38 rfl), trivial⟩ ?_
        refine ax_lt (Q := fun ςς => ax_R G 3 0 0 (112, [(0, .inr (0, 38))], [], ax_m (ςς) ρ)) h (fun s59 h => ?_)
        refine ax_bk hK (ax_fc (ax_v_pu (ax_r_iconst (v := 1) d_Z_acceptsHead_112 (by decide))) ax_fn) (y := (113, [(0, .inr (0, 38))], [.inl (.int ((1 : Int32)))], ax_m (s59) ρ)) rfl ⟨trivial, trivial⟩ ?_
        cases h
        exact ax_zret hA (by decide) d_Z_acceptsHead_113
      clear h
      have h := hw60
      refine ax_ic_ne (tgt := 114) hK d_Z_acceptsHead_67 (by decide) (fun c52 => ?_) (fun c52 => ?_)
      · replace h := ax_if c52 h
        cases h
        exact ax_Lsub [0, 1] rfl (KTw60 rfl)
      · replace h := ax_it c52 h
        refine ax_bk hK (ax_fc (ax_v_ld (ax_r_aload_n (i := 0) d_Z_acceptsHead_70 rfl)) (ax_fc (ax_w_gf (e := none) hal d_Z_acceptsHead_71 fd_Z_177) (ax_fc (ax_v_pu (ax_r_iconst (v := 2) d_Z_acceptsHead_74 (by decide))) ax_fn))) (y := (75, [(0, .inr (0, 38)), (1, .inl (.int (a1)))], [.inl (.int ((2 : Int32))), .inl (.int ((s.1 0 38 14)))], ax_m (s) ρ)) rfl ⟨trivial, (h0 38 rfl), trivial, trivial⟩ ?_
        refine ax_ic_ge (tgt := 114) hK d_Z_acceptsHead_75 (by decide) (fun c51 => ?_) (fun c51 => ?_)
        · replace h := ax_it c51 h
          cases h
          exact ax_Lsub [0, 1] rfl (KTw60 rfl)
        · replace h := ax_if c51 h
          cases h
          exact ax_Lsub [0] rfl (KFw60 rfl)
  · replace h := ax_it c70 h
    refine ax_bk hK (ax_fc (ax_v_ld (ax_r_aload_n (i := 0) d_Z_acceptsHead_8 rfl)) (ax_fc (ax_w_gf (e := none) hal d_Z_acceptsHead_9 fd_Z_174) (ax_fc (ax_v_pu (ax_r_iconst (v := 3) d_Z_acceptsHead_12 (by decide))) ax_fn))) (y := (13, [(0, .inr (0, 38)), (1, .inl (.int (a1)))], [.inl (.int ((3 : Int32))), .inl (.int ((s.1 0 38 11)))], ax_m (s) ρ)) rfl ⟨trivial, (h0 38 rfl), trivial, trivial⟩ ?_
    obtain ⟨w76, hw76, h⟩ := ax_bd h
    have KEw76 : ∀ (v63 : Int32), w76 = v63 → ax_R G 3 0 0 (21, [(0, .inr (0, 38)), (1, .inl (.int (a1)))], [.inl (.int (v63))], ax_m (s) ρ) := by
      intro v63 e9
      subst w76
      try dsimp only at h
      refine ax_bk hK (ax_fc (ax_v_so (ax_r_istore_n (i := 2) d_Z_acceptsHead_21 rfl)) (ax_fc (ax_v_ld (ax_r_aload_n (i := 0) d_Z_acceptsHead_22 rfl)) (ax_fc (ax_v_ld (ax_r_iload_n (i := 2) d_Z_acceptsHead_23 rfl)) ax_fn))) (y := (24, [(2, .inl (.int (v63))), (0, .inr (0, 38)), (1, .inl (.int (a1)))], [.inl (.int (v63)), .inr (0, 38)], ax_m (s) ρ)) rfl ⟨trivial, trivial, trivial, trivial⟩ ?_
      obtain ⟨w77, hw77, h⟩ := ax_bd h
      have KEw77 : ∀ (v65 : Int32), w77 = v65 → ax_R G 3 0 0 (32, [(1, .inl (.int (a1))), (2, .inl (.int (v63)))], [.inl (.int (v65)), .inr (0, 38)], ax_m (s) ρ) := by
        intro v65 e9
        subst w77
        try dsimp only at h
        refine ax_bk hK (ax_fc (ax_w_pf (tc := 0) hal d_Z_acceptsHead_32 fp_Z_168 rfl) ax_fn) (y := (35, [(1, .inl (.int (a1))), (2, .inl (.int (v63)))], [], ax_m (ax_wI s 0 38 7 v65) ρ)) rfl ⟨(h0 38 rfl), trivial⟩ ?_
        refine ax_lt (Q := fun ςς => ax_R G 3 0 0 (35, [(1, .inl (.int (a1))), (2, .inl (.int (v63)))], [], ax_m (ςς) ρ)) h (fun s66 h => ?_)
        refine ax_bk hK (ax_fc (ax_v_ld (ax_r_iload_n (i := 1) d_Z_acceptsHead_35 rfl)) (ax_fc (ax_v_ld (ax_r_iload_n (i := 2) d_Z_acceptsHead_36 rfl)) ax_fn)) (y := (37, [(1, .inl (.int (a1))), (2, .inl (.int (v63)))], [.inl (.int (v63)), .inl (.int (a1))], ax_m (s66) ρ)) rfl ⟨trivial, trivial, trivial⟩ ?_
        obtain ⟨w78, hw78, h⟩ := ax_bd h
        have KEw78 : ∀ (v68 : Int32), w78 = v68 → ax_R G 3 0 0 (47, [], [.inl (.int (v68)), .inl (.int (a1))], ax_m (s66) ρ) := by
          intro v68 e9
          subst w78
          try dsimp only at h
          refine ax_ic_ne (tgt := 54) hK d_Z_acceptsHead_47 (by decide) (fun c69 => ?_) (fun c69 => ?_)
          · replace h := ax_if c69 h
            refine ax_bk hK (ax_fc (ax_v_pu (ax_r_iconst (v := 0) d_Z_acceptsHead_54 (by decide))) ax_fn) (y := (55, [], [.inl (.int ((0 : Int32)))], ax_m (s66) ρ)) rfl ⟨trivial, trivial⟩ ?_
            cases h
            exact ax_zret hA (by decide) d_Z_acceptsHead_55
          · replace h := ax_it c69 h
            refine ax_bk hK (ax_fc (ax_v_pu (ax_r_iconst (v := 1) d_Z_acceptsHead_50 (by decide))) (ax_fc (ax_v_go (tgt := 55) d_Z_acceptsHead_51 (by decide)) ax_fn)) (y := (55, [], [.inl (.int ((1 : Int32)))], ax_m (s66) ρ)) rfl ⟨trivial, trivial, trivial⟩ ?_
            cases h
            exact ax_zret hA (by decide) d_Z_acceptsHead_55
        clear h
        have h := hw78
        refine ax_if_eq (tgt := 45) hK d_Z_acceptsHead_37 (by decide) (fun c67 => ?_) (fun c67 => ?_)
        · replace h := ax_it c67 h
          refine ax_bk hK (ax_fc (ax_v_pu (ax_r_bipush (v := 58) d_Z_acceptsHead_45 (by decide))) ax_fn) (y := (47, [(1, .inl (.int (a1))), (2, .inl (.int (v63)))], [.inl (.int ((58 : Int32))), .inl (.int (a1))], ax_m (s66) ρ)) rfl ⟨trivial, trivial⟩ ?_
          cases h
          exact ax_Lsub [] rfl (KEw78 _ rfl)
        · replace h := ax_if c67 h
          refine ax_bk hK (ax_fc (ax_v_pu (ax_r_bipush (v := 59) d_Z_acceptsHead_40 (by decide))) (ax_fc (ax_v_go (tgt := 47) d_Z_acceptsHead_42 (by decide)) ax_fn)) (y := (47, [(1, .inl (.int (a1))), (2, .inl (.int (v63)))], [.inl (.int ((59 : Int32))), .inl (.int (a1))], ax_m (s66) ρ)) rfl ⟨trivial, trivial, trivial⟩ ?_
          cases h
          exact ax_Lsub [] rfl (KEw78 _ rfl)
      clear h
      have h := hw77
      refine ax_if_eq (tgt := 31) hK d_Z_acceptsHead_24 (by decide) (fun c64 => ?_) (fun c64 => ?_)
      · replace h := ax_it c64 h
        refine ax_bk hK (ax_fc (ax_v_pu (ax_r_iconst (v := 0) d_Z_acceptsHead_31 (by decide))) ax_fn) (y := (32, [(2, .inl (.int (v63))), (0, .inr (0, 38)), (1, .inl (.int (a1)))], [.inl (.int ((0 : Int32))), .inr (0, 38)], ax_m (s) ρ)) rfl ⟨trivial, trivial⟩ ?_
        cases h
        exact ax_Lsub [2, 0] rfl (KEw77 _ rfl)
      · replace h := ax_if c64 h
        refine ax_bk hK (ax_fc (ax_v_pu (ax_r_iconst (v := 2) d_Z_acceptsHead_27 (by decide))) (ax_fc (ax_v_go (tgt := 32) d_Z_acceptsHead_28 (by decide)) ax_fn)) (y := (32, [(2, .inl (.int (v63))), (0, .inr (0, 38)), (1, .inl (.int (a1)))], [.inl (.int ((2 : Int32))), .inr (0, 38)], ax_m (s) ρ)) rfl ⟨trivial, trivial, trivial⟩ ?_
        cases h
        exact ax_Lsub [2, 0] rfl (KEw77 _ rfl)
    clear h
    have h := hw76
    refine ax_ic_ne (tgt := 20) hK d_Z_acceptsHead_13 (by decide) (fun c62 => ?_) (fun c62 => ?_)
    · replace h := ax_if c62 h
      refine ax_bk hK (ax_fc (ax_v_pu (ax_r_iconst (v := 0) d_Z_acceptsHead_20 (by decide))) ax_fn) (y := (21, [(0, .inr (0, 38)), (1, .inl (.int (a1)))], [.inl (.int ((0 : Int32)))], ax_m (s) ρ)) rfl ⟨trivial, trivial⟩ ?_
      cases h
      exact ax_Lsub [0, 1] rfl (KEw76 _ rfl)
    · replace h := ax_it c62 h
      refine ax_bk hK (ax_fc (ax_v_pu (ax_r_iconst (v := 1) d_Z_acceptsHead_16 (by decide))) (ax_fc (ax_v_go (tgt := 21) d_Z_acceptsHead_17 (by decide)) ax_fn)) (y := (21, [(0, .inr (0, 38)), (1, .inl (.int (a1)))], [.inl (.int ((1 : Int32)))], ax_m (s) ρ)) rfl ⟨trivial, trivial, trivial⟩ ?_
      cases h
      exact ax_Lsub [0, 1] rfl (KEw76 _ rfl)
def y_Z_acceptsThing : MethodName := ⟨"CipherNotationModel", "acceptsThing", "(II)Z"⟩
theorem d_Z_acceptsThing_0 : decode prog_8_method_19_code 0 = .ok (.aload_n 0, 1) := by decide +kernel
theorem d_Z_acceptsThing_1 : decode prog_8_method_19_code 1 = .ok (.getfield (168), 3) := by decide +kernel
theorem d_Z_acceptsThing_4 : decode prog_8_method_19_code 4 = .ok (.bipush (12), 2) := by decide +kernel
theorem d_Z_acceptsThing_6 : decode prog_8_method_19_code 6 = .ok (.if_icmp .ne (21), 3) := by decide +kernel
theorem d_Z_acceptsThing_9 : decode prog_8_method_19_code 9 = .ok (.aload_n 0, 1) := by decide +kernel
theorem d_Z_acceptsThing_10 : decode prog_8_method_19_code 10 = .ok (.bipush (10), 2) := by decide +kernel
theorem d_Z_acceptsThing_12 : decode prog_8_method_19_code 12 = .ok (.putfield (168), 3) := by decide +kernel
theorem d_Z_acceptsThing_15 : decode prog_8_method_19_code 15 = .ok (.iload_n 1, 1) := by decide +kernel
theorem d_Z_acceptsThing_16 : decode prog_8_method_19_code 16 = .ok (.bipush (91), 2) := by decide +kernel
theorem d_Z_acceptsThing_18 : decode prog_8_method_19_code 18 = .ok (.if_icmp .ne (7), 3) := by decide +kernel
theorem d_Z_acceptsThing_21 : decode prog_8_method_19_code 21 = .ok (.iconst 1, 1) := by decide +kernel
theorem d_Z_acceptsThing_22 : decode prog_8_method_19_code 22 = .ok (.goto (4), 3) := by decide +kernel
theorem d_Z_acceptsThing_25 : decode prog_8_method_19_code 25 = .ok (.iconst 0, 1) := by decide +kernel
theorem d_Z_acceptsThing_26 : decode prog_8_method_19_code 26 = .ok (.ireturn, 1) := by decide +kernel
theorem d_Z_acceptsThing_27 : decode prog_8_method_19_code 27 = .ok (.aload_n 0, 1) := by decide +kernel
theorem d_Z_acceptsThing_28 : decode prog_8_method_19_code 28 = .ok (.getfield (168), 3) := by decide +kernel
theorem d_Z_acceptsThing_31 : decode prog_8_method_19_code 31 = .ok (.bipush (10), 2) := by decide +kernel
theorem d_Z_acceptsThing_33 : decode prog_8_method_19_code 33 = .ok (.if_icmp .eq (5), 3) := by decide +kernel
theorem d_Z_acceptsThing_36 : decode prog_8_method_19_code 36 = .ok (.iconst 0, 1) := by decide +kernel
theorem d_Z_acceptsThing_37 : decode prog_8_method_19_code 37 = .ok (.ireturn, 1) := by decide +kernel
theorem d_Z_acceptsThing_38 : decode prog_8_method_19_code 38 = .ok (.iload_n 1, 1) := by decide +kernel
theorem d_Z_acceptsThing_39 : decode prog_8_method_19_code 39 = .ok (.bipush (62), 2) := by decide +kernel
theorem d_Z_acceptsThing_41 : decode prog_8_method_19_code 41 = .ok (.if_icmp .ne (24), 3) := by decide +kernel
theorem d_Z_acceptsThing_44 : decode prog_8_method_19_code 44 = .ok (.aload_n 0, 1) := by decide +kernel
theorem d_Z_acceptsThing_45 : decode prog_8_method_19_code 45 = .ok (.getfield (180), 3) := by decide +kernel
theorem d_Z_acceptsThing_48 : decode prog_8_method_19_code 48 = .ok (.ifCond .ne (17), 3) := by decide +kernel
theorem d_Z_acceptsThing_51 : decode prog_8_method_19_code 51 = .ok (.aload_n 0, 1) := by decide +kernel
theorem d_Z_acceptsThing_52 : decode prog_8_method_19_code 52 = .ok (.iconst 1, 1) := by decide +kernel
theorem d_Z_acceptsThing_53 : decode prog_8_method_19_code 53 = .ok (.iload_n 2, 1) := by decide +kernel
theorem d_Z_acceptsThing_54 : decode prog_8_method_19_code 54 = .ok (.invokevirtual (266), 3) := by decide +kernel
theorem d_Z_acceptsThing_57 : decode prog_8_method_19_code 57 = .ok (.aload_n 0, 1) := by decide +kernel
theorem d_Z_acceptsThing_58 : decode prog_8_method_19_code 58 = .ok (.bipush (20), 2) := by decide +kernel
theorem d_Z_acceptsThing_60 : decode prog_8_method_19_code 60 = .ok (.putfield (168), 3) := by decide +kernel
theorem d_Z_acceptsThing_63 : decode prog_8_method_19_code 63 = .ok (.iconst 1, 1) := by decide +kernel
theorem d_Z_acceptsThing_64 : decode prog_8_method_19_code 64 = .ok (.ireturn, 1) := by decide +kernel
theorem d_Z_acceptsThing_65 : decode prog_8_method_19_code 65 = .ok (.iload_n 1, 1) := by decide +kernel
theorem d_Z_acceptsThing_66 : decode prog_8_method_19_code 66 = .ok (.invokestatic (269), 3) := by decide +kernel
theorem d_Z_acceptsThing_69 : decode prog_8_method_19_code 69 = .ok (.ifCond .eq (63), 3) := by decide +kernel
theorem d_Z_acceptsThing_72 : decode prog_8_method_19_code 72 = .ok (.aload_n 0, 1) := by decide +kernel
theorem d_Z_acceptsThing_73 : decode prog_8_method_19_code 73 = .ok (.getfield (183), 3) := by decide +kernel
theorem d_Z_acceptsThing_76 : decode prog_8_method_19_code 76 = .ok (.iconst 2, 1) := by decide +kernel
theorem d_Z_acceptsThing_77 : decode prog_8_method_19_code 77 = .ok (.if_icmp .ge (55), 3) := by decide +kernel
theorem d_Z_acceptsThing_80 : decode prog_8_method_19_code 80 = .ok (.aload_n 0, 1) := by decide +kernel
theorem d_Z_acceptsThing_81 : decode prog_8_method_19_code 81 = .ok (.getfield (36), 3) := by decide +kernel
theorem d_Z_acceptsThing_84 : decode prog_8_method_19_code 84 = .ok (.aload_n 0, 1) := by decide +kernel
theorem d_Z_acceptsThing_85 : decode prog_8_method_19_code 85 = .ok (.getfield (183), 3) := by decide +kernel
theorem d_Z_acceptsThing_88 : decode prog_8_method_19_code 88 = .ok (.aload_n 0, 1) := by decide +kernel
theorem d_Z_acceptsThing_89 : decode prog_8_method_19_code 89 = .ok (.getfield (186), 3) := by decide +kernel
theorem d_Z_acceptsThing_92 : decode prog_8_method_19_code 92 = .ok (.iastore, 1) := by decide +kernel
theorem d_Z_acceptsThing_93 : decode prog_8_method_19_code 93 = .ok (.aload_n 0, 1) := by decide +kernel
theorem d_Z_acceptsThing_94 : decode prog_8_method_19_code 94 = .ok (.dup, 1) := by decide +kernel
theorem d_Z_acceptsThing_95 : decode prog_8_method_19_code 95 = .ok (.getfield (183), 3) := by decide +kernel
theorem d_Z_acceptsThing_98 : decode prog_8_method_19_code 98 = .ok (.iconst 1, 1) := by decide +kernel
theorem d_Z_acceptsThing_99 : decode prog_8_method_19_code 99 = .ok (.iadd, 1) := by decide +kernel
theorem d_Z_acceptsThing_100 : decode prog_8_method_19_code 100 = .ok (.putfield (183), 3) := by decide +kernel
theorem d_Z_acceptsThing_103 : decode prog_8_method_19_code 103 = .ok (.aload_n 0, 1) := by decide +kernel
theorem d_Z_acceptsThing_104 : decode prog_8_method_19_code 104 = .ok (.iconst 2, 1) := by decide +kernel
theorem d_Z_acceptsThing_105 : decode prog_8_method_19_code 105 = .ok (.iload_n 2, 1) := by decide +kernel
theorem d_Z_acceptsThing_106 : decode prog_8_method_19_code 106 = .ok (.invokevirtual (266), 3) := by decide +kernel
theorem d_Z_acceptsThing_109 : decode prog_8_method_19_code 109 = .ok (.aload_n 0, 1) := by decide +kernel
theorem d_Z_acceptsThing_110 : decode prog_8_method_19_code 110 = .ok (.getfield (45), 3) := by decide +kernel
theorem d_Z_acceptsThing_113 : decode prog_8_method_19_code 113 = .ok (.aload_n 0, 1) := by decide +kernel
theorem d_Z_acceptsThing_114 : decode prog_8_method_19_code 114 = .ok (.getfield (186), 3) := by decide +kernel
theorem d_Z_acceptsThing_117 : decode prog_8_method_19_code 117 = .ok (.iconst 1, 1) := by decide +kernel
theorem d_Z_acceptsThing_118 : decode prog_8_method_19_code 118 = .ok (.isub, 1) := by decide +kernel
theorem d_Z_acceptsThing_119 : decode prog_8_method_19_code 119 = .ok (.iload_n 1, 1) := by decide +kernel
theorem d_Z_acceptsThing_120 : decode prog_8_method_19_code 120 = .ok (.bipush (105), 2) := by decide +kernel
theorem d_Z_acceptsThing_122 : decode prog_8_method_19_code 122 = .ok (.isub, 1) := by decide +kernel
theorem d_Z_acceptsThing_123 : decode prog_8_method_19_code 123 = .ok (.iastore, 1) := by decide +kernel
theorem d_Z_acceptsThing_124 : decode prog_8_method_19_code 124 = .ok (.aload_n 0, 1) := by decide +kernel
theorem d_Z_acceptsThing_125 : decode prog_8_method_19_code 125 = .ok (.bipush (11), 2) := by decide +kernel
theorem d_Z_acceptsThing_127 : decode prog_8_method_19_code 127 = .ok (.putfield (168), 3) := by decide +kernel
theorem d_Z_acceptsThing_130 : decode prog_8_method_19_code 130 = .ok (.iconst 1, 1) := by decide +kernel
theorem d_Z_acceptsThing_131 : decode prog_8_method_19_code 131 = .ok (.ireturn, 1) := by decide +kernel
theorem d_Z_acceptsThing_132 : decode prog_8_method_19_code 132 = .ok (.iload_n 1, 1) := by decide +kernel
theorem d_Z_acceptsThing_133 : decode prog_8_method_19_code 133 = .ok (.bipush (93), 2) := by decide +kernel
theorem d_Z_acceptsThing_135 : decode prog_8_method_19_code 135 = .ok (.if_icmp .ne (64), 3) := by decide +kernel
theorem d_Z_acceptsThing_138 : decode prog_8_method_19_code 138 = .ok (.aload_n 0, 1) := by decide +kernel
theorem d_Z_acceptsThing_139 : decode prog_8_method_19_code 139 = .ok (.getfield (183), 3) := by decide +kernel
theorem d_Z_acceptsThing_142 : decode prog_8_method_19_code 142 = .ok (.ifCond .le (57), 3) := by decide +kernel
theorem d_Z_acceptsThing_145 : decode prog_8_method_19_code 145 = .ok (.aload_n 0, 1) := by decide +kernel
theorem d_Z_acceptsThing_146 : decode prog_8_method_19_code 146 = .ok (.dup, 1) := by decide +kernel
theorem d_Z_acceptsThing_147 : decode prog_8_method_19_code 147 = .ok (.getfield (183), 3) := by decide +kernel
theorem d_Z_acceptsThing_150 : decode prog_8_method_19_code 150 = .ok (.iconst 1, 1) := by decide +kernel
theorem d_Z_acceptsThing_151 : decode prog_8_method_19_code 151 = .ok (.isub, 1) := by decide +kernel
theorem d_Z_acceptsThing_152 : decode prog_8_method_19_code 152 = .ok (.putfield (183), 3) := by decide +kernel
theorem d_Z_acceptsThing_155 : decode prog_8_method_19_code 155 = .ok (.aload_n 0, 1) := by decide +kernel
theorem d_Z_acceptsThing_156 : decode prog_8_method_19_code 156 = .ok (.getfield (48), 3) := by decide +kernel
theorem d_Z_acceptsThing_159 : decode prog_8_method_19_code 159 = .ok (.aload_n 0, 1) := by decide +kernel
theorem d_Z_acceptsThing_160 : decode prog_8_method_19_code 160 = .ok (.getfield (36), 3) := by decide +kernel
theorem d_Z_acceptsThing_163 : decode prog_8_method_19_code 163 = .ok (.aload_n 0, 1) := by decide +kernel
theorem d_Z_acceptsThing_164 : decode prog_8_method_19_code 164 = .ok (.getfield (183), 3) := by decide +kernel
theorem d_Z_acceptsThing_167 : decode prog_8_method_19_code 167 = .ok (.iaload, 1) := by decide +kernel
theorem d_Z_acceptsThing_168 : decode prog_8_method_19_code 168 = .ok (.aload_n 0, 1) := by decide +kernel
theorem d_Z_acceptsThing_169 : decode prog_8_method_19_code 169 = .ok (.getfield (186), 3) := by decide +kernel
theorem d_Z_acceptsThing_172 : decode prog_8_method_19_code 172 = .ok (.iastore, 1) := by decide +kernel
theorem d_Z_acceptsThing_173 : decode prog_8_method_19_code 173 = .ok (.aload_n 0, 1) := by decide +kernel
theorem d_Z_acceptsThing_174 : decode prog_8_method_19_code 174 = .ok (.getfield (48), 3) := by decide +kernel
theorem d_Z_acceptsThing_177 : decode prog_8_method_19_code 177 = .ok (.aload_n 0, 1) := by decide +kernel
theorem d_Z_acceptsThing_178 : decode prog_8_method_19_code 178 = .ok (.getfield (186), 3) := by decide +kernel
theorem d_Z_acceptsThing_181 : decode prog_8_method_19_code 181 = .ok (.aload_n 0, 1) := by decide +kernel
theorem d_Z_acceptsThing_182 : decode prog_8_method_19_code 182 = .ok (.getfield (36), 3) := by decide +kernel
theorem d_Z_acceptsThing_185 : decode prog_8_method_19_code 185 = .ok (.aload_n 0, 1) := by decide +kernel
theorem d_Z_acceptsThing_186 : decode prog_8_method_19_code 186 = .ok (.getfield (183), 3) := by decide +kernel
theorem d_Z_acceptsThing_189 : decode prog_8_method_19_code 189 = .ok (.iaload, 1) := by decide +kernel
theorem d_Z_acceptsThing_190 : decode prog_8_method_19_code 190 = .ok (.iastore, 1) := by decide +kernel
theorem d_Z_acceptsThing_191 : decode prog_8_method_19_code 191 = .ok (.aload_n 0, 1) := by decide +kernel
theorem d_Z_acceptsThing_192 : decode prog_8_method_19_code 192 = .ok (.iconst 3, 1) := by decide +kernel
theorem d_Z_acceptsThing_193 : decode prog_8_method_19_code 193 = .ok (.iload_n 2, 1) := by decide +kernel
theorem d_Z_acceptsThing_194 : decode prog_8_method_19_code 194 = .ok (.invokevirtual (266), 3) := by decide +kernel
theorem d_Z_acceptsThing_197 : decode prog_8_method_19_code 197 = .ok (.iconst 1, 1) := by decide +kernel
theorem d_Z_acceptsThing_198 : decode prog_8_method_19_code 198 = .ok (.ireturn, 1) := by decide +kernel
theorem d_Z_acceptsThing_199 : decode prog_8_method_19_code 199 = .ok (.iload_n 1, 1) := by decide +kernel
theorem d_Z_acceptsThing_200 : decode prog_8_method_19_code 200 = .ok (.bipush (125), 2) := by decide +kernel
theorem d_Z_acceptsThing_202 : decode prog_8_method_19_code 202 = .ok (.if_icmp .ne (52), 3) := by decide +kernel
theorem d_Z_acceptsThing_205 : decode prog_8_method_19_code 205 = .ok (.aload_n 0, 1) := by decide +kernel
theorem d_Z_acceptsThing_206 : decode prog_8_method_19_code 206 = .ok (.getfield (183), 3) := by decide +kernel
theorem d_Z_acceptsThing_209 : decode prog_8_method_19_code 209 = .ok (.ifCond .ne (45), 3) := by decide +kernel
theorem d_Z_acceptsThing_212 : decode prog_8_method_19_code 212 = .ok (.aload_n 0, 1) := by decide +kernel
theorem d_Z_acceptsThing_213 : decode prog_8_method_19_code 213 = .ok (.aload_n 0, 1) := by decide +kernel
theorem d_Z_acceptsThing_214 : decode prog_8_method_19_code 214 = .ok (.getfield (180), 3) := by decide +kernel
theorem d_Z_acceptsThing_217 : decode prog_8_method_19_code 217 = .ok (.ifCond .ne (8), 3) := by decide +kernel
theorem d_Z_acceptsThing_220 : decode prog_8_method_19_code 220 = .ok (.bipush (50), 2) := by decide +kernel
theorem d_Z_acceptsThing_222 : decode prog_8_method_19_code 222 = .ok (.goto (5), 3) := by decide +kernel
theorem d_Z_acceptsThing_225 : decode prog_8_method_19_code 225 = .ok (.bipush (60), 2) := by decide +kernel
theorem d_Z_acceptsThing_227 : decode prog_8_method_19_code 227 = .ok (.putfield (168), 3) := by decide +kernel
theorem d_Z_acceptsThing_230 : decode prog_8_method_19_code 230 = .ok (.aload_n 0, 1) := by decide +kernel
theorem d_Z_acceptsThing_231 : decode prog_8_method_19_code 231 = .ok (.aload_n 0, 1) := by decide +kernel
theorem d_Z_acceptsThing_232 : decode prog_8_method_19_code 232 = .ok (.getfield (180), 3) := by decide +kernel
theorem d_Z_acceptsThing_235 : decode prog_8_method_19_code 235 = .ok (.ifCond .ne (10), 3) := by decide +kernel
theorem d_Z_acceptsThing_238 : decode prog_8_method_19_code 238 = .ok (.aload_n 0, 1) := by decide +kernel
theorem d_Z_acceptsThing_239 : decode prog_8_method_19_code 239 = .ok (.getfield (186), 3) := by decide +kernel
theorem d_Z_acceptsThing_242 : decode prog_8_method_19_code 242 = .ok (.goto (7), 3) := by decide +kernel
theorem d_Z_acceptsThing_245 : decode prog_8_method_19_code 245 = .ok (.aload_n 0, 1) := by decide +kernel
theorem d_Z_acceptsThing_246 : decode prog_8_method_19_code 246 = .ok (.getfield (189), 3) := by decide +kernel
theorem d_Z_acceptsThing_249 : decode prog_8_method_19_code 249 = .ok (.putfield (189), 3) := by decide +kernel
theorem d_Z_acceptsThing_252 : decode prog_8_method_19_code 252 = .ok (.iconst 1, 1) := by decide +kernel
theorem d_Z_acceptsThing_253 : decode prog_8_method_19_code 253 = .ok (.ireturn, 1) := by decide +kernel
theorem d_Z_acceptsThing_254 : decode prog_8_method_19_code 254 = .ok (.iload_n 1, 1) := by decide +kernel
theorem d_Z_acceptsThing_255 : decode prog_8_method_19_code 255 = .ok (.invokestatic (272), 3) := by decide +kernel
theorem d_Z_acceptsThing_258 : decode prog_8_method_19_code 258 = .ok (.ifCond .eq (40), 3) := by decide +kernel
theorem d_Z_acceptsThing_261 : decode prog_8_method_19_code 261 = .ok (.aload_n 0, 1) := by decide +kernel
theorem d_Z_acceptsThing_262 : decode prog_8_method_19_code 262 = .ok (.getfield (180), 3) := by decide +kernel
theorem d_Z_acceptsThing_265 : decode prog_8_method_19_code 265 = .ok (.iconst 1, 1) := by decide +kernel
theorem d_Z_acceptsThing_266 : decode prog_8_method_19_code 266 = .ok (.if_icmp .ne (32), 3) := by decide +kernel
theorem d_Z_acceptsThing_269 : decode prog_8_method_19_code 269 = .ok (.aload_n 0, 1) := by decide +kernel
theorem d_Z_acceptsThing_270 : decode prog_8_method_19_code 270 = .ok (.iconst 0, 1) := by decide +kernel
theorem d_Z_acceptsThing_271 : decode prog_8_method_19_code 271 = .ok (.iload_n 2, 1) := by decide +kernel
theorem d_Z_acceptsThing_272 : decode prog_8_method_19_code 272 = .ok (.invokevirtual (266), 3) := by decide +kernel
theorem d_Z_acceptsThing_275 : decode prog_8_method_19_code 275 = .ok (.aload_n 0, 1) := by decide +kernel
theorem d_Z_acceptsThing_276 : decode prog_8_method_19_code 276 = .ok (.getfield (45), 3) := by decide +kernel
theorem d_Z_acceptsThing_279 : decode prog_8_method_19_code 279 = .ok (.aload_n 0, 1) := by decide +kernel
theorem d_Z_acceptsThing_280 : decode prog_8_method_19_code 280 = .ok (.getfield (186), 3) := by decide +kernel
theorem d_Z_acceptsThing_283 : decode prog_8_method_19_code 283 = .ok (.iconst 1, 1) := by decide +kernel
theorem d_Z_acceptsThing_284 : decode prog_8_method_19_code 284 = .ok (.isub, 1) := by decide +kernel
theorem d_Z_acceptsThing_285 : decode prog_8_method_19_code 285 = .ok (.iload_n 1, 1) := by decide +kernel
theorem d_Z_acceptsThing_286 : decode prog_8_method_19_code 286 = .ok (.bipush (65), 2) := by decide +kernel
theorem d_Z_acceptsThing_288 : decode prog_8_method_19_code 288 = .ok (.isub, 1) := by decide +kernel
theorem d_Z_acceptsThing_289 : decode prog_8_method_19_code 289 = .ok (.iastore, 1) := by decide +kernel
theorem d_Z_acceptsThing_290 : decode prog_8_method_19_code 290 = .ok (.aload_n 0, 1) := by decide +kernel
theorem d_Z_acceptsThing_291 : decode prog_8_method_19_code 291 = .ok (.bipush (40), 2) := by decide +kernel
theorem d_Z_acceptsThing_293 : decode prog_8_method_19_code 293 = .ok (.putfield (168), 3) := by decide +kernel
theorem d_Z_acceptsThing_296 : decode prog_8_method_19_code 296 = .ok (.iconst 1, 1) := by decide +kernel
theorem d_Z_acceptsThing_297 : decode prog_8_method_19_code 297 = .ok (.ireturn, 1) := by decide +kernel
theorem d_Z_acceptsThing_298 : decode prog_8_method_19_code 298 = .ok (.iconst 0, 1) := by decide +kernel
theorem d_Z_acceptsThing_299 : decode prog_8_method_19_code 299 = .ok (.ireturn, 1) := by decide +kernel
set_option maxRecDepth 100000 in
theorem cw_Z_269 : ax_cw "CipherNotationModel" 269 y_Z_isLetter (.code y_Z_isLetter prog_8_method_8_code 1 (some .boolean)) 1 := ⟨nw_5 201 (by decide +kernel) rfl, nw_1 7 (by decide +kernel) rfl, nw_5 203 rfl rfl, by decide +kernel, by decide +kernel⟩
theorem sm_Z_isLetter : Cond.static y_Z_isLetter ∈ ax_tbl := nw_5 202 (by decide +kernel) rfl
set_option maxRecDepth 100000 in
theorem cw_Z_272 : ax_cw "CipherNotationModel" 272 y_Z_isState (.code y_Z_isState prog_8_method_7_code 1 (some .boolean)) 1 := ⟨nw_5 204 (by decide +kernel) rfl, nw_1 7 (by decide +kernel) rfl, nw_5 206 rfl rfl, by decide +kernel, by decide +kernel⟩
theorem sm_Z_isState : Cond.static y_Z_isState ∈ ax_tbl := nw_5 205 (by decide +kernel) rfl
set_option maxRecDepth 100000 in
theorem cw_Z_266 : ax_cw "CipherNotationModel" 266 y_Z_begin (.code y_Z_begin prog_8_method_18_code 3 none) 2 := ⟨nw_5 197 (by decide +kernel) rfl, nw_1 7 (by decide +kernel) rfl, nw_5 200 rfl rfl, by decide +kernel, by decide +kernel⟩
theorem im_Z_begin : Cond.instanceMethod y_Z_begin ∈ ax_tbl := nw_5 199 (by decide +kernel) rfl
theorem se_Z_begin : Cond.selects y_Z_begin.cls y_Z_begin y_Z_begin ∈ ax_tbl := nw_sel 57 (by decide +kernel) (by decide +kernel)
theorem fd_Z_45 : ax_fd "CipherNotationModel" 45 6 26 := ⟨nC6, nT6, 73, nY6, rfl, nW6, by decide, nw_4 163 (by decide +kernel) rfl, nO6, nA6⟩
theorem fd_Z_189 : ax_fd "CipherNotationModel" 189 6 23 := ⟨nC6, nT6, 73, nY6, rfl, nW6, by decide, nw_4 160 (by decide +kernel) rfl, nO6, nA6⟩
theorem fd_Z_183 : ax_fd "CipherNotationModel" 183 6 20 := ⟨nC6, nT6, 73, nY6, rfl, nW6, by decide, nw_4 157 (by decide +kernel) rfl, nO6, nA6⟩
theorem fd_Z_48 : ax_fd "CipherNotationModel" 48 6 27 := ⟨nC6, nT6, 73, nY6, rfl, nW6, by decide, nw_4 164 (by decide +kernel) rfl, nO6, nA6⟩
theorem fd_Z_36 : ax_fd "CipherNotationModel" 36 6 21 := ⟨nC6, nT6, 73, nY6, rfl, nW6, by decide, nw_4 158 (by decide +kernel) rfl, nO6, nA6⟩
def f_Z_acceptsThing (a1 : Int32) (a2 : Int32) (s : ax_σ) : Option (Int32 × ax_σ) :=
  if (s.1 0 38 7) = (12 : Int32) then
    ax_let (ax_wI s 0 38 7 (10 : Int32)) (fun s52 =>
      if a1 = (91 : Int32) then
        some (((1 : Int32), s52))
      else
        some (((0 : Int32), s52)))
  else
    if (s.1 0 38 7) = (10 : Int32) then
      Option.bind (
        if a1 = (62 : Int32) then
          if (s.1 0 38 19) = (0 : Int32) then
            some false
          else
            some true
        else
          some true) (fun w50 => bif w50 then
        Option.bind (f_Z_isLetter a1) (fun r3 =>
          Option.bind (
            if r3 = (0 : Int32) then
              some true
            else
              if (2 : Int32) ≤ (s.1 0 38 20) then
                some true
              else
                some false) (fun w46 => bif w46 then
            Option.bind (
              if a1 = (93 : Int32) then
                if (s.1 0 38 20) ≤ (0 : Int32) then
                  some true
                else
                  some false
              else
                some true) (fun w37 => bif w37 then
              Option.bind (
                if a1 = (125 : Int32) then
                  if (s.1 0 38 20) = (0 : Int32) then
                    some false
                  else
                    some true
                else
                  some true) (fun w27 => bif w27 then
                Option.bind (f_Z_isState a1) (fun r11 =>
                  Option.bind (
                    if r11 = (0 : Int32) then
                      some true
                    else
                      if (s.1 0 38 19) = (1 : Int32) then
                        some false
                      else
                        some true) (fun w20 => bif w20 then
                    some (((0 : Int32), s))
                  else
                    Option.bind (f_Z_begin (0 : Int32) a2 s) (fun s15 =>
                      bif ax_in ((s15.1 0 38 22) - (1 : Int32)) 240 then
                      ax_let (ax_wI s15 0 49 (((s15.1 0 38 22) - (1 : Int32))).toNatClampNeg (a1 - (65 : Int32))) (fun s18 =>
                        ax_let (ax_wI s18 0 38 7 (40 : Int32)) (fun s19 =>
                          some (((1 : Int32), s19))))
                      else none)))
              else
                Option.bind (
                  if (s.1 0 38 19) = (0 : Int32) then
                    some (50 : Int32)
                  else
                    some (60 : Int32)) (fun v22 =>
                  ax_let (ax_wI s 0 38 7 v22) (fun s23 =>
                    Option.bind (
                      if (s23.1 0 38 19) = (0 : Int32) then
                        some (s23.1 0 38 22)
                      else
                        some (s23.1 0 38 23)) (fun v25 =>
                      ax_let (ax_wI s23 0 38 23 v25) (fun s26 =>
                        some (((1 : Int32), s26)))))))
            else
              ax_let (ax_wI s 0 38 20 ((s.1 0 38 20) - (1 : Int32))) (fun s28 =>
                bif ax_in (s28.1 0 38 20) 2 then
                bif ax_in (s28.1 0 46 ((s28.1 0 38 20)).toNatClampNeg) 240 then
                ax_let (ax_wI s28 0 50 ((s28.1 0 46 ((s28.1 0 38 20)).toNatClampNeg)).toNatClampNeg (s28.1 0 38 22)) (fun s31 =>
                  bif ax_in (s31.1 0 38 20) 2 then
                  bif ax_in (s31.1 0 38 22) 240 then
                  ax_let (ax_wI s31 0 50 ((s31.1 0 38 22)).toNatClampNeg (s31.1 0 46 ((s31.1 0 38 20)).toNatClampNeg)) (fun s34 =>
                    Option.bind (f_Z_begin (3 : Int32) a2 s34) (fun s35 =>
                      some (((1 : Int32), s35))))
                  else none
                  else none)
                else none
                else none))
          else
            bif ax_in (s.1 0 38 20) 2 then
            ax_let (ax_wI s 0 46 ((s.1 0 38 20)).toNatClampNeg (s.1 0 38 22)) (fun s39 =>
              ax_let (ax_wI s39 0 38 20 ((s39.1 0 38 20) + (1 : Int32))) (fun s40 =>
                Option.bind (f_Z_begin (2 : Int32) a2 s40) (fun s41 =>
                  bif ax_in ((s41.1 0 38 22) - (1 : Int32)) 240 then
                  ax_let (ax_wI s41 0 49 (((s41.1 0 38 22) - (1 : Int32))).toNatClampNeg (a1 - (105 : Int32))) (fun s44 =>
                    ax_let (ax_wI s44 0 38 7 (11 : Int32)) (fun s45 =>
                      some (((1 : Int32), s45))))
                  else none)))
            else none))
      else
        Option.bind (f_Z_begin (1 : Int32) a2 s) (fun s47 =>
          ax_let (ax_wI s47 0 38 7 (20 : Int32)) (fun s49 =>
            some (((1 : Int32), s49)))))
    else
      some (((0 : Int32), s))
set_option maxHeartbeats 4000000 in
set_option maxRecDepth 100000 in
theorem t_Z_acceptsThing {l : Launch} {D : va_G} {cA : Nat → ClassId} {ad : Nat → Nat → Nat} {al : List (Nat × Nat)} {θ : ax_Θ} {ρ : ax_ρ} (h0 : ax_M0 al) {a1 : Int32} {a2 : Int32} {s : ax_σ} {r0 : Int32} {s0 : ax_σ} (h : f_Z_acceptsThing a1 a2 s = some (r0, s0)) : ax_T l D cA ad al θ y_Z_acceptsThing (.code y_Z_acceptsThing prog_8_method_19_code 3 (some .boolean)) 1 [.inr (0, 38), .inl (.int (a1)), .inl (.int (a2))] (ax_m s ρ) (some (.inl (.int r0))) (ax_m s0 ρ) := by
  refine ax_T_of (own := "CipherNotationModel") (by decide) rfl (Nat.le_of_ble_eq_true rfl) [(0, .inr (0, 38)), (1, .inl (.int (a1))), (2, .inl (.int (a2)))] rfl ?_
  intro G hA
  have hB := hA.B
  have hK := hB.K
  have hal := hB.la
  unfold f_Z_acceptsThing at h
  refine ax_bk hK (ax_fc (ax_v_ld (ax_r_aload_n (i := 0) d_Z_acceptsThing_0 rfl)) (ax_fc (ax_w_gf (e := none) hal d_Z_acceptsThing_1 fd_Z_168) (ax_fc (ax_v_pu (ax_r_bipush (v := 12) d_Z_acceptsThing_4 (by decide))) ax_fn))) (y := (6, [(0, .inr (0, 38)), (1, .inl (.int (a1))), (2, .inl (.int (a2)))], [.inl (.int ((12 : Int32))), .inl (.int ((s.1 0 38 7)))], ax_m (s) ρ)) rfl ⟨trivial, (h0 38 rfl), trivial, trivial⟩ ?_
  refine ax_ic_ne (tgt := 27) hK d_Z_acceptsThing_6 (by decide) (fun c54 => ?_) (fun c54 => ?_)
  · replace h := ax_if c54 h
    refine ax_bk hK (ax_fc (ax_v_ld (ax_r_aload_n (i := 0) d_Z_acceptsThing_27 rfl)) (ax_fc (ax_w_gf (e := none) hal d_Z_acceptsThing_28 fd_Z_168) (ax_fc (ax_v_pu (ax_r_bipush (v := 10) d_Z_acceptsThing_31 (by decide))) ax_fn))) (y := (33, [(0, .inr (0, 38)), (1, .inl (.int (a1))), (2, .inl (.int (a2)))], [.inl (.int ((10 : Int32))), .inl (.int ((s.1 0 38 7)))], ax_m (s) ρ)) rfl ⟨trivial, (h0 38 rfl), trivial, trivial⟩ ?_
    refine ax_ic_eq (tgt := 38) hK d_Z_acceptsThing_33 (by decide) (fun c51 => ?_) (fun c51 => ?_)
    · replace h := ax_it c51 h
      refine ax_bk hK (ax_fc (ax_v_ld (ax_r_iload_n (i := 1) d_Z_acceptsThing_38 rfl)) (ax_fc (ax_v_pu (ax_r_bipush (v := 62) d_Z_acceptsThing_39 (by decide))) ax_fn)) (y := (41, [(0, .inr (0, 38)), (1, .inl (.int (a1))), (2, .inl (.int (a2)))], [.inl (.int ((62 : Int32))), .inl (.int (a1))], ax_m (s) ρ)) rfl ⟨trivial, trivial, trivial⟩ ?_
      obtain ⟨w50, hw50, h⟩ := ax_bd h
      have KTw50 : w50 = true → ax_R G 3 0 0 (65, [(0, .inr (0, 38)), (1, .inl (.int (a1))), (2, .inl (.int (a2)))], [], ax_m (s) ρ) := by
        intro e9
        subst w50
        replace h := ax_ct h
        refine ax_bk hK (ax_fc (ax_v_ld (ax_r_iload_n (i := 1) d_Z_acceptsThing_65 rfl)) ax_fn) (y := (66, [(0, .inr (0, 38)), (1, .inl (.int (a1))), (2, .inl (.int (a2)))], [.inl (.int (a1))], ax_m (s) ρ)) rfl ⟨trivial, trivial⟩ ?_
        obtain ⟨r3, q4, h⟩ := ax_bd h
        refine ax_bS (rest := []) hB (t_Z_isLetter q4) cw_Z_269 sm_Z_isLetter d_Z_acceptsThing_66 (by decide) (by decide) rfl rfl (Nat.le_of_ble_eq_true rfl) ?_
        change ax_R G 3 0 0 (69, [(0, .inr (0, 38)), (1, .inl (.int (a1))), (2, .inl (.int (a2)))], [.inl (.int (r3))], ax_m (s) ρ)
        obtain ⟨w46, hw46, h⟩ := ax_bd h
        have KTw46 : w46 = true → ax_R G 3 0 0 (132, [(0, .inr (0, 38)), (1, .inl (.int (a1))), (2, .inl (.int (a2)))], [], ax_m (s) ρ) := by
          intro e9
          subst w46
          replace h := ax_ct h
          refine ax_bk hK (ax_fc (ax_v_ld (ax_r_iload_n (i := 1) d_Z_acceptsThing_132 rfl)) (ax_fc (ax_v_pu (ax_r_bipush (v := 93) d_Z_acceptsThing_133 (by decide))) ax_fn)) (y := (135, [(0, .inr (0, 38)), (1, .inl (.int (a1))), (2, .inl (.int (a2)))], [.inl (.int ((93 : Int32))), .inl (.int (a1))], ax_m (s) ρ)) rfl ⟨trivial, trivial, trivial⟩ ?_
          obtain ⟨w37, hw37, h⟩ := ax_bd h
          have KTw37 : w37 = true → ax_R G 3 0 0 (199, [(0, .inr (0, 38)), (1, .inl (.int (a1))), (2, .inl (.int (a2)))], [], ax_m (s) ρ) := by
            intro e9
            subst w37
            replace h := ax_ct h
            refine ax_bk hK (ax_fc (ax_v_ld (ax_r_iload_n (i := 1) d_Z_acceptsThing_199 rfl)) (ax_fc (ax_v_pu (ax_r_bipush (v := 125) d_Z_acceptsThing_200 (by decide))) ax_fn)) (y := (202, [(0, .inr (0, 38)), (1, .inl (.int (a1))), (2, .inl (.int (a2)))], [.inl (.int ((125 : Int32))), .inl (.int (a1))], ax_m (s) ρ)) rfl ⟨trivial, trivial, trivial⟩ ?_
            obtain ⟨w27, hw27, h⟩ := ax_bd h
            have KTw27 : w27 = true → ax_R G 3 0 0 (254, [(0, .inr (0, 38)), (1, .inl (.int (a1))), (2, .inl (.int (a2)))], [], ax_m (s) ρ) := by
              intro e9
              subst w27
              replace h := ax_ct h
              refine ax_bk hK (ax_fc (ax_v_ld (ax_r_iload_n (i := 1) d_Z_acceptsThing_254 rfl)) ax_fn) (y := (255, [(0, .inr (0, 38)), (1, .inl (.int (a1))), (2, .inl (.int (a2)))], [.inl (.int (a1))], ax_m (s) ρ)) rfl ⟨trivial, trivial⟩ ?_
              obtain ⟨r11, q12, h⟩ := ax_bd h
              refine ax_bS (rest := []) hB (t_Z_isState q12) cw_Z_272 sm_Z_isState d_Z_acceptsThing_255 (by decide) (by decide) rfl rfl (Nat.le_of_ble_eq_true rfl) ?_
              change ax_R G 3 0 0 (258, [(0, .inr (0, 38)), (1, .inl (.int (a1))), (2, .inl (.int (a2)))], [.inl (.int (r11))], ax_m (s) ρ)
              obtain ⟨w20, hw20, h⟩ := ax_bd h
              have KTw20 : w20 = true → ax_R G 3 0 0 (298, [], [], ax_m (s) ρ) := by
                intro e9
                subst w20
                replace h := ax_ct h
                refine ax_bk hK (ax_fc (ax_v_pu (ax_r_iconst (v := 0) d_Z_acceptsThing_298 (by decide))) ax_fn) (y := (299, [], [.inl (.int ((0 : Int32)))], ax_m (s) ρ)) rfl ⟨trivial, trivial⟩ ?_
                cases h
                exact ax_zret hA (by decide) d_Z_acceptsThing_299
              have KFw20 : w20 = false → ax_R G 3 0 0 (269, [(0, .inr (0, 38)), (1, .inl (.int (a1))), (2, .inl (.int (a2)))], [], ax_m (s) ρ) := by
                intro e9
                subst w20
                replace h := ax_cf h
                refine ax_bk hK (ax_fc (ax_v_ld (ax_r_aload_n (i := 0) d_Z_acceptsThing_269 rfl)) (ax_fc (ax_v_pu (ax_r_iconst (v := 0) d_Z_acceptsThing_270 (by decide))) (ax_fc (ax_v_ld (ax_r_iload_n (i := 2) d_Z_acceptsThing_271 rfl)) ax_fn))) (y := (272, [(0, .inr (0, 38)), (1, .inl (.int (a1))), (2, .inl (.int (a2)))], [.inl (.int (a2)), .inl (.int ((0 : Int32))), .inr (0, 38)], ax_m (s) ρ)) rfl ⟨trivial, trivial, trivial, trivial⟩ ?_
                obtain ⟨s15, q16, h⟩ := ax_bd h
                refine ax_bV (rest := []) hB (t_Z_begin h0 q16) cw_Z_266 im_Z_begin se_Z_begin d_Z_acceptsThing_272 (h0 38 rfl) rfl rfl (by decide) (by decide) rfl rfl (Nat.le_of_ble_eq_true rfl) ?_
                change ax_R G 3 0 0 (275, [(0, .inr (0, 38)), (1, .inl (.int (a1))), (2, .inl (.int (a2)))], [], ax_m (s15) ρ)
                obtain ⟨b17, h⟩ := ax_gd h
                refine ax_bk hK (ax_fc (ax_v_ld (ax_r_aload_n (i := 0) d_Z_acceptsThing_275 rfl)) (ax_fc (ax_w_gf (e := none) hal d_Z_acceptsThing_276 fd_Z_45) (ax_fc (ax_v_ld (ax_r_aload_n (i := 0) d_Z_acceptsThing_279 rfl)) (ax_fc (ax_w_gf (e := none) hal d_Z_acceptsThing_280 fd_Z_186) (ax_fc (ax_v_pu (ax_r_iconst (v := 1) d_Z_acceptsThing_283 (by decide))) (ax_fc (ax_v_pu (ax_r_isub d_Z_acceptsThing_284)) (ax_fc (ax_v_ld (ax_r_iload_n (i := 1) d_Z_acceptsThing_285 rfl)) (ax_fc (ax_v_pu (ax_r_bipush (v := 65) d_Z_acceptsThing_286 (by decide))) (ax_fc (ax_v_pu (ax_r_isub d_Z_acceptsThing_288)) (ax_fc (ax_w_iast hal d_Z_acceptsThing_289) ax_fn)))))))))) (y := (290, [(0, .inr (0, 38)), (1, .inl (.int (a1))), (2, .inl (.int (a2)))], [], ax_m (ax_wI s15 0 49 (((s15.1 0 38 22) - (1 : Int32))).toNatClampNeg (a1 - (65 : Int32))) ρ)) rfl ⟨trivial, (h0 38 rfl), trivial, (h0 38 rfl), trivial, trivial, trivial, trivial, trivial, ⟨(h0 49 rfl), ax_inp b17⟩, trivial⟩ ?_
                refine ax_lt (Q := fun ςς => ax_R G 3 0 0 (290, [(0, .inr (0, 38)), (1, .inl (.int (a1))), (2, .inl (.int (a2)))], [], ax_m (ςς) ρ)) h (fun s18 h => ?_)
                refine ax_bk hK (ax_fc (ax_v_ld (ax_r_aload_n (i := 0) d_Z_acceptsThing_290 rfl)) (ax_fc (ax_v_pu (ax_r_bipush (v := 40) d_Z_acceptsThing_291 (by decide))) (ax_fc (ax_w_pf (tc := 0) hal d_Z_acceptsThing_293 fp_Z_168 rfl) ax_fn))) (y := (296, [(0, .inr (0, 38)), (1, .inl (.int (a1))), (2, .inl (.int (a2)))], [], ax_m (ax_wI s18 0 38 7 (40 : Int32)) ρ)) rfl ⟨trivial, trivial, (h0 38 rfl), trivial⟩ ?_
                refine ax_lt (Q := fun ςς => ax_R G 3 0 0 (296, [(0, .inr (0, 38)), (1, .inl (.int (a1))), (2, .inl (.int (a2)))], [], ax_m (ςς) ρ)) h (fun s19 h => ?_)
                refine ax_bk hK (ax_fc (ax_v_pu (ax_r_iconst (v := 1) d_Z_acceptsThing_296 (by decide))) ax_fn) (y := (297, [(0, .inr (0, 38)), (1, .inl (.int (a1))), (2, .inl (.int (a2)))], [.inl (.int ((1 : Int32)))], ax_m (s19) ρ)) rfl ⟨trivial, trivial⟩ ?_
                cases h
                exact ax_zret hA (by decide) d_Z_acceptsThing_297
              clear h
              have h := hw20
              refine ax_if_eq (tgt := 298) hK d_Z_acceptsThing_258 (by decide) (fun c14 => ?_) (fun c14 => ?_)
              · replace h := ax_it c14 h
                cases h
                exact ax_Lsub [] rfl (KTw20 rfl)
              · replace h := ax_if c14 h
                refine ax_bk hK (ax_fc (ax_v_ld (ax_r_aload_n (i := 0) d_Z_acceptsThing_261 rfl)) (ax_fc (ax_w_gf (e := none) hal d_Z_acceptsThing_262 fd_Z_180) (ax_fc (ax_v_pu (ax_r_iconst (v := 1) d_Z_acceptsThing_265 (by decide))) ax_fn))) (y := (266, [(0, .inr (0, 38)), (1, .inl (.int (a1))), (2, .inl (.int (a2)))], [.inl (.int ((1 : Int32))), .inl (.int ((s.1 0 38 19)))], ax_m (s) ρ)) rfl ⟨trivial, (h0 38 rfl), trivial, trivial⟩ ?_
                refine ax_ic_ne (tgt := 298) hK d_Z_acceptsThing_266 (by decide) (fun c13 => ?_) (fun c13 => ?_)
                · replace h := ax_if c13 h
                  cases h
                  exact ax_Lsub [] rfl (KTw20 rfl)
                · replace h := ax_it c13 h
                  cases h
                  exact ax_Lsub [0, 1, 2] rfl (KFw20 rfl)
            have KFw27 : w27 = false → ax_R G 3 0 0 (212, [(0, .inr (0, 38))], [], ax_m (s) ρ) := by
              intro e9
              subst w27
              replace h := ax_cf h
              refine ax_bk hK (ax_fc (ax_v_ld (ax_r_aload_n (i := 0) d_Z_acceptsThing_212 rfl)) (ax_fc (ax_v_ld (ax_r_aload_n (i := 0) d_Z_acceptsThing_213 rfl)) (ax_fc (ax_w_gf (e := none) hal d_Z_acceptsThing_214 fd_Z_180) ax_fn))) (y := (217, [(0, .inr (0, 38))], [.inl (.int ((s.1 0 38 19))), .inr (0, 38)], ax_m (s) ρ)) rfl ⟨trivial, trivial, (h0 38 rfl), trivial⟩ ?_
              obtain ⟨w55, hw55, h⟩ := ax_bd h
              have KEw55 : ∀ (v22 : Int32), w55 = v22 → ax_R G 3 0 0 (227, [(0, .inr (0, 38))], [.inl (.int (v22)), .inr (0, 38)], ax_m (s) ρ) := by
                intro v22 e9
                subst w55
                try dsimp only at h
                refine ax_bk hK (ax_fc (ax_w_pf (tc := 0) hal d_Z_acceptsThing_227 fp_Z_168 rfl) ax_fn) (y := (230, [(0, .inr (0, 38))], [], ax_m (ax_wI s 0 38 7 v22) ρ)) rfl ⟨(h0 38 rfl), trivial⟩ ?_
                refine ax_lt (Q := fun ςς => ax_R G 3 0 0 (230, [(0, .inr (0, 38))], [], ax_m (ςς) ρ)) h (fun s23 h => ?_)
                refine ax_bk hK (ax_fc (ax_v_ld (ax_r_aload_n (i := 0) d_Z_acceptsThing_230 rfl)) (ax_fc (ax_v_ld (ax_r_aload_n (i := 0) d_Z_acceptsThing_231 rfl)) (ax_fc (ax_w_gf (e := none) hal d_Z_acceptsThing_232 fd_Z_180) ax_fn))) (y := (235, [(0, .inr (0, 38))], [.inl (.int ((s23.1 0 38 19))), .inr (0, 38)], ax_m (s23) ρ)) rfl ⟨trivial, trivial, (h0 38 rfl), trivial⟩ ?_
                obtain ⟨w56, hw56, h⟩ := ax_bd h
                have KEw56 : ∀ (v25 : Int32), w56 = v25 → ax_R G 3 0 0 (249, [], [.inl (.int (v25)), .inr (0, 38)], ax_m (s23) ρ) := by
                  intro v25 e9
                  subst w56
                  try dsimp only at h
                  refine ax_bk hK (ax_fc (ax_w_pf (tc := 0) hal d_Z_acceptsThing_249 fp_Z_189 rfl) ax_fn) (y := (252, [], [], ax_m (ax_wI s23 0 38 23 v25) ρ)) rfl ⟨(h0 38 rfl), trivial⟩ ?_
                  refine ax_lt (Q := fun ςς => ax_R G 3 0 0 (252, [], [], ax_m (ςς) ρ)) h (fun s26 h => ?_)
                  refine ax_bk hK (ax_fc (ax_v_pu (ax_r_iconst (v := 1) d_Z_acceptsThing_252 (by decide))) ax_fn) (y := (253, [], [.inl (.int ((1 : Int32)))], ax_m (s26) ρ)) rfl ⟨trivial, trivial⟩ ?_
                  cases h
                  exact ax_zret hA (by decide) d_Z_acceptsThing_253
                clear h
                have h := hw56
                refine ax_if_ne (tgt := 245) hK d_Z_acceptsThing_235 (by decide) (fun c24 => ?_) (fun c24 => ?_)
                · replace h := ax_if c24 h
                  refine ax_bk hK (ax_fc (ax_v_ld (ax_r_aload_n (i := 0) d_Z_acceptsThing_245 rfl)) (ax_fc (ax_w_gf (e := none) hal d_Z_acceptsThing_246 fd_Z_189) ax_fn)) (y := (249, [(0, .inr (0, 38))], [.inl (.int ((s23.1 0 38 23))), .inr (0, 38)], ax_m (s23) ρ)) rfl ⟨trivial, (h0 38 rfl), trivial⟩ ?_
                  cases h
                  exact ax_Lsub [] rfl (KEw56 _ rfl)
                · replace h := ax_it c24 h
                  refine ax_bk hK (ax_fc (ax_v_ld (ax_r_aload_n (i := 0) d_Z_acceptsThing_238 rfl)) (ax_fc (ax_w_gf (e := none) hal d_Z_acceptsThing_239 fd_Z_186) (ax_fc (ax_v_go (tgt := 249) d_Z_acceptsThing_242 (by decide)) ax_fn))) (y := (249, [(0, .inr (0, 38))], [.inl (.int ((s23.1 0 38 22))), .inr (0, 38)], ax_m (s23) ρ)) rfl ⟨trivial, (h0 38 rfl), trivial, trivial⟩ ?_
                  cases h
                  exact ax_Lsub [] rfl (KEw56 _ rfl)
              clear h
              have h := hw55
              refine ax_if_ne (tgt := 225) hK d_Z_acceptsThing_217 (by decide) (fun c21 => ?_) (fun c21 => ?_)
              · replace h := ax_if c21 h
                refine ax_bk hK (ax_fc (ax_v_pu (ax_r_bipush (v := 60) d_Z_acceptsThing_225 (by decide))) ax_fn) (y := (227, [(0, .inr (0, 38))], [.inl (.int ((60 : Int32))), .inr (0, 38)], ax_m (s) ρ)) rfl ⟨trivial, trivial⟩ ?_
                cases h
                exact ax_Lsub [0] rfl (KEw55 _ rfl)
              · replace h := ax_it c21 h
                refine ax_bk hK (ax_fc (ax_v_pu (ax_r_bipush (v := 50) d_Z_acceptsThing_220 (by decide))) (ax_fc (ax_v_go (tgt := 227) d_Z_acceptsThing_222 (by decide)) ax_fn)) (y := (227, [(0, .inr (0, 38))], [.inl (.int ((50 : Int32))), .inr (0, 38)], ax_m (s) ρ)) rfl ⟨trivial, trivial, trivial⟩ ?_
                cases h
                exact ax_Lsub [0] rfl (KEw55 _ rfl)
            clear h
            have h := hw27
            refine ax_ic_ne (tgt := 254) hK d_Z_acceptsThing_202 (by decide) (fun c10 => ?_) (fun c10 => ?_)
            · replace h := ax_if c10 h
              cases h
              exact ax_Lsub [0, 1, 2] rfl (KTw27 rfl)
            · replace h := ax_it c10 h
              refine ax_bk hK (ax_fc (ax_v_ld (ax_r_aload_n (i := 0) d_Z_acceptsThing_205 rfl)) (ax_fc (ax_w_gf (e := none) hal d_Z_acceptsThing_206 fd_Z_183) ax_fn)) (y := (209, [(0, .inr (0, 38)), (1, .inl (.int (a1))), (2, .inl (.int (a2)))], [.inl (.int ((s.1 0 38 20)))], ax_m (s) ρ)) rfl ⟨trivial, (h0 38 rfl), trivial⟩ ?_
              refine ax_if_ne (tgt := 254) hK d_Z_acceptsThing_209 (by decide) (fun c9 => ?_) (fun c9 => ?_)
              · replace h := ax_if c9 h
                cases h
                exact ax_Lsub [0, 1, 2] rfl (KTw27 rfl)
              · replace h := ax_it c9 h
                cases h
                exact ax_Lsub [0] rfl (KFw27 rfl)
          have KFw37 : w37 = false → ax_R G 3 0 0 (145, [(0, .inr (0, 38)), (2, .inl (.int (a2)))], [], ax_m (s) ρ) := by
            intro e9
            subst w37
            replace h := ax_cf h
            refine ax_bk hK (ax_fc (ax_v_ld (ax_r_aload_n (i := 0) d_Z_acceptsThing_145 rfl)) (ax_fc (ax_v_pu (ax_r_dup d_Z_acceptsThing_146)) (ax_fc (ax_w_gf (e := none) hal d_Z_acceptsThing_147 fd_Z_183) (ax_fc (ax_v_pu (ax_r_iconst (v := 1) d_Z_acceptsThing_150 (by decide))) (ax_fc (ax_v_pu (ax_r_isub d_Z_acceptsThing_151)) (ax_fc (ax_w_pf (tc := 0) hal d_Z_acceptsThing_152 fp_Z_183 rfl) ax_fn)))))) (y := (155, [(0, .inr (0, 38)), (2, .inl (.int (a2)))], [], ax_m (ax_wI s 0 38 20 ((s.1 0 38 20) - (1 : Int32))) ρ)) rfl ⟨trivial, trivial, (h0 38 rfl), trivial, trivial, (h0 38 rfl), trivial⟩ ?_
            refine ax_lt (Q := fun ςς => ax_R G 3 0 0 (155, [(0, .inr (0, 38)), (2, .inl (.int (a2)))], [], ax_m (ςς) ρ)) h (fun s28 h => ?_)
            obtain ⟨b29, h⟩ := ax_gd h
            obtain ⟨b30, h⟩ := ax_gd h
            refine ax_bk hK (ax_fc (ax_v_ld (ax_r_aload_n (i := 0) d_Z_acceptsThing_155 rfl)) (ax_fc (ax_w_gf (e := none) hal d_Z_acceptsThing_156 fd_Z_48) (ax_fc (ax_v_ld (ax_r_aload_n (i := 0) d_Z_acceptsThing_159 rfl)) (ax_fc (ax_w_gf (e := none) hal d_Z_acceptsThing_160 fd_Z_36) (ax_fc (ax_v_ld (ax_r_aload_n (i := 0) d_Z_acceptsThing_163 rfl)) (ax_fc (ax_w_gf (e := none) hal d_Z_acceptsThing_164 fd_Z_183) (ax_fc (ax_w_iald hal d_Z_acceptsThing_167) (ax_fc (ax_v_ld (ax_r_aload_n (i := 0) d_Z_acceptsThing_168 rfl)) (ax_fc (ax_w_gf (e := none) hal d_Z_acceptsThing_169 fd_Z_186) (ax_fc (ax_w_iast hal d_Z_acceptsThing_172) ax_fn)))))))))) (y := (173, [(0, .inr (0, 38)), (2, .inl (.int (a2)))], [], ax_m (ax_wI s28 0 50 ((s28.1 0 46 ((s28.1 0 38 20)).toNatClampNeg)).toNatClampNeg (s28.1 0 38 22)) ρ)) rfl ⟨trivial, (h0 38 rfl), trivial, (h0 38 rfl), trivial, (h0 38 rfl), ⟨(h0 46 rfl), ax_inp b29⟩, trivial, (h0 38 rfl), ⟨(h0 50 rfl), ax_inp b30⟩, trivial⟩ ?_
            refine ax_lt (Q := fun ςς => ax_R G 3 0 0 (173, [(0, .inr (0, 38)), (2, .inl (.int (a2)))], [], ax_m (ςς) ρ)) h (fun s31 h => ?_)
            obtain ⟨b32, h⟩ := ax_gd h
            obtain ⟨b33, h⟩ := ax_gd h
            refine ax_bk hK (ax_fc (ax_v_ld (ax_r_aload_n (i := 0) d_Z_acceptsThing_173 rfl)) (ax_fc (ax_w_gf (e := none) hal d_Z_acceptsThing_174 fd_Z_48) (ax_fc (ax_v_ld (ax_r_aload_n (i := 0) d_Z_acceptsThing_177 rfl)) (ax_fc (ax_w_gf (e := none) hal d_Z_acceptsThing_178 fd_Z_186) (ax_fc (ax_v_ld (ax_r_aload_n (i := 0) d_Z_acceptsThing_181 rfl)) (ax_fc (ax_w_gf (e := none) hal d_Z_acceptsThing_182 fd_Z_36) (ax_fc (ax_v_ld (ax_r_aload_n (i := 0) d_Z_acceptsThing_185 rfl)) (ax_fc (ax_w_gf (e := none) hal d_Z_acceptsThing_186 fd_Z_183) (ax_fc (ax_w_iald hal d_Z_acceptsThing_189) (ax_fc (ax_w_iast hal d_Z_acceptsThing_190) ax_fn)))))))))) (y := (191, [(0, .inr (0, 38)), (2, .inl (.int (a2)))], [], ax_m (ax_wI s31 0 50 ((s31.1 0 38 22)).toNatClampNeg (s31.1 0 46 ((s31.1 0 38 20)).toNatClampNeg)) ρ)) rfl ⟨trivial, (h0 38 rfl), trivial, (h0 38 rfl), trivial, (h0 38 rfl), trivial, (h0 38 rfl), ⟨(h0 46 rfl), ax_inp b32⟩, ⟨(h0 50 rfl), ax_inp b33⟩, trivial⟩ ?_
            refine ax_lt (Q := fun ςς => ax_R G 3 0 0 (191, [(0, .inr (0, 38)), (2, .inl (.int (a2)))], [], ax_m (ςς) ρ)) h (fun s34 h => ?_)
            refine ax_bk hK (ax_fc (ax_v_ld (ax_r_aload_n (i := 0) d_Z_acceptsThing_191 rfl)) (ax_fc (ax_v_pu (ax_r_iconst (v := 3) d_Z_acceptsThing_192 (by decide))) (ax_fc (ax_v_ld (ax_r_iload_n (i := 2) d_Z_acceptsThing_193 rfl)) ax_fn))) (y := (194, [(0, .inr (0, 38)), (2, .inl (.int (a2)))], [.inl (.int (a2)), .inl (.int ((3 : Int32))), .inr (0, 38)], ax_m (s34) ρ)) rfl ⟨trivial, trivial, trivial, trivial⟩ ?_
            obtain ⟨s35, q36, h⟩ := ax_bd h
            refine ax_bV (rest := []) hB (t_Z_begin h0 q36) cw_Z_266 im_Z_begin se_Z_begin d_Z_acceptsThing_194 (h0 38 rfl) rfl rfl (by decide) (by decide) rfl rfl (Nat.le_of_ble_eq_true rfl) ?_
            change ax_R G 3 0 0 (197, [(0, .inr (0, 38)), (2, .inl (.int (a2)))], [], ax_m (s35) ρ)
            refine ax_bk hK (ax_fc (ax_v_pu (ax_r_iconst (v := 1) d_Z_acceptsThing_197 (by decide))) ax_fn) (y := (198, [(0, .inr (0, 38)), (2, .inl (.int (a2)))], [.inl (.int ((1 : Int32)))], ax_m (s35) ρ)) rfl ⟨trivial, trivial⟩ ?_
            cases h
            exact ax_zret hA (by decide) d_Z_acceptsThing_198
          clear h
          have h := hw37
          refine ax_ic_ne (tgt := 199) hK d_Z_acceptsThing_135 (by decide) (fun c8 => ?_) (fun c8 => ?_)
          · replace h := ax_if c8 h
            cases h
            exact ax_Lsub [0, 1, 2] rfl (KTw37 rfl)
          · replace h := ax_it c8 h
            refine ax_bk hK (ax_fc (ax_v_ld (ax_r_aload_n (i := 0) d_Z_acceptsThing_138 rfl)) (ax_fc (ax_w_gf (e := none) hal d_Z_acceptsThing_139 fd_Z_183) ax_fn)) (y := (142, [(0, .inr (0, 38)), (1, .inl (.int (a1))), (2, .inl (.int (a2)))], [.inl (.int ((s.1 0 38 20)))], ax_m (s) ρ)) rfl ⟨trivial, (h0 38 rfl), trivial⟩ ?_
            refine ax_if_le (tgt := 199) hK d_Z_acceptsThing_142 (by decide) (fun c7 => ?_) (fun c7 => ?_)
            · replace h := ax_it c7 h
              cases h
              exact ax_Lsub [0, 1, 2] rfl (KTw37 rfl)
            · replace h := ax_if c7 h
              cases h
              exact ax_Lsub [0, 2] rfl (KFw37 rfl)
        have KFw46 : w46 = false → ax_R G 3 0 0 (80, [(0, .inr (0, 38)), (1, .inl (.int (a1))), (2, .inl (.int (a2)))], [], ax_m (s) ρ) := by
          intro e9
          subst w46
          replace h := ax_cf h
          obtain ⟨b38, h⟩ := ax_gd h
          refine ax_bk hK (ax_fc (ax_v_ld (ax_r_aload_n (i := 0) d_Z_acceptsThing_80 rfl)) (ax_fc (ax_w_gf (e := none) hal d_Z_acceptsThing_81 fd_Z_36) (ax_fc (ax_v_ld (ax_r_aload_n (i := 0) d_Z_acceptsThing_84 rfl)) (ax_fc (ax_w_gf (e := none) hal d_Z_acceptsThing_85 fd_Z_183) (ax_fc (ax_v_ld (ax_r_aload_n (i := 0) d_Z_acceptsThing_88 rfl)) (ax_fc (ax_w_gf (e := none) hal d_Z_acceptsThing_89 fd_Z_186) (ax_fc (ax_w_iast hal d_Z_acceptsThing_92) ax_fn))))))) (y := (93, [(0, .inr (0, 38)), (1, .inl (.int (a1))), (2, .inl (.int (a2)))], [], ax_m (ax_wI s 0 46 ((s.1 0 38 20)).toNatClampNeg (s.1 0 38 22)) ρ)) rfl ⟨trivial, (h0 38 rfl), trivial, (h0 38 rfl), trivial, (h0 38 rfl), ⟨(h0 46 rfl), ax_inp b38⟩, trivial⟩ ?_
          refine ax_lt (Q := fun ςς => ax_R G 3 0 0 (93, [(0, .inr (0, 38)), (1, .inl (.int (a1))), (2, .inl (.int (a2)))], [], ax_m (ςς) ρ)) h (fun s39 h => ?_)
          refine ax_bk hK (ax_fc (ax_v_ld (ax_r_aload_n (i := 0) d_Z_acceptsThing_93 rfl)) (ax_fc (ax_v_pu (ax_r_dup d_Z_acceptsThing_94)) (ax_fc (ax_w_gf (e := none) hal d_Z_acceptsThing_95 fd_Z_183) (ax_fc (ax_v_pu (ax_r_iconst (v := 1) d_Z_acceptsThing_98 (by decide))) (ax_fc (ax_v_pu (ax_r_iadd d_Z_acceptsThing_99)) (ax_fc (ax_w_pf (tc := 0) hal d_Z_acceptsThing_100 fp_Z_183 rfl) ax_fn)))))) (y := (103, [(0, .inr (0, 38)), (1, .inl (.int (a1))), (2, .inl (.int (a2)))], [], ax_m (ax_wI s39 0 38 20 ((s39.1 0 38 20) + (1 : Int32))) ρ)) rfl ⟨trivial, trivial, (h0 38 rfl), trivial, trivial, (h0 38 rfl), trivial⟩ ?_
          refine ax_lt (Q := fun ςς => ax_R G 3 0 0 (103, [(0, .inr (0, 38)), (1, .inl (.int (a1))), (2, .inl (.int (a2)))], [], ax_m (ςς) ρ)) h (fun s40 h => ?_)
          refine ax_bk hK (ax_fc (ax_v_ld (ax_r_aload_n (i := 0) d_Z_acceptsThing_103 rfl)) (ax_fc (ax_v_pu (ax_r_iconst (v := 2) d_Z_acceptsThing_104 (by decide))) (ax_fc (ax_v_ld (ax_r_iload_n (i := 2) d_Z_acceptsThing_105 rfl)) ax_fn))) (y := (106, [(0, .inr (0, 38)), (1, .inl (.int (a1))), (2, .inl (.int (a2)))], [.inl (.int (a2)), .inl (.int ((2 : Int32))), .inr (0, 38)], ax_m (s40) ρ)) rfl ⟨trivial, trivial, trivial, trivial⟩ ?_
          obtain ⟨s41, q42, h⟩ := ax_bd h
          refine ax_bV (rest := []) hB (t_Z_begin h0 q42) cw_Z_266 im_Z_begin se_Z_begin d_Z_acceptsThing_106 (h0 38 rfl) rfl rfl (by decide) (by decide) rfl rfl (Nat.le_of_ble_eq_true rfl) ?_
          change ax_R G 3 0 0 (109, [(0, .inr (0, 38)), (1, .inl (.int (a1))), (2, .inl (.int (a2)))], [], ax_m (s41) ρ)
          obtain ⟨b43, h⟩ := ax_gd h
          refine ax_bk hK (ax_fc (ax_v_ld (ax_r_aload_n (i := 0) d_Z_acceptsThing_109 rfl)) (ax_fc (ax_w_gf (e := none) hal d_Z_acceptsThing_110 fd_Z_45) (ax_fc (ax_v_ld (ax_r_aload_n (i := 0) d_Z_acceptsThing_113 rfl)) (ax_fc (ax_w_gf (e := none) hal d_Z_acceptsThing_114 fd_Z_186) (ax_fc (ax_v_pu (ax_r_iconst (v := 1) d_Z_acceptsThing_117 (by decide))) (ax_fc (ax_v_pu (ax_r_isub d_Z_acceptsThing_118)) (ax_fc (ax_v_ld (ax_r_iload_n (i := 1) d_Z_acceptsThing_119 rfl)) (ax_fc (ax_v_pu (ax_r_bipush (v := 105) d_Z_acceptsThing_120 (by decide))) (ax_fc (ax_v_pu (ax_r_isub d_Z_acceptsThing_122)) (ax_fc (ax_w_iast hal d_Z_acceptsThing_123) ax_fn)))))))))) (y := (124, [(0, .inr (0, 38)), (1, .inl (.int (a1))), (2, .inl (.int (a2)))], [], ax_m (ax_wI s41 0 49 (((s41.1 0 38 22) - (1 : Int32))).toNatClampNeg (a1 - (105 : Int32))) ρ)) rfl ⟨trivial, (h0 38 rfl), trivial, (h0 38 rfl), trivial, trivial, trivial, trivial, trivial, ⟨(h0 49 rfl), ax_inp b43⟩, trivial⟩ ?_
          refine ax_lt (Q := fun ςς => ax_R G 3 0 0 (124, [(0, .inr (0, 38)), (1, .inl (.int (a1))), (2, .inl (.int (a2)))], [], ax_m (ςς) ρ)) h (fun s44 h => ?_)
          refine ax_bk hK (ax_fc (ax_v_ld (ax_r_aload_n (i := 0) d_Z_acceptsThing_124 rfl)) (ax_fc (ax_v_pu (ax_r_bipush (v := 11) d_Z_acceptsThing_125 (by decide))) (ax_fc (ax_w_pf (tc := 0) hal d_Z_acceptsThing_127 fp_Z_168 rfl) ax_fn))) (y := (130, [(0, .inr (0, 38)), (1, .inl (.int (a1))), (2, .inl (.int (a2)))], [], ax_m (ax_wI s44 0 38 7 (11 : Int32)) ρ)) rfl ⟨trivial, trivial, (h0 38 rfl), trivial⟩ ?_
          refine ax_lt (Q := fun ςς => ax_R G 3 0 0 (130, [(0, .inr (0, 38)), (1, .inl (.int (a1))), (2, .inl (.int (a2)))], [], ax_m (ςς) ρ)) h (fun s45 h => ?_)
          refine ax_bk hK (ax_fc (ax_v_pu (ax_r_iconst (v := 1) d_Z_acceptsThing_130 (by decide))) ax_fn) (y := (131, [(0, .inr (0, 38)), (1, .inl (.int (a1))), (2, .inl (.int (a2)))], [.inl (.int ((1 : Int32)))], ax_m (s45) ρ)) rfl ⟨trivial, trivial⟩ ?_
          cases h
          exact ax_zret hA (by decide) d_Z_acceptsThing_131
        clear h
        have h := hw46
        refine ax_if_eq (tgt := 132) hK d_Z_acceptsThing_69 (by decide) (fun c6 => ?_) (fun c6 => ?_)
        · replace h := ax_it c6 h
          cases h
          exact ax_Lsub [0, 1, 2] rfl (KTw46 rfl)
        · replace h := ax_if c6 h
          refine ax_bk hK (ax_fc (ax_v_ld (ax_r_aload_n (i := 0) d_Z_acceptsThing_72 rfl)) (ax_fc (ax_w_gf (e := none) hal d_Z_acceptsThing_73 fd_Z_183) (ax_fc (ax_v_pu (ax_r_iconst (v := 2) d_Z_acceptsThing_76 (by decide))) ax_fn))) (y := (77, [(0, .inr (0, 38)), (1, .inl (.int (a1))), (2, .inl (.int (a2)))], [.inl (.int ((2 : Int32))), .inl (.int ((s.1 0 38 20)))], ax_m (s) ρ)) rfl ⟨trivial, (h0 38 rfl), trivial, trivial⟩ ?_
          refine ax_ic_ge (tgt := 132) hK d_Z_acceptsThing_77 (by decide) (fun c5 => ?_) (fun c5 => ?_)
          · replace h := ax_it c5 h
            cases h
            exact ax_Lsub [0, 1, 2] rfl (KTw46 rfl)
          · replace h := ax_if c5 h
            cases h
            exact ax_Lsub [0, 1, 2] rfl (KFw46 rfl)
      have KFw50 : w50 = false → ax_R G 3 0 0 (51, [(0, .inr (0, 38)), (2, .inl (.int (a2)))], [], ax_m (s) ρ) := by
        intro e9
        subst w50
        replace h := ax_cf h
        refine ax_bk hK (ax_fc (ax_v_ld (ax_r_aload_n (i := 0) d_Z_acceptsThing_51 rfl)) (ax_fc (ax_v_pu (ax_r_iconst (v := 1) d_Z_acceptsThing_52 (by decide))) (ax_fc (ax_v_ld (ax_r_iload_n (i := 2) d_Z_acceptsThing_53 rfl)) ax_fn))) (y := (54, [(0, .inr (0, 38)), (2, .inl (.int (a2)))], [.inl (.int (a2)), .inl (.int ((1 : Int32))), .inr (0, 38)], ax_m (s) ρ)) rfl ⟨trivial, trivial, trivial, trivial⟩ ?_
        obtain ⟨s47, q48, h⟩ := ax_bd h
        refine ax_bV (rest := []) hB (t_Z_begin h0 q48) cw_Z_266 im_Z_begin se_Z_begin d_Z_acceptsThing_54 (h0 38 rfl) rfl rfl (by decide) (by decide) rfl rfl (Nat.le_of_ble_eq_true rfl) ?_
        change ax_R G 3 0 0 (57, [(0, .inr (0, 38)), (2, .inl (.int (a2)))], [], ax_m (s47) ρ)
        refine ax_bk hK (ax_fc (ax_v_ld (ax_r_aload_n (i := 0) d_Z_acceptsThing_57 rfl)) (ax_fc (ax_v_pu (ax_r_bipush (v := 20) d_Z_acceptsThing_58 (by decide))) (ax_fc (ax_w_pf (tc := 0) hal d_Z_acceptsThing_60 fp_Z_168 rfl) ax_fn))) (y := (63, [(0, .inr (0, 38)), (2, .inl (.int (a2)))], [], ax_m (ax_wI s47 0 38 7 (20 : Int32)) ρ)) rfl ⟨trivial, trivial, (h0 38 rfl), trivial⟩ ?_
        refine ax_lt (Q := fun ςς => ax_R G 3 0 0 (63, [(0, .inr (0, 38)), (2, .inl (.int (a2)))], [], ax_m (ςς) ρ)) h (fun s49 h => ?_)
        refine ax_bk hK (ax_fc (ax_v_pu (ax_r_iconst (v := 1) d_Z_acceptsThing_63 (by decide))) ax_fn) (y := (64, [(0, .inr (0, 38)), (2, .inl (.int (a2)))], [.inl (.int ((1 : Int32)))], ax_m (s49) ρ)) rfl ⟨trivial, trivial⟩ ?_
        cases h
        exact ax_zret hA (by decide) d_Z_acceptsThing_64
      clear h
      have h := hw50
      refine ax_ic_ne (tgt := 65) hK d_Z_acceptsThing_41 (by decide) (fun c2 => ?_) (fun c2 => ?_)
      · replace h := ax_if c2 h
        cases h
        exact ax_Lsub [0, 1, 2] rfl (KTw50 rfl)
      · replace h := ax_it c2 h
        refine ax_bk hK (ax_fc (ax_v_ld (ax_r_aload_n (i := 0) d_Z_acceptsThing_44 rfl)) (ax_fc (ax_w_gf (e := none) hal d_Z_acceptsThing_45 fd_Z_180) ax_fn)) (y := (48, [(0, .inr (0, 38)), (1, .inl (.int (a1))), (2, .inl (.int (a2)))], [.inl (.int ((s.1 0 38 19)))], ax_m (s) ρ)) rfl ⟨trivial, (h0 38 rfl), trivial⟩ ?_
        refine ax_if_ne (tgt := 65) hK d_Z_acceptsThing_48 (by decide) (fun c1 => ?_) (fun c1 => ?_)
        · replace h := ax_if c1 h
          cases h
          exact ax_Lsub [0, 1, 2] rfl (KTw50 rfl)
        · replace h := ax_it c1 h
          cases h
          exact ax_Lsub [0, 2] rfl (KFw50 rfl)
    · replace h := ax_if c51 h
      refine ax_bk hK (ax_fc (ax_v_pu (ax_r_iconst (v := 0) d_Z_acceptsThing_36 (by decide))) ax_fn) (y := (37, [(0, .inr (0, 38)), (1, .inl (.int (a1))), (2, .inl (.int (a2)))], [.inl (.int ((0 : Int32)))], ax_m (s) ρ)) rfl ⟨trivial, trivial⟩ ?_
      cases h
      exact ax_zret hA (by decide) d_Z_acceptsThing_37
  · replace h := ax_it c54 h
    refine ax_bk hK (ax_fc (ax_v_ld (ax_r_aload_n (i := 0) d_Z_acceptsThing_9 rfl)) (ax_fc (ax_v_pu (ax_r_bipush (v := 10) d_Z_acceptsThing_10 (by decide))) (ax_fc (ax_w_pf (tc := 0) hal d_Z_acceptsThing_12 fp_Z_168 rfl) ax_fn))) (y := (15, [(0, .inr (0, 38)), (1, .inl (.int (a1))), (2, .inl (.int (a2)))], [], ax_m (ax_wI s 0 38 7 (10 : Int32)) ρ)) rfl ⟨trivial, trivial, (h0 38 rfl), trivial⟩ ?_
    refine ax_lt (Q := fun ςς => ax_R G 3 0 0 (15, [(0, .inr (0, 38)), (1, .inl (.int (a1))), (2, .inl (.int (a2)))], [], ax_m (ςς) ρ)) h (fun s52 h => ?_)
    refine ax_bk hK (ax_fc (ax_v_ld (ax_r_iload_n (i := 1) d_Z_acceptsThing_15 rfl)) (ax_fc (ax_v_pu (ax_r_bipush (v := 91) d_Z_acceptsThing_16 (by decide))) ax_fn)) (y := (18, [(0, .inr (0, 38)), (1, .inl (.int (a1))), (2, .inl (.int (a2)))], [.inl (.int ((91 : Int32))), .inl (.int (a1))], ax_m (s52) ρ)) rfl ⟨trivial, trivial, trivial⟩ ?_
    refine ax_ic_ne (tgt := 25) hK d_Z_acceptsThing_18 (by decide) (fun c53 => ?_) (fun c53 => ?_)
    · replace h := ax_if c53 h
      refine ax_bk hK (ax_fc (ax_v_pu (ax_r_iconst (v := 0) d_Z_acceptsThing_25 (by decide))) ax_fn) (y := (26, [(0, .inr (0, 38)), (1, .inl (.int (a1))), (2, .inl (.int (a2)))], [.inl (.int ((0 : Int32)))], ax_m (s52) ρ)) rfl ⟨trivial, trivial⟩ ?_
      cases h
      exact ax_zret hA (by decide) d_Z_acceptsThing_26
    · replace h := ax_it c53 h
      refine ax_bk hK (ax_fc (ax_v_pu (ax_r_iconst (v := 1) d_Z_acceptsThing_21 (by decide))) (ax_fc (ax_v_go (tgt := 26) d_Z_acceptsThing_22 (by decide)) ax_fn)) (y := (26, [(0, .inr (0, 38)), (1, .inl (.int (a1))), (2, .inl (.int (a2)))], [.inl (.int ((1 : Int32)))], ax_m (s52) ρ)) rfl ⟨trivial, trivial, trivial⟩ ?_
      cases h
      exact ax_zret hA (by decide) d_Z_acceptsThing_26
