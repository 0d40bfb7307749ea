def y_Z_gauge : MethodName := ⟨"CipherNotationModel", "gauge", "(I)I"⟩
theorem d_Z_gauge_0 : decode prog_8_method_42_code 0 = .ok (.iconst 0, 1) := by decide +kernel
theorem d_Z_gauge_1 : decode prog_8_method_42_code 1 = .ok (.istore_n 2, 1) := by decide +kernel
theorem d_Z_gauge_2 : decode prog_8_method_42_code 2 = .ok (.aload_n 0, 1) := by decide +kernel
theorem d_Z_gauge_3 : decode prog_8_method_42_code 3 = .ok (.getfield (60), 3) := by decide +kernel
theorem d_Z_gauge_6 : decode prog_8_method_42_code 6 = .ok (.iload_n 1, 1) := by decide +kernel
theorem d_Z_gauge_7 : decode prog_8_method_42_code 7 = .ok (.iaload, 1) := by decide +kernel
theorem d_Z_gauge_8 : decode prog_8_method_42_code 8 = .ok (.istore_n 3, 1) := by decide +kernel
theorem d_Z_gauge_9 : decode prog_8_method_42_code 9 = .ok (.iload_n 3, 1) := by decide +kernel
theorem d_Z_gauge_10 : decode prog_8_method_42_code 10 = .ok (.aload_n 0, 1) := by decide +kernel
theorem d_Z_gauge_11 : decode prog_8_method_42_code 11 = .ok (.getfield (63), 3) := by decide +kernel
theorem d_Z_gauge_14 : decode prog_8_method_42_code 14 = .ok (.iload_n 1, 1) := by decide +kernel
theorem d_Z_gauge_15 : decode prog_8_method_42_code 15 = .ok (.iaload, 1) := by decide +kernel
theorem d_Z_gauge_16 : decode prog_8_method_42_code 16 = .ok (.if_icmp .ge (355), 3) := by decide +kernel
theorem d_Z_gauge_19 : decode prog_8_method_42_code 19 = .ok (.aload_n 0, 1) := by decide +kernel
theorem d_Z_gauge_20 : decode prog_8_method_42_code 20 = .ok (.getfield (72), 3) := by decide +kernel
theorem d_Z_gauge_23 : decode prog_8_method_42_code 23 = .ok (.iload_n 3, 1) := by decide +kernel
theorem d_Z_gauge_24 : decode prog_8_method_42_code 24 = .ok (.iaload, 1) := by decide +kernel
theorem d_Z_gauge_25 : decode prog_8_method_42_code 25 = .ok (.istore (4), 2) := by decide +kernel
theorem d_Z_gauge_27 : decode prog_8_method_42_code 27 = .ok (.iload (4), 2) := by decide +kernel
theorem d_Z_gauge_29 : decode prog_8_method_42_code 29 = .ok (.bipush (8), 2) := by decide +kernel
theorem d_Z_gauge_31 : decode prog_8_method_42_code 31 = .ok (.if_icmp .ne (9), 3) := by decide +kernel
theorem d_Z_gauge_34 : decode prog_8_method_42_code 34 = .ok (.iload_n 2, 1) := by decide +kernel
theorem d_Z_gauge_35 : decode prog_8_method_42_code 35 = .ok (.iconst 2, 1) := by decide +kernel
theorem d_Z_gauge_36 : decode prog_8_method_42_code 36 = .ok (.isub, 1) := by decide +kernel
theorem d_Z_gauge_37 : decode prog_8_method_42_code 37 = .ok (.goto (24), 3) := by decide +kernel
theorem d_Z_gauge_40 : decode prog_8_method_42_code 40 = .ok (.iload (4), 2) := by decide +kernel
theorem d_Z_gauge_42 : decode prog_8_method_42_code 42 = .ok (.bipush (6), 2) := by decide +kernel
theorem d_Z_gauge_44 : decode prog_8_method_42_code 44 = .ok (.if_icmp .eq (10), 3) := by decide +kernel
theorem d_Z_gauge_47 : decode prog_8_method_42_code 47 = .ok (.iload (4), 2) := by decide +kernel
theorem d_Z_gauge_49 : decode prog_8_method_42_code 49 = .ok (.bipush (7), 2) := by decide +kernel
theorem d_Z_gauge_51 : decode prog_8_method_42_code 51 = .ok (.if_icmp .ne (9), 3) := by decide +kernel
theorem d_Z_gauge_54 : decode prog_8_method_42_code 54 = .ok (.iload_n 2, 1) := by decide +kernel
theorem d_Z_gauge_55 : decode prog_8_method_42_code 55 = .ok (.iconst 1, 1) := by decide +kernel
theorem d_Z_gauge_56 : decode prog_8_method_42_code 56 = .ok (.isub, 1) := by decide +kernel
theorem d_Z_gauge_57 : decode prog_8_method_42_code 57 = .ok (.goto (4), 3) := by decide +kernel
theorem d_Z_gauge_60 : decode prog_8_method_42_code 60 = .ok (.iload_n 2, 1) := by decide +kernel
theorem d_Z_gauge_61 : decode prog_8_method_42_code 61 = .ok (.istore_n 2, 1) := by decide +kernel
theorem d_Z_gauge_62 : decode prog_8_method_42_code 62 = .ok (.iload (4), 2) := by decide +kernel
theorem d_Z_gauge_64 : decode prog_8_method_42_code 64 = .ok (.iconst 4, 1) := by decide +kernel
theorem d_Z_gauge_65 : decode prog_8_method_42_code 65 = .ok (.if_icmp .eq (57), 3) := by decide +kernel
theorem d_Z_gauge_68 : decode prog_8_method_42_code 68 = .ok (.iload (4), 2) := by decide +kernel
theorem d_Z_gauge_70 : decode prog_8_method_42_code 70 = .ok (.iconst 5, 1) := by decide +kernel
theorem d_Z_gauge_71 : decode prog_8_method_42_code 71 = .ok (.if_icmp .eq (51), 3) := by decide +kernel
theorem d_Z_gauge_74 : decode prog_8_method_42_code 74 = .ok (.iload (4), 2) := by decide +kernel
theorem d_Z_gauge_76 : decode prog_8_method_42_code 76 = .ok (.bipush (6), 2) := by decide +kernel
theorem d_Z_gauge_78 : decode prog_8_method_42_code 78 = .ok (.if_icmp .eq (17), 3) := by decide +kernel
theorem d_Z_gauge_81 : decode prog_8_method_42_code 81 = .ok (.iload (4), 2) := by decide +kernel
theorem d_Z_gauge_83 : decode prog_8_method_42_code 83 = .ok (.bipush (7), 2) := by decide +kernel
theorem d_Z_gauge_85 : decode prog_8_method_42_code 85 = .ok (.if_icmp .eq (10), 3) := by decide +kernel
theorem d_Z_gauge_88 : decode prog_8_method_42_code 88 = .ok (.iload (4), 2) := by decide +kernel
theorem d_Z_gauge_90 : decode prog_8_method_42_code 90 = .ok (.bipush (8), 2) := by decide +kernel
theorem d_Z_gauge_92 : decode prog_8_method_42_code 92 = .ok (.if_icmp .ne (34), 3) := by decide +kernel
theorem d_Z_gauge_95 : decode prog_8_method_42_code 95 = .ok (.aload_n 0, 1) := by decide +kernel
theorem d_Z_gauge_96 : decode prog_8_method_42_code 96 = .ok (.getfield (132), 3) := by decide +kernel
theorem d_Z_gauge_99 : decode prog_8_method_42_code 99 = .ok (.iload_n 2, 1) := by decide +kernel
theorem d_Z_gauge_100 : decode prog_8_method_42_code 100 = .ok (.baload, 1) := by decide +kernel
theorem d_Z_gauge_101 : decode prog_8_method_42_code 101 = .ok (.ifCond .eq (25), 3) := by decide +kernel
theorem d_Z_gauge_104 : decode prog_8_method_42_code 104 = .ok (.iload (4), 2) := by decide +kernel
theorem d_Z_gauge_106 : decode prog_8_method_42_code 106 = .ok (.bipush (8), 2) := by decide +kernel
theorem d_Z_gauge_108 : decode prog_8_method_42_code 108 = .ok (.if_icmp .ne (14), 3) := by decide +kernel
theorem d_Z_gauge_111 : decode prog_8_method_42_code 111 = .ok (.aload_n 0, 1) := by decide +kernel
theorem d_Z_gauge_112 : decode prog_8_method_42_code 112 = .ok (.getfield (132), 3) := by decide +kernel
theorem d_Z_gauge_115 : decode prog_8_method_42_code 115 = .ok (.iload_n 2, 1) := by decide +kernel
theorem d_Z_gauge_116 : decode prog_8_method_42_code 116 = .ok (.iconst 1, 1) := by decide +kernel
theorem d_Z_gauge_117 : decode prog_8_method_42_code 117 = .ok (.iadd, 1) := by decide +kernel
theorem d_Z_gauge_118 : decode prog_8_method_42_code 118 = .ok (.baload, 1) := by decide +kernel
theorem d_Z_gauge_119 : decode prog_8_method_42_code 119 = .ok (.ifCond .eq (7), 3) := by decide +kernel
theorem d_Z_gauge_122 : decode prog_8_method_42_code 122 = .ok (.iconst 1, 1) := by decide +kernel
theorem d_Z_gauge_123 : decode prog_8_method_42_code 123 = .ok (.goto (4), 3) := by decide +kernel
theorem d_Z_gauge_126 : decode prog_8_method_42_code 126 = .ok (.iconst 0, 1) := by decide +kernel
theorem d_Z_gauge_127 : decode prog_8_method_42_code 127 = .ok (.istore (5), 2) := by decide +kernel
theorem d_Z_gauge_129 : decode prog_8_method_42_code 129 = .ok (.aload_n 0, 1) := by decide +kernel
theorem d_Z_gauge_130 : decode prog_8_method_42_code 130 = .ok (.getfield (129), 3) := by decide +kernel
theorem d_Z_gauge_133 : decode prog_8_method_42_code 133 = .ok (.iload_n 2, 1) := by decide +kernel
theorem d_Z_gauge_134 : decode prog_8_method_42_code 134 = .ok (.iaload, 1) := by decide +kernel
theorem d_Z_gauge_135 : decode prog_8_method_42_code 135 = .ok (.iconst 1, 1) := by decide +kernel
theorem d_Z_gauge_136 : decode prog_8_method_42_code 136 = .ok (.if_icmp .ge (7), 3) := by decide +kernel
theorem d_Z_gauge_139 : decode prog_8_method_42_code 139 = .ok (.iconst 1, 1) := by decide +kernel
theorem d_Z_gauge_140 : decode prog_8_method_42_code 140 = .ok (.goto (9), 3) := by decide +kernel
theorem d_Z_gauge_143 : decode prog_8_method_42_code 143 = .ok (.aload_n 0, 1) := by decide +kernel
theorem d_Z_gauge_144 : decode prog_8_method_42_code 144 = .ok (.getfield (129), 3) := by decide +kernel
theorem d_Z_gauge_147 : decode prog_8_method_42_code 147 = .ok (.iload_n 2, 1) := by decide +kernel
theorem d_Z_gauge_148 : decode prog_8_method_42_code 148 = .ok (.iaload, 1) := by decide +kernel
theorem d_Z_gauge_149 : decode prog_8_method_42_code 149 = .ok (.istore (6), 2) := by decide +kernel
theorem d_Z_gauge_151 : decode prog_8_method_42_code 151 = .ok (.aload_n 0, 1) := by decide +kernel
theorem d_Z_gauge_152 : decode prog_8_method_42_code 152 = .ok (.getfield (129), 3) := by decide +kernel
theorem d_Z_gauge_155 : decode prog_8_method_42_code 155 = .ok (.iload_n 2, 1) := by decide +kernel
theorem d_Z_gauge_156 : decode prog_8_method_42_code 156 = .ok (.iaload, 1) := by decide +kernel
theorem d_Z_gauge_157 : decode prog_8_method_42_code 157 = .ok (.aload_n 0, 1) := by decide +kernel
theorem d_Z_gauge_158 : decode prog_8_method_42_code 158 = .ok (.getfield (129), 3) := by decide +kernel
theorem d_Z_gauge_161 : decode prog_8_method_42_code 161 = .ok (.iload_n 2, 1) := by decide +kernel
theorem d_Z_gauge_162 : decode prog_8_method_42_code 162 = .ok (.iconst 1, 1) := by decide +kernel
theorem d_Z_gauge_163 : decode prog_8_method_42_code 163 = .ok (.iadd, 1) := by decide +kernel
theorem d_Z_gauge_164 : decode prog_8_method_42_code 164 = .ok (.iaload, 1) := by decide +kernel
theorem d_Z_gauge_165 : decode prog_8_method_42_code 165 = .ok (.if_icmp .ne (14), 3) := by decide +kernel
theorem d_Z_gauge_168 : decode prog_8_method_42_code 168 = .ok (.aload_n 0, 1) := by decide +kernel
theorem d_Z_gauge_169 : decode prog_8_method_42_code 169 = .ok (.getfield (129), 3) := by decide +kernel
theorem d_Z_gauge_172 : decode prog_8_method_42_code 172 = .ok (.iload_n 2, 1) := by decide +kernel
theorem d_Z_gauge_173 : decode prog_8_method_42_code 173 = .ok (.iaload, 1) := by decide +kernel
theorem d_Z_gauge_174 : decode prog_8_method_42_code 174 = .ok (.iconst 1, 1) := by decide +kernel
theorem d_Z_gauge_175 : decode prog_8_method_42_code 175 = .ok (.iadd, 1) := by decide +kernel
theorem d_Z_gauge_176 : decode prog_8_method_42_code 176 = .ok (.goto (37), 3) := by decide +kernel
theorem d_Z_gauge_179 : decode prog_8_method_42_code 179 = .ok (.aload_n 0, 1) := by decide +kernel
theorem d_Z_gauge_180 : decode prog_8_method_42_code 180 = .ok (.getfield (129), 3) := by decide +kernel
theorem d_Z_gauge_183 : decode prog_8_method_42_code 183 = .ok (.iload_n 2, 1) := by decide +kernel
theorem d_Z_gauge_184 : decode prog_8_method_42_code 184 = .ok (.iaload, 1) := by decide +kernel
theorem d_Z_gauge_185 : decode prog_8_method_42_code 185 = .ok (.aload_n 0, 1) := by decide +kernel
theorem d_Z_gauge_186 : decode prog_8_method_42_code 186 = .ok (.getfield (129), 3) := by decide +kernel
theorem d_Z_gauge_189 : decode prog_8_method_42_code 189 = .ok (.iload_n 2, 1) := by decide +kernel
theorem d_Z_gauge_190 : decode prog_8_method_42_code 190 = .ok (.iconst 1, 1) := by decide +kernel
theorem d_Z_gauge_191 : decode prog_8_method_42_code 191 = .ok (.iadd, 1) := by decide +kernel
theorem d_Z_gauge_192 : decode prog_8_method_42_code 192 = .ok (.iaload, 1) := by decide +kernel
theorem d_Z_gauge_193 : decode prog_8_method_42_code 193 = .ok (.if_icmp .le (12), 3) := by decide +kernel
theorem d_Z_gauge_196 : decode prog_8_method_42_code 196 = .ok (.aload_n 0, 1) := by decide +kernel
theorem d_Z_gauge_197 : decode prog_8_method_42_code 197 = .ok (.getfield (129), 3) := by decide +kernel
theorem d_Z_gauge_200 : decode prog_8_method_42_code 200 = .ok (.iload_n 2, 1) := by decide +kernel
theorem d_Z_gauge_201 : decode prog_8_method_42_code 201 = .ok (.iaload, 1) := by decide +kernel
theorem d_Z_gauge_202 : decode prog_8_method_42_code 202 = .ok (.goto (11), 3) := by decide +kernel
theorem d_Z_gauge_205 : decode prog_8_method_42_code 205 = .ok (.aload_n 0, 1) := by decide +kernel
theorem d_Z_gauge_206 : decode prog_8_method_42_code 206 = .ok (.getfield (129), 3) := by decide +kernel
theorem d_Z_gauge_209 : decode prog_8_method_42_code 209 = .ok (.iload_n 2, 1) := by decide +kernel
theorem d_Z_gauge_210 : decode prog_8_method_42_code 210 = .ok (.iconst 1, 1) := by decide +kernel
theorem d_Z_gauge_211 : decode prog_8_method_42_code 211 = .ok (.iadd, 1) := by decide +kernel
theorem d_Z_gauge_212 : decode prog_8_method_42_code 212 = .ok (.iaload, 1) := by decide +kernel
theorem d_Z_gauge_213 : decode prog_8_method_42_code 213 = .ok (.istore (7), 2) := by decide +kernel
theorem d_Z_gauge_215 : decode prog_8_method_42_code 215 = .ok (.iload (4), 2) := by decide +kernel
theorem d_Z_gauge_217 : decode prog_8_method_42_code 217 = .ok (.iconst 1, 1) := by decide +kernel
theorem d_Z_gauge_218 : decode prog_8_method_42_code 218 = .ok (.if_icmp .ne (7), 3) := by decide +kernel
theorem d_Z_gauge_221 : decode prog_8_method_42_code 221 = .ok (.iconst 0, 1) := by decide +kernel
theorem d_Z_gauge_222 : decode prog_8_method_42_code 222 = .ok (.goto (54), 3) := by decide +kernel
theorem d_Z_gauge_225 : decode prog_8_method_42_code 225 = .ok (.iload (4), 2) := by decide +kernel
theorem d_Z_gauge_227 : decode prog_8_method_42_code 227 = .ok (.iconst 2, 1) := by decide +kernel
theorem d_Z_gauge_228 : decode prog_8_method_42_code 228 = .ok (.if_icmp .eq (9), 3) := by decide +kernel
theorem d_Z_gauge_231 : decode prog_8_method_42_code 231 = .ok (.iload (4), 2) := by decide +kernel
theorem d_Z_gauge_233 : decode prog_8_method_42_code 233 = .ok (.iconst 3, 1) := by decide +kernel
theorem d_Z_gauge_234 : decode prog_8_method_42_code 234 = .ok (.if_icmp .ne (7), 3) := by decide +kernel
theorem d_Z_gauge_237 : decode prog_8_method_42_code 237 = .ok (.iconst 1, 1) := by decide +kernel
theorem d_Z_gauge_238 : decode prog_8_method_42_code 238 = .ok (.goto (38), 3) := by decide +kernel
theorem d_Z_gauge_241 : decode prog_8_method_42_code 241 = .ok (.iload (4), 2) := by decide +kernel
theorem d_Z_gauge_243 : decode prog_8_method_42_code 243 = .ok (.bipush (8), 2) := by decide +kernel
theorem d_Z_gauge_245 : decode prog_8_method_42_code 245 = .ok (.if_icmp .ne (23), 3) := by decide +kernel
theorem d_Z_gauge_248 : decode prog_8_method_42_code 248 = .ok (.iconst 1, 1) := by decide +kernel
theorem d_Z_gauge_249 : decode prog_8_method_42_code 249 = .ok (.aload_n 0, 1) := by decide +kernel
theorem d_Z_gauge_250 : decode prog_8_method_42_code 250 = .ok (.getfield (126), 3) := by decide +kernel
theorem d_Z_gauge_253 : decode prog_8_method_42_code 253 = .ok (.iload_n 2, 1) := by decide +kernel
theorem d_Z_gauge_254 : decode prog_8_method_42_code 254 = .ok (.iaload, 1) := by decide +kernel
theorem d_Z_gauge_255 : decode prog_8_method_42_code 255 = .ok (.iadd, 1) := by decide +kernel
theorem d_Z_gauge_256 : decode prog_8_method_42_code 256 = .ok (.aload_n 0, 1) := by decide +kernel
theorem d_Z_gauge_257 : decode prog_8_method_42_code 257 = .ok (.getfield (126), 3) := by decide +kernel
theorem d_Z_gauge_260 : decode prog_8_method_42_code 260 = .ok (.iload_n 2, 1) := by decide +kernel
theorem d_Z_gauge_261 : decode prog_8_method_42_code 261 = .ok (.iconst 1, 1) := by decide +kernel
theorem d_Z_gauge_262 : decode prog_8_method_42_code 262 = .ok (.iadd, 1) := by decide +kernel
theorem d_Z_gauge_263 : decode prog_8_method_42_code 263 = .ok (.iaload, 1) := by decide +kernel
theorem d_Z_gauge_264 : decode prog_8_method_42_code 264 = .ok (.iadd, 1) := by decide +kernel
theorem d_Z_gauge_265 : decode prog_8_method_42_code 265 = .ok (.goto (11), 3) := by decide +kernel
theorem d_Z_gauge_268 : decode prog_8_method_42_code 268 = .ok (.iconst 1, 1) := by decide +kernel
theorem d_Z_gauge_269 : decode prog_8_method_42_code 269 = .ok (.aload_n 0, 1) := by decide +kernel
theorem d_Z_gauge_270 : decode prog_8_method_42_code 270 = .ok (.getfield (126), 3) := by decide +kernel
theorem d_Z_gauge_273 : decode prog_8_method_42_code 273 = .ok (.iload_n 2, 1) := by decide +kernel
theorem d_Z_gauge_274 : decode prog_8_method_42_code 274 = .ok (.iaload, 1) := by decide +kernel
theorem d_Z_gauge_275 : decode prog_8_method_42_code 275 = .ok (.iadd, 1) := by decide +kernel
theorem d_Z_gauge_276 : decode prog_8_method_42_code 276 = .ok (.istore (8), 2) := by decide +kernel
theorem d_Z_gauge_278 : decode prog_8_method_42_code 278 = .ok (.iload (4), 2) := by decide +kernel
theorem d_Z_gauge_280 : decode prog_8_method_42_code 280 = .ok (.iconst 1, 1) := by decide +kernel
theorem d_Z_gauge_281 : decode prog_8_method_42_code 281 = .ok (.if_icmp .ne (7), 3) := by decide +kernel
theorem d_Z_gauge_284 : decode prog_8_method_42_code 284 = .ok (.iconst 0, 1) := by decide +kernel
theorem d_Z_gauge_285 : decode prog_8_method_42_code 285 = .ok (.goto (33), 3) := by decide +kernel
theorem d_Z_gauge_288 : decode prog_8_method_42_code 288 = .ok (.iload (4), 2) := by decide +kernel
theorem d_Z_gauge_290 : decode prog_8_method_42_code 290 = .ok (.iconst 2, 1) := by decide +kernel
theorem d_Z_gauge_291 : decode prog_8_method_42_code 291 = .ok (.if_icmp .eq (9), 3) := by decide +kernel
theorem d_Z_gauge_294 : decode prog_8_method_42_code 294 = .ok (.iload (4), 2) := by decide +kernel
theorem d_Z_gauge_296 : decode prog_8_method_42_code 296 = .ok (.iconst 3, 1) := by decide +kernel
theorem d_Z_gauge_297 : decode prog_8_method_42_code 297 = .ok (.if_icmp .ne (7), 3) := by decide +kernel
theorem d_Z_gauge_300 : decode prog_8_method_42_code 300 = .ok (.iconst 1, 1) := by decide +kernel
theorem d_Z_gauge_301 : decode prog_8_method_42_code 301 = .ok (.goto (17), 3) := by decide +kernel
theorem d_Z_gauge_304 : decode prog_8_method_42_code 304 = .ok (.iload (4), 2) := by decide +kernel
theorem d_Z_gauge_306 : decode prog_8_method_42_code 306 = .ok (.bipush (8), 2) := by decide +kernel
theorem d_Z_gauge_308 : decode prog_8_method_42_code 308 = .ok (.if_icmp .ne (8), 3) := by decide +kernel
theorem d_Z_gauge_311 : decode prog_8_method_42_code 311 = .ok (.iload (7), 2) := by decide +kernel
theorem d_Z_gauge_313 : decode prog_8_method_42_code 313 = .ok (.goto (5), 3) := by decide +kernel
theorem d_Z_gauge_316 : decode prog_8_method_42_code 316 = .ok (.iload (6), 2) := by decide +kernel
theorem d_Z_gauge_318 : decode prog_8_method_42_code 318 = .ok (.istore (9), 2) := by decide +kernel
theorem d_Z_gauge_320 : decode prog_8_method_42_code 320 = .ok (.aload_n 0, 1) := by decide +kernel
theorem d_Z_gauge_321 : decode prog_8_method_42_code 321 = .ok (.getfield (126), 3) := by decide +kernel
theorem d_Z_gauge_324 : decode prog_8_method_42_code 324 = .ok (.iload_n 2, 1) := by decide +kernel
theorem d_Z_gauge_325 : decode prog_8_method_42_code 325 = .ok (.iload (5), 2) := by decide +kernel
theorem d_Z_gauge_327 : decode prog_8_method_42_code 327 = .ok (.ifCond .eq (7), 3) := by decide +kernel
theorem d_Z_gauge_330 : decode prog_8_method_42_code 330 = .ok (.iconst 1, 1) := by decide +kernel
theorem d_Z_gauge_331 : decode prog_8_method_42_code 331 = .ok (.goto (5), 3) := by decide +kernel
theorem d_Z_gauge_334 : decode prog_8_method_42_code 334 = .ok (.iload (8), 2) := by decide +kernel
theorem d_Z_gauge_336 : decode prog_8_method_42_code 336 = .ok (.iastore, 1) := by decide +kernel
theorem d_Z_gauge_337 : decode prog_8_method_42_code 337 = .ok (.aload_n 0, 1) := by decide +kernel
theorem d_Z_gauge_338 : decode prog_8_method_42_code 338 = .ok (.getfield (129), 3) := by decide +kernel
theorem d_Z_gauge_341 : decode prog_8_method_42_code 341 = .ok (.iload_n 2, 1) := by decide +kernel
theorem d_Z_gauge_342 : decode prog_8_method_42_code 342 = .ok (.iload (5), 2) := by decide +kernel
theorem d_Z_gauge_344 : decode prog_8_method_42_code 344 = .ok (.ifCond .eq (7), 3) := by decide +kernel
theorem d_Z_gauge_347 : decode prog_8_method_42_code 347 = .ok (.iconst 1, 1) := by decide +kernel
theorem d_Z_gauge_348 : decode prog_8_method_42_code 348 = .ok (.goto (5), 3) := by decide +kernel
theorem d_Z_gauge_351 : decode prog_8_method_42_code 351 = .ok (.iload (9), 2) := by decide +kernel
theorem d_Z_gauge_353 : decode prog_8_method_42_code 353 = .ok (.iastore, 1) := by decide +kernel
theorem d_Z_gauge_354 : decode prog_8_method_42_code 354 = .ok (.aload_n 0, 1) := by decide +kernel
theorem d_Z_gauge_355 : decode prog_8_method_42_code 355 = .ok (.getfield (132), 3) := by decide +kernel
theorem d_Z_gauge_358 : decode prog_8_method_42_code 358 = .ok (.iload_n 2, 1) := by decide +kernel
theorem d_Z_gauge_359 : decode prog_8_method_42_code 359 = .ok (.iload (5), 2) := by decide +kernel
theorem d_Z_gauge_361 : decode prog_8_method_42_code 361 = .ok (.bastore, 1) := by decide +kernel
theorem d_Z_gauge_362 : decode prog_8_method_42_code 362 = .ok (.iinc 2 (1), 3) := by decide +kernel
theorem d_Z_gauge_365 : decode prog_8_method_42_code 365 = .ok (.iinc 3 (1), 3) := by decide +kernel
theorem d_Z_gauge_368 : decode prog_8_method_42_code 368 = .ok (.goto (-359), 3) := by decide +kernel
theorem d_Z_gauge_371 : decode prog_8_method_42_code 371 = .ok (.aload_n 0, 1) := by decide +kernel
theorem d_Z_gauge_372 : decode prog_8_method_42_code 372 = .ok (.aload_n 0, 1) := by decide +kernel
theorem d_Z_gauge_373 : decode prog_8_method_42_code 373 = .ok (.getfield (129), 3) := by decide +kernel
theorem d_Z_gauge_376 : decode prog_8_method_42_code 376 = .ok (.iconst 0, 1) := by decide +kernel
theorem d_Z_gauge_377 : decode prog_8_method_42_code 377 = .ok (.iaload, 1) := by decide +kernel
theorem d_Z_gauge_378 : decode prog_8_method_42_code 378 = .ok (.aload_n 0, 1) := by decide +kernel
theorem d_Z_gauge_379 : decode prog_8_method_42_code 379 = .ok (.getfield (356), 3) := by decide +kernel
theorem d_Z_gauge_382 : decode prog_8_method_42_code 382 = .ok (.if_icmp .le (12), 3) := by decide +kernel
theorem d_Z_gauge_385 : decode prog_8_method_42_code 385 = .ok (.aload_n 0, 1) := by decide +kernel
theorem d_Z_gauge_386 : decode prog_8_method_42_code 386 = .ok (.getfield (129), 3) := by decide +kernel
theorem d_Z_gauge_389 : decode prog_8_method_42_code 389 = .ok (.iconst 0, 1) := by decide +kernel
theorem d_Z_gauge_390 : decode prog_8_method_42_code 390 = .ok (.iaload, 1) := by decide +kernel
theorem d_Z_gauge_391 : decode prog_8_method_42_code 391 = .ok (.goto (7), 3) := by decide +kernel
theorem d_Z_gauge_394 : decode prog_8_method_42_code 394 = .ok (.aload_n 0, 1) := by decide +kernel
theorem d_Z_gauge_395 : decode prog_8_method_42_code 395 = .ok (.getfield (356), 3) := by decide +kernel
theorem d_Z_gauge_398 : decode prog_8_method_42_code 398 = .ok (.putfield (356), 3) := by decide +kernel
theorem d_Z_gauge_401 : decode prog_8_method_42_code 401 = .ok (.aload_n 0, 1) := by decide +kernel
theorem d_Z_gauge_402 : decode prog_8_method_42_code 402 = .ok (.getfield (126), 3) := by decide +kernel
theorem d_Z_gauge_405 : decode prog_8_method_42_code 405 = .ok (.iconst 0, 1) := by decide +kernel
theorem d_Z_gauge_406 : decode prog_8_method_42_code 406 = .ok (.iaload, 1) := by decide +kernel
theorem d_Z_gauge_407 : decode prog_8_method_42_code 407 = .ok (.ireturn, 1) := by decide +kernel
theorem fd_Z_129 : ax_fd "CipherNotationModel" 129 6 68 := ⟨nC6, nT6, 73, nY6, rfl, nW6, by decide, nw_4 205 (by decide +kernel) rfl, nO6, nA6⟩
theorem fd_Z_126 : ax_fd "CipherNotationModel" 126 6 67 := ⟨nC6, nT6, 73, nY6, rfl, nW6, by decide, nw_4 204 (by decide +kernel) rfl, nO6, nA6⟩
theorem fd_Z_132 : ax_fd "CipherNotationModel" 132 6 69 := ⟨nC6, nT6, 73, nY6, rfl, nW6, by decide, nw_4 206 (by decide +kernel) rfl, nO6, nA6⟩
def lp_Z_gauge_9 (F : Nat) (x1 : Int32) : Nat → Int32 → Int32 → ax_σ → Option (ax_σ)
  | 0, _, _, _ => none
  | n + 1, x2, x3, s =>
    bif ax_in x1 240 then
    if (s.1 0 55 (x1).toNatClampNeg) ≤ x3 then
      some s
    else
      bif ax_in x3 240 then
      Option.bind (
        if (s.1 0 58 (x3).toNatClampNeg) = (8 : Int32) then
          some (x2 - (2 : Int32))
        else
          Option.bind (
            if (s.1 0 58 (x3).toNatClampNeg) = (6 : Int32) then
              some true
            else
              if (s.1 0 58 (x3).toNatClampNeg) = (7 : Int32) then
                some true
              else
                some false) (fun w6 => bif w6 then
            some (x2 - (1 : Int32))
          else
            some x2)) (fun v8 =>
        Option.bind (
          Option.bind (
            if (s.1 0 58 (x3).toNatClampNeg) = (4 : Int32) then
              some true
            else
              if (s.1 0 58 (x3).toNatClampNeg) = (5 : Int32) then
                some true
              else
                some false) (fun w21 => bif w21 then
            some (1 : Int32)
          else
            Option.bind (
              if (s.1 0 58 (x3).toNatClampNeg) = (6 : Int32) then
                some true
              else
                if (s.1 0 58 (x3).toNatClampNeg) = (7 : Int32) then
                  some true
                else
                  if (s.1 0 58 (x3).toNatClampNeg) = (8 : Int32) then
                    some true
                  else
                    some false) (fun w20 => bif w20 then
              bif ax_in v8 16 then
              if (s.1 0 78 (v8).toNatClampNeg) = (0 : Int32) then
                some (0 : Int32)
              else
                Option.bind (
                  if (s.1 0 58 (x3).toNatClampNeg) = (8 : Int32) then
                    bif ax_in (v8 + (1 : Int32)) 16 then
                    if (s.1 0 78 ((v8 + (1 : Int32))).toNatClampNeg) = (0 : Int32) then
                      some false
                    else
                      some true
                    else none
                  else
                    some true) (fun w18 => bif w18 then
                  some (1 : Int32)
                else
                  some (0 : Int32))
              else none
            else
              some (0 : Int32)))) (fun v22 =>
          bif ax_in v8 16 then
          Option.bind (
            if (1 : Int32) ≤ (s.1 0 77 (v8).toNatClampNeg) then
              bif ax_in v8 16 then
              some (s.1 0 77 (v8).toNatClampNeg)
              else none
            else
              some (1 : Int32)) (fun v26 =>
            bif ax_in v8 16 then
            bif ax_in (v8 + (1 : Int32)) 16 then
            Option.bind (
              if (s.1 0 77 (v8).toNatClampNeg) = (s.1 0 77 ((v8 + (1 : Int32))).toNatClampNeg) then
                bif ax_in v8 16 then
                some ((s.1 0 77 (v8).toNatClampNeg) + (1 : Int32))
                else none
              else
                bif ax_in v8 16 then
                bif ax_in (v8 + (1 : Int32)) 16 then
                if (s.1 0 77 (v8).toNatClampNeg) ≤ (s.1 0 77 ((v8 + (1 : Int32))).toNatClampNeg) then
                  bif ax_in (v8 + (1 : Int32)) 16 then
                  some (s.1 0 77 ((v8 + (1 : Int32))).toNatClampNeg)
                  else none
                else
                  bif ax_in v8 16 then
                  some (s.1 0 77 (v8).toNatClampNeg)
                  else none
                else none
                else none) (fun v36 =>
              Option.bind (
                if (s.1 0 58 (x3).toNatClampNeg) = (1 : Int32) then
                  some (0 : Int32)
                else
                  Option.bind (
                    if (s.1 0 58 (x3).toNatClampNeg) = (2 : Int32) then
                      some true
                    else
                      if (s.1 0 58 (x3).toNatClampNeg) = (3 : Int32) then
                        some true
                      else
                        some false) (fun w43 => bif w43 then
                    some (1 : Int32)
                  else
                    if (s.1 0 58 (x3).toNatClampNeg) = (8 : Int32) then
                      bif ax_in v8 16 then
                      bif ax_in (v8 + (1 : Int32)) 16 then
                      some (((1 : Int32) + (s.1 0 76 (v8).toNatClampNeg)) + (s.1 0 76 ((v8 + (1 : Int32))).toNatClampNeg))
                      else none
                      else none
                    else
                      bif ax_in v8 16 then
                      some ((1 : Int32) + (s.1 0 76 (v8).toNatClampNeg))
                      else none)) (fun v45 =>
                Option.bind (
                  if (s.1 0 58 (x3).toNatClampNeg) = (1 : Int32) then
                    some (0 : Int32)
                  else
                    Option.bind (
                      if (s.1 0 58 (x3).toNatClampNeg) = (2 : Int32) then
                        some true
                      else
                        if (s.1 0 58 (x3).toNatClampNeg) = (3 : Int32) then
                          some true
                        else
                          some false) (fun w49 => bif w49 then
                      some (1 : Int32)
                    else
                      if (s.1 0 58 (x3).toNatClampNeg) = (8 : Int32) then
                        some v36
                      else
                        some v26)) (fun v51 =>
                  Option.bind (
                    if v22 = (0 : Int32) then
                      some v45
                    else
                      some (1 : Int32)) (fun v53 =>
                    bif ax_in v8 16 then
                    ax_let (ax_wI s 0 76 (v8).toNatClampNeg v53) (fun s55 =>
                      Option.bind (
                        if v22 = (0 : Int32) then
                          some v51
                        else
                          some (1 : Int32)) (fun v57 =>
                        bif ax_in v8 16 then
                        ax_let (ax_wI s55 0 77 (v8).toNatClampNeg v57) (fun s59 =>
                          bif ax_in v8 16 then
                          ax_let (ax_wI s59 0 78 (v8).toNatClampNeg (vp_nar .boolean v22)) (fun s61 =>
                            lp_Z_gauge_9 F x1 n (v8 + (1 : Int32)) (x3 + (1 : Int32)) s61)
                          else none)
                        else none))
                    else none))))
            else none
            else none)
          else none))
      else none
    else none
set_option maxHeartbeats 4000000 in
set_option maxRecDepth 100000 in
theorem pl_Z_gauge_9 {D : va_G} {cA : Nat → ClassId} {ad : Nat → Nat → Nat} {al : List (Nat × Nat)} {θ : ax_Θ} {l : Launch} {ρ : ax_ρ} {G : ax_G} {F : Nat} {x1 : Int32} (h0 : ax_M0 al) (hB : ax_B D cA ad al θ l "CipherNotationModel" prog_8_method_42_code 10 0 G) : ∀ (n : Nat) {x2 : Int32} {x3 : Int32} {s : ax_σ} (out : ax_σ), lp_Z_gauge_9 F x1 n x2 x3 s = some out → (∀ (es : ax_σ), out = es → ax_R G 10 0 0 (371, [(0, .inr (0, 38))], [], ax_m (es) ρ)) → ax_R G 10 0 0 (9, [(0, .inr (0, 38)), (1, .inl (.int (x1))), (2, .inl (.int (x2))), (3, .inl (.int (x3)))], [], ax_m (s) ρ) := by
  have hK := hB.K
  have hal := hB.la
  intro n
  induction n with
  | zero =>
    intro x2 x3 s out h
    cases h
  | succ n ih =>
    intro x2 x3 s out h KE
    rw [lp_Z_gauge_9] at h
    obtain ⟨b2, h⟩ := ax_gd h
    refine ax_bk hK (ax_fc (ax_v_ld (ax_r_iload_n (i := 3) d_Z_gauge_9 rfl)) (ax_fc (ax_v_ld (ax_r_aload_n (i := 0) d_Z_gauge_10 rfl)) (ax_fc (ax_w_gf (e := none) hal d_Z_gauge_11 fd_Z_63) (ax_fc (ax_v_ld (ax_r_iload_n (i := 1) d_Z_gauge_14 rfl)) (ax_fc (ax_w_iald hal d_Z_gauge_15) ax_fn))))) (y := (16, [(0, .inr (0, 38)), (1, .inl (.int (x1))), (2, .inl (.int (x2))), (3, .inl (.int (x3)))], [.inl (.int ((s.1 0 55 (x1).toNatClampNeg))), .inl (.int (x3))], ax_m (s) ρ)) rfl ⟨trivial, trivial, (h0 38 rfl), trivial, ⟨(h0 55 rfl), ax_inp b2⟩, trivial⟩ ?_
    refine ax_ic_ge (tgt := 371) hK d_Z_gauge_16 (by decide) (fun c62 => ?_) (fun c62 => ?_)
    · replace h := ax_it c62 h
      cases h
      exact ax_Lsub [0] rfl (KE _ rfl)
    · replace h := ax_if c62 h
      obtain ⟨b3, h⟩ := ax_gd h
      refine ax_bk hK (ax_fc (ax_v_ld (ax_r_aload_n (i := 0) d_Z_gauge_19 rfl)) (ax_fc (ax_w_gf (e := none) hal d_Z_gauge_20 fd_Z_72) (ax_fc (ax_v_ld (ax_r_iload_n (i := 3) d_Z_gauge_23 rfl)) (ax_fc (ax_w_iald hal d_Z_gauge_24) (ax_fc (ax_v_so (ax_r_istore d_Z_gauge_25)) (ax_fc (ax_v_ld (ax_r_iload d_Z_gauge_27)) (ax_fc (ax_v_pu (ax_r_bipush (v := 8) d_Z_gauge_29 (by decide))) ax_fn))))))) (y := (31, [(4, .inl (.int ((s.1 0 58 (x3).toNatClampNeg)))), (0, .inr (0, 38)), (1, .inl (.int (x1))), (2, .inl (.int (x2))), (3, .inl (.int (x3)))], [.inl (.int ((8 : Int32))), .inl (.int ((s.1 0 58 (x3).toNatClampNeg)))], ax_m (s) ρ)) rfl ⟨trivial, (h0 38 rfl), trivial, ⟨(h0 58 rfl), ax_inp b3⟩, trivial, trivial, trivial, trivial⟩ ?_
      obtain ⟨w63, hw63, h⟩ := ax_bd h
      have KEw63 : ∀ (v8 : Int32), w63 = v8 → ax_R G 10 0 0 (61, [(0, .inr (0, 38)), (1, .inl (.int (x1))), (3, .inl (.int (x3))), (4, .inl (.int ((s.1 0 58 (x3).toNatClampNeg))))], [.inl (.int (v8))], ax_m (s) ρ) := by
        intro v8 e9
        subst w63
        try dsimp only at h
        refine ax_bk hK (ax_fc (ax_v_so (ax_r_istore_n (i := 2) d_Z_gauge_61 rfl)) (ax_fc (ax_v_ld (ax_r_iload d_Z_gauge_62)) (ax_fc (ax_v_pu (ax_r_iconst (v := 4) d_Z_gauge_64 (by decide))) ax_fn))) (y := (65, [(2, .inl (.int (v8))), (0, .inr (0, 38)), (1, .inl (.int (x1))), (3, .inl (.int (x3))), (4, .inl (.int ((s.1 0 58 (x3).toNatClampNeg))))], [.inl (.int ((4 : Int32))), .inl (.int ((s.1 0 58 (x3).toNatClampNeg)))], ax_m (s) ρ)) rfl ⟨trivial, trivial, trivial, trivial⟩ ?_
        obtain ⟨w64, hw64, h⟩ := ax_bd h
        have KEw64 : ∀ (v22 : Int32), w64 = v22 → ax_R G 10 0 0 (127, [(0, .inr (0, 38)), (1, .inl (.int (x1))), (2, .inl (.int (v8))), (3, .inl (.int (x3))), (4, .inl (.int ((s.1 0 58 (x3).toNatClampNeg))))], [.inl (.int (v22))], ax_m (s) ρ) := by
          intro v22 e9
          subst w64
          try dsimp only at h
          obtain ⟨b23, h⟩ := ax_gd h
          refine ax_bk hK (ax_fc (ax_v_so (ax_r_istore d_Z_gauge_127)) (ax_fc (ax_v_ld (ax_r_aload_n (i := 0) d_Z_gauge_129 rfl)) (ax_fc (ax_w_gf (e := none) hal d_Z_gauge_130 fd_Z_129) (ax_fc (ax_v_ld (ax_r_iload_n (i := 2) d_Z_gauge_133 rfl)) (ax_fc (ax_w_iald hal d_Z_gauge_134) (ax_fc (ax_v_pu (ax_r_iconst (v := 1) d_Z_gauge_135 (by decide))) ax_fn)))))) (y := (136, [(5, .inl (.int (v22))), (0, .inr (0, 38)), (1, .inl (.int (x1))), (2, .inl (.int (v8))), (3, .inl (.int (x3))), (4, .inl (.int ((s.1 0 58 (x3).toNatClampNeg))))], [.inl (.int ((1 : Int32))), .inl (.int ((s.1 0 77 (v8).toNatClampNeg)))], ax_m (s) ρ)) rfl ⟨trivial, trivial, (h0 38 rfl), trivial, ⟨(h0 77 rfl), ax_inp b23⟩, trivial, trivial⟩ ?_
          obtain ⟨w65, hw65, h⟩ := ax_bd h
          have KEw65 : ∀ (v26 : Int32), w65 = v26 → ax_R G 10 0 0 (149, [(0, .inr (0, 38)), (1, .inl (.int (x1))), (2, .inl (.int (v8))), (3, .inl (.int (x3))), (4, .inl (.int ((s.1 0 58 (x3).toNatClampNeg)))), (5, .inl (.int (v22)))], [.inl (.int (v26))], ax_m (s) ρ) := by
            intro v26 e9
            subst w65
            try dsimp only at h
            obtain ⟨b27, h⟩ := ax_gd h
            obtain ⟨b28, h⟩ := ax_gd h
            refine ax_bk hK (ax_fc (ax_v_so (ax_r_istore d_Z_gauge_149)) (ax_fc (ax_v_ld (ax_r_aload_n (i := 0) d_Z_gauge_151 rfl)) (ax_fc (ax_w_gf (e := none) hal d_Z_gauge_152 fd_Z_129) (ax_fc (ax_v_ld (ax_r_iload_n (i := 2) d_Z_gauge_155 rfl)) (ax_fc (ax_w_iald hal d_Z_gauge_156) (ax_fc (ax_v_ld (ax_r_aload_n (i := 0) d_Z_gauge_157 rfl)) (ax_fc (ax_w_gf (e := none) hal d_Z_gauge_158 fd_Z_129) (ax_fc (ax_v_ld (ax_r_iload_n (i := 2) d_Z_gauge_161 rfl)) (ax_fc (ax_v_pu (ax_r_iconst (v := 1) d_Z_gauge_162 (by decide))) (ax_fc (ax_v_pu (ax_r_iadd d_Z_gauge_163)) (ax_fc (ax_w_iald hal d_Z_gauge_164) ax_fn))))))))))) (y := (165, [(6, .inl (.int (v26))), (0, .inr (0, 38)), (1, .inl (.int (x1))), (2, .inl (.int (v8))), (3, .inl (.int (x3))), (4, .inl (.int ((s.1 0 58 (x3).toNatClampNeg)))), (5, .inl (.int (v22)))], [.inl (.int ((s.1 0 77 ((v8 + (1 : Int32))).toNatClampNeg))), .inl (.int ((s.1 0 77 (v8).toNatClampNeg)))], ax_m (s) ρ)) rfl ⟨trivial, trivial, (h0 38 rfl), trivial, ⟨(h0 77 rfl), ax_inp b27⟩, trivial, (h0 38 rfl), trivial, trivial, trivial, ⟨(h0 77 rfl), ax_inp b28⟩, trivial⟩ ?_
            obtain ⟨w66, hw66, h⟩ := ax_bd h
            have KEw66 : ∀ (v36 : Int32), w66 = v36 → ax_R G 10 0 0 (213, [(0, .inr (0, 38)), (1, .inl (.int (x1))), (2, .inl (.int (v8))), (3, .inl (.int (x3))), (4, .inl (.int ((s.1 0 58 (x3).toNatClampNeg)))), (5, .inl (.int (v22))), (6, .inl (.int (v26)))], [.inl (.int (v36))], ax_m (s) ρ) := by
              intro v36 e9
              subst w66
              try dsimp only at h
              refine ax_bk hK (ax_fc (ax_v_so (ax_r_istore d_Z_gauge_213)) (ax_fc (ax_v_ld (ax_r_iload d_Z_gauge_215)) (ax_fc (ax_v_pu (ax_r_iconst (v := 1) d_Z_gauge_217 (by decide))) ax_fn))) (y := (218, [(7, .inl (.int (v36))), (0, .inr (0, 38)), (1, .inl (.int (x1))), (2, .inl (.int (v8))), (3, .inl (.int (x3))), (4, .inl (.int ((s.1 0 58 (x3).toNatClampNeg)))), (5, .inl (.int (v22))), (6, .inl (.int (v26)))], [.inl (.int ((1 : Int32))), .inl (.int ((s.1 0 58 (x3).toNatClampNeg)))], ax_m (s) ρ)) rfl ⟨trivial, trivial, trivial, trivial⟩ ?_
              obtain ⟨w67, hw67, h⟩ := ax_bd h
              have KEw67 : ∀ (v45 : Int32), w67 = v45 → ax_R G 10 0 0 (276, [(0, .inr (0, 38)), (1, .inl (.int (x1))), (2, .inl (.int (v8))), (3, .inl (.int (x3))), (4, .inl (.int ((s.1 0 58 (x3).toNatClampNeg)))), (5, .inl (.int (v22))), (6, .inl (.int (v26))), (7, .inl (.int (v36)))], [.inl (.int (v45))], ax_m (s) ρ) := by
                intro v45 e9
                subst w67
                try dsimp only at h
                refine ax_bk hK (ax_fc (ax_v_so (ax_r_istore d_Z_gauge_276)) (ax_fc (ax_v_ld (ax_r_iload d_Z_gauge_278)) (ax_fc (ax_v_pu (ax_r_iconst (v := 1) d_Z_gauge_280 (by decide))) ax_fn))) (y := (281, [(8, .inl (.int (v45))), (0, .inr (0, 38)), (1, .inl (.int (x1))), (2, .inl (.int (v8))), (3, .inl (.int (x3))), (4, .inl (.int ((s.1 0 58 (x3).toNatClampNeg)))), (5, .inl (.int (v22))), (6, .inl (.int (v26))), (7, .inl (.int (v36)))], [.inl (.int ((1 : Int32))), .inl (.int ((s.1 0 58 (x3).toNatClampNeg)))], ax_m (s) ρ)) rfl ⟨trivial, trivial, trivial, trivial⟩ ?_
                obtain ⟨w68, hw68, h⟩ := ax_bd h
                have KEw68 : ∀ (v51 : Int32), w68 = v51 → ax_R G 10 0 0 (318, [(0, .inr (0, 38)), (1, .inl (.int (x1))), (2, .inl (.int (v8))), (3, .inl (.int (x3))), (5, .inl (.int (v22))), (8, .inl (.int (v45)))], [.inl (.int (v51))], ax_m (s) ρ) := by
                  intro v51 e9
                  subst w68
                  try dsimp only at h
                  refine ax_bk hK (ax_fc (ax_v_so (ax_r_istore d_Z_gauge_318)) (ax_fc (ax_v_ld (ax_r_aload_n (i := 0) d_Z_gauge_320 rfl)) (ax_fc (ax_w_gf (e := none) hal d_Z_gauge_321 fd_Z_126) (ax_fc (ax_v_ld (ax_r_iload_n (i := 2) d_Z_gauge_324 rfl)) (ax_fc (ax_v_ld (ax_r_iload d_Z_gauge_325)) ax_fn))))) (y := (327, [(9, .inl (.int (v51))), (0, .inr (0, 38)), (1, .inl (.int (x1))), (2, .inl (.int (v8))), (3, .inl (.int (x3))), (5, .inl (.int (v22))), (8, .inl (.int (v45)))], [.inl (.int (v22)), .inl (.int (v8)), .inr (0, 76)], ax_m (s) ρ)) rfl ⟨trivial, trivial, (h0 38 rfl), trivial, trivial, trivial⟩ ?_
                  obtain ⟨w69, hw69, h⟩ := ax_bd h
                  have KEw69 : ∀ (v53 : Int32), w69 = v53 → ax_R G 10 0 0 (336, [(0, .inr (0, 38)), (1, .inl (.int (x1))), (2, .inl (.int (v8))), (3, .inl (.int (x3))), (5, .inl (.int (v22))), (9, .inl (.int (v51)))], [.inl (.int (v53)), .inl (.int (v8)), .inr (0, 76)], ax_m (s) ρ) := by
                    intro v53 e9
                    subst w69
                    try dsimp only at h
                    obtain ⟨b54, h⟩ := ax_gd h
                    refine ax_bk hK (ax_fc (ax_w_iast hal d_Z_gauge_336) ax_fn) (y := (337, [(0, .inr (0, 38)), (1, .inl (.int (x1))), (2, .inl (.int (v8))), (3, .inl (.int (x3))), (5, .inl (.int (v22))), (9, .inl (.int (v51)))], [], ax_m (ax_wI s 0 76 (v8).toNatClampNeg v53) ρ)) rfl ⟨⟨(h0 76 rfl), ax_inp b54⟩, trivial⟩ ?_
                    refine ax_lt (Q := fun ςς => ax_R G 10 0 0 (337, [(0, .inr (0, 38)), (1, .inl (.int (x1))), (2, .inl (.int (v8))), (3, .inl (.int (x3))), (5, .inl (.int (v22))), (9, .inl (.int (v51)))], [], ax_m (ςς) ρ)) h (fun s55 h => ?_)
                    refine ax_bk hK (ax_fc (ax_v_ld (ax_r_aload_n (i := 0) d_Z_gauge_337 rfl)) (ax_fc (ax_w_gf (e := none) hal d_Z_gauge_338 fd_Z_129) (ax_fc (ax_v_ld (ax_r_iload_n (i := 2) d_Z_gauge_341 rfl)) (ax_fc (ax_v_ld (ax_r_iload d_Z_gauge_342)) ax_fn)))) (y := (344, [(0, .inr (0, 38)), (1, .inl (.int (x1))), (2, .inl (.int (v8))), (3, .inl (.int (x3))), (5, .inl (.int (v22))), (9, .inl (.int (v51)))], [.inl (.int (v22)), .inl (.int (v8)), .inr (0, 77)], ax_m (s55) ρ)) rfl ⟨trivial, (h0 38 rfl), trivial, trivial, trivial⟩ ?_
                    obtain ⟨w70, hw70, h⟩ := ax_bd h
                    have KEw70 : ∀ (v57 : Int32), w70 = v57 → ax_R G 10 0 0 (353, [(0, .inr (0, 38)), (1, .inl (.int (x1))), (2, .inl (.int (v8))), (3, .inl (.int (x3))), (5, .inl (.int (v22)))], [.inl (.int (v57)), .inl (.int (v8)), .inr (0, 77)], ax_m (s55) ρ) := by
                      intro v57 e9
                      subst w70
                      try dsimp only at h
                      obtain ⟨b58, h⟩ := ax_gd h
                      refine ax_bk hK (ax_fc (ax_w_iast hal d_Z_gauge_353) ax_fn) (y := (354, [(0, .inr (0, 38)), (1, .inl (.int (x1))), (2, .inl (.int (v8))), (3, .inl (.int (x3))), (5, .inl (.int (v22)))], [], ax_m (ax_wI s55 0 77 (v8).toNatClampNeg v57) ρ)) rfl ⟨⟨(h0 77 rfl), ax_inp b58⟩, trivial⟩ ?_
                      refine ax_lt (Q := fun ςς => ax_R G 10 0 0 (354, [(0, .inr (0, 38)), (1, .inl (.int (x1))), (2, .inl (.int (v8))), (3, .inl (.int (x3))), (5, .inl (.int (v22)))], [], ax_m (ςς) ρ)) h (fun s59 h => ?_)
                      obtain ⟨b60, h⟩ := ax_gd h
                      refine ax_bk hK (ax_fc (ax_v_ld (ax_r_aload_n (i := 0) d_Z_gauge_354 rfl)) (ax_fc (ax_w_gf (e := none) hal d_Z_gauge_355 fd_Z_132) (ax_fc (ax_v_ld (ax_r_iload_n (i := 2) d_Z_gauge_358 rfl)) (ax_fc (ax_v_ld (ax_r_iload d_Z_gauge_359)) (ax_fc (ax_w_zast hal d_Z_gauge_361) ax_fn))))) (y := (362, [(0, .inr (0, 38)), (1, .inl (.int (x1))), (2, .inl (.int (v8))), (3, .inl (.int (x3))), (5, .inl (.int (v22)))], [], ax_m (ax_wI s59 0 78 (v8).toNatClampNeg (vp_nar .boolean v22)) ρ)) rfl ⟨trivial, (h0 38 rfl), trivial, trivial, ⟨(h0 78 rfl), ax_inp b60⟩, trivial⟩ ?_
                      refine ax_lt (Q := fun ςς => ax_R G 10 0 0 (362, [(0, .inr (0, 38)), (1, .inl (.int (x1))), (2, .inl (.int (v8))), (3, .inl (.int (x3))), (5, .inl (.int (v22)))], [], ax_m (ςς) ρ)) h (fun s61 h => ?_)
                      refine ax_bk hK (ax_fc (ax_v_ii (d := 1) d_Z_gauge_362 (by decide)) (ax_fc (ax_v_ii (d := 1) d_Z_gauge_365 (by decide)) (ax_fc (ax_v_go (tgt := 9) d_Z_gauge_368 (by decide)) ax_fn))) (y := (9, [(3, .inl (.int ((x3 + (1 : Int32))))), (2, .inl (.int ((v8 + (1 : Int32))))), (0, .inr (0, 38)), (1, .inl (.int (x1))), (5, .inl (.int (v22)))], [], ax_m (s61) ρ)) rfl ⟨trivial, trivial, trivial, trivial⟩ ?_
                      exact ax_Lsub [2, 3, 1, 0] rfl (ih _ h KE)
                    clear h
                    have h := hw70
                    refine ax_if_eq (tgt := 351) hK d_Z_gauge_344 (by decide) (fun c56 => ?_) (fun c56 => ?_)
                    · replace h := ax_it c56 h
                      refine ax_bk hK (ax_fc (ax_v_ld (ax_r_iload d_Z_gauge_351)) ax_fn) (y := (353, [(0, .inr (0, 38)), (1, .inl (.int (x1))), (2, .inl (.int (v8))), (3, .inl (.int (x3))), (5, .inl (.int (v22))), (9, .inl (.int (v51)))], [.inl (.int (v51)), .inl (.int (v8)), .inr (0, 77)], ax_m (s55) ρ)) rfl ⟨trivial, trivial⟩ ?_
                      cases h
                      exact ax_Lsub [0, 1, 2, 3, 4] rfl (KEw70 _ rfl)
                    · replace h := ax_if c56 h
                      refine ax_bk hK (ax_fc (ax_v_pu (ax_r_iconst (v := 1) d_Z_gauge_347 (by decide))) (ax_fc (ax_v_go (tgt := 353) d_Z_gauge_348 (by decide)) ax_fn)) (y := (353, [(0, .inr (0, 38)), (1, .inl (.int (x1))), (2, .inl (.int (v8))), (3, .inl (.int (x3))), (5, .inl (.int (v22))), (9, .inl (.int (v51)))], [.inl (.int ((1 : Int32))), .inl (.int (v8)), .inr (0, 77)], ax_m (s55) ρ)) rfl ⟨trivial, trivial, trivial⟩ ?_
                      cases h
                      exact ax_Lsub [0, 1, 2, 3, 4] rfl (KEw70 _ rfl)
                  clear h
                  have h := hw69
                  refine ax_if_eq (tgt := 334) hK d_Z_gauge_327 (by decide) (fun c52 => ?_) (fun c52 => ?_)
                  · replace h := ax_it c52 h
                    refine ax_bk hK (ax_fc (ax_v_ld (ax_r_iload d_Z_gauge_334)) ax_fn) (y := (336, [(9, .inl (.int (v51))), (0, .inr (0, 38)), (1, .inl (.int (x1))), (2, .inl (.int (v8))), (3, .inl (.int (x3))), (5, .inl (.int (v22))), (8, .inl (.int (v45)))], [.inl (.int (v45)), .inl (.int (v8)), .inr (0, 76)], ax_m (s) ρ)) rfl ⟨trivial, trivial⟩ ?_
                    cases h
                    exact ax_Lsub [1, 2, 3, 4, 5, 0] rfl (KEw69 _ rfl)
                  · replace h := ax_if c52 h
                    refine ax_bk hK (ax_fc (ax_v_pu (ax_r_iconst (v := 1) d_Z_gauge_330 (by decide))) (ax_fc (ax_v_go (tgt := 336) d_Z_gauge_331 (by decide)) ax_fn)) (y := (336, [(9, .inl (.int (v51))), (0, .inr (0, 38)), (1, .inl (.int (x1))), (2, .inl (.int (v8))), (3, .inl (.int (x3))), (5, .inl (.int (v22))), (8, .inl (.int (v45)))], [.inl (.int ((1 : Int32))), .inl (.int (v8)), .inr (0, 76)], ax_m (s) ρ)) rfl ⟨trivial, trivial, trivial⟩ ?_
                    cases h
                    exact ax_Lsub [1, 2, 3, 4, 5, 0] rfl (KEw69 _ rfl)
                clear h
                have h := hw68
                refine ax_ic_ne (tgt := 288) hK d_Z_gauge_281 (by decide) (fun c50 => ?_) (fun c50 => ?_)
                · replace h := ax_if c50 h
                  refine ax_bk hK (ax_fc (ax_v_ld (ax_r_iload d_Z_gauge_288)) (ax_fc (ax_v_pu (ax_r_iconst (v := 2) d_Z_gauge_290 (by decide))) ax_fn)) (y := (291, [(8, .inl (.int (v45))), (0, .inr (0, 38)), (1, .inl (.int (x1))), (2, .inl (.int (v8))), (3, .inl (.int (x3))), (4, .inl (.int ((s.1 0 58 (x3).toNatClampNeg)))), (5, .inl (.int (v22))), (6, .inl (.int (v26))), (7, .inl (.int (v36)))], [.inl (.int ((2 : Int32))), .inl (.int ((s.1 0 58 (x3).toNatClampNeg)))], ax_m (s) ρ)) rfl ⟨trivial, trivial, trivial⟩ ?_
                  obtain ⟨w49, hw49, h⟩ := ax_bd h
                  have KTw49 : w49 = true → ax_R G 10 0 0 (300, [(0, .inr (0, 38)), (1, .inl (.int (x1))), (2, .inl (.int (v8))), (3, .inl (.int (x3))), (5, .inl (.int (v22))), (8, .inl (.int (v45)))], [], ax_m (s) ρ) := by
                    intro e9
                    subst w49
                    replace h := ax_ct h
                    refine ax_bk hK (ax_fc (ax_v_pu (ax_r_iconst (v := 1) d_Z_gauge_300 (by decide))) (ax_fc (ax_v_go (tgt := 318) d_Z_gauge_301 (by decide)) ax_fn)) (y := (318, [(0, .inr (0, 38)), (1, .inl (.int (x1))), (2, .inl (.int (v8))), (3, .inl (.int (x3))), (5, .inl (.int (v22))), (8, .inl (.int (v45)))], [.inl (.int ((1 : Int32)))], ax_m (s) ρ)) rfl ⟨trivial, trivial, trivial⟩ ?_
                    cases h
                    exact ax_Lsub [0, 1, 2, 3, 4, 5] rfl (KEw68 _ rfl)
                  have KFw49 : w49 = false → ax_R G 10 0 0 (304, [(0, .inr (0, 38)), (1, .inl (.int (x1))), (2, .inl (.int (v8))), (3, .inl (.int (x3))), (4, .inl (.int ((s.1 0 58 (x3).toNatClampNeg)))), (5, .inl (.int (v22))), (6, .inl (.int (v26))), (7, .inl (.int (v36))), (8, .inl (.int (v45)))], [], ax_m (s) ρ) := by
                    intro e9
                    subst w49
                    replace h := ax_cf h
                    refine ax_bk hK (ax_fc (ax_v_ld (ax_r_iload d_Z_gauge_304)) (ax_fc (ax_v_pu (ax_r_bipush (v := 8) d_Z_gauge_306 (by decide))) ax_fn)) (y := (308, [(0, .inr (0, 38)), (1, .inl (.int (x1))), (2, .inl (.int (v8))), (3, .inl (.int (x3))), (4, .inl (.int ((s.1 0 58 (x3).toNatClampNeg)))), (5, .inl (.int (v22))), (6, .inl (.int (v26))), (7, .inl (.int (v36))), (8, .inl (.int (v45)))], [.inl (.int ((8 : Int32))), .inl (.int ((s.1 0 58 (x3).toNatClampNeg)))], ax_m (s) ρ)) rfl ⟨trivial, trivial, trivial⟩ ?_
                    refine ax_ic_ne (tgt := 316) hK d_Z_gauge_308 (by decide) (fun c48 => ?_) (fun c48 => ?_)
                    · replace h := ax_if c48 h
                      refine ax_bk hK (ax_fc (ax_v_ld (ax_r_iload d_Z_gauge_316)) ax_fn) (y := (318, [(0, .inr (0, 38)), (1, .inl (.int (x1))), (2, .inl (.int (v8))), (3, .inl (.int (x3))), (4, .inl (.int ((s.1 0 58 (x3).toNatClampNeg)))), (5, .inl (.int (v22))), (6, .inl (.int (v26))), (7, .inl (.int (v36))), (8, .inl (.int (v45)))], [.inl (.int (v26))], ax_m (s) ρ)) rfl ⟨trivial, trivial⟩ ?_
                      cases h
                      exact ax_Lsub [0, 1, 2, 3, 5, 8] rfl (KEw68 _ rfl)
                    · replace h := ax_it c48 h
                      refine ax_bk hK (ax_fc (ax_v_ld (ax_r_iload d_Z_gauge_311)) (ax_fc (ax_v_go (tgt := 318) d_Z_gauge_313 (by decide)) ax_fn)) (y := (318, [(0, .inr (0, 38)), (1, .inl (.int (x1))), (2, .inl (.int (v8))), (3, .inl (.int (x3))), (4, .inl (.int ((s.1 0 58 (x3).toNatClampNeg)))), (5, .inl (.int (v22))), (6, .inl (.int (v26))), (7, .inl (.int (v36))), (8, .inl (.int (v45)))], [.inl (.int (v36))], ax_m (s) ρ)) rfl ⟨trivial, trivial, trivial⟩ ?_
                      cases h
                      exact ax_Lsub [0, 1, 2, 3, 5, 8] rfl (KEw68 _ rfl)
                  clear h
                  have h := hw49
                  refine ax_ic_eq (tgt := 300) hK d_Z_gauge_291 (by decide) (fun c47 => ?_) (fun c47 => ?_)
                  · replace h := ax_it c47 h
                    cases h
                    exact ax_Lsub [1, 2, 3, 4, 6, 0] rfl (KTw49 rfl)
                  · replace h := ax_if c47 h
                    refine ax_bk hK (ax_fc (ax_v_ld (ax_r_iload d_Z_gauge_294)) (ax_fc (ax_v_pu (ax_r_iconst (v := 3) d_Z_gauge_296 (by decide))) ax_fn)) (y := (297, [(8, .inl (.int (v45))), (0, .inr (0, 38)), (1, .inl (.int (x1))), (2, .inl (.int (v8))), (3, .inl (.int (x3))), (4, .inl (.int ((s.1 0 58 (x3).toNatClampNeg)))), (5, .inl (.int (v22))), (6, .inl (.int (v26))), (7, .inl (.int (v36)))], [.inl (.int ((3 : Int32))), .inl (.int ((s.1 0 58 (x3).toNatClampNeg)))], ax_m (s) ρ)) rfl ⟨trivial, trivial, trivial⟩ ?_
                    refine ax_ic_ne (tgt := 304) hK d_Z_gauge_297 (by decide) (fun c46 => ?_) (fun c46 => ?_)
                    · replace h := ax_if c46 h
                      cases h
                      exact ax_Lsub [1, 2, 3, 4, 5, 6, 7, 8, 0] rfl (KFw49 rfl)
                    · replace h := ax_it c46 h
                      cases h
                      exact ax_Lsub [1, 2, 3, 4, 6, 0] rfl (KTw49 rfl)
                · replace h := ax_it c50 h
                  refine ax_bk hK (ax_fc (ax_v_pu (ax_r_iconst (v := 0) d_Z_gauge_284 (by decide))) (ax_fc (ax_v_go (tgt := 318) d_Z_gauge_285 (by decide)) ax_fn)) (y := (318, [(8, .inl (.int (v45))), (0, .inr (0, 38)), (1, .inl (.int (x1))), (2, .inl (.int (v8))), (3, .inl (.int (x3))), (4, .inl (.int ((s.1 0 58 (x3).toNatClampNeg)))), (5, .inl (.int (v22))), (6, .inl (.int (v26))), (7, .inl (.int (v36)))], [.inl (.int ((0 : Int32)))], ax_m (s) ρ)) rfl ⟨trivial, trivial, trivial⟩ ?_
                  cases h
                  exact ax_Lsub [1, 2, 3, 4, 6, 0] rfl (KEw68 _ rfl)
              clear h
              have h := hw67
              refine ax_ic_ne (tgt := 225) hK d_Z_gauge_218 (by decide) (fun c44 => ?_) (fun c44 => ?_)
              · replace h := ax_if c44 h
                refine ax_bk hK (ax_fc (ax_v_ld (ax_r_iload d_Z_gauge_225)) (ax_fc (ax_v_pu (ax_r_iconst (v := 2) d_Z_gauge_227 (by decide))) ax_fn)) (y := (228, [(7, .inl (.int (v36))), (0, .inr (0, 38)), (1, .inl (.int (x1))), (2, .inl (.int (v8))), (3, .inl (.int (x3))), (4, .inl (.int ((s.1 0 58 (x3).toNatClampNeg)))), (5, .inl (.int (v22))), (6, .inl (.int (v26)))], [.inl (.int ((2 : Int32))), .inl (.int ((s.1 0 58 (x3).toNatClampNeg)))], ax_m (s) ρ)) rfl ⟨trivial, trivial, trivial⟩ ?_
                obtain ⟨w43, hw43, h⟩ := ax_bd h
                have KTw43 : w43 = true → ax_R G 10 0 0 (237, [(0, .inr (0, 38)), (1, .inl (.int (x1))), (2, .inl (.int (v8))), (3, .inl (.int (x3))), (4, .inl (.int ((s.1 0 58 (x3).toNatClampNeg)))), (5, .inl (.int (v22))), (6, .inl (.int (v26))), (7, .inl (.int (v36)))], [], ax_m (s) ρ) := by
                  intro e9
                  subst w43
                  replace h := ax_ct h
                  refine ax_bk hK (ax_fc (ax_v_pu (ax_r_iconst (v := 1) d_Z_gauge_237 (by decide))) (ax_fc (ax_v_go (tgt := 276) d_Z_gauge_238 (by decide)) ax_fn)) (y := (276, [(0, .inr (0, 38)), (1, .inl (.int (x1))), (2, .inl (.int (v8))), (3, .inl (.int (x3))), (4, .inl (.int ((s.1 0 58 (x3).toNatClampNeg)))), (5, .inl (.int (v22))), (6, .inl (.int (v26))), (7, .inl (.int (v36)))], [.inl (.int ((1 : Int32)))], ax_m (s) ρ)) rfl ⟨trivial, trivial, trivial⟩ ?_
                  cases h
                  exact ax_Lsub [0, 1, 2, 3, 4, 5, 6, 7] rfl (KEw67 _ rfl)
                have KFw43 : w43 = false → ax_R G 10 0 0 (241, [(0, .inr (0, 38)), (1, .inl (.int (x1))), (2, .inl (.int (v8))), (3, .inl (.int (x3))), (4, .inl (.int ((s.1 0 58 (x3).toNatClampNeg)))), (5, .inl (.int (v22))), (6, .inl (.int (v26))), (7, .inl (.int (v36)))], [], ax_m (s) ρ) := by
                  intro e9
                  subst w43
                  replace h := ax_cf h
                  refine ax_bk hK (ax_fc (ax_v_ld (ax_r_iload d_Z_gauge_241)) (ax_fc (ax_v_pu (ax_r_bipush (v := 8) d_Z_gauge_243 (by decide))) ax_fn)) (y := (245, [(0, .inr (0, 38)), (1, .inl (.int (x1))), (2, .inl (.int (v8))), (3, .inl (.int (x3))), (4, .inl (.int ((s.1 0 58 (x3).toNatClampNeg)))), (5, .inl (.int (v22))), (6, .inl (.int (v26))), (7, .inl (.int (v36)))], [.inl (.int ((8 : Int32))), .inl (.int ((s.1 0 58 (x3).toNatClampNeg)))], ax_m (s) ρ)) rfl ⟨trivial, trivial, trivial⟩ ?_
                  refine ax_ic_ne (tgt := 268) hK d_Z_gauge_245 (by decide) (fun c42 => ?_) (fun c42 => ?_)
                  · replace h := ax_if c42 h
                    obtain ⟨b39, h⟩ := ax_gd h
                    refine ax_bk hK (ax_fc (ax_v_pu (ax_r_iconst (v := 1) d_Z_gauge_268 (by decide))) (ax_fc (ax_v_ld (ax_r_aload_n (i := 0) d_Z_gauge_269 rfl)) (ax_fc (ax_w_gf (e := none) hal d_Z_gauge_270 fd_Z_126) (ax_fc (ax_v_ld (ax_r_iload_n (i := 2) d_Z_gauge_273 rfl)) (ax_fc (ax_w_iald hal d_Z_gauge_274) (ax_fc (ax_v_pu (ax_r_iadd d_Z_gauge_275)) ax_fn)))))) (y := (276, [(0, .inr (0, 38)), (1, .inl (.int (x1))), (2, .inl (.int (v8))), (3, .inl (.int (x3))), (4, .inl (.int ((s.1 0 58 (x3).toNatClampNeg)))), (5, .inl (.int (v22))), (6, .inl (.int (v26))), (7, .inl (.int (v36)))], [.inl (.int (((1 : Int32) + (s.1 0 76 (v8).toNatClampNeg))))], ax_m (s) ρ)) rfl ⟨trivial, trivial, (h0 38 rfl), trivial, ⟨(h0 76 rfl), ax_inp b39⟩, trivial, trivial⟩ ?_
                    cases h
                    exact ax_Lsub [0, 1, 2, 3, 4, 5, 6, 7] rfl (KEw67 _ rfl)
                  · replace h := ax_it c42 h
                    obtain ⟨b40, h⟩ := ax_gd h
                    obtain ⟨b41, h⟩ := ax_gd h
                    refine ax_bk hK (ax_fc (ax_v_pu (ax_r_iconst (v := 1) d_Z_gauge_248 (by decide))) (ax_fc (ax_v_ld (ax_r_aload_n (i := 0) d_Z_gauge_249 rfl)) (ax_fc (ax_w_gf (e := none) hal d_Z_gauge_250 fd_Z_126) (ax_fc (ax_v_ld (ax_r_iload_n (i := 2) d_Z_gauge_253 rfl)) (ax_fc (ax_w_iald hal d_Z_gauge_254) (ax_fc (ax_v_pu (ax_r_iadd d_Z_gauge_255)) (ax_fc (ax_v_ld (ax_r_aload_n (i := 0) d_Z_gauge_256 rfl)) (ax_fc (ax_w_gf (e := none) hal d_Z_gauge_257 fd_Z_126) (ax_fc (ax_v_ld (ax_r_iload_n (i := 2) d_Z_gauge_260 rfl)) (ax_fc (ax_v_pu (ax_r_iconst (v := 1) d_Z_gauge_261 (by decide))) (ax_fc (ax_v_pu (ax_r_iadd d_Z_gauge_262)) (ax_fc (ax_w_iald hal d_Z_gauge_263) (ax_fc (ax_v_pu (ax_r_iadd d_Z_gauge_264)) (ax_fc (ax_v_go (tgt := 276) d_Z_gauge_265 (by decide)) ax_fn)))))))))))))) (y := (276, [(0, .inr (0, 38)), (1, .inl (.int (x1))), (2, .inl (.int (v8))), (3, .inl (.int (x3))), (4, .inl (.int ((s.1 0 58 (x3).toNatClampNeg)))), (5, .inl (.int (v22))), (6, .inl (.int (v26))), (7, .inl (.int (v36)))], [.inl (.int ((((1 : Int32) + (s.1 0 76 (v8).toNatClampNeg)) + (s.1 0 76 ((v8 + (1 : Int32))).toNatClampNeg))))], ax_m (s) ρ)) rfl ⟨trivial, trivial, (h0 38 rfl), trivial, ⟨(h0 76 rfl), ax_inp b40⟩, trivial, trivial, (h0 38 rfl), trivial, trivial, trivial, ⟨(h0 76 rfl), ax_inp b41⟩, trivial, trivial, trivial⟩ ?_
                    cases h
                    exact ax_Lsub [0, 1, 2, 3, 4, 5, 6, 7] rfl (KEw67 _ rfl)
                clear h
                have h := hw43
                refine ax_ic_eq (tgt := 237) hK d_Z_gauge_228 (by decide) (fun c38 => ?_) (fun c38 => ?_)
                · replace h := ax_it c38 h
                  cases h
                  exact ax_Lsub [1, 2, 3, 4, 5, 6, 7, 0] rfl (KTw43 rfl)
                · replace h := ax_if c38 h
                  refine ax_bk hK (ax_fc (ax_v_ld (ax_r_iload d_Z_gauge_231)) (ax_fc (ax_v_pu (ax_r_iconst (v := 3) d_Z_gauge_233 (by decide))) ax_fn)) (y := (234, [(7, .inl (.int (v36))), (0, .inr (0, 38)), (1, .inl (.int (x1))), (2, .inl (.int (v8))), (3, .inl (.int (x3))), (4, .inl (.int ((s.1 0 58 (x3).toNatClampNeg)))), (5, .inl (.int (v22))), (6, .inl (.int (v26)))], [.inl (.int ((3 : Int32))), .inl (.int ((s.1 0 58 (x3).toNatClampNeg)))], ax_m (s) ρ)) rfl ⟨trivial, trivial, trivial⟩ ?_
                  refine ax_ic_ne (tgt := 241) hK d_Z_gauge_234 (by decide) (fun c37 => ?_) (fun c37 => ?_)
                  · replace h := ax_if c37 h
                    cases h
                    exact ax_Lsub [1, 2, 3, 4, 5, 6, 7, 0] rfl (KFw43 rfl)
                  · replace h := ax_it c37 h
                    cases h
                    exact ax_Lsub [1, 2, 3, 4, 5, 6, 7, 0] rfl (KTw43 rfl)
              · replace h := ax_it c44 h
                refine ax_bk hK (ax_fc (ax_v_pu (ax_r_iconst (v := 0) d_Z_gauge_221 (by decide))) (ax_fc (ax_v_go (tgt := 276) d_Z_gauge_222 (by decide)) ax_fn)) (y := (276, [(7, .inl (.int (v36))), (0, .inr (0, 38)), (1, .inl (.int (x1))), (2, .inl (.int (v8))), (3, .inl (.int (x3))), (4, .inl (.int ((s.1 0 58 (x3).toNatClampNeg)))), (5, .inl (.int (v22))), (6, .inl (.int (v26)))], [.inl (.int ((0 : Int32)))], ax_m (s) ρ)) rfl ⟨trivial, trivial, trivial⟩ ?_
                cases h
                exact ax_Lsub [1, 2, 3, 4, 5, 6, 7, 0] rfl (KEw67 _ rfl)
            clear h
            have h := hw66
            refine ax_ic_ne (tgt := 179) hK d_Z_gauge_165 (by decide) (fun c35 => ?_) (fun c35 => ?_)
            · replace h := ax_if c35 h
              obtain ⟨b29, h⟩ := ax_gd h
              obtain ⟨b30, h⟩ := ax_gd h
              refine ax_bk hK (ax_fc (ax_v_ld (ax_r_aload_n (i := 0) d_Z_gauge_179 rfl)) (ax_fc (ax_w_gf (e := none) hal d_Z_gauge_180 fd_Z_129) (ax_fc (ax_v_ld (ax_r_iload_n (i := 2) d_Z_gauge_183 rfl)) (ax_fc (ax_w_iald hal d_Z_gauge_184) (ax_fc (ax_v_ld (ax_r_aload_n (i := 0) d_Z_gauge_185 rfl)) (ax_fc (ax_w_gf (e := none) hal d_Z_gauge_186 fd_Z_129) (ax_fc (ax_v_ld (ax_r_iload_n (i := 2) d_Z_gauge_189 rfl)) (ax_fc (ax_v_pu (ax_r_iconst (v := 1) d_Z_gauge_190 (by decide))) (ax_fc (ax_v_pu (ax_r_iadd d_Z_gauge_191)) (ax_fc (ax_w_iald hal d_Z_gauge_192) ax_fn)))))))))) (y := (193, [(6, .inl (.int (v26))), (0, .inr (0, 38)), (1, .inl (.int (x1))), (2, .inl (.int (v8))), (3, .inl (.int (x3))), (4, .inl (.int ((s.1 0 58 (x3).toNatClampNeg)))), (5, .inl (.int (v22)))], [.inl (.int ((s.1 0 77 ((v8 + (1 : Int32))).toNatClampNeg))), .inl (.int ((s.1 0 77 (v8).toNatClampNeg)))], ax_m (s) ρ)) rfl ⟨trivial, (h0 38 rfl), trivial, ⟨(h0 77 rfl), ax_inp b29⟩, trivial, (h0 38 rfl), trivial, trivial, trivial, ⟨(h0 77 rfl), ax_inp b30⟩, trivial⟩ ?_
              refine ax_ic_le (tgt := 205) hK d_Z_gauge_193 (by decide) (fun c33 => ?_) (fun c33 => ?_)
              · replace h := ax_it c33 h
                obtain ⟨b31, h⟩ := ax_gd h
                refine ax_bk hK (ax_fc (ax_v_ld (ax_r_aload_n (i := 0) d_Z_gauge_205 rfl)) (ax_fc (ax_w_gf (e := none) hal d_Z_gauge_206 fd_Z_129) (ax_fc (ax_v_ld (ax_r_iload_n (i := 2) d_Z_gauge_209 rfl)) (ax_fc (ax_v_pu (ax_r_iconst (v := 1) d_Z_gauge_210 (by decide))) (ax_fc (ax_v_pu (ax_r_iadd d_Z_gauge_211)) (ax_fc (ax_w_iald hal d_Z_gauge_212) ax_fn)))))) (y := (213, [(6, .inl (.int (v26))), (0, .inr (0, 38)), (1, .inl (.int (x1))), (2, .inl (.int (v8))), (3, .inl (.int (x3))), (4, .inl (.int ((s.1 0 58 (x3).toNatClampNeg)))), (5, .inl (.int (v22)))], [.inl (.int ((s.1 0 77 ((v8 + (1 : Int32))).toNatClampNeg)))], ax_m (s) ρ)) rfl ⟨trivial, (h0 38 rfl), trivial, trivial, trivial, ⟨(h0 77 rfl), ax_inp b31⟩, trivial⟩ ?_
                cases h
                exact ax_Lsub [1, 2, 3, 4, 5, 6, 0] rfl (KEw66 _ rfl)
              · replace h := ax_if c33 h
                obtain ⟨b32, h⟩ := ax_gd h
                refine ax_bk hK (ax_fc (ax_v_ld (ax_r_aload_n (i := 0) d_Z_gauge_196 rfl)) (ax_fc (ax_w_gf (e := none) hal d_Z_gauge_197 fd_Z_129) (ax_fc (ax_v_ld (ax_r_iload_n (i := 2) d_Z_gauge_200 rfl)) (ax_fc (ax_w_iald hal d_Z_gauge_201) (ax_fc (ax_v_go (tgt := 213) d_Z_gauge_202 (by decide)) ax_fn))))) (y := (213, [(6, .inl (.int (v26))), (0, .inr (0, 38)), (1, .inl (.int (x1))), (2, .inl (.int (v8))), (3, .inl (.int (x3))), (4, .inl (.int ((s.1 0 58 (x3).toNatClampNeg)))), (5, .inl (.int (v22)))], [.inl (.int ((s.1 0 77 (v8).toNatClampNeg)))], ax_m (s) ρ)) rfl ⟨trivial, (h0 38 rfl), trivial, ⟨(h0 77 rfl), ax_inp b32⟩, trivial, trivial⟩ ?_
                cases h
                exact ax_Lsub [1, 2, 3, 4, 5, 6, 0] rfl (KEw66 _ rfl)
            · replace h := ax_it c35 h
              obtain ⟨b34, h⟩ := ax_gd h
              refine ax_bk hK (ax_fc (ax_v_ld (ax_r_aload_n (i := 0) d_Z_gauge_168 rfl)) (ax_fc (ax_w_gf (e := none) hal d_Z_gauge_169 fd_Z_129) (ax_fc (ax_v_ld (ax_r_iload_n (i := 2) d_Z_gauge_172 rfl)) (ax_fc (ax_w_iald hal d_Z_gauge_173) (ax_fc (ax_v_pu (ax_r_iconst (v := 1) d_Z_gauge_174 (by decide))) (ax_fc (ax_v_pu (ax_r_iadd d_Z_gauge_175)) (ax_fc (ax_v_go (tgt := 213) d_Z_gauge_176 (by decide)) ax_fn))))))) (y := (213, [(6, .inl (.int (v26))), (0, .inr (0, 38)), (1, .inl (.int (x1))), (2, .inl (.int (v8))), (3, .inl (.int (x3))), (4, .inl (.int ((s.1 0 58 (x3).toNatClampNeg)))), (5, .inl (.int (v22)))], [.inl (.int (((s.1 0 77 (v8).toNatClampNeg) + (1 : Int32))))], ax_m (s) ρ)) rfl ⟨trivial, (h0 38 rfl), trivial, ⟨(h0 77 rfl), ax_inp b34⟩, trivial, trivial, trivial, trivial⟩ ?_
              cases h
              exact ax_Lsub [1, 2, 3, 4, 5, 6, 0] rfl (KEw66 _ rfl)
          clear h
          have h := hw65
          refine ax_ic_ge (tgt := 143) hK d_Z_gauge_136 (by decide) (fun c25 => ?_) (fun c25 => ?_)
          · replace h := ax_it c25 h
            obtain ⟨b24, h⟩ := ax_gd h
            refine ax_bk hK (ax_fc (ax_v_ld (ax_r_aload_n (i := 0) d_Z_gauge_143 rfl)) (ax_fc (ax_w_gf (e := none) hal d_Z_gauge_144 fd_Z_129) (ax_fc (ax_v_ld (ax_r_iload_n (i := 2) d_Z_gauge_147 rfl)) (ax_fc (ax_w_iald hal d_Z_gauge_148) ax_fn)))) (y := (149, [(5, .inl (.int (v22))), (0, .inr (0, 38)), (1, .inl (.int (x1))), (2, .inl (.int (v8))), (3, .inl (.int (x3))), (4, .inl (.int ((s.1 0 58 (x3).toNatClampNeg))))], [.inl (.int ((s.1 0 77 (v8).toNatClampNeg)))], ax_m (s) ρ)) rfl ⟨trivial, (h0 38 rfl), trivial, ⟨(h0 77 rfl), ax_inp b24⟩, trivial⟩ ?_
            cases h
            exact ax_Lsub [1, 2, 3, 4, 5, 0] rfl (KEw65 _ rfl)
          · replace h := ax_if c25 h
            refine ax_bk hK (ax_fc (ax_v_pu (ax_r_iconst (v := 1) d_Z_gauge_139 (by decide))) (ax_fc (ax_v_go (tgt := 149) d_Z_gauge_140 (by decide)) ax_fn)) (y := (149, [(5, .inl (.int (v22))), (0, .inr (0, 38)), (1, .inl (.int (x1))), (2, .inl (.int (v8))), (3, .inl (.int (x3))), (4, .inl (.int ((s.1 0 58 (x3).toNatClampNeg))))], [.inl (.int ((1 : Int32)))], ax_m (s) ρ)) rfl ⟨trivial, trivial, trivial⟩ ?_
            cases h
            exact ax_Lsub [1, 2, 3, 4, 5, 0] rfl (KEw65 _ rfl)
        clear h
        have h := hw64
        obtain ⟨w21, hw21, h⟩ := ax_bd h
        have KTw21 : w21 = true → ax_R G 10 0 0 (122, [(0, .inr (0, 38)), (1, .inl (.int (x1))), (2, .inl (.int (v8))), (3, .inl (.int (x3))), (4, .inl (.int ((s.1 0 58 (x3).toNatClampNeg))))], [], ax_m (s) ρ) := by
          intro e9
          subst w21
          replace h := ax_ct h
          refine ax_bk hK (ax_fc (ax_v_pu (ax_r_iconst (v := 1) d_Z_gauge_122 (by decide))) (ax_fc (ax_v_go (tgt := 127) d_Z_gauge_123 (by decide)) ax_fn)) (y := (127, [(0, .inr (0, 38)), (1, .inl (.int (x1))), (2, .inl (.int (v8))), (3, .inl (.int (x3))), (4, .inl (.int ((s.1 0 58 (x3).toNatClampNeg))))], [.inl (.int ((1 : Int32)))], ax_m (s) ρ)) rfl ⟨trivial, trivial, trivial⟩ ?_
          cases h
          exact ax_Lsub [0, 1, 2, 3, 4] rfl (KEw64 _ rfl)
        have KFw21 : w21 = false → ax_R G 10 0 0 (74, [(0, .inr (0, 38)), (1, .inl (.int (x1))), (2, .inl (.int (v8))), (3, .inl (.int (x3))), (4, .inl (.int ((s.1 0 58 (x3).toNatClampNeg))))], [], ax_m (s) ρ) := by
          intro e9
          subst w21
          replace h := ax_cf h
          refine ax_bk hK (ax_fc (ax_v_ld (ax_r_iload d_Z_gauge_74)) (ax_fc (ax_v_pu (ax_r_bipush (v := 6) d_Z_gauge_76 (by decide))) ax_fn)) (y := (78, [(0, .inr (0, 38)), (1, .inl (.int (x1))), (2, .inl (.int (v8))), (3, .inl (.int (x3))), (4, .inl (.int ((s.1 0 58 (x3).toNatClampNeg))))], [.inl (.int ((6 : Int32))), .inl (.int ((s.1 0 58 (x3).toNatClampNeg)))], ax_m (s) ρ)) rfl ⟨trivial, trivial, trivial⟩ ?_
          obtain ⟨w20, hw20, h⟩ := ax_bd h
          have KTw20 : w20 = true → ax_R G 10 0 0 (95, [(0, .inr (0, 38)), (1, .inl (.int (x1))), (2, .inl (.int (v8))), (3, .inl (.int (x3))), (4, .inl (.int ((s.1 0 58 (x3).toNatClampNeg))))], [], ax_m (s) ρ) := by
            intro e9
            subst w20
            replace h := ax_ct h
            obtain ⟨b14, h⟩ := ax_gd h
            refine ax_bk hK (ax_fc (ax_v_ld (ax_r_aload_n (i := 0) d_Z_gauge_95 rfl)) (ax_fc (ax_w_gf (e := none) hal d_Z_gauge_96 fd_Z_132) (ax_fc (ax_v_ld (ax_r_iload_n (i := 2) d_Z_gauge_99 rfl)) (ax_fc (ax_w_zald hal d_Z_gauge_100) ax_fn)))) (y := (101, [(0, .inr (0, 38)), (1, .inl (.int (x1))), (2, .inl (.int (v8))), (3, .inl (.int (x3))), (4, .inl (.int ((s.1 0 58 (x3).toNatClampNeg))))], [.inl (.int ((s.1 0 78 (v8).toNatClampNeg)))], ax_m (s) ρ)) rfl ⟨trivial, (h0 38 rfl), trivial, ⟨(h0 78 rfl), ax_inp b14⟩, trivial⟩ ?_
            refine ax_if_eq (tgt := 126) hK d_Z_gauge_101 (by decide) (fun c19 => ?_) (fun c19 => ?_)
            · replace h := ax_it c19 h
              refine ax_bk hK (ax_fc (ax_v_pu (ax_r_iconst (v := 0) d_Z_gauge_126 (by decide))) ax_fn) (y := (127, [(0, .inr (0, 38)), (1, .inl (.int (x1))), (2, .inl (.int (v8))), (3, .inl (.int (x3))), (4, .inl (.int ((s.1 0 58 (x3).toNatClampNeg))))], [.inl (.int ((0 : Int32)))], ax_m (s) ρ)) rfl ⟨trivial, trivial⟩ ?_
              cases h
              exact ax_Lsub [0, 1, 2, 3, 4] rfl (KEw64 _ rfl)
            · replace h := ax_if c19 h
              refine ax_bk hK (ax_fc (ax_v_ld (ax_r_iload d_Z_gauge_104)) (ax_fc (ax_v_pu (ax_r_bipush (v := 8) d_Z_gauge_106 (by decide))) ax_fn)) (y := (108, [(0, .inr (0, 38)), (1, .inl (.int (x1))), (2, .inl (.int (v8))), (3, .inl (.int (x3))), (4, .inl (.int ((s.1 0 58 (x3).toNatClampNeg))))], [.inl (.int ((8 : Int32))), .inl (.int ((s.1 0 58 (x3).toNatClampNeg)))], ax_m (s) ρ)) rfl ⟨trivial, trivial, trivial⟩ ?_
              obtain ⟨w18, hw18, h⟩ := ax_bd h
              have KTw18 : w18 = true → ax_R G 10 0 0 (122, [(0, .inr (0, 38)), (1, .inl (.int (x1))), (2, .inl (.int (v8))), (3, .inl (.int (x3))), (4, .inl (.int ((s.1 0 58 (x3).toNatClampNeg))))], [], ax_m (s) ρ) := by
                intro e9
                subst w18
                replace h := ax_ct h
                refine ax_bk hK (ax_fc (ax_v_pu (ax_r_iconst (v := 1) d_Z_gauge_122 (by decide))) (ax_fc (ax_v_go (tgt := 127) d_Z_gauge_123 (by decide)) ax_fn)) (y := (127, [(0, .inr (0, 38)), (1, .inl (.int (x1))), (2, .inl (.int (v8))), (3, .inl (.int (x3))), (4, .inl (.int ((s.1 0 58 (x3).toNatClampNeg))))], [.inl (.int ((1 : Int32)))], ax_m (s) ρ)) rfl ⟨trivial, trivial, trivial⟩ ?_
                cases h
                exact ax_Lsub [0, 1, 2, 3, 4] rfl (KEw64 _ rfl)
              have KFw18 : w18 = false → ax_R G 10 0 0 (126, [(0, .inr (0, 38)), (1, .inl (.int (x1))), (2, .inl (.int (v8))), (3, .inl (.int (x3))), (4, .inl (.int ((s.1 0 58 (x3).toNatClampNeg))))], [], ax_m (s) ρ) := by
                intro e9
                subst w18
                replace h := ax_cf h
                refine ax_bk hK (ax_fc (ax_v_pu (ax_r_iconst (v := 0) d_Z_gauge_126 (by decide))) ax_fn) (y := (127, [(0, .inr (0, 38)), (1, .inl (.int (x1))), (2, .inl (.int (v8))), (3, .inl (.int (x3))), (4, .inl (.int ((s.1 0 58 (x3).toNatClampNeg))))], [.inl (.int ((0 : Int32)))], ax_m (s) ρ)) rfl ⟨trivial, trivial⟩ ?_
                cases h
                exact ax_Lsub [0, 1, 2, 3, 4] rfl (KEw64 _ rfl)
              clear h
              have h := hw18
              refine ax_ic_ne (tgt := 122) hK d_Z_gauge_108 (by decide) (fun c17 => ?_) (fun c17 => ?_)
              · replace h := ax_if c17 h
                cases h
                exact ax_Lsub [0, 1, 2, 3, 4] rfl (KTw18 rfl)
              · replace h := ax_it c17 h
                obtain ⟨b15, h⟩ := ax_gd h
                refine ax_bk hK (ax_fc (ax_v_ld (ax_r_aload_n (i := 0) d_Z_gauge_111 rfl)) (ax_fc (ax_w_gf (e := none) hal d_Z_gauge_112 fd_Z_132) (ax_fc (ax_v_ld (ax_r_iload_n (i := 2) d_Z_gauge_115 rfl)) (ax_fc (ax_v_pu (ax_r_iconst (v := 1) d_Z_gauge_116 (by decide))) (ax_fc (ax_v_pu (ax_r_iadd d_Z_gauge_117)) (ax_fc (ax_w_zald hal d_Z_gauge_118) ax_fn)))))) (y := (119, [(0, .inr (0, 38)), (1, .inl (.int (x1))), (2, .inl (.int (v8))), (3, .inl (.int (x3))), (4, .inl (.int ((s.1 0 58 (x3).toNatClampNeg))))], [.inl (.int ((s.1 0 78 ((v8 + (1 : Int32))).toNatClampNeg)))], ax_m (s) ρ)) rfl ⟨trivial, (h0 38 rfl), trivial, trivial, trivial, ⟨(h0 78 rfl), ax_inp b15⟩, trivial⟩ ?_
                refine ax_if_eq (tgt := 126) hK d_Z_gauge_119 (by decide) (fun c16 => ?_) (fun c16 => ?_)
                · replace h := ax_it c16 h
                  cases h
                  exact ax_Lsub [0, 1, 2, 3, 4] rfl (KFw18 rfl)
                · replace h := ax_if c16 h
                  cases h
                  exact ax_Lsub [0, 1, 2, 3, 4] rfl (KTw18 rfl)
          have KFw20 : w20 = false → ax_R G 10 0 0 (126, [(0, .inr (0, 38)), (1, .inl (.int (x1))), (2, .inl (.int (v8))), (3, .inl (.int (x3))), (4, .inl (.int ((s.1 0 58 (x3).toNatClampNeg))))], [], ax_m (s) ρ) := by
            intro e9
            subst w20
            replace h := ax_cf h
            refine ax_bk hK (ax_fc (ax_v_pu (ax_r_iconst (v := 0) d_Z_gauge_126 (by decide))) ax_fn) (y := (127, [(0, .inr (0, 38)), (1, .inl (.int (x1))), (2, .inl (.int (v8))), (3, .inl (.int (x3))), (4, .inl (.int ((s.1 0 58 (x3).toNatClampNeg))))], [.inl (.int ((0 : Int32)))], ax_m (s) ρ)) rfl ⟨trivial, trivial⟩ ?_
            cases h
            exact ax_Lsub [0, 1, 2, 3, 4] rfl (KEw64 _ rfl)
          clear h
          have h := hw20
          refine ax_ic_eq (tgt := 95) hK d_Z_gauge_78 (by decide) (fun c13 => ?_) (fun c13 => ?_)
          · replace h := ax_it c13 h
            cases h
            exact ax_Lsub [0, 1, 2, 3, 4] rfl (KTw20 rfl)
          · replace h := ax_if c13 h
            refine ax_bk hK (ax_fc (ax_v_ld (ax_r_iload d_Z_gauge_81)) (ax_fc (ax_v_pu (ax_r_bipush (v := 7) d_Z_gauge_83 (by decide))) ax_fn)) (y := (85, [(0, .inr (0, 38)), (1, .inl (.int (x1))), (2, .inl (.int (v8))), (3, .inl (.int (x3))), (4, .inl (.int ((s.1 0 58 (x3).toNatClampNeg))))], [.inl (.int ((7 : Int32))), .inl (.int ((s.1 0 58 (x3).toNatClampNeg)))], ax_m (s) ρ)) rfl ⟨trivial, trivial, trivial⟩ ?_
            refine ax_ic_eq (tgt := 95) hK d_Z_gauge_85 (by decide) (fun c12 => ?_) (fun c12 => ?_)
            · replace h := ax_it c12 h
              cases h
              exact ax_Lsub [0, 1, 2, 3, 4] rfl (KTw20 rfl)
            · replace h := ax_if c12 h
              refine ax_bk hK (ax_fc (ax_v_ld (ax_r_iload d_Z_gauge_88)) (ax_fc (ax_v_pu (ax_r_bipush (v := 8) d_Z_gauge_90 (by decide))) ax_fn)) (y := (92, [(0, .inr (0, 38)), (1, .inl (.int (x1))), (2, .inl (.int (v8))), (3, .inl (.int (x3))), (4, .inl (.int ((s.1 0 58 (x3).toNatClampNeg))))], [.inl (.int ((8 : Int32))), .inl (.int ((s.1 0 58 (x3).toNatClampNeg)))], ax_m (s) ρ)) rfl ⟨trivial, trivial, trivial⟩ ?_
              refine ax_ic_ne (tgt := 126) hK d_Z_gauge_92 (by decide) (fun c11 => ?_) (fun c11 => ?_)
              · replace h := ax_if c11 h
                cases h
                exact ax_Lsub [0, 1, 2, 3, 4] rfl (KFw20 rfl)
              · replace h := ax_it c11 h
                cases h
                exact ax_Lsub [0, 1, 2, 3, 4] rfl (KTw20 rfl)
        clear h
        have h := hw21
        refine ax_ic_eq (tgt := 122) hK d_Z_gauge_65 (by decide) (fun c10 => ?_) (fun c10 => ?_)
        · replace h := ax_it c10 h
          cases h
          exact ax_Lsub [1, 2, 0, 3, 4] rfl (KTw21 rfl)
        · replace h := ax_if c10 h
          refine ax_bk hK (ax_fc (ax_v_ld (ax_r_iload d_Z_gauge_68)) (ax_fc (ax_v_pu (ax_r_iconst (v := 5) d_Z_gauge_70 (by decide))) ax_fn)) (y := (71, [(2, .inl (.int (v8))), (0, .inr (0, 38)), (1, .inl (.int (x1))), (3, .inl (.int (x3))), (4, .inl (.int ((s.1 0 58 (x3).toNatClampNeg))))], [.inl (.int ((5 : Int32))), .inl (.int ((s.1 0 58 (x3).toNatClampNeg)))], ax_m (s) ρ)) rfl ⟨trivial, trivial, trivial⟩ ?_
          refine ax_ic_eq (tgt := 122) hK d_Z_gauge_71 (by decide) (fun c9 => ?_) (fun c9 => ?_)
          · replace h := ax_it c9 h
            cases h
            exact ax_Lsub [1, 2, 0, 3, 4] rfl (KTw21 rfl)
          · replace h := ax_if c9 h
            cases h
            exact ax_Lsub [1, 2, 0, 3, 4] rfl (KFw21 rfl)
      clear h
      have h := hw63
      refine ax_ic_ne (tgt := 40) hK d_Z_gauge_31 (by decide) (fun c7 => ?_) (fun c7 => ?_)
      · replace h := ax_if c7 h
        refine ax_bk hK (ax_fc (ax_v_ld (ax_r_iload d_Z_gauge_40)) (ax_fc (ax_v_pu (ax_r_bipush (v := 6) d_Z_gauge_42 (by decide))) ax_fn)) (y := (44, [(4, .inl (.int ((s.1 0 58 (x3).toNatClampNeg)))), (0, .inr (0, 38)), (1, .inl (.int (x1))), (2, .inl (.int (x2))), (3, .inl (.int (x3)))], [.inl (.int ((6 : Int32))), .inl (.int ((s.1 0 58 (x3).toNatClampNeg)))], ax_m (s) ρ)) rfl ⟨trivial, trivial, trivial⟩ ?_
        obtain ⟨w6, hw6, h⟩ := ax_bd h
        have KTw6 : w6 = true → ax_R G 10 0 0 (54, [(0, .inr (0, 38)), (1, .inl (.int (x1))), (2, .inl (.int (x2))), (3, .inl (.int (x3))), (4, .inl (.int ((s.1 0 58 (x3).toNatClampNeg))))], [], ax_m (s) ρ) := by
          intro e9
          subst w6
          replace h := ax_ct h
          refine ax_bk hK (ax_fc (ax_v_ld (ax_r_iload_n (i := 2) d_Z_gauge_54 rfl)) (ax_fc (ax_v_pu (ax_r_iconst (v := 1) d_Z_gauge_55 (by decide))) (ax_fc (ax_v_pu (ax_r_isub d_Z_gauge_56)) (ax_fc (ax_v_go (tgt := 61) d_Z_gauge_57 (by decide)) ax_fn)))) (y := (61, [(0, .inr (0, 38)), (1, .inl (.int (x1))), (2, .inl (.int (x2))), (3, .inl (.int (x3))), (4, .inl (.int ((s.1 0 58 (x3).toNatClampNeg))))], [.inl (.int ((x2 - (1 : Int32))))], ax_m (s) ρ)) rfl ⟨trivial, trivial, trivial, trivial, trivial⟩ ?_
          cases h
          exact ax_Lsub [0, 1, 3, 4] rfl (KEw63 _ rfl)
        have KFw6 : w6 = false → ax_R G 10 0 0 (60, [(0, .inr (0, 38)), (1, .inl (.int (x1))), (2, .inl (.int (x2))), (3, .inl (.int (x3))), (4, .inl (.int ((s.1 0 58 (x3).toNatClampNeg))))], [], ax_m (s) ρ) := by
          intro e9
          subst w6
          replace h := ax_cf h
          refine ax_bk hK (ax_fc (ax_v_ld (ax_r_iload_n (i := 2) d_Z_gauge_60 rfl)) ax_fn) (y := (61, [(0, .inr (0, 38)), (1, .inl (.int (x1))), (2, .inl (.int (x2))), (3, .inl (.int (x3))), (4, .inl (.int ((s.1 0 58 (x3).toNatClampNeg))))], [.inl (.int (x2))], ax_m (s) ρ)) rfl ⟨trivial, trivial⟩ ?_
          cases h
          exact ax_Lsub [0, 1, 3, 4] rfl (KEw63 _ rfl)
        clear h
        have h := hw6
        refine ax_ic_eq (tgt := 54) hK d_Z_gauge_44 (by decide) (fun c5 => ?_) (fun c5 => ?_)
        · replace h := ax_it c5 h
          cases h
          exact ax_Lsub [1, 2, 3, 4, 0] rfl (KTw6 rfl)
        · replace h := ax_if c5 h
          refine ax_bk hK (ax_fc (ax_v_ld (ax_r_iload d_Z_gauge_47)) (ax_fc (ax_v_pu (ax_r_bipush (v := 7) d_Z_gauge_49 (by decide))) ax_fn)) (y := (51, [(4, .inl (.int ((s.1 0 58 (x3).toNatClampNeg)))), (0, .inr (0, 38)), (1, .inl (.int (x1))), (2, .inl (.int (x2))), (3, .inl (.int (x3)))], [.inl (.int ((7 : Int32))), .inl (.int ((s.1 0 58 (x3).toNatClampNeg)))], ax_m (s) ρ)) rfl ⟨trivial, trivial, trivial⟩ ?_
          refine ax_ic_ne (tgt := 60) hK d_Z_gauge_51 (by decide) (fun c4 => ?_) (fun c4 => ?_)
          · replace h := ax_if c4 h
            cases h
            exact ax_Lsub [1, 2, 3, 4, 0] rfl (KFw6 rfl)
          · replace h := ax_it c4 h
            cases h
            exact ax_Lsub [1, 2, 3, 4, 0] rfl (KTw6 rfl)
      · replace h := ax_it c7 h
        refine ax_bk hK (ax_fc (ax_v_ld (ax_r_iload_n (i := 2) d_Z_gauge_34 rfl)) (ax_fc (ax_v_pu (ax_r_iconst (v := 2) d_Z_gauge_35 (by decide))) (ax_fc (ax_v_pu (ax_r_isub d_Z_gauge_36)) (ax_fc (ax_v_go (tgt := 61) d_Z_gauge_37 (by decide)) ax_fn)))) (y := (61, [(4, .inl (.int ((s.1 0 58 (x3).toNatClampNeg)))), (0, .inr (0, 38)), (1, .inl (.int (x1))), (2, .inl (.int (x2))), (3, .inl (.int (x3)))], [.inl (.int ((x2 - (2 : Int32))))], ax_m (s) ρ)) rfl ⟨trivial, trivial, trivial, trivial, trivial⟩ ?_
        cases h
        exact ax_Lsub [1, 2, 4, 0] rfl (KEw63 _ rfl)
theorem fd_Z_356 : ax_fd "CipherNotationModel" 356 6 64 := ⟨nC6, nT6, 73, nY6, rfl, nW6, by decide, nw_4 201 (by decide +kernel) rfl, nO6, nA6⟩
theorem fp_Z_356 : ax_fp "CipherNotationModel" 356 6 64 (.int) := ⟨nC6, nT6, 73, nY6, rfl, nW6, by decide, nw_4 201 (by decide +kernel) rfl, nO6, nA6, by decide +kernel, by decide +kernel⟩
def f_Z_gauge (F : Nat) (a1 : Int32) (s : ax_σ) : Option (Int32 × ax_σ) :=
  bif ax_in a1 240 then
  Option.bind (lp_Z_gauge_9 F a1 F (0 : Int32) (s.1 0 54 (a1).toNatClampNeg) s) (fun s63 =>
    bif ax_in (0 : Int32) 16 then
    Option.bind (
      if (s63.1 0 77 ((0 : Int32)).toNatClampNeg) ≤ (s63.1 0 38 64) then
        some (s63.1 0 38 64)
      else
        bif ax_in (0 : Int32) 16 then
        some (s63.1 0 77 ((0 : Int32)).toNatClampNeg)
        else none) (fun v67 =>
      ax_let (ax_wI s63 0 38 64 v67) (fun s68 =>
        bif ax_in (0 : Int32) 16 then
        some (((s68.1 0 76 ((0 : Int32)).toNatClampNeg), s68))
        else none))
    else none)
  else none
set_option maxHeartbeats 4000000 in
set_option maxRecDepth 100000 in
theorem t_Z_gauge {l : Launch} {D : va_G} {cA : Nat → ClassId} {ad : Nat → Nat → Nat} {al : List (Nat × Nat)} {θ : ax_Θ} {ρ : ax_ρ} {F : Nat} (h0 : ax_M0 al) {a1 : Int32} {s : ax_σ} {r0 : Int32} {s0 : ax_σ} (h : f_Z_gauge F a1 s = some (r0, s0)) : ax_T l D cA ad al θ y_Z_gauge (.code y_Z_gauge prog_8_method_42_code 10 (some .int)) 0 [.inr (0, 38), .inl (.int (a1))] (ax_m s ρ) (some (.inl (.int r0))) (ax_m s0 ρ) := by
  refine ax_T_of (own := "CipherNotationModel") (by decide) rfl (Nat.le_of_ble_eq_true rfl) [(0, .inr (0, 38)), (1, .inl (.int (a1)))] rfl ?_
  intro G hA
  have hB := hA.B
  have hK := hB.K
  have hal := hB.la
  unfold f_Z_gauge at h
  obtain ⟨b1, h⟩ := ax_gd h
  refine ax_bk hK (ax_fc (ax_v_pu (ax_r_iconst (v := 0) d_Z_gauge_0 (by decide))) (ax_fc (ax_v_so (ax_r_istore_n (i := 2) d_Z_gauge_1 rfl)) (ax_fc (ax_v_ld (ax_r_aload_n (i := 0) d_Z_gauge_2 rfl)) (ax_fc (ax_w_gf (e := none) hal d_Z_gauge_3 fd_Z_60) (ax_fc (ax_v_ld (ax_r_iload_n (i := 1) d_Z_gauge_6 rfl)) (ax_fc (ax_w_iald hal d_Z_gauge_7) (ax_fc (ax_v_so (ax_r_istore_n (i := 3) d_Z_gauge_8 rfl)) ax_fn))))))) (y := (9, [(3, .inl (.int ((s.1 0 54 (a1).toNatClampNeg)))), (2, .inl (.int ((0 : Int32)))), (0, .inr (0, 38)), (1, .inl (.int (a1)))], [], ax_m (s) ρ)) rfl ⟨trivial, trivial, trivial, (h0 38 rfl), trivial, ⟨(h0 54 rfl), ax_inp b1⟩, trivial, trivial⟩ ?_
  obtain ⟨w70, hw70, h⟩ := ax_bd h
  refine ax_Lsub [2, 3, 1, 0] rfl (pl_Z_gauge_9 h0 hB F _ hw70 ?_)
  intro s63 e9
  subst w70
  try dsimp only at h
  change ax_R G 10 0 0 (371, [(0, .inr (0, 38))], [], ax_m (s63) ρ)
  obtain ⟨b64, h⟩ := ax_gd h
  refine ax_bk hK (ax_fc (ax_v_ld (ax_r_aload_n (i := 0) d_Z_gauge_371 rfl)) (ax_fc (ax_v_ld (ax_r_aload_n (i := 0) d_Z_gauge_372 rfl)) (ax_fc (ax_w_gf (e := none) hal d_Z_gauge_373 fd_Z_129) (ax_fc (ax_v_pu (ax_r_iconst (v := 0) d_Z_gauge_376 (by decide))) (ax_fc (ax_w_iald hal d_Z_gauge_377) (ax_fc (ax_v_ld (ax_r_aload_n (i := 0) d_Z_gauge_378 rfl)) (ax_fc (ax_w_gf (e := none) hal d_Z_gauge_379 fd_Z_356) ax_fn))))))) (y := (382, [(0, .inr (0, 38))], [.inl (.int ((s63.1 0 38 64))), .inl (.int ((s63.1 0 77 ((0 : Int32)).toNatClampNeg))), .inr (0, 38)], ax_m (s63) ρ)) rfl ⟨trivial, trivial, (h0 38 rfl), trivial, ⟨(h0 77 rfl), ax_inp b64⟩, trivial, (h0 38 rfl), trivial⟩ ?_
  obtain ⟨w71, hw71, h⟩ := ax_bd h
  have KEw71 : ∀ (v67 : Int32), w71 = v67 → ax_R G 10 0 0 (398, [(0, .inr (0, 38))], [.inl (.int (v67)), .inr (0, 38)], ax_m (s63) ρ) := by
    intro v67 e9
    subst w71
    try dsimp only at h
    refine ax_bk hK (ax_fc (ax_w_pf (tc := 0) hal d_Z_gauge_398 fp_Z_356 rfl) ax_fn) (y := (401, [(0, .inr (0, 38))], [], ax_m (ax_wI s63 0 38 64 v67) ρ)) rfl ⟨(h0 38 rfl), trivial⟩ ?_
    refine ax_lt (Q := fun ςς => ax_R G 10 0 0 (401, [(0, .inr (0, 38))], [], ax_m (ςς) ρ)) h (fun s68 h => ?_)
    obtain ⟨b69, h⟩ := ax_gd h
    refine ax_bk hK (ax_fc (ax_v_ld (ax_r_aload_n (i := 0) d_Z_gauge_401 rfl)) (ax_fc (ax_w_gf (e := none) hal d_Z_gauge_402 fd_Z_126) (ax_fc (ax_v_pu (ax_r_iconst (v := 0) d_Z_gauge_405 (by decide))) (ax_fc (ax_w_iald hal d_Z_gauge_406) ax_fn)))) (y := (407, [(0, .inr (0, 38))], [.inl (.int ((s68.1 0 76 ((0 : Int32)).toNatClampNeg)))], ax_m (s68) ρ)) rfl ⟨trivial, (h0 38 rfl), trivial, ⟨(h0 76 rfl), ax_inp b69⟩, trivial⟩ ?_
    cases h
    exact ax_iret hA d_Z_gauge_407
  clear h
  have h := hw71
  refine ax_ic_le (tgt := 394) hK d_Z_gauge_382 (by decide) (fun c66 => ?_) (fun c66 => ?_)
  · replace h := ax_it c66 h
    refine ax_bk hK (ax_fc (ax_v_ld (ax_r_aload_n (i := 0) d_Z_gauge_394 rfl)) (ax_fc (ax_w_gf (e := none) hal d_Z_gauge_395 fd_Z_356) ax_fn)) (y := (398, [(0, .inr (0, 38))], [.inl (.int ((s63.1 0 38 64))), .inr (0, 38)], ax_m (s63) ρ)) rfl ⟨trivial, (h0 38 rfl), trivial⟩ ?_
    cases h
    exact ax_Lsub [0] rfl (KEw71 _ rfl)
  · replace h := ax_if c66 h
    obtain ⟨b65, h⟩ := ax_gd h
    refine ax_bk hK (ax_fc (ax_v_ld (ax_r_aload_n (i := 0) d_Z_gauge_385 rfl)) (ax_fc (ax_w_gf (e := none) hal d_Z_gauge_386 fd_Z_129) (ax_fc (ax_v_pu (ax_r_iconst (v := 0) d_Z_gauge_389 (by decide))) (ax_fc (ax_w_iald hal d_Z_gauge_390) (ax_fc (ax_v_go (tgt := 398) d_Z_gauge_391 (by decide)) ax_fn))))) (y := (398, [(0, .inr (0, 38))], [.inl (.int ((s63.1 0 77 ((0 : Int32)).toNatClampNeg))), .inr (0, 38)], ax_m (s63) ρ)) rfl ⟨trivial, (h0 38 rfl), trivial, ⟨(h0 77 rfl), ax_inp b65⟩, trivial, trivial⟩ ?_
    cases h
    exact ax_Lsub [0] rfl (KEw71 _ rfl)
def y_Z_costOf : MethodName := ⟨"CipherNotationModel", "costOf", "(I)I"⟩
theorem d_Z_costOf_0 : decode prog_8_method_41_code 0 = .ok (.aload_n 0, 1) := by decide +kernel
theorem d_Z_costOf_1 : decode prog_8_method_41_code 1 = .ok (.getfield (39), 3) := by decide +kernel
theorem d_Z_costOf_4 : decode prog_8_method_41_code 4 = .ok (.iload_n 1, 1) := by decide +kernel
theorem d_Z_costOf_5 : decode prog_8_method_41_code 5 = .ok (.iaload, 1) := by decide +kernel
theorem d_Z_costOf_6 : decode prog_8_method_41_code 6 = .ok (.bipush (7), 2) := by decide +kernel
theorem d_Z_costOf_8 : decode prog_8_method_41_code 8 = .ok (.if_icmp .lt (7), 3) := by decide +kernel
theorem d_Z_costOf_11 : decode prog_8_method_41_code 11 = .ok (.iconst 1, 1) := by decide +kernel
theorem d_Z_costOf_12 : decode prog_8_method_41_code 12 = .ok (.goto (4), 3) := by decide +kernel
theorem d_Z_costOf_15 : decode prog_8_method_41_code 15 = .ok (.iconst 0, 1) := by decide +kernel
theorem d_Z_costOf_16 : decode prog_8_method_41_code 16 = .ok (.istore_n 2, 1) := by decide +kernel
theorem d_Z_costOf_17 : decode prog_8_method_41_code 17 = .ok (.iload_n 2, 1) := by decide +kernel
theorem d_Z_costOf_18 : decode prog_8_method_41_code 18 = .ok (.ifCond .eq (7), 3) := by decide +kernel
theorem d_Z_costOf_21 : decode prog_8_method_41_code 21 = .ok (.iconst 1, 1) := by decide +kernel
theorem d_Z_costOf_22 : decode prog_8_method_41_code 22 = .ok (.goto (10), 3) := by decide +kernel
theorem d_Z_costOf_25 : decode prog_8_method_41_code 25 = .ok (.iconst 1, 1) := by decide +kernel
theorem d_Z_costOf_26 : decode prog_8_method_41_code 26 = .ok (.aload_n 0, 1) := by decide +kernel
theorem d_Z_costOf_27 : decode prog_8_method_41_code 27 = .ok (.iload_n 1, 1) := by decide +kernel
theorem d_Z_costOf_28 : decode prog_8_method_41_code 28 = .ok (.invokevirtual (353), 3) := by decide +kernel
theorem d_Z_costOf_31 : decode prog_8_method_41_code 31 = .ok (.iadd, 1) := by decide +kernel
theorem d_Z_costOf_32 : decode prog_8_method_41_code 32 = .ok (.ireturn, 1) := by decide +kernel
set_option maxRecDepth 100000 in
theorem cw_Z_353 : ax_cw "CipherNotationModel" 353 y_Z_gauge (.code y_Z_gauge prog_8_method_42_code 10 (some .int)) 1 := ⟨nw_6 50 (by decide +kernel) rfl, nw_1 7 (by decide +kernel) rfl, nw_6 53 rfl rfl, by decide +kernel, by decide +kernel⟩
theorem im_Z_gauge : Cond.instanceMethod y_Z_gauge ∈ ax_tbl := nw_6 52 (by decide +kernel) rfl
theorem se_Z_gauge : Cond.selects y_Z_gauge.cls y_Z_gauge y_Z_gauge ∈ ax_tbl := nw_sel 77 (by decide +kernel) (by decide +kernel)
def f_Z_costOf (F : Nat) (a1 : Int32) (s : ax_σ) : Option (Int32 × ax_σ) :=
  bif ax_in a1 240 then
  Option.bind (
    if (s.1 0 47 (a1).toNatClampNeg) < (7 : Int32) then
      some (0 : Int32)
    else
      some (1 : Int32)) (fun v3 =>
    if v3 = (0 : Int32) then
      Option.bind (f_Z_gauge F a1 s) (fun (r4, s5) =>
        some ((((1 : Int32) + r4), s5)))
    else
      some (((1 : Int32), s)))
  else none
set_option maxHeartbeats 4000000 in
set_option maxRecDepth 100000 in
theorem t_Z_costOf {l : Launch} {D : va_G} {cA : Nat → ClassId} {ad : Nat → Nat → Nat} {al : List (Nat × Nat)} {θ : ax_Θ} {ρ : ax_ρ} {F : Nat} (h0 : ax_M0 al) {a1 : Int32} {s : ax_σ} {r0 : Int32} {s0 : ax_σ} (h : f_Z_costOf F a1 s = some (r0, s0)) : ax_T l D cA ad al θ y_Z_costOf (.code y_Z_costOf prog_8_method_41_code 3 (some .int)) 1 [.inr (0, 38), .inl (.int (a1))] (ax_m s ρ) (some (.inl (.int r0))) (ax_m s0 ρ) := by
  refine ax_T_of (own := "CipherNotationModel") (by decide) rfl (Nat.le_of_ble_eq_true rfl) [(0, .inr (0, 38)), (1, .inl (.int (a1)))] rfl ?_
  intro G hA
  have hB := hA.B
  have hK := hB.K
  have hal := hB.la
  unfold f_Z_costOf at h
  obtain ⟨b1, h⟩ := ax_gd h
  refine ax_bk hK (ax_fc (ax_v_ld (ax_r_aload_n (i := 0) d_Z_costOf_0 rfl)) (ax_fc (ax_w_gf (e := none) hal d_Z_costOf_1 fd_Z_39) (ax_fc (ax_v_ld (ax_r_iload_n (i := 1) d_Z_costOf_4 rfl)) (ax_fc (ax_w_iald hal d_Z_costOf_5) (ax_fc (ax_v_pu (ax_r_bipush (v := 7) d_Z_costOf_6 (by decide))) ax_fn))))) (y := (8, [(0, .inr (0, 38)), (1, .inl (.int (a1)))], [.inl (.int ((7 : Int32))), .inl (.int ((s.1 0 47 (a1).toNatClampNeg)))], ax_m (s) ρ)) rfl ⟨trivial, (h0 38 rfl), trivial, ⟨(h0 47 rfl), ax_inp b1⟩, trivial, trivial⟩ ?_
  obtain ⟨w8, hw8, h⟩ := ax_bd h
  have KEw8 : ∀ (v3 : Int32), w8 = v3 → ax_R G 3 0 0 (16, [(0, .inr (0, 38)), (1, .inl (.int (a1)))], [.inl (.int (v3))], ax_m (s) ρ) := by
    intro v3 e9
    subst w8
    try dsimp only at h
    refine ax_bk hK (ax_fc (ax_v_so (ax_r_istore_n (i := 2) d_Z_costOf_16 rfl)) (ax_fc (ax_v_ld (ax_r_iload_n (i := 2) d_Z_costOf_17 rfl)) ax_fn)) (y := (18, [(2, .inl (.int (v3))), (0, .inr (0, 38)), (1, .inl (.int (a1)))], [.inl (.int (v3))], ax_m (s) ρ)) rfl ⟨trivial, trivial, trivial⟩ ?_
    refine ax_if_eq (tgt := 25) hK d_Z_costOf_18 (by decide) (fun c7 => ?_) (fun c7 => ?_)
    · replace h := ax_it c7 h
      refine ax_bk hK (ax_fc (ax_v_pu (ax_r_iconst (v := 1) d_Z_costOf_25 (by decide))) (ax_fc (ax_v_ld (ax_r_aload_n (i := 0) d_Z_costOf_26 rfl)) (ax_fc (ax_v_ld (ax_r_iload_n (i := 1) d_Z_costOf_27 rfl)) ax_fn))) (y := (28, [(2, .inl (.int (v3))), (0, .inr (0, 38)), (1, .inl (.int (a1)))], [.inl (.int (a1)), .inr (0, 38), .inl (.int ((1 : Int32)))], ax_m (s) ρ)) rfl ⟨trivial, trivial, trivial, trivial⟩ ?_
      obtain ⟨⟨r4, s5⟩, q6, h⟩ := ax_bd h
      dsimp only at h
      refine ax_bV (rest := [.inl (.int ((1 : Int32)))]) hB (t_Z_gauge h0 q6) cw_Z_353 im_Z_gauge se_Z_gauge d_Z_costOf_28 (h0 38 rfl) rfl rfl (by decide) (by decide) rfl rfl (Nat.le_of_ble_eq_true rfl) ?_
      change ax_R G 3 0 0 (31, [(2, .inl (.int (v3))), (0, .inr (0, 38)), (1, .inl (.int (a1)))], [.inl (.int (r4)), .inl (.int ((1 : Int32)))], ax_m (s5) ρ)
      refine ax_bk hK (ax_fc (ax_v_pu (ax_r_iadd d_Z_costOf_31)) ax_fn) (y := (32, [(2, .inl (.int (v3))), (0, .inr (0, 38)), (1, .inl (.int (a1)))], [.inl (.int (((1 : Int32) + r4)))], ax_m (s5) ρ)) rfl ⟨trivial, trivial⟩ ?_
      cases h
      exact ax_iret hA d_Z_costOf_32
    · replace h := ax_if c7 h
      refine ax_bk hK (ax_fc (ax_v_pu (ax_r_iconst (v := 1) d_Z_costOf_21 (by decide))) (ax_fc (ax_v_go (tgt := 32) d_Z_costOf_22 (by decide)) ax_fn)) (y := (32, [(2, .inl (.int (v3))), (0, .inr (0, 38)), (1, .inl (.int (a1)))], [.inl (.int ((1 : Int32)))], ax_m (s) ρ)) rfl ⟨trivial, trivial, trivial⟩ ?_
      cases h
      exact ax_iret hA d_Z_costOf_32
  clear h
  have h := hw8
  refine ax_ic_lt (tgt := 15) hK d_Z_costOf_8 (by decide) (fun c2 => ?_) (fun c2 => ?_)
  · replace h := ax_it c2 h
    refine ax_bk hK (ax_fc (ax_v_pu (ax_r_iconst (v := 0) d_Z_costOf_15 (by decide))) ax_fn) (y := (16, [(0, .inr (0, 38)), (1, .inl (.int (a1)))], [.inl (.int ((0 : Int32)))], ax_m (s) ρ)) rfl ⟨trivial, trivial⟩ ?_
    cases h
    exact ax_Lsub [0, 1] rfl (KEw8 _ rfl)
  · replace h := ax_if c2 h
    refine ax_bk hK (ax_fc (ax_v_pu (ax_r_iconst (v := 1) d_Z_costOf_11 (by decide))) (ax_fc (ax_v_go (tgt := 16) d_Z_costOf_12 (by decide)) ax_fn)) (y := (16, [(0, .inr (0, 38)), (1, .inl (.int (a1)))], [.inl (.int ((1 : Int32)))], ax_m (s) ρ)) rfl ⟨trivial, trivial, trivial⟩ ?_
    cases h
    exact ax_Lsub [0, 1] rfl (KEw8 _ rfl)
def y_Z_note : MethodName := ⟨"CipherNotationModel", "note", "(I)V"⟩
theorem d_Z_note_0 : decode prog_8_method_44_code 0 = .ok (.iload_n 1, 1) := by decide +kernel
theorem d_Z_note_1 : decode prog_8_method_44_code 1 = .ok (.aload_n 0, 1) := by decide +kernel
theorem d_Z_note_2 : decode prog_8_method_44_code 2 = .ok (.getfield (189), 3) := by decide +kernel
theorem d_Z_note_5 : decode prog_8_method_44_code 5 = .ok (.if_icmp .ge (65), 3) := by decide +kernel
theorem d_Z_note_8 : decode prog_8_method_44_code 8 = .ok (.aload_n 0, 1) := by decide +kernel
theorem d_Z_note_9 : decode prog_8_method_44_code 9 = .ok (.getfield (359), 3) := by decide +kernel
theorem d_Z_note_12 : decode prog_8_method_44_code 12 = .ok (.bipush (32), 2) := by decide +kernel
theorem d_Z_note_14 : decode prog_8_method_44_code 14 = .ok (.if_icmp .ge (43), 3) := by decide +kernel
theorem d_Z_note_17 : decode prog_8_method_44_code 17 = .ok (.aload_n 0, 1) := by decide +kernel
theorem d_Z_note_18 : decode prog_8_method_44_code 18 = .ok (.getfield (102), 3) := by decide +kernel
theorem d_Z_note_21 : decode prog_8_method_44_code 21 = .ok (.aload_n 0, 1) := by decide +kernel
theorem d_Z_note_22 : decode prog_8_method_44_code 22 = .ok (.getfield (359), 3) := by decide +kernel
theorem d_Z_note_25 : decode prog_8_method_44_code 25 = .ok (.iload_n 1, 1) := by decide +kernel
theorem d_Z_note_26 : decode prog_8_method_44_code 26 = .ok (.iastore, 1) := by decide +kernel
theorem d_Z_note_27 : decode prog_8_method_44_code 27 = .ok (.aload_n 0, 1) := by decide +kernel
theorem d_Z_note_28 : decode prog_8_method_44_code 28 = .ok (.getfield (105), 3) := by decide +kernel
theorem d_Z_note_31 : decode prog_8_method_44_code 31 = .ok (.aload_n 0, 1) := by decide +kernel
theorem d_Z_note_32 : decode prog_8_method_44_code 32 = .ok (.getfield (359), 3) := by decide +kernel
theorem d_Z_note_35 : decode prog_8_method_44_code 35 = .ok (.aload_n 0, 1) := by decide +kernel
theorem d_Z_note_36 : decode prog_8_method_44_code 36 = .ok (.getfield (120), 3) := by decide +kernel
theorem d_Z_note_39 : decode prog_8_method_44_code 39 = .ok (.iconst 0, 1) := by decide +kernel
theorem d_Z_note_40 : decode prog_8_method_44_code 40 = .ok (.iaload, 1) := by decide +kernel
theorem d_Z_note_41 : decode prog_8_method_44_code 41 = .ok (.iastore, 1) := by decide +kernel
theorem d_Z_note_42 : decode prog_8_method_44_code 42 = .ok (.aload_n 0, 1) := by decide +kernel
theorem d_Z_note_43 : decode prog_8_method_44_code 43 = .ok (.getfield (108), 3) := by decide +kernel
theorem d_Z_note_46 : decode prog_8_method_44_code 46 = .ok (.aload_n 0, 1) := by decide +kernel
theorem d_Z_note_47 : decode prog_8_method_44_code 47 = .ok (.getfield (359), 3) := by decide +kernel
theorem d_Z_note_50 : decode prog_8_method_44_code 50 = .ok (.aload_n 0, 1) := by decide +kernel
theorem d_Z_note_51 : decode prog_8_method_44_code 51 = .ok (.getfield (120), 3) := by decide +kernel
theorem d_Z_note_54 : decode prog_8_method_44_code 54 = .ok (.iconst 1, 1) := by decide +kernel
theorem d_Z_note_55 : decode prog_8_method_44_code 55 = .ok (.iaload, 1) := by decide +kernel
theorem d_Z_note_56 : decode prog_8_method_44_code 56 = .ok (.iastore, 1) := by decide +kernel
theorem d_Z_note_57 : decode prog_8_method_44_code 57 = .ok (.aload_n 0, 1) := by decide +kernel
theorem d_Z_note_58 : decode prog_8_method_44_code 58 = .ok (.dup, 1) := by decide +kernel
theorem d_Z_note_59 : decode prog_8_method_44_code 59 = .ok (.getfield (359), 3) := by decide +kernel
theorem d_Z_note_62 : decode prog_8_method_44_code 62 = .ok (.iconst 1, 1) := by decide +kernel
theorem d_Z_note_63 : decode prog_8_method_44_code 63 = .ok (.iadd, 1) := by decide +kernel
theorem d_Z_note_64 : decode prog_8_method_44_code 64 = .ok (.putfield (359), 3) := by decide +kernel
theorem d_Z_note_67 : decode prog_8_method_44_code 67 = .ok (.goto (63), 3) := by decide +kernel
theorem d_Z_note_70 : decode prog_8_method_44_code 70 = .ok (.aload_n 0, 1) := by decide +kernel
theorem d_Z_note_71 : decode prog_8_method_44_code 71 = .ok (.getfield (362), 3) := by decide +kernel
theorem d_Z_note_74 : decode prog_8_method_44_code 74 = .ok (.sipush (400), 3) := by decide +kernel
theorem d_Z_note_77 : decode prog_8_method_44_code 77 = .ok (.if_icmp .ge (43), 3) := by decide +kernel
theorem d_Z_note_80 : decode prog_8_method_44_code 80 = .ok (.aload_n 0, 1) := by decide +kernel
theorem d_Z_note_81 : decode prog_8_method_44_code 81 = .ok (.getfield (111), 3) := by decide +kernel
theorem d_Z_note_84 : decode prog_8_method_44_code 84 = .ok (.aload_n 0, 1) := by decide +kernel
theorem d_Z_note_85 : decode prog_8_method_44_code 85 = .ok (.getfield (362), 3) := by decide +kernel
theorem d_Z_note_88 : decode prog_8_method_44_code 88 = .ok (.iload_n 1, 1) := by decide +kernel
theorem d_Z_note_89 : decode prog_8_method_44_code 89 = .ok (.iastore, 1) := by decide +kernel
theorem d_Z_note_90 : decode prog_8_method_44_code 90 = .ok (.aload_n 0, 1) := by decide +kernel
theorem d_Z_note_91 : decode prog_8_method_44_code 91 = .ok (.getfield (114), 3) := by decide +kernel
theorem d_Z_note_94 : decode prog_8_method_44_code 94 = .ok (.aload_n 0, 1) := by decide +kernel
theorem d_Z_note_95 : decode prog_8_method_44_code 95 = .ok (.getfield (362), 3) := by decide +kernel
theorem d_Z_note_98 : decode prog_8_method_44_code 98 = .ok (.aload_n 0, 1) := by decide +kernel
theorem d_Z_note_99 : decode prog_8_method_44_code 99 = .ok (.getfield (120), 3) := by decide +kernel
theorem d_Z_note_102 : decode prog_8_method_44_code 102 = .ok (.iconst 0, 1) := by decide +kernel
theorem d_Z_note_103 : decode prog_8_method_44_code 103 = .ok (.iaload, 1) := by decide +kernel
theorem d_Z_note_104 : decode prog_8_method_44_code 104 = .ok (.iastore, 1) := by decide +kernel
theorem d_Z_note_105 : decode prog_8_method_44_code 105 = .ok (.aload_n 0, 1) := by decide +kernel
theorem d_Z_note_106 : decode prog_8_method_44_code 106 = .ok (.getfield (117), 3) := by decide +kernel
theorem d_Z_note_109 : decode prog_8_method_44_code 109 = .ok (.aload_n 0, 1) := by decide +kernel
theorem d_Z_note_110 : decode prog_8_method_44_code 110 = .ok (.getfield (362), 3) := by decide +kernel
theorem d_Z_note_113 : decode prog_8_method_44_code 113 = .ok (.aload_n 0, 1) := by decide +kernel
theorem d_Z_note_114 : decode prog_8_method_44_code 114 = .ok (.getfield (120), 3) := by decide +kernel
theorem d_Z_note_117 : decode prog_8_method_44_code 117 = .ok (.iconst 1, 1) := by decide +kernel
theorem d_Z_note_118 : decode prog_8_method_44_code 118 = .ok (.iaload, 1) := by decide +kernel
theorem d_Z_note_119 : decode prog_8_method_44_code 119 = .ok (.iastore, 1) := by decide +kernel
theorem d_Z_note_120 : decode prog_8_method_44_code 120 = .ok (.aload_n 0, 1) := by decide +kernel
theorem d_Z_note_121 : decode prog_8_method_44_code 121 = .ok (.dup, 1) := by decide +kernel
theorem d_Z_note_122 : decode prog_8_method_44_code 122 = .ok (.getfield (362), 3) := by decide +kernel
theorem d_Z_note_125 : decode prog_8_method_44_code 125 = .ok (.iconst 1, 1) := by decide +kernel
theorem d_Z_note_126 : decode prog_8_method_44_code 126 = .ok (.iadd, 1) := by decide +kernel
theorem d_Z_note_127 : decode prog_8_method_44_code 127 = .ok (.putfield (362), 3) := by decide +kernel
theorem d_Z_note_130 : decode prog_8_method_44_code 130 = .ok (.return_, 1) := by decide +kernel
theorem fd_Z_362 : ax_fd "CipherNotationModel" 362 6 59 := ⟨nC6, nT6, 73, nY6, rfl, nW6, by decide, nw_4 196 (by decide +kernel) rfl, nO6, nA6⟩
theorem fp_Z_362 : ax_fp "CipherNotationModel" 362 6 59 (.int) := ⟨nC6, nT6, 73, nY6, rfl, nW6, by decide, nw_4 196 (by decide +kernel) rfl, nO6, nA6, by decide +kernel, by decide +kernel⟩
theorem fd_Z_111 : ax_fd "CipherNotationModel" 111 6 60 := ⟨nC6, nT6, 73, nY6, rfl, nW6, by decide, nw_4 197 (by decide +kernel) rfl, nO6, nA6⟩
theorem fd_Z_114 : ax_fd "CipherNotationModel" 114 6 61 := ⟨nC6, nT6, 73, nY6, rfl, nW6, by decide, nw_4 198 (by decide +kernel) rfl, nO6, nA6⟩
theorem fd_Z_117 : ax_fd "CipherNotationModel" 117 6 62 := ⟨nC6, nT6, 73, nY6, rfl, nW6, by decide, nw_4 199 (by decide +kernel) rfl, nO6, nA6⟩
theorem fd_Z_359 : ax_fd "CipherNotationModel" 359 6 55 := ⟨nC6, nT6, 73, nY6, rfl, nW6, by decide, nw_4 192 (by decide +kernel) rfl, nO6, nA6⟩
theorem fp_Z_359 : ax_fp "CipherNotationModel" 359 6 55 (.int) := ⟨nC6, nT6, 73, nY6, rfl, nW6, by decide, nw_4 192 (by decide +kernel) rfl, nO6, nA6, by decide +kernel, by decide +kernel⟩
theorem fd_Z_102 : ax_fd "CipherNotationModel" 102 6 56 := ⟨nC6, nT6, 73, nY6, rfl, nW6, by decide, nw_4 193 (by decide +kernel) rfl, nO6, nA6⟩
theorem fd_Z_105 : ax_fd "CipherNotationModel" 105 6 57 := ⟨nC6, nT6, 73, nY6, rfl, nW6, by decide, nw_4 194 (by decide +kernel) rfl, nO6, nA6⟩
theorem fd_Z_108 : ax_fd "CipherNotationModel" 108 6 58 := ⟨nC6, nT6, 73, nY6, rfl, nW6, by decide, nw_4 195 (by decide +kernel) rfl, nO6, nA6⟩
def f_Z_note (a1 : Int32) (s : ax_σ) : Option (ax_σ) :=
  if (s.1 0 38 23) ≤ a1 then
    Option.bind (
      if (400 : Int32) ≤ (s.1 0 38 59) then
        some s
      else
        bif ax_in (s.1 0 38 59) 400 then
        ax_let (ax_wI s 0 71 ((s.1 0 38 59)).toNatClampNeg a1) (fun s2 =>
          bif ax_in (0 : Int32) 2 then
          bif ax_in (s2.1 0 38 59) 400 then
          ax_let (ax_wI s2 0 72 ((s2.1 0 38 59)).toNatClampNeg (s2.1 0 74 ((0 : Int32)).toNatClampNeg)) (fun s5 =>
            bif ax_in (1 : Int32) 2 then
            bif ax_in (s5.1 0 38 59) 400 then
            ax_let (ax_wI s5 0 73 ((s5.1 0 38 59)).toNatClampNeg (s5.1 0 74 ((1 : Int32)).toNatClampNeg)) (fun s8 =>
              some s8)
            else none
            else none)
          else none
          else none)
        else none) (fun s10 =>
      ax_let (ax_wI s10 0 38 59 ((s10.1 0 38 59) + (1 : Int32))) (fun s11 =>
        some (s11)))
  else
    Option.bind (
      if (32 : Int32) ≤ (s.1 0 38 55) then
        some s
      else
        bif ax_in (s.1 0 38 55) 32 then
        ax_let (ax_wI s 0 68 ((s.1 0 38 55)).toNatClampNeg a1) (fun s13 =>
          bif ax_in (0 : Int32) 2 then
          bif ax_in (s13.1 0 38 55) 32 then
          ax_let (ax_wI s13 0 69 ((s13.1 0 38 55)).toNatClampNeg (s13.1 0 74 ((0 : Int32)).toNatClampNeg)) (fun s16 =>
            bif ax_in (1 : Int32) 2 then
            bif ax_in (s16.1 0 38 55) 32 then
            ax_let (ax_wI s16 0 70 ((s16.1 0 38 55)).toNatClampNeg (s16.1 0 74 ((1 : Int32)).toNatClampNeg)) (fun s19 =>
              some s19)
            else none
            else none)
          else none
          else none)
        else none) (fun s21 =>
      ax_let (ax_wI s21 0 38 55 ((s21.1 0 38 55) + (1 : Int32))) (fun s22 =>
        some (s22)))
set_option maxHeartbeats 4000000 in
set_option maxRecDepth 100000 in
theorem t_Z_note {l : Launch} {D : va_G} {cA : Nat → ClassId} {ad : Nat → Nat → Nat} {al : List (Nat × Nat)} {θ : ax_Θ} {ρ : ax_ρ} (h0 : ax_M0 al) {a1 : Int32} {s : ax_σ} {s0 : ax_σ} (h : f_Z_note a1 s = some s0) : ax_T l D cA ad al θ y_Z_note (.code y_Z_note prog_8_method_44_code 2 none) 0 [.inr (0, 38), .inl (.int (a1))] (ax_m s ρ) none (ax_m s0 ρ) := by
  refine ax_T_of (own := "CipherNotationModel") (by decide) rfl (Nat.le_of_ble_eq_true rfl) [(0, .inr (0, 38)), (1, .inl (.int (a1)))] rfl ?_
  intro G hA
  have hB := hA.B
  have hK := hB.K
  have hal := hB.la
  unfold f_Z_note at h
  refine ax_bk hK (ax_fc (ax_v_ld (ax_r_iload_n (i := 1) d_Z_note_0 rfl)) (ax_fc (ax_v_ld (ax_r_aload_n (i := 0) d_Z_note_1 rfl)) (ax_fc (ax_w_gf (e := none) hal d_Z_note_2 fd_Z_189) ax_fn))) (y := (5, [(0, .inr (0, 38)), (1, .inl (.int (a1)))], [.inl (.int ((s.1 0 38 23))), .inl (.int (a1))], ax_m (s) ρ)) rfl ⟨trivial, trivial, (h0 38 rfl), trivial⟩ ?_
  refine ax_ic_ge (tgt := 70) hK d_Z_note_5 (by decide) (fun c23 => ?_) (fun c23 => ?_)
  · replace h := ax_it c23 h
    refine ax_bk hK (ax_fc (ax_v_ld (ax_r_aload_n (i := 0) d_Z_note_70 rfl)) (ax_fc (ax_w_gf (e := none) hal d_Z_note_71 fd_Z_362) (ax_fc (ax_v_pu (ax_r_sipush (v := 400) d_Z_note_74 (by decide))) ax_fn))) (y := (77, [(0, .inr (0, 38)), (1, .inl (.int (a1)))], [.inl (.int ((400 : Int32))), .inl (.int ((s.1 0 38 59)))], ax_m (s) ρ)) rfl ⟨trivial, (h0 38 rfl), trivial, trivial⟩ ?_
    obtain ⟨w24, hw24, h⟩ := ax_bd h
    have KEw24 : ∀ (s10 : ax_σ), w24 = s10 → ax_R G 2 0 0 (120, [(0, .inr (0, 38))], [], ax_m (s10) ρ) := by
      intro s10 e9
      subst w24
      try dsimp only at h
      refine ax_bk hK (ax_fc (ax_v_ld (ax_r_aload_n (i := 0) d_Z_note_120 rfl)) (ax_fc (ax_v_pu (ax_r_dup d_Z_note_121)) (ax_fc (ax_w_gf (e := none) hal d_Z_note_122 fd_Z_362) (ax_fc (ax_v_pu (ax_r_iconst (v := 1) d_Z_note_125 (by decide))) (ax_fc (ax_v_pu (ax_r_iadd d_Z_note_126)) (ax_fc (ax_w_pf (tc := 0) hal d_Z_note_127 fp_Z_362 rfl) ax_fn)))))) (y := (130, [(0, .inr (0, 38))], [], ax_m (ax_wI s10 0 38 59 ((s10.1 0 38 59) + (1 : Int32))) ρ)) rfl ⟨trivial, trivial, (h0 38 rfl), trivial, trivial, (h0 38 rfl), trivial⟩ ?_
      refine ax_lt (Q := fun ςς => ax_R G 2 0 0 (130, [(0, .inr (0, 38))], [], ax_m (ςς) ρ)) h (fun s11 h => ?_)
      cases h
      exact ax_vret hA d_Z_note_130
    clear h
    have h := hw24
    refine ax_ic_ge (tgt := 120) hK d_Z_note_77 (by decide) (fun c9 => ?_) (fun c9 => ?_)
    · replace h := ax_it c9 h
      cases h
      exact ax_Lsub [0] rfl (KEw24 _ rfl)
    · replace h := ax_if c9 h
      obtain ⟨b1, h⟩ := ax_gd h
      refine ax_bk hK (ax_fc (ax_v_ld (ax_r_aload_n (i := 0) d_Z_note_80 rfl)) (ax_fc (ax_w_gf (e := none) hal d_Z_note_81 fd_Z_111) (ax_fc (ax_v_ld (ax_r_aload_n (i := 0) d_Z_note_84 rfl)) (ax_fc (ax_w_gf (e := none) hal d_Z_note_85 fd_Z_362) (ax_fc (ax_v_ld (ax_r_iload_n (i := 1) d_Z_note_88 rfl)) (ax_fc (ax_w_iast hal d_Z_note_89) ax_fn)))))) (y := (90, [(0, .inr (0, 38)), (1, .inl (.int (a1)))], [], ax_m (ax_wI s 0 71 ((s.1 0 38 59)).toNatClampNeg a1) ρ)) rfl ⟨trivial, (h0 38 rfl), trivial, (h0 38 rfl), trivial, ⟨(h0 71 rfl), ax_inp b1⟩, trivial⟩ ?_
      refine ax_lt (Q := fun ςς => ax_R G 2 0 0 (90, [(0, .inr (0, 38)), (1, .inl (.int (a1)))], [], ax_m (ςς) ρ)) h (fun s2 h => ?_)
      obtain ⟨b3, h⟩ := ax_gd h
      obtain ⟨b4, h⟩ := ax_gd h
      refine ax_bk hK (ax_fc (ax_v_ld (ax_r_aload_n (i := 0) d_Z_note_90 rfl)) (ax_fc (ax_w_gf (e := none) hal d_Z_note_91 fd_Z_114) (ax_fc (ax_v_ld (ax_r_aload_n (i := 0) d_Z_note_94 rfl)) (ax_fc (ax_w_gf (e := none) hal d_Z_note_95 fd_Z_362) (ax_fc (ax_v_ld (ax_r_aload_n (i := 0) d_Z_note_98 rfl)) (ax_fc (ax_w_gf (e := none) hal d_Z_note_99 fd_Z_120) (ax_fc (ax_v_pu (ax_r_iconst (v := 0) d_Z_note_102 (by decide))) (ax_fc (ax_w_iald hal d_Z_note_103) (ax_fc (ax_w_iast hal d_Z_note_104) ax_fn))))))))) (y := (105, [(0, .inr (0, 38)), (1, .inl (.int (a1)))], [], ax_m (ax_wI s2 0 72 ((s2.1 0 38 59)).toNatClampNeg (s2.1 0 74 ((0 : Int32)).toNatClampNeg)) ρ)) rfl ⟨trivial, (h0 38 rfl), trivial, (h0 38 rfl), trivial, (h0 38 rfl), trivial, ⟨(h0 74 rfl), ax_inp b3⟩, ⟨(h0 72 rfl), ax_inp b4⟩, trivial⟩ ?_
      refine ax_lt (Q := fun ςς => ax_R G 2 0 0 (105, [(0, .inr (0, 38)), (1, .inl (.int (a1)))], [], ax_m (ςς) ρ)) h (fun s5 h => ?_)
      obtain ⟨b6, h⟩ := ax_gd h
      obtain ⟨b7, h⟩ := ax_gd h
      refine ax_bk hK (ax_fc (ax_v_ld (ax_r_aload_n (i := 0) d_Z_note_105 rfl)) (ax_fc (ax_w_gf (e := none) hal d_Z_note_106 fd_Z_117) (ax_fc (ax_v_ld (ax_r_aload_n (i := 0) d_Z_note_109 rfl)) (ax_fc (ax_w_gf (e := none) hal d_Z_note_110 fd_Z_362) (ax_fc (ax_v_ld (ax_r_aload_n (i := 0) d_Z_note_113 rfl)) (ax_fc (ax_w_gf (e := none) hal d_Z_note_114 fd_Z_120) (ax_fc (ax_v_pu (ax_r_iconst (v := 1) d_Z_note_117 (by decide))) (ax_fc (ax_w_iald hal d_Z_note_118) (ax_fc (ax_w_iast hal d_Z_note_119) ax_fn))))))))) (y := (120, [(0, .inr (0, 38)), (1, .inl (.int (a1)))], [], ax_m (ax_wI s5 0 73 ((s5.1 0 38 59)).toNatClampNeg (s5.1 0 74 ((1 : Int32)).toNatClampNeg)) ρ)) rfl ⟨trivial, (h0 38 rfl), trivial, (h0 38 rfl), trivial, (h0 38 rfl), trivial, ⟨(h0 74 rfl), ax_inp b6⟩, ⟨(h0 73 rfl), ax_inp b7⟩, trivial⟩ ?_
      refine ax_lt (Q := fun ςς => ax_R G 2 0 0 (120, [(0, .inr (0, 38)), (1, .inl (.int (a1)))], [], ax_m (ςς) ρ)) h (fun s8 h => ?_)
      cases h
      exact ax_Lsub [0] rfl (KEw24 _ rfl)
  · replace h := ax_if c23 h
    refine ax_bk hK (ax_fc (ax_v_ld (ax_r_aload_n (i := 0) d_Z_note_8 rfl)) (ax_fc (ax_w_gf (e := none) hal d_Z_note_9 fd_Z_359) (ax_fc (ax_v_pu (ax_r_bipush (v := 32) d_Z_note_12 (by decide))) ax_fn))) (y := (14, [(0, .inr (0, 38)), (1, .inl (.int (a1)))], [.inl (.int ((32 : Int32))), .inl (.int ((s.1 0 38 55)))], ax_m (s) ρ)) rfl ⟨trivial, (h0 38 rfl), trivial, trivial⟩ ?_
    obtain ⟨w25, hw25, h⟩ := ax_bd h
    have KEw25 : ∀ (s21 : ax_σ), w25 = s21 → ax_R G 2 0 0 (57, [(0, .inr (0, 38))], [], ax_m (s21) ρ) := by
      intro s21 e9
      subst w25
      try dsimp only at h
      refine ax_bk hK (ax_fc (ax_v_ld (ax_r_aload_n (i := 0) d_Z_note_57 rfl)) (ax_fc (ax_v_pu (ax_r_dup d_Z_note_58)) (ax_fc (ax_w_gf (e := none) hal d_Z_note_59 fd_Z_359) (ax_fc (ax_v_pu (ax_r_iconst (v := 1) d_Z_note_62 (by decide))) (ax_fc (ax_v_pu (ax_r_iadd d_Z_note_63)) (ax_fc (ax_w_pf (tc := 0) hal d_Z_note_64 fp_Z_359 rfl) ax_fn)))))) (y := (67, [(0, .inr (0, 38))], [], ax_m (ax_wI s21 0 38 55 ((s21.1 0 38 55) + (1 : Int32))) ρ)) rfl ⟨trivial, trivial, (h0 38 rfl), trivial, trivial, (h0 38 rfl), trivial⟩ ?_
      refine ax_lt (Q := fun ςς => ax_R G 2 0 0 (67, [(0, .inr (0, 38))], [], ax_m (ςς) ρ)) h (fun s22 h => ?_)
      refine ax_bk hK (ax_fc (ax_v_go (tgt := 130) d_Z_note_67 (by decide)) ax_fn) (y := (130, [(0, .inr (0, 38))], [], ax_m (s22) ρ)) rfl ⟨trivial, trivial⟩ ?_
      cases h
      exact ax_vret hA d_Z_note_130
    clear h
    have h := hw25
    refine ax_ic_ge (tgt := 57) hK d_Z_note_14 (by decide) (fun c20 => ?_) (fun c20 => ?_)
    · replace h := ax_it c20 h
      cases h
      exact ax_Lsub [0] rfl (KEw25 _ rfl)
    · replace h := ax_if c20 h
      obtain ⟨b12, h⟩ := ax_gd h
      refine ax_bk hK (ax_fc (ax_v_ld (ax_r_aload_n (i := 0) d_Z_note_17 rfl)) (ax_fc (ax_w_gf (e := none) hal d_Z_note_18 fd_Z_102) (ax_fc (ax_v_ld (ax_r_aload_n (i := 0) d_Z_note_21 rfl)) (ax_fc (ax_w_gf (e := none) hal d_Z_note_22 fd_Z_359) (ax_fc (ax_v_ld (ax_r_iload_n (i := 1) d_Z_note_25 rfl)) (ax_fc (ax_w_iast hal d_Z_note_26) ax_fn)))))) (y := (27, [(0, .inr (0, 38)), (1, .inl (.int (a1)))], [], ax_m (ax_wI s 0 68 ((s.1 0 38 55)).toNatClampNeg a1) ρ)) rfl ⟨trivial, (h0 38 rfl), trivial, (h0 38 rfl), trivial, ⟨(h0 68 rfl), ax_inp b12⟩, trivial⟩ ?_
      refine ax_lt (Q := fun ςς => ax_R G 2 0 0 (27, [(0, .inr (0, 38)), (1, .inl (.int (a1)))], [], ax_m (ςς) ρ)) h (fun s13 h => ?_)
      obtain ⟨b14, h⟩ := ax_gd h
      obtain ⟨b15, h⟩ := ax_gd h
      refine ax_bk hK (ax_fc (ax_v_ld (ax_r_aload_n (i := 0) d_Z_note_27 rfl)) (ax_fc (ax_w_gf (e := none) hal d_Z_note_28 fd_Z_105) (ax_fc (ax_v_ld (ax_r_aload_n (i := 0) d_Z_note_31 rfl)) (ax_fc (ax_w_gf (e := none) hal d_Z_note_32 fd_Z_359) (ax_fc (ax_v_ld (ax_r_aload_n (i := 0) d_Z_note_35 rfl)) (ax_fc (ax_w_gf (e := none) hal d_Z_note_36 fd_Z_120) (ax_fc (ax_v_pu (ax_r_iconst (v := 0) d_Z_note_39 (by decide))) (ax_fc (ax_w_iald hal d_Z_note_40) (ax_fc (ax_w_iast hal d_Z_note_41) ax_fn))))))))) (y := (42, [(0, .inr (0, 38)), (1, .inl (.int (a1)))], [], ax_m (ax_wI s13 0 69 ((s13.1 0 38 55)).toNatClampNeg (s13.1 0 74 ((0 : Int32)).toNatClampNeg)) ρ)) rfl ⟨trivial, (h0 38 rfl), trivial, (h0 38 rfl), trivial, (h0 38 rfl), trivial, ⟨(h0 74 rfl), ax_inp b14⟩, ⟨(h0 69 rfl), ax_inp b15⟩, trivial⟩ ?_
      refine ax_lt (Q := fun ςς => ax_R G 2 0 0 (42, [(0, .inr (0, 38)), (1, .inl (.int (a1)))], [], ax_m (ςς) ρ)) h (fun s16 h => ?_)
      obtain ⟨b17, h⟩ := ax_gd h
      obtain ⟨b18, h⟩ := ax_gd h
      refine ax_bk hK (ax_fc (ax_v_ld (ax_r_aload_n (i := 0) d_Z_note_42 rfl)) (ax_fc (ax_w_gf (e := none) hal d_Z_note_43 fd_Z_108) (ax_fc (ax_v_ld (ax_r_aload_n (i := 0) d_Z_note_46 rfl)) (ax_fc (ax_w_gf (e := none) hal d_Z_note_47 fd_Z_359) (ax_fc (ax_v_ld (ax_r_aload_n (i := 0) d_Z_note_50 rfl)) (ax_fc (ax_w_gf (e := none) hal d_Z_note_51 fd_Z_120) (ax_fc (ax_v_pu (ax_r_iconst (v := 1) d_Z_note_54 (by decide))) (ax_fc (ax_w_iald hal d_Z_note_55) (ax_fc (ax_w_iast hal d_Z_note_56) ax_fn))))))))) (y := (57, [(0, .inr (0, 38)), (1, .inl (.int (a1)))], [], ax_m (ax_wI s16 0 70 ((s16.1 0 38 55)).toNatClampNeg (s16.1 0 74 ((1 : Int32)).toNatClampNeg)) ρ)) rfl ⟨trivial, (h0 38 rfl), trivial, (h0 38 rfl), trivial, (h0 38 rfl), trivial, ⟨(h0 74 rfl), ax_inp b17⟩, ⟨(h0 70 rfl), ax_inp b18⟩, trivial⟩ ?_
      refine ax_lt (Q := fun ςς => ax_R G 2 0 0 (57, [(0, .inr (0, 38)), (1, .inl (.int (a1)))], [], ax_m (ςς) ρ)) h (fun s19 h => ?_)
      cases h
      exact ax_Lsub [0] rfl (KEw25 _ rfl)
def y_Z_layOut : MethodName := ⟨"CipherNotationModel", "layOut", "()V"⟩
theorem d_Z_layOut_0 : decode prog_8_method_43_code 0 = .ok (.aload_n 0, 1) := by decide +kernel
theorem d_Z_layOut_1 : decode prog_8_method_43_code 1 = .ok (.iconst 0, 1) := by decide +kernel
theorem d_Z_layOut_2 : decode prog_8_method_43_code 2 = .ok (.putfield (359), 3) := by decide +kernel
theorem d_Z_layOut_5 : decode prog_8_method_43_code 5 = .ok (.aload_n 0, 1) := by decide +kernel
theorem d_Z_layOut_6 : decode prog_8_method_43_code 6 = .ok (.iconst 0, 1) := by decide +kernel
theorem d_Z_layOut_7 : decode prog_8_method_43_code 7 = .ok (.putfield (362), 3) := by decide +kernel
theorem d_Z_layOut_10 : decode prog_8_method_43_code 10 = .ok (.aload_n 0, 1) := by decide +kernel
theorem d_Z_layOut_11 : decode prog_8_method_43_code 11 = .ok (.iconst 0, 1) := by decide +kernel
theorem d_Z_layOut_12 : decode prog_8_method_43_code 12 = .ok (.putfield (365), 3) := by decide +kernel
theorem d_Z_layOut_15 : decode prog_8_method_43_code 15 = .ok (.aload_n 0, 1) := by decide +kernel
theorem d_Z_layOut_16 : decode prog_8_method_43_code 16 = .ok (.iconst 0, 1) := by decide +kernel
theorem d_Z_layOut_17 : decode prog_8_method_43_code 17 = .ok (.putfield (356), 3) := by decide +kernel
theorem d_Z_layOut_20 : decode prog_8_method_43_code 20 = .ok (.iconst 0, 1) := by decide +kernel
theorem d_Z_layOut_21 : decode prog_8_method_43_code 21 = .ok (.istore_n 1, 1) := by decide +kernel
theorem d_Z_layOut_22 : decode prog_8_method_43_code 22 = .ok (.iconst 0, 1) := by decide +kernel
theorem d_Z_layOut_23 : decode prog_8_method_43_code 23 = .ok (.istore_n 2, 1) := by decide +kernel
theorem d_Z_layOut_24 : decode prog_8_method_43_code 24 = .ok (.aload_n 0, 1) := by decide +kernel
theorem d_Z_layOut_25 : decode prog_8_method_43_code 25 = .ok (.getfield (120), 3) := by decide +kernel
theorem d_Z_layOut_28 : decode prog_8_method_43_code 28 = .ok (.iconst 0, 1) := by decide +kernel
theorem d_Z_layOut_29 : decode prog_8_method_43_code 29 = .ok (.iconst 0, 1) := by decide +kernel
theorem d_Z_layOut_30 : decode prog_8_method_43_code 30 = .ok (.iastore, 1) := by decide +kernel
theorem d_Z_layOut_31 : decode prog_8_method_43_code 31 = .ok (.aload_n 0, 1) := by decide +kernel
theorem d_Z_layOut_32 : decode prog_8_method_43_code 32 = .ok (.getfield (120), 3) := by decide +kernel
theorem d_Z_layOut_35 : decode prog_8_method_43_code 35 = .ok (.iconst 1, 1) := by decide +kernel
theorem d_Z_layOut_36 : decode prog_8_method_43_code 36 = .ok (.iconst 0, 1) := by decide +kernel
theorem d_Z_layOut_37 : decode prog_8_method_43_code 37 = .ok (.iastore, 1) := by decide +kernel
theorem d_Z_layOut_38 : decode prog_8_method_43_code 38 = .ok (.iload_n 2, 1) := by decide +kernel
theorem d_Z_layOut_39 : decode prog_8_method_43_code 39 = .ok (.aload_n 0, 1) := by decide +kernel
theorem d_Z_layOut_40 : decode prog_8_method_43_code 40 = .ok (.getfield (186), 3) := by decide +kernel
theorem d_Z_layOut_43 : decode prog_8_method_43_code 43 = .ok (.if_icmp .ge (116), 3) := by decide +kernel
theorem d_Z_layOut_46 : decode prog_8_method_43_code 46 = .ok (.aload_n 0, 1) := by decide +kernel
theorem d_Z_layOut_47 : decode prog_8_method_43_code 47 = .ok (.getfield (39), 3) := by decide +kernel
theorem d_Z_layOut_50 : decode prog_8_method_43_code 50 = .ok (.iload_n 2, 1) := by decide +kernel
theorem d_Z_layOut_51 : decode prog_8_method_43_code 51 = .ok (.iaload, 1) := by decide +kernel
theorem d_Z_layOut_52 : decode prog_8_method_43_code 52 = .ok (.iconst 2, 1) := by decide +kernel
theorem d_Z_layOut_53 : decode prog_8_method_43_code 53 = .ok (.if_icmp .ne (18), 3) := by decide +kernel
theorem d_Z_layOut_56 : decode prog_8_method_43_code 56 = .ok (.aload_n 0, 1) := by decide +kernel
theorem d_Z_layOut_57 : decode prog_8_method_43_code 57 = .ok (.getfield (120), 3) := by decide +kernel
theorem d_Z_layOut_60 : decode prog_8_method_43_code 60 = .ok (.aload_n 0, 1) := by decide +kernel
theorem d_Z_layOut_61 : decode prog_8_method_43_code 61 = .ok (.getfield (45), 3) := by decide +kernel
theorem d_Z_layOut_64 : decode prog_8_method_43_code 64 = .ok (.iload_n 2, 1) := by decide +kernel
theorem d_Z_layOut_65 : decode prog_8_method_43_code 65 = .ok (.iaload, 1) := by decide +kernel
theorem d_Z_layOut_66 : decode prog_8_method_43_code 66 = .ok (.iconst 0, 1) := by decide +kernel
theorem d_Z_layOut_67 : decode prog_8_method_43_code 67 = .ok (.iastore, 1) := by decide +kernel
theorem d_Z_layOut_68 : decode prog_8_method_43_code 68 = .ok (.goto (85), 3) := by decide +kernel
theorem d_Z_layOut_71 : decode prog_8_method_43_code 71 = .ok (.aload_n 0, 1) := by decide +kernel
theorem d_Z_layOut_72 : decode prog_8_method_43_code 72 = .ok (.getfield (39), 3) := by decide +kernel
theorem d_Z_layOut_75 : decode prog_8_method_43_code 75 = .ok (.iload_n 2, 1) := by decide +kernel
theorem d_Z_layOut_76 : decode prog_8_method_43_code 76 = .ok (.iaload, 1) := by decide +kernel
theorem d_Z_layOut_77 : decode prog_8_method_43_code 77 = .ok (.iconst 3, 1) := by decide +kernel
theorem d_Z_layOut_78 : decode prog_8_method_43_code 78 = .ok (.if_icmp .ne (56), 3) := by decide +kernel
theorem d_Z_layOut_81 : decode prog_8_method_43_code 81 = .ok (.aload_n 0, 1) := by decide +kernel
theorem d_Z_layOut_82 : decode prog_8_method_43_code 82 = .ok (.getfield (48), 3) := by decide +kernel
theorem d_Z_layOut_85 : decode prog_8_method_43_code 85 = .ok (.iload_n 2, 1) := by decide +kernel
theorem d_Z_layOut_86 : decode prog_8_method_43_code 86 = .ok (.iaload, 1) := by decide +kernel
theorem d_Z_layOut_87 : decode prog_8_method_43_code 87 = .ok (.istore_n 3, 1) := by decide +kernel
theorem d_Z_layOut_88 : decode prog_8_method_43_code 88 = .ok (.aload_n 0, 1) := by decide +kernel
theorem d_Z_layOut_89 : decode prog_8_method_43_code 89 = .ok (.getfield (120), 3) := by decide +kernel
theorem d_Z_layOut_92 : decode prog_8_method_43_code 92 = .ok (.aload_n 0, 1) := by decide +kernel
theorem d_Z_layOut_93 : decode prog_8_method_43_code 93 = .ok (.getfield (45), 3) := by decide +kernel
theorem d_Z_layOut_96 : decode prog_8_method_43_code 96 = .ok (.iload_n 3, 1) := by decide +kernel
theorem d_Z_layOut_97 : decode prog_8_method_43_code 97 = .ok (.iaload, 1) := by decide +kernel
theorem d_Z_layOut_98 : decode prog_8_method_43_code 98 = .ok (.dup2, 1) := by decide +kernel
theorem d_Z_layOut_99 : decode prog_8_method_43_code 99 = .ok (.iaload, 1) := by decide +kernel
theorem d_Z_layOut_100 : decode prog_8_method_43_code 100 = .ok (.iconst 1, 1) := by decide +kernel
theorem d_Z_layOut_101 : decode prog_8_method_43_code 101 = .ok (.iadd, 1) := by decide +kernel
theorem d_Z_layOut_102 : decode prog_8_method_43_code 102 = .ok (.iastore, 1) := by decide +kernel
theorem d_Z_layOut_103 : decode prog_8_method_43_code 103 = .ok (.aload_n 0, 1) := by decide +kernel
theorem d_Z_layOut_104 : decode prog_8_method_43_code 104 = .ok (.getfield (120), 3) := by decide +kernel
theorem d_Z_layOut_107 : decode prog_8_method_43_code 107 = .ok (.aload_n 0, 1) := by decide +kernel
theorem d_Z_layOut_108 : decode prog_8_method_43_code 108 = .ok (.getfield (45), 3) := by decide +kernel
theorem d_Z_layOut_111 : decode prog_8_method_43_code 111 = .ok (.iload_n 3, 1) := by decide +kernel
theorem d_Z_layOut_112 : decode prog_8_method_43_code 112 = .ok (.iaload, 1) := by decide +kernel
theorem d_Z_layOut_113 : decode prog_8_method_43_code 113 = .ok (.iaload, 1) := by decide +kernel
theorem d_Z_layOut_114 : decode prog_8_method_43_code 114 = .ok (.i2l, 1) := by decide +kernel
theorem d_Z_layOut_115 : decode prog_8_method_43_code 115 = .ok (.aload_n 0, 1) := by decide +kernel
theorem d_Z_layOut_116 : decode prog_8_method_43_code 116 = .ok (.getfield (54), 3) := by decide +kernel
theorem d_Z_layOut_119 : decode prog_8_method_43_code 119 = .ok (.iload_n 3, 1) := by decide +kernel
theorem d_Z_layOut_120 : decode prog_8_method_43_code 120 = .ok (.laload, 1) := by decide +kernel
theorem d_Z_layOut_121 : decode prog_8_method_43_code 121 = .ok (.lcmp, 1) := by decide +kernel
theorem d_Z_layOut_122 : decode prog_8_method_43_code 122 = .ok (.ifCond .ge (7), 3) := by decide +kernel
theorem d_Z_layOut_125 : decode prog_8_method_43_code 125 = .ok (.iload_n 3, 1) := by decide +kernel
theorem d_Z_layOut_126 : decode prog_8_method_43_code 126 = .ok (.goto (4), 3) := by decide +kernel
theorem d_Z_layOut_129 : decode prog_8_method_43_code 129 = .ok (.iload_n 2, 1) := by decide +kernel
theorem d_Z_layOut_130 : decode prog_8_method_43_code 130 = .ok (.istore_n 2, 1) := by decide +kernel
theorem d_Z_layOut_131 : decode prog_8_method_43_code 131 = .ok (.goto (22), 3) := by decide +kernel
theorem d_Z_layOut_134 : decode prog_8_method_43_code 134 = .ok (.aload_n 0, 1) := by decide +kernel
theorem d_Z_layOut_135 : decode prog_8_method_43_code 135 = .ok (.aload_n 0, 1) := by decide +kernel
theorem d_Z_layOut_136 : decode prog_8_method_43_code 136 = .ok (.getfield (365), 3) := by decide +kernel
theorem d_Z_layOut_139 : decode prog_8_method_43_code 139 = .ok (.aload_n 0, 1) := by decide +kernel
theorem d_Z_layOut_140 : decode prog_8_method_43_code 140 = .ok (.iload_n 2, 1) := by decide +kernel
theorem d_Z_layOut_141 : decode prog_8_method_43_code 141 = .ok (.invokevirtual (368), 3) := by decide +kernel
theorem d_Z_layOut_144 : decode prog_8_method_43_code 144 = .ok (.iadd, 1) := by decide +kernel
theorem d_Z_layOut_145 : decode prog_8_method_43_code 145 = .ok (.putfield (365), 3) := by decide +kernel
theorem d_Z_layOut_148 : decode prog_8_method_43_code 148 = .ok (.aload_n 0, 1) := by decide +kernel
theorem d_Z_layOut_149 : decode prog_8_method_43_code 149 = .ok (.iload_n 2, 1) := by decide +kernel
theorem d_Z_layOut_150 : decode prog_8_method_43_code 150 = .ok (.invokevirtual (371), 3) := by decide +kernel
theorem d_Z_layOut_153 : decode prog_8_method_43_code 153 = .ok (.iinc 2 (1), 3) := by decide +kernel
theorem d_Z_layOut_156 : decode prog_8_method_43_code 156 = .ok (.goto (-118), 3) := by decide +kernel
theorem d_Z_layOut_159 : decode prog_8_method_43_code 159 = .ok (.aload_n 0, 1) := by decide +kernel
theorem d_Z_layOut_160 : decode prog_8_method_43_code 160 = .ok (.aload_n 0, 1) := by decide +kernel
theorem d_Z_layOut_161 : decode prog_8_method_43_code 161 = .ok (.getfield (356), 3) := by decide +kernel
theorem d_Z_layOut_164 : decode prog_8_method_43_code 164 = .ok (.aload_n 0, 1) := by decide +kernel
theorem d_Z_layOut_165 : decode prog_8_method_43_code 165 = .ok (.getfield (20), 3) := by decide +kernel
theorem d_Z_layOut_168 : decode prog_8_method_43_code 168 = .ok (.iconst 1, 1) := by decide +kernel
theorem d_Z_layOut_169 : decode prog_8_method_43_code 169 = .ok (.laload, 1) := by decide +kernel
theorem d_Z_layOut_170 : decode prog_8_method_43_code 170 = .ok (.l2i, 1) := by decide +kernel
theorem d_Z_layOut_171 : decode prog_8_method_43_code 171 = .ok (.iadd, 1) := by decide +kernel
theorem d_Z_layOut_172 : decode prog_8_method_43_code 172 = .ok (.putfield (356), 3) := by decide +kernel
theorem d_Z_layOut_175 : decode prog_8_method_43_code 175 = .ok (.aload_n 0, 1) := by decide +kernel
theorem d_Z_layOut_176 : decode prog_8_method_43_code 176 = .ok (.aload_n 0, 1) := by decide +kernel
theorem d_Z_layOut_177 : decode prog_8_method_43_code 177 = .ok (.getfield (359), 3) := by decide +kernel
theorem d_Z_layOut_180 : decode prog_8_method_43_code 180 = .ok (.bipush (32), 2) := by decide +kernel
theorem d_Z_layOut_182 : decode prog_8_method_43_code 182 = .ok (.if_icmp .gt (22), 3) := by decide +kernel
theorem d_Z_layOut_185 : decode prog_8_method_43_code 185 = .ok (.aload_n 0, 1) := by decide +kernel
theorem d_Z_layOut_186 : decode prog_8_method_43_code 186 = .ok (.getfield (365), 3) := by decide +kernel
theorem d_Z_layOut_189 : decode prog_8_method_43_code 189 = .ok (.sipush (400), 3) := by decide +kernel
theorem d_Z_layOut_192 : decode prog_8_method_43_code 192 = .ok (.if_icmp .gt (12), 3) := by decide +kernel
theorem d_Z_layOut_195 : decode prog_8_method_43_code 195 = .ok (.aload_n 0, 1) := by decide +kernel
theorem d_Z_layOut_196 : decode prog_8_method_43_code 196 = .ok (.getfield (356), 3) := by decide +kernel
theorem d_Z_layOut_199 : decode prog_8_method_43_code 199 = .ok (.bipush (8), 2) := by decide +kernel
theorem d_Z_layOut_201 : decode prog_8_method_43_code 201 = .ok (.if_icmp .le (7), 3) := by decide +kernel
theorem d_Z_layOut_204 : decode prog_8_method_43_code 204 = .ok (.iconst 1, 1) := by decide +kernel
theorem d_Z_layOut_205 : decode prog_8_method_43_code 205 = .ok (.goto (4), 3) := by decide +kernel
theorem d_Z_layOut_208 : decode prog_8_method_43_code 208 = .ok (.iconst 0, 1) := by decide +kernel
theorem d_Z_layOut_209 : decode prog_8_method_43_code 209 = .ok (.bipush (6), 2) := by decide +kernel
theorem d_Z_layOut_211 : decode prog_8_method_43_code 211 = .ok (.iconst (-1), 1) := by decide +kernel
theorem d_Z_layOut_212 : decode prog_8_method_43_code 212 = .ok (.invokevirtual (316), 3) := by decide +kernel
theorem d_Z_layOut_215 : decode prog_8_method_43_code 215 = .ok (.return_, 1) := by decide +kernel
theorem fd_Z_365 : ax_fd "CipherNotationModel" 365 6 63 := ⟨nC6, nT6, 73, nY6, rfl, nW6, by decide, nw_4 200 (by decide +kernel) rfl, nO6, nA6⟩
set_option maxRecDepth 100000 in
theorem cw_Z_368 : ax_cw "CipherNotationModel" 368 y_Z_costOf (.code y_Z_costOf prog_8_method_41_code 3 (some .int)) 1 := ⟨nw_6 46 (by decide +kernel) rfl, nw_1 7 (by decide +kernel) rfl, nw_6 49 rfl rfl, by decide +kernel, by decide +kernel⟩
theorem im_Z_costOf : Cond.instanceMethod y_Z_costOf ∈ ax_tbl := nw_6 48 (by decide +kernel) rfl
theorem se_Z_costOf : Cond.selects y_Z_costOf.cls y_Z_costOf y_Z_costOf ∈ ax_tbl := nw_sel 76 (by decide +kernel) (by decide +kernel)
theorem fp_Z_365 : ax_fp "CipherNotationModel" 365 6 63 (.int) := ⟨nC6, nT6, 73, nY6, rfl, nW6, by decide, nw_4 200 (by decide +kernel) rfl, nO6, nA6, by decide +kernel, by decide +kernel⟩
set_option maxRecDepth 100000 in
theorem cw_Z_371 : ax_cw "CipherNotationModel" 371 y_Z_note (.code y_Z_note prog_8_method_44_code 2 none) 1 := ⟨nw_6 54 (by decide +kernel) rfl, nw_1 7 (by decide +kernel) rfl, nw_6 57 rfl rfl, by decide +kernel, by decide +kernel⟩
theorem im_Z_note : Cond.instanceMethod y_Z_note ∈ ax_tbl := nw_6 56 (by decide +kernel) rfl
theorem se_Z_note : Cond.selects y_Z_note.cls y_Z_note y_Z_note ∈ ax_tbl := nw_sel 78 (by decide +kernel) (by decide +kernel)
def lp_Z_layOut_38 (F : Nat) : Nat → Int32 → ax_σ → Option (ax_σ)
  | 0, _, _ => none
  | n + 1, x2, s =>
    if (s.1 0 38 22) ≤ x2 then
      some s
    else
      bif ax_in x2 240 then
      if (s.1 0 47 (x2).toNatClampNeg) = (2 : Int32) then
        bif ax_in x2 240 then
        bif ax_in (s.1 0 49 (x2).toNatClampNeg) 2 then
        ax_let (ax_wI s 0 74 ((s.1 0 49 (x2).toNatClampNeg)).toNatClampNeg (0 : Int32)) (fun s30 =>
          lp_Z_layOut_38 F n (x2 + (1 : Int32)) s30)
        else none
        else none
      else
        bif ax_in x2 240 then
        if (s.1 0 47 (x2).toNatClampNeg) = (3 : Int32) then
          bif ax_in x2 240 then
          bif ax_in (s.1 0 50 (x2).toNatClampNeg) 240 then
          bif ax_in (s.1 0 49 ((s.1 0 50 (x2).toNatClampNeg)).toNatClampNeg) 2 then
          bif ax_in (s.1 0 49 ((s.1 0 50 (x2).toNatClampNeg)).toNatClampNeg) 2 then
          ax_let (ax_wI s 0 74 ((s.1 0 49 ((s.1 0 50 (x2).toNatClampNeg)).toNatClampNeg)).toNatClampNeg ((s.1 0 74 ((s.1 0 49 ((s.1 0 50 (x2).toNatClampNeg)).toNatClampNeg)).toNatClampNeg) + (1 : Int32))) (fun s21 =>
            bif ax_in (s.1 0 50 (x2).toNatClampNeg) 240 then
            bif ax_in (s21.1 0 49 ((s.1 0 50 (x2).toNatClampNeg)).toNatClampNeg) 2 then
            bif ax_in (s.1 0 50 (x2).toNatClampNeg) 240 then
            Option.bind (
              if (0 : Int32) ≤ (lg_cmp ((s21.1 0 74 ((s21.1 0 49 ((s.1 0 50 (x2).toNatClampNeg)).toNatClampNeg)).toNatClampNeg)).toInt64 (s21.2 0 52 ((s.1 0 50 (x2).toNatClampNeg)).toNatClampNeg)) then
                some x2
              else
                some (s.1 0 50 (x2).toNatClampNeg)) (fun v26 =>
              lp_Z_layOut_38 F n (v26 + (1 : Int32)) s21)
            else none
            else none
            else none)
          else none
          else none
          else none
          else none
        else
          Option.bind (f_Z_costOf F x2 s) (fun (r11, s12) =>
            ax_let (ax_wI s12 0 38 63 ((s.1 0 38 63) + r11)) (fun s14 =>
              Option.bind (f_Z_note x2 s14) (fun s15 =>
                lp_Z_layOut_38 F n (x2 + (1 : Int32)) s15)))
        else none
      else none
set_option maxHeartbeats 4000000 in
set_option maxRecDepth 100000 in
theorem pl_Z_layOut_38 {D : va_G} {cA : Nat → ClassId} {ad : Nat → Nat → Nat} {al : List (Nat × Nat)} {θ : ax_Θ} {l : Launch} {ρ : ax_ρ} {G : ax_G} {F : Nat}  (h0 : ax_M0 al) (hB : ax_B D cA ad al θ l "CipherNotationModel" prog_8_method_43_code 4 2 G) : ∀ (n : Nat) {x2 : Int32} {s : ax_σ} (out : ax_σ), lp_Z_layOut_38 F n x2 s = some out → (∀ (es : ax_σ), out = es → ax_R G 4 0 0 (159, [(0, .inr (0, 38))], [], ax_m (es) ρ)) → ax_R G 4 0 0 (38, [(0, .inr (0, 38)), (2, .inl (.int (x2)))], [], ax_m (s) ρ) := by
  have hK := hB.K
  have hal := hB.la
  intro n
  induction n with
  | zero =>
    intro x2 s out h
    cases h
  | succ n ih =>
    intro x2 s out h KE
    rw [lp_Z_layOut_38] at h
    refine ax_bk hK (ax_fc (ax_v_ld (ax_r_iload_n (i := 2) d_Z_layOut_38 rfl)) (ax_fc (ax_v_ld (ax_r_aload_n (i := 0) d_Z_layOut_39 rfl)) (ax_fc (ax_w_gf (e := none) hal d_Z_layOut_40 fd_Z_186) ax_fn))) (y := (43, [(0, .inr (0, 38)), (2, .inl (.int (x2)))], [.inl (.int ((s.1 0 38 22))), .inl (.int (x2))], ax_m (s) ρ)) rfl ⟨trivial, trivial, (h0 38 rfl), trivial⟩ ?_
    refine ax_ic_ge (tgt := 159) hK d_Z_layOut_43 (by decide) (fun c32 => ?_) (fun c32 => ?_)
    · replace h := ax_it c32 h
      cases h
      exact ax_Lsub [0] rfl (KE _ rfl)
    · replace h := ax_if c32 h
      obtain ⟨b9, h⟩ := ax_gd h
      refine ax_bk hK (ax_fc (ax_v_ld (ax_r_aload_n (i := 0) d_Z_layOut_46 rfl)) (ax_fc (ax_w_gf (e := none) hal d_Z_layOut_47 fd_Z_39) (ax_fc (ax_v_ld (ax_r_iload_n (i := 2) d_Z_layOut_50 rfl)) (ax_fc (ax_w_iald hal d_Z_layOut_51) (ax_fc (ax_v_pu (ax_r_iconst (v := 2) d_Z_layOut_52 (by decide))) ax_fn))))) (y := (53, [(0, .inr (0, 38)), (2, .inl (.int (x2)))], [.inl (.int ((2 : Int32))), .inl (.int ((s.1 0 47 (x2).toNatClampNeg)))], ax_m (s) ρ)) rfl ⟨trivial, (h0 38 rfl), trivial, ⟨(h0 47 rfl), ax_inp b9⟩, trivial, trivial⟩ ?_
      refine ax_ic_ne (tgt := 71) hK d_Z_layOut_53 (by decide) (fun c31 => ?_) (fun c31 => ?_)
      · replace h := ax_if c31 h
        obtain ⟨b10, h⟩ := ax_gd h
        refine ax_bk hK (ax_fc (ax_v_ld (ax_r_aload_n (i := 0) d_Z_layOut_71 rfl)) (ax_fc (ax_w_gf (e := none) hal d_Z_layOut_72 fd_Z_39) (ax_fc (ax_v_ld (ax_r_iload_n (i := 2) d_Z_layOut_75 rfl)) (ax_fc (ax_w_iald hal d_Z_layOut_76) (ax_fc (ax_v_pu (ax_r_iconst (v := 3) d_Z_layOut_77 (by decide))) ax_fn))))) (y := (78, [(0, .inr (0, 38)), (2, .inl (.int (x2)))], [.inl (.int ((3 : Int32))), .inl (.int ((s.1 0 47 (x2).toNatClampNeg)))], ax_m (s) ρ)) rfl ⟨trivial, (h0 38 rfl), trivial, ⟨(h0 47 rfl), ax_inp b10⟩, trivial, trivial⟩ ?_
        refine ax_ic_ne (tgt := 134) hK d_Z_layOut_78 (by decide) (fun c27 => ?_) (fun c27 => ?_)
        · replace h := ax_if c27 h
          refine ax_bk hK (ax_fc (ax_v_ld (ax_r_aload_n (i := 0) d_Z_layOut_134 rfl)) (ax_fc (ax_v_ld (ax_r_aload_n (i := 0) d_Z_layOut_135 rfl)) (ax_fc (ax_w_gf (e := none) hal d_Z_layOut_136 fd_Z_365) (ax_fc (ax_v_ld (ax_r_aload_n (i := 0) d_Z_layOut_139 rfl)) (ax_fc (ax_v_ld (ax_r_iload_n (i := 2) d_Z_layOut_140 rfl)) ax_fn))))) (y := (141, [(0, .inr (0, 38)), (2, .inl (.int (x2)))], [.inl (.int (x2)), .inr (0, 38), .inl (.int ((s.1 0 38 63))), .inr (0, 38)], ax_m (s) ρ)) rfl ⟨trivial, trivial, (h0 38 rfl), trivial, trivial, trivial⟩ ?_
          obtain ⟨⟨r11, s12⟩, q13, h⟩ := ax_bd h
          dsimp only at h
          refine ax_bV (rest := [.inl (.int ((s.1 0 38 63))), .inr (0, 38)]) hB (t_Z_costOf h0 q13) cw_Z_368 im_Z_costOf se_Z_costOf d_Z_layOut_141 (h0 38 rfl) rfl rfl (by decide) (by decide) rfl rfl (Nat.le_of_ble_eq_true rfl) ?_
          change ax_R G 4 0 0 (144, [(0, .inr (0, 38)), (2, .inl (.int (x2)))], [.inl (.int (r11)), .inl (.int ((s.1 0 38 63))), .inr (0, 38)], ax_m (s12) ρ)
          refine ax_bk hK (ax_fc (ax_v_pu (ax_r_iadd d_Z_layOut_144)) (ax_fc (ax_w_pf (tc := 0) hal d_Z_layOut_145 fp_Z_365 rfl) ax_fn)) (y := (148, [(0, .inr (0, 38)), (2, .inl (.int (x2)))], [], ax_m (ax_wI s12 0 38 63 ((s.1 0 38 63) + r11)) ρ)) rfl ⟨trivial, (h0 38 rfl), trivial⟩ ?_
          refine ax_lt (Q := fun ςς => ax_R G 4 0 0 (148, [(0, .inr (0, 38)), (2, .inl (.int (x2)))], [], ax_m (ςς) ρ)) h (fun s14 h => ?_)
          refine ax_bk hK (ax_fc (ax_v_ld (ax_r_aload_n (i := 0) d_Z_layOut_148 rfl)) (ax_fc (ax_v_ld (ax_r_iload_n (i := 2) d_Z_layOut_149 rfl)) ax_fn)) (y := (150, [(0, .inr (0, 38)), (2, .inl (.int (x2)))], [.inl (.int (x2)), .inr (0, 38)], ax_m (s14) ρ)) rfl ⟨trivial, trivial, trivial⟩ ?_
          obtain ⟨s15, q16, h⟩ := ax_bd h
          refine ax_bV (rest := []) hB (t_Z_note h0 q16) cw_Z_371 im_Z_note se_Z_note d_Z_layOut_150 (h0 38 rfl) rfl rfl (by decide) (by decide) rfl rfl (Nat.le_of_ble_eq_true rfl) ?_
          change ax_R G 4 0 0 (153, [(0, .inr (0, 38)), (2, .inl (.int (x2)))], [], ax_m (s15) ρ)
          refine ax_bk hK (ax_fc (ax_v_ii (d := 1) d_Z_layOut_153 (by decide)) (ax_fc (ax_v_go (tgt := 38) d_Z_layOut_156 (by decide)) ax_fn)) (y := (38, [(2, .inl (.int ((x2 + (1 : Int32))))), (0, .inr (0, 38))], [], ax_m (s15) ρ)) rfl ⟨trivial, trivial, trivial⟩ ?_
          exact ax_Lsub [1, 0] rfl (ih _ h KE)
        · replace h := ax_it c27 h
          obtain ⟨b17, h⟩ := ax_gd h
          obtain ⟨b18, h⟩ := ax_gd h
          obtain ⟨b19, h⟩ := ax_gd h
          obtain ⟨b20, h⟩ := ax_gd h
          refine ax_bk hK (ax_fc (ax_v_ld (ax_r_aload_n (i := 0) d_Z_layOut_81 rfl)) (ax_fc (ax_w_gf (e := none) hal d_Z_layOut_82 fd_Z_48) (ax_fc (ax_v_ld (ax_r_iload_n (i := 2) d_Z_layOut_85 rfl)) (ax_fc (ax_w_iald hal d_Z_layOut_86) (ax_fc (ax_v_so (ax_r_istore_n (i := 3) d_Z_layOut_87 rfl)) (ax_fc (ax_v_ld (ax_r_aload_n (i := 0) d_Z_layOut_88 rfl)) (ax_fc (ax_w_gf (e := none) hal d_Z_layOut_89 fd_Z_120) (ax_fc (ax_v_ld (ax_r_aload_n (i := 0) d_Z_layOut_92 rfl)) (ax_fc (ax_w_gf (e := none) hal d_Z_layOut_93 fd_Z_45) (ax_fc (ax_v_ld (ax_r_iload_n (i := 3) d_Z_layOut_96 rfl)) (ax_fc (ax_w_iald hal d_Z_layOut_97) (ax_fc (ax_v_pu (ax_r_dup2p d_Z_layOut_98)) (ax_fc (ax_w_iald hal d_Z_layOut_99) (ax_fc (ax_v_pu (ax_r_iconst (v := 1) d_Z_layOut_100 (by decide))) (ax_fc (ax_v_pu (ax_r_iadd d_Z_layOut_101)) (ax_fc (ax_w_iast hal d_Z_layOut_102) ax_fn)))))))))))))))) (y := (103, [(3, .inl (.int ((s.1 0 50 (x2).toNatClampNeg)))), (0, .inr (0, 38)), (2, .inl (.int (x2)))], [], ax_m (ax_wI s 0 74 ((s.1 0 49 ((s.1 0 50 (x2).toNatClampNeg)).toNatClampNeg)).toNatClampNeg ((s.1 0 74 ((s.1 0 49 ((s.1 0 50 (x2).toNatClampNeg)).toNatClampNeg)).toNatClampNeg) + (1 : Int32))) ρ)) rfl ⟨trivial, (h0 38 rfl), trivial, ⟨(h0 50 rfl), ax_inp b17⟩, trivial, trivial, (h0 38 rfl), trivial, (h0 38 rfl), trivial, ⟨(h0 49 rfl), ax_inp b18⟩, trivial, ⟨(h0 74 rfl), ax_inp b19⟩, trivial, trivial, ⟨(h0 74 rfl), ax_inp b20⟩, trivial⟩ ?_
          refine ax_lt (Q := fun ςς => ax_R G 4 0 0 (103, [(3, .inl (.int ((s.1 0 50 (x2).toNatClampNeg)))), (0, .inr (0, 38)), (2, .inl (.int (x2)))], [], ax_m (ςς) ρ)) h (fun s21 h => ?_)
          obtain ⟨b22, h⟩ := ax_gd h
          obtain ⟨b23, h⟩ := ax_gd h
          obtain ⟨b24, h⟩ := ax_gd h
          refine ax_bk hK (ax_fc (ax_v_ld (ax_r_aload_n (i := 0) d_Z_layOut_103 rfl)) (ax_fc (ax_w_gf (e := none) hal d_Z_layOut_104 fd_Z_120) (ax_fc (ax_v_ld (ax_r_aload_n (i := 0) d_Z_layOut_107 rfl)) (ax_fc (ax_w_gf (e := none) hal d_Z_layOut_108 fd_Z_45) (ax_fc (ax_v_ld (ax_r_iload_n (i := 3) d_Z_layOut_111 rfl)) (ax_fc (ax_w_iald hal d_Z_layOut_112) (ax_fc (ax_w_iald hal d_Z_layOut_113) (ax_fc (ax_v_pu (ax_r_i2l d_Z_layOut_114)) (ax_fc (ax_v_ld (ax_r_aload_n (i := 0) d_Z_layOut_115 rfl)) (ax_fc (ax_w_gf (e := none) hal d_Z_layOut_116 fd_Z_54) (ax_fc (ax_v_ld (ax_r_iload_n (i := 3) d_Z_layOut_119 rfl)) (ax_fc (ax_w_lald hal d_Z_layOut_120) (ax_fc (ax_v_pu (ax_r_lcmp d_Z_layOut_121)) ax_fn))))))))))))) (y := (122, [(3, .inl (.int ((s.1 0 50 (x2).toNatClampNeg)))), (0, .inr (0, 38)), (2, .inl (.int (x2)))], [.inl (.int ((lg_cmp ((s21.1 0 74 ((s21.1 0 49 ((s.1 0 50 (x2).toNatClampNeg)).toNatClampNeg)).toNatClampNeg)).toInt64 (s21.2 0 52 ((s.1 0 50 (x2).toNatClampNeg)).toNatClampNeg))))], ax_m (s21) ρ)) rfl ⟨trivial, (h0 38 rfl), trivial, (h0 38 rfl), trivial, ⟨(h0 49 rfl), ax_inp b22⟩, ⟨(h0 74 rfl), ax_inp b23⟩, trivial, trivial, (h0 38 rfl), trivial, ⟨(h0 52 rfl), ax_inp b24⟩, trivial, trivial⟩ ?_
          obtain ⟨w33, hw33, h⟩ := ax_bd h
          have KEw33 : ∀ (v26 : Int32), w33 = v26 → ax_R G 4 0 0 (130, [(0, .inr (0, 38))], [.inl (.int (v26))], ax_m (s21) ρ) := by
            intro v26 e9
            subst w33
            try dsimp only at h
            refine ax_bk hK (ax_fc (ax_v_so (ax_r_istore_n (i := 2) d_Z_layOut_130 rfl)) (ax_fc (ax_v_go (tgt := 153) d_Z_layOut_131 (by decide)) ax_fn)) (y := (153, [(2, .inl (.int (v26))), (0, .inr (0, 38))], [], ax_m (s21) ρ)) rfl ⟨trivial, trivial, trivial⟩ ?_
            refine ax_bk hK (ax_fc (ax_v_ii (d := 1) d_Z_layOut_153 (by decide)) (ax_fc (ax_v_go (tgt := 38) d_Z_layOut_156 (by decide)) ax_fn)) (y := (38, [(2, .inl (.int ((v26 + (1 : Int32))))), (0, .inr (0, 38))], [], ax_m (s21) ρ)) rfl ⟨trivial, trivial, trivial⟩ ?_
            exact ax_Lsub [1, 0] rfl (ih _ h KE)
          clear h
          have h := hw33
          refine ax_if_ge (tgt := 129) hK d_Z_layOut_122 (by decide) (fun c25 => ?_) (fun c25 => ?_)
          · replace h := ax_it c25 h
            refine ax_bk hK (ax_fc (ax_v_ld (ax_r_iload_n (i := 2) d_Z_layOut_129 rfl)) ax_fn) (y := (130, [(3, .inl (.int ((s.1 0 50 (x2).toNatClampNeg)))), (0, .inr (0, 38)), (2, .inl (.int (x2)))], [.inl (.int (x2))], ax_m (s21) ρ)) rfl ⟨trivial, trivial⟩ ?_
            cases h
            exact ax_Lsub [1] rfl (KEw33 _ rfl)
          · replace h := ax_if c25 h
            refine ax_bk hK (ax_fc (ax_v_ld (ax_r_iload_n (i := 3) d_Z_layOut_125 rfl)) (ax_fc (ax_v_go (tgt := 130) d_Z_layOut_126 (by decide)) ax_fn)) (y := (130, [(3, .inl (.int ((s.1 0 50 (x2).toNatClampNeg)))), (0, .inr (0, 38)), (2, .inl (.int (x2)))], [.inl (.int ((s.1 0 50 (x2).toNatClampNeg)))], ax_m (s21) ρ)) rfl ⟨trivial, trivial, trivial⟩ ?_
            cases h
            exact ax_Lsub [1] rfl (KEw33 _ rfl)
      · replace h := ax_it c31 h
        obtain ⟨b28, h⟩ := ax_gd h
        obtain ⟨b29, h⟩ := ax_gd h
        refine ax_bk hK (ax_fc (ax_v_ld (ax_r_aload_n (i := 0) d_Z_layOut_56 rfl)) (ax_fc (ax_w_gf (e := none) hal d_Z_layOut_57 fd_Z_120) (ax_fc (ax_v_ld (ax_r_aload_n (i := 0) d_Z_layOut_60 rfl)) (ax_fc (ax_w_gf (e := none) hal d_Z_layOut_61 fd_Z_45) (ax_fc (ax_v_ld (ax_r_iload_n (i := 2) d_Z_layOut_64 rfl)) (ax_fc (ax_w_iald hal d_Z_layOut_65) (ax_fc (ax_v_pu (ax_r_iconst (v := 0) d_Z_layOut_66 (by decide))) (ax_fc (ax_w_iast hal d_Z_layOut_67) ax_fn)))))))) (y := (68, [(0, .inr (0, 38)), (2, .inl (.int (x2)))], [], ax_m (ax_wI s 0 74 ((s.1 0 49 (x2).toNatClampNeg)).toNatClampNeg (0 : Int32)) ρ)) rfl ⟨trivial, (h0 38 rfl), trivial, (h0 38 rfl), trivial, ⟨(h0 49 rfl), ax_inp b28⟩, trivial, ⟨(h0 74 rfl), ax_inp b29⟩, trivial⟩ ?_
        refine ax_lt (Q := fun ςς => ax_R G 4 0 0 (68, [(0, .inr (0, 38)), (2, .inl (.int (x2)))], [], ax_m (ςς) ρ)) h (fun s30 h => ?_)
        refine ax_bk hK (ax_fc (ax_v_go (tgt := 153) d_Z_layOut_68 (by decide)) ax_fn) (y := (153, [(0, .inr (0, 38)), (2, .inl (.int (x2)))], [], ax_m (s30) ρ)) rfl ⟨trivial, trivial⟩ ?_
        refine ax_bk hK (ax_fc (ax_v_ii (d := 1) d_Z_layOut_153 (by decide)) (ax_fc (ax_v_go (tgt := 38) d_Z_layOut_156 (by decide)) ax_fn)) (y := (38, [(2, .inl (.int ((x2 + (1 : Int32))))), (0, .inr (0, 38))], [], ax_m (s30) ρ)) rfl ⟨trivial, trivial, trivial⟩ ?_
        exact ax_Lsub [1, 0] rfl (ih _ h KE)
def f_Z_layOut (F : Nat) (s : ax_σ) : Option (ax_σ) :=
  ax_let (ax_wI s 0 38 55 (0 : Int32)) (fun s1 =>
    ax_let (ax_wI s1 0 38 59 (0 : Int32)) (fun s2 =>
      ax_let (ax_wI s2 0 38 63 (0 : Int32)) (fun s3 =>
        ax_let (ax_wI s3 0 38 64 (0 : Int32)) (fun s4 =>
          bif ax_in (0 : Int32) 2 then
          ax_let (ax_wI s4 0 74 ((0 : Int32)).toNatClampNeg (0 : Int32)) (fun s6 =>
            bif ax_in (1 : Int32) 2 then
            ax_let (ax_wI s6 0 74 ((1 : Int32)).toNatClampNeg (0 : Int32)) (fun s8 =>
              Option.bind (lp_Z_layOut_38 F F (0 : Int32) s8) (fun s33 =>
                bif ax_in (1 : Int32) 3 then
                ax_let (ax_wI s33 0 38 64 ((s33.1 0 38 64) + ((s33.2 0 41 ((1 : Int32)).toNatClampNeg)).toInt32)) (fun s35 =>
                  Option.bind (
                    Option.bind (
                      if (32 : Int32) < (s35.1 0 38 55) then
                        some true
                      else
                        if (400 : Int32) < (s35.1 0 38 63) then
                          some true
                        else
                          if (s35.1 0 38 64) ≤ (8 : Int32) then
                            some false
                          else
                            some true) (fun w39 => bif w39 then
                      some (1 : Int32)
                    else
                      some (0 : Int32))) (fun v40 =>
                    Option.bind (f_Z_consider v40 (6 : Int32) (-1 : Int32) s35) (fun s41 =>
                      some (s41))))
                else none))
            else none)
          else none))))
set_option maxHeartbeats 4000000 in
set_option maxRecDepth 100000 in
theorem t_Z_layOut {l : Launch} {D : va_G} {cA : Nat → ClassId} {ad : Nat → Nat → Nat} {al : List (Nat × Nat)} {θ : ax_Θ} {ρ : ax_ρ} {F : Nat} (h0 : ax_M0 al)  {s : ax_σ} {s0 : ax_σ} (h : f_Z_layOut F s = some s0) : ax_T l D cA ad al θ y_Z_layOut (.code y_Z_layOut prog_8_method_43_code 4 none) 2 [.inr (0, 38)] (ax_m s ρ) none (ax_m s0 ρ) := by
  refine ax_T_of (own := "CipherNotationModel") (by decide) rfl (Nat.le_of_ble_eq_true rfl) [(0, .inr (0, 38))] rfl ?_
  intro G hA
  have hB := hA.B
  have hK := hB.K
  have hal := hB.la
  unfold f_Z_layOut at h
  refine ax_bk hK (ax_fc (ax_v_ld (ax_r_aload_n (i := 0) d_Z_layOut_0 rfl)) (ax_fc (ax_v_pu (ax_r_iconst (v := 0) d_Z_layOut_1 (by decide))) (ax_fc (ax_w_pf (tc := 0) hal d_Z_layOut_2 fp_Z_359 rfl) ax_fn))) (y := (5, [(0, .inr (0, 38))], [], ax_m (ax_wI s 0 38 55 (0 : Int32)) ρ)) rfl ⟨trivial, trivial, (h0 38 rfl), trivial⟩ ?_
  refine ax_lt (Q := fun ςς => ax_R G 4 0 0 (5, [(0, .inr (0, 38))], [], ax_m (ςς) ρ)) h (fun s1 h => ?_)
  refine ax_bk hK (ax_fc (ax_v_ld (ax_r_aload_n (i := 0) d_Z_layOut_5 rfl)) (ax_fc (ax_v_pu (ax_r_iconst (v := 0) d_Z_layOut_6 (by decide))) (ax_fc (ax_w_pf (tc := 0) hal d_Z_layOut_7 fp_Z_362 rfl) ax_fn))) (y := (10, [(0, .inr (0, 38))], [], ax_m (ax_wI s1 0 38 59 (0 : Int32)) ρ)) rfl ⟨trivial, trivial, (h0 38 rfl), trivial⟩ ?_
  refine ax_lt (Q := fun ςς => ax_R G 4 0 0 (10, [(0, .inr (0, 38))], [], ax_m (ςς) ρ)) h (fun s2 h => ?_)
  refine ax_bk hK (ax_fc (ax_v_ld (ax_r_aload_n (i := 0) d_Z_layOut_10 rfl)) (ax_fc (ax_v_pu (ax_r_iconst (v := 0) d_Z_layOut_11 (by decide))) (ax_fc (ax_w_pf (tc := 0) hal d_Z_layOut_12 fp_Z_365 rfl) ax_fn))) (y := (15, [(0, .inr (0, 38))], [], ax_m (ax_wI s2 0 38 63 (0 : Int32)) ρ)) rfl ⟨trivial, trivial, (h0 38 rfl), trivial⟩ ?_
  refine ax_lt (Q := fun ςς => ax_R G 4 0 0 (15, [(0, .inr (0, 38))], [], ax_m (ςς) ρ)) h (fun s3 h => ?_)
  refine ax_bk hK (ax_fc (ax_v_ld (ax_r_aload_n (i := 0) d_Z_layOut_15 rfl)) (ax_fc (ax_v_pu (ax_r_iconst (v := 0) d_Z_layOut_16 (by decide))) (ax_fc (ax_w_pf (tc := 0) hal d_Z_layOut_17 fp_Z_356 rfl) ax_fn))) (y := (20, [(0, .inr (0, 38))], [], ax_m (ax_wI s3 0 38 64 (0 : Int32)) ρ)) rfl ⟨trivial, trivial, (h0 38 rfl), trivial⟩ ?_
  refine ax_lt (Q := fun ςς => ax_R G 4 0 0 (20, [(0, .inr (0, 38))], [], ax_m (ςς) ρ)) h (fun s4 h => ?_)
  obtain ⟨b5, h⟩ := ax_gd h
  refine ax_bk hK (ax_fc (ax_v_pu (ax_r_iconst (v := 0) d_Z_layOut_20 (by decide))) (ax_fc (ax_v_so (ax_r_istore_n (i := 1) d_Z_layOut_21 rfl)) (ax_fc (ax_v_pu (ax_r_iconst (v := 0) d_Z_layOut_22 (by decide))) (ax_fc (ax_v_so (ax_r_istore_n (i := 2) d_Z_layOut_23 rfl)) (ax_fc (ax_v_ld (ax_r_aload_n (i := 0) d_Z_layOut_24 rfl)) (ax_fc (ax_w_gf (e := none) hal d_Z_layOut_25 fd_Z_120) (ax_fc (ax_v_pu (ax_r_iconst (v := 0) d_Z_layOut_28 (by decide))) (ax_fc (ax_v_pu (ax_r_iconst (v := 0) d_Z_layOut_29 (by decide))) (ax_fc (ax_w_iast hal d_Z_layOut_30) ax_fn))))))))) (y := (31, [(2, .inl (.int ((0 : Int32)))), (1, .inl (.int ((0 : Int32)))), (0, .inr (0, 38))], [], ax_m (ax_wI s4 0 74 ((0 : Int32)).toNatClampNeg (0 : Int32)) ρ)) rfl ⟨trivial, trivial, trivial, trivial, trivial, (h0 38 rfl), trivial, trivial, ⟨(h0 74 rfl), ax_inp b5⟩, trivial⟩ ?_
  refine ax_lt (Q := fun ςς => ax_R G 4 0 0 (31, [(2, .inl (.int ((0 : Int32)))), (1, .inl (.int ((0 : Int32)))), (0, .inr (0, 38))], [], ax_m (ςς) ρ)) h (fun s6 h => ?_)
  obtain ⟨b7, h⟩ := ax_gd h
  refine ax_bk hK (ax_fc (ax_v_ld (ax_r_aload_n (i := 0) d_Z_layOut_31 rfl)) (ax_fc (ax_w_gf (e := none) hal d_Z_layOut_32 fd_Z_120) (ax_fc (ax_v_pu (ax_r_iconst (v := 1) d_Z_layOut_35 (by decide))) (ax_fc (ax_v_pu (ax_r_iconst (v := 0) d_Z_layOut_36 (by decide))) (ax_fc (ax_w_iast hal d_Z_layOut_37) ax_fn))))) (y := (38, [(2, .inl (.int ((0 : Int32)))), (1, .inl (.int ((0 : Int32)))), (0, .inr (0, 38))], [], ax_m (ax_wI s6 0 74 ((1 : Int32)).toNatClampNeg (0 : Int32)) ρ)) rfl ⟨trivial, (h0 38 rfl), trivial, trivial, ⟨(h0 74 rfl), ax_inp b7⟩, trivial⟩ ?_
  refine ax_lt (Q := fun ςς => ax_R G 4 0 0 (38, [(2, .inl (.int ((0 : Int32)))), (1, .inl (.int ((0 : Int32)))), (0, .inr (0, 38))], [], ax_m (ςς) ρ)) h (fun s8 h => ?_)
  obtain ⟨w43, hw43, h⟩ := ax_bd h
  refine ax_Lsub [2, 0] rfl (pl_Z_layOut_38 h0 hB F _ hw43 ?_)
  intro s33 e9
  subst w43
  try dsimp only at h
  change ax_R G 4 0 0 (159, [(0, .inr (0, 38))], [], ax_m (s33) ρ)
  obtain ⟨b34, h⟩ := ax_gd h
  refine ax_bk hK (ax_fc (ax_v_ld (ax_r_aload_n (i := 0) d_Z_layOut_159 rfl)) (ax_fc (ax_v_ld (ax_r_aload_n (i := 0) d_Z_layOut_160 rfl)) (ax_fc (ax_w_gf (e := none) hal d_Z_layOut_161 fd_Z_356) (ax_fc (ax_v_ld (ax_r_aload_n (i := 0) d_Z_layOut_164 rfl)) (ax_fc (ax_w_gf (e := none) hal d_Z_layOut_165 fd_Z_20) (ax_fc (ax_v_pu (ax_r_iconst (v := 1) d_Z_layOut_168 (by decide))) (ax_fc (ax_w_lald hal d_Z_layOut_169) (ax_fc (ax_v_pu (ax_r_l2i d_Z_layOut_170)) (ax_fc (ax_v_pu (ax_r_iadd d_Z_layOut_171)) (ax_fc (ax_w_pf (tc := 0) hal d_Z_layOut_172 fp_Z_356 rfl) ax_fn)))))))))) (y := (175, [(0, .inr (0, 38))], [], ax_m (ax_wI s33 0 38 64 ((s33.1 0 38 64) + ((s33.2 0 41 ((1 : Int32)).toNatClampNeg)).toInt32)) ρ)) rfl ⟨trivial, trivial, (h0 38 rfl), trivial, (h0 38 rfl), trivial, ⟨(h0 41 rfl), ax_inp b34⟩, trivial, trivial, (h0 38 rfl), trivial⟩ ?_
  refine ax_lt (Q := fun ςς => ax_R G 4 0 0 (175, [(0, .inr (0, 38))], [], ax_m (ςς) ρ)) h (fun s35 h => ?_)
  refine ax_bk hK (ax_fc (ax_v_ld (ax_r_aload_n (i := 0) d_Z_layOut_175 rfl)) (ax_fc (ax_v_ld (ax_r_aload_n (i := 0) d_Z_layOut_176 rfl)) (ax_fc (ax_w_gf (e := none) hal d_Z_layOut_177 fd_Z_359) (ax_fc (ax_v_pu (ax_r_bipush (v := 32) d_Z_layOut_180 (by decide))) ax_fn)))) (y := (182, [(0, .inr (0, 38))], [.inl (.int ((32 : Int32))), .inl (.int ((s35.1 0 38 55))), .inr (0, 38)], ax_m (s35) ρ)) rfl ⟨trivial, trivial, (h0 38 rfl), trivial, trivial⟩ ?_
  obtain ⟨w44, hw44, h⟩ := ax_bd h
  have KEw44 : ∀ (v40 : Int32), w44 = v40 → ax_R G 4 0 0 (209, [], [.inl (.int (v40)), .inr (0, 38)], ax_m (s35) ρ) := by
    intro v40 e9
    subst w44
    try dsimp only at h
    refine ax_bk hK (ax_fc (ax_v_pu (ax_r_bipush (v := 6) d_Z_layOut_209 (by decide))) (ax_fc (ax_v_pu (ax_r_iconst (v := -1) d_Z_layOut_211 (by decide))) ax_fn)) (y := (212, [], [.inl (.int ((-1 : Int32))), .inl (.int ((6 : Int32))), .inl (.int (v40)), .inr (0, 38)], ax_m (s35) ρ)) rfl ⟨trivial, trivial, trivial⟩ ?_
    obtain ⟨s41, q42, h⟩ := ax_bd h
    refine ax_bV (rest := []) hB (t_Z_consider h0 q42) cw_Z_316 im_Z_consider se_Z_consider d_Z_layOut_212 (h0 38 rfl) rfl rfl (by decide) (by decide) rfl rfl (Nat.le_of_ble_eq_true rfl) ?_
    change ax_R G 4 0 0 (215, [], [], ax_m (s41) ρ)
    cases h
    exact ax_vret hA d_Z_layOut_215
  clear h
  have h := hw44
  obtain ⟨w39, hw39, h⟩ := ax_bd h
  have KTw39 : w39 = true → ax_R G 4 0 0 (204, [], [.inr (0, 38)], ax_m (s35) ρ) := by
    intro e9
    subst w39
    replace h := ax_ct h
    refine ax_bk hK (ax_fc (ax_v_pu (ax_r_iconst (v := 1) d_Z_layOut_204 (by decide))) (ax_fc (ax_v_go (tgt := 209) d_Z_layOut_205 (by decide)) ax_fn)) (y := (209, [], [.inl (.int ((1 : Int32))), .inr (0, 38)], ax_m (s35) ρ)) rfl ⟨trivial, trivial, trivial⟩ ?_
    cases h
    exact ax_Lsub [] rfl (KEw44 _ rfl)
  have KFw39 : w39 = false → ax_R G 4 0 0 (208, [], [.inr (0, 38)], ax_m (s35) ρ) := by
    intro e9
    subst w39
    replace h := ax_cf h
    refine ax_bk hK (ax_fc (ax_v_pu (ax_r_iconst (v := 0) d_Z_layOut_208 (by decide))) ax_fn) (y := (209, [], [.inl (.int ((0 : Int32))), .inr (0, 38)], ax_m (s35) ρ)) rfl ⟨trivial, trivial⟩ ?_
    cases h
    exact ax_Lsub [] rfl (KEw44 _ rfl)
  clear h
  have h := hw39
  refine ax_ic_gt (tgt := 204) hK d_Z_layOut_182 (by decide) (fun c38 => ?_) (fun c38 => ?_)
  · replace h := ax_it c38 h
    cases h
    exact ax_Lsub [] rfl (KTw39 rfl)
  · replace h := ax_if c38 h
    refine ax_bk hK (ax_fc (ax_v_ld (ax_r_aload_n (i := 0) d_Z_layOut_185 rfl)) (ax_fc (ax_w_gf (e := none) hal d_Z_layOut_186 fd_Z_365) (ax_fc (ax_v_pu (ax_r_sipush (v := 400) d_Z_layOut_189 (by decide))) ax_fn))) (y := (192, [(0, .inr (0, 38))], [.inl (.int ((400 : Int32))), .inl (.int ((s35.1 0 38 63))), .inr (0, 38)], ax_m (s35) ρ)) rfl ⟨trivial, (h0 38 rfl), trivial, trivial⟩ ?_
    refine ax_ic_gt (tgt := 204) hK d_Z_layOut_192 (by decide) (fun c37 => ?_) (fun c37 => ?_)
    · replace h := ax_it c37 h
      cases h
      exact ax_Lsub [] rfl (KTw39 rfl)
    · replace h := ax_if c37 h
      refine ax_bk hK (ax_fc (ax_v_ld (ax_r_aload_n (i := 0) d_Z_layOut_195 rfl)) (ax_fc (ax_w_gf (e := none) hal d_Z_layOut_196 fd_Z_356) (ax_fc (ax_v_pu (ax_r_bipush (v := 8) d_Z_layOut_199 (by decide))) ax_fn))) (y := (201, [(0, .inr (0, 38))], [.inl (.int ((8 : Int32))), .inl (.int ((s35.1 0 38 64))), .inr (0, 38)], ax_m (s35) ρ)) rfl ⟨trivial, (h0 38 rfl), trivial, trivial⟩ ?_
      refine ax_ic_le (tgt := 208) hK d_Z_layOut_201 (by decide) (fun c36 => ?_) (fun c36 => ?_)
      · replace h := ax_it c36 h
        cases h
        exact ax_Lsub [] rfl (KFw39 rfl)
      · replace h := ax_if c36 h
        cases h
        exact ax_Lsub [] rfl (KTw39 rfl)
def y_Z_compile : MethodName := ⟨"CipherNotationModel", "compile", "()I"⟩
theorem d_Z_compile_0 : decode prog_8_method_45_code 0 = .ok (.aload_n 0, 1) := by decide +kernel
theorem d_Z_compile_1 : decode prog_8_method_45_code 1 = .ok (.iconst 0, 1) := by decide +kernel
theorem d_Z_compile_2 : decode prog_8_method_45_code 2 = .ok (.putfield (145), 3) := by decide +kernel
theorem d_Z_compile_5 : decode prog_8_method_45_code 5 = .ok (.aload_n 0, 1) := by decide +kernel
theorem d_Z_compile_6 : decode prog_8_method_45_code 6 = .ok (.aload_n 0, 1) := by decide +kernel
theorem d_Z_compile_7 : decode prog_8_method_45_code 7 = .ok (.getfield (7), 3) := by decide +kernel
theorem d_Z_compile_10 : decode prog_8_method_45_code 10 = .ok (.aload_n 0, 1) := by decide +kernel
theorem d_Z_compile_11 : decode prog_8_method_45_code 11 = .ok (.getfield (150), 3) := by decide +kernel
theorem d_Z_compile_14 : decode prog_8_method_45_code 14 = .ok (.invokevirtual (374), 3) := by decide +kernel
theorem d_Z_compile_17 : decode prog_8_method_45_code 17 = .ok (.istore_n 1, 1) := by decide +kernel
theorem d_Z_compile_18 : decode prog_8_method_45_code 18 = .ok (.aload_n 0, 1) := by decide +kernel
theorem d_Z_compile_19 : decode prog_8_method_45_code 19 = .ok (.iload_n 1, 1) := by decide +kernel
theorem d_Z_compile_20 : decode prog_8_method_45_code 20 = .ok (.iconst (-1), 1) := by decide +kernel
theorem d_Z_compile_21 : decode prog_8_method_45_code 21 = .ok (.if_icmp .ne (7), 3) := by decide +kernel
theorem d_Z_compile_24 : decode prog_8_method_45_code 24 = .ok (.iconst 0, 1) := by decide +kernel
theorem d_Z_compile_25 : decode prog_8_method_45_code 25 = .ok (.goto (4), 3) := by decide +kernel
theorem d_Z_compile_28 : decode prog_8_method_45_code 28 = .ok (.iconst 1, 1) := by decide +kernel
theorem d_Z_compile_29 : decode prog_8_method_45_code 29 = .ok (.putfield (293), 3) := by decide +kernel
theorem d_Z_compile_32 : decode prog_8_method_45_code 32 = .ok (.aload_n 0, 1) := by decide +kernel
theorem d_Z_compile_33 : decode prog_8_method_45_code 33 = .ok (.iload_n 1, 1) := by decide +kernel
theorem d_Z_compile_34 : decode prog_8_method_45_code 34 = .ok (.putfield (296), 3) := by decide +kernel
theorem d_Z_compile_37 : decode prog_8_method_45_code 37 = .ok (.iload_n 1, 1) := by decide +kernel
theorem d_Z_compile_38 : decode prog_8_method_45_code 38 = .ok (.iconst (-1), 1) := by decide +kernel
theorem d_Z_compile_39 : decode prog_8_method_45_code 39 = .ok (.if_icmp .ne (18), 3) := by decide +kernel
theorem d_Z_compile_42 : decode prog_8_method_45_code 42 = .ok (.aload_n 0, 1) := by decide +kernel
theorem d_Z_compile_43 : decode prog_8_method_45_code 43 = .ok (.invokevirtual (378), 3) := by decide +kernel
theorem d_Z_compile_46 : decode prog_8_method_45_code 46 = .ok (.aload_n 0, 1) := by decide +kernel
theorem d_Z_compile_47 : decode prog_8_method_45_code 47 = .ok (.getfield (293), 3) := by decide +kernel
theorem d_Z_compile_50 : decode prog_8_method_45_code 50 = .ok (.ifCond .ne (7), 3) := by decide +kernel
theorem d_Z_compile_53 : decode prog_8_method_45_code 53 = .ok (.aload_n 0, 1) := by decide +kernel
theorem d_Z_compile_54 : decode prog_8_method_45_code 54 = .ok (.invokevirtual (381), 3) := by decide +kernel
theorem d_Z_compile_57 : decode prog_8_method_45_code 57 = .ok (.aload_n 0, 1) := by decide +kernel
theorem d_Z_compile_58 : decode prog_8_method_45_code 58 = .ok (.getfield (293), 3) := by decide +kernel
theorem d_Z_compile_61 : decode prog_8_method_45_code 61 = .ok (.istore_n 2, 1) := by decide +kernel
theorem d_Z_compile_62 : decode prog_8_method_45_code 62 = .ok (.aload_n 0, 1) := by decide +kernel
theorem d_Z_compile_63 : decode prog_8_method_45_code 63 = .ok (.iload_n 2, 1) := by decide +kernel
theorem d_Z_compile_64 : decode prog_8_method_45_code 64 = .ok (.ifCond .eq (9), 3) := by decide +kernel
theorem d_Z_compile_67 : decode prog_8_method_45_code 67 = .ok (.iload_n 2, 1) := by decide +kernel
theorem d_Z_compile_68 : decode prog_8_method_45_code 68 = .ok (.bipush (6), 2) := by decide +kernel
theorem d_Z_compile_70 : decode prog_8_method_45_code 70 = .ok (.if_icmp .ne (7), 3) := by decide +kernel
theorem d_Z_compile_73 : decode prog_8_method_45_code 73 = .ok (.iconst (-1), 1) := by decide +kernel
theorem d_Z_compile_74 : decode prog_8_method_45_code 74 = .ok (.goto (7), 3) := by decide +kernel
theorem d_Z_compile_77 : decode prog_8_method_45_code 77 = .ok (.aload_n 0, 1) := by decide +kernel
theorem d_Z_compile_78 : decode prog_8_method_45_code 78 = .ok (.getfield (296), 3) := by decide +kernel
theorem d_Z_compile_81 : decode prog_8_method_45_code 81 = .ok (.putfield (16), 3) := by decide +kernel
theorem d_Z_compile_84 : decode prog_8_method_45_code 84 = .ok (.iload_n 2, 1) := by decide +kernel
theorem d_Z_compile_85 : decode prog_8_method_45_code 85 = .ok (.ifCond .ne (74), 3) := by decide +kernel
theorem d_Z_compile_88 : decode prog_8_method_45_code 88 = .ok (.aload_n 0, 1) := by decide +kernel
theorem d_Z_compile_89 : decode prog_8_method_45_code 89 = .ok (.iconst 1, 1) := by decide +kernel
theorem d_Z_compile_90 : decode prog_8_method_45_code 90 = .ok (.putfield (384), 3) := by decide +kernel
theorem d_Z_compile_93 : decode prog_8_method_45_code 93 = .ok (.aload_n 0, 1) := by decide +kernel
theorem d_Z_compile_94 : decode prog_8_method_45_code 94 = .ok (.aload_n 0, 1) := by decide +kernel
theorem d_Z_compile_95 : decode prog_8_method_45_code 95 = .ok (.getfield (150), 3) := by decide +kernel
theorem d_Z_compile_98 : decode prog_8_method_45_code 98 = .ok (.putfield (388), 3) := by decide +kernel
theorem d_Z_compile_101 : decode prog_8_method_45_code 101 = .ok (.iconst 0, 1) := by decide +kernel
theorem d_Z_compile_102 : decode prog_8_method_45_code 102 = .ok (.istore_n 3, 1) := by decide +kernel
theorem d_Z_compile_103 : decode prog_8_method_45_code 103 = .ok (.iload_n 3, 1) := by decide +kernel
theorem d_Z_compile_104 : decode prog_8_method_45_code 104 = .ok (.aload_n 0, 1) := by decide +kernel
theorem d_Z_compile_105 : decode prog_8_method_45_code 105 = .ok (.getfield (150), 3) := by decide +kernel
theorem d_Z_compile_108 : decode prog_8_method_45_code 108 = .ok (.if_icmp .ge (21), 3) := by decide +kernel
theorem d_Z_compile_111 : decode prog_8_method_45_code 111 = .ok (.aload_n 0, 1) := by decide +kernel
theorem d_Z_compile_112 : decode prog_8_method_45_code 112 = .ok (.getfield (13), 3) := by decide +kernel
theorem d_Z_compile_115 : decode prog_8_method_45_code 115 = .ok (.iload_n 3, 1) := by decide +kernel
theorem d_Z_compile_116 : decode prog_8_method_45_code 116 = .ok (.aload_n 0, 1) := by decide +kernel
theorem d_Z_compile_117 : decode prog_8_method_45_code 117 = .ok (.getfield (7), 3) := by decide +kernel
theorem d_Z_compile_120 : decode prog_8_method_45_code 120 = .ok (.iload_n 3, 1) := by decide +kernel
theorem d_Z_compile_121 : decode prog_8_method_45_code 121 = .ok (.iaload, 1) := by decide +kernel
theorem d_Z_compile_122 : decode prog_8_method_45_code 122 = .ok (.iastore, 1) := by decide +kernel
theorem d_Z_compile_123 : decode prog_8_method_45_code 123 = .ok (.iinc 3 (1), 3) := by decide +kernel
theorem d_Z_compile_126 : decode prog_8_method_45_code 126 = .ok (.goto (-23), 3) := by decide +kernel
theorem d_Z_compile_129 : decode prog_8_method_45_code 129 = .ok (.iconst 0, 1) := by decide +kernel
theorem d_Z_compile_130 : decode prog_8_method_45_code 130 = .ok (.istore_n 3, 1) := by decide +kernel
theorem d_Z_compile_131 : decode prog_8_method_45_code 131 = .ok (.iload_n 3, 1) := by decide +kernel
theorem d_Z_compile_132 : decode prog_8_method_45_code 132 = .ok (.iconst 4, 1) := by decide +kernel
theorem d_Z_compile_133 : decode prog_8_method_45_code 133 = .ok (.if_icmp .ge (23), 3) := by decide +kernel
theorem d_Z_compile_136 : decode prog_8_method_45_code 136 = .ok (.aload_n 0, 1) := by decide +kernel
theorem d_Z_compile_137 : decode prog_8_method_45_code 137 = .ok (.getfield (136), 3) := by decide +kernel
theorem d_Z_compile_140 : decode prog_8_method_45_code 140 = .ok (.iload_n 3, 1) := by decide +kernel
theorem d_Z_compile_141 : decode prog_8_method_45_code 141 = .ok (.lconst 0, 1) := by decide +kernel
theorem d_Z_compile_142 : decode prog_8_method_45_code 142 = .ok (.lastore, 1) := by decide +kernel
theorem d_Z_compile_143 : decode prog_8_method_45_code 143 = .ok (.aload_n 0, 1) := by decide +kernel
theorem d_Z_compile_144 : decode prog_8_method_45_code 144 = .ok (.getfield (139), 3) := by decide +kernel
theorem d_Z_compile_147 : decode prog_8_method_45_code 147 = .ok (.iload_n 3, 1) := by decide +kernel
theorem d_Z_compile_148 : decode prog_8_method_45_code 148 = .ok (.lconst 0, 1) := by decide +kernel
theorem d_Z_compile_149 : decode prog_8_method_45_code 149 = .ok (.lastore, 1) := by decide +kernel
theorem d_Z_compile_150 : decode prog_8_method_45_code 150 = .ok (.iinc 3 (1), 3) := by decide +kernel
theorem d_Z_compile_153 : decode prog_8_method_45_code 153 = .ok (.goto (-22), 3) := by decide +kernel
theorem d_Z_compile_156 : decode prog_8_method_45_code 156 = .ok (.goto (32), 3) := by decide +kernel
theorem d_Z_compile_159 : decode prog_8_method_45_code 159 = .ok (.aload_n 0, 1) := by decide +kernel
theorem d_Z_compile_160 : decode prog_8_method_45_code 160 = .ok (.getfield (384), 3) := by decide +kernel
theorem d_Z_compile_163 : decode prog_8_method_45_code 163 = .ok (.ifCond .eq (25), 3) := by decide +kernel
theorem d_Z_compile_166 : decode prog_8_method_45_code 166 = .ok (.aload_n 0, 1) := by decide +kernel
theorem d_Z_compile_167 : decode prog_8_method_45_code 167 = .ok (.aload_n 0, 1) := by decide +kernel
theorem d_Z_compile_168 : decode prog_8_method_45_code 168 = .ok (.getfield (13), 3) := by decide +kernel
theorem d_Z_compile_171 : decode prog_8_method_45_code 171 = .ok (.aload_n 0, 1) := by decide +kernel
theorem d_Z_compile_172 : decode prog_8_method_45_code 172 = .ok (.getfield (388), 3) := by decide +kernel
theorem d_Z_compile_175 : decode prog_8_method_45_code 175 = .ok (.invokevirtual (374), 3) := by decide +kernel
theorem d_Z_compile_178 : decode prog_8_method_45_code 178 = .ok (.istore_n 3, 1) := by decide +kernel
theorem d_Z_compile_179 : decode prog_8_method_45_code 179 = .ok (.aload_n 0, 1) := by decide +kernel
theorem d_Z_compile_180 : decode prog_8_method_45_code 180 = .ok (.iconst 0, 1) := by decide +kernel
theorem d_Z_compile_181 : decode prog_8_method_45_code 181 = .ok (.putfield (293), 3) := by decide +kernel
theorem d_Z_compile_184 : decode prog_8_method_45_code 184 = .ok (.aload_n 0, 1) := by decide +kernel
theorem d_Z_compile_185 : decode prog_8_method_45_code 185 = .ok (.invokevirtual (381), 3) := by decide +kernel
theorem d_Z_compile_188 : decode prog_8_method_45_code 188 = .ok (.iload_n 2, 1) := by decide +kernel
theorem d_Z_compile_189 : decode prog_8_method_45_code 189 = .ok (.ireturn, 1) := by decide +kernel
theorem fd_Z_13 : ax_fd "CipherNotationModel" 13 6 3 := ⟨nC6, nT6, 73, nY6, rfl, nW6, by decide, nw_4 140 (by decide +kernel) rfl, nO6, nA6⟩
def lp_Z_compile_103 (F : Nat) (x2 : Int32) : Nat → Int32 → ax_σ → Option (ax_σ)
  | 0, _, _ => none
  | n + 1, x3, s =>
    if (s.1 0 38 2) ≤ x3 then
      some s
    else
      bif ax_in x3 240 then
      bif ax_in x3 240 then
      ax_let (ax_wI s 0 40 (x3).toNatClampNeg (s.1 0 39 (x3).toNatClampNeg)) (fun s32 =>
        lp_Z_compile_103 F x2 n (x3 + (1 : Int32)) s32)
      else none
      else none
set_option maxHeartbeats 4000000 in
set_option maxRecDepth 100000 in
theorem pl_Z_compile_103 {D : va_G} {cA : Nat → ClassId} {ad : Nat → Nat → Nat} {al : List (Nat × Nat)} {θ : ax_Θ} {l : Launch} {ρ : ax_ρ} {G : ax_G} {F : Nat} {x2 : Int32} (h0 : ax_M0 al) (hB : ax_B D cA ad al θ l "CipherNotationModel" prog_8_method_45_code 4 6 G) : ∀ (n : Nat) {x3 : Int32} {s : ax_σ} (out : ax_σ), lp_Z_compile_103 F x2 n x3 s = some out → (∀ (es : ax_σ), out = es → ax_R G 4 0 0 (129, [(0, .inr (0, 38)), (2, .inl (.int (x2)))], [], ax_m (es) ρ)) → ax_R G 4 0 0 (103, [(0, .inr (0, 38)), (2, .inl (.int (x2))), (3, .inl (.int (x3)))], [], ax_m (s) ρ) := by
  have hK := hB.K
  have hal := hB.la
  intro n
  induction n with
  | zero =>
    intro x3 s out h
    cases h
  | succ n ih =>
    intro x3 s out h KE
    rw [lp_Z_compile_103] at h
    refine ax_bk hK (ax_fc (ax_v_ld (ax_r_iload_n (i := 3) d_Z_compile_103 rfl)) (ax_fc (ax_v_ld (ax_r_aload_n (i := 0) d_Z_compile_104 rfl)) (ax_fc (ax_w_gf (e := none) hal d_Z_compile_105 fd_Z_150) ax_fn))) (y := (108, [(0, .inr (0, 38)), (2, .inl (.int (x2))), (3, .inl (.int (x3)))], [.inl (.int ((s.1 0 38 2))), .inl (.int (x3))], ax_m (s) ρ)) rfl ⟨trivial, trivial, (h0 38 rfl), trivial⟩ ?_
    refine ax_ic_ge (tgt := 129) hK d_Z_compile_108 (by decide) (fun c33 => ?_) (fun c33 => ?_)
    · replace h := ax_it c33 h
      cases h
      exact ax_Lsub [0, 1] rfl (KE _ rfl)
    · replace h := ax_if c33 h
      obtain ⟨b30, h⟩ := ax_gd h
      obtain ⟨b31, h⟩ := ax_gd h
      refine ax_bk hK (ax_fc (ax_v_ld (ax_r_aload_n (i := 0) d_Z_compile_111 rfl)) (ax_fc (ax_w_gf (e := none) hal d_Z_compile_112 fd_Z_13) (ax_fc (ax_v_ld (ax_r_iload_n (i := 3) d_Z_compile_115 rfl)) (ax_fc (ax_v_ld (ax_r_aload_n (i := 0) d_Z_compile_116 rfl)) (ax_fc (ax_w_gf (e := none) hal d_Z_compile_117 fd_Z_7) (ax_fc (ax_v_ld (ax_r_iload_n (i := 3) d_Z_compile_120 rfl)) (ax_fc (ax_w_iald hal d_Z_compile_121) (ax_fc (ax_w_iast hal d_Z_compile_122) ax_fn)))))))) (y := (123, [(0, .inr (0, 38)), (2, .inl (.int (x2))), (3, .inl (.int (x3)))], [], ax_m (ax_wI s 0 40 (x3).toNatClampNeg (s.1 0 39 (x3).toNatClampNeg)) ρ)) rfl ⟨trivial, (h0 38 rfl), trivial, trivial, (h0 38 rfl), trivial, ⟨(h0 39 rfl), ax_inp b30⟩, ⟨(h0 40 rfl), ax_inp b31⟩, trivial⟩ ?_
      refine ax_lt (Q := fun ςς => ax_R G 4 0 0 (123, [(0, .inr (0, 38)), (2, .inl (.int (x2))), (3, .inl (.int (x3)))], [], ax_m (ςς) ρ)) h (fun s32 h => ?_)
      refine ax_bk hK (ax_fc (ax_v_ii (d := 1) d_Z_compile_123 (by decide)) (ax_fc (ax_v_go (tgt := 103) d_Z_compile_126 (by decide)) ax_fn)) (y := (103, [(3, .inl (.int ((x3 + (1 : Int32))))), (0, .inr (0, 38)), (2, .inl (.int (x2)))], [], ax_m (s32) ρ)) rfl ⟨trivial, trivial, trivial⟩ ?_
      exact ax_Lsub [1, 2, 0] rfl (ih _ h KE)
theorem fd_Z_136 : ax_fd "CipherNotationModel" 136 6 70 := ⟨nC6, nT6, 73, nY6, rfl, nW6, by decide, nw_4 207 (by decide +kernel) rfl, nO6, nA6⟩
theorem fd_Z_139 : ax_fd "CipherNotationModel" 139 6 71 := ⟨nC6, nT6, 73, nY6, rfl, nW6, by decide, nw_4 208 (by decide +kernel) rfl, nO6, nA6⟩
def lp_Z_compile_131 (F : Nat) (x2 : Int32) : Nat → Int32 → ax_σ → Option (ax_σ)
  | 0, _, _ => none
  | n + 1, x3, s =>
    if (4 : Int32) ≤ x3 then
      some s
    else
      bif ax_in x3 4 then
      ax_let (ax_wL s 0 79 (x3).toNatClampNeg (0 : Int64)) (fun s36 =>
        bif ax_in x3 4 then
        ax_let (ax_wL s36 0 80 (x3).toNatClampNeg (0 : Int64)) (fun s38 =>
          lp_Z_compile_131 F x2 n (x3 + (1 : Int32)) s38)
        else none)
      else none
set_option maxHeartbeats 4000000 in
set_option maxRecDepth 100000 in
theorem pl_Z_compile_131 {D : va_G} {cA : Nat → ClassId} {ad : Nat → Nat → Nat} {al : List (Nat × Nat)} {θ : ax_Θ} {l : Launch} {ρ : ax_ρ} {G : ax_G} {F : Nat} {x2 : Int32} (h0 : ax_M0 al) (hB : ax_B D cA ad al θ l "CipherNotationModel" prog_8_method_45_code 4 6 G) : ∀ (n : Nat) {x3 : Int32} {s : ax_σ} (out : ax_σ), lp_Z_compile_131 F x2 n x3 s = some out → (∀ (es : ax_σ), out = es → ax_R G 4 0 0 (156, [(2, .inl (.int (x2)))], [], ax_m (es) ρ)) → ax_R G 4 0 0 (131, [(0, .inr (0, 38)), (2, .inl (.int (x2))), (3, .inl (.int (x3)))], [], ax_m (s) ρ) := by
  have hK := hB.K
  have hal := hB.la
  intro n
  induction n with
  | zero =>
    intro x3 s out h
    cases h
  | succ n ih =>
    intro x3 s out h KE
    rw [lp_Z_compile_131] at h
    refine ax_bk hK (ax_fc (ax_v_ld (ax_r_iload_n (i := 3) d_Z_compile_131 rfl)) (ax_fc (ax_v_pu (ax_r_iconst (v := 4) d_Z_compile_132 (by decide))) ax_fn)) (y := (133, [(0, .inr (0, 38)), (2, .inl (.int (x2))), (3, .inl (.int (x3)))], [.inl (.int ((4 : Int32))), .inl (.int (x3))], ax_m (s) ρ)) rfl ⟨trivial, trivial, trivial⟩ ?_
    refine ax_ic_ge (tgt := 156) hK d_Z_compile_133 (by decide) (fun c39 => ?_) (fun c39 => ?_)
    · replace h := ax_it c39 h
      cases h
      exact ax_Lsub [1] rfl (KE _ rfl)
    · replace h := ax_if c39 h
      obtain ⟨b35, h⟩ := ax_gd h
      refine ax_bk hK (ax_fc (ax_v_ld (ax_r_aload_n (i := 0) d_Z_compile_136 rfl)) (ax_fc (ax_w_gf (e := none) hal d_Z_compile_137 fd_Z_136) (ax_fc (ax_v_ld (ax_r_iload_n (i := 3) d_Z_compile_140 rfl)) (ax_fc (ax_v_pu (ax_r_lconst (v := 0) d_Z_compile_141 (by decide))) (ax_fc (ax_w_last hal d_Z_compile_142) ax_fn))))) (y := (143, [(0, .inr (0, 38)), (2, .inl (.int (x2))), (3, .inl (.int (x3)))], [], ax_m (ax_wL s 0 79 (x3).toNatClampNeg (0 : Int64)) ρ)) rfl ⟨trivial, (h0 38 rfl), trivial, trivial, ⟨(h0 79 rfl), ax_inp b35⟩, trivial⟩ ?_
      refine ax_lt (Q := fun ςς => ax_R G 4 0 0 (143, [(0, .inr (0, 38)), (2, .inl (.int (x2))), (3, .inl (.int (x3)))], [], ax_m (ςς) ρ)) h (fun s36 h => ?_)
      obtain ⟨b37, h⟩ := ax_gd h
      refine ax_bk hK (ax_fc (ax_v_ld (ax_r_aload_n (i := 0) d_Z_compile_143 rfl)) (ax_fc (ax_w_gf (e := none) hal d_Z_compile_144 fd_Z_139) (ax_fc (ax_v_ld (ax_r_iload_n (i := 3) d_Z_compile_147 rfl)) (ax_fc (ax_v_pu (ax_r_lconst (v := 0) d_Z_compile_148 (by decide))) (ax_fc (ax_w_last hal d_Z_compile_149) ax_fn))))) (y := (150, [(0, .inr (0, 38)), (2, .inl (.int (x2))), (3, .inl (.int (x3)))], [], ax_m (ax_wL s36 0 80 (x3).toNatClampNeg (0 : Int64)) ρ)) rfl ⟨trivial, (h0 38 rfl), trivial, trivial, ⟨(h0 80 rfl), ax_inp b37⟩, trivial⟩ ?_
      refine ax_lt (Q := fun ςς => ax_R G 4 0 0 (150, [(0, .inr (0, 38)), (2, .inl (.int (x2))), (3, .inl (.int (x3)))], [], ax_m (ςς) ρ)) h (fun s38 h => ?_)
      refine ax_bk hK (ax_fc (ax_v_ii (d := 1) d_Z_compile_150 (by decide)) (ax_fc (ax_v_go (tgt := 131) d_Z_compile_153 (by decide)) ax_fn)) (y := (131, [(3, .inl (.int ((x3 + (1 : Int32))))), (0, .inr (0, 38)), (2, .inl (.int (x2)))], [], ax_m (s38) ρ)) rfl ⟨trivial, trivial, trivial⟩ ?_
      exact ax_Lsub [1, 2, 0] rfl (ih _ h KE)
set_option maxRecDepth 100000 in
theorem cw_Z_374 : ax_cw "CipherNotationModel" 374 y_Z_read (.code y_Z_read prog_8_method_12_code 5 (some .int)) 2 := ⟨nw_5 135 (by decide +kernel) rfl, nw_1 7 (by decide +kernel) rfl, nw_5 138 rfl rfl, by decide +kernel, by decide +kernel⟩
theorem im_Z_read : Cond.instanceMethod y_Z_read ∈ ax_tbl := nw_5 137 (by decide +kernel) rfl
theorem se_Z_read : Cond.selects y_Z_read.cls y_Z_read y_Z_read ∈ ax_tbl := nw_sel 44 (by decide +kernel) (by decide +kernel)
theorem fp_Z_16 : ax_fp "CipherNotationModel" 16 6 6 (.int) := ⟨nC6, nT6, 73, nY6, rfl, nW6, by decide, nw_4 143 (by decide +kernel) rfl, nO6, nA6, by decide +kernel, by decide +kernel⟩
theorem fd_Z_384 : ax_fd "CipherNotationModel" 384 6 5 := ⟨nC6, nT6, 73, nY6, rfl, nW6, by decide, nw_4 142 (by decide +kernel) rfl, nO6, nA6⟩
theorem fd_Z_388 : ax_fd "CipherNotationModel" 388 6 4 := ⟨nC6, nT6, 73, nY6, rfl, nW6, by decide, nw_4 141 (by decide +kernel) rfl, nO6, nA6⟩
set_option maxRecDepth 100000 in
theorem cw_Z_381 : ax_cw "CipherNotationModel" 381 y_Z_layOut (.code y_Z_layOut prog_8_method_43_code 4 none) 0 := ⟨nw_6 42 (by decide +kernel) rfl, nw_1 7 (by decide +kernel) rfl, nw_6 45 rfl rfl, by decide +kernel, by decide +kernel⟩
theorem im_Z_layOut : Cond.instanceMethod y_Z_layOut ∈ ax_tbl := nw_6 44 (by decide +kernel) rfl
theorem se_Z_layOut : Cond.selects y_Z_layOut.cls y_Z_layOut y_Z_layOut ∈ ax_tbl := nw_sel 75 (by decide +kernel) (by decide +kernel)
theorem fp_Z_384 : ax_fp "CipherNotationModel" 384 6 5 (.boolean) := ⟨nC6, nT6, 73, nY6, rfl, nW6, by decide, nw_4 142 (by decide +kernel) rfl, nO6, nA6, by decide +kernel, by decide +kernel⟩
theorem fp_Z_388 : ax_fp "CipherNotationModel" 388 6 4 (.int) := ⟨nC6, nT6, 73, nY6, rfl, nW6, by decide, nw_4 141 (by decide +kernel) rfl, nO6, nA6, by decide +kernel, by decide +kernel⟩
set_option maxRecDepth 100000 in
theorem cw_Z_378 : ax_cw "CipherNotationModel" 378 y_Z_checkAll (.code y_Z_checkAll prog_8_method_40_code 3 none) 0 := ⟨nw_5 227 (by decide +kernel) rfl, nw_1 7 (by decide +kernel) rfl, nw_5 230 rfl rfl, by decide +kernel, by decide +kernel⟩
theorem im_Z_checkAll : Cond.instanceMethod y_Z_checkAll ∈ ax_tbl := nw_5 229 (by decide +kernel) rfl
theorem se_Z_checkAll : Cond.selects y_Z_checkAll.cls y_Z_checkAll y_Z_checkAll ∈ ax_tbl := nw_sel 63 (by decide +kernel) (by decide +kernel)
def f_Z_compile (F : Nat) (s : ax_σ) : Option (Int32 × ax_σ) :=
  ax_let (ax_wI s 0 38 0 (0 : Int32)) (fun s1 =>
    Option.bind (f_Z_read_t F (s1.1 0 38 2) s1) (fun (r2, s3) =>
      Option.bind (
        if r2 = (-1 : Int32) then
          some (0 : Int32)
        else
          some (1 : Int32)) (fun v6 =>
        ax_let (ax_wI s3 0 38 53 v6) (fun s7 =>
          ax_let (ax_wI s7 0 38 54 r2) (fun s8 =>
            Option.bind (
              if r2 = (-1 : Int32) then
                Option.bind (f_Z_checkAll F s8) (fun s9 =>
                  if (s9.1 0 38 53) = (0 : Int32) then
                    Option.bind (f_Z_layOut F s9) (fun s11 =>
                      some s11)
                  else
                    some s9)
              else
                some s8) (fun s15 =>
              Option.bind (
                Option.bind (
                  if (s15.1 0 38 53) = (0 : Int32) then
                    some true
                  else
                    if (s15.1 0 38 53) = (6 : Int32) then
                      some true
                    else
                      some false) (fun w18 => bif w18 then
                  some (-1 : Int32)
                else
                  some (s15.1 0 38 54))) (fun v19 =>
                ax_let (ax_wI s15 0 38 6 v19) (fun s20 =>
                  if (s15.1 0 38 53) = (0 : Int32) then
                    ax_let (ax_wI s20 0 38 5 (1 : Int32)) (fun s28 =>
                      ax_let (ax_wI s28 0 38 4 (s28.1 0 38 2)) (fun s29 =>
                        Option.bind (lp_Z_compile_103 F (s15.1 0 38 53) F (0 : Int32) s29) (fun s34 =>
                          Option.bind (lp_Z_compile_131 F (s15.1 0 38 53) F (0 : Int32) s34) (fun s40 =>
                            some (((s15.1 0 38 53), s40))))))
                  else
                    if (s20.1 0 38 5) = (0 : Int32) then
                      some (((s15.1 0 38 53), s20))
                    else
                      Option.bind (f_Z_read_s F (s20.1 0 38 4) s20) (fun (r21, s22) =>
                        ax_let (ax_wI s22 0 38 53 (0 : Int32)) (fun s24 =>
                          Option.bind (f_Z_layOut F s24) (fun s25 =>
                            some (((s15.1 0 38 53), s25)))))))))))))
set_option maxHeartbeats 4000000 in
set_option maxRecDepth 100000 in
theorem t_Z_compile {l : Launch} {D : va_G} {cA : Nat → ClassId} {ad : Nat → Nat → Nat} {al : List (Nat × Nat)} {θ : ax_Θ} {ρ : ax_ρ} {F : Nat} (h0 : ax_M0 al)  {s : ax_σ} {r0 : Int32} {s0 : ax_σ} (h : f_Z_compile F s = some (r0, s0)) : ax_T l D cA ad al θ y_Z_compile (.code y_Z_compile prog_8_method_45_code 4 (some .int)) 6 [.inr (0, 38)] (ax_m s ρ) (some (.inl (.int r0))) (ax_m s0 ρ) := by
  refine ax_T_of (own := "CipherNotationModel") (by decide) rfl (Nat.le_of_ble_eq_true rfl) [(0, .inr (0, 38))] rfl ?_
  intro G hA
  have hB := hA.B
  have hK := hB.K
  have hal := hB.la
  unfold f_Z_compile at h
  refine ax_bk hK (ax_fc (ax_v_ld (ax_r_aload_n (i := 0) d_Z_compile_0 rfl)) (ax_fc (ax_v_pu (ax_r_iconst (v := 0) d_Z_compile_1 (by decide))) (ax_fc (ax_w_pf (tc := 0) hal d_Z_compile_2 fp_Z_145 rfl) ax_fn))) (y := (5, [(0, .inr (0, 38))], [], ax_m (ax_wI s 0 38 0 (0 : Int32)) ρ)) rfl ⟨trivial, trivial, (h0 38 rfl), trivial⟩ ?_
  refine ax_lt (Q := fun ςς => ax_R G 4 0 0 (5, [(0, .inr (0, 38))], [], ax_m (ςς) ρ)) h (fun s1 h => ?_)
  refine ax_bk hK (ax_fc (ax_v_ld (ax_r_aload_n (i := 0) d_Z_compile_5 rfl)) (ax_fc (ax_v_ld (ax_r_aload_n (i := 0) d_Z_compile_6 rfl)) (ax_fc (ax_w_gf (e := none) hal d_Z_compile_7 fd_Z_7) (ax_fc (ax_v_ld (ax_r_aload_n (i := 0) d_Z_compile_10 rfl)) (ax_fc (ax_w_gf (e := none) hal d_Z_compile_11 fd_Z_150) ax_fn))))) (y := (14, [(0, .inr (0, 38))], [.inl (.int ((s1.1 0 38 2))), .inr (0, 39), .inr (0, 38)], ax_m (s1) ρ)) rfl ⟨trivial, trivial, (h0 38 rfl), trivial, (h0 38 rfl), trivial⟩ ?_
  obtain ⟨⟨r2, s3⟩, q4, h⟩ := ax_bd h
  dsimp only at h
  refine ax_bV (rest := []) hB (t_Z_read_t h0 q4) cw_Z_374 im_Z_read se_Z_read d_Z_compile_14 (h0 38 rfl) rfl rfl (by decide) (by decide) rfl rfl (Nat.le_of_ble_eq_true rfl) ?_
  change ax_R G 4 0 0 (17, [(0, .inr (0, 38))], [.inl (.int (r2))], ax_m (s3) ρ)
  refine ax_bk hK (ax_fc (ax_v_so (ax_r_istore_n (i := 1) d_Z_compile_17 rfl)) (ax_fc (ax_v_ld (ax_r_aload_n (i := 0) d_Z_compile_18 rfl)) (ax_fc (ax_v_ld (ax_r_iload_n (i := 1) d_Z_compile_19 rfl)) (ax_fc (ax_v_pu (ax_r_iconst (v := -1) d_Z_compile_20 (by decide))) ax_fn)))) (y := (21, [(1, .inl (.int (r2))), (0, .inr (0, 38))], [.inl (.int ((-1 : Int32))), .inl (.int (r2)), .inr (0, 38)], ax_m (s3) ρ)) rfl ⟨trivial, trivial, trivial, trivial, trivial⟩ ?_
  obtain ⟨w42, hw42, h⟩ := ax_bd h
  have KEw42 : ∀ (v6 : Int32), w42 = v6 → ax_R G 4 0 0 (29, [(0, .inr (0, 38)), (1, .inl (.int (r2)))], [.inl (.int (v6)), .inr (0, 38)], ax_m (s3) ρ) := by
    intro v6 e9
    subst w42
    try dsimp only at h
    refine ax_bk hK (ax_fc (ax_w_pf (tc := 0) hal d_Z_compile_29 fp_Z_293 rfl) ax_fn) (y := (32, [(0, .inr (0, 38)), (1, .inl (.int (r2)))], [], ax_m (ax_wI s3 0 38 53 v6) ρ)) rfl ⟨(h0 38 rfl), trivial⟩ ?_
    refine ax_lt (Q := fun ςς => ax_R G 4 0 0 (32, [(0, .inr (0, 38)), (1, .inl (.int (r2)))], [], ax_m (ςς) ρ)) h (fun s7 h => ?_)
    refine ax_bk hK (ax_fc (ax_v_ld (ax_r_aload_n (i := 0) d_Z_compile_32 rfl)) (ax_fc (ax_v_ld (ax_r_iload_n (i := 1) d_Z_compile_33 rfl)) (ax_fc (ax_w_pf (tc := 0) hal d_Z_compile_34 fp_Z_296 rfl) ax_fn))) (y := (37, [(0, .inr (0, 38)), (1, .inl (.int (r2)))], [], ax_m (ax_wI s7 0 38 54 r2) ρ)) rfl ⟨trivial, trivial, (h0 38 rfl), trivial⟩ ?_
    refine ax_lt (Q := fun ςς => ax_R G 4 0 0 (37, [(0, .inr (0, 38)), (1, .inl (.int (r2)))], [], ax_m (ςς) ρ)) h (fun s8 h => ?_)
    refine ax_bk hK (ax_fc (ax_v_ld (ax_r_iload_n (i := 1) d_Z_compile_37 rfl)) (ax_fc (ax_v_pu (ax_r_iconst (v := -1) d_Z_compile_38 (by decide))) ax_fn)) (y := (39, [(0, .inr (0, 38)), (1, .inl (.int (r2)))], [.inl (.int ((-1 : Int32))), .inl (.int (r2))], ax_m (s8) ρ)) rfl ⟨trivial, trivial, trivial⟩ ?_
    obtain ⟨w43, hw43, h⟩ := ax_bd h
    have KEw43 : ∀ (s15 : ax_σ), w43 = s15 → ax_R G 4 0 0 (57, [(0, .inr (0, 38))], [], ax_m (s15) ρ) := by
      intro s15 e9
      subst w43
      try dsimp only at h
      refine ax_bk hK (ax_fc (ax_v_ld (ax_r_aload_n (i := 0) d_Z_compile_57 rfl)) (ax_fc (ax_w_gf (e := none) hal d_Z_compile_58 fd_Z_293) (ax_fc (ax_v_so (ax_r_istore_n (i := 2) d_Z_compile_61 rfl)) (ax_fc (ax_v_ld (ax_r_aload_n (i := 0) d_Z_compile_62 rfl)) (ax_fc (ax_v_ld (ax_r_iload_n (i := 2) d_Z_compile_63 rfl)) ax_fn))))) (y := (64, [(2, .inl (.int ((s15.1 0 38 53)))), (0, .inr (0, 38))], [.inl (.int ((s15.1 0 38 53))), .inr (0, 38)], ax_m (s15) ρ)) rfl ⟨trivial, (h0 38 rfl), trivial, trivial, trivial, trivial⟩ ?_
      obtain ⟨w44, hw44, h⟩ := ax_bd h
      have KEw44 : ∀ (v19 : Int32), w44 = v19 → ax_R G 4 0 0 (81, [(0, .inr (0, 38)), (2, .inl (.int ((s15.1 0 38 53))))], [.inl (.int (v19)), .inr (0, 38)], ax_m (s15) ρ) := by
        intro v19 e9
        subst w44
        try dsimp only at h
        refine ax_bk hK (ax_fc (ax_w_pf (tc := 0) hal d_Z_compile_81 fp_Z_16 rfl) ax_fn) (y := (84, [(0, .inr (0, 38)), (2, .inl (.int ((s15.1 0 38 53))))], [], ax_m (ax_wI s15 0 38 6 v19) ρ)) rfl ⟨(h0 38 rfl), trivial⟩ ?_
        refine ax_lt (Q := fun ςς => ax_R G 4 0 0 (84, [(0, .inr (0, 38)), (2, .inl (.int ((s15.1 0 38 53))))], [], ax_m (ςς) ρ)) h (fun s20 h => ?_)
        refine ax_bk hK (ax_fc (ax_v_ld (ax_r_iload_n (i := 2) d_Z_compile_84 rfl)) ax_fn) (y := (85, [(0, .inr (0, 38)), (2, .inl (.int ((s15.1 0 38 53))))], [.inl (.int ((s15.1 0 38 53)))], ax_m (s20) ρ)) rfl ⟨trivial, trivial⟩ ?_
        refine ax_if_ne (tgt := 159) hK d_Z_compile_85 (by decide) (fun c41 => ?_) (fun c41 => ?_)
        · replace h := ax_if c41 h
          refine ax_bk hK (ax_fc (ax_v_ld (ax_r_aload_n (i := 0) d_Z_compile_159 rfl)) (ax_fc (ax_w_gf (e := none) hal d_Z_compile_160 fd_Z_384) ax_fn)) (y := (163, [(0, .inr (0, 38)), (2, .inl (.int ((s15.1 0 38 53))))], [.inl (.int ((s20.1 0 38 5)))], ax_m (s20) ρ)) rfl ⟨trivial, (h0 38 rfl), trivial⟩ ?_
          refine ax_if_eq (tgt := 188) hK d_Z_compile_163 (by decide) (fun c27 => ?_) (fun c27 => ?_)
          · replace h := ax_it c27 h
            refine ax_bk hK (ax_fc (ax_v_ld (ax_r_iload_n (i := 2) d_Z_compile_188 rfl)) ax_fn) (y := (189, [(0, .inr (0, 38)), (2, .inl (.int ((s15.1 0 38 53))))], [.inl (.int ((s15.1 0 38 53)))], ax_m (s20) ρ)) rfl ⟨trivial, trivial⟩ ?_
            cases h
            exact ax_iret hA d_Z_compile_189
          · replace h := ax_if c27 h
            refine ax_bk hK (ax_fc (ax_v_ld (ax_r_aload_n (i := 0) d_Z_compile_166 rfl)) (ax_fc (ax_v_ld (ax_r_aload_n (i := 0) d_Z_compile_167 rfl)) (ax_fc (ax_w_gf (e := none) hal d_Z_compile_168 fd_Z_13) (ax_fc (ax_v_ld (ax_r_aload_n (i := 0) d_Z_compile_171 rfl)) (ax_fc (ax_w_gf (e := none) hal d_Z_compile_172 fd_Z_388) ax_fn))))) (y := (175, [(0, .inr (0, 38)), (2, .inl (.int ((s15.1 0 38 53))))], [.inl (.int ((s20.1 0 38 4))), .inr (0, 40), .inr (0, 38)], ax_m (s20) ρ)) rfl ⟨trivial, trivial, (h0 38 rfl), trivial, (h0 38 rfl), trivial⟩ ?_
            obtain ⟨⟨r21, s22⟩, q23, h⟩ := ax_bd h
            dsimp only at h
            refine ax_bV (rest := []) hB (t_Z_read_s h0 q23) cw_Z_374 im_Z_read se_Z_read d_Z_compile_175 (h0 38 rfl) rfl rfl (by decide) (by decide) rfl rfl (Nat.le_of_ble_eq_true rfl) ?_
            change ax_R G 4 0 0 (178, [(0, .inr (0, 38)), (2, .inl (.int ((s15.1 0 38 53))))], [.inl (.int (r21))], ax_m (s22) ρ)
            refine ax_bk hK (ax_fc (ax_v_so (ax_r_istore_n (i := 3) d_Z_compile_178 rfl)) (ax_fc (ax_v_ld (ax_r_aload_n (i := 0) d_Z_compile_179 rfl)) (ax_fc (ax_v_pu (ax_r_iconst (v := 0) d_Z_compile_180 (by decide))) (ax_fc (ax_w_pf (tc := 0) hal d_Z_compile_181 fp_Z_293 rfl) ax_fn)))) (y := (184, [(3, .inl (.int (r21))), (0, .inr (0, 38)), (2, .inl (.int ((s15.1 0 38 53))))], [], ax_m (ax_wI s22 0 38 53 (0 : Int32)) ρ)) rfl ⟨trivial, trivial, trivial, (h0 38 rfl), trivial⟩ ?_
            refine ax_lt (Q := fun ςς => ax_R G 4 0 0 (184, [(3, .inl (.int (r21))), (0, .inr (0, 38)), (2, .inl (.int ((s15.1 0 38 53))))], [], ax_m (ςς) ρ)) h (fun s24 h => ?_)
            refine ax_bk hK (ax_fc (ax_v_ld (ax_r_aload_n (i := 0) d_Z_compile_184 rfl)) ax_fn) (y := (185, [(3, .inl (.int (r21))), (0, .inr (0, 38)), (2, .inl (.int ((s15.1 0 38 53))))], [.inr (0, 38)], ax_m (s24) ρ)) rfl ⟨trivial, trivial⟩ ?_
            obtain ⟨s25, q26, h⟩ := ax_bd h
            refine ax_bV (rest := []) hB (t_Z_layOut h0 q26) cw_Z_381 im_Z_layOut se_Z_layOut d_Z_compile_185 (h0 38 rfl) rfl rfl (by decide) (by decide) rfl rfl (Nat.le_of_ble_eq_true rfl) ?_
            change ax_R G 4 0 0 (188, [(3, .inl (.int (r21))), (0, .inr (0, 38)), (2, .inl (.int ((s15.1 0 38 53))))], [], ax_m (s25) ρ)
            refine ax_bk hK (ax_fc (ax_v_ld (ax_r_iload_n (i := 2) d_Z_compile_188 rfl)) ax_fn) (y := (189, [(3, .inl (.int (r21))), (0, .inr (0, 38)), (2, .inl (.int ((s15.1 0 38 53))))], [.inl (.int ((s15.1 0 38 53)))], ax_m (s25) ρ)) rfl ⟨trivial, trivial⟩ ?_
            cases h
            exact ax_iret hA d_Z_compile_189
        · replace h := ax_it c41 h
          refine ax_bk hK (ax_fc (ax_v_ld (ax_r_aload_n (i := 0) d_Z_compile_88 rfl)) (ax_fc (ax_v_pu (ax_r_iconst (v := 1) d_Z_compile_89 (by decide))) (ax_fc (ax_w_pf (tc := 1) hal d_Z_compile_90 fp_Z_384 rfl) ax_fn))) (y := (93, [(0, .inr (0, 38)), (2, .inl (.int ((s15.1 0 38 53))))], [], ax_m (ax_wI s20 0 38 5 (1 : Int32)) ρ)) rfl ⟨trivial, trivial, ⟨(h0 38 rfl), by decide⟩, trivial⟩ ?_
          refine ax_lt (Q := fun ςς => ax_R G 4 0 0 (93, [(0, .inr (0, 38)), (2, .inl (.int ((s15.1 0 38 53))))], [], ax_m (ςς) ρ)) h (fun s28 h => ?_)
          refine ax_bk hK (ax_fc (ax_v_ld (ax_r_aload_n (i := 0) d_Z_compile_93 rfl)) (ax_fc (ax_v_ld (ax_r_aload_n (i := 0) d_Z_compile_94 rfl)) (ax_fc (ax_w_gf (e := none) hal d_Z_compile_95 fd_Z_150) (ax_fc (ax_w_pf (tc := 0) hal d_Z_compile_98 fp_Z_388 rfl) ax_fn)))) (y := (101, [(0, .inr (0, 38)), (2, .inl (.int ((s15.1 0 38 53))))], [], ax_m (ax_wI s28 0 38 4 (s28.1 0 38 2)) ρ)) rfl ⟨trivial, trivial, (h0 38 rfl), (h0 38 rfl), trivial⟩ ?_
          refine ax_lt (Q := fun ςς => ax_R G 4 0 0 (101, [(0, .inr (0, 38)), (2, .inl (.int ((s15.1 0 38 53))))], [], ax_m (ςς) ρ)) h (fun s29 h => ?_)
          refine ax_bk hK (ax_fc (ax_v_pu (ax_r_iconst (v := 0) d_Z_compile_101 (by decide))) (ax_fc (ax_v_so (ax_r_istore_n (i := 3) d_Z_compile_102 rfl)) ax_fn)) (y := (103, [(3, .inl (.int ((0 : Int32)))), (0, .inr (0, 38)), (2, .inl (.int ((s15.1 0 38 53))))], [], ax_m (s29) ρ)) rfl ⟨trivial, trivial, trivial⟩ ?_
          obtain ⟨w45, hw45, h⟩ := ax_bd h
          refine ax_Lsub [1, 2, 0] rfl (pl_Z_compile_103 h0 hB F _ hw45 ?_)
          intro s34 e9
          subst w45
          try dsimp only at h
          change ax_R G 4 0 0 (129, [(0, .inr (0, 38)), (2, .inl (.int ((s15.1 0 38 53))))], [], ax_m (s34) ρ)
          refine ax_bk hK (ax_fc (ax_v_pu (ax_r_iconst (v := 0) d_Z_compile_129 (by decide))) (ax_fc (ax_v_so (ax_r_istore_n (i := 3) d_Z_compile_130 rfl)) ax_fn)) (y := (131, [(3, .inl (.int ((0 : Int32)))), (0, .inr (0, 38)), (2, .inl (.int ((s15.1 0 38 53))))], [], ax_m (s34) ρ)) rfl ⟨trivial, trivial, trivial⟩ ?_
          obtain ⟨w46, hw46, h⟩ := ax_bd h
          refine ax_Lsub [1, 2, 0] rfl (pl_Z_compile_131 h0 hB F _ hw46 ?_)
          intro s40 e9
          subst w46
          try dsimp only at h
          change ax_R G 4 0 0 (156, [(2, .inl (.int ((s15.1 0 38 53))))], [], ax_m (s40) ρ)
          refine ax_bk hK (ax_fc (ax_v_go (tgt := 188) d_Z_compile_156 (by decide)) ax_fn) (y := (188, [(2, .inl (.int ((s15.1 0 38 53))))], [], ax_m (s40) ρ)) rfl ⟨trivial, trivial⟩ ?_
          refine ax_bk hK (ax_fc (ax_v_ld (ax_r_iload_n (i := 2) d_Z_compile_188 rfl)) ax_fn) (y := (189, [(2, .inl (.int ((s15.1 0 38 53))))], [.inl (.int ((s15.1 0 38 53)))], ax_m (s40) ρ)) rfl ⟨trivial, trivial⟩ ?_
          cases h
          exact ax_iret hA d_Z_compile_189
      clear h
      have h := hw44
      obtain ⟨w18, hw18, h⟩ := ax_bd h
      have KTw18 : w18 = true → ax_R G 4 0 0 (73, [(0, .inr (0, 38)), (2, .inl (.int ((s15.1 0 38 53))))], [.inr (0, 38)], ax_m (s15) ρ) := by
        intro e9
        subst w18
        replace h := ax_ct h
        refine ax_bk hK (ax_fc (ax_v_pu (ax_r_iconst (v := -1) d_Z_compile_73 (by decide))) (ax_fc (ax_v_go (tgt := 81) d_Z_compile_74 (by decide)) ax_fn)) (y := (81, [(0, .inr (0, 38)), (2, .inl (.int ((s15.1 0 38 53))))], [.inl (.int ((-1 : Int32))), .inr (0, 38)], ax_m (s15) ρ)) rfl ⟨trivial, trivial, trivial⟩ ?_
        cases h
        exact ax_Lsub [0, 1] rfl (KEw44 _ rfl)
      have KFw18 : w18 = false → ax_R G 4 0 0 (77, [(0, .inr (0, 38)), (2, .inl (.int ((s15.1 0 38 53))))], [.inr (0, 38)], ax_m (s15) ρ) := by
        intro e9
        subst w18
        replace h := ax_cf h
        refine ax_bk hK (ax_fc (ax_v_ld (ax_r_aload_n (i := 0) d_Z_compile_77 rfl)) (ax_fc (ax_w_gf (e := none) hal d_Z_compile_78 fd_Z_296) ax_fn)) (y := (81, [(0, .inr (0, 38)), (2, .inl (.int ((s15.1 0 38 53))))], [.inl (.int ((s15.1 0 38 54))), .inr (0, 38)], ax_m (s15) ρ)) rfl ⟨trivial, (h0 38 rfl), trivial⟩ ?_
        cases h
        exact ax_Lsub [0, 1] rfl (KEw44 _ rfl)
      clear h
      have h := hw18
      refine ax_if_eq (tgt := 73) hK d_Z_compile_64 (by decide) (fun c17 => ?_) (fun c17 => ?_)
      · replace h := ax_it c17 h
        cases h
        exact ax_Lsub [1, 0] rfl (KTw18 rfl)
      · replace h := ax_if c17 h
        refine ax_bk hK (ax_fc (ax_v_ld (ax_r_iload_n (i := 2) d_Z_compile_67 rfl)) (ax_fc (ax_v_pu (ax_r_bipush (v := 6) d_Z_compile_68 (by decide))) ax_fn)) (y := (70, [(2, .inl (.int ((s15.1 0 38 53)))), (0, .inr (0, 38))], [.inl (.int ((6 : Int32))), .inl (.int ((s15.1 0 38 53))), .inr (0, 38)], ax_m (s15) ρ)) rfl ⟨trivial, trivial, trivial⟩ ?_
        refine ax_ic_ne (tgt := 77) hK d_Z_compile_70 (by decide) (fun c16 => ?_) (fun c16 => ?_)
        · replace h := ax_if c16 h
          cases h
          exact ax_Lsub [1, 0] rfl (KFw18 rfl)
        · replace h := ax_it c16 h
          cases h
          exact ax_Lsub [1, 0] rfl (KTw18 rfl)
    clear h
    have h := hw43
    refine ax_ic_ne (tgt := 57) hK d_Z_compile_39 (by decide) (fun c14 => ?_) (fun c14 => ?_)
    · replace h := ax_if c14 h
      cases h
      exact ax_Lsub [0] rfl (KEw43 _ rfl)
    · replace h := ax_it c14 h
      refine ax_bk hK (ax_fc (ax_v_ld (ax_r_aload_n (i := 0) d_Z_compile_42 rfl)) ax_fn) (y := (43, [(0, .inr (0, 38)), (1, .inl (.int (r2)))], [.inr (0, 38)], ax_m (s8) ρ)) rfl ⟨trivial, trivial⟩ ?_
      obtain ⟨s9, q10, h⟩ := ax_bd h
      refine ax_bV (rest := []) hB (t_Z_checkAll h0 q10) cw_Z_378 im_Z_checkAll se_Z_checkAll d_Z_compile_43 (h0 38 rfl) rfl rfl (by decide) (by decide) rfl rfl (Nat.le_of_ble_eq_true rfl) ?_
      change ax_R G 4 0 0 (46, [(0, .inr (0, 38)), (1, .inl (.int (r2)))], [], ax_m (s9) ρ)
      refine ax_bk hK (ax_fc (ax_v_ld (ax_r_aload_n (i := 0) d_Z_compile_46 rfl)) (ax_fc (ax_w_gf (e := none) hal d_Z_compile_47 fd_Z_293) ax_fn)) (y := (50, [(0, .inr (0, 38)), (1, .inl (.int (r2)))], [.inl (.int ((s9.1 0 38 53)))], ax_m (s9) ρ)) rfl ⟨trivial, (h0 38 rfl), trivial⟩ ?_
      refine ax_if_ne (tgt := 57) hK d_Z_compile_50 (by decide) (fun c13 => ?_) (fun c13 => ?_)
      · replace h := ax_if c13 h
        cases h
        exact ax_Lsub [0] rfl (KEw43 _ rfl)
      · replace h := ax_it c13 h
        refine ax_bk hK (ax_fc (ax_v_ld (ax_r_aload_n (i := 0) d_Z_compile_53 rfl)) ax_fn) (y := (54, [(0, .inr (0, 38)), (1, .inl (.int (r2)))], [.inr (0, 38)], ax_m (s9) ρ)) rfl ⟨trivial, trivial⟩ ?_
        obtain ⟨s11, q12, h⟩ := ax_bd h
        refine ax_bV (rest := []) hB (t_Z_layOut h0 q12) cw_Z_381 im_Z_layOut se_Z_layOut d_Z_compile_54 (h0 38 rfl) rfl rfl (by decide) (by decide) rfl rfl (Nat.le_of_ble_eq_true rfl) ?_
        change ax_R G 4 0 0 (57, [(0, .inr (0, 38)), (1, .inl (.int (r2)))], [], ax_m (s11) ρ)
        cases h
        exact ax_Lsub [0] rfl (KEw43 _ rfl)
  clear h
  have h := hw42
  refine ax_ic_ne (tgt := 28) hK d_Z_compile_21 (by decide) (fun c5 => ?_) (fun c5 => ?_)
  · replace h := ax_if c5 h
    refine ax_bk hK (ax_fc (ax_v_pu (ax_r_iconst (v := 1) d_Z_compile_28 (by decide))) ax_fn) (y := (29, [(1, .inl (.int (r2))), (0, .inr (0, 38))], [.inl (.int ((1 : Int32))), .inr (0, 38)], ax_m (s3) ρ)) rfl ⟨trivial, trivial⟩ ?_
    cases h
    exact ax_Lsub [1, 0] rfl (KEw42 _ rfl)
  · replace h := ax_it c5 h
    refine ax_bk hK (ax_fc (ax_v_pu (ax_r_iconst (v := 0) d_Z_compile_24 (by decide))) (ax_fc (ax_v_go (tgt := 29) d_Z_compile_25 (by decide)) ax_fn)) (y := (29, [(1, .inl (.int (r2))), (0, .inr (0, 38))], [.inl (.int ((0 : Int32))), .inr (0, 38)], ax_m (s3) ρ)) rfl ⟨trivial, trivial, trivial⟩ ?_
    cases h
    exact ax_Lsub [1, 0] rfl (KEw42 _ rfl)
