theorem dX8_find_1 : decode cX8_find 1 = .ok (.iconst 0, 1) := by decide +kernel
theorem dX8_find_2 : decode cX8_find 2 = .ok (.putfield 87, 3) := by decide +kernel
theorem dX8_find_5 : decode cX8_find 5 = .ok (.aload_n 0, 1) := by decide +kernel
theorem dX8_find_6 : decode cX8_find 6 = .ok (.iconst 0, 1) := by decide +kernel
theorem dX8_find_7 : decode cX8_find 7 = .ok (.putfield 152, 3) := by decide +kernel
theorem dX8_find_10 : decode cX8_find 10 = .ok (.iconst 0, 1) := by decide +kernel
theorem dX8_find_11 : decode cX8_find 11 = .ok (.istore_n 1, 1) := by decide +kernel
theorem dX8_find_12 : decode cX8_find 12 = .ok (.iload_n 1, 1) := by decide +kernel
theorem dX8_find_13 : decode cX8_find 13 = .ok (.aload_n 0, 1) := by decide +kernel
theorem dX8_find_14 : decode cX8_find 14 = .ok (.getfield 108, 3) := by decide +kernel
theorem dX8_find_17 : decode cX8_find 17 = .ok (.if_icmp .ge 96, 3) := by decide +kernel
theorem dX8_find_20 : decode cX8_find 20 = .ok (.aload_n 0, 1) := by decide +kernel
theorem dX8_find_21 : decode cX8_find 21 = .ok (.getfield 69, 3) := by decide +kernel
theorem dX8_find_24 : decode cX8_find 24 = .ok (.iload_n 1, 1) := by decide +kernel
theorem dX8_find_25 : decode cX8_find 25 = .ok (.iconst (-1), 1) := by decide +kernel
theorem dX8_find_26 : decode cX8_find 26 = .ok (.iastore, 1) := by decide +kernel
theorem dX8_find_27 : decode cX8_find 27 = .ok (.aload_n 0, 1) := by decide +kernel
theorem dX8_find_28 : decode cX8_find 28 = .ok (.getfield 33, 3) := by decide +kernel
theorem dX8_find_31 : decode cX8_find 31 = .ok (.iload_n 1, 1) := by decide +kernel
theorem dX8_find_32 : decode cX8_find 32 = .ok (.iaload, 1) := by decide +kernel
theorem dX8_find_33 : decode cX8_find 33 = .ok (.ifCond .le 15, 3) := by decide +kernel
theorem dX8_find_36 : decode cX8_find 36 = .ok (.aload_n 0, 1) := by decide +kernel
theorem dX8_find_37 : decode cX8_find 37 = .ok (.iload_n 1, 1) := by decide +kernel
theorem dX8_find_38 : decode cX8_find 38 = .ok (.invokevirtual 135, 3) := by decide +kernel
theorem dX8_find_41 : decode cX8_find 41 = .ok (.ifCond .le 7, 3) := by decide +kernel
theorem dX8_find_44 : decode cX8_find 44 = .ok (.iconst 1, 1) := by decide +kernel
theorem dX8_find_45 : decode cX8_find 45 = .ok (.goto 4, 3) := by decide +kernel
theorem dX8_find_48 : decode cX8_find 48 = .ok (.iconst 0, 1) := by decide +kernel
theorem dX8_find_49 : decode cX8_find 49 = .ok (.istore_n 2, 1) := by decide +kernel
theorem dX8_find_50 : decode cX8_find 50 = .ok (.iconst 0, 1) := by decide +kernel
theorem dX8_find_51 : decode cX8_find 51 = .ok (.istore_n 3, 1) := by decide +kernel
theorem dX8_find_52 : decode cX8_find 52 = .ok (.iload_n 3, 1) := by decide +kernel
theorem dX8_find_53 : decode cX8_find 53 = .ok (.iload_n 1, 1) := by decide +kernel
theorem dX8_find_54 : decode cX8_find 54 = .ok (.if_icmp .gt 53, 3) := by decide +kernel
theorem dX8_find_57 : decode cX8_find 57 = .ok (.iload_n 2, 1) := by decide +kernel
theorem dX8_find_58 : decode cX8_find 58 = .ok (.ifCond .eq 49, 3) := by decide +kernel
theorem dX8_find_61 : decode cX8_find 61 = .ok (.aload_n 0, 1) := by decide +kernel
theorem dX8_find_62 : decode cX8_find 62 = .ok (.getfield 69, 3) := by decide +kernel
theorem dX8_find_65 : decode cX8_find 65 = .ok (.iload_n 1, 1) := by decide +kernel
theorem dX8_find_66 : decode cX8_find 66 = .ok (.iaload, 1) := by decide +kernel
theorem dX8_find_67 : decode cX8_find 67 = .ok (.iconst (-1), 1) := by decide +kernel
theorem dX8_find_68 : decode cX8_find 68 = .ok (.if_icmp .ne 39, 3) := by decide +kernel
theorem dX8_find_71 : decode cX8_find 71 = .ok (.aload_n 0, 1) := by decide +kernel
theorem dX8_find_72 : decode cX8_find 72 = .ok (.getfield 33, 3) := by decide +kernel
theorem dX8_find_75 : decode cX8_find 75 = .ok (.iload_n 3, 1) := by decide +kernel
theorem dX8_find_76 : decode cX8_find 76 = .ok (.iaload, 1) := by decide +kernel
theorem dX8_find_77 : decode cX8_find 77 = .ok (.aload_n 0, 1) := by decide +kernel
theorem dX8_find_78 : decode cX8_find 78 = .ok (.getfield 33, 3) := by decide +kernel
theorem dX8_find_81 : decode cX8_find 81 = .ok (.iload_n 1, 1) := by decide +kernel
theorem dX8_find_82 : decode cX8_find 82 = .ok (.iaload, 1) := by decide +kernel
theorem dX8_find_83 : decode cX8_find 83 = .ok (.if_icmp .ne 18, 3) := by decide +kernel
theorem dX8_find_86 : decode cX8_find 86 = .ok (.aload_n 0, 1) := by decide +kernel
theorem dX8_find_87 : decode cX8_find 87 = .ok (.iload_n 3, 1) := by decide +kernel
theorem dX8_find_88 : decode cX8_find 88 = .ok (.invokevirtual 135, 3) := by decide +kernel
theorem dX8_find_91 : decode cX8_find 91 = .ok (.ifCond .le 10, 3) := by decide +kernel
theorem dX8_find_94 : decode cX8_find 94 = .ok (.aload_n 0, 1) := by decide +kernel
theorem dX8_find_95 : decode cX8_find 95 = .ok (.getfield 69, 3) := by decide +kernel
theorem dX8_find_98 : decode cX8_find 98 = .ok (.iload_n 1, 1) := by decide +kernel
theorem dX8_find_99 : decode cX8_find 99 = .ok (.iload_n 3, 1) := by decide +kernel
theorem dX8_find_100 : decode cX8_find 100 = .ok (.iastore, 1) := by decide +kernel
theorem dX8_find_101 : decode cX8_find 101 = .ok (.iinc 3 1, 3) := by decide +kernel
theorem dX8_find_104 : decode cX8_find 104 = .ok (.goto (-52), 3) := by decide +kernel
theorem dX8_find_107 : decode cX8_find 107 = .ok (.iinc 1 1, 3) := by decide +kernel
theorem dX8_find_110 : decode cX8_find 110 = .ok (.goto (-98), 3) := by decide +kernel
theorem dX8_find_113 : decode cX8_find 113 = .ok (.aload_n 0, 1) := by decide +kernel
theorem dX8_find_114 : decode cX8_find 114 = .ok (.invokevirtual 155, 3) := by decide +kernel
theorem dX8_find_117 : decode cX8_find 117 = .ok (.iconst 0, 1) := by decide +kernel
theorem dX8_find_118 : decode cX8_find 118 = .ok (.istore_n 1, 1) := by decide +kernel
theorem dX8_find_119 : decode cX8_find 119 = .ok (.iload_n 1, 1) := by decide +kernel
theorem dX8_find_120 : decode cX8_find 120 = .ok (.bipush 64, 2) := by decide +kernel
theorem dX8_find_122 : decode cX8_find 122 = .ok (.if_icmp .ge 185, 3) := by decide +kernel
theorem dX8_find_125 : decode cX8_find 125 = .ok (.iconst 0, 1) := by decide +kernel
theorem dX8_find_126 : decode cX8_find 126 = .ok (.istore_n 2, 1) := by decide +kernel
theorem dX8_find_127 : decode cX8_find 127 = .ok (.iload_n 2, 1) := by decide +kernel
theorem dX8_find_128 : decode cX8_find 128 = .ok (.aload_n 0, 1) := by decide +kernel
theorem dX8_find_129 : decode cX8_find 129 = .ok (.getfield 108, 3) := by decide +kernel
theorem dX8_find_132 : decode cX8_find 132 = .ok (.if_icmp .ge 137, 3) := by decide +kernel
theorem dX8_find_135 : decode cX8_find 135 = .ok (.aload_n 0, 1) := by decide +kernel
theorem dX8_find_136 : decode cX8_find 136 = .ok (.getfield 69, 3) := by decide +kernel
theorem dX8_find_139 : decode cX8_find 139 = .ok (.iload_n 2, 1) := by decide +kernel
theorem dX8_find_140 : decode cX8_find 140 = .ok (.iaload, 1) := by decide +kernel
theorem dX8_find_141 : decode cX8_find 141 = .ok (.iconst (-1), 1) := by decide +kernel
theorem dX8_find_142 : decode cX8_find 142 = .ok (.if_icmp .eq 23, 3) := by decide +kernel
theorem dX8_find_145 : decode cX8_find 145 = .ok (.iload_n 1, 1) := by decide +kernel
theorem dX8_find_146 : decode cX8_find 146 = .ok (.aload_n 0, 1) := by decide +kernel
theorem dX8_find_147 : decode cX8_find 147 = .ok (.getfield 33, 3) := by decide +kernel
theorem dX8_find_150 : decode cX8_find 150 = .ok (.iload_n 2, 1) := by decide +kernel
theorem dX8_find_151 : decode cX8_find 151 = .ok (.iaload, 1) := by decide +kernel
theorem dX8_find_152 : decode cX8_find 152 = .ok (.if_icmp .ge 13, 3) := by decide +kernel
theorem dX8_find_155 : decode cX8_find 155 = .ok (.aload_n 0, 1) := by decide +kernel
theorem dX8_find_156 : decode cX8_find 156 = .ok (.dup, 1) := by decide +kernel
theorem dX8_find_157 : decode cX8_find 157 = .ok (.getfield 152, 3) := by decide +kernel
theorem dX8_find_160 : decode cX8_find 160 = .ok (.iconst 1, 1) := by decide +kernel
theorem dX8_find_161 : decode cX8_find 161 = .ok (.iadd, 1) := by decide +kernel
theorem dX8_find_162 : decode cX8_find 162 = .ok (.putfield 152, 3) := by decide +kernel
theorem dX8_find_165 : decode cX8_find 165 = .ok (.aload_n 0, 1) := by decide +kernel
theorem dX8_find_166 : decode cX8_find 166 = .ok (.getfield 72, 3) := by decide +kernel
theorem dX8_find_169 : decode cX8_find 169 = .ok (.iload_n 2, 1) := by decide +kernel
theorem dX8_find_170 : decode cX8_find 170 = .ok (.iconst (-1), 1) := by decide +kernel
theorem dX8_find_171 : decode cX8_find 171 = .ok (.iastore, 1) := by decide +kernel
theorem dX8_find_172 : decode cX8_find 172 = .ok (.iconst 0, 1) := by decide +kernel
theorem dX8_find_173 : decode cX8_find 173 = .ok (.istore_n 3, 1) := by decide +kernel
theorem dX8_find_174 : decode cX8_find 174 = .ok (.iload_n 3, 1) := by decide +kernel
theorem dX8_find_175 : decode cX8_find 175 = .ok (.iload_n 2, 1) := by decide +kernel
theorem dX8_find_176 : decode cX8_find 176 = .ok (.if_icmp .gt 87, 3) := by decide +kernel
theorem dX8_find_179 : decode cX8_find 179 = .ok (.aload_n 0, 1) := by decide +kernel
theorem dX8_find_180 : decode cX8_find 180 = .ok (.getfield 69, 3) := by decide +kernel
theorem dX8_find_183 : decode cX8_find 183 = .ok (.iload_n 2, 1) := by decide +kernel
theorem dX8_find_184 : decode cX8_find 184 = .ok (.iaload, 1) := by decide +kernel
theorem dX8_find_185 : decode cX8_find 185 = .ok (.iconst (-1), 1) := by decide +kernel
theorem dX8_find_186 : decode cX8_find 186 = .ok (.if_icmp .eq 77, 3) := by decide +kernel
theorem dX8_find_189 : decode cX8_find 189 = .ok (.aload_n 0, 1) := by decide +kernel
theorem dX8_find_190 : decode cX8_find 190 = .ok (.getfield 72, 3) := by decide +kernel
theorem dX8_find_193 : decode cX8_find 193 = .ok (.iload_n 2, 1) := by decide +kernel
theorem dX8_find_194 : decode cX8_find 194 = .ok (.iaload, 1) := by decide +kernel
theorem dX8_find_195 : decode cX8_find 195 = .ok (.iconst (-1), 1) := by decide +kernel
theorem dX8_find_196 : decode cX8_find 196 = .ok (.if_icmp .ne 67, 3) := by decide +kernel
theorem dX8_find_199 : decode cX8_find 199 = .ok (.aload_n 0, 1) := by decide +kernel
theorem dX8_find_200 : decode cX8_find 200 = .ok (.getfield 69, 3) := by decide +kernel
theorem dX8_find_203 : decode cX8_find 203 = .ok (.iload_n 3, 1) := by decide +kernel
theorem dX8_find_204 : decode cX8_find 204 = .ok (.iaload, 1) := by decide +kernel
theorem dX8_find_205 : decode cX8_find 205 = .ok (.aload_n 0, 1) := by decide +kernel
theorem dX8_find_206 : decode cX8_find 206 = .ok (.getfield 69, 3) := by decide +kernel
theorem dX8_find_209 : decode cX8_find 209 = .ok (.iload_n 2, 1) := by decide +kernel
theorem dX8_find_210 : decode cX8_find 210 = .ok (.iaload, 1) := by decide +kernel
theorem dX8_find_211 : decode cX8_find 211 = .ok (.if_icmp .ne 46, 3) := by decide +kernel
theorem dX8_find_214 : decode cX8_find 214 = .ok (.aload_n 0, 1) := by decide +kernel
theorem dX8_find_215 : decode cX8_find 215 = .ok (.iload_n 2, 1) := by decide +kernel
theorem dX8_find_216 : decode cX8_find 216 = .ok (.iload_n 3, 1) := by decide +kernel
theorem dX8_find_217 : decode cX8_find 217 = .ok (.iload_n 1, 1) := by decide +kernel
theorem dX8_find_218 : decode cX8_find 218 = .ok (.iload_n 1, 1) := by decide +kernel
theorem dX8_find_219 : decode cX8_find 219 = .ok (.bipush 8, 2) := by decide +kernel
theorem dX8_find_221 : decode cX8_find 221 = .ok (.iadd, 1) := by decide +kernel
theorem dX8_find_222 : decode cX8_find 222 = .ok (.aload_n 0, 1) := by decide +kernel
theorem dX8_find_223 : decode cX8_find 223 = .ok (.getfield 33, 3) := by decide +kernel
theorem dX8_find_226 : decode cX8_find 226 = .ok (.iload_n 2, 1) := by decide +kernel
theorem dX8_find_227 : decode cX8_find 227 = .ok (.iaload, 1) := by decide +kernel
theorem dX8_find_228 : decode cX8_find 228 = .ok (.if_icmp .ge 10, 3) := by decide +kernel
theorem dX8_find_231 : decode cX8_find 231 = .ok (.iload_n 1, 1) := by decide +kernel
theorem dX8_find_232 : decode cX8_find 232 = .ok (.bipush 8, 2) := by decide +kernel
theorem dX8_find_234 : decode cX8_find 234 = .ok (.iadd, 1) := by decide +kernel
theorem dX8_find_235 : decode cX8_find 235 = .ok (.goto 9, 3) := by decide +kernel
theorem dX8_find_238 : decode cX8_find 238 = .ok (.aload_n 0, 1) := by decide +kernel
theorem dX8_find_239 : decode cX8_find 239 = .ok (.getfield 33, 3) := by decide +kernel
theorem dX8_find_242 : decode cX8_find 242 = .ok (.iload_n 2, 1) := by decide +kernel
theorem dX8_find_243 : decode cX8_find 243 = .ok (.iaload, 1) := by decide +kernel
theorem dX8_find_244 : decode cX8_find 244 = .ok (.invokevirtual 158, 3) := by decide +kernel
theorem dX8_find_247 : decode cX8_find 247 = .ok (.ifCond .eq 10, 3) := by decide +kernel
theorem dX8_find_250 : decode cX8_find 250 = .ok (.aload_n 0, 1) := by decide +kernel
theorem dX8_find_251 : decode cX8_find 251 = .ok (.getfield 72, 3) := by decide +kernel
theorem dX8_find_254 : decode cX8_find 254 = .ok (.iload_n 2, 1) := by decide +kernel
theorem dX8_find_255 : decode cX8_find 255 = .ok (.iload_n 3, 1) := by decide +kernel
theorem dX8_find_256 : decode cX8_find 256 = .ok (.iastore, 1) := by decide +kernel
theorem dX8_find_257 : decode cX8_find 257 = .ok (.iinc 3 1, 3) := by decide +kernel
theorem dX8_find_260 : decode cX8_find 260 = .ok (.goto (-86), 3) := by decide +kernel
theorem dX8_find_263 : decode cX8_find 263 = .ok (.iinc 2 1, 3) := by decide +kernel
theorem dX8_find_266 : decode cX8_find 266 = .ok (.goto (-139), 3) := by decide +kernel
theorem dX8_find_269 : decode cX8_find 269 = .ok (.iconst 0, 1) := by decide +kernel
theorem dX8_find_270 : decode cX8_find 270 = .ok (.istore_n 2, 1) := by decide +kernel
theorem dX8_find_271 : decode cX8_find 271 = .ok (.iload_n 2, 1) := by decide +kernel
theorem dX8_find_272 : decode cX8_find 272 = .ok (.aload_n 0, 1) := by decide +kernel
theorem dX8_find_273 : decode cX8_find 273 = .ok (.getfield 108, 3) := by decide +kernel
theorem dX8_find_276 : decode cX8_find 276 = .ok (.if_icmp .ge 21, 3) := by decide +kernel
theorem dX8_find_279 : decode cX8_find 279 = .ok (.aload_n 0, 1) := by decide +kernel
theorem dX8_find_280 : decode cX8_find 280 = .ok (.getfield 69, 3) := by decide +kernel
theorem dX8_find_283 : decode cX8_find 283 = .ok (.iload_n 2, 1) := by decide +kernel
theorem dX8_find_284 : decode cX8_find 284 = .ok (.aload_n 0, 1) := by decide +kernel
theorem dX8_find_285 : decode cX8_find 285 = .ok (.getfield 72, 3) := by decide +kernel
theorem dX8_find_288 : decode cX8_find 288 = .ok (.iload_n 2, 1) := by decide +kernel
theorem dX8_find_289 : decode cX8_find 289 = .ok (.iaload, 1) := by decide +kernel
theorem dX8_find_290 : decode cX8_find 290 = .ok (.iastore, 1) := by decide +kernel
theorem dX8_find_291 : decode cX8_find 291 = .ok (.iinc 2 1, 3) := by decide +kernel
theorem dX8_find_294 : decode cX8_find 294 = .ok (.goto (-23), 3) := by decide +kernel
theorem dX8_find_297 : decode cX8_find 297 = .ok (.aload_n 0, 1) := by decide +kernel
theorem dX8_find_298 : decode cX8_find 298 = .ok (.invokevirtual 155, 3) := by decide +kernel
theorem dX8_find_301 : decode cX8_find 301 = .ok (.iinc 1 8, 3) := by decide +kernel
theorem dX8_find_304 : decode cX8_find 304 = .ok (.goto (-185), 3) := by decide +kernel
theorem dX8_find_307 : decode cX8_find 307 = .ok (.aload_n 0, 1) := by decide +kernel
theorem dX8_find_308 : decode cX8_find 308 = .ok (.iconst 0, 1) := by decide +kernel
theorem dX8_find_309 : decode cX8_find 309 = .ok (.putfield 162, 3) := by decide +kernel
theorem dX8_find_312 : decode cX8_find 312 = .ok (.iconst 0, 1) := by decide +kernel
theorem dX8_find_313 : decode cX8_find 313 = .ok (.istore_n 1, 1) := by decide +kernel
theorem dX8_find_314 : decode cX8_find 314 = .ok (.iload_n 1, 1) := by decide +kernel
theorem dX8_find_315 : decode cX8_find 315 = .ok (.aload_n 0, 1) := by decide +kernel
theorem dX8_find_316 : decode cX8_find 316 = .ok (.getfield 108, 3) := by decide +kernel
theorem dX8_find_319 : decode cX8_find 319 = .ok (.if_icmp .ge 77, 3) := by decide +kernel
theorem dX8_find_322 : decode cX8_find 322 = .ok (.aload_n 0, 1) := by decide +kernel
theorem dX8_find_323 : decode cX8_find 323 = .ok (.getfield 42, 3) := by decide +kernel
theorem dX8_find_326 : decode cX8_find 326 = .ok (.iload_n 1, 1) := by decide +kernel
theorem dX8_find_327 : decode cX8_find 327 = .ok (.aload_n 0, 1) := by decide +kernel
theorem dX8_find_328 : decode cX8_find 328 = .ok (.getfield 69, 3) := by decide +kernel
theorem dX8_find_331 : decode cX8_find 331 = .ok (.iload_n 1, 1) := by decide +kernel
theorem dX8_find_332 : decode cX8_find 332 = .ok (.iaload, 1) := by decide +kernel
theorem dX8_find_333 : decode cX8_find 333 = .ok (.iconst (-1), 1) := by decide +kernel
theorem dX8_find_334 : decode cX8_find 334 = .ok (.if_icmp .ne 7, 3) := by decide +kernel
theorem dX8_find_337 : decode cX8_find 337 = .ok (.iconst (-1), 1) := by decide +kernel
theorem dX8_find_338 : decode cX8_find 338 = .ok (.goto 31, 3) := by decide +kernel
theorem dX8_find_341 : decode cX8_find 341 = .ok (.aload_n 0, 1) := by decide +kernel
theorem dX8_find_342 : decode cX8_find 342 = .ok (.getfield 69, 3) := by decide +kernel
theorem dX8_find_345 : decode cX8_find 345 = .ok (.iload_n 1, 1) := by decide +kernel
theorem dX8_find_346 : decode cX8_find 346 = .ok (.iaload, 1) := by decide +kernel
theorem dX8_find_347 : decode cX8_find 347 = .ok (.iload_n 1, 1) := by decide +kernel
theorem dX8_find_348 : decode cX8_find 348 = .ok (.if_icmp .ne 10, 3) := by decide +kernel
theorem dX8_find_351 : decode cX8_find 351 = .ok (.aload_n 0, 1) := by decide +kernel
theorem dX8_find_352 : decode cX8_find 352 = .ok (.getfield 162, 3) := by decide +kernel
theorem dX8_find_355 : decode cX8_find 355 = .ok (.goto 14, 3) := by decide +kernel
theorem dX8_find_358 : decode cX8_find 358 = .ok (.aload_n 0, 1) := by decide +kernel
theorem dX8_find_359 : decode cX8_find 359 = .ok (.getfield 42, 3) := by decide +kernel
theorem dX8_find_362 : decode cX8_find 362 = .ok (.aload_n 0, 1) := by decide +kernel
theorem dX8_find_363 : decode cX8_find 363 = .ok (.getfield 69, 3) := by decide +kernel
theorem dX8_find_366 : decode cX8_find 366 = .ok (.iload_n 1, 1) := by decide +kernel
theorem dX8_find_367 : decode cX8_find 367 = .ok (.iaload, 1) := by decide +kernel
theorem dX8_find_368 : decode cX8_find 368 = .ok (.iaload, 1) := by decide +kernel
theorem dX8_find_369 : decode cX8_find 369 = .ok (.iastore, 1) := by decide +kernel
theorem dX8_find_370 : decode cX8_find 370 = .ok (.aload_n 0, 1) := by decide +kernel
theorem dX8_find_371 : decode cX8_find 371 = .ok (.getfield 69, 3) := by decide +kernel
theorem dX8_find_374 : decode cX8_find 374 = .ok (.iload_n 1, 1) := by decide +kernel
theorem dX8_find_375 : decode cX8_find 375 = .ok (.iaload, 1) := by decide +kernel
theorem dX8_find_376 : decode cX8_find 376 = .ok (.iload_n 1, 1) := by decide +kernel
theorem dX8_find_377 : decode cX8_find 377 = .ok (.if_icmp .ne 13, 3) := by decide +kernel
theorem dX8_find_380 : decode cX8_find 380 = .ok (.aload_n 0, 1) := by decide +kernel
theorem dX8_find_381 : decode cX8_find 381 = .ok (.dup, 1) := by decide +kernel
theorem dX8_find_382 : decode cX8_find 382 = .ok (.getfield 162, 3) := by decide +kernel
theorem dX8_find_385 : decode cX8_find 385 = .ok (.iconst 1, 1) := by decide +kernel
theorem dX8_find_386 : decode cX8_find 386 = .ok (.iadd, 1) := by decide +kernel
theorem dX8_find_387 : decode cX8_find 387 = .ok (.putfield 162, 3) := by decide +kernel
theorem dX8_find_390 : decode cX8_find 390 = .ok (.iinc 1 1, 3) := by decide +kernel
theorem dX8_find_393 : decode cX8_find 393 = .ok (.goto (-79), 3) := by decide +kernel
theorem dX8_find_396 : decode cX8_find 396 = .ok (.aload_n 0, 1) := by decide +kernel
theorem dX8_find_397 : decode cX8_find 397 = .ok (.getfield 162, 3) := by decide +kernel
theorem dX8_find_400 : decode cX8_find 400 = .ok (.ireturn, 1) := by decide +kernel
theorem dX8_reads_0 : decode cX8_reads 0 = .ok (.aload_n 0, 1) := by decide +kernel
theorem dX8_reads_1 : decode cX8_reads 1 = .ok (.iconst 0, 1) := by decide +kernel
theorem dX8_reads_2 : decode cX8_reads 2 = .ok (.putfield 87, 3) := by decide +kernel
theorem dX8_reads_5 : decode cX8_reads 5 = .ok (.aload_n 0, 1) := by decide +kernel
theorem dX8_reads_6 : decode cX8_reads 6 = .ok (.getfield 152, 3) := by decide +kernel
theorem dX8_reads_9 : decode cX8_reads 9 = .ok (.ireturn, 1) := by decide +kernel
set_option maxRecDepth 20000 in
theorem ggX8_groupOf_X8_isFile : GoodIn wsX8_groupOf wsX8_isFile := goodIn_r _ [7, 8, 9, 10, 11, 12, 13, 6, 14, 15, 16, 17, 18, 19, 20, 21, 22, 23, 24, 25, 26, 27, 28, 29, 30, 31, 32, 33, 34, 35, 36, 37, 38, 39, 40, 41, 42, 43, 44, 45, 46, 47, 48] (by decide +kernel) (by decide +kernel)
set_option maxRecDepth 20000 in
theorem gX8_groupOf_X8_isFile : GoodIn wsX8_groupOf (wsV RX8 128 RX8 yX8_isFile wsX8_isFile) := goodIn_app (goodIn_of _ (by decide +kernel)) ggX8_groupOf_X8_isFile
theorem dX8_groupOf_0 : decode cX8_groupOf 0 = .ok (.aload_n 0, 1) := by decide +kernel
theorem dX8_groupOf_1 : decode cX8_groupOf 1 = .ok (.iload_n 1, 1) := by decide +kernel
theorem dX8_groupOf_2 : decode cX8_groupOf 2 = .ok (.invokevirtual 128, 3) := by decide +kernel
theorem dX8_groupOf_5 : decode cX8_groupOf 5 = .ok (.ifCond .eq 17, 3) := by decide +kernel
theorem dX8_groupOf_8 : decode cX8_groupOf 8 = .ok (.aload_n 0, 1) := by decide +kernel
theorem dX8_groupOf_9 : decode cX8_groupOf 9 = .ok (.getfield 42, 3) := by decide +kernel
theorem dX8_groupOf_12 : decode cX8_groupOf 12 = .ok (.aload_n 0, 1) := by decide +kernel
theorem dX8_groupOf_13 : decode cX8_groupOf 13 = .ok (.getfield 26, 3) := by decide +kernel
theorem dX8_groupOf_16 : decode cX8_groupOf 16 = .ok (.iload_n 1, 1) := by decide +kernel
theorem dX8_groupOf_17 : decode cX8_groupOf 17 = .ok (.iaload, 1) := by decide +kernel
theorem dX8_groupOf_18 : decode cX8_groupOf 18 = .ok (.iaload, 1) := by decide +kernel
theorem dX8_groupOf_19 : decode cX8_groupOf 19 = .ok (.goto 4, 3) := by decide +kernel
theorem dX8_groupOf_22 : decode cX8_groupOf 22 = .ok (.iconst 0, 1) := by decide +kernel
theorem dX8_groupOf_23 : decode cX8_groupOf 23 = .ok (.ireturn, 1) := by decide +kernel
set_option maxRecDepth 20000 in
theorem ggX8_isGroup_X8_right : GoodIn wsX8_isGroup wsX8_right := goodIn_r _ [7, 1, 8, 9, 10, 11, 12, 13, 14, 15, 16, 17, 18, 19, 20, 21, 22, 23, 24, 25, 26, 27, 28, 29, 30, 31, 32, 33, 34, 35, 36, 37, 38, 39, 40, 41] (by decide +kernel) (by decide +kernel)
set_option maxRecDepth 20000 in
theorem gX8_isGroup_X8_right : GoodIn wsX8_isGroup (wsV RX8 90 RX8 yX8_right wsX8_right) := goodIn_app (goodIn_of _ (by decide +kernel)) ggX8_isGroup_X8_right
theorem dX8_isGroup_0 : decode cX8_isGroup 0 = .ok (.aload_n 0, 1) := by decide +kernel
theorem dX8_isGroup_1 : decode cX8_isGroup 1 = .ok (.iconst 0, 1) := by decide +kernel
theorem dX8_isGroup_2 : decode cX8_isGroup 2 = .ok (.putfield 87, 3) := by decide +kernel
theorem dX8_isGroup_5 : decode cX8_isGroup 5 = .ok (.aload_n 0, 1) := by decide +kernel
theorem dX8_isGroup_6 : decode cX8_isGroup 6 = .ok (.iload_n 1, 1) := by decide +kernel
theorem dX8_isGroup_7 : decode cX8_isGroup 7 = .ok (.ifCond .lt 15, 3) := by decide +kernel
theorem dX8_isGroup_10 : decode cX8_isGroup 10 = .ok (.iload_n 1, 1) := by decide +kernel
theorem dX8_isGroup_11 : decode cX8_isGroup 11 = .ok (.aload_n 0, 1) := by decide +kernel
theorem dX8_isGroup_12 : decode cX8_isGroup 12 = .ok (.getfield 162, 3) := by decide +kernel
theorem dX8_isGroup_15 : decode cX8_isGroup 15 = .ok (.if_icmp .ge 7, 3) := by decide +kernel
theorem dX8_isGroup_18 : decode cX8_isGroup 18 = .ok (.iconst 1, 1) := by decide +kernel
theorem dX8_isGroup_19 : decode cX8_isGroup 19 = .ok (.goto 4, 3) := by decide +kernel
theorem dX8_isGroup_22 : decode cX8_isGroup 22 = .ok (.iconst 0, 1) := by decide +kernel
theorem dX8_isGroup_23 : decode cX8_isGroup 23 = .ok (.iconst 1, 1) := by decide +kernel
theorem dX8_isGroup_24 : decode cX8_isGroup 24 = .ok (.invokevirtual 90, 3) := by decide +kernel
theorem dX8_isGroup_27 : decode cX8_isGroup 27 = .ok (.ireturn, 1) := by decide +kernel
theorem dX8_isMember_0 : decode cX8_isMember 0 = .ok (.aload_n 0, 1) := by decide +kernel
theorem dX8_isMember_1 : decode cX8_isMember 1 = .ok (.getfield 20, 3) := by decide +kernel
theorem dX8_isMember_4 : decode cX8_isMember 4 = .ok (.iload_n 2, 1) := by decide +kernel
theorem dX8_isMember_5 : decode cX8_isMember 5 = .ok (.iaload, 1) := by decide +kernel
theorem dX8_isMember_6 : decode cX8_isMember 6 = .ok (.iconst (-1), 1) := by decide +kernel
theorem dX8_isMember_7 : decode cX8_isMember 7 = .ok (.if_icmp .eq 22, 3) := by decide +kernel
theorem dX8_isMember_10 : decode cX8_isMember 10 = .ok (.aload_n 0, 1) := by decide +kernel
theorem dX8_isMember_11 : decode cX8_isMember 11 = .ok (.getfield 42, 3) := by decide +kernel
theorem dX8_isMember_14 : decode cX8_isMember 14 = .ok (.aload_n 0, 1) := by decide +kernel
theorem dX8_isMember_15 : decode cX8_isMember 15 = .ok (.getfield 26, 3) := by decide +kernel
theorem dX8_isMember_18 : decode cX8_isMember 18 = .ok (.iload_n 2, 1) := by decide +kernel
theorem dX8_isMember_19 : decode cX8_isMember 19 = .ok (.iaload, 1) := by decide +kernel
theorem dX8_isMember_20 : decode cX8_isMember 20 = .ok (.iaload, 1) := by decide +kernel
theorem dX8_isMember_21 : decode cX8_isMember 21 = .ok (.iload_n 1, 1) := by decide +kernel
theorem dX8_isMember_22 : decode cX8_isMember 22 = .ok (.if_icmp .ne 7, 3) := by decide +kernel
theorem dX8_isMember_25 : decode cX8_isMember 25 = .ok (.iconst 1, 1) := by decide +kernel
theorem dX8_isMember_26 : decode cX8_isMember 26 = .ok (.goto 4, 3) := by decide +kernel
theorem dX8_isMember_29 : decode cX8_isMember 29 = .ok (.iconst 0, 1) := by decide +kernel
theorem dX8_isMember_30 : decode cX8_isMember 30 = .ok (.ireturn, 1) := by decide +kernel
set_option maxRecDepth 20000 in
theorem ggX8_member_X8_isGroup : GoodIn wsX8_member wsX8_isGroup := goodIn_r _ [6, 7, 8, 9, 10, 11, 5, 12, 20, 21, 22, 23, 24, 25, 26, 27, 28, 29, 30, 31, 32, 33, 34, 35, 36, 37, 38, 39, 40, 41, 42, 43, 44, 45, 46, 47, 48, 49, 50, 51, 52, 53] (by decide +kernel) (by decide +kernel)
set_option maxRecDepth 20000 in
theorem gX8_member_X8_isGroup : GoodIn wsX8_member (wsV RX8 165 RX8 yX8_isGroup wsX8_isGroup) := goodIn_app (goodIn_of _ (by decide +kernel)) ggX8_member_X8_isGroup
set_option maxRecDepth 20000 in
theorem ggX8_member_X8_isMember : GoodIn wsX8_member wsX8_isMember := goodIn_r _ [16, 17, 18, 19, 20, 21, 22, 23, 24, 25, 26, 27, 28, 29, 30, 31, 32, 33, 34, 35, 36, 37, 38, 39, 40, 41, 42, 43, 44, 45, 46, 47, 48, 49, 50, 51, 52, 53] (by decide +kernel) (by decide +kernel)
set_option maxRecDepth 20000 in
theorem gX8_member_X8_isMember : GoodIn wsX8_member (wsV RX8 168 RX8 yX8_isMember wsX8_isMember) := goodIn_app (goodIn_of _ (by decide +kernel)) ggX8_member_X8_isMember
set_option maxRecDepth 20000 in
theorem ggX8_member_X8_right : GoodIn wsX8_member wsX8_right := goodIn_r _ [12, 7, 20, 21, 22, 23, 24, 25, 26, 27, 28, 29, 30, 31, 32, 33, 34, 35, 36, 37, 38, 39, 40, 41, 42, 43, 44, 45, 46, 47, 48, 49, 50, 51, 52, 53] (by decide +kernel) (by decide +kernel)
set_option maxRecDepth 20000 in
theorem gX8_member_X8_right : GoodIn wsX8_member (wsV RX8 90 RX8 yX8_right wsX8_right) := goodIn_app (goodIn_of _ (by decide +kernel)) ggX8_member_X8_right
theorem dX8_member_0 : decode cX8_member 0 = .ok (.aload_n 0, 1) := by decide +kernel
theorem dX8_member_1 : decode cX8_member 1 = .ok (.iload_n 1, 1) := by decide +kernel
theorem dX8_member_2 : decode cX8_member 2 = .ok (.invokevirtual 165, 3) := by decide +kernel
theorem dX8_member_5 : decode cX8_member 5 = .ok (.ifCond .ne 5, 3) := by decide +kernel
theorem dX8_member_8 : decode cX8_member 8 = .ok (.iconst 0, 1) := by decide +kernel
theorem dX8_member_9 : decode cX8_member 9 = .ok (.ireturn, 1) := by decide +kernel
theorem dX8_member_10 : decode cX8_member 10 = .ok (.iconst 0, 1) := by decide +kernel
theorem dX8_member_11 : decode cX8_member 11 = .ok (.istore_n 3, 1) := by decide +kernel
theorem dX8_member_12 : decode cX8_member 12 = .ok (.iconst 0, 1) := by decide +kernel
theorem dX8_member_13 : decode cX8_member 13 = .ok (.istore 4, 2) := by decide +kernel
theorem dX8_member_15 : decode cX8_member 15 = .ok (.iload 4, 2) := by decide +kernel
theorem dX8_member_17 : decode cX8_member 17 = .ok (.aload_n 0, 1) := by decide +kernel
theorem dX8_member_18 : decode cX8_member 18 = .ok (.getfield 94, 3) := by decide +kernel
theorem dX8_member_21 : decode cX8_member 21 = .ok (.if_icmp .ge 33, 3) := by decide +kernel
theorem dX8_member_24 : decode cX8_member 24 = .ok (.aload_n 0, 1) := by decide +kernel
theorem dX8_member_25 : decode cX8_member 25 = .ok (.iload_n 1, 1) := by decide +kernel
theorem dX8_member_26 : decode cX8_member 26 = .ok (.iload 4, 2) := by decide +kernel
theorem dX8_member_28 : decode cX8_member 28 = .ok (.invokevirtual 168, 3) := by decide +kernel
theorem dX8_member_31 : decode cX8_member 31 = .ok (.ifCond .ne 6, 3) := by decide +kernel
theorem dX8_member_34 : decode cX8_member 34 = .ok (.goto 14, 3) := by decide +kernel
theorem dX8_member_37 : decode cX8_member 37 = .ok (.iload_n 3, 1) := by decide +kernel
theorem dX8_member_38 : decode cX8_member 38 = .ok (.iload_n 2, 1) := by decide +kernel
theorem dX8_member_39 : decode cX8_member 39 = .ok (.if_icmp .ne 6, 3) := by decide +kernel
theorem dX8_member_42 : decode cX8_member 42 = .ok (.iload 4, 2) := by decide +kernel
theorem dX8_member_44 : decode cX8_member 44 = .ok (.ireturn, 1) := by decide +kernel
theorem dX8_member_45 : decode cX8_member 45 = .ok (.iinc 3 1, 3) := by decide +kernel
theorem dX8_member_48 : decode cX8_member 48 = .ok (.iinc 4 1, 3) := by decide +kernel
theorem dX8_member_51 : decode cX8_member 51 = .ok (.goto (-36), 3) := by decide +kernel
theorem dX8_member_54 : decode cX8_member 54 = .ok (.aload_n 0, 1) := by decide +kernel
theorem dX8_member_55 : decode cX8_member 55 = .ok (.iload_n 2, 1) := by decide +kernel
theorem dX8_member_56 : decode cX8_member 56 = .ok (.iconst (-1), 1) := by decide +kernel
theorem dX8_member_57 : decode cX8_member 57 = .ok (.if_icmp .ne 7, 3) := by decide +kernel
theorem dX8_member_60 : decode cX8_member 60 = .ok (.iconst 1, 1) := by decide +kernel
theorem dX8_member_61 : decode cX8_member 61 = .ok (.goto 4, 3) := by decide +kernel
theorem dX8_member_64 : decode cX8_member 64 = .ok (.iconst 0, 1) := by decide +kernel
theorem dX8_member_65 : decode cX8_member 65 = .ok (.iconst 1, 1) := by decide +kernel
theorem dX8_member_66 : decode cX8_member 66 = .ok (.invokevirtual 90, 3) := by decide +kernel
theorem dX8_member_69 : decode cX8_member 69 = .ok (.ifCond .eq 7, 3) := by decide +kernel
theorem dX8_member_72 : decode cX8_member 72 = .ok (.iload_n 3, 1) := by decide +kernel
theorem dX8_member_73 : decode cX8_member 73 = .ok (.goto 4, 3) := by decide +kernel
theorem dX8_member_76 : decode cX8_member 76 = .ok (.iconst 0, 1) := by decide +kernel
theorem dX8_member_77 : decode cX8_member 77 = .ok (.ireturn, 1) := by decide +kernel
theorem dX8_piece_0 : decode cX8_piece 0 = .ok (.iconst 0, 1) := by decide +kernel
theorem dX8_piece_1 : decode cX8_piece 1 = .ok (.istore_n 3, 1) := by decide +kernel
theorem dX8_piece_2 : decode cX8_piece 2 = .ok (.iconst 0, 1) := by decide +kernel
theorem dX8_piece_3 : decode cX8_piece 3 = .ok (.istore 4, 2) := by decide +kernel
theorem dX8_piece_5 : decode cX8_piece 5 = .ok (.iload 4, 2) := by decide +kernel
theorem dX8_piece_7 : decode cX8_piece 7 = .ok (.iconst 4, 1) := by decide +kernel
theorem dX8_piece_8 : decode cX8_piece 8 = .ok (.if_icmp .ge 29, 3) := by decide +kernel
theorem dX8_piece_11 : decode cX8_piece 11 = .ok (.iload_n 3, 1) := by decide +kernel
theorem dX8_piece_12 : decode cX8_piece 12 = .ok (.bipush 8, 2) := by decide +kernel
theorem dX8_piece_14 : decode cX8_piece 14 = .ok (.ishl, 1) := by decide +kernel
theorem dX8_piece_15 : decode cX8_piece 15 = .ok (.aload_n 0, 1) := by decide +kernel
theorem dX8_piece_16 : decode cX8_piece 16 = .ok (.getfield 45, 3) := by decide +kernel
theorem dX8_piece_19 : decode cX8_piece 19 = .ok (.bipush 64, 2) := by decide +kernel
theorem dX8_piece_21 : decode cX8_piece 21 = .ok (.iload_n 1, 1) := by decide +kernel
theorem dX8_piece_22 : decode cX8_piece 22 = .ok (.imul, 1) := by decide +kernel
theorem dX8_piece_23 : decode cX8_piece 23 = .ok (.iload_n 2, 1) := by decide +kernel
theorem dX8_piece_24 : decode cX8_piece 24 = .ok (.iadd, 1) := by decide +kernel
theorem dX8_piece_25 : decode cX8_piece 25 = .ok (.iload 4, 2) := by decide +kernel
theorem dX8_piece_27 : decode cX8_piece 27 = .ok (.iadd, 1) := by decide +kernel
theorem dX8_piece_28 : decode cX8_piece 28 = .ok (.iaload, 1) := by decide +kernel
theorem dX8_piece_29 : decode cX8_piece 29 = .ok (.ior, 1) := by decide +kernel
theorem dX8_piece_30 : decode cX8_piece 30 = .ok (.istore_n 3, 1) := by decide +kernel
theorem dX8_piece_31 : decode cX8_piece 31 = .ok (.iinc 4 1, 3) := by decide +kernel
theorem dX8_piece_34 : decode cX8_piece 34 = .ok (.goto (-29), 3) := by decide +kernel
theorem dX8_piece_37 : decode cX8_piece 37 = .ok (.iload_n 3, 1) := by decide +kernel
theorem dX8_piece_38 : decode cX8_piece 38 = .ok (.ireturn, 1) := by decide +kernel
set_option maxRecDepth 20000 in
theorem ggX8_has_X8_piece : GoodIn wsX8_has wsX8_piece := goodIn_r _ [5, 6, 7, 8, 9, 10, 11, 12, 13, 14, 15, 16, 17, 18, 19, 20, 21, 22, 23, 24, 25, 26, 27, 28, 29, 30, 31, 32, 33, 34, 35, 36, 37, 38, 39, 40] (by decide +kernel) (by decide +kernel)
set_option maxRecDepth 20000 in
theorem gX8_has_X8_piece : GoodIn wsX8_has (wsV RX8 171 RX8 yX8_piece wsX8_piece) := goodIn_app (goodIn_of _ (by decide +kernel)) ggX8_has_X8_piece
theorem dX8_has_0 : decode cX8_has 0 = .ok (.iconst 0, 1) := by decide +kernel
theorem dX8_has_1 : decode cX8_has 1 = .ok (.istore 4, 2) := by decide +kernel
theorem dX8_has_3 : decode cX8_has 3 = .ok (.iload 4, 2) := by decide +kernel
theorem dX8_has_5 : decode cX8_has 5 = .ok (.iload_n 3, 1) := by decide +kernel
theorem dX8_has_6 : decode cX8_has 6 = .ok (.if_icmp .ge 22, 3) := by decide +kernel
theorem dX8_has_9 : decode cX8_has 9 = .ok (.aload_n 0, 1) := by decide +kernel
theorem dX8_has_10 : decode cX8_has 10 = .ok (.iload_n 1, 1) := by decide +kernel
theorem dX8_has_11 : decode cX8_has 11 = .ok (.iload 4, 2) := by decide +kernel
theorem dX8_has_13 : decode cX8_has 13 = .ok (.invokevirtual 171, 3) := by decide +kernel
theorem dX8_has_16 : decode cX8_has 16 = .ok (.iload_n 2, 1) := by decide +kernel
theorem dX8_has_17 : decode cX8_has 17 = .ok (.if_icmp .ne 5, 3) := by decide +kernel
theorem dX8_has_20 : decode cX8_has 20 = .ok (.iconst 1, 1) := by decide +kernel
theorem dX8_has_21 : decode cX8_has 21 = .ok (.ireturn, 1) := by decide +kernel
theorem dX8_has_22 : decode cX8_has 22 = .ok (.iinc 4 1, 3) := by decide +kernel
theorem dX8_has_25 : decode cX8_has 25 = .ok (.goto (-22), 3) := by decide +kernel
theorem dX8_has_28 : decode cX8_has 28 = .ok (.iconst 0, 1) := by decide +kernel
theorem dX8_has_29 : decode cX8_has 29 = .ok (.ireturn, 1) := by decide +kernel
theorem dX8_pieces_0 : decode cX8_pieces 0 = .ok (.aload_n 0, 1) := by decide +kernel
theorem dX8_pieces_1 : decode cX8_pieces 1 = .ok (.getfield 33, 3) := by decide +kernel
theorem dX8_pieces_4 : decode cX8_pieces 4 = .ok (.iload_n 1, 1) := by decide +kernel
theorem dX8_pieces_5 : decode cX8_pieces 5 = .ok (.iaload, 1) := by decide +kernel
theorem dX8_pieces_6 : decode cX8_pieces 6 = .ok (.iconst 4, 1) := by decide +kernel
theorem dX8_pieces_7 : decode cX8_pieces 7 = .ok (.if_icmp .ge 7, 3) := by decide +kernel
theorem dX8_pieces_10 : decode cX8_pieces 10 = .ok (.iconst 0, 1) := by decide +kernel
theorem dX8_pieces_11 : decode cX8_pieces 11 = .ok (.goto 11, 3) := by decide +kernel
theorem dX8_pieces_14 : decode cX8_pieces 14 = .ok (.aload_n 0, 1) := by decide +kernel
theorem dX8_pieces_15 : decode cX8_pieces 15 = .ok (.getfield 33, 3) := by decide +kernel
theorem dX8_pieces_18 : decode cX8_pieces 18 = .ok (.iload_n 1, 1) := by decide +kernel
theorem dX8_pieces_19 : decode cX8_pieces 19 = .ok (.iaload, 1) := by decide +kernel
theorem dX8_pieces_20 : decode cX8_pieces 20 = .ok (.iconst 3, 1) := by decide +kernel
theorem dX8_pieces_21 : decode cX8_pieces 21 = .ok (.isub, 1) := by decide +kernel
theorem dX8_pieces_22 : decode cX8_pieces 22 = .ok (.ireturn, 1) := by decide +kernel
set_option maxRecDepth 20000 in
theorem ggX8_nearOf_X8_pieces : GoodIn wsX8_nearOf wsX8_pieces := goodIn_r _ [5, 6, 16, 17, 18, 19, 20, 21, 22, 23, 24, 25, 26, 27, 28, 29, 30, 31, 32, 33, 34, 35, 36, 37, 38, 39, 40, 41, 42, 43, 44, 45, 46, 47, 48, 49] (by decide +kernel) (by decide +kernel)
set_option maxRecDepth 20000 in
theorem gX8_nearOf_X8_pieces : GoodIn wsX8_nearOf (wsV RX8 174 RX8 yX8_pieces wsX8_pieces) := goodIn_app (goodIn_of _ (by decide +kernel)) ggX8_nearOf_X8_pieces
set_option maxRecDepth 20000 in
theorem ggX8_nearOf_X8_piece : GoodIn wsX8_nearOf wsX8_piece := goodIn_r _ [10, 11, 16, 17, 18, 19, 20, 21, 22, 23, 24, 25, 26, 27, 28, 29, 30, 31, 32, 33, 34, 35, 36, 37, 38, 39, 40, 41, 42, 43, 44, 45, 46, 47, 48, 49] (by decide +kernel) (by decide +kernel)
set_option maxRecDepth 20000 in
theorem gX8_nearOf_X8_piece : GoodIn wsX8_nearOf (wsV RX8 171 RX8 yX8_piece wsX8_piece) := goodIn_app (goodIn_of _ (by decide +kernel)) ggX8_nearOf_X8_piece
set_option maxRecDepth 20000 in
theorem ggX8_nearOf_X8_has : GoodIn wsX8_nearOf wsX8_has := goodIn_r _ [15, 7, 8, 9, 4, 10, 11, 16, 17, 18, 19, 20, 21, 22, 23, 24, 25, 26, 27, 28, 29, 30, 31, 32, 33, 34, 35, 36, 37, 38, 39, 40, 41, 42, 43, 44, 45, 46, 47, 48, 49] (by decide +kernel) (by decide +kernel)
set_option maxRecDepth 20000 in
theorem gX8_nearOf_X8_has : GoodIn wsX8_nearOf (wsV RX8 177 RX8 yX8_has wsX8_has) := goodIn_app (goodIn_of _ (by decide +kernel)) ggX8_nearOf_X8_has
theorem dX8_nearOf_0 : decode cX8_nearOf 0 = .ok (.iconst 0, 1) := by decide +kernel
theorem dX8_nearOf_1 : decode cX8_nearOf 1 = .ok (.istore_n 3, 1) := by decide +kernel
theorem dX8_nearOf_2 : decode cX8_nearOf 2 = .ok (.iconst 0, 1) := by decide +kernel
theorem dX8_nearOf_3 : decode cX8_nearOf 3 = .ok (.istore 4, 2) := by decide +kernel
theorem dX8_nearOf_5 : decode cX8_nearOf 5 = .ok (.iconst 0, 1) := by decide +kernel
theorem dX8_nearOf_6 : decode cX8_nearOf 6 = .ok (.istore 5, 2) := by decide +kernel
theorem dX8_nearOf_8 : decode cX8_nearOf 8 = .ok (.iload 5, 2) := by decide +kernel
theorem dX8_nearOf_10 : decode cX8_nearOf 10 = .ok (.aload_n 0, 1) := by decide +kernel
theorem dX8_nearOf_11 : decode cX8_nearOf 11 = .ok (.iload_n 1, 1) := by decide +kernel
theorem dX8_nearOf_12 : decode cX8_nearOf 12 = .ok (.invokevirtual 174, 3) := by decide +kernel
theorem dX8_nearOf_15 : decode cX8_nearOf 15 = .ok (.if_icmp .ge 55, 3) := by decide +kernel
theorem dX8_nearOf_18 : decode cX8_nearOf 18 = .ok (.aload_n 0, 1) := by decide +kernel
theorem dX8_nearOf_19 : decode cX8_nearOf 19 = .ok (.iload_n 1, 1) := by decide +kernel
theorem dX8_nearOf_20 : decode cX8_nearOf 20 = .ok (.aload_n 0, 1) := by decide +kernel
theorem dX8_nearOf_21 : decode cX8_nearOf 21 = .ok (.iload_n 1, 1) := by decide +kernel
theorem dX8_nearOf_22 : decode cX8_nearOf 22 = .ok (.iload 5, 2) := by decide +kernel
theorem dX8_nearOf_24 : decode cX8_nearOf 24 = .ok (.invokevirtual 171, 3) := by decide +kernel
theorem dX8_nearOf_27 : decode cX8_nearOf 27 = .ok (.iload 5, 2) := by decide +kernel
theorem dX8_nearOf_29 : decode cX8_nearOf 29 = .ok (.invokevirtual 177, 3) := by decide +kernel
theorem dX8_nearOf_32 : decode cX8_nearOf 32 = .ok (.ifCond .eq 6, 3) := by decide +kernel
theorem dX8_nearOf_35 : decode cX8_nearOf 35 = .ok (.goto 29, 3) := by decide +kernel
theorem dX8_nearOf_38 : decode cX8_nearOf 38 = .ok (.iinc 4 1, 3) := by decide +kernel
theorem dX8_nearOf_41 : decode cX8_nearOf 41 = .ok (.aload_n 0, 1) := by decide +kernel
theorem dX8_nearOf_42 : decode cX8_nearOf 42 = .ok (.iload_n 2, 1) := by decide +kernel
theorem dX8_nearOf_43 : decode cX8_nearOf 43 = .ok (.aload_n 0, 1) := by decide +kernel
theorem dX8_nearOf_44 : decode cX8_nearOf 44 = .ok (.iload_n 1, 1) := by decide +kernel
theorem dX8_nearOf_45 : decode cX8_nearOf 45 = .ok (.iload 5, 2) := by decide +kernel
theorem dX8_nearOf_47 : decode cX8_nearOf 47 = .ok (.invokevirtual 171, 3) := by decide +kernel
theorem dX8_nearOf_50 : decode cX8_nearOf 50 = .ok (.aload_n 0, 1) := by decide +kernel
theorem dX8_nearOf_51 : decode cX8_nearOf 51 = .ok (.iload_n 2, 1) := by decide +kernel
theorem dX8_nearOf_52 : decode cX8_nearOf 52 = .ok (.invokevirtual 174, 3) := by decide +kernel
theorem dX8_nearOf_55 : decode cX8_nearOf 55 = .ok (.invokevirtual 177, 3) := by decide +kernel
theorem dX8_nearOf_58 : decode cX8_nearOf 58 = .ok (.ifCond .eq 6, 3) := by decide +kernel
theorem dX8_nearOf_61 : decode cX8_nearOf 61 = .ok (.iinc 3 1, 3) := by decide +kernel
theorem dX8_nearOf_64 : decode cX8_nearOf 64 = .ok (.iinc 5 1, 3) := by decide +kernel
theorem dX8_nearOf_67 : decode cX8_nearOf 67 = .ok (.goto (-59), 3) := by decide +kernel
theorem dX8_nearOf_70 : decode cX8_nearOf 70 = .ok (.iconst 0, 1) := by decide +kernel
theorem dX8_nearOf_71 : decode cX8_nearOf 71 = .ok (.istore 5, 2) := by decide +kernel
theorem dX8_nearOf_73 : decode cX8_nearOf 73 = .ok (.iload 5, 2) := by decide +kernel
theorem dX8_nearOf_75 : decode cX8_nearOf 75 = .ok (.aload_n 0, 1) := by decide +kernel
theorem dX8_nearOf_76 : decode cX8_nearOf 76 = .ok (.iload_n 2, 1) := by decide +kernel
theorem dX8_nearOf_77 : decode cX8_nearOf 77 = .ok (.invokevirtual 174, 3) := by decide +kernel
theorem dX8_nearOf_80 : decode cX8_nearOf 80 = .ok (.if_icmp .ge 49, 3) := by decide +kernel
theorem dX8_nearOf_83 : decode cX8_nearOf 83 = .ok (.aload_n 0, 1) := by decide +kernel
theorem dX8_nearOf_84 : decode cX8_nearOf 84 = .ok (.iload_n 2, 1) := by decide +kernel
theorem dX8_nearOf_85 : decode cX8_nearOf 85 = .ok (.aload_n 0, 1) := by decide +kernel
theorem dX8_nearOf_86 : decode cX8_nearOf 86 = .ok (.iload_n 2, 1) := by decide +kernel
theorem dX8_nearOf_87 : decode cX8_nearOf 87 = .ok (.iload 5, 2) := by decide +kernel
theorem dX8_nearOf_89 : decode cX8_nearOf 89 = .ok (.invokevirtual 171, 3) := by decide +kernel
theorem dX8_nearOf_92 : decode cX8_nearOf 92 = .ok (.iload 5, 2) := by decide +kernel
theorem dX8_nearOf_94 : decode cX8_nearOf 94 = .ok (.invokevirtual 177, 3) := by decide +kernel
theorem dX8_nearOf_97 : decode cX8_nearOf 97 = .ok (.ifCond .ne 26, 3) := by decide +kernel
theorem dX8_nearOf_100 : decode cX8_nearOf 100 = .ok (.aload_n 0, 1) := by decide +kernel
theorem dX8_nearOf_101 : decode cX8_nearOf 101 = .ok (.iload_n 1, 1) := by decide +kernel
theorem dX8_nearOf_102 : decode cX8_nearOf 102 = .ok (.aload_n 0, 1) := by decide +kernel
theorem dX8_nearOf_103 : decode cX8_nearOf 103 = .ok (.iload_n 2, 1) := by decide +kernel
theorem dX8_nearOf_104 : decode cX8_nearOf 104 = .ok (.iload 5, 2) := by decide +kernel
theorem dX8_nearOf_106 : decode cX8_nearOf 106 = .ok (.invokevirtual 171, 3) := by decide +kernel
theorem dX8_nearOf_109 : decode cX8_nearOf 109 = .ok (.aload_n 0, 1) := by decide +kernel
theorem dX8_nearOf_110 : decode cX8_nearOf 110 = .ok (.iload_n 1, 1) := by decide +kernel
theorem dX8_nearOf_111 : decode cX8_nearOf 111 = .ok (.invokevirtual 174, 3) := by decide +kernel
theorem dX8_nearOf_114 : decode cX8_nearOf 114 = .ok (.invokevirtual 177, 3) := by decide +kernel
theorem dX8_nearOf_117 : decode cX8_nearOf 117 = .ok (.ifCond .ne 6, 3) := by decide +kernel
theorem dX8_nearOf_120 : decode cX8_nearOf 120 = .ok (.iinc 4 1, 3) := by decide +kernel
theorem dX8_nearOf_123 : decode cX8_nearOf 123 = .ok (.iinc 5 1, 3) := by decide +kernel
theorem dX8_nearOf_126 : decode cX8_nearOf 126 = .ok (.goto (-53), 3) := by decide +kernel
theorem dX8_nearOf_129 : decode cX8_nearOf 129 = .ok (.iload 4, 2) := by decide +kernel
theorem dX8_nearOf_131 : decode cX8_nearOf 131 = .ok (.ifCond .ne 7, 3) := by decide +kernel
theorem dX8_nearOf_134 : decode cX8_nearOf 134 = .ok (.iconst 0, 1) := by decide +kernel
theorem dX8_nearOf_135 : decode cX8_nearOf 135 = .ok (.goto 11, 3) := by decide +kernel
theorem dX8_nearOf_138 : decode cX8_nearOf 138 = .ok (.sipush 1000, 3) := by decide +kernel
theorem dX8_nearOf_141 : decode cX8_nearOf 141 = .ok (.iload_n 3, 1) := by decide +kernel
theorem dX8_nearOf_142 : decode cX8_nearOf 142 = .ok (.imul, 1) := by decide +kernel
theorem dX8_nearOf_143 : decode cX8_nearOf 143 = .ok (.iload 4, 2) := by decide +kernel
theorem dX8_nearOf_145 : decode cX8_nearOf 145 = .ok (.idiv, 1) := by decide +kernel
theorem dX8_nearOf_146 : decode cX8_nearOf 146 = .ok (.ireturn, 1) := by decide +kernel
set_option maxRecDepth 20000 in
theorem ggX8_near_X8_isFile : GoodIn wsX8_near wsX8_isFile := goodIn_r _ [8, 9, 1, 2, 10, 11, 12, 7, 13, 32, 33, 34, 35, 36, 37, 38, 39, 40, 41, 42, 43, 44, 45, 46, 47, 48, 49, 50, 51, 52, 53, 54, 55, 56, 57, 58, 59, 60, 61, 62, 63, 64, 65] (by decide +kernel) (by decide +kernel)
set_option maxRecDepth 20000 in
theorem gX8_near_X8_isFile : GoodIn wsX8_near (wsV RX8 128 RX8 yX8_isFile wsX8_isFile) := goodIn_app (goodIn_of _ (by decide +kernel)) ggX8_near_X8_isFile
set_option maxRecDepth 20000 in
theorem ggX8_near_X8_right : GoodIn wsX8_near wsX8_right := goodIn_r _ [13, 9, 32, 33, 34, 35, 36, 37, 38, 39, 40, 41, 42, 43, 44, 45, 46, 47, 48, 49, 50, 51, 52, 53, 54, 55, 56, 57, 58, 59, 60, 61, 62, 63, 64, 65] (by decide +kernel) (by decide +kernel)
set_option maxRecDepth 20000 in
theorem gX8_near_X8_right : GoodIn wsX8_near (wsV RX8 90 RX8 yX8_right wsX8_right) := goodIn_app (goodIn_of _ (by decide +kernel)) ggX8_near_X8_right
set_option maxRecDepth 20000 in
theorem ggX8_near_X8_nearOf : GoodIn wsX8_near wsX8_nearOf := goodIn_r _ [17, 18, 19, 20, 7, 21, 22, 23, 24, 25, 26, 27, 28, 29, 30, 31, 32, 33, 34, 35, 36, 37, 38, 39, 40, 41, 42, 43, 44, 45, 46, 47, 48, 49, 50, 51, 52, 53, 54, 55, 56, 57, 58, 59, 60, 61, 62, 63, 64, 65] (by decide +kernel) (by decide +kernel)
set_option maxRecDepth 20000 in
theorem gX8_near_X8_nearOf : GoodIn wsX8_near (wsV RX8 181 RX8 yX8_nearOf wsX8_nearOf) := goodIn_app (goodIn_of _ (by decide +kernel)) ggX8_near_X8_nearOf
theorem dX8_near_0 : decode cX8_near 0 = .ok (.aload_n 0, 1) := by decide +kernel
theorem dX8_near_1 : decode cX8_near 1 = .ok (.iload_n 1, 1) := by decide +kernel
theorem dX8_near_2 : decode cX8_near 2 = .ok (.invokevirtual 128, 3) := by decide +kernel
theorem dX8_near_5 : decode cX8_near 5 = .ok (.ifCond .eq 57, 3) := by decide +kernel
theorem dX8_near_8 : decode cX8_near 8 = .ok (.aload_n 0, 1) := by decide +kernel
theorem dX8_near_9 : decode cX8_near 9 = .ok (.iload_n 2, 1) := by decide +kernel
theorem dX8_near_10 : decode cX8_near 10 = .ok (.ifCond .lt 25, 3) := by decide +kernel
theorem dX8_near_13 : decode cX8_near 13 = .ok (.iload_n 2, 1) := by decide +kernel
theorem dX8_near_14 : decode cX8_near 14 = .ok (.aload_n 0, 1) := by decide +kernel
theorem dX8_near_15 : decode cX8_near 15 = .ok (.getfield 94, 3) := by decide +kernel
theorem dX8_near_18 : decode cX8_near 18 = .ok (.if_icmp .ge 17, 3) := by decide +kernel
theorem dX8_near_21 : decode cX8_near 21 = .ok (.aload_n 0, 1) := by decide +kernel
theorem dX8_near_22 : decode cX8_near 22 = .ok (.getfield 20, 3) := by decide +kernel
theorem dX8_near_25 : decode cX8_near 25 = .ok (.iload_n 2, 1) := by decide +kernel
theorem dX8_near_26 : decode cX8_near 26 = .ok (.iaload, 1) := by decide +kernel
theorem dX8_near_27 : decode cX8_near 27 = .ok (.iconst (-1), 1) := by decide +kernel
theorem dX8_near_28 : decode cX8_near 28 = .ok (.if_icmp .eq 7, 3) := by decide +kernel
theorem dX8_near_31 : decode cX8_near 31 = .ok (.iconst 1, 1) := by decide +kernel
theorem dX8_near_32 : decode cX8_near 32 = .ok (.goto 4, 3) := by decide +kernel
theorem dX8_near_35 : decode cX8_near 35 = .ok (.iconst 0, 1) := by decide +kernel
theorem dX8_near_36 : decode cX8_near 36 = .ok (.iconst 1, 1) := by decide +kernel
theorem dX8_near_37 : decode cX8_near 37 = .ok (.invokevirtual 90, 3) := by decide +kernel
theorem dX8_near_40 : decode cX8_near 40 = .ok (.ifCond .eq 22, 3) := by decide +kernel
theorem dX8_near_43 : decode cX8_near 43 = .ok (.aload_n 0, 1) := by decide +kernel
theorem dX8_near_44 : decode cX8_near 44 = .ok (.aload_n 0, 1) := by decide +kernel
theorem dX8_near_45 : decode cX8_near 45 = .ok (.getfield 26, 3) := by decide +kernel
theorem dX8_near_48 : decode cX8_near 48 = .ok (.iload_n 1, 1) := by decide +kernel
theorem dX8_near_49 : decode cX8_near 49 = .ok (.iaload, 1) := by decide +kernel
theorem dX8_near_50 : decode cX8_near 50 = .ok (.aload_n 0, 1) := by decide +kernel
theorem dX8_near_51 : decode cX8_near 51 = .ok (.getfield 26, 3) := by decide +kernel
theorem dX8_near_54 : decode cX8_near 54 = .ok (.iload_n 2, 1) := by decide +kernel
theorem dX8_near_55 : decode cX8_near 55 = .ok (.iaload, 1) := by decide +kernel
theorem dX8_near_56 : decode cX8_near 56 = .ok (.invokevirtual 181, 3) := by decide +kernel
theorem dX8_near_59 : decode cX8_near 59 = .ok (.goto 4, 3) := by decide +kernel
theorem dX8_near_62 : decode cX8_near 62 = .ok (.iconst 0, 1) := by decide +kernel
theorem dX8_near_63 : decode cX8_near 63 = .ok (.ireturn, 1) := by decide +kernel
set_option maxRecDepth 20000 in
theorem ggX8_nearest_X8_isFile : GoodIn wsX8_nearest wsX8_isFile := goodIn_r _ [8, 9, 1, 2, 10, 11, 12, 7, 13, 32, 33, 34, 35, 36, 37, 38, 39, 40, 41, 42, 43, 44, 45, 46, 47, 48, 49, 50, 51, 52, 53, 54, 55, 56, 57, 58, 59, 60, 61, 62, 63, 64, 65] (by decide +kernel) (by decide +kernel)
set_option maxRecDepth 20000 in
theorem gX8_nearest_X8_isFile : GoodIn wsX8_nearest (wsV RX8 128 RX8 yX8_isFile wsX8_isFile) := goodIn_app (goodIn_of _ (by decide +kernel)) ggX8_nearest_X8_isFile
set_option maxRecDepth 20000 in
theorem ggX8_nearest_X8_right : GoodIn wsX8_nearest wsX8_right := goodIn_r _ [13, 9, 32, 33, 34, 35, 36, 37, 38, 39, 40, 41, 42, 43, 44, 45, 46, 47, 48, 49, 50, 51, 52, 53, 54, 55, 56, 57, 58, 59, 60, 61, 62, 63, 64, 65] (by decide +kernel) (by decide +kernel)
set_option maxRecDepth 20000 in
theorem gX8_nearest_X8_right : GoodIn wsX8_nearest (wsV RX8 90 RX8 yX8_right wsX8_right) := goodIn_app (goodIn_of _ (by decide +kernel)) ggX8_nearest_X8_right
set_option maxRecDepth 20000 in
theorem ggX8_nearest_X8_nearOf : GoodIn wsX8_nearest wsX8_nearOf := goodIn_r _ [17, 18, 19, 20, 7, 21, 22, 23, 24, 25, 26, 27, 28, 29, 30, 31, 32, 33, 34, 35, 36, 37, 38, 39, 40, 41, 42, 43, 44, 45, 46, 47, 48, 49, 50, 51, 52, 53, 54, 55, 56, 57, 58, 59, 60, 61, 62, 63, 64, 65] (by decide +kernel) (by decide +kernel)
set_option maxRecDepth 20000 in
theorem gX8_nearest_X8_nearOf : GoodIn wsX8_nearest (wsV RX8 181 RX8 yX8_nearOf wsX8_nearOf) := goodIn_app (goodIn_of _ (by decide +kernel)) ggX8_nearest_X8_nearOf
theorem dX8_nearest_0 : decode cX8_nearest 0 = .ok (.aload_n 0, 1) := by decide +kernel
theorem dX8_nearest_1 : decode cX8_nearest 1 = .ok (.iload_n 1, 1) := by decide +kernel
theorem dX8_nearest_2 : decode cX8_nearest 2 = .ok (.invokevirtual 128, 3) := by decide +kernel
theorem dX8_nearest_5 : decode cX8_nearest 5 = .ok (.ifCond .eq 27, 3) := by decide +kernel
theorem dX8_nearest_8 : decode cX8_nearest 8 = .ok (.aload_n 0, 1) := by decide +kernel
theorem dX8_nearest_9 : decode cX8_nearest 9 = .ok (.iload_n 2, 1) := by decide +kernel
theorem dX8_nearest_10 : decode cX8_nearest 10 = .ok (.ifCond .lt 14, 3) := by decide +kernel
theorem dX8_nearest_13 : decode cX8_nearest 13 = .ok (.iload_n 2, 1) := by decide +kernel
theorem dX8_nearest_14 : decode cX8_nearest 14 = .ok (.sipush 1000, 3) := by decide +kernel
theorem dX8_nearest_17 : decode cX8_nearest 17 = .ok (.if_icmp .gt 7, 3) := by decide +kernel
theorem dX8_nearest_20 : decode cX8_nearest 20 = .ok (.iconst 1, 1) := by decide +kernel
theorem dX8_nearest_21 : decode cX8_nearest 21 = .ok (.goto 4, 3) := by decide +kernel
theorem dX8_nearest_24 : decode cX8_nearest 24 = .ok (.iconst 0, 1) := by decide +kernel
theorem dX8_nearest_25 : decode cX8_nearest 25 = .ok (.iconst 2, 1) := by decide +kernel
theorem dX8_nearest_26 : decode cX8_nearest 26 = .ok (.invokevirtual 90, 3) := by decide +kernel
theorem dX8_nearest_29 : decode cX8_nearest 29 = .ok (.ifCond .ne 5, 3) := by decide +kernel
theorem dX8_nearest_32 : decode cX8_nearest 32 = .ok (.iconst 0, 1) := by decide +kernel
theorem dX8_nearest_33 : decode cX8_nearest 33 = .ok (.ireturn, 1) := by decide +kernel
theorem dX8_nearest_34 : decode cX8_nearest 34 = .ok (.iconst (-1), 1) := by decide +kernel
theorem dX8_nearest_35 : decode cX8_nearest 35 = .ok (.istore_n 3, 1) := by decide +kernel
theorem dX8_nearest_36 : decode cX8_nearest 36 = .ok (.iload_n 2, 1) := by decide +kernel
theorem dX8_nearest_37 : decode cX8_nearest 37 = .ok (.iconst 1, 1) := by decide +kernel
theorem dX8_nearest_38 : decode cX8_nearest 38 = .ok (.isub, 1) := by decide +kernel
theorem dX8_nearest_39 : decode cX8_nearest 39 = .ok (.istore 4, 2) := by decide +kernel
theorem dX8_nearest_41 : decode cX8_nearest 41 = .ok (.iconst 0, 1) := by decide +kernel
theorem dX8_nearest_42 : decode cX8_nearest 42 = .ok (.istore 5, 2) := by decide +kernel
theorem dX8_nearest_44 : decode cX8_nearest 44 = .ok (.iload 5, 2) := by decide +kernel
theorem dX8_nearest_46 : decode cX8_nearest 46 = .ok (.aload_n 0, 1) := by decide +kernel
theorem dX8_nearest_47 : decode cX8_nearest 47 = .ok (.getfield 94, 3) := by decide +kernel
theorem dX8_nearest_50 : decode cX8_nearest 50 = .ok (.if_icmp .ge 75, 3) := by decide +kernel
theorem dX8_nearest_53 : decode cX8_nearest 53 = .ok (.aload_n 0, 1) := by decide +kernel
theorem dX8_nearest_54 : decode cX8_nearest 54 = .ok (.getfield 20, 3) := by decide +kernel
theorem dX8_nearest_57 : decode cX8_nearest 57 = .ok (.iload 5, 2) := by decide +kernel
theorem dX8_nearest_59 : decode cX8_nearest 59 = .ok (.iaload, 1) := by decide +kernel
theorem dX8_nearest_60 : decode cX8_nearest 60 = .ok (.iconst (-1), 1) := by decide +kernel
theorem dX8_nearest_61 : decode cX8_nearest 61 = .ok (.if_icmp .eq 58, 3) := by decide +kernel
theorem dX8_nearest_64 : decode cX8_nearest 64 = .ok (.aload_n 0, 1) := by decide +kernel
theorem dX8_nearest_65 : decode cX8_nearest 65 = .ok (.getfield 26, 3) := by decide +kernel
theorem dX8_nearest_68 : decode cX8_nearest 68 = .ok (.iload 5, 2) := by decide +kernel
theorem dX8_nearest_70 : decode cX8_nearest 70 = .ok (.iaload, 1) := by decide +kernel
theorem dX8_nearest_71 : decode cX8_nearest 71 = .ok (.aload_n 0, 1) := by decide +kernel
theorem dX8_nearest_72 : decode cX8_nearest 72 = .ok (.getfield 26, 3) := by decide +kernel
theorem dX8_nearest_75 : decode cX8_nearest 75 = .ok (.iload_n 1, 1) := by decide +kernel
theorem dX8_nearest_76 : decode cX8_nearest 76 = .ok (.iaload, 1) := by decide +kernel
theorem dX8_nearest_77 : decode cX8_nearest 77 = .ok (.if_icmp .ne 6, 3) := by decide +kernel
theorem dX8_nearest_80 : decode cX8_nearest 80 = .ok (.goto 39, 3) := by decide +kernel
theorem dX8_nearest_83 : decode cX8_nearest 83 = .ok (.aload_n 0, 1) := by decide +kernel
theorem dX8_nearest_84 : decode cX8_nearest 84 = .ok (.aload_n 0, 1) := by decide +kernel
theorem dX8_nearest_85 : decode cX8_nearest 85 = .ok (.getfield 26, 3) := by decide +kernel
theorem dX8_nearest_88 : decode cX8_nearest 88 = .ok (.iload_n 1, 1) := by decide +kernel
theorem dX8_nearest_89 : decode cX8_nearest 89 = .ok (.iaload, 1) := by decide +kernel
theorem dX8_nearest_90 : decode cX8_nearest 90 = .ok (.aload_n 0, 1) := by decide +kernel
theorem dX8_nearest_91 : decode cX8_nearest 91 = .ok (.getfield 26, 3) := by decide +kernel
theorem dX8_nearest_94 : decode cX8_nearest 94 = .ok (.iload 5, 2) := by decide +kernel
theorem dX8_nearest_96 : decode cX8_nearest 96 = .ok (.iaload, 1) := by decide +kernel
theorem dX8_nearest_97 : decode cX8_nearest 97 = .ok (.invokevirtual 181, 3) := by decide +kernel
theorem dX8_nearest_100 : decode cX8_nearest 100 = .ok (.istore 6, 2) := by decide +kernel
theorem dX8_nearest_102 : decode cX8_nearest 102 = .ok (.iload 6, 2) := by decide +kernel
theorem dX8_nearest_104 : decode cX8_nearest 104 = .ok (.iload 4, 2) := by decide +kernel
theorem dX8_nearest_106 : decode cX8_nearest 106 = .ok (.if_icmp .gt 6, 3) := by decide +kernel
theorem dX8_nearest_109 : decode cX8_nearest 109 = .ok (.goto 10, 3) := by decide +kernel
theorem dX8_nearest_112 : decode cX8_nearest 112 = .ok (.iload 5, 2) := by decide +kernel
theorem dX8_nearest_114 : decode cX8_nearest 114 = .ok (.istore_n 3, 1) := by decide +kernel
theorem dX8_nearest_115 : decode cX8_nearest 115 = .ok (.iload 6, 2) := by decide +kernel
theorem dX8_nearest_117 : decode cX8_nearest 117 = .ok (.istore 4, 2) := by decide +kernel
theorem dX8_nearest_119 : decode cX8_nearest 119 = .ok (.iinc 5 1, 3) := by decide +kernel
theorem dX8_nearest_122 : decode cX8_nearest 122 = .ok (.goto (-78), 3) := by decide +kernel
theorem dX8_nearest_125 : decode cX8_nearest 125 = .ok (.iload_n 3, 1) := by decide +kernel
theorem dX8_nearest_126 : decode cX8_nearest 126 = .ok (.ireturn, 1) := by decide +kernel
set_option maxRecDepth 20000 in
theorem ggX8_differ_X8_isFolder : GoodIn wsX8_differ wsX8_isFolder := goodIn_r _ [16, 9, 17, 18, 19, 15, 20, 1, 34, 35, 36, 37, 38, 39, 40, 41, 42, 43, 44, 45, 46, 47, 48, 49, 50, 51, 52, 53, 54, 55, 56, 57, 58, 59, 60, 61, 62, 63, 64, 65, 66, 67] (by decide +kernel) (by decide +kernel)
set_option maxRecDepth 20000 in
theorem gX8_differ_X8_isFolder : GoodIn wsX8_differ (wsV RX8 97 RX8 yX8_isFolder wsX8_isFolder) := goodIn_app (goodIn_of _ (by decide +kernel)) ggX8_differ_X8_isFolder
set_option maxRecDepth 20000 in
theorem ggX8_differ_X8_named : GoodIn wsX8_differ wsX8_named := goodIn_r _ [24, 4, 5, 6, 34, 35, 36, 37, 38, 39, 40, 41, 42, 43, 44, 45, 46, 47, 48, 49, 50, 51, 52, 53, 54, 55, 56, 57, 58, 59, 60, 61, 62, 63, 64, 65, 66, 67] (by decide +kernel) (by decide +kernel)
set_option maxRecDepth 20000 in
theorem gX8_differ_X8_named : GoodIn wsX8_differ (wsV RX8 111 RX8 yX8_named wsX8_named) := goodIn_app (goodIn_of _ (by decide +kernel)) ggX8_differ_X8_named
set_option maxRecDepth 20000 in
theorem ggX8_differ_X8_hasSame : GoodIn wsX8_differ wsX8_hasSame := goodIn_r _ [28, 29, 34, 35, 36, 37, 38, 39, 40, 41, 42, 43, 44, 45, 46, 47, 48, 49, 50, 51, 52, 53, 54, 55, 56, 57, 58, 59, 60, 61, 62, 63, 64, 65, 66, 67] (by decide +kernel) (by decide +kernel)
set_option maxRecDepth 20000 in
theorem gX8_differ_X8_hasSame : GoodIn wsX8_differ (wsV RX8 158 RX8 yX8_hasSame wsX8_hasSame) := goodIn_app (goodIn_of _ (by decide +kernel)) ggX8_differ_X8_hasSame
set_option maxRecDepth 20000 in
theorem ggX8_differ_X8_child : GoodIn wsX8_differ wsX8_child := goodIn_r _ [33, 9, 10, 11, 34, 35, 36, 37, 38, 39, 40, 41, 42, 43, 44, 45, 46, 47, 48, 49, 50, 51, 52, 53, 54, 55, 56, 57, 58, 59, 60, 61, 62, 63, 64, 65, 66, 67] (by decide +kernel) (by decide +kernel)
set_option maxRecDepth 20000 in
theorem gX8_differ_X8_child : GoodIn wsX8_differ (wsV RX8 104 RX8 yX8_child wsX8_child) := goodIn_app (goodIn_of _ (by decide +kernel)) ggX8_differ_X8_child
theorem dX8_differ_0 : decode cX8_differ 0 = .ok (.aload_n 0, 1) := by decide +kernel
theorem dX8_differ_1 : decode cX8_differ 1 = .ok (.iconst 0, 1) := by decide +kernel
theorem dX8_differ_2 : decode cX8_differ 2 = .ok (.putfield 87, 3) := by decide +kernel
theorem dX8_differ_5 : decode cX8_differ 5 = .ok (.aload_n 0, 1) := by decide +kernel
theorem dX8_differ_6 : decode cX8_differ 6 = .ok (.iload_n 1, 1) := by decide +kernel
theorem dX8_differ_7 : decode cX8_differ 7 = .ok (.invokevirtual 97, 3) := by decide +kernel
theorem dX8_differ_10 : decode cX8_differ 10 = .ok (.ifCond .eq 11, 3) := by decide +kernel
theorem dX8_differ_13 : decode cX8_differ 13 = .ok (.aload_n 0, 1) := by decide +kernel
theorem dX8_differ_14 : decode cX8_differ 14 = .ok (.iload_n 2, 1) := by decide +kernel
theorem dX8_differ_15 : decode cX8_differ 15 = .ok (.invokevirtual 97, 3) := by decide +kernel
theorem dX8_differ_18 : decode cX8_differ 18 = .ok (.ifCond .ne 5, 3) := by decide +kernel
theorem dX8_differ_21 : decode cX8_differ 21 = .ok (.iconst 0, 1) := by decide +kernel
theorem dX8_differ_22 : decode cX8_differ 22 = .ok (.ireturn, 1) := by decide +kernel
theorem dX8_differ_23 : decode cX8_differ 23 = .ok (.iconst 0, 1) := by decide +kernel
theorem dX8_differ_24 : decode cX8_differ 24 = .ok (.istore_n 3, 1) := by decide +kernel
theorem dX8_differ_25 : decode cX8_differ 25 = .ok (.iconst 1, 1) := by decide +kernel
theorem dX8_differ_26 : decode cX8_differ 26 = .ok (.istore 4, 2) := by decide +kernel
theorem dX8_differ_28 : decode cX8_differ 28 = .ok (.aload_n 0, 1) := by decide +kernel
theorem dX8_differ_29 : decode cX8_differ 29 = .ok (.getfield 75, 3) := by decide +kernel
theorem dX8_differ_32 : decode cX8_differ 32 = .ok (.iconst 0, 1) := by decide +kernel
theorem dX8_differ_33 : decode cX8_differ 33 = .ok (.iload_n 1, 1) := by decide +kernel
theorem dX8_differ_34 : decode cX8_differ 34 = .ok (.iastore, 1) := by decide +kernel
theorem dX8_differ_35 : decode cX8_differ 35 = .ok (.aload_n 0, 1) := by decide +kernel
theorem dX8_differ_36 : decode cX8_differ 36 = .ok (.getfield 78, 3) := by decide +kernel
theorem dX8_differ_39 : decode cX8_differ 39 = .ok (.iconst 0, 1) := by decide +kernel
theorem dX8_differ_40 : decode cX8_differ 40 = .ok (.iload_n 2, 1) := by decide +kernel
theorem dX8_differ_41 : decode cX8_differ 41 = .ok (.iastore, 1) := by decide +kernel
theorem dX8_differ_42 : decode cX8_differ 42 = .ok (.iconst 0, 1) := by decide +kernel
theorem dX8_differ_43 : decode cX8_differ 43 = .ok (.istore 5, 2) := by decide +kernel
theorem dX8_differ_45 : decode cX8_differ 45 = .ok (.iload 5, 2) := by decide +kernel
theorem dX8_differ_47 : decode cX8_differ 47 = .ok (.iload 4, 2) := by decide +kernel
theorem dX8_differ_49 : decode cX8_differ 49 = .ok (.if_icmp .ge 284, 3) := by decide +kernel
theorem dX8_differ_52 : decode cX8_differ 52 = .ok (.aload_n 0, 1) := by decide +kernel
theorem dX8_differ_53 : decode cX8_differ 53 = .ok (.getfield 75, 3) := by decide +kernel
theorem dX8_differ_56 : decode cX8_differ 56 = .ok (.iload 5, 2) := by decide +kernel
theorem dX8_differ_58 : decode cX8_differ 58 = .ok (.iaload, 1) := by decide +kernel
theorem dX8_differ_59 : decode cX8_differ 59 = .ok (.istore 6, 2) := by decide +kernel
theorem dX8_differ_61 : decode cX8_differ 61 = .ok (.aload_n 0, 1) := by decide +kernel
theorem dX8_differ_62 : decode cX8_differ 62 = .ok (.getfield 78, 3) := by decide +kernel
theorem dX8_differ_65 : decode cX8_differ 65 = .ok (.iload 5, 2) := by decide +kernel
theorem dX8_differ_67 : decode cX8_differ 67 = .ok (.iaload, 1) := by decide +kernel
theorem dX8_differ_68 : decode cX8_differ 68 = .ok (.istore 7, 2) := by decide +kernel
theorem dX8_differ_70 : decode cX8_differ 70 = .ok (.iconst 0, 1) := by decide +kernel
theorem dX8_differ_71 : decode cX8_differ 71 = .ok (.istore 8, 2) := by decide +kernel
theorem dX8_differ_73 : decode cX8_differ 73 = .ok (.iload 8, 2) := by decide +kernel
theorem dX8_differ_75 : decode cX8_differ 75 = .ok (.aload_n 0, 1) := by decide +kernel
theorem dX8_differ_76 : decode cX8_differ 76 = .ok (.getfield 94, 3) := by decide +kernel
theorem dX8_differ_79 : decode cX8_differ 79 = .ok (.if_icmp .ge 138, 3) := by decide +kernel
theorem dX8_differ_82 : decode cX8_differ 82 = .ok (.aload_n 0, 1) := by decide +kernel
theorem dX8_differ_83 : decode cX8_differ 83 = .ok (.getfield 20, 3) := by decide +kernel
theorem dX8_differ_86 : decode cX8_differ 86 = .ok (.iload 8, 2) := by decide +kernel
theorem dX8_differ_88 : decode cX8_differ 88 = .ok (.iaload, 1) := by decide +kernel
theorem dX8_differ_89 : decode cX8_differ 89 = .ok (.iload 6, 2) := by decide +kernel
theorem dX8_differ_91 : decode cX8_differ 91 = .ok (.if_icmp .ne 88, 3) := by decide +kernel
theorem dX8_differ_94 : decode cX8_differ 94 = .ok (.aload_n 0, 1) := by decide +kernel
theorem dX8_differ_95 : decode cX8_differ 95 = .ok (.iload 7, 2) := by decide +kernel
theorem dX8_differ_97 : decode cX8_differ 97 = .ok (.aload_n 0, 1) := by decide +kernel
