theorem dX8_differ_98 : decode cX8_differ 98 = .ok (.getfield 23, 3) := by decide +kernel
theorem dX8_differ_101 : decode cX8_differ 101 = .ok (.iload 8, 2) := by decide +kernel
theorem dX8_differ_103 : decode cX8_differ 103 = .ok (.iaload, 1) := by decide +kernel
theorem dX8_differ_104 : decode cX8_differ 104 = .ok (.invokevirtual 111, 3) := by decide +kernel
theorem dX8_differ_107 : decode cX8_differ 107 = .ok (.istore 9, 2) := by decide +kernel
theorem dX8_differ_109 : decode cX8_differ 109 = .ok (.iload 9, 2) := by decide +kernel
theorem dX8_differ_111 : decode cX8_differ 111 = .ok (.iconst (-1), 1) := by decide +kernel
theorem dX8_differ_112 : decode cX8_differ 112 = .ok (.if_icmp .eq 64, 3) := by decide +kernel
theorem dX8_differ_115 : decode cX8_differ 115 = .ok (.aload_n 0, 1) := by decide +kernel
theorem dX8_differ_116 : decode cX8_differ 116 = .ok (.getfield 33, 3) := by decide +kernel
theorem dX8_differ_119 : decode cX8_differ 119 = .ok (.aload_n 0, 1) := by decide +kernel
theorem dX8_differ_120 : decode cX8_differ 120 = .ok (.getfield 26, 3) := by decide +kernel
theorem dX8_differ_123 : decode cX8_differ 123 = .ok (.iload 8, 2) := by decide +kernel
theorem dX8_differ_125 : decode cX8_differ 125 = .ok (.iaload, 1) := by decide +kernel
theorem dX8_differ_126 : decode cX8_differ 126 = .ok (.iaload, 1) := by decide +kernel
theorem dX8_differ_127 : decode cX8_differ 127 = .ok (.aload_n 0, 1) := by decide +kernel
theorem dX8_differ_128 : decode cX8_differ 128 = .ok (.getfield 33, 3) := by decide +kernel
theorem dX8_differ_131 : decode cX8_differ 131 = .ok (.aload_n 0, 1) := by decide +kernel
theorem dX8_differ_132 : decode cX8_differ 132 = .ok (.getfield 26, 3) := by decide +kernel
theorem dX8_differ_135 : decode cX8_differ 135 = .ok (.iload 9, 2) := by decide +kernel
theorem dX8_differ_137 : decode cX8_differ 137 = .ok (.iaload, 1) := by decide +kernel
theorem dX8_differ_138 : decode cX8_differ 138 = .ok (.iaload, 1) := by decide +kernel
theorem dX8_differ_139 : decode cX8_differ 139 = .ok (.if_icmp .ne 37, 3) := by decide +kernel
theorem dX8_differ_142 : decode cX8_differ 142 = .ok (.aload_n 0, 1) := by decide +kernel
theorem dX8_differ_143 : decode cX8_differ 143 = .ok (.aload_n 0, 1) := by decide +kernel
theorem dX8_differ_144 : decode cX8_differ 144 = .ok (.getfield 26, 3) := by decide +kernel
theorem dX8_differ_147 : decode cX8_differ 147 = .ok (.iload 8, 2) := by decide +kernel
theorem dX8_differ_149 : decode cX8_differ 149 = .ok (.iaload, 1) := by decide +kernel
theorem dX8_differ_150 : decode cX8_differ 150 = .ok (.aload_n 0, 1) := by decide +kernel
theorem dX8_differ_151 : decode cX8_differ 151 = .ok (.getfield 26, 3) := by decide +kernel
theorem dX8_differ_154 : decode cX8_differ 154 = .ok (.iload 9, 2) := by decide +kernel
theorem dX8_differ_156 : decode cX8_differ 156 = .ok (.iaload, 1) := by decide +kernel
theorem dX8_differ_157 : decode cX8_differ 157 = .ok (.iconst 0, 1) := by decide +kernel
theorem dX8_differ_158 : decode cX8_differ 158 = .ok (.aload_n 0, 1) := by decide +kernel
theorem dX8_differ_159 : decode cX8_differ 159 = .ok (.getfield 33, 3) := by decide +kernel
theorem dX8_differ_162 : decode cX8_differ 162 = .ok (.aload_n 0, 1) := by decide +kernel
theorem dX8_differ_163 : decode cX8_differ 163 = .ok (.getfield 26, 3) := by decide +kernel
theorem dX8_differ_166 : decode cX8_differ 166 = .ok (.iload 8, 2) := by decide +kernel
theorem dX8_differ_168 : decode cX8_differ 168 = .ok (.iaload, 1) := by decide +kernel
theorem dX8_differ_169 : decode cX8_differ 169 = .ok (.iaload, 1) := by decide +kernel
theorem dX8_differ_170 : decode cX8_differ 170 = .ok (.invokevirtual 158, 3) := by decide +kernel
theorem dX8_differ_173 : decode cX8_differ 173 = .ok (.ifCond .ne 6, 3) := by decide +kernel
theorem dX8_differ_176 : decode cX8_differ 176 = .ok (.iinc 3 1, 3) := by decide +kernel
theorem dX8_differ_179 : decode cX8_differ 179 = .ok (.aload_n 0, 1) := by decide +kernel
theorem dX8_differ_180 : decode cX8_differ 180 = .ok (.getfield 20, 3) := by decide +kernel
theorem dX8_differ_183 : decode cX8_differ 183 = .ok (.iload 8, 2) := by decide +kernel
theorem dX8_differ_185 : decode cX8_differ 185 = .ok (.iaload, 1) := by decide +kernel
theorem dX8_differ_186 : decode cX8_differ 186 = .ok (.iload 7, 2) := by decide +kernel
theorem dX8_differ_188 : decode cX8_differ 188 = .ok (.if_icmp .ne 23, 3) := by decide +kernel
theorem dX8_differ_191 : decode cX8_differ 191 = .ok (.aload_n 0, 1) := by decide +kernel
theorem dX8_differ_192 : decode cX8_differ 192 = .ok (.iload 6, 2) := by decide +kernel
theorem dX8_differ_194 : decode cX8_differ 194 = .ok (.aload_n 0, 1) := by decide +kernel
theorem dX8_differ_195 : decode cX8_differ 195 = .ok (.getfield 23, 3) := by decide +kernel
theorem dX8_differ_198 : decode cX8_differ 198 = .ok (.iload 8, 2) := by decide +kernel
theorem dX8_differ_200 : decode cX8_differ 200 = .ok (.iaload, 1) := by decide +kernel
theorem dX8_differ_201 : decode cX8_differ 201 = .ok (.invokevirtual 111, 3) := by decide +kernel
theorem dX8_differ_204 : decode cX8_differ 204 = .ok (.iconst (-1), 1) := by decide +kernel
theorem dX8_differ_205 : decode cX8_differ 205 = .ok (.if_icmp .ne 6, 3) := by decide +kernel
theorem dX8_differ_208 : decode cX8_differ 208 = .ok (.iinc 3 1, 3) := by decide +kernel
theorem dX8_differ_211 : decode cX8_differ 211 = .ok (.iinc 8 1, 3) := by decide +kernel
theorem dX8_differ_214 : decode cX8_differ 214 = .ok (.goto (-141), 3) := by decide +kernel
theorem dX8_differ_217 : decode cX8_differ 217 = .ok (.iconst 1, 1) := by decide +kernel
theorem dX8_differ_218 : decode cX8_differ 218 = .ok (.istore 8, 2) := by decide +kernel
theorem dX8_differ_220 : decode cX8_differ 220 = .ok (.iload 8, 2) := by decide +kernel
theorem dX8_differ_222 : decode cX8_differ 222 = .ok (.aload_n 0, 1) := by decide +kernel
theorem dX8_differ_223 : decode cX8_differ 223 = .ok (.getfield 7, 3) := by decide +kernel
theorem dX8_differ_226 : decode cX8_differ 226 = .ok (.if_icmp .ge 101, 3) := by decide +kernel
theorem dX8_differ_229 : decode cX8_differ 229 = .ok (.aload_n 0, 1) := by decide +kernel
theorem dX8_differ_230 : decode cX8_differ 230 = .ok (.getfield 13, 3) := by decide +kernel
theorem dX8_differ_233 : decode cX8_differ 233 = .ok (.iload 8, 2) := by decide +kernel
theorem dX8_differ_235 : decode cX8_differ 235 = .ok (.iaload, 1) := by decide +kernel
theorem dX8_differ_236 : decode cX8_differ 236 = .ok (.iload 6, 2) := by decide +kernel
theorem dX8_differ_238 : decode cX8_differ 238 = .ok (.if_icmp .ne 51, 3) := by decide +kernel
theorem dX8_differ_241 : decode cX8_differ 241 = .ok (.aload_n 0, 1) := by decide +kernel
theorem dX8_differ_242 : decode cX8_differ 242 = .ok (.iload 7, 2) := by decide +kernel
theorem dX8_differ_244 : decode cX8_differ 244 = .ok (.aload_n 0, 1) := by decide +kernel
theorem dX8_differ_245 : decode cX8_differ 245 = .ok (.getfield 17, 3) := by decide +kernel
theorem dX8_differ_248 : decode cX8_differ 248 = .ok (.iload 8, 2) := by decide +kernel
theorem dX8_differ_250 : decode cX8_differ 250 = .ok (.iaload, 1) := by decide +kernel
theorem dX8_differ_251 : decode cX8_differ 251 = .ok (.invokevirtual 104, 3) := by decide +kernel
theorem dX8_differ_254 : decode cX8_differ 254 = .ok (.istore 9, 2) := by decide +kernel
theorem dX8_differ_256 : decode cX8_differ 256 = .ok (.iload 9, 2) := by decide +kernel
theorem dX8_differ_258 : decode cX8_differ 258 = .ok (.iconst (-1), 1) := by decide +kernel
theorem dX8_differ_259 : decode cX8_differ 259 = .ok (.if_icmp .ne 9, 3) := by decide +kernel
theorem dX8_differ_262 : decode cX8_differ 262 = .ok (.iinc 3 1, 3) := by decide +kernel
theorem dX8_differ_265 : decode cX8_differ 265 = .ok (.goto 24, 3) := by decide +kernel
theorem dX8_differ_268 : decode cX8_differ 268 = .ok (.aload_n 0, 1) := by decide +kernel
theorem dX8_differ_269 : decode cX8_differ 269 = .ok (.getfield 75, 3) := by decide +kernel
theorem dX8_differ_272 : decode cX8_differ 272 = .ok (.iload 4, 2) := by decide +kernel
theorem dX8_differ_274 : decode cX8_differ 274 = .ok (.iload 8, 2) := by decide +kernel
theorem dX8_differ_276 : decode cX8_differ 276 = .ok (.iastore, 1) := by decide +kernel
theorem dX8_differ_277 : decode cX8_differ 277 = .ok (.aload_n 0, 1) := by decide +kernel
theorem dX8_differ_278 : decode cX8_differ 278 = .ok (.getfield 78, 3) := by decide +kernel
theorem dX8_differ_281 : decode cX8_differ 281 = .ok (.iload 4, 2) := by decide +kernel
theorem dX8_differ_283 : decode cX8_differ 283 = .ok (.iload 9, 2) := by decide +kernel
theorem dX8_differ_285 : decode cX8_differ 285 = .ok (.iastore, 1) := by decide +kernel
theorem dX8_differ_286 : decode cX8_differ 286 = .ok (.iinc 4 1, 3) := by decide +kernel
theorem dX8_differ_289 : decode cX8_differ 289 = .ok (.aload_n 0, 1) := by decide +kernel
theorem dX8_differ_290 : decode cX8_differ 290 = .ok (.getfield 13, 3) := by decide +kernel
theorem dX8_differ_293 : decode cX8_differ 293 = .ok (.iload 8, 2) := by decide +kernel
theorem dX8_differ_295 : decode cX8_differ 295 = .ok (.iaload, 1) := by decide +kernel
theorem dX8_differ_296 : decode cX8_differ 296 = .ok (.iload 7, 2) := by decide +kernel
theorem dX8_differ_298 : decode cX8_differ 298 = .ok (.if_icmp .ne 23, 3) := by decide +kernel
theorem dX8_differ_301 : decode cX8_differ 301 = .ok (.aload_n 0, 1) := by decide +kernel
theorem dX8_differ_302 : decode cX8_differ 302 = .ok (.iload 6, 2) := by decide +kernel
theorem dX8_differ_304 : decode cX8_differ 304 = .ok (.aload_n 0, 1) := by decide +kernel
theorem dX8_differ_305 : decode cX8_differ 305 = .ok (.getfield 17, 3) := by decide +kernel
theorem dX8_differ_308 : decode cX8_differ 308 = .ok (.iload 8, 2) := by decide +kernel
theorem dX8_differ_310 : decode cX8_differ 310 = .ok (.iaload, 1) := by decide +kernel
theorem dX8_differ_311 : decode cX8_differ 311 = .ok (.invokevirtual 104, 3) := by decide +kernel
theorem dX8_differ_314 : decode cX8_differ 314 = .ok (.iconst (-1), 1) := by decide +kernel
theorem dX8_differ_315 : decode cX8_differ 315 = .ok (.if_icmp .ne 6, 3) := by decide +kernel
theorem dX8_differ_318 : decode cX8_differ 318 = .ok (.iinc 3 1, 3) := by decide +kernel
theorem dX8_differ_321 : decode cX8_differ 321 = .ok (.iinc 8 1, 3) := by decide +kernel
theorem dX8_differ_324 : decode cX8_differ 324 = .ok (.goto (-104), 3) := by decide +kernel
theorem dX8_differ_327 : decode cX8_differ 327 = .ok (.iinc 5 1, 3) := by decide +kernel
theorem dX8_differ_330 : decode cX8_differ 330 = .ok (.goto (-285), 3) := by decide +kernel
theorem dX8_differ_333 : decode cX8_differ 333 = .ok (.iload_n 3, 1) := by decide +kernel
theorem dX8_differ_334 : decode cX8_differ 334 = .ok (.ireturn, 1) := by decide +kernel
set_option maxRecDepth 20000 in
theorem ggX8_wish_X8_right : GoodIn wsX8_wish wsX8_right := goodIn_r _ [9, 1, 15, 16, 17, 18, 19, 20, 21, 22, 23, 24, 25, 26, 27, 28, 29, 30, 31, 32, 33, 34, 35, 36, 37, 38, 39, 40, 41, 42, 43, 44, 45, 46, 47, 48] (by decide +kernel) (by decide +kernel)
set_option maxRecDepth 20000 in
theorem gX8_wish_X8_right : GoodIn wsX8_wish (wsV RX8 90 RX8 yX8_right wsX8_right) := goodIn_app (goodIn_of _ (by decide +kernel)) ggX8_wish_X8_right
set_option maxRecDepth 20000 in
theorem ggX8_wish_X8_isFolder : GoodIn wsX8_wish wsX8_isFolder := goodIn_r _ [13, 14, 5, 6, 7, 8, 9, 1, 15, 16, 17, 18, 19, 20, 21, 22, 23, 24, 25, 26, 27, 28, 29, 30, 31, 32, 33, 34, 35, 36, 37, 38, 39, 40, 41, 42, 43, 44, 45, 46, 47, 48] (by decide +kernel) (by decide +kernel)
set_option maxRecDepth 20000 in
theorem gX8_wish_X8_isFolder : GoodIn wsX8_wish (wsV RX8 97 RX8 yX8_isFolder wsX8_isFolder) := goodIn_app (goodIn_of _ (by decide +kernel)) ggX8_wish_X8_isFolder
theorem dX8_wish_0 : decode cX8_wish 0 = .ok (.aload_n 0, 1) := by decide +kernel
theorem dX8_wish_1 : decode cX8_wish 1 = .ok (.iconst 0, 1) := by decide +kernel
theorem dX8_wish_2 : decode cX8_wish 2 = .ok (.putfield 87, 3) := by decide +kernel
theorem dX8_wish_5 : decode cX8_wish 5 = .ok (.aload_n 0, 1) := by decide +kernel
theorem dX8_wish_6 : decode cX8_wish 6 = .ok (.iload_n 1, 1) := by decide +kernel
theorem dX8_wish_7 : decode cX8_wish 7 = .ok (.ifCond .lt 12, 3) := by decide +kernel
theorem dX8_wish_10 : decode cX8_wish 10 = .ok (.iload_n 1, 1) := by decide +kernel
theorem dX8_wish_11 : decode cX8_wish 11 = .ok (.iconst 5, 1) := by decide +kernel
theorem dX8_wish_12 : decode cX8_wish 12 = .ok (.if_icmp .gt 7, 3) := by decide +kernel
theorem dX8_wish_15 : decode cX8_wish 15 = .ok (.iconst 1, 1) := by decide +kernel
theorem dX8_wish_16 : decode cX8_wish 16 = .ok (.goto 4, 3) := by decide +kernel
theorem dX8_wish_19 : decode cX8_wish 19 = .ok (.iconst 0, 1) := by decide +kernel
theorem dX8_wish_20 : decode cX8_wish 20 = .ok (.iconst 2, 1) := by decide +kernel
theorem dX8_wish_21 : decode cX8_wish 21 = .ok (.invokevirtual 90, 3) := by decide +kernel
theorem dX8_wish_24 : decode cX8_wish 24 = .ok (.ifCond .eq 15, 3) := by decide +kernel
theorem dX8_wish_27 : decode cX8_wish 27 = .ok (.iload_n 1, 1) := by decide +kernel
theorem dX8_wish_28 : decode cX8_wish 28 = .ok (.ifCond .ne 13, 3) := by decide +kernel
theorem dX8_wish_31 : decode cX8_wish 31 = .ok (.aload_n 0, 1) := by decide +kernel
theorem dX8_wish_32 : decode cX8_wish 32 = .ok (.iload_n 2, 1) := by decide +kernel
theorem dX8_wish_33 : decode cX8_wish 33 = .ok (.invokevirtual 97, 3) := by decide +kernel
theorem dX8_wish_36 : decode cX8_wish 36 = .ok (.ifCond .ne 5, 3) := by decide +kernel
theorem dX8_wish_39 : decode cX8_wish 39 = .ok (.iconst 0, 1) := by decide +kernel
theorem dX8_wish_40 : decode cX8_wish 40 = .ok (.ireturn, 1) := by decide +kernel
theorem dX8_wish_41 : decode cX8_wish 41 = .ok (.iconst 0, 1) := by decide +kernel
theorem dX8_wish_42 : decode cX8_wish 42 = .ok (.istore_n 3, 1) := by decide +kernel
theorem dX8_wish_43 : decode cX8_wish 43 = .ok (.iload_n 3, 1) := by decide +kernel
theorem dX8_wish_44 : decode cX8_wish 44 = .ok (.aload_n 0, 1) := by decide +kernel
theorem dX8_wish_45 : decode cX8_wish 45 = .ok (.getfield 184, 3) := by decide +kernel
theorem dX8_wish_48 : decode cX8_wish 48 = .ok (.if_icmp .ge 35, 3) := by decide +kernel
theorem dX8_wish_51 : decode cX8_wish 51 = .ok (.aload_n 0, 1) := by decide +kernel
theorem dX8_wish_52 : decode cX8_wish 52 = .ok (.getfield 48, 3) := by decide +kernel
theorem dX8_wish_55 : decode cX8_wish 55 = .ok (.iload_n 3, 1) := by decide +kernel
theorem dX8_wish_56 : decode cX8_wish 56 = .ok (.iaload, 1) := by decide +kernel
theorem dX8_wish_57 : decode cX8_wish 57 = .ok (.iload_n 1, 1) := by decide +kernel
theorem dX8_wish_58 : decode cX8_wish 58 = .ok (.if_icmp .ne 19, 3) := by decide +kernel
theorem dX8_wish_61 : decode cX8_wish 61 = .ok (.iload_n 1, 1) := by decide +kernel
theorem dX8_wish_62 : decode cX8_wish 62 = .ok (.ifCond .ne 13, 3) := by decide +kernel
theorem dX8_wish_65 : decode cX8_wish 65 = .ok (.aload_n 0, 1) := by decide +kernel
theorem dX8_wish_66 : decode cX8_wish 66 = .ok (.getfield 51, 3) := by decide +kernel
theorem dX8_wish_69 : decode cX8_wish 69 = .ok (.iload_n 3, 1) := by decide +kernel
theorem dX8_wish_70 : decode cX8_wish 70 = .ok (.iaload, 1) := by decide +kernel
theorem dX8_wish_71 : decode cX8_wish 71 = .ok (.iload_n 2, 1) := by decide +kernel
theorem dX8_wish_72 : decode cX8_wish 72 = .ok (.if_icmp .ne 5, 3) := by decide +kernel
theorem dX8_wish_75 : decode cX8_wish 75 = .ok (.iconst (-1), 1) := by decide +kernel
theorem dX8_wish_76 : decode cX8_wish 76 = .ok (.ireturn, 1) := by decide +kernel
theorem dX8_wish_77 : decode cX8_wish 77 = .ok (.iinc 3 1, 3) := by decide +kernel
theorem dX8_wish_80 : decode cX8_wish 80 = .ok (.goto (-37), 3) := by decide +kernel
theorem dX8_wish_83 : decode cX8_wish 83 = .ok (.aload_n 0, 1) := by decide +kernel
theorem dX8_wish_84 : decode cX8_wish 84 = .ok (.getfield 184, 3) := by decide +kernel
theorem dX8_wish_87 : decode cX8_wish 87 = .ok (.iconst 3, 1) := by decide +kernel
theorem dX8_wish_88 : decode cX8_wish 88 = .ok (.if_icmp .ne 5, 3) := by decide +kernel
theorem dX8_wish_91 : decode cX8_wish 91 = .ok (.iconst (-1), 1) := by decide +kernel
theorem dX8_wish_92 : decode cX8_wish 92 = .ok (.ireturn, 1) := by decide +kernel
theorem dX8_wish_93 : decode cX8_wish 93 = .ok (.aload_n 0, 1) := by decide +kernel
theorem dX8_wish_94 : decode cX8_wish 94 = .ok (.getfield 48, 3) := by decide +kernel
theorem dX8_wish_97 : decode cX8_wish 97 = .ok (.aload_n 0, 1) := by decide +kernel
theorem dX8_wish_98 : decode cX8_wish 98 = .ok (.getfield 184, 3) := by decide +kernel
theorem dX8_wish_101 : decode cX8_wish 101 = .ok (.iload_n 1, 1) := by decide +kernel
theorem dX8_wish_102 : decode cX8_wish 102 = .ok (.iastore, 1) := by decide +kernel
theorem dX8_wish_103 : decode cX8_wish 103 = .ok (.aload_n 0, 1) := by decide +kernel
theorem dX8_wish_104 : decode cX8_wish 104 = .ok (.getfield 51, 3) := by decide +kernel
theorem dX8_wish_107 : decode cX8_wish 107 = .ok (.aload_n 0, 1) := by decide +kernel
theorem dX8_wish_108 : decode cX8_wish 108 = .ok (.getfield 184, 3) := by decide +kernel
theorem dX8_wish_111 : decode cX8_wish 111 = .ok (.iload_n 2, 1) := by decide +kernel
theorem dX8_wish_112 : decode cX8_wish 112 = .ok (.iastore, 1) := by decide +kernel
theorem dX8_wish_113 : decode cX8_wish 113 = .ok (.aload_n 0, 1) := by decide +kernel
theorem dX8_wish_114 : decode cX8_wish 114 = .ok (.dup, 1) := by decide +kernel
theorem dX8_wish_115 : decode cX8_wish 115 = .ok (.getfield 184, 3) := by decide +kernel
theorem dX8_wish_118 : decode cX8_wish 118 = .ok (.iconst 1, 1) := by decide +kernel
theorem dX8_wish_119 : decode cX8_wish 119 = .ok (.iadd, 1) := by decide +kernel
theorem dX8_wish_120 : decode cX8_wish 120 = .ok (.putfield 184, 3) := by decide +kernel
theorem dX8_wish_123 : decode cX8_wish 123 = .ok (.aload_n 0, 1) := by decide +kernel
theorem dX8_wish_124 : decode cX8_wish 124 = .ok (.getfield 184, 3) := by decide +kernel
theorem dX8_wish_127 : decode cX8_wish 127 = .ok (.ireturn, 1) := by decide +kernel
theorem dX8_unwish_0 : decode cX8_unwish 0 = .ok (.aload_n 0, 1) := by decide +kernel
theorem dX8_unwish_1 : decode cX8_unwish 1 = .ok (.iconst 0, 1) := by decide +kernel
theorem dX8_unwish_2 : decode cX8_unwish 2 = .ok (.putfield 87, 3) := by decide +kernel
theorem dX8_unwish_5 : decode cX8_unwish 5 = .ok (.aload_n 0, 1) := by decide +kernel
theorem dX8_unwish_6 : decode cX8_unwish 6 = .ok (.getfield 184, 3) := by decide +kernel
theorem dX8_unwish_9 : decode cX8_unwish 9 = .ok (.istore_n 1, 1) := by decide +kernel
theorem dX8_unwish_10 : decode cX8_unwish 10 = .ok (.aload_n 0, 1) := by decide +kernel
theorem dX8_unwish_11 : decode cX8_unwish 11 = .ok (.iconst 0, 1) := by decide +kernel
theorem dX8_unwish_12 : decode cX8_unwish 12 = .ok (.putfield 184, 3) := by decide +kernel
theorem dX8_unwish_15 : decode cX8_unwish 15 = .ok (.iload_n 1, 1) := by decide +kernel
theorem dX8_unwish_16 : decode cX8_unwish 16 = .ok (.ireturn, 1) := by decide +kernel
set_option maxRecDepth 20000 in
theorem ggX8_leave_X8_right : GoodIn wsX8_leave wsX8_right := goodIn_r _ [7, 1, 8, 9, 10, 11, 12, 13, 14, 15, 16, 17, 18, 19, 20, 21, 22, 23, 24, 25, 26, 27, 28, 29, 30, 31, 32, 33, 34, 35, 36, 37, 38, 39, 40, 41] (by decide +kernel) (by decide +kernel)
set_option maxRecDepth 20000 in
theorem gX8_leave_X8_right : GoodIn wsX8_leave (wsV RX8 90 RX8 yX8_right wsX8_right) := goodIn_app (goodIn_of _ (by decide +kernel)) ggX8_leave_X8_right
theorem dX8_leave_0 : decode cX8_leave 0 = .ok (.aload_n 0, 1) := by decide +kernel
theorem dX8_leave_1 : decode cX8_leave 1 = .ok (.iconst 0, 1) := by decide +kernel
theorem dX8_leave_2 : decode cX8_leave 2 = .ok (.putfield 87, 3) := by decide +kernel
theorem dX8_leave_5 : decode cX8_leave 5 = .ok (.aload_n 0, 1) := by decide +kernel
theorem dX8_leave_6 : decode cX8_leave 6 = .ok (.iload_n 1, 1) := by decide +kernel
theorem dX8_leave_7 : decode cX8_leave 7 = .ok (.ifCond .lt 23, 3) := by decide +kernel
theorem dX8_leave_10 : decode cX8_leave 10 = .ok (.iload_n 1, 1) := by decide +kernel
theorem dX8_leave_11 : decode cX8_leave 11 = .ok (.bipush 7, 2) := by decide +kernel
theorem dX8_leave_13 : decode cX8_leave 13 = .ok (.if_icmp .gt 17, 3) := by decide +kernel
theorem dX8_leave_16 : decode cX8_leave 16 = .ok (.iload_n 2, 1) := by decide +kernel
theorem dX8_leave_17 : decode cX8_leave 17 = .ok (.ifCond .lt 13, 3) := by decide +kernel
theorem dX8_leave_20 : decode cX8_leave 20 = .ok (.iload_n 2, 1) := by decide +kernel
theorem dX8_leave_21 : decode cX8_leave 21 = .ok (.bipush 7, 2) := by decide +kernel
theorem dX8_leave_23 : decode cX8_leave 23 = .ok (.if_icmp .gt 7, 3) := by decide +kernel
theorem dX8_leave_26 : decode cX8_leave 26 = .ok (.iconst 1, 1) := by decide +kernel
theorem dX8_leave_27 : decode cX8_leave 27 = .ok (.goto 4, 3) := by decide +kernel
theorem dX8_leave_30 : decode cX8_leave 30 = .ok (.iconst 0, 1) := by decide +kernel
theorem dX8_leave_31 : decode cX8_leave 31 = .ok (.iconst 1, 1) := by decide +kernel
theorem dX8_leave_32 : decode cX8_leave 32 = .ok (.invokevirtual 90, 3) := by decide +kernel
theorem dX8_leave_35 : decode cX8_leave 35 = .ok (.ifCond .ne 5, 3) := by decide +kernel
theorem dX8_leave_38 : decode cX8_leave 38 = .ok (.iconst 0, 1) := by decide +kernel
theorem dX8_leave_39 : decode cX8_leave 39 = .ok (.ireturn, 1) := by decide +kernel
theorem dX8_leave_40 : decode cX8_leave 40 = .ok (.aload_n 0, 1) := by decide +kernel
theorem dX8_leave_41 : decode cX8_leave 41 = .ok (.getfield 54, 3) := by decide +kernel
theorem dX8_leave_44 : decode cX8_leave 44 = .ok (.iload_n 1, 1) := by decide +kernel
theorem dX8_leave_45 : decode cX8_leave 45 = .ok (.iaload, 1) := by decide +kernel
theorem dX8_leave_46 : decode cX8_leave 46 = .ok (.iload_n 2, 1) := by decide +kernel
theorem dX8_leave_47 : decode cX8_leave 47 = .ok (.ishr, 1) := by decide +kernel
theorem dX8_leave_48 : decode cX8_leave 48 = .ok (.iconst 1, 1) := by decide +kernel
theorem dX8_leave_49 : decode cX8_leave 49 = .ok (.iand, 1) := by decide +kernel
theorem dX8_leave_50 : decode cX8_leave 50 = .ok (.iconst 1, 1) := by decide +kernel
theorem dX8_leave_51 : decode cX8_leave 51 = .ok (.if_icmp .ne 7, 3) := by decide +kernel
theorem dX8_leave_54 : decode cX8_leave 54 = .ok (.iconst 1, 1) := by decide +kernel
theorem dX8_leave_55 : decode cX8_leave 55 = .ok (.goto 4, 3) := by decide +kernel
theorem dX8_leave_58 : decode cX8_leave 58 = .ok (.iconst 0, 1) := by decide +kernel
theorem dX8_leave_59 : decode cX8_leave 59 = .ok (.istore_n 3, 1) := by decide +kernel
theorem dX8_leave_60 : decode cX8_leave 60 = .ok (.aload_n 0, 1) := by decide +kernel
theorem dX8_leave_61 : decode cX8_leave 61 = .ok (.getfield 54, 3) := by decide +kernel
theorem dX8_leave_64 : decode cX8_leave 64 = .ok (.iload_n 1, 1) := by decide +kernel
theorem dX8_leave_65 : decode cX8_leave 65 = .ok (.dup2, 1) := by decide +kernel
theorem dX8_leave_66 : decode cX8_leave 66 = .ok (.iaload, 1) := by decide +kernel
theorem dX8_leave_67 : decode cX8_leave 67 = .ok (.iconst 1, 1) := by decide +kernel
theorem dX8_leave_68 : decode cX8_leave 68 = .ok (.iload_n 2, 1) := by decide +kernel
theorem dX8_leave_69 : decode cX8_leave 69 = .ok (.ishl, 1) := by decide +kernel
theorem dX8_leave_70 : decode cX8_leave 70 = .ok (.ior, 1) := by decide +kernel
theorem dX8_leave_71 : decode cX8_leave 71 = .ok (.iastore, 1) := by decide +kernel
theorem dX8_leave_72 : decode cX8_leave 72 = .ok (.iload_n 3, 1) := by decide +kernel
theorem dX8_leave_73 : decode cX8_leave 73 = .ok (.ifCond .ne 7, 3) := by decide +kernel
theorem dX8_leave_76 : decode cX8_leave 76 = .ok (.iconst 1, 1) := by decide +kernel
theorem dX8_leave_77 : decode cX8_leave 77 = .ok (.goto 4, 3) := by decide +kernel
theorem dX8_leave_80 : decode cX8_leave 80 = .ok (.iconst 0, 1) := by decide +kernel
theorem dX8_leave_81 : decode cX8_leave 81 = .ok (.ireturn, 1) := by decide +kernel
theorem dX8_isBelow_0 : decode cX8_isBelow 0 = .ok (.aload_n 0, 1) := by decide +kernel
theorem dX8_isBelow_1 : decode cX8_isBelow 1 = .ok (.getfield 20, 3) := by decide +kernel
theorem dX8_isBelow_4 : decode cX8_isBelow 4 = .ok (.iload_n 1, 1) := by decide +kernel
theorem dX8_isBelow_5 : decode cX8_isBelow 5 = .ok (.iaload, 1) := by decide +kernel
theorem dX8_isBelow_6 : decode cX8_isBelow 6 = .ok (.istore_n 3, 1) := by decide +kernel
theorem dX8_isBelow_7 : decode cX8_isBelow 7 = .ok (.iload_n 3, 1) := by decide +kernel
theorem dX8_isBelow_8 : decode cX8_isBelow 8 = .ok (.iconst (-1), 1) := by decide +kernel
theorem dX8_isBelow_9 : decode cX8_isBelow 9 = .ok (.if_icmp .eq 18, 3) := by decide +kernel
theorem dX8_isBelow_12 : decode cX8_isBelow 12 = .ok (.iload_n 3, 1) := by decide +kernel
theorem dX8_isBelow_13 : decode cX8_isBelow 13 = .ok (.iload_n 2, 1) := by decide +kernel
theorem dX8_isBelow_14 : decode cX8_isBelow 14 = .ok (.if_icmp .eq 13, 3) := by decide +kernel
theorem dX8_isBelow_17 : decode cX8_isBelow 17 = .ok (.aload_n 0, 1) := by decide +kernel
theorem dX8_isBelow_18 : decode cX8_isBelow 18 = .ok (.getfield 13, 3) := by decide +kernel
theorem dX8_isBelow_21 : decode cX8_isBelow 21 = .ok (.iload_n 3, 1) := by decide +kernel
theorem dX8_isBelow_22 : decode cX8_isBelow 22 = .ok (.iaload, 1) := by decide +kernel
theorem dX8_isBelow_23 : decode cX8_isBelow 23 = .ok (.istore_n 3, 1) := by decide +kernel
theorem dX8_isBelow_24 : decode cX8_isBelow 24 = .ok (.goto (-17), 3) := by decide +kernel
theorem dX8_isBelow_27 : decode cX8_isBelow 27 = .ok (.iload_n 3, 1) := by decide +kernel
theorem dX8_isBelow_28 : decode cX8_isBelow 28 = .ok (.iload_n 2, 1) := by decide +kernel
theorem dX8_isBelow_29 : decode cX8_isBelow 29 = .ok (.if_icmp .ne 7, 3) := by decide +kernel
theorem dX8_isBelow_32 : decode cX8_isBelow 32 = .ok (.iconst 1, 1) := by decide +kernel
theorem dX8_isBelow_33 : decode cX8_isBelow 33 = .ok (.goto 4, 3) := by decide +kernel
theorem dX8_isBelow_36 : decode cX8_isBelow 36 = .ok (.iconst 0, 1) := by decide +kernel
theorem dX8_isBelow_37 : decode cX8_isBelow 37 = .ok (.ireturn, 1) := by decide +kernel
set_option maxRecDepth 20000 in
theorem ggX8_rank_X8_isBelow : GoodIn wsX8_rank wsX8_isBelow := goodIn_r _ [11, 12, 13, 18, 19, 20, 21, 22, 23, 24, 25, 26, 27, 28, 29, 30, 31, 32, 33, 34, 35, 36, 37, 38, 39, 40, 41, 42, 43, 44, 45, 46, 47, 48, 49, 50, 51] (by decide +kernel) (by decide +kernel)
set_option maxRecDepth 20000 in
theorem gX8_rank_X8_isBelow : GoodIn wsX8_rank (wsV RX8 187 RX8 yX8_isBelow wsX8_isBelow) := goodIn_app (goodIn_of _ (by decide +kernel)) ggX8_rank_X8_isBelow
set_option maxRecDepth 20000 in
theorem ggX8_rank_X8_above : GoodIn wsX8_rank wsX8_above := goodIn_r _ [17, 12, 13, 18, 19, 20, 21, 22, 23, 24, 25, 26, 27, 28, 29, 30, 31, 32, 33, 34, 35, 36, 37, 38, 39, 40, 41, 42, 43, 44, 45, 46, 47, 48, 49, 50, 51] (by decide +kernel) (by decide +kernel)
set_option maxRecDepth 20000 in
theorem gX8_rank_X8_above : GoodIn wsX8_rank (wsV RX8 149 RX8 yX8_above wsX8_above) := goodIn_app (goodIn_of _ (by decide +kernel)) ggX8_rank_X8_above
theorem dX8_rank_0 : decode cX8_rank 0 = .ok (.aload_n 0, 1) := by decide +kernel
theorem dX8_rank_1 : decode cX8_rank 1 = .ok (.getfield 48, 3) := by decide +kernel
theorem dX8_rank_4 : decode cX8_rank 4 = .ok (.iload_n 1, 1) := by decide +kernel
theorem dX8_rank_5 : decode cX8_rank 5 = .ok (.iaload, 1) := by decide +kernel
theorem dX8_rank_6 : decode cX8_rank 6 = .ok (.tableswitch 92 0 4 #[34, 54, 66, 79, 85], 34) := by decide +kernel
theorem dX8_rank_40 : decode cX8_rank 40 = .ok (.aload_n 0, 1) := by decide +kernel
theorem dX8_rank_41 : decode cX8_rank 41 = .ok (.iload_n 2, 1) := by decide +kernel
theorem dX8_rank_42 : decode cX8_rank 42 = .ok (.aload_n 0, 1) := by decide +kernel
theorem dX8_rank_43 : decode cX8_rank 43 = .ok (.getfield 51, 3) := by decide +kernel
theorem dX8_rank_46 : decode cX8_rank 46 = .ok (.iload_n 1, 1) := by decide +kernel
theorem dX8_rank_47 : decode cX8_rank 47 = .ok (.iaload, 1) := by decide +kernel
theorem dX8_rank_48 : decode cX8_rank 48 = .ok (.invokevirtual 187, 3) := by decide +kernel
theorem dX8_rank_51 : decode cX8_rank 51 = .ok (.ifCond .eq 7, 3) := by decide +kernel
theorem dX8_rank_54 : decode cX8_rank 54 = .ok (.iconst 0, 1) := by decide +kernel
theorem dX8_rank_55 : decode cX8_rank 55 = .ok (.goto 4, 3) := by decide +kernel
theorem dX8_rank_58 : decode cX8_rank 58 = .ok (.iconst 1, 1) := by decide +kernel
theorem dX8_rank_59 : decode cX8_rank 59 = .ok (.ireturn, 1) := by decide +kernel
theorem dX8_rank_60 : decode cX8_rank 60 = .ok (.aload_n 0, 1) := by decide +kernel
theorem dX8_rank_61 : decode cX8_rank 61 = .ok (.getfield 39, 3) := by decide +kernel
theorem dX8_rank_64 : decode cX8_rank 64 = .ok (.aload_n 0, 1) := by decide +kernel
theorem dX8_rank_65 : decode cX8_rank 65 = .ok (.getfield 26, 3) := by decide +kernel
theorem dX8_rank_68 : decode cX8_rank 68 = .ok (.iload_n 2, 1) := by decide +kernel
theorem dX8_rank_69 : decode cX8_rank 69 = .ok (.iaload, 1) := by decide +kernel
theorem dX8_rank_70 : decode cX8_rank 70 = .ok (.iaload, 1) := by decide +kernel
theorem dX8_rank_71 : decode cX8_rank 71 = .ok (.ireturn, 1) := by decide +kernel
theorem dX8_rank_72 : decode cX8_rank 72 = .ok (.aload_n 0, 1) := by decide +kernel
theorem dX8_rank_73 : decode cX8_rank 73 = .ok (.getfield 39, 3) := by decide +kernel
theorem dX8_rank_76 : decode cX8_rank 76 = .ok (.aload_n 0, 1) := by decide +kernel
theorem dX8_rank_77 : decode cX8_rank 77 = .ok (.getfield 26, 3) := by decide +kernel
theorem dX8_rank_80 : decode cX8_rank 80 = .ok (.iload_n 2, 1) := by decide +kernel
theorem dX8_rank_81 : decode cX8_rank 81 = .ok (.iaload, 1) := by decide +kernel
theorem dX8_rank_82 : decode cX8_rank 82 = .ok (.iaload, 1) := by decide +kernel
theorem dX8_rank_83 : decode cX8_rank 83 = .ok (.ineg, 1) := by decide +kernel
theorem dX8_rank_84 : decode cX8_rank 84 = .ok (.ireturn, 1) := by decide +kernel
theorem dX8_rank_85 : decode cX8_rank 85 = .ok (.aload_n 0, 1) := by decide +kernel
theorem dX8_rank_86 : decode cX8_rank 86 = .ok (.iload_n 2, 1) := by decide +kernel
theorem dX8_rank_87 : decode cX8_rank 87 = .ok (.invokevirtual 149, 3) := by decide +kernel
theorem dX8_rank_90 : decode cX8_rank 90 = .ok (.ireturn, 1) := by decide +kernel
theorem dX8_rank_91 : decode cX8_rank 91 = .ok (.aload_n 0, 1) := by decide +kernel
theorem dX8_rank_92 : decode cX8_rank 92 = .ok (.getfield 23, 3) := by decide +kernel
theorem dX8_rank_95 : decode cX8_rank 95 = .ok (.iload_n 2, 1) := by decide +kernel
theorem dX8_rank_96 : decode cX8_rank 96 = .ok (.iaload, 1) := by decide +kernel
theorem dX8_rank_97 : decode cX8_rank 97 = .ok (.ireturn, 1) := by decide +kernel
theorem dX8_rank_98 : decode cX8_rank 98 = .ok (.aload_n 0, 1) := by decide +kernel
theorem dX8_rank_99 : decode cX8_rank 99 = .ok (.getfield 29, 3) := by decide +kernel
theorem dX8_rank_102 : decode cX8_rank 102 = .ok (.iload_n 2, 1) := by decide +kernel
theorem dX8_rank_103 : decode cX8_rank 103 = .ok (.baload, 1) := by decide +kernel
theorem dX8_rank_104 : decode cX8_rank 104 = .ok (.ifCond .eq 7, 3) := by decide +kernel
theorem dX8_rank_107 : decode cX8_rank 107 = .ok (.iconst 0, 1) := by decide +kernel
theorem dX8_rank_108 : decode cX8_rank 108 = .ok (.goto 4, 3) := by decide +kernel
theorem dX8_rank_111 : decode cX8_rank 111 = .ok (.iconst 1, 1) := by decide +kernel
theorem dX8_rank_112 : decode cX8_rank 112 = .ok (.ireturn, 1) := by decide +kernel
set_option maxRecDepth 20000 in
theorem ggX8_isAhead_X8_rank : GoodIn wsX8_isAhead wsX8_rank := goodIn_r _ [6, 7, 8, 9, 10, 11, 12, 13, 14, 15, 5, 16, 17, 18, 19, 20, 21, 22, 23, 24, 25, 26, 27, 28, 29, 30, 31, 32, 33, 34, 35, 36, 37, 38, 39, 40, 41, 42, 43, 44, 45, 46, 47, 48, 49, 50, 51, 52, 53, 54, 55, 56] (by decide +kernel) (by decide +kernel)
set_option maxRecDepth 20000 in
theorem gX8_isAhead_X8_rank : GoodIn wsX8_isAhead (wsV RX8 190 RX8 yX8_rank wsX8_rank) := goodIn_app (goodIn_of _ (by decide +kernel)) ggX8_isAhead_X8_rank
theorem dX8_isAhead_0 : decode cX8_isAhead 0 = .ok (.iconst 0, 1) := by decide +kernel
theorem dX8_isAhead_1 : decode cX8_isAhead 1 = .ok (.istore_n 3, 1) := by decide +kernel
theorem dX8_isAhead_2 : decode cX8_isAhead 2 = .ok (.iload_n 3, 1) := by decide +kernel
theorem dX8_isAhead_3 : decode cX8_isAhead 3 = .ok (.aload_n 0, 1) := by decide +kernel
theorem dX8_isAhead_4 : decode cX8_isAhead 4 = .ok (.getfield 184, 3) := by decide +kernel
theorem dX8_isAhead_7 : decode cX8_isAhead 7 = .ok (.if_icmp .ge 45, 3) := by decide +kernel
theorem dX8_isAhead_10 : decode cX8_isAhead 10 = .ok (.aload_n 0, 1) := by decide +kernel
theorem dX8_isAhead_11 : decode cX8_isAhead 11 = .ok (.iload_n 3, 1) := by decide +kernel
theorem dX8_isAhead_12 : decode cX8_isAhead 12 = .ok (.iload_n 1, 1) := by decide +kernel
theorem dX8_isAhead_13 : decode cX8_isAhead 13 = .ok (.invokevirtual 190, 3) := by decide +kernel
theorem dX8_isAhead_16 : decode cX8_isAhead 16 = .ok (.aload_n 0, 1) := by decide +kernel
theorem dX8_isAhead_17 : decode cX8_isAhead 17 = .ok (.iload_n 3, 1) := by decide +kernel
theorem dX8_isAhead_18 : decode cX8_isAhead 18 = .ok (.iload_n 2, 1) := by decide +kernel
theorem dX8_isAhead_19 : decode cX8_isAhead 19 = .ok (.invokevirtual 190, 3) := by decide +kernel
theorem dX8_isAhead_22 : decode cX8_isAhead 22 = .ok (.if_icmp .eq 24, 3) := by decide +kernel
theorem dX8_isAhead_25 : decode cX8_isAhead 25 = .ok (.aload_n 0, 1) := by decide +kernel
theorem dX8_isAhead_26 : decode cX8_isAhead 26 = .ok (.iload_n 3, 1) := by decide +kernel
theorem dX8_isAhead_27 : decode cX8_isAhead 27 = .ok (.iload_n 1, 1) := by decide +kernel
theorem dX8_isAhead_28 : decode cX8_isAhead 28 = .ok (.invokevirtual 190, 3) := by decide +kernel
theorem dX8_isAhead_31 : decode cX8_isAhead 31 = .ok (.aload_n 0, 1) := by decide +kernel
theorem dX8_isAhead_32 : decode cX8_isAhead 32 = .ok (.iload_n 3, 1) := by decide +kernel
theorem dX8_isAhead_33 : decode cX8_isAhead 33 = .ok (.iload_n 2, 1) := by decide +kernel
theorem dX8_isAhead_34 : decode cX8_isAhead 34 = .ok (.invokevirtual 190, 3) := by decide +kernel
theorem dX8_isAhead_37 : decode cX8_isAhead 37 = .ok (.if_icmp .ge 7, 3) := by decide +kernel
theorem dX8_isAhead_40 : decode cX8_isAhead 40 = .ok (.iconst 1, 1) := by decide +kernel
theorem dX8_isAhead_41 : decode cX8_isAhead 41 = .ok (.goto 4, 3) := by decide +kernel
theorem dX8_isAhead_44 : decode cX8_isAhead 44 = .ok (.iconst 0, 1) := by decide +kernel
theorem dX8_isAhead_45 : decode cX8_isAhead 45 = .ok (.ireturn, 1) := by decide +kernel
theorem dX8_isAhead_46 : decode cX8_isAhead 46 = .ok (.iinc 3 1, 3) := by decide +kernel
theorem dX8_isAhead_49 : decode cX8_isAhead 49 = .ok (.goto (-47), 3) := by decide +kernel
theorem dX8_isAhead_52 : decode cX8_isAhead 52 = .ok (.iconst 0, 1) := by decide +kernel
theorem dX8_isAhead_53 : decode cX8_isAhead 53 = .ok (.ireturn, 1) := by decide +kernel
set_option maxRecDepth 20000 in
theorem ggX8_keptOf_X8_isMember : GoodIn wsX8_keptOf wsX8_isMember := goodIn_r _ [6, 7, 8, 9, 33, 34, 35, 36, 37, 38, 39, 40, 41, 42, 43, 44, 45, 46, 47, 48, 49, 50, 51, 52, 53, 54, 55, 56, 57, 58, 59, 60, 61, 62, 63, 64, 65, 66] (by decide +kernel) (by decide +kernel)
set_option maxRecDepth 20000 in
theorem gX8_keptOf_X8_isMember : GoodIn wsX8_keptOf (wsV RX8 168 RX8 yX8_isMember wsX8_isMember) := goodIn_app (goodIn_of _ (by decide +kernel)) ggX8_keptOf_X8_isMember
set_option maxRecDepth 20000 in
theorem ggX8_keptOf_X8_isAhead : GoodIn wsX8_keptOf wsX8_isAhead := goodIn_r _ [13, 14, 15, 16, 17, 5, 18, 19, 20, 21, 9, 22, 23, 24, 25, 26, 27, 7, 28, 29, 30, 31, 32, 33, 34, 35, 36, 37, 38, 39, 40, 41, 42, 43, 44, 45, 46, 47, 48, 49, 50, 51, 52, 53, 54, 55, 56, 57, 58, 59, 60, 61, 62, 63, 64, 65, 66] (by decide +kernel) (by decide +kernel)
set_option maxRecDepth 20000 in
theorem gX8_keptOf_X8_isAhead : GoodIn wsX8_keptOf (wsV RX8 193 RX8 yX8_isAhead wsX8_isAhead) := goodIn_app (goodIn_of _ (by decide +kernel)) ggX8_keptOf_X8_isAhead
theorem dX8_keptOf_0 : decode cX8_keptOf 0 = .ok (.iconst (-1), 1) := by decide +kernel
theorem dX8_keptOf_1 : decode cX8_keptOf 1 = .ok (.istore_n 2, 1) := by decide +kernel
theorem dX8_keptOf_2 : decode cX8_keptOf 2 = .ok (.iconst 0, 1) := by decide +kernel
theorem dX8_keptOf_3 : decode cX8_keptOf 3 = .ok (.istore_n 3, 1) := by decide +kernel
theorem dX8_keptOf_4 : decode cX8_keptOf 4 = .ok (.iload_n 3, 1) := by decide +kernel
theorem dX8_keptOf_5 : decode cX8_keptOf 5 = .ok (.aload_n 0, 1) := by decide +kernel
theorem dX8_keptOf_6 : decode cX8_keptOf 6 = .ok (.getfield 94, 3) := by decide +kernel
theorem dX8_keptOf_9 : decode cX8_keptOf 9 = .ok (.if_icmp .ge 34, 3) := by decide +kernel
theorem dX8_keptOf_12 : decode cX8_keptOf 12 = .ok (.aload_n 0, 1) := by decide +kernel
theorem dX8_keptOf_13 : decode cX8_keptOf 13 = .ok (.iload_n 1, 1) := by decide +kernel
theorem dX8_keptOf_14 : decode cX8_keptOf 14 = .ok (.iload_n 3, 1) := by decide +kernel
theorem dX8_keptOf_15 : decode cX8_keptOf 15 = .ok (.invokevirtual 168, 3) := by decide +kernel
theorem dX8_keptOf_18 : decode cX8_keptOf 18 = .ok (.ifCond .eq 19, 3) := by decide +kernel
theorem dX8_keptOf_21 : decode cX8_keptOf 21 = .ok (.iload_n 2, 1) := by decide +kernel
theorem dX8_keptOf_22 : decode cX8_keptOf 22 = .ok (.iconst (-1), 1) := by decide +kernel
theorem dX8_keptOf_23 : decode cX8_keptOf 23 = .ok (.if_icmp .eq 12, 3) := by decide +kernel
theorem dX8_keptOf_26 : decode cX8_keptOf 26 = .ok (.aload_n 0, 1) := by decide +kernel
theorem dX8_keptOf_27 : decode cX8_keptOf 27 = .ok (.iload_n 3, 1) := by decide +kernel
theorem dX8_keptOf_28 : decode cX8_keptOf 28 = .ok (.iload_n 2, 1) := by decide +kernel
theorem dX8_keptOf_29 : decode cX8_keptOf 29 = .ok (.invokevirtual 193, 3) := by decide +kernel
theorem dX8_keptOf_32 : decode cX8_keptOf 32 = .ok (.ifCond .eq 5, 3) := by decide +kernel
theorem dX8_keptOf_35 : decode cX8_keptOf 35 = .ok (.iload_n 3, 1) := by decide +kernel
theorem dX8_keptOf_36 : decode cX8_keptOf 36 = .ok (.istore_n 2, 1) := by decide +kernel
theorem dX8_keptOf_37 : decode cX8_keptOf 37 = .ok (.iinc 3 1, 3) := by decide +kernel
theorem dX8_keptOf_40 : decode cX8_keptOf 40 = .ok (.goto (-36), 3) := by decide +kernel
theorem dX8_keptOf_43 : decode cX8_keptOf 43 = .ok (.iload_n 2, 1) := by decide +kernel
theorem dX8_keptOf_44 : decode cX8_keptOf 44 = .ok (.ireturn, 1) := by decide +kernel
set_option maxRecDepth 20000 in
theorem ggX8_keep_X8_isGroup : GoodIn wsX8_keep wsX8_isGroup := goodIn_r _ [5, 6, 7, 8, 9, 10, 4, 11, 47, 48, 49, 50, 51, 52, 53, 54, 55, 56, 57, 58, 59, 60, 61, 62, 63, 64, 65, 66, 67, 68, 69, 70, 71, 72, 73, 74, 75, 76, 77, 78, 79, 80] (by decide +kernel) (by decide +kernel)
set_option maxRecDepth 20000 in
theorem gX8_keep_X8_isGroup : GoodIn wsX8_keep (wsV RX8 165 RX8 yX8_isGroup wsX8_isGroup) := goodIn_app (goodIn_of _ (by decide +kernel)) ggX8_keep_X8_isGroup
set_option maxRecDepth 20000 in
theorem ggX8_keep_X8_keptOf : GoodIn wsX8_keep wsX8_keptOf := goodIn_r _ [15, 16, 17, 18, 19, 4, 20, 21, 22, 23, 24, 25, 26, 27, 28, 29, 30, 31, 32, 33, 34, 35, 36, 37, 38, 39, 40, 41, 42, 43, 44, 45, 46, 47, 48, 49, 50, 51, 52, 53, 54, 55, 56, 57, 58, 59, 60, 61, 62, 63, 64, 65, 66, 67, 68, 69, 70, 71, 72, 73, 74, 75, 76, 77, 78, 79, 80] (by decide +kernel) (by decide +kernel)
set_option maxRecDepth 20000 in
theorem gX8_keep_X8_keptOf : GoodIn wsX8_keep (wsV RX8 196 RX8 yX8_keptOf wsX8_keptOf) := goodIn_app (goodIn_of _ (by decide +kernel)) ggX8_keep_X8_keptOf
theorem dX8_keep_0 : decode cX8_keep 0 = .ok (.aload_n 0, 1) := by decide +kernel
theorem dX8_keep_1 : decode cX8_keep 1 = .ok (.iload_n 1, 1) := by decide +kernel
theorem dX8_keep_2 : decode cX8_keep 2 = .ok (.invokevirtual 165, 3) := by decide +kernel
theorem dX8_keep_5 : decode cX8_keep 5 = .ok (.ifCond .eq 11, 3) := by decide +kernel
theorem dX8_keep_8 : decode cX8_keep 8 = .ok (.aload_n 0, 1) := by decide +kernel
theorem dX8_keep_9 : decode cX8_keep 9 = .ok (.iload_n 1, 1) := by decide +kernel
theorem dX8_keep_10 : decode cX8_keep 10 = .ok (.invokevirtual 196, 3) := by decide +kernel
theorem dX8_keep_13 : decode cX8_keep 13 = .ok (.goto 4, 3) := by decide +kernel
theorem dX8_keep_16 : decode cX8_keep 16 = .ok (.iconst 0, 1) := by decide +kernel
theorem dX8_keep_17 : decode cX8_keep 17 = .ok (.ireturn, 1) := by decide +kernel
set_option maxRecDepth 20000 in
theorem ggX8_merge_X8_isGroup : GoodIn wsX8_merge wsX8_isGroup := goodIn_r _ [14, 15, 16, 17, 18, 19, 13, 20, 70, 71, 72, 73, 74, 75, 76, 77, 78, 79, 80, 81, 82, 83, 84, 85, 86, 87, 88, 89, 90, 91, 92, 93, 94, 95, 96, 97, 98, 99, 100, 101, 102, 103] (by decide +kernel) (by decide +kernel)
set_option maxRecDepth 20000 in
theorem gX8_merge_X8_isGroup : GoodIn wsX8_merge (wsV RX8 165 RX8 yX8_isGroup wsX8_isGroup) := goodIn_app (goodIn_of _ (by decide +kernel)) ggX8_merge_X8_isGroup
set_option maxRecDepth 20000 in
theorem ggX8_merge_X8_keptOf : GoodIn wsX8_merge wsX8_keptOf := goodIn_r _ [24, 2, 25, 26, 27, 13, 28, 29, 30, 1, 31, 32, 33, 34, 35, 36, 37, 38, 39, 40, 41, 42, 43, 4, 44, 45, 46, 47, 48, 49, 50, 51, 52, 70, 71, 72, 73, 74, 75, 76, 77, 78, 79, 80, 81, 82, 83, 84, 85, 86, 87, 88, 89, 90, 91, 92, 93, 94, 95, 96, 97, 98, 99, 100, 101, 102, 103] (by decide +kernel) (by decide +kernel)
set_option maxRecDepth 20000 in
theorem gX8_merge_X8_keptOf : GoodIn wsX8_merge (wsV RX8 196 RX8 yX8_keptOf wsX8_keptOf) := goodIn_app (goodIn_of _ (by decide +kernel)) ggX8_merge_X8_keptOf
set_option maxRecDepth 20000 in
theorem ggX8_merge_X8_isMember : GoodIn wsX8_merge wsX8_isMember := goodIn_r _ [28, 29, 30, 1, 70, 71, 72, 73, 74, 75, 76, 77, 78, 79, 80, 81, 82, 83, 84, 85, 86, 87, 88, 89, 90, 91, 92, 93, 94, 95, 96, 97, 98, 99, 100, 101, 102, 103] (by decide +kernel) (by decide +kernel)
set_option maxRecDepth 20000 in
theorem gX8_merge_X8_isMember : GoodIn wsX8_merge (wsV RX8 168 RX8 yX8_isMember wsX8_isMember) := goodIn_app (goodIn_of _ (by decide +kernel)) ggX8_merge_X8_isMember
set_option maxRecDepth 20000 in
theorem ggX8_merge_X8_names : GoodIn wsX8_merge wsX8_names := goodIn_r _ [56, 2, 29, 1, 70, 71, 72, 73, 74, 75, 76, 77, 78, 79, 80, 81, 82, 83, 84, 85, 86, 87, 88, 89, 90, 91, 92, 93, 94, 95, 96, 97, 98, 99, 100, 101, 102, 103] (by decide +kernel) (by decide +kernel)
set_option maxRecDepth 20000 in
theorem gX8_merge_X8_names : GoodIn wsX8_merge (wsV RX8 135 RX8 yX8_names wsX8_names) := goodIn_app (goodIn_of _ (by decide +kernel)) ggX8_merge_X8_names
set_option maxRecDepth 20000 in
theorem ggX8_merge_X8_leaves : GoodIn wsX8_merge wsX8_leaves := goodIn_r _ [60, 30, 53, 54, 55, 13, 56, 2, 29, 1, 70, 71, 72, 73, 74, 75, 76, 77, 78, 79, 80, 81, 82, 83, 84, 85, 86, 87, 88, 89, 90, 91, 92, 93, 94, 95, 96, 97, 98, 99, 100, 101, 102, 103] (by decide +kernel) (by decide +kernel)
set_option maxRecDepth 20000 in
theorem gX8_merge_X8_leaves : GoodIn wsX8_merge (wsV RX8 139 RX8 yX8_leaves wsX8_leaves) := goodIn_app (goodIn_of _ (by decide +kernel)) ggX8_merge_X8_leaves
set_option maxRecDepth 20000 in
theorem ggX8_merge_X8_keeps : GoodIn wsX8_merge wsX8_keeps := goodIn_r _ [64, 65, 66, 67, 68, 69, 6, 7, 70, 71, 72, 73, 74, 75, 76, 77, 78, 79, 80, 81, 82, 83, 84, 85, 86, 87, 88, 89, 90, 91, 92, 93, 94, 95, 96, 97, 98, 99, 100, 101, 102, 103] (by decide +kernel) (by decide +kernel)
set_option maxRecDepth 20000 in
theorem gX8_merge_X8_keeps : GoodIn wsX8_merge (wsV RX8 202 RX8 yX8_keeps wsX8_keeps) := goodIn_app (goodIn_of _ (by decide +kernel)) ggX8_merge_X8_keeps
theorem dX8_merge_0 : decode cX8_merge 0 = .ok (.aload_n 0, 1) := by decide +kernel
theorem dX8_merge_1 : decode cX8_merge 1 = .ok (.iload_n 1, 1) := by decide +kernel
theorem dX8_merge_2 : decode cX8_merge 2 = .ok (.invokevirtual 165, 3) := by decide +kernel
theorem dX8_merge_5 : decode cX8_merge 5 = .ok (.ifCond .ne 5, 3) := by decide +kernel
theorem dX8_merge_8 : decode cX8_merge 8 = .ok (.iconst 0, 1) := by decide +kernel
theorem dX8_merge_9 : decode cX8_merge 9 = .ok (.ireturn, 1) := by decide +kernel
theorem dX8_merge_10 : decode cX8_merge 10 = .ok (.aload_n 0, 1) := by decide +kernel
theorem dX8_merge_11 : decode cX8_merge 11 = .ok (.iload_n 1, 1) := by decide +kernel
theorem dX8_merge_12 : decode cX8_merge 12 = .ok (.invokevirtual 196, 3) := by decide +kernel
theorem dX8_merge_15 : decode cX8_merge 15 = .ok (.istore_n 2, 1) := by decide +kernel
theorem dX8_merge_16 : decode cX8_merge 16 = .ok (.iload_n 2, 1) := by decide +kernel
theorem dX8_merge_17 : decode cX8_merge 17 = .ok (.iconst (-1), 1) := by decide +kernel
theorem dX8_merge_18 : decode cX8_merge 18 = .ok (.if_icmp .ne 5, 3) := by decide +kernel
theorem dX8_merge_21 : decode cX8_merge 21 = .ok (.iconst 0, 1) := by decide +kernel
theorem dX8_merge_22 : decode cX8_merge 22 = .ok (.ireturn, 1) := by decide +kernel
theorem dX8_merge_23 : decode cX8_merge 23 = .ok (.aload_n 0, 1) := by decide +kernel
theorem dX8_merge_24 : decode cX8_merge 24 = .ok (.getfield 26, 3) := by decide +kernel
theorem dX8_merge_27 : decode cX8_merge 27 = .ok (.iload_n 2, 1) := by decide +kernel
theorem dX8_merge_28 : decode cX8_merge 28 = .ok (.iaload, 1) := by decide +kernel
theorem dX8_merge_29 : decode cX8_merge 29 = .ok (.istore_n 3, 1) := by decide +kernel
theorem dX8_merge_30 : decode cX8_merge 30 = .ok (.iconst 0, 1) := by decide +kernel
theorem dX8_merge_31 : decode cX8_merge 31 = .ok (.istore 4, 2) := by decide +kernel
theorem dX8_merge_33 : decode cX8_merge 33 = .ok (.iconst 0, 1) := by decide +kernel
theorem dX8_merge_34 : decode cX8_merge 34 = .ok (.istore 5, 2) := by decide +kernel
theorem dX8_merge_36 : decode cX8_merge 36 = .ok (.iload 5, 2) := by decide +kernel
theorem dX8_merge_38 : decode cX8_merge 38 = .ok (.aload_n 0, 1) := by decide +kernel
theorem dX8_merge_39 : decode cX8_merge 39 = .ok (.getfield 94, 3) := by decide +kernel
theorem dX8_merge_42 : decode cX8_merge 42 = .ok (.if_icmp .ge 108, 3) := by decide +kernel
theorem dX8_merge_45 : decode cX8_merge 45 = .ok (.aload_n 0, 1) := by decide +kernel
theorem dX8_merge_46 : decode cX8_merge 46 = .ok (.getfield 36, 3) := by decide +kernel
theorem dX8_merge_49 : decode cX8_merge 49 = .ok (.aload_n 0, 1) := by decide +kernel
theorem dX8_merge_50 : decode cX8_merge 50 = .ok (.getfield 26, 3) := by decide +kernel
theorem dX8_merge_53 : decode cX8_merge 53 = .ok (.iload 5, 2) := by decide +kernel
theorem dX8_merge_55 : decode cX8_merge 55 = .ok (.iaload, 1) := by decide +kernel
theorem dX8_merge_56 : decode cX8_merge 56 = .ok (.iaload, 1) := by decide +kernel
theorem dX8_merge_57 : decode cX8_merge 57 = .ok (.istore 6, 2) := by decide +kernel
theorem dX8_merge_59 : decode cX8_merge 59 = .ok (.aload_n 0, 1) := by decide +kernel
theorem dX8_merge_60 : decode cX8_merge 60 = .ok (.iload_n 1, 1) := by decide +kernel
theorem dX8_merge_61 : decode cX8_merge 61 = .ok (.iload 5, 2) := by decide +kernel
theorem dX8_merge_63 : decode cX8_merge 63 = .ok (.invokevirtual 168, 3) := by decide +kernel
theorem dX8_merge_66 : decode cX8_merge 66 = .ok (.ifCond .eq 78, 3) := by decide +kernel
theorem dX8_merge_69 : decode cX8_merge 69 = .ok (.aload_n 0, 1) := by decide +kernel
theorem dX8_merge_70 : decode cX8_merge 70 = .ok (.getfield 29, 3) := by decide +kernel
theorem dX8_merge_73 : decode cX8_merge 73 = .ok (.iload 5, 2) := by decide +kernel
theorem dX8_merge_75 : decode cX8_merge 75 = .ok (.baload, 1) := by decide +kernel
theorem dX8_merge_76 : decode cX8_merge 76 = .ok (.ifCond .ne 68, 3) := by decide +kernel
theorem dX8_merge_79 : decode cX8_merge 79 = .ok (.aload_n 0, 1) := by decide +kernel
theorem dX8_merge_80 : decode cX8_merge 80 = .ok (.getfield 26, 3) := by decide +kernel
theorem dX8_merge_83 : decode cX8_merge 83 = .ok (.iload 5, 2) := by decide +kernel
theorem dX8_merge_85 : decode cX8_merge 85 = .ok (.iaload, 1) := by decide +kernel
theorem dX8_merge_86 : decode cX8_merge 86 = .ok (.iload_n 3, 1) := by decide +kernel
theorem dX8_merge_87 : decode cX8_merge 87 = .ok (.if_icmp .eq 57, 3) := by decide +kernel
theorem dX8_merge_90 : decode cX8_merge 90 = .ok (.iload 6, 2) := by decide +kernel
theorem dX8_merge_92 : decode cX8_merge 92 = .ok (.aload_n 0, 1) := by decide +kernel
theorem dX8_merge_93 : decode cX8_merge 93 = .ok (.getfield 36, 3) := by decide +kernel
theorem dX8_merge_96 : decode cX8_merge 96 = .ok (.iload_n 3, 1) := by decide +kernel
theorem dX8_merge_97 : decode cX8_merge 97 = .ok (.iaload, 1) := by decide +kernel
theorem dX8_merge_98 : decode cX8_merge 98 = .ok (.if_icmp .eq 25, 3) := by decide +kernel
theorem dX8_merge_101 : decode cX8_merge 101 = .ok (.aload_n 0, 1) := by decide +kernel
theorem dX8_merge_102 : decode cX8_merge 102 = .ok (.getfield 54, 3) := by decide +kernel
theorem dX8_merge_105 : decode cX8_merge 105 = .ok (.aload_n 0, 1) := by decide +kernel
theorem dX8_merge_106 : decode cX8_merge 106 = .ok (.getfield 36, 3) := by decide +kernel
theorem dX8_merge_109 : decode cX8_merge 109 = .ok (.iload_n 3, 1) := by decide +kernel
theorem dX8_merge_110 : decode cX8_merge 110 = .ok (.iaload, 1) := by decide +kernel
theorem dX8_merge_111 : decode cX8_merge 111 = .ok (.iaload, 1) := by decide +kernel
theorem dX8_merge_112 : decode cX8_merge 112 = .ok (.iload 6, 2) := by decide +kernel
theorem dX8_merge_114 : decode cX8_merge 114 = .ok (.ishr, 1) := by decide +kernel
theorem dX8_merge_115 : decode cX8_merge 115 = .ok (.iconst 1, 1) := by decide +kernel
theorem dX8_merge_116 : decode cX8_merge 116 = .ok (.iand, 1) := by decide +kernel
theorem dX8_merge_117 : decode cX8_merge 117 = .ok (.ifCond .ne 6, 3) := by decide +kernel
theorem dX8_merge_120 : decode cX8_merge 120 = .ok (.goto 24, 3) := by decide +kernel
theorem dX8_merge_123 : decode cX8_merge 123 = .ok (.aload_n 0, 1) := by decide +kernel
theorem dX8_merge_124 : decode cX8_merge 124 = .ok (.getfield 81, 3) := by decide +kernel
theorem dX8_merge_127 : decode cX8_merge 127 = .ok (.iload 4, 2) := by decide +kernel
theorem dX8_merge_129 : decode cX8_merge 129 = .ok (.iload 5, 2) := by decide +kernel
theorem dX8_merge_131 : decode cX8_merge 131 = .ok (.iastore, 1) := by decide +kernel
theorem dX8_merge_132 : decode cX8_merge 132 = .ok (.aload_n 0, 1) := by decide +kernel
theorem dX8_merge_133 : decode cX8_merge 133 = .ok (.getfield 84, 3) := by decide +kernel
theorem dX8_merge_136 : decode cX8_merge 136 = .ok (.iload 4, 2) := by decide +kernel
theorem dX8_merge_138 : decode cX8_merge 138 = .ok (.iload 6, 2) := by decide +kernel
theorem dX8_merge_140 : decode cX8_merge 140 = .ok (.iastore, 1) := by decide +kernel
theorem dX8_merge_141 : decode cX8_merge 141 = .ok (.iinc 4 1, 3) := by decide +kernel
theorem dX8_merge_144 : decode cX8_merge 144 = .ok (.iinc 5 1, 3) := by decide +kernel
theorem dX8_merge_147 : decode cX8_merge 147 = .ok (.goto (-111), 3) := by decide +kernel
theorem dX8_merge_150 : decode cX8_merge 150 = .ok (.iconst 0, 1) := by decide +kernel
theorem dX8_merge_151 : decode cX8_merge 151 = .ok (.istore 5, 2) := by decide +kernel
theorem dX8_merge_153 : decode cX8_merge 153 = .ok (.iload 5, 2) := by decide +kernel
theorem dX8_merge_155 : decode cX8_merge 155 = .ok (.iload 4, 2) := by decide +kernel
theorem dX8_merge_157 : decode cX8_merge 157 = .ok (.if_icmp .ge 67, 3) := by decide +kernel
theorem dX8_merge_160 : decode cX8_merge 160 = .ok (.aload_n 0, 1) := by decide +kernel
theorem dX8_merge_161 : decode cX8_merge 161 = .ok (.getfield 26, 3) := by decide +kernel
theorem dX8_merge_164 : decode cX8_merge 164 = .ok (.aload_n 0, 1) := by decide +kernel
theorem dX8_merge_165 : decode cX8_merge 165 = .ok (.getfield 81, 3) := by decide +kernel
theorem dX8_merge_168 : decode cX8_merge 168 = .ok (.iload 5, 2) := by decide +kernel
theorem dX8_merge_170 : decode cX8_merge 170 = .ok (.iaload, 1) := by decide +kernel
theorem dX8_merge_171 : decode cX8_merge 171 = .ok (.iaload, 1) := by decide +kernel
theorem dX8_merge_172 : decode cX8_merge 172 = .ok (.istore 6, 2) := by decide +kernel
theorem dX8_merge_174 : decode cX8_merge 174 = .ok (.aload_n 0, 1) := by decide +kernel
theorem dX8_merge_175 : decode cX8_merge 175 = .ok (.getfield 26, 3) := by decide +kernel
theorem dX8_merge_178 : decode cX8_merge 178 = .ok (.aload_n 0, 1) := by decide +kernel
theorem dX8_merge_179 : decode cX8_merge 179 = .ok (.getfield 81, 3) := by decide +kernel
theorem dX8_merge_182 : decode cX8_merge 182 = .ok (.iload 5, 2) := by decide +kernel
theorem dX8_merge_184 : decode cX8_merge 184 = .ok (.iaload, 1) := by decide +kernel
theorem dX8_merge_185 : decode cX8_merge 185 = .ok (.iload_n 3, 1) := by decide +kernel
theorem dX8_merge_186 : decode cX8_merge 186 = .ok (.iastore, 1) := by decide +kernel
theorem dX8_merge_187 : decode cX8_merge 187 = .ok (.aload_n 0, 1) := by decide +kernel
theorem dX8_merge_188 : decode cX8_merge 188 = .ok (.iload 6, 2) := by decide +kernel
theorem dX8_merge_190 : decode cX8_merge 190 = .ok (.invokevirtual 135, 3) := by decide +kernel
theorem dX8_merge_193 : decode cX8_merge 193 = .ok (.ifCond .ne 19, 3) := by decide +kernel
theorem dX8_merge_196 : decode cX8_merge 196 = .ok (.aload_n 0, 1) := by decide +kernel
theorem dX8_merge_197 : decode cX8_merge 197 = .ok (.dup, 1) := by decide +kernel
theorem dX8_merge_198 : decode cX8_merge 198 = .ok (.getfield 199, 3) := by decide +kernel
theorem dX8_merge_201 : decode cX8_merge 201 = .ok (.aload_n 0, 1) := by decide +kernel
theorem dX8_merge_202 : decode cX8_merge 202 = .ok (.getfield 33, 3) := by decide +kernel
theorem dX8_merge_205 : decode cX8_merge 205 = .ok (.iload 6, 2) := by decide +kernel
theorem dX8_merge_207 : decode cX8_merge 207 = .ok (.iaload, 1) := by decide +kernel
theorem dX8_merge_208 : decode cX8_merge 208 = .ok (.iadd, 1) := by decide +kernel
theorem dX8_merge_209 : decode cX8_merge 209 = .ok (.putfield 199, 3) := by decide +kernel
theorem dX8_merge_212 : decode cX8_merge 212 = .ok (.aload_n 0, 1) := by decide +kernel
theorem dX8_merge_213 : decode cX8_merge 213 = .ok (.iload 6, 2) := by decide +kernel
theorem dX8_merge_215 : decode cX8_merge 215 = .ok (.invokevirtual 139, 3) := by decide +kernel
theorem dX8_merge_218 : decode cX8_merge 218 = .ok (.iinc 5 1, 3) := by decide +kernel
theorem dX8_merge_221 : decode cX8_merge 221 = .ok (.goto (-68), 3) := by decide +kernel
theorem dX8_merge_224 : decode cX8_merge 224 = .ok (.iload 4, 2) := by decide +kernel
theorem dX8_merge_226 : decode cX8_merge 226 = .ok (.ifCond .le 10, 3) := by decide +kernel
theorem dX8_merge_229 : decode cX8_merge 229 = .ok (.aload_n 0, 1) := by decide +kernel
theorem dX8_merge_230 : decode cX8_merge 230 = .ok (.iload_n 3, 1) := by decide +kernel
theorem dX8_merge_231 : decode cX8_merge 231 = .ok (.iload 4, 2) := by decide +kernel
theorem dX8_merge_233 : decode cX8_merge 233 = .ok (.invokevirtual 202, 3) := by decide +kernel
theorem dX8_merge_236 : decode cX8_merge 236 = .ok (.iload 4, 2) := by decide +kernel
theorem dX8_merge_238 : decode cX8_merge 238 = .ok (.ireturn, 1) := by decide +kernel
theorem dX8_keeps_0 : decode cX8_keeps 0 = .ok (.aload_n 0, 1) := by decide +kernel
theorem dX8_keeps_1 : decode cX8_keeps 1 = .ok (.getfield 205, 3) := by decide +kernel
theorem dX8_keeps_4 : decode cX8_keeps 4 = .ok (.bipush 20, 2) := by decide +kernel
theorem dX8_keeps_6 : decode cX8_keeps 6 = .ok (.if_icmp .ne 125, 3) := by decide +kernel
theorem dX8_keeps_9 : decode cX8_keeps 9 = .ok (.iconst 0, 1) := by decide +kernel
theorem dX8_keeps_10 : decode cX8_keeps 10 = .ok (.istore_n 3, 1) := by decide +kernel
theorem dX8_keeps_11 : decode cX8_keeps 11 = .ok (.iload_n 3, 1) := by decide +kernel
theorem dX8_keeps_12 : decode cX8_keeps 12 = .ok (.bipush 19, 2) := by decide +kernel
theorem dX8_keeps_14 : decode cX8_keeps 14 = .ok (.if_icmp .ge 107, 3) := by decide +kernel
theorem dX8_keeps_17 : decode cX8_keeps 17 = .ok (.aload_n 0, 1) := by decide +kernel
theorem dX8_keeps_18 : decode cX8_keeps 18 = .ok (.getfield 57, 3) := by decide +kernel
theorem dX8_keeps_21 : decode cX8_keeps 21 = .ok (.iload_n 3, 1) := by decide +kernel
theorem dX8_keeps_22 : decode cX8_keeps 22 = .ok (.aload_n 0, 1) := by decide +kernel
theorem dX8_keeps_23 : decode cX8_keeps 23 = .ok (.getfield 57, 3) := by decide +kernel
theorem dX8_keeps_26 : decode cX8_keeps 26 = .ok (.iload_n 3, 1) := by decide +kernel
theorem dX8_keeps_27 : decode cX8_keeps 27 = .ok (.iconst 1, 1) := by decide +kernel
theorem dX8_keeps_28 : decode cX8_keeps 28 = .ok (.iadd, 1) := by decide +kernel
theorem dX8_keeps_29 : decode cX8_keeps 29 = .ok (.iaload, 1) := by decide +kernel
theorem dX8_keeps_30 : decode cX8_keeps 30 = .ok (.iastore, 1) := by decide +kernel
theorem dX8_keeps_31 : decode cX8_keeps 31 = .ok (.aload_n 0, 1) := by decide +kernel
theorem dX8_keeps_32 : decode cX8_keeps 32 = .ok (.getfield 60, 3) := by decide +kernel
theorem dX8_keeps_35 : decode cX8_keeps 35 = .ok (.iload_n 3, 1) := by decide +kernel
theorem dX8_keeps_36 : decode cX8_keeps 36 = .ok (.aload_n 0, 1) := by decide +kernel
theorem dX8_keeps_37 : decode cX8_keeps 37 = .ok (.getfield 60, 3) := by decide +kernel
theorem dX8_keeps_40 : decode cX8_keeps 40 = .ok (.iload_n 3, 1) := by decide +kernel
theorem dX8_keeps_41 : decode cX8_keeps 41 = .ok (.iconst 1, 1) := by decide +kernel
theorem dX8_keeps_42 : decode cX8_keeps 42 = .ok (.iadd, 1) := by decide +kernel
theorem dX8_keeps_43 : decode cX8_keeps 43 = .ok (.iaload, 1) := by decide +kernel
theorem dX8_keeps_44 : decode cX8_keeps 44 = .ok (.iastore, 1) := by decide +kernel
theorem dX8_keeps_45 : decode cX8_keeps 45 = .ok (.iconst 0, 1) := by decide +kernel
theorem dX8_keeps_46 : decode cX8_keeps 46 = .ok (.istore 4, 2) := by decide +kernel
theorem dX8_keeps_48 : decode cX8_keeps 48 = .ok (.iload 4, 2) := by decide +kernel
theorem dX8_keeps_50 : decode cX8_keeps 50 = .ok (.bipush 60, 2) := by decide +kernel
theorem dX8_keeps_52 : decode cX8_keeps 52 = .ok (.if_icmp .ge 63, 3) := by decide +kernel
theorem dX8_keeps_55 : decode cX8_keeps 55 = .ok (.aload_n 0, 1) := by decide +kernel
theorem dX8_keeps_56 : decode cX8_keeps 56 = .ok (.getfield 63, 3) := by decide +kernel
theorem dX8_keeps_59 : decode cX8_keeps 59 = .ok (.bipush 60, 2) := by decide +kernel
theorem dX8_keeps_61 : decode cX8_keeps 61 = .ok (.iload_n 3, 1) := by decide +kernel
theorem dX8_keeps_62 : decode cX8_keeps 62 = .ok (.imul, 1) := by decide +kernel
theorem dX8_keeps_63 : decode cX8_keeps 63 = .ok (.iload 4, 2) := by decide +kernel
theorem dX8_keeps_65 : decode cX8_keeps 65 = .ok (.iadd, 1) := by decide +kernel
theorem dX8_keeps_66 : decode cX8_keeps 66 = .ok (.aload_n 0, 1) := by decide +kernel
theorem dX8_keeps_67 : decode cX8_keeps 67 = .ok (.getfield 63, 3) := by decide +kernel
theorem dX8_keeps_70 : decode cX8_keeps 70 = .ok (.bipush 60, 2) := by decide +kernel
theorem dX8_keeps_72 : decode cX8_keeps 72 = .ok (.iload_n 3, 1) := by decide +kernel
theorem dX8_keeps_73 : decode cX8_keeps 73 = .ok (.imul, 1) := by decide +kernel
theorem dX8_keeps_74 : decode cX8_keeps 74 = .ok (.bipush 60, 2) := by decide +kernel
theorem dX8_keeps_76 : decode cX8_keeps 76 = .ok (.iadd, 1) := by decide +kernel
theorem dX8_keeps_77 : decode cX8_keeps 77 = .ok (.iload 4, 2) := by decide +kernel
theorem dX8_keeps_79 : decode cX8_keeps 79 = .ok (.iadd, 1) := by decide +kernel
theorem dX8_keeps_80 : decode cX8_keeps 80 = .ok (.iaload, 1) := by decide +kernel
theorem dX8_keeps_81 : decode cX8_keeps 81 = .ok (.iastore, 1) := by decide +kernel
theorem dX8_keeps_82 : decode cX8_keeps 82 = .ok (.aload_n 0, 1) := by decide +kernel
theorem dX8_keeps_83 : decode cX8_keeps 83 = .ok (.getfield 66, 3) := by decide +kernel
theorem dX8_keeps_86 : decode cX8_keeps 86 = .ok (.bipush 60, 2) := by decide +kernel
theorem dX8_keeps_88 : decode cX8_keeps 88 = .ok (.iload_n 3, 1) := by decide +kernel
theorem dX8_keeps_89 : decode cX8_keeps 89 = .ok (.imul, 1) := by decide +kernel
theorem dX8_keeps_90 : decode cX8_keeps 90 = .ok (.iload 4, 2) := by decide +kernel
theorem dX8_keeps_92 : decode cX8_keeps 92 = .ok (.iadd, 1) := by decide +kernel
theorem dX8_keeps_93 : decode cX8_keeps 93 = .ok (.aload_n 0, 1) := by decide +kernel
theorem dX8_keeps_94 : decode cX8_keeps 94 = .ok (.getfield 66, 3) := by decide +kernel
theorem dX8_keeps_97 : decode cX8_keeps 97 = .ok (.bipush 60, 2) := by decide +kernel
theorem dX8_keeps_99 : decode cX8_keeps 99 = .ok (.iload_n 3, 1) := by decide +kernel
theorem dX8_keeps_100 : decode cX8_keeps 100 = .ok (.imul, 1) := by decide +kernel
theorem dX8_keeps_101 : decode cX8_keeps 101 = .ok (.bipush 60, 2) := by decide +kernel
theorem dX8_keeps_103 : decode cX8_keeps 103 = .ok (.iadd, 1) := by decide +kernel
theorem dX8_keeps_104 : decode cX8_keeps 104 = .ok (.iload 4, 2) := by decide +kernel
theorem dX8_keeps_106 : decode cX8_keeps 106 = .ok (.iadd, 1) := by decide +kernel
theorem dX8_keeps_107 : decode cX8_keeps 107 = .ok (.iaload, 1) := by decide +kernel
theorem dX8_keeps_108 : decode cX8_keeps 108 = .ok (.iastore, 1) := by decide +kernel
theorem dX8_keeps_109 : decode cX8_keeps 109 = .ok (.iinc 4 1, 3) := by decide +kernel
theorem dX8_keeps_112 : decode cX8_keeps 112 = .ok (.goto (-64), 3) := by decide +kernel
theorem dX8_keeps_115 : decode cX8_keeps 115 = .ok (.iinc 3 1, 3) := by decide +kernel
theorem dX8_keeps_118 : decode cX8_keeps 118 = .ok (.goto (-107), 3) := by decide +kernel
theorem dX8_keeps_121 : decode cX8_keeps 121 = .ok (.aload_n 0, 1) := by decide +kernel
theorem dX8_keeps_122 : decode cX8_keeps 122 = .ok (.dup, 1) := by decide +kernel
theorem dX8_keeps_123 : decode cX8_keeps 123 = .ok (.getfield 205, 3) := by decide +kernel
theorem dX8_keeps_126 : decode cX8_keeps 126 = .ok (.iconst 1, 1) := by decide +kernel
theorem dX8_keeps_127 : decode cX8_keeps 127 = .ok (.isub, 1) := by decide +kernel
theorem dX8_keeps_128 : decode cX8_keeps 128 = .ok (.putfield 205, 3) := by decide +kernel
theorem dX8_keeps_131 : decode cX8_keeps 131 = .ok (.aload_n 0, 1) := by decide +kernel
theorem dX8_keeps_132 : decode cX8_keeps 132 = .ok (.getfield 57, 3) := by decide +kernel
theorem dX8_keeps_135 : decode cX8_keeps 135 = .ok (.aload_n 0, 1) := by decide +kernel
theorem dX8_keeps_136 : decode cX8_keeps 136 = .ok (.getfield 205, 3) := by decide +kernel
theorem dX8_keeps_139 : decode cX8_keeps 139 = .ok (.iload_n 2, 1) := by decide +kernel
theorem dX8_keeps_140 : decode cX8_keeps 140 = .ok (.iastore, 1) := by decide +kernel
theorem dX8_keeps_141 : decode cX8_keeps 141 = .ok (.aload_n 0, 1) := by decide +kernel
theorem dX8_keeps_142 : decode cX8_keeps 142 = .ok (.getfield 60, 3) := by decide +kernel
theorem dX8_keeps_145 : decode cX8_keeps 145 = .ok (.aload_n 0, 1) := by decide +kernel
theorem dX8_keeps_146 : decode cX8_keeps 146 = .ok (.getfield 205, 3) := by decide +kernel
theorem dX8_keeps_149 : decode cX8_keeps 149 = .ok (.iload_n 1, 1) := by decide +kernel
theorem dX8_keeps_150 : decode cX8_keeps 150 = .ok (.iastore, 1) := by decide +kernel
theorem dX8_keeps_151 : decode cX8_keeps 151 = .ok (.iconst 0, 1) := by decide +kernel
theorem dX8_keeps_152 : decode cX8_keeps 152 = .ok (.istore_n 3, 1) := by decide +kernel
theorem dX8_keeps_153 : decode cX8_keeps 153 = .ok (.iload_n 3, 1) := by decide +kernel
theorem dX8_keeps_154 : decode cX8_keeps 154 = .ok (.iload_n 2, 1) := by decide +kernel
theorem dX8_keeps_155 : decode cX8_keeps 155 = .ok (.if_icmp .ge 49, 3) := by decide +kernel
theorem dX8_keeps_158 : decode cX8_keeps 158 = .ok (.aload_n 0, 1) := by decide +kernel
theorem dX8_keeps_159 : decode cX8_keeps 159 = .ok (.getfield 63, 3) := by decide +kernel
theorem dX8_keeps_162 : decode cX8_keeps 162 = .ok (.bipush 60, 2) := by decide +kernel
theorem dX8_keeps_164 : decode cX8_keeps 164 = .ok (.aload_n 0, 1) := by decide +kernel
theorem dX8_keeps_165 : decode cX8_keeps 165 = .ok (.getfield 205, 3) := by decide +kernel
theorem dX8_keeps_168 : decode cX8_keeps 168 = .ok (.imul, 1) := by decide +kernel
theorem dX8_keeps_169 : decode cX8_keeps 169 = .ok (.iload_n 3, 1) := by decide +kernel
