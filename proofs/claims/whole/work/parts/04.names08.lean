theorem dX8_keeps_170 : decode cX8_keeps 170 = .ok (.iadd, 1) := by decide +kernel
theorem dX8_keeps_171 : decode cX8_keeps 171 = .ok (.aload_n 0, 1) := by decide +kernel
theorem dX8_keeps_172 : decode cX8_keeps 172 = .ok (.getfield 81, 3) := by decide +kernel
theorem dX8_keeps_175 : decode cX8_keeps 175 = .ok (.iload_n 3, 1) := by decide +kernel
theorem dX8_keeps_176 : decode cX8_keeps 176 = .ok (.iaload, 1) := by decide +kernel
theorem dX8_keeps_177 : decode cX8_keeps 177 = .ok (.iastore, 1) := by decide +kernel
theorem dX8_keeps_178 : decode cX8_keeps 178 = .ok (.aload_n 0, 1) := by decide +kernel
theorem dX8_keeps_179 : decode cX8_keeps 179 = .ok (.getfield 66, 3) := by decide +kernel
theorem dX8_keeps_182 : decode cX8_keeps 182 = .ok (.bipush 60, 2) := by decide +kernel
theorem dX8_keeps_184 : decode cX8_keeps 184 = .ok (.aload_n 0, 1) := by decide +kernel
theorem dX8_keeps_185 : decode cX8_keeps 185 = .ok (.getfield 205, 3) := by decide +kernel
theorem dX8_keeps_188 : decode cX8_keeps 188 = .ok (.imul, 1) := by decide +kernel
theorem dX8_keeps_189 : decode cX8_keeps 189 = .ok (.iload_n 3, 1) := by decide +kernel
theorem dX8_keeps_190 : decode cX8_keeps 190 = .ok (.iadd, 1) := by decide +kernel
theorem dX8_keeps_191 : decode cX8_keeps 191 = .ok (.aload_n 0, 1) := by decide +kernel
theorem dX8_keeps_192 : decode cX8_keeps 192 = .ok (.getfield 84, 3) := by decide +kernel
theorem dX8_keeps_195 : decode cX8_keeps 195 = .ok (.iload_n 3, 1) := by decide +kernel
theorem dX8_keeps_196 : decode cX8_keeps 196 = .ok (.iaload, 1) := by decide +kernel
theorem dX8_keeps_197 : decode cX8_keeps 197 = .ok (.iastore, 1) := by decide +kernel
theorem dX8_keeps_198 : decode cX8_keeps 198 = .ok (.iinc 3 1, 3) := by decide +kernel
theorem dX8_keeps_201 : decode cX8_keeps 201 = .ok (.goto (-48), 3) := by decide +kernel
theorem dX8_keeps_204 : decode cX8_keeps 204 = .ok (.aload_n 0, 1) := by decide +kernel
theorem dX8_keeps_205 : decode cX8_keeps 205 = .ok (.dup, 1) := by decide +kernel
theorem dX8_keeps_206 : decode cX8_keeps 206 = .ok (.getfield 205, 3) := by decide +kernel
theorem dX8_keeps_209 : decode cX8_keeps 209 = .ok (.iconst 1, 1) := by decide +kernel
theorem dX8_keeps_210 : decode cX8_keeps 210 = .ok (.iadd, 1) := by decide +kernel
theorem dX8_keeps_211 : decode cX8_keeps 211 = .ok (.putfield 205, 3) := by decide +kernel
theorem dX8_keeps_214 : decode cX8_keeps 214 = .ok (.return_, 1) := by decide +kernel
theorem dX8_isStill_0 : decode cX8_isStill 0 = .ok (.aload_n 0, 1) := by decide +kernel
theorem dX8_isStill_1 : decode cX8_isStill 1 = .ok (.getfield 63, 3) := by decide +kernel
theorem dX8_isStill_4 : decode cX8_isStill 4 = .ok (.bipush 60, 2) := by decide +kernel
theorem dX8_isStill_6 : decode cX8_isStill 6 = .ok (.iload_n 1, 1) := by decide +kernel
theorem dX8_isStill_7 : decode cX8_isStill 7 = .ok (.imul, 1) := by decide +kernel
theorem dX8_isStill_8 : decode cX8_isStill 8 = .ok (.iload_n 2, 1) := by decide +kernel
theorem dX8_isStill_9 : decode cX8_isStill 9 = .ok (.iadd, 1) := by decide +kernel
theorem dX8_isStill_10 : decode cX8_isStill 10 = .ok (.iaload, 1) := by decide +kernel
theorem dX8_isStill_11 : decode cX8_isStill 11 = .ok (.istore_n 3, 1) := by decide +kernel
theorem dX8_isStill_12 : decode cX8_isStill 12 = .ok (.aload_n 0, 1) := by decide +kernel
theorem dX8_isStill_13 : decode cX8_isStill 13 = .ok (.getfield 20, 3) := by decide +kernel
theorem dX8_isStill_16 : decode cX8_isStill 16 = .ok (.iload_n 3, 1) := by decide +kernel
theorem dX8_isStill_17 : decode cX8_isStill 17 = .ok (.iaload, 1) := by decide +kernel
theorem dX8_isStill_18 : decode cX8_isStill 18 = .ok (.iconst (-1), 1) := by decide +kernel
theorem dX8_isStill_19 : decode cX8_isStill 19 = .ok (.if_icmp .eq 22, 3) := by decide +kernel
theorem dX8_isStill_22 : decode cX8_isStill 22 = .ok (.aload_n 0, 1) := by decide +kernel
theorem dX8_isStill_23 : decode cX8_isStill 23 = .ok (.getfield 26, 3) := by decide +kernel
theorem dX8_isStill_26 : decode cX8_isStill 26 = .ok (.iload_n 3, 1) := by decide +kernel
theorem dX8_isStill_27 : decode cX8_isStill 27 = .ok (.iaload, 1) := by decide +kernel
theorem dX8_isStill_28 : decode cX8_isStill 28 = .ok (.aload_n 0, 1) := by decide +kernel
theorem dX8_isStill_29 : decode cX8_isStill 29 = .ok (.getfield 60, 3) := by decide +kernel
theorem dX8_isStill_32 : decode cX8_isStill 32 = .ok (.iload_n 1, 1) := by decide +kernel
theorem dX8_isStill_33 : decode cX8_isStill 33 = .ok (.iaload, 1) := by decide +kernel
theorem dX8_isStill_34 : decode cX8_isStill 34 = .ok (.if_icmp .ne 7, 3) := by decide +kernel
theorem dX8_isStill_37 : decode cX8_isStill 37 = .ok (.iconst 1, 1) := by decide +kernel
theorem dX8_isStill_38 : decode cX8_isStill 38 = .ok (.goto 4, 3) := by decide +kernel
theorem dX8_isStill_41 : decode cX8_isStill 41 = .ok (.iconst 0, 1) := by decide +kernel
theorem dX8_isStill_42 : decode cX8_isStill 42 = .ok (.ireturn, 1) := by decide +kernel
set_option maxRecDepth 20000 in
theorem ggX8_unmerge_X8_isStill : GoodIn wsX8_unmerge wsX8_isStill := goodIn_r _ [15, 10, 16, 9, 5, 37, 38, 39, 40, 41, 42, 43, 44, 45, 46, 47, 48, 49, 50, 51, 52, 53, 54, 55, 56, 57, 58, 59, 60, 61, 62, 63, 64, 65, 66, 67, 68, 69, 70] (by decide +kernel) (by decide +kernel)
set_option maxRecDepth 20000 in
theorem gX8_unmerge_X8_isStill : GoodIn wsX8_unmerge (wsV RX8 208 RX8 yX8_isStill wsX8_isStill) := goodIn_app (goodIn_of _ (by decide +kernel)) ggX8_unmerge_X8_isStill
set_option maxRecDepth 20000 in
theorem ggX8_unmerge_X8_newBody : GoodIn wsX8_unmerge wsX8_newBody := goodIn_r _ [20, 6, 4, 21, 8, 22, 37, 38, 39, 40, 41, 42, 43, 44, 45, 46, 47, 48, 49, 50, 51, 52, 53, 54, 55, 56, 57, 58, 59, 60, 61, 62, 63, 64, 65, 66, 67, 68, 69, 70] (by decide +kernel) (by decide +kernel)
set_option maxRecDepth 20000 in
theorem gX8_unmerge_X8_newBody : GoodIn wsX8_unmerge (wsV RX8 121 RX8 yX8_newBody wsX8_newBody) := goodIn_app (goodIn_of _ (by decide +kernel)) ggX8_unmerge_X8_newBody
set_option maxRecDepth 20000 in
theorem ggX8_unmerge_X8_fillsFrom : GoodIn wsX8_unmerge wsX8_fillsFrom := goodIn_r _ [26, 27, 37, 38, 39, 40, 41, 42, 43, 44, 45, 46, 47, 48, 49, 50, 51, 52, 53, 54, 55, 56, 57, 58, 59, 60, 61, 62, 63, 64, 65, 66, 67, 68, 69, 70] (by decide +kernel) (by decide +kernel)
set_option maxRecDepth 20000 in
theorem gX8_unmerge_X8_fillsFrom : GoodIn wsX8_unmerge (wsV RX8 131 RX8 yX8_fillsFrom wsX8_fillsFrom) := goodIn_app (goodIn_of _ (by decide +kernel)) ggX8_unmerge_X8_fillsFrom
set_option maxRecDepth 20000 in
theorem ggX8_unmerge_X8_leaves : GoodIn wsX8_unmerge wsX8_leaves := goodIn_r _ [31, 22, 32, 33, 34, 14, 35, 36, 16, 9, 37, 38, 39, 40, 41, 42, 43, 44, 45, 46, 47, 48, 49, 50, 51, 52, 53, 54, 55, 56, 57, 58, 59, 60, 61, 62, 63, 64, 65, 66, 67, 68, 69, 70] (by decide +kernel) (by decide +kernel)
set_option maxRecDepth 20000 in
theorem gX8_unmerge_X8_leaves : GoodIn wsX8_unmerge (wsV RX8 139 RX8 yX8_leaves wsX8_leaves) := goodIn_app (goodIn_of _ (by decide +kernel)) ggX8_unmerge_X8_leaves
theorem dX8_unmerge_0 : decode cX8_unmerge 0 = .ok (.aload_n 0, 1) := by decide +kernel
theorem dX8_unmerge_1 : decode cX8_unmerge 1 = .ok (.iconst 0, 1) := by decide +kernel
theorem dX8_unmerge_2 : decode cX8_unmerge 2 = .ok (.putfield 87, 3) := by decide +kernel
theorem dX8_unmerge_5 : decode cX8_unmerge 5 = .ok (.aload_n 0, 1) := by decide +kernel
theorem dX8_unmerge_6 : decode cX8_unmerge 6 = .ok (.getfield 205, 3) := by decide +kernel
theorem dX8_unmerge_9 : decode cX8_unmerge 9 = .ok (.ifCond .ne 5, 3) := by decide +kernel
theorem dX8_unmerge_12 : decode cX8_unmerge 12 = .ok (.iconst (-1), 1) := by decide +kernel
theorem dX8_unmerge_13 : decode cX8_unmerge 13 = .ok (.ireturn, 1) := by decide +kernel
theorem dX8_unmerge_14 : decode cX8_unmerge 14 = .ok (.aload_n 0, 1) := by decide +kernel
theorem dX8_unmerge_15 : decode cX8_unmerge 15 = .ok (.getfield 205, 3) := by decide +kernel
theorem dX8_unmerge_18 : decode cX8_unmerge 18 = .ok (.iconst 1, 1) := by decide +kernel
theorem dX8_unmerge_19 : decode cX8_unmerge 19 = .ok (.isub, 1) := by decide +kernel
theorem dX8_unmerge_20 : decode cX8_unmerge 20 = .ok (.istore_n 1, 1) := by decide +kernel
theorem dX8_unmerge_21 : decode cX8_unmerge 21 = .ok (.iconst 0, 1) := by decide +kernel
theorem dX8_unmerge_22 : decode cX8_unmerge 22 = .ok (.istore_n 2, 1) := by decide +kernel
theorem dX8_unmerge_23 : decode cX8_unmerge 23 = .ok (.iconst 0, 1) := by decide +kernel
theorem dX8_unmerge_24 : decode cX8_unmerge 24 = .ok (.istore_n 3, 1) := by decide +kernel
theorem dX8_unmerge_25 : decode cX8_unmerge 25 = .ok (.iload_n 3, 1) := by decide +kernel
theorem dX8_unmerge_26 : decode cX8_unmerge 26 = .ok (.aload_n 0, 1) := by decide +kernel
theorem dX8_unmerge_27 : decode cX8_unmerge 27 = .ok (.getfield 57, 3) := by decide +kernel
theorem dX8_unmerge_30 : decode cX8_unmerge 30 = .ok (.iload_n 1, 1) := by decide +kernel
theorem dX8_unmerge_31 : decode cX8_unmerge 31 = .ok (.iaload, 1) := by decide +kernel
theorem dX8_unmerge_32 : decode cX8_unmerge 32 = .ok (.if_icmp .ge 21, 3) := by decide +kernel
theorem dX8_unmerge_35 : decode cX8_unmerge 35 = .ok (.aload_n 0, 1) := by decide +kernel
theorem dX8_unmerge_36 : decode cX8_unmerge 36 = .ok (.iload_n 1, 1) := by decide +kernel
theorem dX8_unmerge_37 : decode cX8_unmerge 37 = .ok (.iload_n 3, 1) := by decide +kernel
theorem dX8_unmerge_38 : decode cX8_unmerge 38 = .ok (.invokevirtual 208, 3) := by decide +kernel
theorem dX8_unmerge_41 : decode cX8_unmerge 41 = .ok (.ifCond .eq 6, 3) := by decide +kernel
theorem dX8_unmerge_44 : decode cX8_unmerge 44 = .ok (.iinc 2 1, 3) := by decide +kernel
theorem dX8_unmerge_47 : decode cX8_unmerge 47 = .ok (.iinc 3 1, 3) := by decide +kernel
theorem dX8_unmerge_50 : decode cX8_unmerge 50 = .ok (.goto (-25), 3) := by decide +kernel
theorem dX8_unmerge_53 : decode cX8_unmerge 53 = .ok (.aload_n 0, 1) := by decide +kernel
theorem dX8_unmerge_54 : decode cX8_unmerge 54 = .ok (.getfield 108, 3) := by decide +kernel
theorem dX8_unmerge_57 : decode cX8_unmerge 57 = .ok (.iload_n 2, 1) := by decide +kernel
theorem dX8_unmerge_58 : decode cX8_unmerge 58 = .ok (.iadd, 1) := by decide +kernel
theorem dX8_unmerge_59 : decode cX8_unmerge 59 = .ok (.bipush 100, 2) := by decide +kernel
theorem dX8_unmerge_61 : decode cX8_unmerge 61 = .ok (.if_icmp .le 5, 3) := by decide +kernel
theorem dX8_unmerge_64 : decode cX8_unmerge 64 = .ok (.iconst (-1), 1) := by decide +kernel
theorem dX8_unmerge_65 : decode cX8_unmerge 65 = .ok (.ireturn, 1) := by decide +kernel
theorem dX8_unmerge_66 : decode cX8_unmerge 66 = .ok (.aload_n 0, 1) := by decide +kernel
theorem dX8_unmerge_67 : decode cX8_unmerge 67 = .ok (.dup, 1) := by decide +kernel
theorem dX8_unmerge_68 : decode cX8_unmerge 68 = .ok (.getfield 205, 3) := by decide +kernel
theorem dX8_unmerge_71 : decode cX8_unmerge 71 = .ok (.iconst 1, 1) := by decide +kernel
theorem dX8_unmerge_72 : decode cX8_unmerge 72 = .ok (.isub, 1) := by decide +kernel
theorem dX8_unmerge_73 : decode cX8_unmerge 73 = .ok (.putfield 205, 3) := by decide +kernel
theorem dX8_unmerge_76 : decode cX8_unmerge 76 = .ok (.aload_n 0, 1) := by decide +kernel
theorem dX8_unmerge_77 : decode cX8_unmerge 77 = .ok (.getfield 60, 3) := by decide +kernel
theorem dX8_unmerge_80 : decode cX8_unmerge 80 = .ok (.iload_n 1, 1) := by decide +kernel
theorem dX8_unmerge_81 : decode cX8_unmerge 81 = .ok (.iaload, 1) := by decide +kernel
theorem dX8_unmerge_82 : decode cX8_unmerge 82 = .ok (.istore_n 3, 1) := by decide +kernel
theorem dX8_unmerge_83 : decode cX8_unmerge 83 = .ok (.iconst 0, 1) := by decide +kernel
theorem dX8_unmerge_84 : decode cX8_unmerge 84 = .ok (.istore 4, 2) := by decide +kernel
theorem dX8_unmerge_86 : decode cX8_unmerge 86 = .ok (.iload 4, 2) := by decide +kernel
theorem dX8_unmerge_88 : decode cX8_unmerge 88 = .ok (.aload_n 0, 1) := by decide +kernel
theorem dX8_unmerge_89 : decode cX8_unmerge 89 = .ok (.getfield 57, 3) := by decide +kernel
theorem dX8_unmerge_92 : decode cX8_unmerge 92 = .ok (.iload_n 1, 1) := by decide +kernel
theorem dX8_unmerge_93 : decode cX8_unmerge 93 = .ok (.iaload, 1) := by decide +kernel
theorem dX8_unmerge_94 : decode cX8_unmerge 94 = .ok (.if_icmp .ge 78, 3) := by decide +kernel
theorem dX8_unmerge_97 : decode cX8_unmerge 97 = .ok (.aload_n 0, 1) := by decide +kernel
theorem dX8_unmerge_98 : decode cX8_unmerge 98 = .ok (.iload_n 1, 1) := by decide +kernel
theorem dX8_unmerge_99 : decode cX8_unmerge 99 = .ok (.iload 4, 2) := by decide +kernel
theorem dX8_unmerge_101 : decode cX8_unmerge 101 = .ok (.invokevirtual 208, 3) := by decide +kernel
theorem dX8_unmerge_104 : decode cX8_unmerge 104 = .ok (.ifCond .ne 6, 3) := by decide +kernel
theorem dX8_unmerge_107 : decode cX8_unmerge 107 = .ok (.goto 59, 3) := by decide +kernel
theorem dX8_unmerge_110 : decode cX8_unmerge 110 = .ok (.aload_n 0, 1) := by decide +kernel
theorem dX8_unmerge_111 : decode cX8_unmerge 111 = .ok (.aload_n 0, 1) := by decide +kernel
theorem dX8_unmerge_112 : decode cX8_unmerge 112 = .ok (.getfield 33, 3) := by decide +kernel
theorem dX8_unmerge_115 : decode cX8_unmerge 115 = .ok (.iload_n 3, 1) := by decide +kernel
theorem dX8_unmerge_116 : decode cX8_unmerge 116 = .ok (.iaload, 1) := by decide +kernel
theorem dX8_unmerge_117 : decode cX8_unmerge 117 = .ok (.aload_n 0, 1) := by decide +kernel
theorem dX8_unmerge_118 : decode cX8_unmerge 118 = .ok (.getfield 66, 3) := by decide +kernel
theorem dX8_unmerge_121 : decode cX8_unmerge 121 = .ok (.bipush 60, 2) := by decide +kernel
theorem dX8_unmerge_123 : decode cX8_unmerge 123 = .ok (.iload_n 1, 1) := by decide +kernel
theorem dX8_unmerge_124 : decode cX8_unmerge 124 = .ok (.imul, 1) := by decide +kernel
theorem dX8_unmerge_125 : decode cX8_unmerge 125 = .ok (.iload 4, 2) := by decide +kernel
theorem dX8_unmerge_127 : decode cX8_unmerge 127 = .ok (.iadd, 1) := by decide +kernel
theorem dX8_unmerge_128 : decode cX8_unmerge 128 = .ok (.iaload, 1) := by decide +kernel
theorem dX8_unmerge_129 : decode cX8_unmerge 129 = .ok (.aload_n 0, 1) := by decide +kernel
theorem dX8_unmerge_130 : decode cX8_unmerge 130 = .ok (.getfield 39, 3) := by decide +kernel
theorem dX8_unmerge_133 : decode cX8_unmerge 133 = .ok (.iload_n 3, 1) := by decide +kernel
theorem dX8_unmerge_134 : decode cX8_unmerge 134 = .ok (.iaload, 1) := by decide +kernel
theorem dX8_unmerge_135 : decode cX8_unmerge 135 = .ok (.invokevirtual 121, 3) := by decide +kernel
theorem dX8_unmerge_138 : decode cX8_unmerge 138 = .ok (.istore 5, 2) := by decide +kernel
theorem dX8_unmerge_140 : decode cX8_unmerge 140 = .ok (.aload_n 0, 1) := by decide +kernel
theorem dX8_unmerge_141 : decode cX8_unmerge 141 = .ok (.iload 5, 2) := by decide +kernel
theorem dX8_unmerge_143 : decode cX8_unmerge 143 = .ok (.iload_n 3, 1) := by decide +kernel
theorem dX8_unmerge_144 : decode cX8_unmerge 144 = .ok (.invokevirtual 131, 3) := by decide +kernel
theorem dX8_unmerge_147 : decode cX8_unmerge 147 = .ok (.aload_n 0, 1) := by decide +kernel
theorem dX8_unmerge_148 : decode cX8_unmerge 148 = .ok (.getfield 26, 3) := by decide +kernel
theorem dX8_unmerge_151 : decode cX8_unmerge 151 = .ok (.aload_n 0, 1) := by decide +kernel
theorem dX8_unmerge_152 : decode cX8_unmerge 152 = .ok (.getfield 63, 3) := by decide +kernel
theorem dX8_unmerge_155 : decode cX8_unmerge 155 = .ok (.bipush 60, 2) := by decide +kernel
theorem dX8_unmerge_157 : decode cX8_unmerge 157 = .ok (.iload_n 1, 1) := by decide +kernel
theorem dX8_unmerge_158 : decode cX8_unmerge 158 = .ok (.imul, 1) := by decide +kernel
theorem dX8_unmerge_159 : decode cX8_unmerge 159 = .ok (.iload 4, 2) := by decide +kernel
theorem dX8_unmerge_161 : decode cX8_unmerge 161 = .ok (.iadd, 1) := by decide +kernel
theorem dX8_unmerge_162 : decode cX8_unmerge 162 = .ok (.iaload, 1) := by decide +kernel
theorem dX8_unmerge_163 : decode cX8_unmerge 163 = .ok (.iload 5, 2) := by decide +kernel
theorem dX8_unmerge_165 : decode cX8_unmerge 165 = .ok (.iastore, 1) := by decide +kernel
theorem dX8_unmerge_166 : decode cX8_unmerge 166 = .ok (.iinc 4 1, 3) := by decide +kernel
theorem dX8_unmerge_169 : decode cX8_unmerge 169 = .ok (.goto (-83), 3) := by decide +kernel
theorem dX8_unmerge_172 : decode cX8_unmerge 172 = .ok (.aload_n 0, 1) := by decide +kernel
theorem dX8_unmerge_173 : decode cX8_unmerge 173 = .ok (.iload_n 3, 1) := by decide +kernel
theorem dX8_unmerge_174 : decode cX8_unmerge 174 = .ok (.invokevirtual 139, 3) := by decide +kernel
theorem dX8_unmerge_177 : decode cX8_unmerge 177 = .ok (.iload_n 2, 1) := by decide +kernel
theorem dX8_unmerge_178 : decode cX8_unmerge 178 = .ok (.ireturn, 1) := by decide +kernel
set_option maxRecDepth 20000 in
theorem ggX8_days_X8_right : GoodIn wsX8_days wsX8_right := goodIn_r _ [7, 1, 8, 9, 10, 11, 12, 13, 14, 15, 16, 17, 18, 19, 20, 21, 22, 23, 24, 25, 26, 27, 28, 29, 30, 31, 32, 33, 34, 35, 36, 37, 38, 39, 40, 41] (by decide +kernel) (by decide +kernel)
set_option maxRecDepth 20000 in
theorem gX8_days_X8_right : GoodIn wsX8_days (wsV RX8 90 RX8 yX8_right wsX8_right) := goodIn_app (goodIn_of _ (by decide +kernel)) ggX8_days_X8_right
theorem dX8_days_0 : decode cX8_days 0 = .ok (.aload_n 0, 1) := by decide +kernel
theorem dX8_days_1 : decode cX8_days 1 = .ok (.iconst 0, 1) := by decide +kernel
theorem dX8_days_2 : decode cX8_days 2 = .ok (.putfield 87, 3) := by decide +kernel
theorem dX8_days_5 : decode cX8_days 5 = .ok (.aload_n 0, 1) := by decide +kernel
theorem dX8_days_6 : decode cX8_days 6 = .ok (.iload_n 1, 1) := by decide +kernel
theorem dX8_days_7 : decode cX8_days 7 = .ok (.ifCond .lt 14, 3) := by decide +kernel
theorem dX8_days_10 : decode cX8_days 10 = .ok (.iload_n 1, 1) := by decide +kernel
theorem dX8_days_11 : decode cX8_days 11 = .ok (.sipush 1000, 3) := by decide +kernel
theorem dX8_days_14 : decode cX8_days 14 = .ok (.if_icmp .gt 7, 3) := by decide +kernel
theorem dX8_days_17 : decode cX8_days 17 = .ok (.iconst 1, 1) := by decide +kernel
theorem dX8_days_18 : decode cX8_days 18 = .ok (.goto 4, 3) := by decide +kernel
theorem dX8_days_21 : decode cX8_days 21 = .ok (.iconst 0, 1) := by decide +kernel
theorem dX8_days_22 : decode cX8_days 22 = .ok (.iconst 1, 1) := by decide +kernel
theorem dX8_days_23 : decode cX8_days 23 = .ok (.invokevirtual 90, 3) := by decide +kernel
theorem dX8_days_26 : decode cX8_days 26 = .ok (.ifCond .ne 5, 3) := by decide +kernel
theorem dX8_days_29 : decode cX8_days 29 = .ok (.iconst 0, 1) := by decide +kernel
theorem dX8_days_30 : decode cX8_days 30 = .ok (.ireturn, 1) := by decide +kernel
theorem dX8_days_31 : decode cX8_days 31 = .ok (.aload_n 0, 1) := by decide +kernel
theorem dX8_days_32 : decode cX8_days 32 = .ok (.dup, 1) := by decide +kernel
theorem dX8_days_33 : decode cX8_days 33 = .ok (.getfield 118, 3) := by decide +kernel
theorem dX8_days_36 : decode cX8_days 36 = .ok (.iload_n 1, 1) := by decide +kernel
theorem dX8_days_37 : decode cX8_days 37 = .ok (.iadd, 1) := by decide +kernel
theorem dX8_days_38 : decode cX8_days 38 = .ok (.putfield 118, 3) := by decide +kernel
theorem dX8_days_41 : decode cX8_days 41 = .ok (.aload_n 0, 1) := by decide +kernel
theorem dX8_days_42 : decode cX8_days 42 = .ok (.getfield 118, 3) := by decide +kernel
theorem dX8_days_45 : decode cX8_days 45 = .ok (.ireturn, 1) := by decide +kernel
set_option maxRecDepth 20000 in
theorem ggX8_count_X8_right : GoodIn wsX8_count wsX8_right := goodIn_r _ [14, 1, 20, 21, 22, 23, 24, 25, 26, 27, 28, 29, 30, 31, 32, 33, 34, 35, 36, 37, 38, 39, 40, 41, 42, 43, 44, 45, 46, 47, 48, 49, 50, 51, 52, 53] (by decide +kernel) (by decide +kernel)
set_option maxRecDepth 20000 in
theorem gX8_count_X8_right : GoodIn wsX8_count (wsV RX8 90 RX8 yX8_right wsX8_right) := goodIn_app (goodIn_of _ (by decide +kernel)) ggX8_count_X8_right
set_option maxRecDepth 20000 in
theorem ggX8_count_X8_names : GoodIn wsX8_count wsX8_names := goodIn_r _ [18, 3, 4, 19, 20, 21, 22, 23, 24, 25, 26, 27, 28, 29, 30, 31, 32, 33, 34, 35, 36, 37, 38, 39, 40, 41, 42, 43, 44, 45, 46, 47, 48, 49, 50, 51, 52, 53] (by decide +kernel) (by decide +kernel)
set_option maxRecDepth 20000 in
theorem gX8_count_X8_names : GoodIn wsX8_count (wsV RX8 135 RX8 yX8_names wsX8_names) := goodIn_app (goodIn_of _ (by decide +kernel)) ggX8_count_X8_names
theorem dX8_count_0 : decode cX8_count 0 = .ok (.aload_n 0, 1) := by decide +kernel
theorem dX8_count_1 : decode cX8_count 1 = .ok (.iconst 0, 1) := by decide +kernel
theorem dX8_count_2 : decode cX8_count 2 = .ok (.putfield 87, 3) := by decide +kernel
theorem dX8_count_5 : decode cX8_count 5 = .ok (.aload_n 0, 1) := by decide +kernel
theorem dX8_count_6 : decode cX8_count 6 = .ok (.iload_n 1, 1) := by decide +kernel
theorem dX8_count_7 : decode cX8_count 7 = .ok (.ifCond .lt 13, 3) := by decide +kernel
theorem dX8_count_10 : decode cX8_count 10 = .ok (.iload_n 1, 1) := by decide +kernel
theorem dX8_count_11 : decode cX8_count 11 = .ok (.bipush 7, 2) := by decide +kernel
theorem dX8_count_13 : decode cX8_count 13 = .ok (.if_icmp .gt 7, 3) := by decide +kernel
theorem dX8_count_16 : decode cX8_count 16 = .ok (.iconst 1, 1) := by decide +kernel
theorem dX8_count_17 : decode cX8_count 17 = .ok (.goto 4, 3) := by decide +kernel
theorem dX8_count_20 : decode cX8_count 20 = .ok (.iconst 0, 1) := by decide +kernel
theorem dX8_count_21 : decode cX8_count 21 = .ok (.iconst 1, 1) := by decide +kernel
theorem dX8_count_22 : decode cX8_count 22 = .ok (.invokevirtual 90, 3) := by decide +kernel
theorem dX8_count_25 : decode cX8_count 25 = .ok (.ifCond .ne 5, 3) := by decide +kernel
theorem dX8_count_28 : decode cX8_count 28 = .ok (.iconst 0, 1) := by decide +kernel
theorem dX8_count_29 : decode cX8_count 29 = .ok (.ireturn, 1) := by decide +kernel
theorem dX8_count_30 : decode cX8_count 30 = .ok (.iconst 0, 1) := by decide +kernel
theorem dX8_count_31 : decode cX8_count 31 = .ok (.istore_n 2, 1) := by decide +kernel
theorem dX8_count_32 : decode cX8_count 32 = .ok (.iload_n 1, 1) := by decide +kernel
theorem dX8_count_33 : decode cX8_count 33 = .ok (.tableswitch 158 0 6 #[43, 48, 79, 108, 143, 148, 153], 43) := by decide +kernel
theorem dX8_count_76 : decode cX8_count 76 = .ok (.aload_n 0, 1) := by decide +kernel
theorem dX8_count_77 : decode cX8_count 77 = .ok (.getfield 7, 3) := by decide +kernel
theorem dX8_count_80 : decode cX8_count 80 = .ok (.ireturn, 1) := by decide +kernel
theorem dX8_count_81 : decode cX8_count 81 = .ok (.iconst 0, 1) := by decide +kernel
theorem dX8_count_82 : decode cX8_count 82 = .ok (.istore_n 3, 1) := by decide +kernel
theorem dX8_count_83 : decode cX8_count 83 = .ok (.iload_n 3, 1) := by decide +kernel
theorem dX8_count_84 : decode cX8_count 84 = .ok (.aload_n 0, 1) := by decide +kernel
theorem dX8_count_85 : decode cX8_count 85 = .ok (.getfield 94, 3) := by decide +kernel
theorem dX8_count_88 : decode cX8_count 88 = .ok (.if_icmp .ge 22, 3) := by decide +kernel
theorem dX8_count_91 : decode cX8_count 91 = .ok (.aload_n 0, 1) := by decide +kernel
theorem dX8_count_92 : decode cX8_count 92 = .ok (.getfield 20, 3) := by decide +kernel
theorem dX8_count_95 : decode cX8_count 95 = .ok (.iload_n 3, 1) := by decide +kernel
theorem dX8_count_96 : decode cX8_count 96 = .ok (.iaload, 1) := by decide +kernel
theorem dX8_count_97 : decode cX8_count 97 = .ok (.iconst (-1), 1) := by decide +kernel
theorem dX8_count_98 : decode cX8_count 98 = .ok (.if_icmp .eq 6, 3) := by decide +kernel
theorem dX8_count_101 : decode cX8_count 101 = .ok (.iinc 2 1, 3) := by decide +kernel
theorem dX8_count_104 : decode cX8_count 104 = .ok (.iinc 3 1, 3) := by decide +kernel
theorem dX8_count_107 : decode cX8_count 107 = .ok (.goto (-24), 3) := by decide +kernel
theorem dX8_count_110 : decode cX8_count 110 = .ok (.iload_n 2, 1) := by decide +kernel
theorem dX8_count_111 : decode cX8_count 111 = .ok (.ireturn, 1) := by decide +kernel
theorem dX8_count_112 : decode cX8_count 112 = .ok (.iconst 0, 1) := by decide +kernel
theorem dX8_count_113 : decode cX8_count 113 = .ok (.istore_n 3, 1) := by decide +kernel
theorem dX8_count_114 : decode cX8_count 114 = .ok (.iload_n 3, 1) := by decide +kernel
theorem dX8_count_115 : decode cX8_count 115 = .ok (.aload_n 0, 1) := by decide +kernel
theorem dX8_count_116 : decode cX8_count 116 = .ok (.getfield 108, 3) := by decide +kernel
theorem dX8_count_119 : decode cX8_count 119 = .ok (.if_icmp .ge 20, 3) := by decide +kernel
theorem dX8_count_122 : decode cX8_count 122 = .ok (.aload_n 0, 1) := by decide +kernel
theorem dX8_count_123 : decode cX8_count 123 = .ok (.iload_n 3, 1) := by decide +kernel
theorem dX8_count_124 : decode cX8_count 124 = .ok (.invokevirtual 135, 3) := by decide +kernel
theorem dX8_count_127 : decode cX8_count 127 = .ok (.ifCond .le 6, 3) := by decide +kernel
theorem dX8_count_130 : decode cX8_count 130 = .ok (.iinc 2 1, 3) := by decide +kernel
theorem dX8_count_133 : decode cX8_count 133 = .ok (.iinc 3 1, 3) := by decide +kernel
theorem dX8_count_136 : decode cX8_count 136 = .ok (.goto (-22), 3) := by decide +kernel
theorem dX8_count_139 : decode cX8_count 139 = .ok (.iload_n 2, 1) := by decide +kernel
theorem dX8_count_140 : decode cX8_count 140 = .ok (.ireturn, 1) := by decide +kernel
theorem dX8_count_141 : decode cX8_count 141 = .ok (.iconst 0, 1) := by decide +kernel
theorem dX8_count_142 : decode cX8_count 142 = .ok (.istore_n 3, 1) := by decide +kernel
theorem dX8_count_143 : decode cX8_count 143 = .ok (.iload_n 3, 1) := by decide +kernel
theorem dX8_count_144 : decode cX8_count 144 = .ok (.aload_n 0, 1) := by decide +kernel
theorem dX8_count_145 : decode cX8_count 145 = .ok (.getfield 108, 3) := by decide +kernel
theorem dX8_count_148 : decode cX8_count 148 = .ok (.if_icmp .ge 26, 3) := by decide +kernel
theorem dX8_count_151 : decode cX8_count 151 = .ok (.aload_n 0, 1) := by decide +kernel
theorem dX8_count_152 : decode cX8_count 152 = .ok (.iload_n 3, 1) := by decide +kernel
theorem dX8_count_153 : decode cX8_count 153 = .ok (.invokevirtual 135, 3) := by decide +kernel
theorem dX8_count_156 : decode cX8_count 156 = .ok (.ifCond .le 12, 3) := by decide +kernel
theorem dX8_count_159 : decode cX8_count 159 = .ok (.iload_n 2, 1) := by decide +kernel
theorem dX8_count_160 : decode cX8_count 160 = .ok (.aload_n 0, 1) := by decide +kernel
theorem dX8_count_161 : decode cX8_count 161 = .ok (.getfield 33, 3) := by decide +kernel
theorem dX8_count_164 : decode cX8_count 164 = .ok (.iload_n 3, 1) := by decide +kernel
theorem dX8_count_165 : decode cX8_count 165 = .ok (.iaload, 1) := by decide +kernel
theorem dX8_count_166 : decode cX8_count 166 = .ok (.iadd, 1) := by decide +kernel
theorem dX8_count_167 : decode cX8_count 167 = .ok (.istore_n 2, 1) := by decide +kernel
theorem dX8_count_168 : decode cX8_count 168 = .ok (.iinc 3 1, 3) := by decide +kernel
theorem dX8_count_171 : decode cX8_count 171 = .ok (.goto (-28), 3) := by decide +kernel
theorem dX8_count_174 : decode cX8_count 174 = .ok (.iload_n 2, 1) := by decide +kernel
theorem dX8_count_175 : decode cX8_count 175 = .ok (.ireturn, 1) := by decide +kernel
theorem dX8_count_176 : decode cX8_count 176 = .ok (.aload_n 0, 1) := by decide +kernel
theorem dX8_count_177 : decode cX8_count 177 = .ok (.getfield 199, 3) := by decide +kernel
theorem dX8_count_180 : decode cX8_count 180 = .ok (.ireturn, 1) := by decide +kernel
theorem dX8_count_181 : decode cX8_count 181 = .ok (.aload_n 0, 1) := by decide +kernel
theorem dX8_count_182 : decode cX8_count 182 = .ok (.getfield 205, 3) := by decide +kernel
theorem dX8_count_185 : decode cX8_count 185 = .ok (.ireturn, 1) := by decide +kernel
theorem dX8_count_186 : decode cX8_count 186 = .ok (.aload_n 0, 1) := by decide +kernel
theorem dX8_count_187 : decode cX8_count 187 = .ok (.getfield 118, 3) := by decide +kernel
theorem dX8_count_190 : decode cX8_count 190 = .ok (.ireturn, 1) := by decide +kernel
theorem dX8_count_191 : decode cX8_count 191 = .ok (.aload_n 0, 1) := by decide +kernel
theorem dX8_count_192 : decode cX8_count 192 = .ok (.getfield 108, 3) := by decide +kernel
theorem dX8_count_195 : decode cX8_count 195 = .ok (.ireturn, 1) := by decide +kernel
theorem dJ9_min_7cf53_0 : decode cJ9_min_7cf53 0 = .ok (.iload_n 0, 1) := by decide +kernel
theorem dJ9_min_7cf53_1 : decode cJ9_min_7cf53 1 = .ok (.iload_n 1, 1) := by decide +kernel
theorem dJ9_min_7cf53_2 : decode cJ9_min_7cf53 2 = .ok (.if_icmp .gt 7, 3) := by decide +kernel
theorem dJ9_min_7cf53_5 : decode cJ9_min_7cf53 5 = .ok (.iload_n 0, 1) := by decide +kernel
theorem dJ9_min_7cf53_6 : decode cJ9_min_7cf53 6 = .ok (.goto 4, 3) := by decide +kernel
theorem dJ9_min_7cf53_9 : decode cJ9_min_7cf53 9 = .ok (.iload_n 1, 1) := by decide +kernel
theorem dJ9_min_7cf53_10 : decode cJ9_min_7cf53 10 = .ok (.ireturn, 1) := by decide +kernel
theorem dJ7_fill_53178_0 : decode cJ7_fill_53178 0 = .ok (.iconst 0, 1) := by decide +kernel
theorem dJ7_fill_53178_1 : decode cJ7_fill_53178 1 = .ok (.istore_n 2, 1) := by decide +kernel
theorem dJ7_fill_53178_2 : decode cJ7_fill_53178 2 = .ok (.aload_n 0, 1) := by decide +kernel
theorem dJ7_fill_53178_3 : decode cJ7_fill_53178 3 = .ok (.arraylength, 1) := by decide +kernel
theorem dJ7_fill_53178_4 : decode cJ7_fill_53178 4 = .ok (.istore_n 3, 1) := by decide +kernel
theorem dJ7_fill_53178_5 : decode cJ7_fill_53178 5 = .ok (.iload_n 2, 1) := by decide +kernel
theorem dJ7_fill_53178_6 : decode cJ7_fill_53178 6 = .ok (.iload_n 3, 1) := by decide +kernel
theorem dJ7_fill_53178_7 : decode cJ7_fill_53178 7 = .ok (.if_icmp .ge 13, 3) := by decide +kernel
theorem dJ7_fill_53178_10 : decode cJ7_fill_53178 10 = .ok (.aload_n 0, 1) := by decide +kernel
theorem dJ7_fill_53178_11 : decode cJ7_fill_53178 11 = .ok (.iload_n 2, 1) := by decide +kernel
theorem dJ7_fill_53178_12 : decode cJ7_fill_53178 12 = .ok (.iload_n 1, 1) := by decide +kernel
theorem dJ7_fill_53178_13 : decode cJ7_fill_53178 13 = .ok (.iastore, 1) := by decide +kernel
theorem dJ7_fill_53178_14 : decode cJ7_fill_53178 14 = .ok (.iinc 2 1, 3) := by decide +kernel
theorem dJ7_fill_53178_17 : decode cJ7_fill_53178 17 = .ok (.goto (-12), 3) := by decide +kernel
theorem dJ7_fill_53178_20 : decode cJ7_fill_53178 20 = .ok (.return_, 1) := by decide +kernel
abbrev vwCl : List vw_C := [(RX0, TX0, 5), (RX1, TX1, 5), (RX2, TX2, 5), (RX3, TX3, 4), (RX4, TX4, 4), (RX5, TX5, 2), (RX6, TX6, 3), (RX7, TX7, 12), (RX8, TX8, 34)]
