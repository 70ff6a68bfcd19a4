theorem dX7_fileDifferences_99 : decode cX7_fileDifferences 99 = .ok (.ifCond .eq 28, 3) := by decide +kernel
theorem dX7_fileDifferences_102 : decode cX7_fileDifferences 102 = .ok (.aload_n 0, 1) := by decide +kernel
theorem dX7_fileDifferences_103 : decode cX7_fileDifferences 103 = .ok (.getfield 19, 3) := by decide +kernel
theorem dX7_fileDifferences_106 : decode cX7_fileDifferences 106 = .ok (.iload_n 1, 1) := by decide +kernel
theorem dX7_fileDifferences_107 : decode cX7_fileDifferences 107 = .ok (.aload_n 0, 1) := by decide +kernel
theorem dX7_fileDifferences_108 : decode cX7_fileDifferences 108 = .ok (.getfield 19, 3) := by decide +kernel
theorem dX7_fileDifferences_111 : decode cX7_fileDifferences 111 = .ok (.getfield 127, 3) := by decide +kernel
theorem dX7_fileDifferences_114 : decode cX7_fileDifferences 114 = .ok (.iload 4, 2) := by decide +kernel
theorem dX7_fileDifferences_116 : decode cX7_fileDifferences 116 = .ok (.iaload, 1) := by decide +kernel
theorem dX7_fileDifferences_117 : decode cX7_fileDifferences 117 = .ok (.invokevirtual 291, 3) := by decide +kernel
theorem dX7_fileDifferences_120 : decode cX7_fileDifferences 120 = .ok (.iconst (-1), 1) := by decide +kernel
theorem dX7_fileDifferences_121 : decode cX7_fileDifferences 121 = .ok (.if_icmp .ne 6, 3) := by decide +kernel
theorem dX7_fileDifferences_124 : decode cX7_fileDifferences 124 = .ok (.iinc 3 1, 3) := by decide +kernel
theorem dX7_fileDifferences_127 : decode cX7_fileDifferences 127 = .ok (.iinc 4 1, 3) := by decide +kernel
theorem dX7_fileDifferences_130 : decode cX7_fileDifferences 130 = .ok (.goto (-125), 3) := by decide +kernel
theorem dX7_fileDifferences_133 : decode cX7_fileDifferences 133 = .ok (.iload_n 3, 1) := by decide +kernel
theorem dX7_fileDifferences_134 : decode cX7_fileDifferences 134 = .ok (.ireturn, 1) := by decide +kernel
set_option maxRecDepth 20000 in
theorem ggX7_keptOf_X7_isMember : GoodIn wsX7_keptOf wsX7_isMember := goodIn_r _ [6, 1, 7, 8, 9, 10, 11, 12, 13, 30, 31, 32, 33, 34, 35, 36, 37, 38, 39, 40, 41, 47, 48, 49, 50, 51, 42, 43, 44, 45, 46] (by decide +kernel) (by decide +kernel)
set_option maxRecDepth 20000 in
theorem gX7_keptOf_X7_isMember : GoodIn wsX7_keptOf (wsV RX7 193 RX7 yX7_isMember wsX7_isMember) := goodIn_app (goodIn_of _ (by decide +kernel)) ggX7_keptOf_X7_isMember
set_option maxRecDepth 20000 in
theorem ggX7_keptOf_X7_isWishedBefore : GoodIn wsX7_keptOf wsX7_isWishedBefore := goodIn_r _ [17, 18, 19, 20, 21, 5, 22, 1, 23, 24, 25, 26, 27, 28, 29, 30, 31, 32, 33, 34, 35, 36, 37, 38, 39, 40, 41, 52, 53, 54, 42, 43, 44, 45, 46, 55, 56, 57, 58, 59, 60, 61, 62, 63] (by decide +kernel) (by decide +kernel)
set_option maxRecDepth 20000 in
theorem gX7_keptOf_X7_isWishedBefore : GoodIn wsX7_keptOf (wsV RX7 305 RX7 yX7_isWishedBefore wsX7_isWishedBefore) := goodIn_app (goodIn_of _ (by decide +kernel)) ggX7_keptOf_X7_isWishedBefore
theorem dX7_keptOf_0 : decode cX7_keptOf 0 = .ok (.iconst (-1), 1) := by decide +kernel
theorem dX7_keptOf_1 : decode cX7_keptOf 1 = .ok (.istore_n 2, 1) := by decide +kernel
theorem dX7_keptOf_2 : decode cX7_keptOf 2 = .ok (.iconst 0, 1) := by decide +kernel
theorem dX7_keptOf_3 : decode cX7_keptOf 3 = .ok (.istore_n 3, 1) := by decide +kernel
theorem dX7_keptOf_4 : decode cX7_keptOf 4 = .ok (.iload_n 3, 1) := by decide +kernel
theorem dX7_keptOf_5 : decode cX7_keptOf 5 = .ok (.aload_n 0, 1) := by decide +kernel
theorem dX7_keptOf_6 : decode cX7_keptOf 6 = .ok (.getfield 19, 3) := by decide +kernel
theorem dX7_keptOf_9 : decode cX7_keptOf 9 = .ok (.getfield 190, 3) := by decide +kernel
theorem dX7_keptOf_12 : decode cX7_keptOf 12 = .ok (.if_icmp .ge 34, 3) := by decide +kernel
theorem dX7_keptOf_15 : decode cX7_keptOf 15 = .ok (.aload_n 0, 1) := by decide +kernel
theorem dX7_keptOf_16 : decode cX7_keptOf 16 = .ok (.iload_n 3, 1) := by decide +kernel
theorem dX7_keptOf_17 : decode cX7_keptOf 17 = .ok (.iload_n 1, 1) := by decide +kernel
theorem dX7_keptOf_18 : decode cX7_keptOf 18 = .ok (.invokevirtual 193, 3) := by decide +kernel
theorem dX7_keptOf_21 : decode cX7_keptOf 21 = .ok (.ifCond .eq 19, 3) := by decide +kernel
theorem dX7_keptOf_24 : decode cX7_keptOf 24 = .ok (.iload_n 2, 1) := by decide +kernel
theorem dX7_keptOf_25 : decode cX7_keptOf 25 = .ok (.iconst (-1), 1) := by decide +kernel
theorem dX7_keptOf_26 : decode cX7_keptOf 26 = .ok (.if_icmp .eq 12, 3) := by decide +kernel
theorem dX7_keptOf_29 : decode cX7_keptOf 29 = .ok (.aload_n 0, 1) := by decide +kernel
theorem dX7_keptOf_30 : decode cX7_keptOf 30 = .ok (.iload_n 3, 1) := by decide +kernel
theorem dX7_keptOf_31 : decode cX7_keptOf 31 = .ok (.iload_n 2, 1) := by decide +kernel
theorem dX7_keptOf_32 : decode cX7_keptOf 32 = .ok (.invokevirtual 305, 3) := by decide +kernel
theorem dX7_keptOf_35 : decode cX7_keptOf 35 = .ok (.ifCond .eq 5, 3) := by decide +kernel
theorem dX7_keptOf_38 : decode cX7_keptOf 38 = .ok (.iload_n 3, 1) := by decide +kernel
theorem dX7_keptOf_39 : decode cX7_keptOf 39 = .ok (.istore_n 2, 1) := by decide +kernel
theorem dX7_keptOf_40 : decode cX7_keptOf 40 = .ok (.iinc 3 1, 3) := by decide +kernel
theorem dX7_keptOf_43 : decode cX7_keptOf 43 = .ok (.goto (-39), 3) := by decide +kernel
theorem dX7_keptOf_46 : decode cX7_keptOf 46 = .ok (.iload_n 2, 1) := by decide +kernel
theorem dX7_keptOf_47 : decode cX7_keptOf 47 = .ok (.ireturn, 1) := by decide +kernel
set_option maxRecDepth 20000 in
theorem ggX7_isWishedBefore_X7_rank : GoodIn wsX7_isWishedBefore wsX7_rank := goodIn_r _ [6, 7, 1, 8, 9, 10, 11, 12, 13, 14, 15, 16, 17, 18, 19, 20, 21, 22, 23, 24, 25, 26, 30, 31, 32, 33, 34, 27, 28, 29, 35, 36, 37, 38, 39, 40, 41, 42, 43] (by decide +kernel) (by decide +kernel)
set_option maxRecDepth 20000 in
theorem gX7_isWishedBefore_X7_rank : GoodIn wsX7_isWishedBefore (wsV RX7 308 RX7 yX7_rank wsX7_rank) := goodIn_app (goodIn_of _ (by decide +kernel)) ggX7_isWishedBefore_X7_rank
theorem dX7_isWishedBefore_0 : decode cX7_isWishedBefore 0 = .ok (.iconst 0, 1) := by decide +kernel
theorem dX7_isWishedBefore_1 : decode cX7_isWishedBefore 1 = .ok (.istore_n 3, 1) := by decide +kernel
theorem dX7_isWishedBefore_2 : decode cX7_isWishedBefore 2 = .ok (.iload_n 3, 1) := by decide +kernel
theorem dX7_isWishedBefore_3 : decode cX7_isWishedBefore 3 = .ok (.aload_n 0, 1) := by decide +kernel
theorem dX7_isWishedBefore_4 : decode cX7_isWishedBefore 4 = .ok (.getfield 50, 3) := by decide +kernel
theorem dX7_isWishedBefore_7 : decode cX7_isWishedBefore 7 = .ok (.getfield 234, 3) := by decide +kernel
theorem dX7_isWishedBefore_10 : decode cX7_isWishedBefore 10 = .ok (.if_icmp .ge 45, 3) := by decide +kernel
theorem dX7_isWishedBefore_13 : decode cX7_isWishedBefore 13 = .ok (.aload_n 0, 1) := by decide +kernel
theorem dX7_isWishedBefore_14 : decode cX7_isWishedBefore 14 = .ok (.iload_n 3, 1) := by decide +kernel
theorem dX7_isWishedBefore_15 : decode cX7_isWishedBefore 15 = .ok (.iload_n 1, 1) := by decide +kernel
theorem dX7_isWishedBefore_16 : decode cX7_isWishedBefore 16 = .ok (.invokevirtual 308, 3) := by decide +kernel
theorem dX7_isWishedBefore_19 : decode cX7_isWishedBefore 19 = .ok (.istore 4, 2) := by decide +kernel
theorem dX7_isWishedBefore_21 : decode cX7_isWishedBefore 21 = .ok (.aload_n 0, 1) := by decide +kernel
theorem dX7_isWishedBefore_22 : decode cX7_isWishedBefore 22 = .ok (.iload_n 3, 1) := by decide +kernel
theorem dX7_isWishedBefore_23 : decode cX7_isWishedBefore 23 = .ok (.iload_n 2, 1) := by decide +kernel
theorem dX7_isWishedBefore_24 : decode cX7_isWishedBefore 24 = .ok (.invokevirtual 308, 3) := by decide +kernel
theorem dX7_isWishedBefore_27 : decode cX7_isWishedBefore 27 = .ok (.istore 5, 2) := by decide +kernel
theorem dX7_isWishedBefore_29 : decode cX7_isWishedBefore 29 = .ok (.iload 4, 2) := by decide +kernel
theorem dX7_isWishedBefore_31 : decode cX7_isWishedBefore 31 = .ok (.iload 5, 2) := by decide +kernel
theorem dX7_isWishedBefore_33 : decode cX7_isWishedBefore 33 = .ok (.if_icmp .eq 16, 3) := by decide +kernel
theorem dX7_isWishedBefore_36 : decode cX7_isWishedBefore 36 = .ok (.iload 4, 2) := by decide +kernel
theorem dX7_isWishedBefore_38 : decode cX7_isWishedBefore 38 = .ok (.iload 5, 2) := by decide +kernel
theorem dX7_isWishedBefore_40 : decode cX7_isWishedBefore 40 = .ok (.if_icmp .ge 7, 3) := by decide +kernel
theorem dX7_isWishedBefore_43 : decode cX7_isWishedBefore 43 = .ok (.iconst 1, 1) := by decide +kernel
theorem dX7_isWishedBefore_44 : decode cX7_isWishedBefore 44 = .ok (.goto 4, 3) := by decide +kernel
theorem dX7_isWishedBefore_47 : decode cX7_isWishedBefore 47 = .ok (.iconst 0, 1) := by decide +kernel
theorem dX7_isWishedBefore_48 : decode cX7_isWishedBefore 48 = .ok (.ireturn, 1) := by decide +kernel
theorem dX7_isWishedBefore_49 : decode cX7_isWishedBefore 49 = .ok (.iinc 3 1, 3) := by decide +kernel
theorem dX7_isWishedBefore_52 : decode cX7_isWishedBefore 52 = .ok (.goto (-50), 3) := by decide +kernel
theorem dX7_isWishedBefore_55 : decode cX7_isWishedBefore 55 = .ok (.iconst 0, 1) := by decide +kernel
theorem dX7_isWishedBefore_56 : decode cX7_isWishedBefore 56 = .ok (.ireturn, 1) := by decide +kernel
set_option maxRecDepth 20000 in
theorem ggX7_rank_X3_isInOrBelow : GoodIn wsX7_rank wsX3_isInOrBelow := goodIn_r _ [8, 9, 35, 36, 37, 38] (by decide +kernel) (by decide +kernel)
set_option maxRecDepth 20000 in
theorem gX7_rank_X3_isInOrBelow_n315 : GoodIn wsX7_rank (wsX3_isInOrBelow) := ggX7_rank_X3_isInOrBelow
theorem dX7_rank_0 : decode cX7_rank 0 = .ok (.aload_n 0, 1) := by decide +kernel
theorem dX7_rank_1 : decode cX7_rank 1 = .ok (.getfield 19, 3) := by decide +kernel
theorem dX7_rank_4 : decode cX7_rank 4 = .ok (.getfield 124, 3) := by decide +kernel
theorem dX7_rank_7 : decode cX7_rank 7 = .ok (.iload_n 2, 1) := by decide +kernel
theorem dX7_rank_8 : decode cX7_rank 8 = .ok (.iaload, 1) := by decide +kernel
theorem dX7_rank_9 : decode cX7_rank 9 = .ok (.istore_n 3, 1) := by decide +kernel
theorem dX7_rank_10 : decode cX7_rank 10 = .ok (.aload_n 0, 1) := by decide +kernel
theorem dX7_rank_11 : decode cX7_rank 11 = .ok (.getfield 50, 3) := by decide +kernel
theorem dX7_rank_14 : decode cX7_rank 14 = .ok (.getfield 311, 3) := by decide +kernel
theorem dX7_rank_17 : decode cX7_rank 17 = .ok (.iload_n 1, 1) := by decide +kernel
theorem dX7_rank_18 : decode cX7_rank 18 = .ok (.iaload, 1) := by decide +kernel
theorem dX7_rank_19 : decode cX7_rank 19 = .ok (.tableswitch 116 0 4 #[33, 59, 77, 96, 106], 33) := by decide +kernel
theorem dX7_rank_52 : decode cX7_rank 52 = .ok (.aload_n 0, 1) := by decide +kernel
theorem dX7_rank_53 : decode cX7_rank 53 = .ok (.getfield 10, 3) := by decide +kernel
theorem dX7_rank_56 : decode cX7_rank 56 = .ok (.iload_n 3, 1) := by decide +kernel
theorem dX7_rank_57 : decode cX7_rank 57 = .ok (.aload_n 0, 1) := by decide +kernel
theorem dX7_rank_58 : decode cX7_rank 58 = .ok (.getfield 50, 3) := by decide +kernel
theorem dX7_rank_61 : decode cX7_rank 61 = .ok (.getfield 314, 3) := by decide +kernel
theorem dX7_rank_64 : decode cX7_rank 64 = .ok (.iload_n 1, 1) := by decide +kernel
theorem dX7_rank_65 : decode cX7_rank 65 = .ok (.iaload, 1) := by decide +kernel
theorem dX7_rank_66 : decode cX7_rank 66 = .ok (.invokevirtual 315, 3) := by decide +kernel
theorem dX7_rank_69 : decode cX7_rank 69 = .ok (.ifCond .eq 7, 3) := by decide +kernel
theorem dX7_rank_72 : decode cX7_rank 72 = .ok (.iconst 0, 1) := by decide +kernel
theorem dX7_rank_73 : decode cX7_rank 73 = .ok (.goto 4, 3) := by decide +kernel
theorem dX7_rank_76 : decode cX7_rank 76 = .ok (.iconst 1, 1) := by decide +kernel
theorem dX7_rank_77 : decode cX7_rank 77 = .ok (.ireturn, 1) := by decide +kernel
theorem dX7_rank_78 : decode cX7_rank 78 = .ok (.aload_n 0, 1) := by decide +kernel
theorem dX7_rank_79 : decode cX7_rank 79 = .ok (.getfield 26, 3) := by decide +kernel
theorem dX7_rank_82 : decode cX7_rank 82 = .ok (.getfield 167, 3) := by decide +kernel
theorem dX7_rank_85 : decode cX7_rank 85 = .ok (.aload_n 0, 1) := by decide +kernel
theorem dX7_rank_86 : decode cX7_rank 86 = .ok (.getfield 19, 3) := by decide +kernel
theorem dX7_rank_89 : decode cX7_rank 89 = .ok (.getfield 112, 3) := by decide +kernel
theorem dX7_rank_92 : decode cX7_rank 92 = .ok (.iload_n 2, 1) := by decide +kernel
theorem dX7_rank_93 : decode cX7_rank 93 = .ok (.iaload, 1) := by decide +kernel
theorem dX7_rank_94 : decode cX7_rank 94 = .ok (.iaload, 1) := by decide +kernel
theorem dX7_rank_95 : decode cX7_rank 95 = .ok (.ireturn, 1) := by decide +kernel
theorem dX7_rank_96 : decode cX7_rank 96 = .ok (.aload_n 0, 1) := by decide +kernel
theorem dX7_rank_97 : decode cX7_rank 97 = .ok (.getfield 26, 3) := by decide +kernel
theorem dX7_rank_100 : decode cX7_rank 100 = .ok (.getfield 167, 3) := by decide +kernel
theorem dX7_rank_103 : decode cX7_rank 103 = .ok (.aload_n 0, 1) := by decide +kernel
theorem dX7_rank_104 : decode cX7_rank 104 = .ok (.getfield 19, 3) := by decide +kernel
theorem dX7_rank_107 : decode cX7_rank 107 = .ok (.getfield 112, 3) := by decide +kernel
theorem dX7_rank_110 : decode cX7_rank 110 = .ok (.iload_n 2, 1) := by decide +kernel
theorem dX7_rank_111 : decode cX7_rank 111 = .ok (.iaload, 1) := by decide +kernel
theorem dX7_rank_112 : decode cX7_rank 112 = .ok (.iaload, 1) := by decide +kernel
theorem dX7_rank_113 : decode cX7_rank 113 = .ok (.ineg, 1) := by decide +kernel
theorem dX7_rank_114 : decode cX7_rank 114 = .ok (.ireturn, 1) := by decide +kernel
theorem dX7_rank_115 : decode cX7_rank 115 = .ok (.aload_n 0, 1) := by decide +kernel
theorem dX7_rank_116 : decode cX7_rank 116 = .ok (.getfield 10, 3) := by decide +kernel
theorem dX7_rank_119 : decode cX7_rank 119 = .ok (.getfield 169, 3) := by decide +kernel
theorem dX7_rank_122 : decode cX7_rank 122 = .ok (.iload_n 3, 1) := by decide +kernel
theorem dX7_rank_123 : decode cX7_rank 123 = .ok (.iaload, 1) := by decide +kernel
theorem dX7_rank_124 : decode cX7_rank 124 = .ok (.ireturn, 1) := by decide +kernel
theorem dX7_rank_125 : decode cX7_rank 125 = .ok (.aload_n 0, 1) := by decide +kernel
theorem dX7_rank_126 : decode cX7_rank 126 = .ok (.getfield 19, 3) := by decide +kernel
theorem dX7_rank_129 : decode cX7_rank 129 = .ok (.getfield 127, 3) := by decide +kernel
theorem dX7_rank_132 : decode cX7_rank 132 = .ok (.iload_n 2, 1) := by decide +kernel
theorem dX7_rank_133 : decode cX7_rank 133 = .ok (.iaload, 1) := by decide +kernel
theorem dX7_rank_134 : decode cX7_rank 134 = .ok (.ireturn, 1) := by decide +kernel
theorem dX7_rank_135 : decode cX7_rank 135 = .ok (.aload_n 0, 1) := by decide +kernel
theorem dX7_rank_136 : decode cX7_rank 136 = .ok (.getfield 19, 3) := by decide +kernel
theorem dX7_rank_139 : decode cX7_rank 139 = .ok (.getfield 130, 3) := by decide +kernel
theorem dX7_rank_142 : decode cX7_rank 142 = .ok (.iload_n 2, 1) := by decide +kernel
theorem dX7_rank_143 : decode cX7_rank 143 = .ok (.baload, 1) := by decide +kernel
theorem dX7_rank_144 : decode cX7_rank 144 = .ok (.ifCond .eq 7, 3) := by decide +kernel
theorem dX7_rank_147 : decode cX7_rank 147 = .ok (.iconst 0, 1) := by decide +kernel
theorem dX7_rank_148 : decode cX7_rank 148 = .ok (.goto 4, 3) := by decide +kernel
theorem dX7_rank_151 : decode cX7_rank 151 = .ok (.iconst 1, 1) := by decide +kernel
theorem dX7_rank_152 : decode cX7_rank 152 = .ok (.ireturn, 1) := by decide +kernel
theorem dX7_mayGet_0 : decode cX7_mayGet 0 = .ok (.aload_n 0, 1) := by decide +kernel
theorem dX7_mayGet_1 : decode cX7_mayGet 1 = .ok (.getfield 19, 3) := by decide +kernel
theorem dX7_mayGet_4 : decode cX7_mayGet 4 = .ok (.getfield 130, 3) := by decide +kernel
theorem dX7_mayGet_7 : decode cX7_mayGet 7 = .ok (.iload_n 1, 1) := by decide +kernel
theorem dX7_mayGet_8 : decode cX7_mayGet 8 = .ok (.baload, 1) := by decide +kernel
theorem dX7_mayGet_9 : decode cX7_mayGet 9 = .ok (.ifCond .ne 16, 3) := by decide +kernel
theorem dX7_mayGet_12 : decode cX7_mayGet 12 = .ok (.aload_n 0, 1) := by decide +kernel
theorem dX7_mayGet_13 : decode cX7_mayGet 13 = .ok (.getfield 19, 3) := by decide +kernel
theorem dX7_mayGet_16 : decode cX7_mayGet 16 = .ok (.getfield 112, 3) := by decide +kernel
theorem dX7_mayGet_19 : decode cX7_mayGet 19 = .ok (.iload_n 1, 1) := by decide +kernel
theorem dX7_mayGet_20 : decode cX7_mayGet 20 = .ok (.iaload, 1) := by decide +kernel
theorem dX7_mayGet_21 : decode cX7_mayGet 21 = .ok (.iload_n 2, 1) := by decide +kernel
theorem dX7_mayGet_22 : decode cX7_mayGet 22 = .ok (.if_icmp .ne 5, 3) := by decide +kernel
theorem dX7_mayGet_25 : decode cX7_mayGet 25 = .ok (.iconst 0, 1) := by decide +kernel
theorem dX7_mayGet_26 : decode cX7_mayGet 26 = .ok (.ireturn, 1) := by decide +kernel
theorem dX7_mayGet_27 : decode cX7_mayGet 27 = .ok (.aload_n 0, 1) := by decide +kernel
theorem dX7_mayGet_28 : decode cX7_mayGet 28 = .ok (.getfield 26, 3) := by decide +kernel
theorem dX7_mayGet_31 : decode cX7_mayGet 31 = .ok (.getfield 115, 3) := by decide +kernel
theorem dX7_mayGet_34 : decode cX7_mayGet 34 = .ok (.iload_n 2, 1) := by decide +kernel
theorem dX7_mayGet_35 : decode cX7_mayGet 35 = .ok (.iaload, 1) := by decide +kernel
theorem dX7_mayGet_36 : decode cX7_mayGet 36 = .ok (.istore_n 3, 1) := by decide +kernel
theorem dX7_mayGet_37 : decode cX7_mayGet 37 = .ok (.aload_n 0, 1) := by decide +kernel
theorem dX7_mayGet_38 : decode cX7_mayGet 38 = .ok (.getfield 26, 3) := by decide +kernel
theorem dX7_mayGet_41 : decode cX7_mayGet 41 = .ok (.getfield 115, 3) := by decide +kernel
theorem dX7_mayGet_44 : decode cX7_mayGet 44 = .ok (.aload_n 0, 1) := by decide +kernel
theorem dX7_mayGet_45 : decode cX7_mayGet 45 = .ok (.getfield 19, 3) := by decide +kernel
theorem dX7_mayGet_48 : decode cX7_mayGet 48 = .ok (.getfield 112, 3) := by decide +kernel
theorem dX7_mayGet_51 : decode cX7_mayGet 51 = .ok (.iload_n 1, 1) := by decide +kernel
theorem dX7_mayGet_52 : decode cX7_mayGet 52 = .ok (.iaload, 1) := by decide +kernel
theorem dX7_mayGet_53 : decode cX7_mayGet 53 = .ok (.iaload, 1) := by decide +kernel
theorem dX7_mayGet_54 : decode cX7_mayGet 54 = .ok (.istore 4, 2) := by decide +kernel
theorem dX7_mayGet_56 : decode cX7_mayGet 56 = .ok (.iload_n 3, 1) := by decide +kernel
theorem dX7_mayGet_57 : decode cX7_mayGet 57 = .ok (.iload 4, 2) := by decide +kernel
theorem dX7_mayGet_59 : decode cX7_mayGet 59 = .ok (.if_icmp .eq 18, 3) := by decide +kernel
theorem dX7_mayGet_62 : decode cX7_mayGet 62 = .ok (.aload_n 0, 1) := by decide +kernel
theorem dX7_mayGet_63 : decode cX7_mayGet 63 = .ok (.getfield 61, 3) := by decide +kernel
theorem dX7_mayGet_66 : decode cX7_mayGet 66 = .ok (.iload_n 3, 1) := by decide +kernel
theorem dX7_mayGet_67 : decode cX7_mayGet 67 = .ok (.bipush 8, 2) := by decide +kernel
theorem dX7_mayGet_69 : decode cX7_mayGet 69 = .ok (.imul, 1) := by decide +kernel
theorem dX7_mayGet_70 : decode cX7_mayGet 70 = .ok (.iload 4, 2) := by decide +kernel
theorem dX7_mayGet_72 : decode cX7_mayGet 72 = .ok (.iadd, 1) := by decide +kernel
theorem dX7_mayGet_73 : decode cX7_mayGet 73 = .ok (.baload, 1) := by decide +kernel
theorem dX7_mayGet_74 : decode cX7_mayGet 74 = .ok (.ifCond .eq 7, 3) := by decide +kernel
theorem dX7_mayGet_77 : decode cX7_mayGet 77 = .ok (.iconst 1, 1) := by decide +kernel
theorem dX7_mayGet_78 : decode cX7_mayGet 78 = .ok (.goto 4, 3) := by decide +kernel
theorem dX7_mayGet_81 : decode cX7_mayGet 81 = .ok (.iconst 0, 1) := by decide +kernel
theorem dX7_mayGet_82 : decode cX7_mayGet 82 = .ok (.ireturn, 1) := by decide +kernel
set_option maxRecDepth 20000 in
theorem ggX7_giveBody_X1_having : GoodIn wsX7_giveBody wsX1_having := goodIn_r _ [7, 8, 9, 22, 23, 24, 25, 26] (by decide +kernel) (by decide +kernel)
set_option maxRecDepth 20000 in
theorem gX7_giveBody_X1_having_n136 : GoodIn wsX7_giveBody (wsX1_having) := ggX7_giveBody_X1_having
theorem dX7_giveBody_0 : decode cX7_giveBody 0 = .ok (.aload_n 0, 1) := by decide +kernel
theorem dX7_giveBody_1 : decode cX7_giveBody 1 = .ok (.getfield 19, 3) := by decide +kernel
theorem dX7_giveBody_4 : decode cX7_giveBody 4 = .ok (.getfield 112, 3) := by decide +kernel
theorem dX7_giveBody_7 : decode cX7_giveBody 7 = .ok (.iload_n 1, 1) := by decide +kernel
theorem dX7_giveBody_8 : decode cX7_giveBody 8 = .ok (.iaload, 1) := by decide +kernel
theorem dX7_giveBody_9 : decode cX7_giveBody 9 = .ok (.istore_n 3, 1) := by decide +kernel
theorem dX7_giveBody_10 : decode cX7_giveBody 10 = .ok (.aload_n 0, 1) := by decide +kernel
theorem dX7_giveBody_11 : decode cX7_giveBody 11 = .ok (.getfield 19, 3) := by decide +kernel
theorem dX7_giveBody_14 : decode cX7_giveBody 14 = .ok (.getfield 112, 3) := by decide +kernel
theorem dX7_giveBody_17 : decode cX7_giveBody 17 = .ok (.iload_n 1, 1) := by decide +kernel
theorem dX7_giveBody_18 : decode cX7_giveBody 18 = .ok (.iload_n 2, 1) := by decide +kernel
theorem dX7_giveBody_19 : decode cX7_giveBody 19 = .ok (.iastore, 1) := by decide +kernel
theorem dX7_giveBody_20 : decode cX7_giveBody 20 = .ok (.aload_n 0, 1) := by decide +kernel
theorem dX7_giveBody_21 : decode cX7_giveBody 21 = .ok (.getfield 19, 3) := by decide +kernel
theorem dX7_giveBody_24 : decode cX7_giveBody 24 = .ok (.iload_n 3, 1) := by decide +kernel
theorem dX7_giveBody_25 : decode cX7_giveBody 25 = .ok (.invokevirtual 136, 3) := by decide +kernel
theorem dX7_giveBody_28 : decode cX7_giveBody 28 = .ok (.ifCond .ne 21, 3) := by decide +kernel
theorem dX7_giveBody_31 : decode cX7_giveBody 31 = .ok (.aload_n 0, 1) := by decide +kernel
theorem dX7_giveBody_32 : decode cX7_giveBody 32 = .ok (.dup, 1) := by decide +kernel
theorem dX7_giveBody_33 : decode cX7_giveBody 33 = .ok (.getfield 73, 3) := by decide +kernel
theorem dX7_giveBody_36 : decode cX7_giveBody 36 = .ok (.aload_n 0, 1) := by decide +kernel
theorem dX7_giveBody_37 : decode cX7_giveBody 37 = .ok (.getfield 26, 3) := by decide +kernel
theorem dX7_giveBody_40 : decode cX7_giveBody 40 = .ok (.getfield 140, 3) := by decide +kernel
theorem dX7_giveBody_43 : decode cX7_giveBody 43 = .ok (.iload_n 3, 1) := by decide +kernel
theorem dX7_giveBody_44 : decode cX7_giveBody 44 = .ok (.iaload, 1) := by decide +kernel
theorem dX7_giveBody_45 : decode cX7_giveBody 45 = .ok (.iadd, 1) := by decide +kernel
theorem dX7_giveBody_46 : decode cX7_giveBody 46 = .ok (.putfield 73, 3) := by decide +kernel
theorem dX7_giveBody_49 : decode cX7_giveBody 49 = .ok (.return_, 1) := by decide +kernel
theorem dX8_init_0 : decode cX8_init 0 = .ok (.aload_n 0, 1) := by decide +kernel
theorem dX8_init_1 : decode cX8_init 1 = .ok (.invokespecial 1, 3) := by decide +kernel
theorem dX8_init_4 : decode cX8_init 4 = .ok (.aload_n 0, 1) := by decide +kernel
theorem dX8_init_5 : decode cX8_init 5 = .ok (.iconst 1, 1) := by decide +kernel
theorem dX8_init_6 : decode cX8_init 6 = .ok (.putfield 7, 3) := by decide +kernel
theorem dX8_init_9 : decode cX8_init 9 = .ok (.aload_n 0, 1) := by decide +kernel
theorem dX8_init_10 : decode cX8_init 10 = .ok (.bipush 16, 2) := by decide +kernel
theorem dX8_init_12 : decode cX8_init 12 = .ok (.newarray .int, 2) := by decide +kernel
theorem dX8_init_14 : decode cX8_init 14 = .ok (.putfield 13, 3) := by decide +kernel
theorem dX8_init_17 : decode cX8_init 17 = .ok (.aload_n 0, 1) := by decide +kernel
theorem dX8_init_18 : decode cX8_init 18 = .ok (.bipush 16, 2) := by decide +kernel
theorem dX8_init_20 : decode cX8_init 20 = .ok (.newarray .int, 2) := by decide +kernel
theorem dX8_init_22 : decode cX8_init 22 = .ok (.putfield 17, 3) := by decide +kernel
theorem dX8_init_25 : decode cX8_init 25 = .ok (.aload_n 0, 1) := by decide +kernel
theorem dX8_init_26 : decode cX8_init 26 = .ok (.bipush 60, 2) := by decide +kernel
theorem dX8_init_28 : decode cX8_init 28 = .ok (.newarray .int, 2) := by decide +kernel
theorem dX8_init_30 : decode cX8_init 30 = .ok (.putfield 20, 3) := by decide +kernel
theorem dX8_init_33 : decode cX8_init 33 = .ok (.aload_n 0, 1) := by decide +kernel
theorem dX8_init_34 : decode cX8_init 34 = .ok (.bipush 60, 2) := by decide +kernel
theorem dX8_init_36 : decode cX8_init 36 = .ok (.newarray .int, 2) := by decide +kernel
theorem dX8_init_38 : decode cX8_init 38 = .ok (.putfield 23, 3) := by decide +kernel
theorem dX8_init_41 : decode cX8_init 41 = .ok (.aload_n 0, 1) := by decide +kernel
theorem dX8_init_42 : decode cX8_init 42 = .ok (.bipush 60, 2) := by decide +kernel
theorem dX8_init_44 : decode cX8_init 44 = .ok (.newarray .int, 2) := by decide +kernel
theorem dX8_init_46 : decode cX8_init 46 = .ok (.putfield 26, 3) := by decide +kernel
theorem dX8_init_49 : decode cX8_init 49 = .ok (.aload_n 0, 1) := by decide +kernel
theorem dX8_init_50 : decode cX8_init 50 = .ok (.bipush 60, 2) := by decide +kernel
theorem dX8_init_52 : decode cX8_init 52 = .ok (.newarray .boolean, 2) := by decide +kernel
theorem dX8_init_54 : decode cX8_init 54 = .ok (.putfield 29, 3) := by decide +kernel
theorem dX8_init_57 : decode cX8_init 57 = .ok (.aload_n 0, 1) := by decide +kernel
theorem dX8_init_58 : decode cX8_init 58 = .ok (.bipush 100, 2) := by decide +kernel
theorem dX8_init_60 : decode cX8_init 60 = .ok (.newarray .int, 2) := by decide +kernel
theorem dX8_init_62 : decode cX8_init 62 = .ok (.putfield 33, 3) := by decide +kernel
theorem dX8_init_65 : decode cX8_init 65 = .ok (.aload_n 0, 1) := by decide +kernel
theorem dX8_init_66 : decode cX8_init 66 = .ok (.bipush 100, 2) := by decide +kernel
theorem dX8_init_68 : decode cX8_init 68 = .ok (.newarray .int, 2) := by decide +kernel
theorem dX8_init_70 : decode cX8_init 70 = .ok (.putfield 36, 3) := by decide +kernel
theorem dX8_init_73 : decode cX8_init 73 = .ok (.aload_n 0, 1) := by decide +kernel
theorem dX8_init_74 : decode cX8_init 74 = .ok (.bipush 100, 2) := by decide +kernel
theorem dX8_init_76 : decode cX8_init 76 = .ok (.newarray .int, 2) := by decide +kernel
theorem dX8_init_78 : decode cX8_init 78 = .ok (.putfield 39, 3) := by decide +kernel
theorem dX8_init_81 : decode cX8_init 81 = .ok (.aload_n 0, 1) := by decide +kernel
theorem dX8_init_82 : decode cX8_init 82 = .ok (.bipush 100, 2) := by decide +kernel
theorem dX8_init_84 : decode cX8_init 84 = .ok (.newarray .int, 2) := by decide +kernel
theorem dX8_init_86 : decode cX8_init 86 = .ok (.putfield 42, 3) := by decide +kernel
theorem dX8_init_89 : decode cX8_init 89 = .ok (.aload_n 0, 1) := by decide +kernel
theorem dX8_init_90 : decode cX8_init 90 = .ok (.sipush 6400, 3) := by decide +kernel
theorem dX8_init_93 : decode cX8_init 93 = .ok (.newarray .int, 2) := by decide +kernel
theorem dX8_init_95 : decode cX8_init 95 = .ok (.putfield 45, 3) := by decide +kernel
theorem dX8_init_98 : decode cX8_init 98 = .ok (.aload_n 0, 1) := by decide +kernel
theorem dX8_init_99 : decode cX8_init 99 = .ok (.iconst 3, 1) := by decide +kernel
theorem dX8_init_100 : decode cX8_init 100 = .ok (.newarray .int, 2) := by decide +kernel
theorem dX8_init_102 : decode cX8_init 102 = .ok (.putfield 48, 3) := by decide +kernel
theorem dX8_init_105 : decode cX8_init 105 = .ok (.aload_n 0, 1) := by decide +kernel
theorem dX8_init_106 : decode cX8_init 106 = .ok (.iconst 3, 1) := by decide +kernel
theorem dX8_init_107 : decode cX8_init 107 = .ok (.newarray .int, 2) := by decide +kernel
theorem dX8_init_109 : decode cX8_init 109 = .ok (.putfield 51, 3) := by decide +kernel
theorem dX8_init_112 : decode cX8_init 112 = .ok (.aload_n 0, 1) := by decide +kernel
theorem dX8_init_113 : decode cX8_init 113 = .ok (.bipush 8, 2) := by decide +kernel
theorem dX8_init_115 : decode cX8_init 115 = .ok (.newarray .int, 2) := by decide +kernel
theorem dX8_init_117 : decode cX8_init 117 = .ok (.putfield 54, 3) := by decide +kernel
theorem dX8_init_120 : decode cX8_init 120 = .ok (.aload_n 0, 1) := by decide +kernel
theorem dX8_init_121 : decode cX8_init 121 = .ok (.bipush 20, 2) := by decide +kernel
theorem dX8_init_123 : decode cX8_init 123 = .ok (.newarray .int, 2) := by decide +kernel
theorem dX8_init_125 : decode cX8_init 125 = .ok (.putfield 57, 3) := by decide +kernel
theorem dX8_init_128 : decode cX8_init 128 = .ok (.aload_n 0, 1) := by decide +kernel
theorem dX8_init_129 : decode cX8_init 129 = .ok (.bipush 20, 2) := by decide +kernel
theorem dX8_init_131 : decode cX8_init 131 = .ok (.newarray .int, 2) := by decide +kernel
theorem dX8_init_133 : decode cX8_init 133 = .ok (.putfield 60, 3) := by decide +kernel
theorem dX8_init_136 : decode cX8_init 136 = .ok (.aload_n 0, 1) := by decide +kernel
theorem dX8_init_137 : decode cX8_init 137 = .ok (.sipush 1200, 3) := by decide +kernel
theorem dX8_init_140 : decode cX8_init 140 = .ok (.newarray .int, 2) := by decide +kernel
theorem dX8_init_142 : decode cX8_init 142 = .ok (.putfield 63, 3) := by decide +kernel
theorem dX8_init_145 : decode cX8_init 145 = .ok (.aload_n 0, 1) := by decide +kernel
theorem dX8_init_146 : decode cX8_init 146 = .ok (.sipush 1200, 3) := by decide +kernel
theorem dX8_init_149 : decode cX8_init 149 = .ok (.newarray .int, 2) := by decide +kernel
theorem dX8_init_151 : decode cX8_init 151 = .ok (.putfield 66, 3) := by decide +kernel
theorem dX8_init_154 : decode cX8_init 154 = .ok (.aload_n 0, 1) := by decide +kernel
theorem dX8_init_155 : decode cX8_init 155 = .ok (.bipush 100, 2) := by decide +kernel
theorem dX8_init_157 : decode cX8_init 157 = .ok (.newarray .int, 2) := by decide +kernel
theorem dX8_init_159 : decode cX8_init 159 = .ok (.putfield 69, 3) := by decide +kernel
theorem dX8_init_162 : decode cX8_init 162 = .ok (.aload_n 0, 1) := by decide +kernel
theorem dX8_init_163 : decode cX8_init 163 = .ok (.bipush 100, 2) := by decide +kernel
theorem dX8_init_165 : decode cX8_init 165 = .ok (.newarray .int, 2) := by decide +kernel
theorem dX8_init_167 : decode cX8_init 167 = .ok (.putfield 72, 3) := by decide +kernel
theorem dX8_init_170 : decode cX8_init 170 = .ok (.aload_n 0, 1) := by decide +kernel
theorem dX8_init_171 : decode cX8_init 171 = .ok (.bipush 16, 2) := by decide +kernel
theorem dX8_init_173 : decode cX8_init 173 = .ok (.newarray .int, 2) := by decide +kernel
theorem dX8_init_175 : decode cX8_init 175 = .ok (.putfield 75, 3) := by decide +kernel
theorem dX8_init_178 : decode cX8_init 178 = .ok (.aload_n 0, 1) := by decide +kernel
theorem dX8_init_179 : decode cX8_init 179 = .ok (.bipush 16, 2) := by decide +kernel
theorem dX8_init_181 : decode cX8_init 181 = .ok (.newarray .int, 2) := by decide +kernel
theorem dX8_init_183 : decode cX8_init 183 = .ok (.putfield 78, 3) := by decide +kernel
theorem dX8_init_186 : decode cX8_init 186 = .ok (.aload_n 0, 1) := by decide +kernel
theorem dX8_init_187 : decode cX8_init 187 = .ok (.bipush 60, 2) := by decide +kernel
theorem dX8_init_189 : decode cX8_init 189 = .ok (.newarray .int, 2) := by decide +kernel
theorem dX8_init_191 : decode cX8_init 191 = .ok (.putfield 81, 3) := by decide +kernel
theorem dX8_init_194 : decode cX8_init 194 = .ok (.aload_n 0, 1) := by decide +kernel
theorem dX8_init_195 : decode cX8_init 195 = .ok (.bipush 60, 2) := by decide +kernel
theorem dX8_init_197 : decode cX8_init 197 = .ok (.newarray .int, 2) := by decide +kernel
theorem dX8_init_199 : decode cX8_init 199 = .ok (.putfield 84, 3) := by decide +kernel
theorem dX8_init_202 : decode cX8_init 202 = .ok (.aload_n 0, 1) := by decide +kernel
theorem dX8_init_203 : decode cX8_init 203 = .ok (.getfield 13, 3) := by decide +kernel
theorem dX8_init_206 : decode cX8_init 206 = .ok (.iconst 0, 1) := by decide +kernel
theorem dX8_init_207 : decode cX8_init 207 = .ok (.iconst (-1), 1) := by decide +kernel
theorem dX8_init_208 : decode cX8_init 208 = .ok (.iastore, 1) := by decide +kernel
theorem dX8_init_209 : decode cX8_init 209 = .ok (.return_, 1) := by decide +kernel
theorem dX8_thrown_0 : decode cX8_thrown 0 = .ok (.aload_n 0, 1) := by decide +kernel
theorem dX8_thrown_1 : decode cX8_thrown 1 = .ok (.getfield 87, 3) := by decide +kernel
theorem dX8_thrown_4 : decode cX8_thrown 4 = .ok (.ireturn, 1) := by decide +kernel
theorem dX8_right_0 : decode cX8_right 0 = .ok (.aload_n 0, 1) := by decide +kernel
theorem dX8_right_1 : decode cX8_right 1 = .ok (.getfield 87, 3) := by decide +kernel
theorem dX8_right_4 : decode cX8_right 4 = .ok (.ifCond .ne 12, 3) := by decide +kernel
theorem dX8_right_7 : decode cX8_right 7 = .ok (.iload_n 1, 1) := by decide +kernel
theorem dX8_right_8 : decode cX8_right 8 = .ok (.ifCond .ne 8, 3) := by decide +kernel
theorem dX8_right_11 : decode cX8_right 11 = .ok (.aload_n 0, 1) := by decide +kernel
theorem dX8_right_12 : decode cX8_right 12 = .ok (.iload_n 2, 1) := by decide +kernel
theorem dX8_right_13 : decode cX8_right 13 = .ok (.putfield 87, 3) := by decide +kernel
theorem dX8_right_16 : decode cX8_right 16 = .ok (.aload_n 0, 1) := by decide +kernel
theorem dX8_right_17 : decode cX8_right 17 = .ok (.getfield 87, 3) := by decide +kernel
theorem dX8_right_20 : decode cX8_right 20 = .ok (.ifCond .ne 7, 3) := by decide +kernel
theorem dX8_right_23 : decode cX8_right 23 = .ok (.iconst 1, 1) := by decide +kernel
theorem dX8_right_24 : decode cX8_right 24 = .ok (.goto 4, 3) := by decide +kernel
theorem dX8_right_27 : decode cX8_right 27 = .ok (.iconst 0, 1) := by decide +kernel
theorem dX8_right_28 : decode cX8_right 28 = .ok (.ireturn, 1) := by decide +kernel
set_option maxRecDepth 20000 in
theorem ggX8_isFolder_X8_right : GoodIn wsX8_isFolder wsX8_right := goodIn_r _ [6, 7, 8, 9, 10, 11, 12, 13, 14, 15, 16, 17, 18, 19, 20, 21, 22, 23, 24, 25, 26, 27, 28, 29, 30, 31, 32, 33, 34, 35, 36, 37, 38, 39, 40, 41] (by decide +kernel) (by decide +kernel)
set_option maxRecDepth 20000 in
theorem gX8_isFolder_X8_right : GoodIn wsX8_isFolder (wsV RX8 90 RX8 yX8_right wsX8_right) := goodIn_app (goodIn_of _ (by decide +kernel)) ggX8_isFolder_X8_right
theorem dX8_isFolder_0 : decode cX8_isFolder 0 = .ok (.aload_n 0, 1) := by decide +kernel
theorem dX8_isFolder_1 : decode cX8_isFolder 1 = .ok (.iload_n 1, 1) := by decide +kernel
theorem dX8_isFolder_2 : decode cX8_isFolder 2 = .ok (.ifCond .lt 15, 3) := by decide +kernel
theorem dX8_isFolder_5 : decode cX8_isFolder 5 = .ok (.iload_n 1, 1) := by decide +kernel
theorem dX8_isFolder_6 : decode cX8_isFolder 6 = .ok (.aload_n 0, 1) := by decide +kernel
theorem dX8_isFolder_7 : decode cX8_isFolder 7 = .ok (.getfield 7, 3) := by decide +kernel
theorem dX8_isFolder_10 : decode cX8_isFolder 10 = .ok (.if_icmp .ge 7, 3) := by decide +kernel
theorem dX8_isFolder_13 : decode cX8_isFolder 13 = .ok (.iconst 1, 1) := by decide +kernel
theorem dX8_isFolder_14 : decode cX8_isFolder 14 = .ok (.goto 4, 3) := by decide +kernel
theorem dX8_isFolder_17 : decode cX8_isFolder 17 = .ok (.iconst 0, 1) := by decide +kernel
theorem dX8_isFolder_18 : decode cX8_isFolder 18 = .ok (.iconst 1, 1) := by decide +kernel
theorem dX8_isFolder_19 : decode cX8_isFolder 19 = .ok (.invokevirtual 90, 3) := by decide +kernel
theorem dX8_isFolder_22 : decode cX8_isFolder 22 = .ok (.ireturn, 1) := by decide +kernel
set_option maxRecDepth 20000 in
theorem ggX8_isFile_X8_right : GoodIn wsX8_isFile wsX8_right := goodIn_r _ [8, 1, 9, 10, 11, 12, 13, 14, 15, 16, 17, 18, 19, 20, 21, 22, 23, 24, 25, 26, 27, 28, 29, 30, 31, 32, 33, 34, 35, 36, 37, 38, 39, 40, 41, 42] (by decide +kernel) (by decide +kernel)
set_option maxRecDepth 20000 in
theorem gX8_isFile_X8_right : GoodIn wsX8_isFile (wsV RX8 90 RX8 yX8_right wsX8_right) := goodIn_app (goodIn_of _ (by decide +kernel)) ggX8_isFile_X8_right
theorem dX8_isFile_0 : decode cX8_isFile 0 = .ok (.aload_n 0, 1) := by decide +kernel
theorem dX8_isFile_1 : decode cX8_isFile 1 = .ok (.iconst 0, 1) := by decide +kernel
theorem dX8_isFile_2 : decode cX8_isFile 2 = .ok (.putfield 87, 3) := by decide +kernel
theorem dX8_isFile_5 : decode cX8_isFile 5 = .ok (.aload_n 0, 1) := by decide +kernel
theorem dX8_isFile_6 : decode cX8_isFile 6 = .ok (.iload_n 1, 1) := by decide +kernel
theorem dX8_isFile_7 : decode cX8_isFile 7 = .ok (.ifCond .lt 25, 3) := by decide +kernel
theorem dX8_isFile_10 : decode cX8_isFile 10 = .ok (.iload_n 1, 1) := by decide +kernel
theorem dX8_isFile_11 : decode cX8_isFile 11 = .ok (.aload_n 0, 1) := by decide +kernel
theorem dX8_isFile_12 : decode cX8_isFile 12 = .ok (.getfield 94, 3) := by decide +kernel
theorem dX8_isFile_15 : decode cX8_isFile 15 = .ok (.if_icmp .ge 17, 3) := by decide +kernel
theorem dX8_isFile_18 : decode cX8_isFile 18 = .ok (.aload_n 0, 1) := by decide +kernel
theorem dX8_isFile_19 : decode cX8_isFile 19 = .ok (.getfield 20, 3) := by decide +kernel
theorem dX8_isFile_22 : decode cX8_isFile 22 = .ok (.iload_n 1, 1) := by decide +kernel
theorem dX8_isFile_23 : decode cX8_isFile 23 = .ok (.iaload, 1) := by decide +kernel
theorem dX8_isFile_24 : decode cX8_isFile 24 = .ok (.iconst (-1), 1) := by decide +kernel
theorem dX8_isFile_25 : decode cX8_isFile 25 = .ok (.if_icmp .eq 7, 3) := by decide +kernel
theorem dX8_isFile_28 : decode cX8_isFile 28 = .ok (.iconst 1, 1) := by decide +kernel
theorem dX8_isFile_29 : decode cX8_isFile 29 = .ok (.goto 4, 3) := by decide +kernel
theorem dX8_isFile_32 : decode cX8_isFile 32 = .ok (.iconst 0, 1) := by decide +kernel
theorem dX8_isFile_33 : decode cX8_isFile 33 = .ok (.iconst 1, 1) := by decide +kernel
theorem dX8_isFile_34 : decode cX8_isFile 34 = .ok (.invokevirtual 90, 3) := by decide +kernel
theorem dX8_isFile_37 : decode cX8_isFile 37 = .ok (.ireturn, 1) := by decide +kernel
theorem dX8_isName_0 : decode cX8_isName 0 = .ok (.iload_n 0, 1) := by decide +kernel
theorem dX8_isName_1 : decode cX8_isName 1 = .ok (.ifCond .lt 14, 3) := by decide +kernel
theorem dX8_isName_4 : decode cX8_isName 4 = .ok (.iload_n 0, 1) := by decide +kernel
theorem dX8_isName_5 : decode cX8_isName 5 = .ok (.sipush 999, 3) := by decide +kernel
theorem dX8_isName_8 : decode cX8_isName 8 = .ok (.if_icmp .gt 7, 3) := by decide +kernel
theorem dX8_isName_11 : decode cX8_isName 11 = .ok (.iconst 1, 1) := by decide +kernel
theorem dX8_isName_12 : decode cX8_isName 12 = .ok (.goto 4, 3) := by decide +kernel
theorem dX8_isName_15 : decode cX8_isName 15 = .ok (.iconst 0, 1) := by decide +kernel
theorem dX8_isName_16 : decode cX8_isName 16 = .ok (.ireturn, 1) := by decide +kernel
set_option maxRecDepth 20000 in
theorem ggX8_folder_X8_isFolder : GoodIn wsX8_folder wsX8_isFolder := goodIn_r _ [9, 2, 10, 11, 12, 8, 13, 1, 21, 22, 23, 24, 25, 26, 27, 28, 29, 30, 31, 32, 33, 34, 35, 36, 37, 38, 39, 40, 41, 42, 43, 44, 45, 46, 47, 48, 49, 50, 51, 52, 53, 54] (by decide +kernel) (by decide +kernel)
set_option maxRecDepth 20000 in
theorem gX8_folder_X8_isFolder : GoodIn wsX8_folder (wsV RX8 97 RX8 yX8_isFolder wsX8_isFolder) := goodIn_app (goodIn_of _ (by decide +kernel)) ggX8_folder_X8_isFolder
set_option maxRecDepth 20000 in
theorem ggX8_folder_X8_isName : GoodIn wsX8_folder wsX8_isName := goodIn_r _ [16] (by decide +kernel) (by decide +kernel)
set_option maxRecDepth 20000 in
theorem gX8_folder_X8_isName : GoodIn wsX8_folder (va_wsS RX8 101 yX8_isName wsX8_isName) := goodIn_app (goodIn_of _ (by decide +kernel)) ggX8_folder_X8_isName
set_option maxRecDepth 20000 in
theorem ggX8_folder_X8_child : GoodIn wsX8_folder wsX8_child := goodIn_r _ [20, 2, 3, 4, 21, 22, 23, 24, 25, 26, 27, 28, 29, 30, 31, 32, 33, 34, 35, 36, 37, 38, 39, 40, 41, 42, 43, 44, 45, 46, 47, 48, 49, 50, 51, 52, 53, 54] (by decide +kernel) (by decide +kernel)
set_option maxRecDepth 20000 in
theorem gX8_folder_X8_child : GoodIn wsX8_folder (wsV RX8 104 RX8 yX8_child wsX8_child) := goodIn_app (goodIn_of _ (by decide +kernel)) ggX8_folder_X8_child
theorem dX8_folder_0 : decode cX8_folder 0 = .ok (.aload_n 0, 1) := by decide +kernel
theorem dX8_folder_1 : decode cX8_folder 1 = .ok (.iconst 0, 1) := by decide +kernel
theorem dX8_folder_2 : decode cX8_folder 2 = .ok (.putfield 87, 3) := by decide +kernel
theorem dX8_folder_5 : decode cX8_folder 5 = .ok (.aload_n 0, 1) := by decide +kernel
theorem dX8_folder_6 : decode cX8_folder 6 = .ok (.iload_n 1, 1) := by decide +kernel
theorem dX8_folder_7 : decode cX8_folder 7 = .ok (.invokevirtual 97, 3) := by decide +kernel
theorem dX8_folder_10 : decode cX8_folder 10 = .ok (.ifCond .ne 5, 3) := by decide +kernel
theorem dX8_folder_13 : decode cX8_folder 13 = .ok (.iconst 0, 1) := by decide +kernel
theorem dX8_folder_14 : decode cX8_folder 14 = .ok (.ireturn, 1) := by decide +kernel
theorem dX8_folder_15 : decode cX8_folder 15 = .ok (.aload_n 0, 1) := by decide +kernel
theorem dX8_folder_16 : decode cX8_folder 16 = .ok (.getfield 7, 3) := by decide +kernel
theorem dX8_folder_19 : decode cX8_folder 19 = .ok (.bipush 16, 2) := by decide +kernel
theorem dX8_folder_21 : decode cX8_folder 21 = .ok (.if_icmp .eq 20, 3) := by decide +kernel
theorem dX8_folder_24 : decode cX8_folder 24 = .ok (.iload_n 2, 1) := by decide +kernel
theorem dX8_folder_25 : decode cX8_folder 25 = .ok (.invokestatic 101, 3) := by decide +kernel
theorem dX8_folder_28 : decode cX8_folder 28 = .ok (.ifCond .eq 13, 3) := by decide +kernel
theorem dX8_folder_31 : decode cX8_folder 31 = .ok (.aload_n 0, 1) := by decide +kernel
theorem dX8_folder_32 : decode cX8_folder 32 = .ok (.iload_n 1, 1) := by decide +kernel
theorem dX8_folder_33 : decode cX8_folder 33 = .ok (.iload_n 2, 1) := by decide +kernel
theorem dX8_folder_34 : decode cX8_folder 34 = .ok (.invokevirtual 104, 3) := by decide +kernel
theorem dX8_folder_37 : decode cX8_folder 37 = .ok (.iconst (-1), 1) := by decide +kernel
theorem dX8_folder_38 : decode cX8_folder 38 = .ok (.if_icmp .eq 5, 3) := by decide +kernel
theorem dX8_folder_41 : decode cX8_folder 41 = .ok (.iconst (-1), 1) := by decide +kernel
theorem dX8_folder_42 : decode cX8_folder 42 = .ok (.ireturn, 1) := by decide +kernel
theorem dX8_folder_43 : decode cX8_folder 43 = .ok (.aload_n 0, 1) := by decide +kernel
theorem dX8_folder_44 : decode cX8_folder 44 = .ok (.getfield 13, 3) := by decide +kernel
theorem dX8_folder_47 : decode cX8_folder 47 = .ok (.aload_n 0, 1) := by decide +kernel
theorem dX8_folder_48 : decode cX8_folder 48 = .ok (.getfield 7, 3) := by decide +kernel
theorem dX8_folder_51 : decode cX8_folder 51 = .ok (.iload_n 1, 1) := by decide +kernel
theorem dX8_folder_52 : decode cX8_folder 52 = .ok (.iastore, 1) := by decide +kernel
theorem dX8_folder_53 : decode cX8_folder 53 = .ok (.aload_n 0, 1) := by decide +kernel
theorem dX8_folder_54 : decode cX8_folder 54 = .ok (.getfield 17, 3) := by decide +kernel
theorem dX8_folder_57 : decode cX8_folder 57 = .ok (.aload_n 0, 1) := by decide +kernel
theorem dX8_folder_58 : decode cX8_folder 58 = .ok (.getfield 7, 3) := by decide +kernel
theorem dX8_folder_61 : decode cX8_folder 61 = .ok (.iload_n 2, 1) := by decide +kernel
theorem dX8_folder_62 : decode cX8_folder 62 = .ok (.iastore, 1) := by decide +kernel
theorem dX8_folder_63 : decode cX8_folder 63 = .ok (.aload_n 0, 1) := by decide +kernel
theorem dX8_folder_64 : decode cX8_folder 64 = .ok (.dup, 1) := by decide +kernel
theorem dX8_folder_65 : decode cX8_folder 65 = .ok (.getfield 7, 3) := by decide +kernel
theorem dX8_folder_68 : decode cX8_folder 68 = .ok (.iconst 1, 1) := by decide +kernel
theorem dX8_folder_69 : decode cX8_folder 69 = .ok (.iadd, 1) := by decide +kernel
theorem dX8_folder_70 : decode cX8_folder 70 = .ok (.putfield 7, 3) := by decide +kernel
theorem dX8_folder_73 : decode cX8_folder 73 = .ok (.aload_n 0, 1) := by decide +kernel
theorem dX8_folder_74 : decode cX8_folder 74 = .ok (.getfield 7, 3) := by decide +kernel
theorem dX8_folder_77 : decode cX8_folder 77 = .ok (.iconst 1, 1) := by decide +kernel
theorem dX8_folder_78 : decode cX8_folder 78 = .ok (.isub, 1) := by decide +kernel
theorem dX8_folder_79 : decode cX8_folder 79 = .ok (.ireturn, 1) := by decide +kernel
theorem dX8_child_0 : decode cX8_child 0 = .ok (.iconst 1, 1) := by decide +kernel
theorem dX8_child_1 : decode cX8_child 1 = .ok (.istore_n 3, 1) := by decide +kernel
theorem dX8_child_2 : decode cX8_child 2 = .ok (.iload_n 3, 1) := by decide +kernel
theorem dX8_child_3 : decode cX8_child 3 = .ok (.aload_n 0, 1) := by decide +kernel
theorem dX8_child_4 : decode cX8_child 4 = .ok (.getfield 7, 3) := by decide +kernel
theorem dX8_child_7 : decode cX8_child 7 = .ok (.if_icmp .ge 31, 3) := by decide +kernel
theorem dX8_child_10 : decode cX8_child 10 = .ok (.aload_n 0, 1) := by decide +kernel
theorem dX8_child_11 : decode cX8_child 11 = .ok (.getfield 13, 3) := by decide +kernel
theorem dX8_child_14 : decode cX8_child 14 = .ok (.iload_n 3, 1) := by decide +kernel
theorem dX8_child_15 : decode cX8_child 15 = .ok (.iaload, 1) := by decide +kernel
theorem dX8_child_16 : decode cX8_child 16 = .ok (.iload_n 1, 1) := by decide +kernel
theorem dX8_child_17 : decode cX8_child 17 = .ok (.if_icmp .ne 15, 3) := by decide +kernel
theorem dX8_child_20 : decode cX8_child 20 = .ok (.aload_n 0, 1) := by decide +kernel
theorem dX8_child_21 : decode cX8_child 21 = .ok (.getfield 17, 3) := by decide +kernel
theorem dX8_child_24 : decode cX8_child 24 = .ok (.iload_n 3, 1) := by decide +kernel
theorem dX8_child_25 : decode cX8_child 25 = .ok (.iaload, 1) := by decide +kernel
theorem dX8_child_26 : decode cX8_child 26 = .ok (.iload_n 2, 1) := by decide +kernel
theorem dX8_child_27 : decode cX8_child 27 = .ok (.if_icmp .ne 5, 3) := by decide +kernel
theorem dX8_child_30 : decode cX8_child 30 = .ok (.iload_n 3, 1) := by decide +kernel
theorem dX8_child_31 : decode cX8_child 31 = .ok (.ireturn, 1) := by decide +kernel
theorem dX8_child_32 : decode cX8_child 32 = .ok (.iinc 3 1, 3) := by decide +kernel
theorem dX8_child_35 : decode cX8_child 35 = .ok (.goto (-33), 3) := by decide +kernel
theorem dX8_child_38 : decode cX8_child 38 = .ok (.iconst (-1), 1) := by decide +kernel
theorem dX8_child_39 : decode cX8_child 39 = .ok (.ireturn, 1) := by decide +kernel
theorem dX8_named_0 : decode cX8_named 0 = .ok (.iconst 0, 1) := by decide +kernel
theorem dX8_named_1 : decode cX8_named 1 = .ok (.istore_n 3, 1) := by decide +kernel
theorem dX8_named_2 : decode cX8_named 2 = .ok (.iload_n 3, 1) := by decide +kernel
theorem dX8_named_3 : decode cX8_named 3 = .ok (.aload_n 0, 1) := by decide +kernel
theorem dX8_named_4 : decode cX8_named 4 = .ok (.getfield 94, 3) := by decide +kernel
theorem dX8_named_7 : decode cX8_named 7 = .ok (.if_icmp .ge 31, 3) := by decide +kernel
theorem dX8_named_10 : decode cX8_named 10 = .ok (.aload_n 0, 1) := by decide +kernel
theorem dX8_named_11 : decode cX8_named 11 = .ok (.getfield 20, 3) := by decide +kernel
theorem dX8_named_14 : decode cX8_named 14 = .ok (.iload_n 3, 1) := by decide +kernel
theorem dX8_named_15 : decode cX8_named 15 = .ok (.iaload, 1) := by decide +kernel
theorem dX8_named_16 : decode cX8_named 16 = .ok (.iload_n 1, 1) := by decide +kernel
theorem dX8_named_17 : decode cX8_named 17 = .ok (.if_icmp .ne 15, 3) := by decide +kernel
theorem dX8_named_20 : decode cX8_named 20 = .ok (.aload_n 0, 1) := by decide +kernel
theorem dX8_named_21 : decode cX8_named 21 = .ok (.getfield 23, 3) := by decide +kernel
theorem dX8_named_24 : decode cX8_named 24 = .ok (.iload_n 3, 1) := by decide +kernel
theorem dX8_named_25 : decode cX8_named 25 = .ok (.iaload, 1) := by decide +kernel
theorem dX8_named_26 : decode cX8_named 26 = .ok (.iload_n 2, 1) := by decide +kernel
theorem dX8_named_27 : decode cX8_named 27 = .ok (.if_icmp .ne 5, 3) := by decide +kernel
theorem dX8_named_30 : decode cX8_named 30 = .ok (.iload_n 3, 1) := by decide +kernel
theorem dX8_named_31 : decode cX8_named 31 = .ok (.ireturn, 1) := by decide +kernel
theorem dX8_named_32 : decode cX8_named 32 = .ok (.iinc 3 1, 3) := by decide +kernel
theorem dX8_named_35 : decode cX8_named 35 = .ok (.goto (-33), 3) := by decide +kernel
theorem dX8_named_38 : decode cX8_named 38 = .ok (.iconst (-1), 1) := by decide +kernel
theorem dX8_named_39 : decode cX8_named 39 = .ok (.ireturn, 1) := by decide +kernel
theorem dX8_newBody_0 : decode cX8_newBody 0 = .ok (.aload_n 0, 1) := by decide +kernel
theorem dX8_newBody_1 : decode cX8_newBody 1 = .ok (.getfield 33, 3) := by decide +kernel
theorem dX8_newBody_4 : decode cX8_newBody 4 = .ok (.aload_n 0, 1) := by decide +kernel
theorem dX8_newBody_5 : decode cX8_newBody 5 = .ok (.getfield 108, 3) := by decide +kernel
theorem dX8_newBody_8 : decode cX8_newBody 8 = .ok (.iload_n 1, 1) := by decide +kernel
theorem dX8_newBody_9 : decode cX8_newBody 9 = .ok (.iastore, 1) := by decide +kernel
theorem dX8_newBody_10 : decode cX8_newBody 10 = .ok (.aload_n 0, 1) := by decide +kernel
theorem dX8_newBody_11 : decode cX8_newBody 11 = .ok (.getfield 36, 3) := by decide +kernel
theorem dX8_newBody_14 : decode cX8_newBody 14 = .ok (.aload_n 0, 1) := by decide +kernel
theorem dX8_newBody_15 : decode cX8_newBody 15 = .ok (.getfield 108, 3) := by decide +kernel
theorem dX8_newBody_18 : decode cX8_newBody 18 = .ok (.iload_n 2, 1) := by decide +kernel
theorem dX8_newBody_19 : decode cX8_newBody 19 = .ok (.iastore, 1) := by decide +kernel
theorem dX8_newBody_20 : decode cX8_newBody 20 = .ok (.aload_n 0, 1) := by decide +kernel
theorem dX8_newBody_21 : decode cX8_newBody 21 = .ok (.getfield 39, 3) := by decide +kernel
theorem dX8_newBody_24 : decode cX8_newBody 24 = .ok (.aload_n 0, 1) := by decide +kernel
theorem dX8_newBody_25 : decode cX8_newBody 25 = .ok (.getfield 108, 3) := by decide +kernel
theorem dX8_newBody_28 : decode cX8_newBody 28 = .ok (.iload_n 3, 1) := by decide +kernel
theorem dX8_newBody_29 : decode cX8_newBody 29 = .ok (.iastore, 1) := by decide +kernel
theorem dX8_newBody_30 : decode cX8_newBody 30 = .ok (.aload_n 0, 1) := by decide +kernel
theorem dX8_newBody_31 : decode cX8_newBody 31 = .ok (.getfield 42, 3) := by decide +kernel
theorem dX8_newBody_34 : decode cX8_newBody 34 = .ok (.aload_n 0, 1) := by decide +kernel
theorem dX8_newBody_35 : decode cX8_newBody 35 = .ok (.getfield 108, 3) := by decide +kernel
theorem dX8_newBody_38 : decode cX8_newBody 38 = .ok (.iconst (-1), 1) := by decide +kernel
theorem dX8_newBody_39 : decode cX8_newBody 39 = .ok (.iastore, 1) := by decide +kernel
theorem dX8_newBody_40 : decode cX8_newBody 40 = .ok (.aload_n 0, 1) := by decide +kernel
theorem dX8_newBody_41 : decode cX8_newBody 41 = .ok (.dup, 1) := by decide +kernel
theorem dX8_newBody_42 : decode cX8_newBody 42 = .ok (.getfield 108, 3) := by decide +kernel
theorem dX8_newBody_45 : decode cX8_newBody 45 = .ok (.iconst 1, 1) := by decide +kernel
theorem dX8_newBody_46 : decode cX8_newBody 46 = .ok (.iadd, 1) := by decide +kernel
theorem dX8_newBody_47 : decode cX8_newBody 47 = .ok (.putfield 108, 3) := by decide +kernel
theorem dX8_newBody_50 : decode cX8_newBody 50 = .ok (.aload_n 0, 1) := by decide +kernel
theorem dX8_newBody_51 : decode cX8_newBody 51 = .ok (.getfield 108, 3) := by decide +kernel
theorem dX8_newBody_54 : decode cX8_newBody 54 = .ok (.iconst 1, 1) := by decide +kernel
theorem dX8_newBody_55 : decode cX8_newBody 55 = .ok (.isub, 1) := by decide +kernel
theorem dX8_newBody_56 : decode cX8_newBody 56 = .ok (.ireturn, 1) := by decide +kernel
theorem dX8_newFile_0 : decode cX8_newFile 0 = .ok (.aload_n 0, 1) := by decide +kernel
theorem dX8_newFile_1 : decode cX8_newFile 1 = .ok (.getfield 20, 3) := by decide +kernel
theorem dX8_newFile_4 : decode cX8_newFile 4 = .ok (.aload_n 0, 1) := by decide +kernel
theorem dX8_newFile_5 : decode cX8_newFile 5 = .ok (.getfield 94, 3) := by decide +kernel
theorem dX8_newFile_8 : decode cX8_newFile 8 = .ok (.iload_n 1, 1) := by decide +kernel
theorem dX8_newFile_9 : decode cX8_newFile 9 = .ok (.iastore, 1) := by decide +kernel
theorem dX8_newFile_10 : decode cX8_newFile 10 = .ok (.aload_n 0, 1) := by decide +kernel
theorem dX8_newFile_11 : decode cX8_newFile 11 = .ok (.getfield 23, 3) := by decide +kernel
theorem dX8_newFile_14 : decode cX8_newFile 14 = .ok (.aload_n 0, 1) := by decide +kernel
theorem dX8_newFile_15 : decode cX8_newFile 15 = .ok (.getfield 94, 3) := by decide +kernel
theorem dX8_newFile_18 : decode cX8_newFile 18 = .ok (.iload_n 2, 1) := by decide +kernel
theorem dX8_newFile_19 : decode cX8_newFile 19 = .ok (.iastore, 1) := by decide +kernel
theorem dX8_newFile_20 : decode cX8_newFile 20 = .ok (.aload_n 0, 1) := by decide +kernel
theorem dX8_newFile_21 : decode cX8_newFile 21 = .ok (.getfield 26, 3) := by decide +kernel
theorem dX8_newFile_24 : decode cX8_newFile 24 = .ok (.aload_n 0, 1) := by decide +kernel
theorem dX8_newFile_25 : decode cX8_newFile 25 = .ok (.getfield 94, 3) := by decide +kernel
theorem dX8_newFile_28 : decode cX8_newFile 28 = .ok (.iload_n 3, 1) := by decide +kernel
theorem dX8_newFile_29 : decode cX8_newFile 29 = .ok (.iastore, 1) := by decide +kernel
theorem dX8_newFile_30 : decode cX8_newFile 30 = .ok (.aload_n 0, 1) := by decide +kernel
theorem dX8_newFile_31 : decode cX8_newFile 31 = .ok (.dup, 1) := by decide +kernel
theorem dX8_newFile_32 : decode cX8_newFile 32 = .ok (.getfield 94, 3) := by decide +kernel
theorem dX8_newFile_35 : decode cX8_newFile 35 = .ok (.iconst 1, 1) := by decide +kernel
theorem dX8_newFile_36 : decode cX8_newFile 36 = .ok (.iadd, 1) := by decide +kernel
theorem dX8_newFile_37 : decode cX8_newFile 37 = .ok (.putfield 94, 3) := by decide +kernel
theorem dX8_newFile_40 : decode cX8_newFile 40 = .ok (.aload_n 0, 1) := by decide +kernel
theorem dX8_newFile_41 : decode cX8_newFile 41 = .ok (.getfield 94, 3) := by decide +kernel
theorem dX8_newFile_44 : decode cX8_newFile 44 = .ok (.iconst 1, 1) := by decide +kernel
theorem dX8_newFile_45 : decode cX8_newFile 45 = .ok (.isub, 1) := by decide +kernel
theorem dX8_newFile_46 : decode cX8_newFile 46 = .ok (.ireturn, 1) := by decide +kernel
set_option maxRecDepth 20000 in
theorem ggX8_canCome_X8_isName : GoodIn wsX8_canCome wsX8_isName := goodIn_r _ [5] (by decide +kernel) (by decide +kernel)
set_option maxRecDepth 20000 in
theorem gX8_canCome_X8_isName : GoodIn wsX8_canCome (va_wsS RX8 101 yX8_isName wsX8_isName) := goodIn_app (goodIn_of _ (by decide +kernel)) ggX8_canCome_X8_isName
set_option maxRecDepth 20000 in
theorem ggX8_canCome_X8_named : GoodIn wsX8_canCome wsX8_named := goodIn_r _ [9, 1, 10, 11, 12, 13, 14, 15, 16, 17, 18, 19, 20, 21, 22, 23, 24, 25, 26, 27, 28, 29, 30, 31, 32, 33, 34, 35, 36, 37, 38, 39, 40, 41, 42, 43, 44, 45] (by decide +kernel) (by decide +kernel)
set_option maxRecDepth 20000 in
theorem gX8_canCome_X8_named : GoodIn wsX8_canCome (wsV RX8 111 RX8 yX8_named wsX8_named) := goodIn_app (goodIn_of _ (by decide +kernel)) ggX8_canCome_X8_named
theorem dX8_canCome_0 : decode cX8_canCome 0 = .ok (.aload_n 0, 1) := by decide +kernel
theorem dX8_canCome_1 : decode cX8_canCome 1 = .ok (.getfield 94, 3) := by decide +kernel
theorem dX8_canCome_4 : decode cX8_canCome 4 = .ok (.bipush 60, 2) := by decide +kernel
theorem dX8_canCome_6 : decode cX8_canCome 6 = .ok (.if_icmp .ge 24, 3) := by decide +kernel
theorem dX8_canCome_9 : decode cX8_canCome 9 = .ok (.iload_n 2, 1) := by decide +kernel
theorem dX8_canCome_10 : decode cX8_canCome 10 = .ok (.invokestatic 101, 3) := by decide +kernel
theorem dX8_canCome_13 : decode cX8_canCome 13 = .ok (.ifCond .eq 17, 3) := by decide +kernel
theorem dX8_canCome_16 : decode cX8_canCome 16 = .ok (.aload_n 0, 1) := by decide +kernel
theorem dX8_canCome_17 : decode cX8_canCome 17 = .ok (.iload_n 1, 1) := by decide +kernel
theorem dX8_canCome_18 : decode cX8_canCome 18 = .ok (.iload_n 2, 1) := by decide +kernel
theorem dX8_canCome_19 : decode cX8_canCome 19 = .ok (.invokevirtual 111, 3) := by decide +kernel
theorem dX8_canCome_22 : decode cX8_canCome 22 = .ok (.iconst (-1), 1) := by decide +kernel
theorem dX8_canCome_23 : decode cX8_canCome 23 = .ok (.if_icmp .ne 7, 3) := by decide +kernel
theorem dX8_canCome_26 : decode cX8_canCome 26 = .ok (.iconst 1, 1) := by decide +kernel
theorem dX8_canCome_27 : decode cX8_canCome 27 = .ok (.goto 4, 3) := by decide +kernel
theorem dX8_canCome_30 : decode cX8_canCome 30 = .ok (.iconst 0, 1) := by decide +kernel
theorem dX8_canCome_31 : decode cX8_canCome 31 = .ok (.ireturn, 1) := by decide +kernel
set_option maxRecDepth 20000 in
theorem ggX8_file_X8_isFolder : GoodIn wsX8_file wsX8_isFolder := goodIn_r _ [8, 9, 10, 11, 12, 7, 13, 1, 41, 42, 43, 44, 45, 46, 47, 48, 49, 50, 51, 52, 53, 54, 55, 56, 57, 58, 59, 60, 61, 62, 63, 64, 65, 66, 67, 68, 69, 70, 71, 72, 73, 74] (by decide +kernel) (by decide +kernel)
set_option maxRecDepth 20000 in
theorem gX8_file_X8_isFolder : GoodIn wsX8_file (wsV RX8 97 RX8 yX8_isFolder wsX8_isFolder) := goodIn_app (goodIn_of _ (by decide +kernel)) ggX8_file_X8_isFolder
set_option maxRecDepth 20000 in
theorem ggX8_file_X8_canCome : GoodIn wsX8_file wsX8_canCome := goodIn_r _ [17, 18, 19, 20, 7, 21, 22, 23, 24, 25, 26, 27, 41, 42, 43, 44, 45, 46, 47, 48, 49, 50, 51, 52, 53, 54, 55, 56, 57, 58, 59, 60, 61, 62, 63, 64, 65, 66, 67, 68, 69, 70, 71, 72, 73, 74] (by decide +kernel) (by decide +kernel)
set_option maxRecDepth 20000 in
theorem gX8_file_X8_canCome : GoodIn wsX8_file (wsV RX8 114 RX8 yX8_canCome wsX8_canCome) := goodIn_app (goodIn_of _ (by decide +kernel)) ggX8_file_X8_canCome
set_option maxRecDepth 20000 in
theorem ggX8_file_X8_newBody : GoodIn wsX8_file wsX8_newBody := goodIn_r _ [31, 32, 2, 33, 34, 35, 41, 42, 43, 44, 45, 46, 47, 48, 49, 50, 51, 52, 53, 54, 55, 56, 57, 58, 59, 60, 61, 62, 63, 64, 65, 66, 67, 68, 69, 70, 71, 72, 73, 74] (by decide +kernel) (by decide +kernel)
set_option maxRecDepth 20000 in
theorem gX8_file_X8_newBody : GoodIn wsX8_file (wsV RX8 121 RX8 yX8_newBody wsX8_newBody) := goodIn_app (goodIn_of _ (by decide +kernel)) ggX8_file_X8_newBody
set_option maxRecDepth 20000 in
theorem ggX8_file_X8_newFile : GoodIn wsX8_file wsX8_newFile := goodIn_r _ [39, 26, 18, 27, 40, 41, 42, 43, 44, 45, 46, 47, 48, 49, 50, 51, 52, 53, 54, 55, 56, 57, 58, 59, 60, 61, 62, 63, 64, 65, 66, 67, 68, 69, 70, 71, 72, 73, 74] (by decide +kernel) (by decide +kernel)
set_option maxRecDepth 20000 in
theorem gX8_file_X8_newFile : GoodIn wsX8_file (wsV RX8 125 RX8 yX8_newFile wsX8_newFile) := goodIn_app (goodIn_of _ (by decide +kernel)) ggX8_file_X8_newFile
theorem dX8_file_0 : decode cX8_file 0 = .ok (.aload_n 0, 1) := by decide +kernel
theorem dX8_file_1 : decode cX8_file 1 = .ok (.iconst 0, 1) := by decide +kernel
theorem dX8_file_2 : decode cX8_file 2 = .ok (.putfield 87, 3) := by decide +kernel
theorem dX8_file_5 : decode cX8_file 5 = .ok (.aload_n 0, 1) := by decide +kernel
theorem dX8_file_6 : decode cX8_file 6 = .ok (.iload_n 1, 1) := by decide +kernel
theorem dX8_file_7 : decode cX8_file 7 = .ok (.invokevirtual 97, 3) := by decide +kernel
theorem dX8_file_10 : decode cX8_file 10 = .ok (.ifCond .ne 5, 3) := by decide +kernel
theorem dX8_file_13 : decode cX8_file 13 = .ok (.iconst 0, 1) := by decide +kernel
theorem dX8_file_14 : decode cX8_file 14 = .ok (.ireturn, 1) := by decide +kernel
theorem dX8_file_15 : decode cX8_file 15 = .ok (.aload_n 0, 1) := by decide +kernel
theorem dX8_file_16 : decode cX8_file 16 = .ok (.iload_n 1, 1) := by decide +kernel
theorem dX8_file_17 : decode cX8_file 17 = .ok (.iload_n 2, 1) := by decide +kernel
theorem dX8_file_18 : decode cX8_file 18 = .ok (.invokevirtual 114, 3) := by decide +kernel
theorem dX8_file_21 : decode cX8_file 21 = .ok (.ifCond .eq 34, 3) := by decide +kernel
theorem dX8_file_24 : decode cX8_file 24 = .ok (.aload_n 0, 1) := by decide +kernel
theorem dX8_file_25 : decode cX8_file 25 = .ok (.getfield 108, 3) := by decide +kernel
theorem dX8_file_28 : decode cX8_file 28 = .ok (.bipush 100, 2) := by decide +kernel
theorem dX8_file_30 : decode cX8_file 30 = .ok (.if_icmp .eq 25, 3) := by decide +kernel
theorem dX8_file_33 : decode cX8_file 33 = .ok (.iload_n 3, 1) := by decide +kernel
theorem dX8_file_34 : decode cX8_file 34 = .ok (.ifCond .lt 21, 3) := by decide +kernel
theorem dX8_file_37 : decode cX8_file 37 = .ok (.iload_n 3, 1) := by decide +kernel
theorem dX8_file_38 : decode cX8_file 38 = .ok (.bipush 7, 2) := by decide +kernel
theorem dX8_file_40 : decode cX8_file 40 = .ok (.if_icmp .gt 15, 3) := by decide +kernel
theorem dX8_file_43 : decode cX8_file 43 = .ok (.iload 4, 2) := by decide +kernel
theorem dX8_file_45 : decode cX8_file 45 = .ok (.ifCond .lt 10, 3) := by decide +kernel
theorem dX8_file_48 : decode cX8_file 48 = .ok (.iload 4, 2) := by decide +kernel
theorem dX8_file_50 : decode cX8_file 50 = .ok (.bipush 64, 2) := by decide +kernel
theorem dX8_file_52 : decode cX8_file 52 = .ok (.if_icmp .le 5, 3) := by decide +kernel
theorem dX8_file_55 : decode cX8_file 55 = .ok (.iconst (-1), 1) := by decide +kernel
theorem dX8_file_56 : decode cX8_file 56 = .ok (.ireturn, 1) := by decide +kernel
theorem dX8_file_57 : decode cX8_file 57 = .ok (.aload_n 0, 1) := by decide +kernel
theorem dX8_file_58 : decode cX8_file 58 = .ok (.iload_n 1, 1) := by decide +kernel
theorem dX8_file_59 : decode cX8_file 59 = .ok (.iload_n 2, 1) := by decide +kernel
theorem dX8_file_60 : decode cX8_file 60 = .ok (.aload_n 0, 1) := by decide +kernel
theorem dX8_file_61 : decode cX8_file 61 = .ok (.iload 4, 2) := by decide +kernel
theorem dX8_file_63 : decode cX8_file 63 = .ok (.iload_n 3, 1) := by decide +kernel
theorem dX8_file_64 : decode cX8_file 64 = .ok (.aload_n 0, 1) := by decide +kernel
theorem dX8_file_65 : decode cX8_file 65 = .ok (.getfield 118, 3) := by decide +kernel
theorem dX8_file_68 : decode cX8_file 68 = .ok (.invokevirtual 121, 3) := by decide +kernel
theorem dX8_file_71 : decode cX8_file 71 = .ok (.invokevirtual 125, 3) := by decide +kernel
theorem dX8_file_74 : decode cX8_file 74 = .ok (.ireturn, 1) := by decide +kernel
theorem dX8_fillsFrom_0 : decode cX8_fillsFrom 0 = .ok (.iconst 0, 1) := by decide +kernel
theorem dX8_fillsFrom_1 : decode cX8_fillsFrom 1 = .ok (.istore_n 3, 1) := by decide +kernel
theorem dX8_fillsFrom_2 : decode cX8_fillsFrom 2 = .ok (.iload_n 3, 1) := by decide +kernel
theorem dX8_fillsFrom_3 : decode cX8_fillsFrom 3 = .ok (.bipush 64, 2) := by decide +kernel
theorem dX8_fillsFrom_5 : decode cX8_fillsFrom 5 = .ok (.if_icmp .ge 31, 3) := by decide +kernel
theorem dX8_fillsFrom_8 : decode cX8_fillsFrom 8 = .ok (.aload_n 0, 1) := by decide +kernel
theorem dX8_fillsFrom_9 : decode cX8_fillsFrom 9 = .ok (.getfield 45, 3) := by decide +kernel
theorem dX8_fillsFrom_12 : decode cX8_fillsFrom 12 = .ok (.bipush 64, 2) := by decide +kernel
theorem dX8_fillsFrom_14 : decode cX8_fillsFrom 14 = .ok (.iload_n 1, 1) := by decide +kernel
theorem dX8_fillsFrom_15 : decode cX8_fillsFrom 15 = .ok (.imul, 1) := by decide +kernel
theorem dX8_fillsFrom_16 : decode cX8_fillsFrom 16 = .ok (.iload_n 3, 1) := by decide +kernel
theorem dX8_fillsFrom_17 : decode cX8_fillsFrom 17 = .ok (.iadd, 1) := by decide +kernel
theorem dX8_fillsFrom_18 : decode cX8_fillsFrom 18 = .ok (.aload_n 0, 1) := by decide +kernel
theorem dX8_fillsFrom_19 : decode cX8_fillsFrom 19 = .ok (.getfield 45, 3) := by decide +kernel
theorem dX8_fillsFrom_22 : decode cX8_fillsFrom 22 = .ok (.bipush 64, 2) := by decide +kernel
theorem dX8_fillsFrom_24 : decode cX8_fillsFrom 24 = .ok (.iload_n 2, 1) := by decide +kernel
theorem dX8_fillsFrom_25 : decode cX8_fillsFrom 25 = .ok (.imul, 1) := by decide +kernel
theorem dX8_fillsFrom_26 : decode cX8_fillsFrom 26 = .ok (.iload_n 3, 1) := by decide +kernel
theorem dX8_fillsFrom_27 : decode cX8_fillsFrom 27 = .ok (.iadd, 1) := by decide +kernel
theorem dX8_fillsFrom_28 : decode cX8_fillsFrom 28 = .ok (.iaload, 1) := by decide +kernel
theorem dX8_fillsFrom_29 : decode cX8_fillsFrom 29 = .ok (.iastore, 1) := by decide +kernel
theorem dX8_fillsFrom_30 : decode cX8_fillsFrom 30 = .ok (.iinc 3 1, 3) := by decide +kernel
theorem dX8_fillsFrom_33 : decode cX8_fillsFrom 33 = .ok (.goto (-31), 3) := by decide +kernel
theorem dX8_fillsFrom_36 : decode cX8_fillsFrom 36 = .ok (.return_, 1) := by decide +kernel
set_option maxRecDepth 20000 in
theorem ggX8_copy_X8_isFile : GoodIn wsX8_copy wsX8_isFile := goodIn_r _ [10, 11, 12, 13, 14, 15, 16, 9, 17, 50, 51, 52, 53, 54, 55, 56, 57, 58, 59, 60, 61, 62, 63, 64, 65, 66, 67, 68, 69, 70, 71, 72, 73, 74, 75, 76, 77, 78, 79, 80, 81, 82, 83] (by decide +kernel) (by decide +kernel)
set_option maxRecDepth 20000 in
theorem gX8_copy_X8_isFile : GoodIn wsX8_copy (wsV RX8 128 RX8 yX8_isFile wsX8_isFile) := goodIn_app (goodIn_of _ (by decide +kernel)) ggX8_copy_X8_isFile
set_option maxRecDepth 20000 in
theorem ggX8_copy_X8_isFolder : GoodIn wsX8_copy wsX8_isFolder := goodIn_r _ [21, 22, 14, 15, 16, 9, 17, 11, 50, 51, 52, 53, 54, 55, 56, 57, 58, 59, 60, 61, 62, 63, 64, 65, 66, 67, 68, 69, 70, 71, 72, 73, 74, 75, 76, 77, 78, 79, 80, 81, 82, 83] (by decide +kernel) (by decide +kernel)
