theorem dX7_differ_91 : decode cX7_differ 91 = .ok (.istore 6, 2) := by decide +kernel
theorem dX7_differ_93 : decode cX7_differ 93 = .ok (.aload_n 0, 1) := by decide +kernel
theorem dX7_differ_94 : decode cX7_differ 94 = .ok (.getfield 65, 3) := by decide +kernel
theorem dX7_differ_97 : decode cX7_differ 97 = .ok (.iload 4, 2) := by decide +kernel
theorem dX7_differ_99 : decode cX7_differ 99 = .ok (.iload 6, 2) := by decide +kernel
theorem dX7_differ_101 : decode cX7_differ 101 = .ok (.iastore, 1) := by decide +kernel
theorem dX7_differ_102 : decode cX7_differ 102 = .ok (.iload_n 3, 1) := by decide +kernel
theorem dX7_differ_103 : decode cX7_differ 103 = .ok (.iload 6, 2) := by decide +kernel
theorem dX7_differ_105 : decode cX7_differ 105 = .ok (.iconst (-1), 1) := by decide +kernel
theorem dX7_differ_106 : decode cX7_differ 106 = .ok (.if_icmp .ne 7, 3) := by decide +kernel
theorem dX7_differ_109 : decode cX7_differ 109 = .ok (.iconst 1, 1) := by decide +kernel
theorem dX7_differ_110 : decode cX7_differ 110 = .ok (.goto 11, 3) := by decide +kernel
theorem dX7_differ_113 : decode cX7_differ 113 = .ok (.aload_n 0, 1) := by decide +kernel
theorem dX7_differ_114 : decode cX7_differ 114 = .ok (.iload 4, 2) := by decide +kernel
theorem dX7_differ_116 : decode cX7_differ 116 = .ok (.iload 6, 2) := by decide +kernel
theorem dX7_differ_118 : decode cX7_differ 118 = .ok (.invokevirtual 217, 3) := by decide +kernel
theorem dX7_differ_121 : decode cX7_differ 121 = .ok (.iadd, 1) := by decide +kernel
theorem dX7_differ_122 : decode cX7_differ 122 = .ok (.istore_n 3, 1) := by decide +kernel
theorem dX7_differ_123 : decode cX7_differ 123 = .ok (.iinc 4 1, 3) := by decide +kernel
theorem dX7_differ_126 : decode cX7_differ 126 = .ok (.goto (-89), 3) := by decide +kernel
theorem dX7_differ_129 : decode cX7_differ 129 = .ok (.iload_n 3, 1) := by decide +kernel
theorem dX7_differ_130 : decode cX7_differ 130 = .ok (.ireturn, 1) := by decide +kernel
set_option maxRecDepth 20000 in
theorem ggX7_wish_X7_needFolder : GoodIn wsX7_wish wsX7_needFolder := goodIn_ca (goodIn_r _ [8, 9, 10, 11, 12, 13, 14, 15, 16, 30, 31, 32, 33, 34, 35, 36, 37, 38, 39, 40, 41, 45, 46, 47, 48] (by decide +kernel) (by decide +kernel)) (goodIn_sub (fun _ h => List.mem_cons_of_mem _ (List.mem_append_right _ h)) (by decide +kernel))
set_option maxRecDepth 20000 in
theorem gX7_wish_X7_needFolder : GoodIn wsX7_wish (wsV RX7 76 RX7 yX7_needFolder wsX7_needFolder) := goodIn_app (goodIn_of _ (by decide +kernel)) ggX7_wish_X7_needFolder
set_option maxRecDepth 20000 in
theorem ggX7_wish_X6_hasRoom : GoodIn wsX7_wish wsX6_hasRoom := goodIn_r _ [20, 21, 42, 43, 44] (by decide +kernel) (by decide +kernel)
set_option maxRecDepth 20000 in
theorem gX7_wish_X6_hasRoom_n227 : GoodIn wsX7_wish (wsX6_hasRoom) := ggX7_wish_X6_hasRoom
set_option maxRecDepth 20000 in
theorem ggX7_wish_X6_has : GoodIn wsX7_wish wsX6_has := goodIn_r _ [24, 21, 25, 26, 42, 43, 44] (by decide +kernel) (by decide +kernel)
set_option maxRecDepth 20000 in
theorem gX7_wish_X6_has_n228 : GoodIn wsX7_wish (wsX6_has) := ggX7_wish_X6_has
set_option maxRecDepth 20000 in
theorem ggX7_wish_X6_add : GoodIn wsX7_wish wsX6_add := goodIn_r _ [29, 25, 21, 26, 42, 43, 44] (by decide +kernel) (by decide +kernel)
set_option maxRecDepth 20000 in
theorem gX7_wish_X6_add_n230 : GoodIn wsX7_wish (wsX6_add) := ggX7_wish_X6_add
theorem dX7_wish_0 : decode cX7_wish 0 = .ok (.iload_n 1, 1) := by decide +kernel
theorem dX7_wish_1 : decode cX7_wish 1 = .ok (.ifCond .lt 8, 3) := by decide +kernel
theorem dX7_wish_4 : decode cX7_wish 4 = .ok (.iload_n 1, 1) := by decide +kernel
theorem dX7_wish_5 : decode cX7_wish 5 = .ok (.iconst 5, 1) := by decide +kernel
theorem dX7_wish_6 : decode cX7_wish 6 = .ok (.if_icmp .le 13, 3) := by decide +kernel
theorem dX7_wish_9 : decode cX7_wish 9 = .ok (.new 143, 3) := by decide +kernel
theorem dX7_wish_12 : decode cX7_wish 12 = .ok (.dup, 1) := by decide +kernel
theorem dX7_wish_13 : decode cX7_wish 13 = .ok (.ldc 225, 2) := by decide +kernel
theorem dX7_wish_15 : decode cX7_wish 15 = .ok (.invokespecial 147, 3) := by decide +kernel
theorem dX7_wish_18 : decode cX7_wish 18 = .ok (.athrow, 1) := by decide +kernel
theorem dX7_wish_19 : decode cX7_wish 19 = .ok (.iload_n 1, 1) := by decide +kernel
theorem dX7_wish_20 : decode cX7_wish 20 = .ok (.ifCond .ne 8, 3) := by decide +kernel
theorem dX7_wish_23 : decode cX7_wish 23 = .ok (.aload_n 0, 1) := by decide +kernel
theorem dX7_wish_24 : decode cX7_wish 24 = .ok (.iload_n 2, 1) := by decide +kernel
theorem dX7_wish_25 : decode cX7_wish 25 = .ok (.invokevirtual 76, 3) := by decide +kernel
theorem dX7_wish_28 : decode cX7_wish 28 = .ok (.iload_n 1, 1) := by decide +kernel
theorem dX7_wish_29 : decode cX7_wish 29 = .ok (.ifCond .ne 7, 3) := by decide +kernel
theorem dX7_wish_32 : decode cX7_wish 32 = .ok (.iload_n 2, 1) := by decide +kernel
theorem dX7_wish_33 : decode cX7_wish 33 = .ok (.goto 4, 3) := by decide +kernel
theorem dX7_wish_36 : decode cX7_wish 36 = .ok (.iconst (-1), 1) := by decide +kernel
theorem dX7_wish_37 : decode cX7_wish 37 = .ok (.istore_n 3, 1) := by decide +kernel
theorem dX7_wish_38 : decode cX7_wish 38 = .ok (.aload_n 0, 1) := by decide +kernel
theorem dX7_wish_39 : decode cX7_wish 39 = .ok (.getfield 50, 3) := by decide +kernel
theorem dX7_wish_42 : decode cX7_wish 42 = .ok (.invokevirtual 227, 3) := by decide +kernel
theorem dX7_wish_45 : decode cX7_wish 45 = .ok (.ifCond .eq 15, 3) := by decide +kernel
theorem dX7_wish_48 : decode cX7_wish 48 = .ok (.aload_n 0, 1) := by decide +kernel
theorem dX7_wish_49 : decode cX7_wish 49 = .ok (.getfield 50, 3) := by decide +kernel
theorem dX7_wish_52 : decode cX7_wish 52 = .ok (.iload_n 1, 1) := by decide +kernel
theorem dX7_wish_53 : decode cX7_wish 53 = .ok (.iload_n 3, 1) := by decide +kernel
theorem dX7_wish_54 : decode cX7_wish 54 = .ok (.invokevirtual 228, 3) := by decide +kernel
theorem dX7_wish_57 : decode cX7_wish 57 = .ok (.ifCond .eq 5, 3) := by decide +kernel
theorem dX7_wish_60 : decode cX7_wish 60 = .ok (.iconst (-1), 1) := by decide +kernel
theorem dX7_wish_61 : decode cX7_wish 61 = .ok (.ireturn, 1) := by decide +kernel
theorem dX7_wish_62 : decode cX7_wish 62 = .ok (.aload_n 0, 1) := by decide +kernel
theorem dX7_wish_63 : decode cX7_wish 63 = .ok (.getfield 50, 3) := by decide +kernel
theorem dX7_wish_66 : decode cX7_wish 66 = .ok (.iload_n 1, 1) := by decide +kernel
theorem dX7_wish_67 : decode cX7_wish 67 = .ok (.iload_n 3, 1) := by decide +kernel
theorem dX7_wish_68 : decode cX7_wish 68 = .ok (.invokevirtual 230, 3) := by decide +kernel
theorem dX7_wish_71 : decode cX7_wish 71 = .ok (.aload_n 0, 1) := by decide +kernel
theorem dX7_wish_72 : decode cX7_wish 72 = .ok (.getfield 50, 3) := by decide +kernel
theorem dX7_wish_75 : decode cX7_wish 75 = .ok (.getfield 234, 3) := by decide +kernel
theorem dX7_wish_78 : decode cX7_wish 78 = .ok (.ireturn, 1) := by decide +kernel
theorem dX7_unwish_0 : decode cX7_unwish 0 = .ok (.aload_n 0, 1) := by decide +kernel
theorem dX7_unwish_1 : decode cX7_unwish 1 = .ok (.getfield 50, 3) := by decide +kernel
theorem dX7_unwish_4 : decode cX7_unwish 4 = .ok (.getfield 234, 3) := by decide +kernel
theorem dX7_unwish_7 : decode cX7_unwish 7 = .ok (.istore_n 1, 1) := by decide +kernel
theorem dX7_unwish_8 : decode cX7_unwish 8 = .ok (.aload_n 0, 1) := by decide +kernel
theorem dX7_unwish_9 : decode cX7_unwish 9 = .ok (.getfield 50, 3) := by decide +kernel
theorem dX7_unwish_12 : decode cX7_unwish 12 = .ok (.iconst 0, 1) := by decide +kernel
theorem dX7_unwish_13 : decode cX7_unwish 13 = .ok (.putfield 234, 3) := by decide +kernel
theorem dX7_unwish_16 : decode cX7_unwish 16 = .ok (.iload_n 1, 1) := by decide +kernel
theorem dX7_unwish_17 : decode cX7_unwish 17 = .ok (.ireturn, 1) := by decide +kernel
set_option maxRecDepth 20000 in
theorem ggX7_leave_X7_isOwner : GoodIn wsX7_leave wsX7_isOwner := goodIn_r _ [7] (by decide +kernel) (by decide +kernel)
set_option maxRecDepth 20000 in
theorem gX7_leave_X7_isOwner : GoodIn wsX7_leave (va_wsS RX7 95 yX7_isOwner wsX7_isOwner) := goodIn_app (goodIn_of _ (by decide +kernel)) ggX7_leave_X7_isOwner
theorem dX7_leave_0 : decode cX7_leave 0 = .ok (.iload_n 1, 1) := by decide +kernel
theorem dX7_leave_1 : decode cX7_leave 1 = .ok (.invokestatic 95, 3) := by decide +kernel
theorem dX7_leave_4 : decode cX7_leave 4 = .ok (.ifCond .eq 10, 3) := by decide +kernel
theorem dX7_leave_7 : decode cX7_leave 7 = .ok (.iload_n 2, 1) := by decide +kernel
theorem dX7_leave_8 : decode cX7_leave 8 = .ok (.invokestatic 95, 3) := by decide +kernel
theorem dX7_leave_11 : decode cX7_leave 11 = .ok (.ifCond .ne 13, 3) := by decide +kernel
theorem dX7_leave_14 : decode cX7_leave 14 = .ok (.new 143, 3) := by decide +kernel
theorem dX7_leave_17 : decode cX7_leave 17 = .ok (.dup, 1) := by decide +kernel
theorem dX7_leave_18 : decode cX7_leave 18 = .ok (.ldc 237, 2) := by decide +kernel
theorem dX7_leave_20 : decode cX7_leave 20 = .ok (.invokespecial 147, 3) := by decide +kernel
theorem dX7_leave_23 : decode cX7_leave 23 = .ok (.athrow, 1) := by decide +kernel
theorem dX7_leave_24 : decode cX7_leave 24 = .ok (.aload_n 0, 1) := by decide +kernel
theorem dX7_leave_25 : decode cX7_leave 25 = .ok (.getfield 61, 3) := by decide +kernel
theorem dX7_leave_28 : decode cX7_leave 28 = .ok (.iload_n 1, 1) := by decide +kernel
theorem dX7_leave_29 : decode cX7_leave 29 = .ok (.bipush 8, 2) := by decide +kernel
theorem dX7_leave_31 : decode cX7_leave 31 = .ok (.imul, 1) := by decide +kernel
theorem dX7_leave_32 : decode cX7_leave 32 = .ok (.iload_n 2, 1) := by decide +kernel
theorem dX7_leave_33 : decode cX7_leave 33 = .ok (.iadd, 1) := by decide +kernel
theorem dX7_leave_34 : decode cX7_leave 34 = .ok (.baload, 1) := by decide +kernel
theorem dX7_leave_35 : decode cX7_leave 35 = .ok (.istore_n 3, 1) := by decide +kernel
theorem dX7_leave_36 : decode cX7_leave 36 = .ok (.aload_n 0, 1) := by decide +kernel
theorem dX7_leave_37 : decode cX7_leave 37 = .ok (.getfield 61, 3) := by decide +kernel
theorem dX7_leave_40 : decode cX7_leave 40 = .ok (.iload_n 1, 1) := by decide +kernel
theorem dX7_leave_41 : decode cX7_leave 41 = .ok (.bipush 8, 2) := by decide +kernel
theorem dX7_leave_43 : decode cX7_leave 43 = .ok (.imul, 1) := by decide +kernel
theorem dX7_leave_44 : decode cX7_leave 44 = .ok (.iload_n 2, 1) := by decide +kernel
theorem dX7_leave_45 : decode cX7_leave 45 = .ok (.iadd, 1) := by decide +kernel
theorem dX7_leave_46 : decode cX7_leave 46 = .ok (.iconst 1, 1) := by decide +kernel
theorem dX7_leave_47 : decode cX7_leave 47 = .ok (.bastore, 1) := by decide +kernel
theorem dX7_leave_48 : decode cX7_leave 48 = .ok (.iload_n 3, 1) := by decide +kernel
theorem dX7_leave_49 : decode cX7_leave 49 = .ok (.ifCond .ne 7, 3) := by decide +kernel
theorem dX7_leave_52 : decode cX7_leave 52 = .ok (.iconst 1, 1) := by decide +kernel
theorem dX7_leave_53 : decode cX7_leave 53 = .ok (.goto 4, 3) := by decide +kernel
theorem dX7_leave_56 : decode cX7_leave 56 = .ok (.iconst 0, 1) := by decide +kernel
theorem dX7_leave_57 : decode cX7_leave 57 = .ok (.ireturn, 1) := by decide +kernel
set_option maxRecDepth 20000 in
theorem ggX7_keep_X7_needGroup : GoodIn wsX7_keep wsX7_needGroup := goodIn_ca (goodIn_r _ [5, 6, 7, 8, 40, 41, 42, 43, 44, 45, 46, 47, 48, 49, 50, 51, 52, 53, 54, 55, 56] (by decide +kernel) (by decide +kernel)) (goodIn_sub (fun _ h => List.mem_cons_of_mem _ (List.mem_append_right _ h)) (by decide +kernel))
set_option maxRecDepth 20000 in
theorem gX7_keep_X7_needGroup : GoodIn wsX7_keep (wsV RX7 187 RX7 yX7_needGroup wsX7_needGroup) := goodIn_app (goodIn_of _ (by decide +kernel)) ggX7_keep_X7_needGroup
set_option maxRecDepth 20000 in
theorem ggX7_keep_X7_keptOf : GoodIn wsX7_keep wsX7_keptOf := goodIn_r _ [12, 13, 14, 15, 16, 4, 17, 8, 18, 19, 20, 21, 22, 23, 24, 25, 26, 27, 28, 29, 30, 31, 32, 33, 34, 35, 36, 37, 38, 39, 40, 41, 42, 43, 44, 45, 46, 47, 48, 49, 50, 51, 57, 58, 59, 60, 61, 52, 53, 54, 55, 56, 62, 63, 64, 65, 66, 67, 68, 69, 70, 71, 72, 73] (by decide +kernel) (by decide +kernel)
set_option maxRecDepth 20000 in
theorem gX7_keep_X7_keptOf : GoodIn wsX7_keep (wsV RX7 239 RX7 yX7_keptOf wsX7_keptOf) := goodIn_app (goodIn_of _ (by decide +kernel)) ggX7_keep_X7_keptOf
theorem dX7_keep_0 : decode cX7_keep 0 = .ok (.aload_n 0, 1) := by decide +kernel
theorem dX7_keep_1 : decode cX7_keep 1 = .ok (.iload_n 1, 1) := by decide +kernel
theorem dX7_keep_2 : decode cX7_keep 2 = .ok (.invokevirtual 187, 3) := by decide +kernel
theorem dX7_keep_5 : decode cX7_keep 5 = .ok (.aload_n 0, 1) := by decide +kernel
theorem dX7_keep_6 : decode cX7_keep 6 = .ok (.iload_n 1, 1) := by decide +kernel
theorem dX7_keep_7 : decode cX7_keep 7 = .ok (.invokevirtual 239, 3) := by decide +kernel
theorem dX7_keep_10 : decode cX7_keep 10 = .ok (.ireturn, 1) := by decide +kernel
set_option maxRecDepth 20000 in
theorem ggX7_merge_X7_needGroup : GoodIn wsX7_merge wsX7_needGroup := goodIn_ca (goodIn_r _ [8, 9, 10, 11, 73, 74, 75, 76, 77, 78, 79, 80, 81, 82, 83, 84, 95, 96, 97, 98, 99] (by decide +kernel) (by decide +kernel)) (goodIn_sub (fun _ h => List.mem_cons_of_mem _ (List.mem_append_right _ h)) (by decide +kernel))
set_option maxRecDepth 20000 in
theorem gX7_merge_X7_needGroup : GoodIn wsX7_merge (wsV RX7 187 RX7 yX7_needGroup wsX7_needGroup) := goodIn_app (goodIn_of _ (by decide +kernel)) ggX7_merge_X7_needGroup
set_option maxRecDepth 20000 in
theorem ggX7_merge_X7_keptOf : GoodIn wsX7_merge wsX7_keptOf := goodIn_r _ [15, 1, 16, 17, 18, 7, 19, 11, 20, 21, 22, 23, 24, 25, 26, 27, 28, 29, 30, 31, 32, 33, 34, 35, 3, 36, 37, 38, 39, 40, 73, 74, 75, 76, 77, 78, 79, 80, 81, 82, 83, 84, 85, 86, 87, 88, 89, 95, 96, 97, 98, 99, 100, 101, 102, 90, 91, 92, 93, 94, 103, 104, 105, 106] (by decide +kernel) (by decide +kernel)
set_option maxRecDepth 20000 in
theorem gX7_merge_X7_keptOf : GoodIn wsX7_merge (wsV RX7 239 RX7 yX7_keptOf wsX7_keptOf) := goodIn_app (goodIn_of _ (by decide +kernel)) ggX7_merge_X7_keptOf
set_option maxRecDepth 20000 in
theorem ggX7_merge_X7_isMember : GoodIn wsX7_merge wsX7_isMember := goodIn_r _ [19, 1, 11, 20, 21, 22, 23, 24, 25, 73, 74, 75, 76, 77, 78, 79, 80, 81, 82, 83, 84, 95, 96, 97, 98, 99, 85, 86, 87, 88, 89] (by decide +kernel) (by decide +kernel)
set_option maxRecDepth 20000 in
theorem gX7_merge_X7_isMember : GoodIn wsX7_merge (wsV RX7 193 RX7 yX7_isMember wsX7_isMember) := goodIn_app (goodIn_of _ (by decide +kernel)) ggX7_merge_X7_isMember
set_option maxRecDepth 20000 in
theorem ggX7_merge_X7_mayGet : GoodIn wsX7_merge wsX7_mayGet := goodIn_r _ [44, 1, 3, 45, 73, 74, 75, 76, 77, 78, 79, 80, 81, 82, 83, 84, 85, 86, 87, 88, 89, 90, 91, 92, 93, 94] (by decide +kernel) (by decide +kernel)
set_option maxRecDepth 20000 in
theorem gX7_merge_X7_mayGet : GoodIn wsX7_merge (wsV RX7 242 RX7 yX7_mayGet wsX7_mayGet) := goodIn_app (goodIn_of _ (by decide +kernel)) ggX7_merge_X7_mayGet
set_option maxRecDepth 20000 in
theorem ggX7_merge_X4_begin : GoodIn wsX7_merge wsX4_begin := goodIn_r _ [49, 50, 51, 52, 53, 54, 55, 56, 57, 58, 59, 60, 61, 107, 108, 109, 110] (by decide +kernel) (by decide +kernel)
set_option maxRecDepth 20000 in
theorem gX7_merge_X4_begin_n245 : GoodIn wsX7_merge (wsX4_begin) := ggX7_merge_X4_begin
set_option maxRecDepth 20000 in
theorem ggX7_merge_X4_note : GoodIn wsX7_merge wsX4_note := goodIn_r _ [64, 57, 50, 107, 108, 109, 110] (by decide +kernel) (by decide +kernel)
set_option maxRecDepth 20000 in
theorem gX7_merge_X4_note_n248 : GoodIn wsX7_merge (wsX4_note) := ggX7_merge_X4_note
set_option maxRecDepth 20000 in
theorem ggX7_merge_X7_giveBody : GoodIn wsX7_merge wsX7_giveBody := goodIn_r _ [68, 1, 69, 3, 70, 21, 71, 72, 24, 25, 73, 74, 75, 76, 77, 78, 79, 80, 81, 82, 83, 84, 85, 86, 87, 88, 89, 90, 91, 92, 93, 94] (by decide +kernel) (by decide +kernel)
set_option maxRecDepth 20000 in
theorem gX7_merge_X7_giveBody : GoodIn wsX7_merge (wsV RX7 251 RX7 yX7_giveBody wsX7_giveBody) := goodIn_app (goodIn_of _ (by decide +kernel)) ggX7_merge_X7_giveBody
theorem dX7_merge_0 : decode cX7_merge 0 = .ok (.aload_n 0, 1) := by decide +kernel
theorem dX7_merge_1 : decode cX7_merge 1 = .ok (.iload_n 1, 1) := by decide +kernel
theorem dX7_merge_2 : decode cX7_merge 2 = .ok (.invokevirtual 187, 3) := by decide +kernel
theorem dX7_merge_5 : decode cX7_merge 5 = .ok (.aload_n 0, 1) := by decide +kernel
theorem dX7_merge_6 : decode cX7_merge 6 = .ok (.iload_n 1, 1) := by decide +kernel
theorem dX7_merge_7 : decode cX7_merge 7 = .ok (.invokevirtual 239, 3) := by decide +kernel
theorem dX7_merge_10 : decode cX7_merge 10 = .ok (.istore_n 2, 1) := by decide +kernel
theorem dX7_merge_11 : decode cX7_merge 11 = .ok (.iload_n 2, 1) := by decide +kernel
theorem dX7_merge_12 : decode cX7_merge 12 = .ok (.iconst (-1), 1) := by decide +kernel
theorem dX7_merge_13 : decode cX7_merge 13 = .ok (.if_icmp .ne 5, 3) := by decide +kernel
theorem dX7_merge_16 : decode cX7_merge 16 = .ok (.iconst 0, 1) := by decide +kernel
theorem dX7_merge_17 : decode cX7_merge 17 = .ok (.ireturn, 1) := by decide +kernel
theorem dX7_merge_18 : decode cX7_merge 18 = .ok (.aload_n 0, 1) := by decide +kernel
theorem dX7_merge_19 : decode cX7_merge 19 = .ok (.getfield 19, 3) := by decide +kernel
theorem dX7_merge_22 : decode cX7_merge 22 = .ok (.getfield 112, 3) := by decide +kernel
theorem dX7_merge_25 : decode cX7_merge 25 = .ok (.iload_n 2, 1) := by decide +kernel
theorem dX7_merge_26 : decode cX7_merge 26 = .ok (.iaload, 1) := by decide +kernel
theorem dX7_merge_27 : decode cX7_merge 27 = .ok (.istore_n 3, 1) := by decide +kernel
theorem dX7_merge_28 : decode cX7_merge 28 = .ok (.iconst 0, 1) := by decide +kernel
theorem dX7_merge_29 : decode cX7_merge 29 = .ok (.istore 4, 2) := by decide +kernel
theorem dX7_merge_31 : decode cX7_merge 31 = .ok (.iconst 0, 1) := by decide +kernel
theorem dX7_merge_32 : decode cX7_merge 32 = .ok (.istore 5, 2) := by decide +kernel
theorem dX7_merge_34 : decode cX7_merge 34 = .ok (.iload 5, 2) := by decide +kernel
theorem dX7_merge_36 : decode cX7_merge 36 = .ok (.aload_n 0, 1) := by decide +kernel
theorem dX7_merge_37 : decode cX7_merge 37 = .ok (.getfield 19, 3) := by decide +kernel
theorem dX7_merge_40 : decode cX7_merge 40 = .ok (.getfield 190, 3) := by decide +kernel
theorem dX7_merge_43 : decode cX7_merge 43 = .ok (.if_icmp .ge 79, 3) := by decide +kernel
theorem dX7_merge_46 : decode cX7_merge 46 = .ok (.aload_n 0, 1) := by decide +kernel
theorem dX7_merge_47 : decode cX7_merge 47 = .ok (.iload 5, 2) := by decide +kernel
theorem dX7_merge_49 : decode cX7_merge 49 = .ok (.iload_n 1, 1) := by decide +kernel
theorem dX7_merge_50 : decode cX7_merge 50 = .ok (.invokevirtual 193, 3) := by decide +kernel
theorem dX7_merge_53 : decode cX7_merge 53 = .ok (.ifCond .eq 63, 3) := by decide +kernel
theorem dX7_merge_56 : decode cX7_merge 56 = .ok (.aload_n 0, 1) := by decide +kernel
theorem dX7_merge_57 : decode cX7_merge 57 = .ok (.iload 5, 2) := by decide +kernel
theorem dX7_merge_59 : decode cX7_merge 59 = .ok (.iload_n 3, 1) := by decide +kernel
theorem dX7_merge_60 : decode cX7_merge 60 = .ok (.invokevirtual 242, 3) := by decide +kernel
theorem dX7_merge_63 : decode cX7_merge 63 = .ok (.ifCond .eq 53, 3) := by decide +kernel
theorem dX7_merge_66 : decode cX7_merge 66 = .ok (.iload 4, 2) := by decide +kernel
theorem dX7_merge_68 : decode cX7_merge 68 = .ok (.ifCond .ne 11, 3) := by decide +kernel
theorem dX7_merge_71 : decode cX7_merge 71 = .ok (.aload_n 0, 1) := by decide +kernel
theorem dX7_merge_72 : decode cX7_merge 72 = .ok (.getfield 57, 3) := by decide +kernel
theorem dX7_merge_75 : decode cX7_merge 75 = .ok (.iload_n 3, 1) := by decide +kernel
theorem dX7_merge_76 : decode cX7_merge 76 = .ok (.invokevirtual 245, 3) := by decide +kernel
theorem dX7_merge_79 : decode cX7_merge 79 = .ok (.aload_n 0, 1) := by decide +kernel
theorem dX7_merge_80 : decode cX7_merge 80 = .ok (.getfield 57, 3) := by decide +kernel
theorem dX7_merge_83 : decode cX7_merge 83 = .ok (.iload 5, 2) := by decide +kernel
theorem dX7_merge_85 : decode cX7_merge 85 = .ok (.aload_n 0, 1) := by decide +kernel
theorem dX7_merge_86 : decode cX7_merge 86 = .ok (.getfield 26, 3) := by decide +kernel
theorem dX7_merge_89 : decode cX7_merge 89 = .ok (.getfield 115, 3) := by decide +kernel
theorem dX7_merge_92 : decode cX7_merge 92 = .ok (.aload_n 0, 1) := by decide +kernel
theorem dX7_merge_93 : decode cX7_merge 93 = .ok (.getfield 19, 3) := by decide +kernel
theorem dX7_merge_96 : decode cX7_merge 96 = .ok (.getfield 112, 3) := by decide +kernel
theorem dX7_merge_99 : decode cX7_merge 99 = .ok (.iload 5, 2) := by decide +kernel
theorem dX7_merge_101 : decode cX7_merge 101 = .ok (.iaload, 1) := by decide +kernel
theorem dX7_merge_102 : decode cX7_merge 102 = .ok (.iaload, 1) := by decide +kernel
theorem dX7_merge_103 : decode cX7_merge 103 = .ok (.invokevirtual 248, 3) := by decide +kernel
theorem dX7_merge_106 : decode cX7_merge 106 = .ok (.aload_n 0, 1) := by decide +kernel
theorem dX7_merge_107 : decode cX7_merge 107 = .ok (.iload 5, 2) := by decide +kernel
theorem dX7_merge_109 : decode cX7_merge 109 = .ok (.iload_n 3, 1) := by decide +kernel
theorem dX7_merge_110 : decode cX7_merge 110 = .ok (.invokevirtual 251, 3) := by decide +kernel
theorem dX7_merge_113 : decode cX7_merge 113 = .ok (.iinc 4 1, 3) := by decide +kernel
theorem dX7_merge_116 : decode cX7_merge 116 = .ok (.iinc 5 1, 3) := by decide +kernel
theorem dX7_merge_119 : decode cX7_merge 119 = .ok (.goto (-85), 3) := by decide +kernel
theorem dX7_merge_122 : decode cX7_merge 122 = .ok (.iload 4, 2) := by decide +kernel
theorem dX7_merge_124 : decode cX7_merge 124 = .ok (.ireturn, 1) := by decide +kernel
set_option maxRecDepth 20000 in
theorem ggX7_unmerge_X4_stillMerged : GoodIn wsX7_unmerge wsX4_stillMerged := goodIn_r _ [7, 8, 9, 10, 5, 11, 12, 13, 14, 58, 59, 60, 61, 62, 54, 55, 56, 57] (by decide +kernel) (by decide +kernel)
set_option maxRecDepth 20000 in
theorem gX7_unmerge_X4_stillMerged_n255 : GoodIn wsX7_unmerge (wsX4_stillMerged) := ggX7_unmerge_X4_stillMerged
set_option maxRecDepth 20000 in
theorem ggX7_unmerge_X0_hasRoomFor : GoodIn wsX7_unmerge wsX0_hasRoomFor := goodIn_r _ [18, 19, 63, 64, 65, 66, 67] (by decide +kernel) (by decide +kernel)
set_option maxRecDepth 20000 in
theorem gX7_unmerge_X0_hasRoomFor_n102 : GoodIn wsX7_unmerge (wsX0_hasRoomFor) := ggX7_unmerge_X0_hasRoomFor
set_option maxRecDepth 20000 in
theorem ggX7_unmerge_X4_isStillMerged : GoodIn wsX7_unmerge wsX4_isStillMerged := goodIn_r _ [11, 12, 13, 14, 54, 55, 56, 57, 58, 59, 60, 61, 62] (by decide +kernel) (by decide +kernel)
set_option maxRecDepth 20000 in
theorem gX7_unmerge_X4_isStillMerged_n259 : GoodIn wsX7_unmerge (wsX4_isStillMerged) := ggX7_unmerge_X4_isStillMerged
set_option maxRecDepth 20000 in
theorem ggX7_unmerge_X4_formerOwner : GoodIn wsX7_unmerge wsX4_formerOwner := goodIn_r _ [22, 12, 13, 54, 55, 56, 57] (by decide +kernel) (by decide +kernel)
set_option maxRecDepth 20000 in
theorem gX7_unmerge_X4_formerOwner_n263 : GoodIn wsX7_unmerge (wsX4_formerOwner) := ggX7_unmerge_X4_formerOwner
set_option maxRecDepth 20000 in
theorem ggX7_unmerge_X0_makeLike : GoodIn wsX7_unmerge wsX0_makeLike := goodIn_r _ [25, 26, 27, 28, 29, 30, 31, 32, 33, 34, 16, 35, 19, 36, 37, 63, 64, 65, 66, 67] (by decide +kernel) (by decide +kernel)
set_option maxRecDepth 20000 in
theorem gX7_unmerge_X0_makeLike_n118 : GoodIn wsX7_unmerge (wsX0_makeLike) := ggX7_unmerge_X0_makeLike
set_option maxRecDepth 20000 in
theorem ggX7_unmerge_X4_dropLatest : GoodIn wsX7_unmerge wsX4_dropLatest := goodIn_r _ [40, 13, 41, 54, 55, 56, 57] (by decide +kernel) (by decide +kernel)
set_option maxRecDepth 20000 in
theorem gX7_unmerge_X4_dropLatest_n266 : GoodIn wsX7_unmerge (wsX4_dropLatest) := ggX7_unmerge_X4_dropLatest
theorem dX7_unmerge_0 : decode cX7_unmerge 0 = .ok (.aload_n 0, 1) := by decide +kernel
theorem dX7_unmerge_1 : decode cX7_unmerge 1 = .ok (.getfield 57, 3) := by decide +kernel
theorem dX7_unmerge_4 : decode cX7_unmerge 4 = .ok (.getfield 254, 3) := by decide +kernel
theorem dX7_unmerge_7 : decode cX7_unmerge 7 = .ok (.ifCond .ne 5, 3) := by decide +kernel
theorem dX7_unmerge_10 : decode cX7_unmerge 10 = .ok (.iconst (-1), 1) := by decide +kernel
theorem dX7_unmerge_11 : decode cX7_unmerge 11 = .ok (.ireturn, 1) := by decide +kernel
theorem dX7_unmerge_12 : decode cX7_unmerge 12 = .ok (.aload_n 0, 1) := by decide +kernel
theorem dX7_unmerge_13 : decode cX7_unmerge 13 = .ok (.getfield 57, 3) := by decide +kernel
theorem dX7_unmerge_16 : decode cX7_unmerge 16 = .ok (.aload_n 0, 1) := by decide +kernel
theorem dX7_unmerge_17 : decode cX7_unmerge 17 = .ok (.getfield 19, 3) := by decide +kernel
theorem dX7_unmerge_20 : decode cX7_unmerge 20 = .ok (.invokevirtual 255, 3) := by decide +kernel
theorem dX7_unmerge_23 : decode cX7_unmerge 23 = .ok (.istore_n 1, 1) := by decide +kernel
theorem dX7_unmerge_24 : decode cX7_unmerge 24 = .ok (.aload_n 0, 1) := by decide +kernel
theorem dX7_unmerge_25 : decode cX7_unmerge 25 = .ok (.getfield 26, 3) := by decide +kernel
theorem dX7_unmerge_28 : decode cX7_unmerge 28 = .ok (.iload_n 1, 1) := by decide +kernel
theorem dX7_unmerge_29 : decode cX7_unmerge 29 = .ok (.invokevirtual 102, 3) := by decide +kernel
theorem dX7_unmerge_32 : decode cX7_unmerge 32 = .ok (.ifCond .ne 5, 3) := by decide +kernel
theorem dX7_unmerge_35 : decode cX7_unmerge 35 = .ok (.iconst (-1), 1) := by decide +kernel
theorem dX7_unmerge_36 : decode cX7_unmerge 36 = .ok (.ireturn, 1) := by decide +kernel
theorem dX7_unmerge_37 : decode cX7_unmerge 37 = .ok (.iconst 0, 1) := by decide +kernel
theorem dX7_unmerge_38 : decode cX7_unmerge 38 = .ok (.istore_n 2, 1) := by decide +kernel
theorem dX7_unmerge_39 : decode cX7_unmerge 39 = .ok (.iload_n 2, 1) := by decide +kernel
theorem dX7_unmerge_40 : decode cX7_unmerge 40 = .ok (.aload_n 0, 1) := by decide +kernel
theorem dX7_unmerge_41 : decode cX7_unmerge 41 = .ok (.getfield 19, 3) := by decide +kernel
theorem dX7_unmerge_44 : decode cX7_unmerge 44 = .ok (.getfield 190, 3) := by decide +kernel
theorem dX7_unmerge_47 : decode cX7_unmerge 47 = .ok (.if_icmp .ge 68, 3) := by decide +kernel
theorem dX7_unmerge_50 : decode cX7_unmerge 50 = .ok (.aload_n 0, 1) := by decide +kernel
theorem dX7_unmerge_51 : decode cX7_unmerge 51 = .ok (.getfield 57, 3) := by decide +kernel
theorem dX7_unmerge_54 : decode cX7_unmerge 54 = .ok (.aload_n 0, 1) := by decide +kernel
theorem dX7_unmerge_55 : decode cX7_unmerge 55 = .ok (.getfield 19, 3) := by decide +kernel
theorem dX7_unmerge_58 : decode cX7_unmerge 58 = .ok (.iload_n 2, 1) := by decide +kernel
theorem dX7_unmerge_59 : decode cX7_unmerge 59 = .ok (.invokevirtual 259, 3) := by decide +kernel
theorem dX7_unmerge_62 : decode cX7_unmerge 62 = .ok (.ifCond .eq 47, 3) := by decide +kernel
theorem dX7_unmerge_65 : decode cX7_unmerge 65 = .ok (.aload_n 0, 1) := by decide +kernel
theorem dX7_unmerge_66 : decode cX7_unmerge 66 = .ok (.getfield 19, 3) := by decide +kernel
theorem dX7_unmerge_69 : decode cX7_unmerge 69 = .ok (.getfield 112, 3) := by decide +kernel
theorem dX7_unmerge_72 : decode cX7_unmerge 72 = .ok (.iload_n 2, 1) := by decide +kernel
theorem dX7_unmerge_73 : decode cX7_unmerge 73 = .ok (.iaload, 1) := by decide +kernel
theorem dX7_unmerge_74 : decode cX7_unmerge 74 = .ok (.istore_n 3, 1) := by decide +kernel
theorem dX7_unmerge_75 : decode cX7_unmerge 75 = .ok (.aload_n 0, 1) := by decide +kernel
theorem dX7_unmerge_76 : decode cX7_unmerge 76 = .ok (.getfield 19, 3) := by decide +kernel
theorem dX7_unmerge_79 : decode cX7_unmerge 79 = .ok (.getfield 112, 3) := by decide +kernel
theorem dX7_unmerge_82 : decode cX7_unmerge 82 = .ok (.iload_n 2, 1) := by decide +kernel
theorem dX7_unmerge_83 : decode cX7_unmerge 83 = .ok (.aload_n 0, 1) := by decide +kernel
theorem dX7_unmerge_84 : decode cX7_unmerge 84 = .ok (.getfield 26, 3) := by decide +kernel
theorem dX7_unmerge_87 : decode cX7_unmerge 87 = .ok (.iload_n 3, 1) := by decide +kernel
theorem dX7_unmerge_88 : decode cX7_unmerge 88 = .ok (.aload_n 0, 1) := by decide +kernel
theorem dX7_unmerge_89 : decode cX7_unmerge 89 = .ok (.getfield 57, 3) := by decide +kernel
theorem dX7_unmerge_92 : decode cX7_unmerge 92 = .ok (.iload_n 2, 1) := by decide +kernel
theorem dX7_unmerge_93 : decode cX7_unmerge 93 = .ok (.invokevirtual 263, 3) := by decide +kernel
theorem dX7_unmerge_96 : decode cX7_unmerge 96 = .ok (.aload_n 0, 1) := by decide +kernel
theorem dX7_unmerge_97 : decode cX7_unmerge 97 = .ok (.getfield 26, 3) := by decide +kernel
theorem dX7_unmerge_100 : decode cX7_unmerge 100 = .ok (.getfield 167, 3) := by decide +kernel
theorem dX7_unmerge_103 : decode cX7_unmerge 103 = .ok (.iload_n 3, 1) := by decide +kernel
theorem dX7_unmerge_104 : decode cX7_unmerge 104 = .ok (.iaload, 1) := by decide +kernel
theorem dX7_unmerge_105 : decode cX7_unmerge 105 = .ok (.invokevirtual 118, 3) := by decide +kernel
theorem dX7_unmerge_108 : decode cX7_unmerge 108 = .ok (.iastore, 1) := by decide +kernel
theorem dX7_unmerge_109 : decode cX7_unmerge 109 = .ok (.iinc 2 1, 3) := by decide +kernel
theorem dX7_unmerge_112 : decode cX7_unmerge 112 = .ok (.goto (-73), 3) := by decide +kernel
theorem dX7_unmerge_115 : decode cX7_unmerge 115 = .ok (.aload_n 0, 1) := by decide +kernel
theorem dX7_unmerge_116 : decode cX7_unmerge 116 = .ok (.getfield 57, 3) := by decide +kernel
theorem dX7_unmerge_119 : decode cX7_unmerge 119 = .ok (.invokevirtual 266, 3) := by decide +kernel
theorem dX7_unmerge_122 : decode cX7_unmerge 122 = .ok (.iload_n 1, 1) := by decide +kernel
theorem dX7_unmerge_123 : decode cX7_unmerge 123 = .ok (.ireturn, 1) := by decide +kernel
theorem dX7_days_0 : decode cX7_days 0 = .ok (.iload_n 1, 1) := by decide +kernel
theorem dX7_days_1 : decode cX7_days 1 = .ok (.ifCond .lt 10, 3) := by decide +kernel
theorem dX7_days_4 : decode cX7_days 4 = .ok (.iload_n 1, 1) := by decide +kernel
theorem dX7_days_5 : decode cX7_days 5 = .ok (.sipush 1000, 3) := by decide +kernel
theorem dX7_days_8 : decode cX7_days 8 = .ok (.if_icmp .le 14, 3) := by decide +kernel
theorem dX7_days_11 : decode cX7_days 11 = .ok (.new 143, 3) := by decide +kernel
theorem dX7_days_14 : decode cX7_days 14 = .ok (.dup, 1) := by decide +kernel
theorem dX7_days_15 : decode cX7_days 15 = .ok (.ldc_w 269, 3) := by decide +kernel
theorem dX7_days_18 : decode cX7_days 18 = .ok (.invokespecial 147, 3) := by decide +kernel
theorem dX7_days_21 : decode cX7_days 21 = .ok (.athrow, 1) := by decide +kernel
theorem dX7_days_22 : decode cX7_days 22 = .ok (.aload_n 0, 1) := by decide +kernel
theorem dX7_days_23 : decode cX7_days 23 = .ok (.dup, 1) := by decide +kernel
theorem dX7_days_24 : decode cX7_days 24 = .ok (.getfield 69, 3) := by decide +kernel
theorem dX7_days_27 : decode cX7_days 27 = .ok (.iload_n 1, 1) := by decide +kernel
theorem dX7_days_28 : decode cX7_days 28 = .ok (.iadd, 1) := by decide +kernel
theorem dX7_days_29 : decode cX7_days 29 = .ok (.putfield 69, 3) := by decide +kernel
theorem dX7_days_32 : decode cX7_days 32 = .ok (.aload_n 0, 1) := by decide +kernel
theorem dX7_days_33 : decode cX7_days 33 = .ok (.getfield 69, 3) := by decide +kernel
theorem dX7_days_36 : decode cX7_days 36 = .ok (.ireturn, 1) := by decide +kernel
set_option maxRecDepth 20000 in
theorem ggX7_count_X1_there : GoodIn wsX7_count wsX1_there := goodIn_r _ [12, 13, 14, 15, 16, 10, 17, 18, 53, 54, 55, 56, 57] (by decide +kernel) (by decide +kernel)
set_option maxRecDepth 20000 in
theorem gX7_count_X1_there_n271 : GoodIn wsX7_count (wsX1_there) := ggX7_count_X1_there
set_option maxRecDepth 20000 in
theorem ggX7_count_X7_bodiesThere : GoodIn wsX7_count wsX7_bodiesThere := goodIn_r _ [23, 8, 4, 15, 10, 16, 17, 13, 18, 28, 29, 30, 31, 32, 33, 34, 35, 36, 37, 38, 39, 48, 49, 50, 51, 52, 53, 54, 55, 56, 57] (by decide +kernel) (by decide +kernel)
set_option maxRecDepth 20000 in
theorem gX7_count_X7_bodiesThere : GoodIn wsX7_count (wsV RX7 275 RX7 yX7_bodiesThere wsX7_bodiesThere) := goodIn_app (goodIn_of _ (by decide +kernel)) ggX7_count_X7_bodiesThere
set_option maxRecDepth 20000 in
theorem ggX7_count_X7_bytesThere : GoodIn wsX7_count wsX7_bytesThere := goodIn_r _ [27, 8, 4, 15, 10, 16, 17, 13, 18, 28, 29, 30, 31, 32, 33, 34, 35, 36, 37, 38, 39, 48, 49, 50, 51, 52, 53, 54, 55, 56, 57] (by decide +kernel) (by decide +kernel)
set_option maxRecDepth 20000 in
theorem gX7_count_X7_bytesThere : GoodIn wsX7_count (wsV RX7 278 RX7 yX7_bytesThere wsX7_bytesThere) := goodIn_app (goodIn_of _ (by decide +kernel)) ggX7_count_X7_bytesThere
theorem dX7_count_0 : decode cX7_count 0 = .ok (.iload_n 1, 1) := by decide +kernel
theorem dX7_count_1 : decode cX7_count 1 = .ok (.tableswitch 99 0 7 #[47, 55, 63, 68, 73, 78, 86, 91], 47) := by decide +kernel
theorem dX7_count_48 : decode cX7_count 48 = .ok (.aload_n 0, 1) := by decide +kernel
theorem dX7_count_49 : decode cX7_count 49 = .ok (.getfield 10, 3) := by decide +kernel
theorem dX7_count_52 : decode cX7_count 52 = .ok (.getfield 220, 3) := by decide +kernel
theorem dX7_count_55 : decode cX7_count 55 = .ok (.ireturn, 1) := by decide +kernel
theorem dX7_count_56 : decode cX7_count 56 = .ok (.aload_n 0, 1) := by decide +kernel
theorem dX7_count_57 : decode cX7_count 57 = .ok (.getfield 19, 3) := by decide +kernel
theorem dX7_count_60 : decode cX7_count 60 = .ok (.invokevirtual 271, 3) := by decide +kernel
theorem dX7_count_63 : decode cX7_count 63 = .ok (.ireturn, 1) := by decide +kernel
theorem dX7_count_64 : decode cX7_count 64 = .ok (.aload_n 0, 1) := by decide +kernel
theorem dX7_count_65 : decode cX7_count 65 = .ok (.invokevirtual 275, 3) := by decide +kernel
theorem dX7_count_68 : decode cX7_count 68 = .ok (.ireturn, 1) := by decide +kernel
theorem dX7_count_69 : decode cX7_count 69 = .ok (.aload_n 0, 1) := by decide +kernel
theorem dX7_count_70 : decode cX7_count 70 = .ok (.invokevirtual 278, 3) := by decide +kernel
theorem dX7_count_73 : decode cX7_count 73 = .ok (.ireturn, 1) := by decide +kernel
theorem dX7_count_74 : decode cX7_count 74 = .ok (.aload_n 0, 1) := by decide +kernel
theorem dX7_count_75 : decode cX7_count 75 = .ok (.getfield 73, 3) := by decide +kernel
theorem dX7_count_78 : decode cX7_count 78 = .ok (.ireturn, 1) := by decide +kernel
theorem dX7_count_79 : decode cX7_count 79 = .ok (.aload_n 0, 1) := by decide +kernel
theorem dX7_count_80 : decode cX7_count 80 = .ok (.getfield 57, 3) := by decide +kernel
theorem dX7_count_83 : decode cX7_count 83 = .ok (.getfield 254, 3) := by decide +kernel
theorem dX7_count_86 : decode cX7_count 86 = .ok (.ireturn, 1) := by decide +kernel
theorem dX7_count_87 : decode cX7_count 87 = .ok (.aload_n 0, 1) := by decide +kernel
theorem dX7_count_88 : decode cX7_count 88 = .ok (.getfield 69, 3) := by decide +kernel
theorem dX7_count_91 : decode cX7_count 91 = .ok (.ireturn, 1) := by decide +kernel
theorem dX7_count_92 : decode cX7_count 92 = .ok (.aload_n 0, 1) := by decide +kernel
theorem dX7_count_93 : decode cX7_count 93 = .ok (.getfield 26, 3) := by decide +kernel
theorem dX7_count_96 : decode cX7_count 96 = .ok (.getfield 281, 3) := by decide +kernel
theorem dX7_count_99 : decode cX7_count 99 = .ok (.ireturn, 1) := by decide +kernel
theorem dX7_count_100 : decode cX7_count 100 = .ok (.new 159, 3) := by decide +kernel
theorem dX7_count_103 : decode cX7_count 103 = .ok (.dup, 1) := by decide +kernel
theorem dX7_count_104 : decode cX7_count 104 = .ok (.ldc_w 282, 3) := by decide +kernel
theorem dX7_count_107 : decode cX7_count 107 = .ok (.invokespecial 163, 3) := by decide +kernel
theorem dX7_count_110 : decode cX7_count 110 = .ok (.athrow, 1) := by decide +kernel
set_option maxRecDepth 20000 in
theorem ggX7_needFolder_X3_has : GoodIn wsX7_needFolder wsX3_has := goodIn_r _ [7, 8, 21, 22, 23, 24] (by decide +kernel) (by decide +kernel)
set_option maxRecDepth 20000 in
theorem gX7_needFolder_X3_has_n284 : GoodIn wsX7_needFolder (wsX3_has) := ggX7_needFolder_X3_has
theorem dX7_needFolder_0 : decode cX7_needFolder 0 = .ok (.aload_n 0, 1) := by decide +kernel
theorem dX7_needFolder_1 : decode cX7_needFolder 1 = .ok (.getfield 10, 3) := by decide +kernel
theorem dX7_needFolder_4 : decode cX7_needFolder 4 = .ok (.iload_n 1, 1) := by decide +kernel
theorem dX7_needFolder_5 : decode cX7_needFolder 5 = .ok (.invokevirtual 284, 3) := by decide +kernel
theorem dX7_needFolder_8 : decode cX7_needFolder 8 = .ok (.ifCond .ne 14, 3) := by decide +kernel
theorem dX7_needFolder_11 : decode cX7_needFolder 11 = .ok (.new 159, 3) := by decide +kernel
theorem dX7_needFolder_14 : decode cX7_needFolder 14 = .ok (.dup, 1) := by decide +kernel
theorem dX7_needFolder_15 : decode cX7_needFolder 15 = .ok (.ldc_w 285, 3) := by decide +kernel
theorem dX7_needFolder_18 : decode cX7_needFolder 18 = .ok (.invokespecial 163, 3) := by decide +kernel
theorem dX7_needFolder_21 : decode cX7_needFolder 21 = .ok (.athrow, 1) := by decide +kernel
theorem dX7_needFolder_22 : decode cX7_needFolder 22 = .ok (.return_, 1) := by decide +kernel
set_option maxRecDepth 20000 in
theorem ggX7_needFile_X1_has : GoodIn wsX7_needFile wsX1_has := goodIn_r _ [7, 8, 9, 22, 23, 24, 25, 26] (by decide +kernel) (by decide +kernel)
set_option maxRecDepth 20000 in
theorem gX7_needFile_X1_has_n208 : GoodIn wsX7_needFile (wsX1_has) := ggX7_needFile_X1_has
theorem dX7_needFile_0 : decode cX7_needFile 0 = .ok (.aload_n 0, 1) := by decide +kernel
theorem dX7_needFile_1 : decode cX7_needFile 1 = .ok (.getfield 19, 3) := by decide +kernel
theorem dX7_needFile_4 : decode cX7_needFile 4 = .ok (.iload_n 1, 1) := by decide +kernel
theorem dX7_needFile_5 : decode cX7_needFile 5 = .ok (.invokevirtual 208, 3) := by decide +kernel
theorem dX7_needFile_8 : decode cX7_needFile 8 = .ok (.ifCond .ne 14, 3) := by decide +kernel
theorem dX7_needFile_11 : decode cX7_needFile 11 = .ok (.new 159, 3) := by decide +kernel
theorem dX7_needFile_14 : decode cX7_needFile 14 = .ok (.dup, 1) := by decide +kernel
theorem dX7_needFile_15 : decode cX7_needFile 15 = .ok (.ldc_w 287, 3) := by decide +kernel
theorem dX7_needFile_18 : decode cX7_needFile 18 = .ok (.invokespecial 163, 3) := by decide +kernel
theorem dX7_needFile_21 : decode cX7_needFile 21 = .ok (.athrow, 1) := by decide +kernel
theorem dX7_needFile_22 : decode cX7_needFile 22 = .ok (.return_, 1) := by decide +kernel
theorem dX7_needGroup_0 : decode cX7_needGroup 0 = .ok (.iload_n 1, 1) := by decide +kernel
theorem dX7_needGroup_1 : decode cX7_needGroup 1 = .ok (.ifCond .lt 14, 3) := by decide +kernel
theorem dX7_needGroup_4 : decode cX7_needGroup 4 = .ok (.iload_n 1, 1) := by decide +kernel
theorem dX7_needGroup_5 : decode cX7_needGroup 5 = .ok (.aload_n 0, 1) := by decide +kernel
theorem dX7_needGroup_6 : decode cX7_needGroup 6 = .ok (.getfield 33, 3) := by decide +kernel
theorem dX7_needGroup_9 : decode cX7_needGroup 9 = .ok (.getfield 178, 3) := by decide +kernel
theorem dX7_needGroup_12 : decode cX7_needGroup 12 = .ok (.if_icmp .lt 14, 3) := by decide +kernel
theorem dX7_needGroup_15 : decode cX7_needGroup 15 = .ok (.new 159, 3) := by decide +kernel
theorem dX7_needGroup_18 : decode cX7_needGroup 18 = .ok (.dup, 1) := by decide +kernel
theorem dX7_needGroup_19 : decode cX7_needGroup 19 = .ok (.ldc_w 289, 3) := by decide +kernel
theorem dX7_needGroup_22 : decode cX7_needGroup 22 = .ok (.invokespecial 163, 3) := by decide +kernel
theorem dX7_needGroup_25 : decode cX7_needGroup 25 = .ok (.athrow, 1) := by decide +kernel
theorem dX7_needGroup_26 : decode cX7_needGroup 26 = .ok (.return_, 1) := by decide +kernel
theorem dX7_isName_0 : decode cX7_isName 0 = .ok (.iload_n 0, 1) := by decide +kernel
theorem dX7_isName_1 : decode cX7_isName 1 = .ok (.ifCond .lt 14, 3) := by decide +kernel
theorem dX7_isName_4 : decode cX7_isName 4 = .ok (.iload_n 0, 1) := by decide +kernel
theorem dX7_isName_5 : decode cX7_isName 5 = .ok (.sipush 1000, 3) := by decide +kernel
theorem dX7_isName_8 : decode cX7_isName 8 = .ok (.if_icmp .ge 7, 3) := by decide +kernel
theorem dX7_isName_11 : decode cX7_isName 11 = .ok (.iconst 1, 1) := by decide +kernel
theorem dX7_isName_12 : decode cX7_isName 12 = .ok (.goto 4, 3) := by decide +kernel
theorem dX7_isName_15 : decode cX7_isName 15 = .ok (.iconst 0, 1) := by decide +kernel
theorem dX7_isName_16 : decode cX7_isName 16 = .ok (.ireturn, 1) := by decide +kernel
theorem dX7_isOwner_0 : decode cX7_isOwner 0 = .ok (.iload_n 0, 1) := by decide +kernel
theorem dX7_isOwner_1 : decode cX7_isOwner 1 = .ok (.ifCond .lt 13, 3) := by decide +kernel
theorem dX7_isOwner_4 : decode cX7_isOwner 4 = .ok (.iload_n 0, 1) := by decide +kernel
theorem dX7_isOwner_5 : decode cX7_isOwner 5 = .ok (.bipush 8, 2) := by decide +kernel
theorem dX7_isOwner_7 : decode cX7_isOwner 7 = .ok (.if_icmp .ge 7, 3) := by decide +kernel
theorem dX7_isOwner_10 : decode cX7_isOwner 10 = .ok (.iconst 1, 1) := by decide +kernel
theorem dX7_isOwner_11 : decode cX7_isOwner 11 = .ok (.goto 4, 3) := by decide +kernel
theorem dX7_isOwner_14 : decode cX7_isOwner 14 = .ok (.iconst 0, 1) := by decide +kernel
theorem dX7_isOwner_15 : decode cX7_isOwner 15 = .ok (.ireturn, 1) := by decide +kernel
set_option maxRecDepth 20000 in
theorem ggX7_isFreeName_X7_isName : GoodIn wsX7_isFreeName wsX7_isName := goodIn_r _ [5] (by decide +kernel) (by decide +kernel)
set_option maxRecDepth 20000 in
theorem gX7_isFreeName_X7_isName : GoodIn wsX7_isFreeName (va_wsS RX7 80 yX7_isName wsX7_isName) := goodIn_app (goodIn_of _ (by decide +kernel)) ggX7_isFreeName_X7_isName
set_option maxRecDepth 20000 in
theorem ggX7_isFreeName_X1_named : GoodIn wsX7_isFreeName wsX1_named := goodIn_r _ [9, 10, 11, 12, 25, 26, 27, 28, 29] (by decide +kernel) (by decide +kernel)
set_option maxRecDepth 20000 in
theorem gX7_isFreeName_X1_named_n291 : GoodIn wsX7_isFreeName (wsX1_named) := ggX7_isFreeName_X1_named
theorem dX7_isFreeName_0 : decode cX7_isFreeName 0 = .ok (.iload_n 2, 1) := by decide +kernel
theorem dX7_isFreeName_1 : decode cX7_isFreeName 1 = .ok (.invokestatic 80, 3) := by decide +kernel
theorem dX7_isFreeName_4 : decode cX7_isFreeName 4 = .ok (.ifCond .eq 20, 3) := by decide +kernel
theorem dX7_isFreeName_7 : decode cX7_isFreeName 7 = .ok (.aload_n 0, 1) := by decide +kernel
theorem dX7_isFreeName_8 : decode cX7_isFreeName 8 = .ok (.getfield 19, 3) := by decide +kernel
theorem dX7_isFreeName_11 : decode cX7_isFreeName 11 = .ok (.iload_n 1, 1) := by decide +kernel
theorem dX7_isFreeName_12 : decode cX7_isFreeName 12 = .ok (.iload_n 2, 1) := by decide +kernel
theorem dX7_isFreeName_13 : decode cX7_isFreeName 13 = .ok (.invokevirtual 291, 3) := by decide +kernel
theorem dX7_isFreeName_16 : decode cX7_isFreeName 16 = .ok (.iconst (-1), 1) := by decide +kernel
theorem dX7_isFreeName_17 : decode cX7_isFreeName 17 = .ok (.if_icmp .ne 7, 3) := by decide +kernel
theorem dX7_isFreeName_20 : decode cX7_isFreeName 20 = .ok (.iconst 1, 1) := by decide +kernel
theorem dX7_isFreeName_21 : decode cX7_isFreeName 21 = .ok (.goto 4, 3) := by decide +kernel
theorem dX7_isFreeName_24 : decode cX7_isFreeName 24 = .ok (.iconst 0, 1) := by decide +kernel
theorem dX7_isFreeName_25 : decode cX7_isFreeName 25 = .ok (.ireturn, 1) := by decide +kernel
set_option maxRecDepth 20000 in
theorem ggX7_mayCome_X1_hasRoom : GoodIn wsX7_mayCome wsX1_hasRoom := goodIn_r _ [5, 6, 32, 33, 34, 35, 36] (by decide +kernel) (by decide +kernel)
set_option maxRecDepth 20000 in
theorem gX7_mayCome_X1_hasRoom_n292 : GoodIn wsX7_mayCome (wsX1_hasRoom) := ggX7_mayCome_X1_hasRoom
set_option maxRecDepth 20000 in
theorem ggX7_mayCome_X7_isFreeName : GoodIn wsX7_mayCome wsX7_isFreeName := goodIn_r _ [11, 1, 12, 13, 10, 14, 15, 3, 16, 17, 6, 18, 19, 20, 21, 22, 23, 24, 25, 26, 27, 28, 29, 30, 31, 32, 33, 34, 35, 36] (by decide +kernel) (by decide +kernel)
set_option maxRecDepth 20000 in
theorem gX7_mayCome_X7_isFreeName : GoodIn wsX7_mayCome (wsV RX7 121 RX7 yX7_isFreeName wsX7_isFreeName) := goodIn_app (goodIn_of _ (by decide +kernel)) ggX7_mayCome_X7_isFreeName
theorem dX7_mayCome_0 : decode cX7_mayCome 0 = .ok (.aload_n 0, 1) := by decide +kernel
theorem dX7_mayCome_1 : decode cX7_mayCome 1 = .ok (.getfield 19, 3) := by decide +kernel
theorem dX7_mayCome_4 : decode cX7_mayCome 4 = .ok (.invokevirtual 292, 3) := by decide +kernel
theorem dX7_mayCome_7 : decode cX7_mayCome 7 = .ok (.ifCond .eq 16, 3) := by decide +kernel
theorem dX7_mayCome_10 : decode cX7_mayCome 10 = .ok (.aload_n 0, 1) := by decide +kernel
theorem dX7_mayCome_11 : decode cX7_mayCome 11 = .ok (.iload_n 1, 1) := by decide +kernel
theorem dX7_mayCome_12 : decode cX7_mayCome 12 = .ok (.iload_n 2, 1) := by decide +kernel
theorem dX7_mayCome_13 : decode cX7_mayCome 13 = .ok (.invokevirtual 121, 3) := by decide +kernel
theorem dX7_mayCome_16 : decode cX7_mayCome 16 = .ok (.ifCond .eq 7, 3) := by decide +kernel
theorem dX7_mayCome_19 : decode cX7_mayCome 19 = .ok (.iconst 1, 1) := by decide +kernel
theorem dX7_mayCome_20 : decode cX7_mayCome 20 = .ok (.goto 4, 3) := by decide +kernel
theorem dX7_mayCome_23 : decode cX7_mayCome 23 = .ok (.iconst 0, 1) := by decide +kernel
theorem dX7_mayCome_24 : decode cX7_mayCome 24 = .ok (.ireturn, 1) := by decide +kernel
theorem dX7_noteWritten_0 : decode cX7_noteWritten 0 = .ok (.aload_n 0, 1) := by decide +kernel
theorem dX7_noteWritten_1 : decode cX7_noteWritten 1 = .ok (.getfield 26, 3) := by decide +kernel
theorem dX7_noteWritten_4 : decode cX7_noteWritten 4 = .ok (.getfield 167, 3) := by decide +kernel
theorem dX7_noteWritten_7 : decode cX7_noteWritten 7 = .ok (.iload_n 1, 1) := by decide +kernel
theorem dX7_noteWritten_8 : decode cX7_noteWritten 8 = .ok (.aload_n 0, 1) := by decide +kernel
theorem dX7_noteWritten_9 : decode cX7_noteWritten 9 = .ok (.getfield 69, 3) := by decide +kernel
theorem dX7_noteWritten_12 : decode cX7_noteWritten 12 = .ok (.iastore, 1) := by decide +kernel
theorem dX7_noteWritten_13 : decode cX7_noteWritten 13 = .ok (.aload_n 0, 1) := by decide +kernel
theorem dX7_noteWritten_14 : decode cX7_noteWritten 14 = .ok (.getfield 33, 3) := by decide +kernel
theorem dX7_noteWritten_17 : decode cX7_noteWritten 17 = .ok (.getfield 184, 3) := by decide +kernel
theorem dX7_noteWritten_20 : decode cX7_noteWritten 20 = .ok (.iload_n 1, 1) := by decide +kernel
theorem dX7_noteWritten_21 : decode cX7_noteWritten 21 = .ok (.iconst (-1), 1) := by decide +kernel
theorem dX7_noteWritten_22 : decode cX7_noteWritten 22 = .ok (.iastore, 1) := by decide +kernel
theorem dX7_noteWritten_23 : decode cX7_noteWritten 23 = .ok (.return_, 1) := by decide +kernel
set_option maxRecDepth 20000 in
theorem ggX7_isMember_X1_has : GoodIn wsX7_isMember wsX1_has := goodIn_r _ [6, 7, 8, 26, 27, 28, 29, 30] (by decide +kernel) (by decide +kernel)
set_option maxRecDepth 20000 in
theorem gX7_isMember_X1_has_n208 : GoodIn wsX7_isMember (wsX1_has) := ggX7_isMember_X1_has
theorem dX7_isMember_0 : decode cX7_isMember 0 = .ok (.aload_n 0, 1) := by decide +kernel
theorem dX7_isMember_1 : decode cX7_isMember 1 = .ok (.getfield 19, 3) := by decide +kernel
theorem dX7_isMember_4 : decode cX7_isMember 4 = .ok (.iload_n 1, 1) := by decide +kernel
theorem dX7_isMember_5 : decode cX7_isMember 5 = .ok (.invokevirtual 208, 3) := by decide +kernel
theorem dX7_isMember_8 : decode cX7_isMember 8 = .ok (.ifCond .eq 28, 3) := by decide +kernel
theorem dX7_isMember_11 : decode cX7_isMember 11 = .ok (.aload_n 0, 1) := by decide +kernel
theorem dX7_isMember_12 : decode cX7_isMember 12 = .ok (.getfield 33, 3) := by decide +kernel
theorem dX7_isMember_15 : decode cX7_isMember 15 = .ok (.getfield 184, 3) := by decide +kernel
theorem dX7_isMember_18 : decode cX7_isMember 18 = .ok (.aload_n 0, 1) := by decide +kernel
theorem dX7_isMember_19 : decode cX7_isMember 19 = .ok (.getfield 19, 3) := by decide +kernel
theorem dX7_isMember_22 : decode cX7_isMember 22 = .ok (.getfield 112, 3) := by decide +kernel
theorem dX7_isMember_25 : decode cX7_isMember 25 = .ok (.iload_n 1, 1) := by decide +kernel
theorem dX7_isMember_26 : decode cX7_isMember 26 = .ok (.iaload, 1) := by decide +kernel
theorem dX7_isMember_27 : decode cX7_isMember 27 = .ok (.iaload, 1) := by decide +kernel
theorem dX7_isMember_28 : decode cX7_isMember 28 = .ok (.iload_n 2, 1) := by decide +kernel
theorem dX7_isMember_29 : decode cX7_isMember 29 = .ok (.if_icmp .ne 7, 3) := by decide +kernel
theorem dX7_isMember_32 : decode cX7_isMember 32 = .ok (.iconst 1, 1) := by decide +kernel
theorem dX7_isMember_33 : decode cX7_isMember 33 = .ok (.goto 4, 3) := by decide +kernel
theorem dX7_isMember_36 : decode cX7_isMember 36 = .ok (.iconst 0, 1) := by decide +kernel
theorem dX7_isMember_37 : decode cX7_isMember 37 = .ok (.ireturn, 1) := by decide +kernel
set_option maxRecDepth 20000 in
theorem ggX7_bodiesThere_X1_having : GoodIn wsX7_bodiesThere wsX1_having := goodIn_r _ [6, 7, 8, 26, 27, 28, 29, 30] (by decide +kernel) (by decide +kernel)
set_option maxRecDepth 20000 in
theorem gX7_bodiesThere_X1_having_n136 : GoodIn wsX7_bodiesThere (wsX1_having) := ggX7_bodiesThere_X1_having
theorem dX7_bodiesThere_0 : decode cX7_bodiesThere 0 = .ok (.iconst 0, 1) := by decide +kernel
theorem dX7_bodiesThere_1 : decode cX7_bodiesThere 1 = .ok (.istore_n 1, 1) := by decide +kernel
theorem dX7_bodiesThere_2 : decode cX7_bodiesThere 2 = .ok (.iconst 0, 1) := by decide +kernel
theorem dX7_bodiesThere_3 : decode cX7_bodiesThere 3 = .ok (.istore_n 2, 1) := by decide +kernel
theorem dX7_bodiesThere_4 : decode cX7_bodiesThere 4 = .ok (.iload_n 2, 1) := by decide +kernel
theorem dX7_bodiesThere_5 : decode cX7_bodiesThere 5 = .ok (.aload_n 0, 1) := by decide +kernel
theorem dX7_bodiesThere_6 : decode cX7_bodiesThere 6 = .ok (.getfield 26, 3) := by decide +kernel
theorem dX7_bodiesThere_9 : decode cX7_bodiesThere 9 = .ok (.getfield 281, 3) := by decide +kernel
theorem dX7_bodiesThere_12 : decode cX7_bodiesThere 12 = .ok (.if_icmp .ge 23, 3) := by decide +kernel
theorem dX7_bodiesThere_15 : decode cX7_bodiesThere 15 = .ok (.aload_n 0, 1) := by decide +kernel
theorem dX7_bodiesThere_16 : decode cX7_bodiesThere 16 = .ok (.getfield 19, 3) := by decide +kernel
theorem dX7_bodiesThere_19 : decode cX7_bodiesThere 19 = .ok (.iload_n 2, 1) := by decide +kernel
theorem dX7_bodiesThere_20 : decode cX7_bodiesThere 20 = .ok (.invokevirtual 136, 3) := by decide +kernel
theorem dX7_bodiesThere_23 : decode cX7_bodiesThere 23 = .ok (.ifCond .le 6, 3) := by decide +kernel
theorem dX7_bodiesThere_26 : decode cX7_bodiesThere 26 = .ok (.iinc 1 1, 3) := by decide +kernel
theorem dX7_bodiesThere_29 : decode cX7_bodiesThere 29 = .ok (.iinc 2 1, 3) := by decide +kernel
theorem dX7_bodiesThere_32 : decode cX7_bodiesThere 32 = .ok (.goto (-28), 3) := by decide +kernel
theorem dX7_bodiesThere_35 : decode cX7_bodiesThere 35 = .ok (.iload_n 1, 1) := by decide +kernel
theorem dX7_bodiesThere_36 : decode cX7_bodiesThere 36 = .ok (.ireturn, 1) := by decide +kernel
set_option maxRecDepth 20000 in
theorem ggX7_bytesThere_X1_having : GoodIn wsX7_bytesThere wsX1_having := goodIn_r _ [6, 7, 8, 26, 27, 28, 29, 30] (by decide +kernel) (by decide +kernel)
set_option maxRecDepth 20000 in
theorem gX7_bytesThere_X1_having_n136 : GoodIn wsX7_bytesThere (wsX1_having) := ggX7_bytesThere_X1_having
theorem dX7_bytesThere_0 : decode cX7_bytesThere 0 = .ok (.iconst 0, 1) := by decide +kernel
theorem dX7_bytesThere_1 : decode cX7_bytesThere 1 = .ok (.istore_n 1, 1) := by decide +kernel
theorem dX7_bytesThere_2 : decode cX7_bytesThere 2 = .ok (.iconst 0, 1) := by decide +kernel
theorem dX7_bytesThere_3 : decode cX7_bytesThere 3 = .ok (.istore_n 2, 1) := by decide +kernel
theorem dX7_bytesThere_4 : decode cX7_bytesThere 4 = .ok (.iload_n 2, 1) := by decide +kernel
theorem dX7_bytesThere_5 : decode cX7_bytesThere 5 = .ok (.aload_n 0, 1) := by decide +kernel
theorem dX7_bytesThere_6 : decode cX7_bytesThere 6 = .ok (.getfield 26, 3) := by decide +kernel
theorem dX7_bytesThere_9 : decode cX7_bytesThere 9 = .ok (.getfield 281, 3) := by decide +kernel
theorem dX7_bytesThere_12 : decode cX7_bytesThere 12 = .ok (.if_icmp .ge 32, 3) := by decide +kernel
theorem dX7_bytesThere_15 : decode cX7_bytesThere 15 = .ok (.aload_n 0, 1) := by decide +kernel
theorem dX7_bytesThere_16 : decode cX7_bytesThere 16 = .ok (.getfield 19, 3) := by decide +kernel
theorem dX7_bytesThere_19 : decode cX7_bytesThere 19 = .ok (.iload_n 2, 1) := by decide +kernel
theorem dX7_bytesThere_20 : decode cX7_bytesThere 20 = .ok (.invokevirtual 136, 3) := by decide +kernel
theorem dX7_bytesThere_23 : decode cX7_bytesThere 23 = .ok (.ifCond .le 15, 3) := by decide +kernel
theorem dX7_bytesThere_26 : decode cX7_bytesThere 26 = .ok (.iload_n 1, 1) := by decide +kernel
theorem dX7_bytesThere_27 : decode cX7_bytesThere 27 = .ok (.aload_n 0, 1) := by decide +kernel
theorem dX7_bytesThere_28 : decode cX7_bytesThere 28 = .ok (.getfield 26, 3) := by decide +kernel
theorem dX7_bytesThere_31 : decode cX7_bytesThere 31 = .ok (.getfield 140, 3) := by decide +kernel
theorem dX7_bytesThere_34 : decode cX7_bytesThere 34 = .ok (.iload_n 2, 1) := by decide +kernel
theorem dX7_bytesThere_35 : decode cX7_bytesThere 35 = .ok (.iaload, 1) := by decide +kernel
theorem dX7_bytesThere_36 : decode cX7_bytesThere 36 = .ok (.iadd, 1) := by decide +kernel
theorem dX7_bytesThere_37 : decode cX7_bytesThere 37 = .ok (.istore_n 1, 1) := by decide +kernel
theorem dX7_bytesThere_38 : decode cX7_bytesThere 38 = .ok (.iinc 2 1, 3) := by decide +kernel
theorem dX7_bytesThere_41 : decode cX7_bytesThere 41 = .ok (.goto (-37), 3) := by decide +kernel
theorem dX7_bytesThere_44 : decode cX7_bytesThere 44 = .ok (.iload_n 1, 1) := by decide +kernel
theorem dX7_bytesThere_45 : decode cX7_bytesThere 45 = .ok (.ireturn, 1) := by decide +kernel
set_option maxRecDepth 20000 in
theorem ggX7_differencesHere_X7_fileDifferences : GoodIn wsX7_differencesHere wsX7_fileDifferences := goodIn_r _ [5, 6, 7, 8, 9, 10, 11, 12, 13, 14, 15, 16, 17, 18, 19, 20, 21, 22, 23, 24, 25, 26, 27, 28, 29, 30, 31, 44, 45, 46, 47, 48, 49, 50, 51, 52, 53, 54, 55, 56, 57, 58, 59, 60, 61, 62, 63, 64, 65] (by decide +kernel) (by decide +kernel)
set_option maxRecDepth 20000 in
theorem gX7_differencesHere_X7_fileDifferences : GoodIn wsX7_differencesHere (wsV RX7 293 RX7 yX7_fileDifferences wsX7_fileDifferences) := goodIn_app (goodIn_of _ (by decide +kernel)) ggX7_differencesHere_X7_fileDifferences
set_option maxRecDepth 20000 in
theorem ggX7_differencesHere_X7_foldersAlone : GoodIn wsX7_differencesHere wsX7_foldersAlone := goodIn_r _ [35, 36, 37, 38, 39, 40, 41, 42, 43, 44, 45, 46, 47, 48, 49, 50, 51, 52, 53, 54, 55, 66, 67, 68, 69] (by decide +kernel) (by decide +kernel)
set_option maxRecDepth 20000 in
theorem gX7_differencesHere_X7_foldersAlone : GoodIn wsX7_differencesHere (wsV RX7 296 RX7 yX7_foldersAlone wsX7_foldersAlone) := goodIn_app (goodIn_of _ (by decide +kernel)) ggX7_differencesHere_X7_foldersAlone
theorem dX7_differencesHere_0 : decode cX7_differencesHere 0 = .ok (.aload_n 0, 1) := by decide +kernel
theorem dX7_differencesHere_1 : decode cX7_differencesHere 1 = .ok (.iload_n 1, 1) := by decide +kernel
theorem dX7_differencesHere_2 : decode cX7_differencesHere 2 = .ok (.iload_n 2, 1) := by decide +kernel
theorem dX7_differencesHere_3 : decode cX7_differencesHere 3 = .ok (.invokevirtual 293, 3) := by decide +kernel
theorem dX7_differencesHere_6 : decode cX7_differencesHere 6 = .ok (.aload_n 0, 1) := by decide +kernel
theorem dX7_differencesHere_7 : decode cX7_differencesHere 7 = .ok (.iload_n 2, 1) := by decide +kernel
theorem dX7_differencesHere_8 : decode cX7_differencesHere 8 = .ok (.iload_n 1, 1) := by decide +kernel
theorem dX7_differencesHere_9 : decode cX7_differencesHere 9 = .ok (.invokevirtual 296, 3) := by decide +kernel
theorem dX7_differencesHere_12 : decode cX7_differencesHere 12 = .ok (.iadd, 1) := by decide +kernel
theorem dX7_differencesHere_13 : decode cX7_differencesHere 13 = .ok (.ireturn, 1) := by decide +kernel
set_option maxRecDepth 20000 in
theorem ggX7_foldersAlone_X3_named : GoodIn wsX7_foldersAlone wsX3_named := goodIn_r _ [5, 6, 7, 8, 21, 22, 23, 24] (by decide +kernel) (by decide +kernel)
set_option maxRecDepth 20000 in
theorem gX7_foldersAlone_X3_named_n88 : GoodIn wsX7_foldersAlone (wsX3_named) := ggX7_foldersAlone_X3_named
theorem dX7_foldersAlone_0 : decode cX7_foldersAlone 0 = .ok (.iconst 0, 1) := by decide +kernel
theorem dX7_foldersAlone_1 : decode cX7_foldersAlone 1 = .ok (.istore_n 3, 1) := by decide +kernel
theorem dX7_foldersAlone_2 : decode cX7_foldersAlone 2 = .ok (.iconst 1, 1) := by decide +kernel
theorem dX7_foldersAlone_3 : decode cX7_foldersAlone 3 = .ok (.istore 4, 2) := by decide +kernel
theorem dX7_foldersAlone_5 : decode cX7_foldersAlone 5 = .ok (.iload 4, 2) := by decide +kernel
theorem dX7_foldersAlone_7 : decode cX7_foldersAlone 7 = .ok (.aload_n 0, 1) := by decide +kernel
theorem dX7_foldersAlone_8 : decode cX7_foldersAlone 8 = .ok (.getfield 10, 3) := by decide +kernel
theorem dX7_foldersAlone_11 : decode cX7_foldersAlone 11 = .ok (.getfield 220, 3) := by decide +kernel
theorem dX7_foldersAlone_14 : decode cX7_foldersAlone 14 = .ok (.if_icmp .ge 48, 3) := by decide +kernel
theorem dX7_foldersAlone_17 : decode cX7_foldersAlone 17 = .ok (.aload_n 0, 1) := by decide +kernel
theorem dX7_foldersAlone_18 : decode cX7_foldersAlone 18 = .ok (.getfield 10, 3) := by decide +kernel
theorem dX7_foldersAlone_21 : decode cX7_foldersAlone 21 = .ok (.getfield 221, 3) := by decide +kernel
theorem dX7_foldersAlone_24 : decode cX7_foldersAlone 24 = .ok (.iload 4, 2) := by decide +kernel
theorem dX7_foldersAlone_26 : decode cX7_foldersAlone 26 = .ok (.iaload, 1) := by decide +kernel
theorem dX7_foldersAlone_27 : decode cX7_foldersAlone 27 = .ok (.iload_n 1, 1) := by decide +kernel
theorem dX7_foldersAlone_28 : decode cX7_foldersAlone 28 = .ok (.if_icmp .ne 28, 3) := by decide +kernel
theorem dX7_foldersAlone_31 : decode cX7_foldersAlone 31 = .ok (.aload_n 0, 1) := by decide +kernel
theorem dX7_foldersAlone_32 : decode cX7_foldersAlone 32 = .ok (.getfield 10, 3) := by decide +kernel
theorem dX7_foldersAlone_35 : decode cX7_foldersAlone 35 = .ok (.iload_n 2, 1) := by decide +kernel
theorem dX7_foldersAlone_36 : decode cX7_foldersAlone 36 = .ok (.aload_n 0, 1) := by decide +kernel
theorem dX7_foldersAlone_37 : decode cX7_foldersAlone 37 = .ok (.getfield 10, 3) := by decide +kernel
theorem dX7_foldersAlone_40 : decode cX7_foldersAlone 40 = .ok (.getfield 224, 3) := by decide +kernel
theorem dX7_foldersAlone_43 : decode cX7_foldersAlone 43 = .ok (.iload 4, 2) := by decide +kernel
theorem dX7_foldersAlone_45 : decode cX7_foldersAlone 45 = .ok (.iaload, 1) := by decide +kernel
theorem dX7_foldersAlone_46 : decode cX7_foldersAlone 46 = .ok (.invokevirtual 88, 3) := by decide +kernel
theorem dX7_foldersAlone_49 : decode cX7_foldersAlone 49 = .ok (.iconst (-1), 1) := by decide +kernel
theorem dX7_foldersAlone_50 : decode cX7_foldersAlone 50 = .ok (.if_icmp .ne 6, 3) := by decide +kernel
theorem dX7_foldersAlone_53 : decode cX7_foldersAlone 53 = .ok (.iinc 3 1, 3) := by decide +kernel
theorem dX7_foldersAlone_56 : decode cX7_foldersAlone 56 = .ok (.iinc 4 1, 3) := by decide +kernel
theorem dX7_foldersAlone_59 : decode cX7_foldersAlone 59 = .ok (.goto (-54), 3) := by decide +kernel
theorem dX7_foldersAlone_62 : decode cX7_foldersAlone 62 = .ok (.iload_n 3, 1) := by decide +kernel
theorem dX7_foldersAlone_63 : decode cX7_foldersAlone 63 = .ok (.ireturn, 1) := by decide +kernel
set_option maxRecDepth 20000 in
theorem ggX7_fileDifferences_X1_isIn : GoodIn wsX7_fileDifferences wsX1_isIn := goodIn_r _ [6, 7, 39, 40, 41, 42, 43] (by decide +kernel) (by decide +kernel)
set_option maxRecDepth 20000 in
theorem gX7_fileDifferences_X1_isIn_n299 : GoodIn wsX7_fileDifferences (wsX1_isIn) := ggX7_fileDifferences_X1_isIn
set_option maxRecDepth 20000 in
theorem ggX7_fileDifferences_X1_named : GoodIn wsX7_fileDifferences wsX1_named := goodIn_r _ [10, 11, 7, 12, 39, 40, 41, 42, 43] (by decide +kernel) (by decide +kernel)
set_option maxRecDepth 20000 in
theorem gX7_fileDifferences_X1_named_n291 : GoodIn wsX7_fileDifferences (wsX1_named) := ggX7_fileDifferences_X1_named
set_option maxRecDepth 20000 in
theorem ggX7_fileDifferences_X0_areAlike : GoodIn wsX7_fileDifferences wsX0_areAlike := goodIn_r _ [16, 17, 18, 19, 20, 14, 21, 22, 23, 24, 25, 26, 44, 45, 46, 47, 48] (by decide +kernel) (by decide +kernel)
set_option maxRecDepth 20000 in
theorem gX7_fileDifferences_X0_areAlike_n302 : GoodIn wsX7_fileDifferences (wsX0_areAlike) := ggX7_fileDifferences_X0_areAlike
theorem dX7_fileDifferences_0 : decode cX7_fileDifferences 0 = .ok (.iconst 0, 1) := by decide +kernel
theorem dX7_fileDifferences_1 : decode cX7_fileDifferences 1 = .ok (.istore_n 3, 1) := by decide +kernel
theorem dX7_fileDifferences_2 : decode cX7_fileDifferences 2 = .ok (.iconst 0, 1) := by decide +kernel
theorem dX7_fileDifferences_3 : decode cX7_fileDifferences 3 = .ok (.istore 4, 2) := by decide +kernel
theorem dX7_fileDifferences_5 : decode cX7_fileDifferences 5 = .ok (.iload 4, 2) := by decide +kernel
theorem dX7_fileDifferences_7 : decode cX7_fileDifferences 7 = .ok (.aload_n 0, 1) := by decide +kernel
theorem dX7_fileDifferences_8 : decode cX7_fileDifferences 8 = .ok (.getfield 19, 3) := by decide +kernel
theorem dX7_fileDifferences_11 : decode cX7_fileDifferences 11 = .ok (.getfield 190, 3) := by decide +kernel
theorem dX7_fileDifferences_14 : decode cX7_fileDifferences 14 = .ok (.if_icmp .ge 119, 3) := by decide +kernel
theorem dX7_fileDifferences_17 : decode cX7_fileDifferences 17 = .ok (.aload_n 0, 1) := by decide +kernel
theorem dX7_fileDifferences_18 : decode cX7_fileDifferences 18 = .ok (.getfield 19, 3) := by decide +kernel
theorem dX7_fileDifferences_21 : decode cX7_fileDifferences 21 = .ok (.iload 4, 2) := by decide +kernel
theorem dX7_fileDifferences_23 : decode cX7_fileDifferences 23 = .ok (.iload_n 1, 1) := by decide +kernel
theorem dX7_fileDifferences_24 : decode cX7_fileDifferences 24 = .ok (.invokevirtual 299, 3) := by decide +kernel
theorem dX7_fileDifferences_27 : decode cX7_fileDifferences 27 = .ok (.ifCond .eq 62, 3) := by decide +kernel
theorem dX7_fileDifferences_30 : decode cX7_fileDifferences 30 = .ok (.aload_n 0, 1) := by decide +kernel
theorem dX7_fileDifferences_31 : decode cX7_fileDifferences 31 = .ok (.getfield 19, 3) := by decide +kernel
theorem dX7_fileDifferences_34 : decode cX7_fileDifferences 34 = .ok (.iload_n 2, 1) := by decide +kernel
theorem dX7_fileDifferences_35 : decode cX7_fileDifferences 35 = .ok (.aload_n 0, 1) := by decide +kernel
theorem dX7_fileDifferences_36 : decode cX7_fileDifferences 36 = .ok (.getfield 19, 3) := by decide +kernel
theorem dX7_fileDifferences_39 : decode cX7_fileDifferences 39 = .ok (.getfield 127, 3) := by decide +kernel
theorem dX7_fileDifferences_42 : decode cX7_fileDifferences 42 = .ok (.iload 4, 2) := by decide +kernel
theorem dX7_fileDifferences_44 : decode cX7_fileDifferences 44 = .ok (.iaload, 1) := by decide +kernel
theorem dX7_fileDifferences_45 : decode cX7_fileDifferences 45 = .ok (.invokevirtual 291, 3) := by decide +kernel
theorem dX7_fileDifferences_48 : decode cX7_fileDifferences 48 = .ok (.istore 5, 2) := by decide +kernel
theorem dX7_fileDifferences_50 : decode cX7_fileDifferences 50 = .ok (.iload 5, 2) := by decide +kernel
theorem dX7_fileDifferences_52 : decode cX7_fileDifferences 52 = .ok (.iconst (-1), 1) := by decide +kernel
theorem dX7_fileDifferences_53 : decode cX7_fileDifferences 53 = .ok (.if_icmp .eq 33, 3) := by decide +kernel
theorem dX7_fileDifferences_56 : decode cX7_fileDifferences 56 = .ok (.aload_n 0, 1) := by decide +kernel
theorem dX7_fileDifferences_57 : decode cX7_fileDifferences 57 = .ok (.getfield 26, 3) := by decide +kernel
theorem dX7_fileDifferences_60 : decode cX7_fileDifferences 60 = .ok (.aload_n 0, 1) := by decide +kernel
theorem dX7_fileDifferences_61 : decode cX7_fileDifferences 61 = .ok (.getfield 19, 3) := by decide +kernel
theorem dX7_fileDifferences_64 : decode cX7_fileDifferences 64 = .ok (.getfield 112, 3) := by decide +kernel
theorem dX7_fileDifferences_67 : decode cX7_fileDifferences 67 = .ok (.iload 4, 2) := by decide +kernel
theorem dX7_fileDifferences_69 : decode cX7_fileDifferences 69 = .ok (.iaload, 1) := by decide +kernel
theorem dX7_fileDifferences_70 : decode cX7_fileDifferences 70 = .ok (.aload_n 0, 1) := by decide +kernel
theorem dX7_fileDifferences_71 : decode cX7_fileDifferences 71 = .ok (.getfield 19, 3) := by decide +kernel
theorem dX7_fileDifferences_74 : decode cX7_fileDifferences 74 = .ok (.getfield 112, 3) := by decide +kernel
theorem dX7_fileDifferences_77 : decode cX7_fileDifferences 77 = .ok (.iload 5, 2) := by decide +kernel
theorem dX7_fileDifferences_79 : decode cX7_fileDifferences 79 = .ok (.iaload, 1) := by decide +kernel
theorem dX7_fileDifferences_80 : decode cX7_fileDifferences 80 = .ok (.invokevirtual 302, 3) := by decide +kernel
theorem dX7_fileDifferences_83 : decode cX7_fileDifferences 83 = .ok (.ifCond .ne 6, 3) := by decide +kernel
theorem dX7_fileDifferences_86 : decode cX7_fileDifferences 86 = .ok (.iinc 3 1, 3) := by decide +kernel
theorem dX7_fileDifferences_89 : decode cX7_fileDifferences 89 = .ok (.aload_n 0, 1) := by decide +kernel
theorem dX7_fileDifferences_90 : decode cX7_fileDifferences 90 = .ok (.getfield 19, 3) := by decide +kernel
theorem dX7_fileDifferences_93 : decode cX7_fileDifferences 93 = .ok (.iload 4, 2) := by decide +kernel
theorem dX7_fileDifferences_95 : decode cX7_fileDifferences 95 = .ok (.iload_n 2, 1) := by decide +kernel
theorem dX7_fileDifferences_96 : decode cX7_fileDifferences 96 = .ok (.invokevirtual 299, 3) := by decide +kernel
