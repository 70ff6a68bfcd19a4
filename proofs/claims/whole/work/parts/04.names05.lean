set_option maxRecDepth 20000 in
theorem gX8_copy_X8_isFolder : GoodIn wsX8_copy (wsV RX8 97 RX8 yX8_isFolder wsX8_isFolder) := goodIn_app (goodIn_of _ (by decide +kernel)) ggX8_copy_X8_isFolder
set_option maxRecDepth 20000 in
theorem ggX8_copy_X8_canCome : GoodIn wsX8_copy wsX8_canCome := goodIn_r _ [26, 12, 27, 28, 9, 29, 30, 31, 32, 33, 13, 34, 50, 51, 52, 53, 54, 55, 56, 57, 58, 59, 60, 61, 62, 63, 64, 65, 66, 67, 68, 69, 70, 71, 72, 73, 74, 75, 76, 77, 78, 79, 80, 81, 82, 83] (by decide +kernel) (by decide +kernel)
set_option maxRecDepth 20000 in
theorem gX8_copy_X8_canCome : GoodIn wsX8_copy (wsV RX8 114 RX8 yX8_canCome wsX8_canCome) := goodIn_app (goodIn_of _ (by decide +kernel)) ggX8_copy_X8_canCome
set_option maxRecDepth 20000 in
theorem ggX8_copy_X8_newBody : GoodIn wsX8_copy wsX8_newBody := goodIn_r _ [38, 2, 1, 4, 39, 40, 50, 51, 52, 53, 54, 55, 56, 57, 58, 59, 60, 61, 62, 63, 64, 65, 66, 67, 68, 69, 70, 71, 72, 73, 74, 75, 76, 77, 78, 79, 80, 81, 82, 83] (by decide +kernel) (by decide +kernel)
set_option maxRecDepth 20000 in
theorem gX8_copy_X8_newBody : GoodIn wsX8_copy (wsV RX8 121 RX8 yX8_newBody wsX8_newBody) := goodIn_app (goodIn_of _ (by decide +kernel)) ggX8_copy_X8_newBody
set_option maxRecDepth 20000 in
theorem ggX8_copy_X8_fillsFrom : GoodIn wsX8_copy wsX8_fillsFrom := goodIn_r _ [44, 45, 50, 51, 52, 53, 54, 55, 56, 57, 58, 59, 60, 61, 62, 63, 64, 65, 66, 67, 68, 69, 70, 71, 72, 73, 74, 75, 76, 77, 78, 79, 80, 81, 82, 83] (by decide +kernel) (by decide +kernel)
set_option maxRecDepth 20000 in
theorem gX8_copy_X8_fillsFrom : GoodIn wsX8_copy (wsV RX8 131 RX8 yX8_fillsFrom wsX8_fillsFrom) := goodIn_app (goodIn_of _ (by decide +kernel)) ggX8_copy_X8_fillsFrom
set_option maxRecDepth 20000 in
theorem ggX8_copy_X8_newFile : GoodIn wsX8_copy wsX8_newFile := goodIn_r _ [49, 13, 12, 34, 3, 50, 51, 52, 53, 54, 55, 56, 57, 58, 59, 60, 61, 62, 63, 64, 65, 66, 67, 68, 69, 70, 71, 72, 73, 74, 75, 76, 77, 78, 79, 80, 81, 82, 83] (by decide +kernel) (by decide +kernel)
set_option maxRecDepth 20000 in
theorem gX8_copy_X8_newFile : GoodIn wsX8_copy (wsV RX8 125 RX8 yX8_newFile wsX8_newFile) := goodIn_app (goodIn_of _ (by decide +kernel)) ggX8_copy_X8_newFile
theorem dX8_copy_0 : decode cX8_copy 0 = .ok (.aload_n 0, 1) := by decide +kernel
theorem dX8_copy_1 : decode cX8_copy 1 = .ok (.iload_n 1, 1) := by decide +kernel
theorem dX8_copy_2 : decode cX8_copy 2 = .ok (.invokevirtual 128, 3) := by decide +kernel
theorem dX8_copy_5 : decode cX8_copy 5 = .ok (.ifCond .eq 11, 3) := by decide +kernel
theorem dX8_copy_8 : decode cX8_copy 8 = .ok (.aload_n 0, 1) := by decide +kernel
theorem dX8_copy_9 : decode cX8_copy 9 = .ok (.iload_n 2, 1) := by decide +kernel
theorem dX8_copy_10 : decode cX8_copy 10 = .ok (.invokevirtual 97, 3) := by decide +kernel
theorem dX8_copy_13 : decode cX8_copy 13 = .ok (.ifCond .ne 5, 3) := by decide +kernel
theorem dX8_copy_16 : decode cX8_copy 16 = .ok (.iconst 0, 1) := by decide +kernel
theorem dX8_copy_17 : decode cX8_copy 17 = .ok (.ireturn, 1) := by decide +kernel
theorem dX8_copy_18 : decode cX8_copy 18 = .ok (.aload_n 0, 1) := by decide +kernel
theorem dX8_copy_19 : decode cX8_copy 19 = .ok (.iload_n 2, 1) := by decide +kernel
theorem dX8_copy_20 : decode cX8_copy 20 = .ok (.iload_n 3, 1) := by decide +kernel
theorem dX8_copy_21 : decode cX8_copy 21 = .ok (.invokevirtual 114, 3) := by decide +kernel
theorem dX8_copy_24 : decode cX8_copy 24 = .ok (.ifCond .eq 12, 3) := by decide +kernel
theorem dX8_copy_27 : decode cX8_copy 27 = .ok (.aload_n 0, 1) := by decide +kernel
theorem dX8_copy_28 : decode cX8_copy 28 = .ok (.getfield 108, 3) := by decide +kernel
theorem dX8_copy_31 : decode cX8_copy 31 = .ok (.bipush 100, 2) := by decide +kernel
theorem dX8_copy_33 : decode cX8_copy 33 = .ok (.if_icmp .ne 5, 3) := by decide +kernel
theorem dX8_copy_36 : decode cX8_copy 36 = .ok (.iconst (-1), 1) := by decide +kernel
theorem dX8_copy_37 : decode cX8_copy 37 = .ok (.ireturn, 1) := by decide +kernel
theorem dX8_copy_38 : decode cX8_copy 38 = .ok (.aload_n 0, 1) := by decide +kernel
theorem dX8_copy_39 : decode cX8_copy 39 = .ok (.aload_n 0, 1) := by decide +kernel
theorem dX8_copy_40 : decode cX8_copy 40 = .ok (.getfield 33, 3) := by decide +kernel
theorem dX8_copy_43 : decode cX8_copy 43 = .ok (.aload_n 0, 1) := by decide +kernel
theorem dX8_copy_44 : decode cX8_copy 44 = .ok (.getfield 26, 3) := by decide +kernel
theorem dX8_copy_47 : decode cX8_copy 47 = .ok (.iload_n 1, 1) := by decide +kernel
theorem dX8_copy_48 : decode cX8_copy 48 = .ok (.iaload, 1) := by decide +kernel
theorem dX8_copy_49 : decode cX8_copy 49 = .ok (.iaload, 1) := by decide +kernel
theorem dX8_copy_50 : decode cX8_copy 50 = .ok (.aload_n 0, 1) := by decide +kernel
theorem dX8_copy_51 : decode cX8_copy 51 = .ok (.getfield 36, 3) := by decide +kernel
theorem dX8_copy_54 : decode cX8_copy 54 = .ok (.aload_n 0, 1) := by decide +kernel
theorem dX8_copy_55 : decode cX8_copy 55 = .ok (.getfield 26, 3) := by decide +kernel
theorem dX8_copy_58 : decode cX8_copy 58 = .ok (.iload_n 1, 1) := by decide +kernel
theorem dX8_copy_59 : decode cX8_copy 59 = .ok (.iaload, 1) := by decide +kernel
theorem dX8_copy_60 : decode cX8_copy 60 = .ok (.iaload, 1) := by decide +kernel
theorem dX8_copy_61 : decode cX8_copy 61 = .ok (.aload_n 0, 1) := by decide +kernel
theorem dX8_copy_62 : decode cX8_copy 62 = .ok (.getfield 118, 3) := by decide +kernel
theorem dX8_copy_65 : decode cX8_copy 65 = .ok (.invokevirtual 121, 3) := by decide +kernel
theorem dX8_copy_68 : decode cX8_copy 68 = .ok (.istore 4, 2) := by decide +kernel
theorem dX8_copy_70 : decode cX8_copy 70 = .ok (.aload_n 0, 1) := by decide +kernel
theorem dX8_copy_71 : decode cX8_copy 71 = .ok (.iload 4, 2) := by decide +kernel
theorem dX8_copy_73 : decode cX8_copy 73 = .ok (.aload_n 0, 1) := by decide +kernel
theorem dX8_copy_74 : decode cX8_copy 74 = .ok (.getfield 26, 3) := by decide +kernel
theorem dX8_copy_77 : decode cX8_copy 77 = .ok (.iload_n 1, 1) := by decide +kernel
theorem dX8_copy_78 : decode cX8_copy 78 = .ok (.iaload, 1) := by decide +kernel
theorem dX8_copy_79 : decode cX8_copy 79 = .ok (.invokevirtual 131, 3) := by decide +kernel
theorem dX8_copy_82 : decode cX8_copy 82 = .ok (.aload_n 0, 1) := by decide +kernel
theorem dX8_copy_83 : decode cX8_copy 83 = .ok (.iload_n 2, 1) := by decide +kernel
theorem dX8_copy_84 : decode cX8_copy 84 = .ok (.iload_n 3, 1) := by decide +kernel
theorem dX8_copy_85 : decode cX8_copy 85 = .ok (.iload 4, 2) := by decide +kernel
theorem dX8_copy_87 : decode cX8_copy 87 = .ok (.invokevirtual 125, 3) := by decide +kernel
theorem dX8_copy_90 : decode cX8_copy 90 = .ok (.ireturn, 1) := by decide +kernel
set_option maxRecDepth 20000 in
theorem ggX8_link_X8_isFile : GoodIn wsX8_link wsX8_isFile := goodIn_r _ [6, 7, 8, 9, 10, 11, 12, 5, 13, 35, 36, 37, 38, 39, 40, 41, 42, 43, 44, 45, 46, 47, 48, 49, 50, 51, 52, 53, 54, 55, 56, 57, 58, 59, 60, 61, 62, 63, 64, 65, 66, 67, 68] (by decide +kernel) (by decide +kernel)
set_option maxRecDepth 20000 in
theorem gX8_link_X8_isFile : GoodIn wsX8_link (wsV RX8 128 RX8 yX8_isFile wsX8_isFile) := goodIn_app (goodIn_of _ (by decide +kernel)) ggX8_link_X8_isFile
set_option maxRecDepth 20000 in
theorem ggX8_link_X8_isFolder : GoodIn wsX8_link wsX8_isFolder := goodIn_r _ [17, 18, 10, 11, 12, 5, 13, 7, 35, 36, 37, 38, 39, 40, 41, 42, 43, 44, 45, 46, 47, 48, 49, 50, 51, 52, 53, 54, 55, 56, 57, 58, 59, 60, 61, 62, 63, 64, 65, 66, 67, 68] (by decide +kernel) (by decide +kernel)
set_option maxRecDepth 20000 in
theorem gX8_link_X8_isFolder : GoodIn wsX8_link (wsV RX8 97 RX8 yX8_isFolder wsX8_isFolder) := goodIn_app (goodIn_of _ (by decide +kernel)) ggX8_link_X8_isFolder
set_option maxRecDepth 20000 in
theorem ggX8_link_X8_canCome : GoodIn wsX8_link wsX8_canCome := goodIn_r _ [22, 8, 23, 24, 5, 25, 26, 27, 28, 29, 9, 30, 35, 36, 37, 38, 39, 40, 41, 42, 43, 44, 45, 46, 47, 48, 49, 50, 51, 52, 53, 54, 55, 56, 57, 58, 59, 60, 61, 62, 63, 64, 65, 66, 67, 68] (by decide +kernel) (by decide +kernel)
set_option maxRecDepth 20000 in
theorem gX8_link_X8_canCome : GoodIn wsX8_link (wsV RX8 114 RX8 yX8_canCome wsX8_canCome) := goodIn_app (goodIn_of _ (by decide +kernel)) ggX8_link_X8_canCome
set_option maxRecDepth 20000 in
theorem ggX8_link_X8_newFile : GoodIn wsX8_link wsX8_newFile := goodIn_r _ [34, 9, 8, 30, 1, 35, 36, 37, 38, 39, 40, 41, 42, 43, 44, 45, 46, 47, 48, 49, 50, 51, 52, 53, 54, 55, 56, 57, 58, 59, 60, 61, 62, 63, 64, 65, 66, 67, 68] (by decide +kernel) (by decide +kernel)
set_option maxRecDepth 20000 in
theorem gX8_link_X8_newFile : GoodIn wsX8_link (wsV RX8 125 RX8 yX8_newFile wsX8_newFile) := goodIn_app (goodIn_of _ (by decide +kernel)) ggX8_link_X8_newFile
theorem dX8_link_0 : decode cX8_link 0 = .ok (.aload_n 0, 1) := by decide +kernel
theorem dX8_link_1 : decode cX8_link 1 = .ok (.iload_n 1, 1) := by decide +kernel
theorem dX8_link_2 : decode cX8_link 2 = .ok (.invokevirtual 128, 3) := by decide +kernel
theorem dX8_link_5 : decode cX8_link 5 = .ok (.ifCond .eq 11, 3) := by decide +kernel
theorem dX8_link_8 : decode cX8_link 8 = .ok (.aload_n 0, 1) := by decide +kernel
theorem dX8_link_9 : decode cX8_link 9 = .ok (.iload_n 2, 1) := by decide +kernel
theorem dX8_link_10 : decode cX8_link 10 = .ok (.invokevirtual 97, 3) := by decide +kernel
theorem dX8_link_13 : decode cX8_link 13 = .ok (.ifCond .ne 5, 3) := by decide +kernel
theorem dX8_link_16 : decode cX8_link 16 = .ok (.iconst 0, 1) := by decide +kernel
theorem dX8_link_17 : decode cX8_link 17 = .ok (.ireturn, 1) := by decide +kernel
theorem dX8_link_18 : decode cX8_link 18 = .ok (.aload_n 0, 1) := by decide +kernel
theorem dX8_link_19 : decode cX8_link 19 = .ok (.iload_n 2, 1) := by decide +kernel
theorem dX8_link_20 : decode cX8_link 20 = .ok (.iload_n 3, 1) := by decide +kernel
theorem dX8_link_21 : decode cX8_link 21 = .ok (.invokevirtual 114, 3) := by decide +kernel
theorem dX8_link_24 : decode cX8_link 24 = .ok (.ifCond .eq 18, 3) := by decide +kernel
theorem dX8_link_27 : decode cX8_link 27 = .ok (.aload_n 0, 1) := by decide +kernel
theorem dX8_link_28 : decode cX8_link 28 = .ok (.iload_n 2, 1) := by decide +kernel
theorem dX8_link_29 : decode cX8_link 29 = .ok (.iload_n 3, 1) := by decide +kernel
theorem dX8_link_30 : decode cX8_link 30 = .ok (.aload_n 0, 1) := by decide +kernel
theorem dX8_link_31 : decode cX8_link 31 = .ok (.getfield 26, 3) := by decide +kernel
theorem dX8_link_34 : decode cX8_link 34 = .ok (.iload_n 1, 1) := by decide +kernel
theorem dX8_link_35 : decode cX8_link 35 = .ok (.iaload, 1) := by decide +kernel
theorem dX8_link_36 : decode cX8_link 36 = .ok (.invokevirtual 125, 3) := by decide +kernel
theorem dX8_link_39 : decode cX8_link 39 = .ok (.goto 4, 3) := by decide +kernel
theorem dX8_link_42 : decode cX8_link 42 = .ok (.iconst (-1), 1) := by decide +kernel
theorem dX8_link_43 : decode cX8_link 43 = .ok (.ireturn, 1) := by decide +kernel
set_option maxRecDepth 20000 in
theorem ggX8_move_X8_isFile : GoodIn wsX8_move wsX8_isFile := goodIn_r _ [7, 8, 9, 1, 10, 11, 12, 6, 13, 26, 27, 28, 29, 30, 31, 32, 33, 34, 35, 36, 37, 38, 39, 40, 41, 42, 43, 44, 45, 46, 47, 48, 49, 50, 51, 52, 53, 54, 55, 56, 57, 58, 59] (by decide +kernel) (by decide +kernel)
set_option maxRecDepth 20000 in
theorem gX8_move_X8_isFile : GoodIn wsX8_move (wsV RX8 128 RX8 yX8_isFile wsX8_isFile) := goodIn_app (goodIn_of _ (by decide +kernel)) ggX8_move_X8_isFile
set_option maxRecDepth 20000 in
theorem ggX8_move_X8_isFolder : GoodIn wsX8_move wsX8_isFolder := goodIn_r _ [17, 18, 10, 11, 12, 6, 13, 8, 26, 27, 28, 29, 30, 31, 32, 33, 34, 35, 36, 37, 38, 39, 40, 41, 42, 43, 44, 45, 46, 47, 48, 49, 50, 51, 52, 53, 54, 55, 56, 57, 58, 59] (by decide +kernel) (by decide +kernel)
set_option maxRecDepth 20000 in
theorem gX8_move_X8_isFolder : GoodIn wsX8_move (wsV RX8 97 RX8 yX8_isFolder wsX8_isFolder) := goodIn_app (goodIn_of _ (by decide +kernel)) ggX8_move_X8_isFolder
set_option maxRecDepth 20000 in
theorem ggX8_move_X8_isName : GoodIn wsX8_move wsX8_isName := goodIn_r _ [21] (by decide +kernel) (by decide +kernel)
set_option maxRecDepth 20000 in
theorem gX8_move_X8_isName : GoodIn wsX8_move (va_wsS RX8 101 yX8_isName wsX8_isName) := goodIn_app (goodIn_of _ (by decide +kernel)) ggX8_move_X8_isName
set_option maxRecDepth 20000 in
theorem ggX8_move_X8_named : GoodIn wsX8_move wsX8_named := goodIn_r _ [25, 9, 1, 2, 26, 27, 28, 29, 30, 31, 32, 33, 34, 35, 36, 37, 38, 39, 40, 41, 42, 43, 44, 45, 46, 47, 48, 49, 50, 51, 52, 53, 54, 55, 56, 57, 58, 59] (by decide +kernel) (by decide +kernel)
set_option maxRecDepth 20000 in
theorem gX8_move_X8_named : GoodIn wsX8_move (wsV RX8 111 RX8 yX8_named wsX8_named) := goodIn_app (goodIn_of _ (by decide +kernel)) ggX8_move_X8_named
theorem dX8_move_0 : decode cX8_move 0 = .ok (.aload_n 0, 1) := by decide +kernel
theorem dX8_move_1 : decode cX8_move 1 = .ok (.iload_n 1, 1) := by decide +kernel
theorem dX8_move_2 : decode cX8_move 2 = .ok (.invokevirtual 128, 3) := by decide +kernel
theorem dX8_move_5 : decode cX8_move 5 = .ok (.ifCond .eq 11, 3) := by decide +kernel
theorem dX8_move_8 : decode cX8_move 8 = .ok (.aload_n 0, 1) := by decide +kernel
theorem dX8_move_9 : decode cX8_move 9 = .ok (.iload_n 2, 1) := by decide +kernel
theorem dX8_move_10 : decode cX8_move 10 = .ok (.invokevirtual 97, 3) := by decide +kernel
theorem dX8_move_13 : decode cX8_move 13 = .ok (.ifCond .ne 5, 3) := by decide +kernel
theorem dX8_move_16 : decode cX8_move 16 = .ok (.iconst 0, 1) := by decide +kernel
theorem dX8_move_17 : decode cX8_move 17 = .ok (.ireturn, 1) := by decide +kernel
theorem dX8_move_18 : decode cX8_move 18 = .ok (.iload_n 3, 1) := by decide +kernel
theorem dX8_move_19 : decode cX8_move 19 = .ok (.invokestatic 101, 3) := by decide +kernel
theorem dX8_move_22 : decode cX8_move 22 = .ok (.ifCond .eq 13, 3) := by decide +kernel
theorem dX8_move_25 : decode cX8_move 25 = .ok (.aload_n 0, 1) := by decide +kernel
theorem dX8_move_26 : decode cX8_move 26 = .ok (.iload_n 2, 1) := by decide +kernel
theorem dX8_move_27 : decode cX8_move 27 = .ok (.iload_n 3, 1) := by decide +kernel
theorem dX8_move_28 : decode cX8_move 28 = .ok (.invokevirtual 111, 3) := by decide +kernel
theorem dX8_move_31 : decode cX8_move 31 = .ok (.iconst (-1), 1) := by decide +kernel
theorem dX8_move_32 : decode cX8_move 32 = .ok (.if_icmp .eq 5, 3) := by decide +kernel
theorem dX8_move_35 : decode cX8_move 35 = .ok (.iconst 0, 1) := by decide +kernel
theorem dX8_move_36 : decode cX8_move 36 = .ok (.ireturn, 1) := by decide +kernel
theorem dX8_move_37 : decode cX8_move 37 = .ok (.aload_n 0, 1) := by decide +kernel
theorem dX8_move_38 : decode cX8_move 38 = .ok (.getfield 20, 3) := by decide +kernel
theorem dX8_move_41 : decode cX8_move 41 = .ok (.iload_n 1, 1) := by decide +kernel
theorem dX8_move_42 : decode cX8_move 42 = .ok (.iload_n 2, 1) := by decide +kernel
theorem dX8_move_43 : decode cX8_move 43 = .ok (.iastore, 1) := by decide +kernel
theorem dX8_move_44 : decode cX8_move 44 = .ok (.aload_n 0, 1) := by decide +kernel
theorem dX8_move_45 : decode cX8_move 45 = .ok (.getfield 23, 3) := by decide +kernel
theorem dX8_move_48 : decode cX8_move 48 = .ok (.iload_n 1, 1) := by decide +kernel
theorem dX8_move_49 : decode cX8_move 49 = .ok (.iload_n 3, 1) := by decide +kernel
theorem dX8_move_50 : decode cX8_move 50 = .ok (.iastore, 1) := by decide +kernel
theorem dX8_move_51 : decode cX8_move 51 = .ok (.iconst 1, 1) := by decide +kernel
theorem dX8_move_52 : decode cX8_move 52 = .ok (.ireturn, 1) := by decide +kernel
theorem dX8_names_0 : decode cX8_names 0 = .ok (.iconst 0, 1) := by decide +kernel
theorem dX8_names_1 : decode cX8_names 1 = .ok (.istore_n 2, 1) := by decide +kernel
theorem dX8_names_2 : decode cX8_names 2 = .ok (.iconst 0, 1) := by decide +kernel
theorem dX8_names_3 : decode cX8_names 3 = .ok (.istore_n 3, 1) := by decide +kernel
theorem dX8_names_4 : decode cX8_names 4 = .ok (.iload_n 3, 1) := by decide +kernel
theorem dX8_names_5 : decode cX8_names 5 = .ok (.aload_n 0, 1) := by decide +kernel
theorem dX8_names_6 : decode cX8_names 6 = .ok (.getfield 94, 3) := by decide +kernel
theorem dX8_names_9 : decode cX8_names 9 = .ok (.if_icmp .ge 32, 3) := by decide +kernel
theorem dX8_names_12 : decode cX8_names 12 = .ok (.aload_n 0, 1) := by decide +kernel
theorem dX8_names_13 : decode cX8_names 13 = .ok (.getfield 20, 3) := by decide +kernel
theorem dX8_names_16 : decode cX8_names 16 = .ok (.iload_n 3, 1) := by decide +kernel
theorem dX8_names_17 : decode cX8_names 17 = .ok (.iaload, 1) := by decide +kernel
theorem dX8_names_18 : decode cX8_names 18 = .ok (.iconst (-1), 1) := by decide +kernel
theorem dX8_names_19 : decode cX8_names 19 = .ok (.if_icmp .eq 16, 3) := by decide +kernel
theorem dX8_names_22 : decode cX8_names 22 = .ok (.aload_n 0, 1) := by decide +kernel
theorem dX8_names_23 : decode cX8_names 23 = .ok (.getfield 26, 3) := by decide +kernel
theorem dX8_names_26 : decode cX8_names 26 = .ok (.iload_n 3, 1) := by decide +kernel
theorem dX8_names_27 : decode cX8_names 27 = .ok (.iaload, 1) := by decide +kernel
theorem dX8_names_28 : decode cX8_names 28 = .ok (.iload_n 1, 1) := by decide +kernel
theorem dX8_names_29 : decode cX8_names 29 = .ok (.if_icmp .ne 6, 3) := by decide +kernel
theorem dX8_names_32 : decode cX8_names 32 = .ok (.iinc 2 1, 3) := by decide +kernel
theorem dX8_names_35 : decode cX8_names 35 = .ok (.iinc 3 1, 3) := by decide +kernel
theorem dX8_names_38 : decode cX8_names 38 = .ok (.goto (-34), 3) := by decide +kernel
theorem dX8_names_41 : decode cX8_names 41 = .ok (.iload_n 2, 1) := by decide +kernel
theorem dX8_names_42 : decode cX8_names 42 = .ok (.ireturn, 1) := by decide +kernel
set_option maxRecDepth 20000 in
theorem ggX8_leaves_X8_names : GoodIn wsX8_leaves wsX8_names := goodIn_r _ [6, 7, 8, 9, 10, 11, 12, 13, 14, 15, 16, 17, 18, 19, 20, 21, 22, 23, 24, 25, 26, 27, 28, 29, 30, 31, 32, 33, 34, 35, 36, 37, 38, 39, 40, 41, 42, 43] (by decide +kernel) (by decide +kernel)
set_option maxRecDepth 20000 in
theorem gX8_leaves_X8_names : GoodIn wsX8_leaves (wsV RX8 135 RX8 yX8_names wsX8_names) := goodIn_app (goodIn_of _ (by decide +kernel)) ggX8_leaves_X8_names
theorem dX8_leaves_0 : decode cX8_leaves 0 = .ok (.aload_n 0, 1) := by decide +kernel
theorem dX8_leaves_1 : decode cX8_leaves 1 = .ok (.iload_n 1, 1) := by decide +kernel
theorem dX8_leaves_2 : decode cX8_leaves 2 = .ok (.invokevirtual 135, 3) := by decide +kernel
theorem dX8_leaves_5 : decode cX8_leaves 5 = .ok (.ifCond .ne 10, 3) := by decide +kernel
theorem dX8_leaves_8 : decode cX8_leaves 8 = .ok (.aload_n 0, 1) := by decide +kernel
theorem dX8_leaves_9 : decode cX8_leaves 9 = .ok (.getfield 42, 3) := by decide +kernel
theorem dX8_leaves_12 : decode cX8_leaves 12 = .ok (.iload_n 1, 1) := by decide +kernel
theorem dX8_leaves_13 : decode cX8_leaves 13 = .ok (.iconst (-1), 1) := by decide +kernel
theorem dX8_leaves_14 : decode cX8_leaves 14 = .ok (.iastore, 1) := by decide +kernel
theorem dX8_leaves_15 : decode cX8_leaves 15 = .ok (.return_, 1) := by decide +kernel
set_option maxRecDepth 20000 in
theorem ggX8_remove_X8_isFile : GoodIn wsX8_remove wsX8_isFile := goodIn_r _ [8, 9, 10, 2, 11, 12, 13, 7, 14, 24, 25, 26, 27, 28, 29, 30, 31, 32, 33, 34, 35, 36, 37, 38, 39, 40, 41, 42, 43, 44, 45, 46, 47, 48, 49, 50, 51, 52, 53, 54, 55, 56, 57] (by decide +kernel) (by decide +kernel)
set_option maxRecDepth 20000 in
theorem gX8_remove_X8_isFile : GoodIn wsX8_remove (wsV RX8 128 RX8 yX8_isFile wsX8_isFile) := goodIn_app (goodIn_of _ (by decide +kernel)) ggX8_remove_X8_isFile
set_option maxRecDepth 20000 in
theorem ggX8_remove_X8_leaves : GoodIn wsX8_remove wsX8_leaves := goodIn_r _ [18, 19, 20, 21, 22, 7, 23, 10, 2, 3, 24, 25, 26, 27, 28, 29, 30, 31, 32, 33, 34, 35, 36, 37, 38, 39, 40, 41, 42, 43, 44, 45, 46, 47, 48, 49, 50, 51, 52, 53, 54, 55, 56, 57] (by decide +kernel) (by decide +kernel)
set_option maxRecDepth 20000 in
theorem gX8_remove_X8_leaves : GoodIn wsX8_remove (wsV RX8 139 RX8 yX8_leaves wsX8_leaves) := goodIn_app (goodIn_of _ (by decide +kernel)) ggX8_remove_X8_leaves
set_option maxRecDepth 20000 in
theorem ggX8_remove_X8_names : GoodIn wsX8_remove wsX8_names := goodIn_r _ [23, 10, 2, 3, 24, 25, 26, 27, 28, 29, 30, 31, 32, 33, 34, 35, 36, 37, 38, 39, 40, 41, 42, 43, 44, 45, 46, 47, 48, 49, 50, 51, 52, 53, 54, 55, 56, 57] (by decide +kernel) (by decide +kernel)
set_option maxRecDepth 20000 in
theorem gX8_remove_X8_names : GoodIn wsX8_remove (wsV RX8 135 RX8 yX8_names wsX8_names) := goodIn_app (goodIn_of _ (by decide +kernel)) ggX8_remove_X8_names
theorem dX8_remove_0 : decode cX8_remove 0 = .ok (.aload_n 0, 1) := by decide +kernel
theorem dX8_remove_1 : decode cX8_remove 1 = .ok (.iload_n 1, 1) := by decide +kernel
theorem dX8_remove_2 : decode cX8_remove 2 = .ok (.invokevirtual 128, 3) := by decide +kernel
theorem dX8_remove_5 : decode cX8_remove 5 = .ok (.ifCond .ne 5, 3) := by decide +kernel
theorem dX8_remove_8 : decode cX8_remove 8 = .ok (.iconst 0, 1) := by decide +kernel
theorem dX8_remove_9 : decode cX8_remove 9 = .ok (.ireturn, 1) := by decide +kernel
theorem dX8_remove_10 : decode cX8_remove 10 = .ok (.aload_n 0, 1) := by decide +kernel
theorem dX8_remove_11 : decode cX8_remove 11 = .ok (.getfield 29, 3) := by decide +kernel
theorem dX8_remove_14 : decode cX8_remove 14 = .ok (.iload_n 1, 1) := by decide +kernel
theorem dX8_remove_15 : decode cX8_remove 15 = .ok (.baload, 1) := by decide +kernel
theorem dX8_remove_16 : decode cX8_remove 16 = .ok (.ifCond .eq 5, 3) := by decide +kernel
theorem dX8_remove_19 : decode cX8_remove 19 = .ok (.iconst (-1), 1) := by decide +kernel
theorem dX8_remove_20 : decode cX8_remove 20 = .ok (.ireturn, 1) := by decide +kernel
theorem dX8_remove_21 : decode cX8_remove 21 = .ok (.aload_n 0, 1) := by decide +kernel
theorem dX8_remove_22 : decode cX8_remove 22 = .ok (.getfield 20, 3) := by decide +kernel
theorem dX8_remove_25 : decode cX8_remove 25 = .ok (.iload_n 1, 1) := by decide +kernel
theorem dX8_remove_26 : decode cX8_remove 26 = .ok (.iconst (-1), 1) := by decide +kernel
theorem dX8_remove_27 : decode cX8_remove 27 = .ok (.iastore, 1) := by decide +kernel
theorem dX8_remove_28 : decode cX8_remove 28 = .ok (.aload_n 0, 1) := by decide +kernel
theorem dX8_remove_29 : decode cX8_remove 29 = .ok (.aload_n 0, 1) := by decide +kernel
theorem dX8_remove_30 : decode cX8_remove 30 = .ok (.getfield 26, 3) := by decide +kernel
theorem dX8_remove_33 : decode cX8_remove 33 = .ok (.iload_n 1, 1) := by decide +kernel
theorem dX8_remove_34 : decode cX8_remove 34 = .ok (.iaload, 1) := by decide +kernel
theorem dX8_remove_35 : decode cX8_remove 35 = .ok (.invokevirtual 139, 3) := by decide +kernel
theorem dX8_remove_38 : decode cX8_remove 38 = .ok (.aload_n 0, 1) := by decide +kernel
theorem dX8_remove_39 : decode cX8_remove 39 = .ok (.aload_n 0, 1) := by decide +kernel
theorem dX8_remove_40 : decode cX8_remove 40 = .ok (.getfield 26, 3) := by decide +kernel
theorem dX8_remove_43 : decode cX8_remove 43 = .ok (.iload_n 1, 1) := by decide +kernel
theorem dX8_remove_44 : decode cX8_remove 44 = .ok (.iaload, 1) := by decide +kernel
theorem dX8_remove_45 : decode cX8_remove 45 = .ok (.invokevirtual 135, 3) := by decide +kernel
theorem dX8_remove_48 : decode cX8_remove 48 = .ok (.ireturn, 1) := by decide +kernel
set_option maxRecDepth 20000 in
theorem ggX8_hold_X8_isFile : GoodIn wsX8_hold wsX8_isFile := goodIn_r _ [6, 7, 8, 9, 10, 11, 12, 5, 13, 14, 15, 16, 17, 18, 19, 20, 21, 22, 23, 24, 25, 26, 27, 28, 29, 30, 31, 32, 33, 34, 35, 36, 37, 38, 39, 40, 41, 42, 43, 44, 45, 46, 47] (by decide +kernel) (by decide +kernel)
set_option maxRecDepth 20000 in
theorem gX8_hold_X8_isFile : GoodIn wsX8_hold (wsV RX8 128 RX8 yX8_isFile wsX8_isFile) := goodIn_app (goodIn_of _ (by decide +kernel)) ggX8_hold_X8_isFile
theorem dX8_hold_0 : decode cX8_hold 0 = .ok (.aload_n 0, 1) := by decide +kernel
theorem dX8_hold_1 : decode cX8_hold 1 = .ok (.iload_n 1, 1) := by decide +kernel
theorem dX8_hold_2 : decode cX8_hold 2 = .ok (.invokevirtual 128, 3) := by decide +kernel
theorem dX8_hold_5 : decode cX8_hold 5 = .ok (.ifCond .ne 5, 3) := by decide +kernel
theorem dX8_hold_8 : decode cX8_hold 8 = .ok (.iconst 0, 1) := by decide +kernel
theorem dX8_hold_9 : decode cX8_hold 9 = .ok (.ireturn, 1) := by decide +kernel
theorem dX8_hold_10 : decode cX8_hold 10 = .ok (.aload_n 0, 1) := by decide +kernel
theorem dX8_hold_11 : decode cX8_hold 11 = .ok (.getfield 29, 3) := by decide +kernel
theorem dX8_hold_14 : decode cX8_hold 14 = .ok (.iload_n 1, 1) := by decide +kernel
theorem dX8_hold_15 : decode cX8_hold 15 = .ok (.baload, 1) := by decide +kernel
theorem dX8_hold_16 : decode cX8_hold 16 = .ok (.istore_n 3, 1) := by decide +kernel
theorem dX8_hold_17 : decode cX8_hold 17 = .ok (.aload_n 0, 1) := by decide +kernel
theorem dX8_hold_18 : decode cX8_hold 18 = .ok (.getfield 29, 3) := by decide +kernel
theorem dX8_hold_21 : decode cX8_hold 21 = .ok (.iload_n 1, 1) := by decide +kernel
theorem dX8_hold_22 : decode cX8_hold 22 = .ok (.iload_n 2, 1) := by decide +kernel
theorem dX8_hold_23 : decode cX8_hold 23 = .ok (.bastore, 1) := by decide +kernel
theorem dX8_hold_24 : decode cX8_hold 24 = .ok (.iload_n 3, 1) := by decide +kernel
theorem dX8_hold_25 : decode cX8_hold 25 = .ok (.ireturn, 1) := by decide +kernel
set_option maxRecDepth 20000 in
theorem ggX8_others_X8_names : GoodIn wsX8_others wsX8_names := goodIn_r _ [6, 7, 8, 1, 9, 10, 11, 12, 13, 14, 15, 16, 17, 18, 19, 20, 21, 22, 23, 24, 25, 26, 27, 28, 29, 30, 31, 32, 33, 34, 35, 36, 37, 38, 39, 40, 41, 42] (by decide +kernel) (by decide +kernel)
set_option maxRecDepth 20000 in
theorem gX8_others_X8_names : GoodIn wsX8_others (wsV RX8 135 RX8 yX8_names wsX8_names) := goodIn_app (goodIn_of _ (by decide +kernel)) ggX8_others_X8_names
theorem dX8_others_0 : decode cX8_others 0 = .ok (.aload_n 0, 1) := by decide +kernel
theorem dX8_others_1 : decode cX8_others 1 = .ok (.aload_n 0, 1) := by decide +kernel
theorem dX8_others_2 : decode cX8_others 2 = .ok (.getfield 26, 3) := by decide +kernel
theorem dX8_others_5 : decode cX8_others 5 = .ok (.iload_n 1, 1) := by decide +kernel
theorem dX8_others_6 : decode cX8_others 6 = .ok (.iaload, 1) := by decide +kernel
theorem dX8_others_7 : decode cX8_others 7 = .ok (.invokevirtual 135, 3) := by decide +kernel
theorem dX8_others_10 : decode cX8_others 10 = .ok (.iconst 1, 1) := by decide +kernel
theorem dX8_others_11 : decode cX8_others 11 = .ok (.isub, 1) := by decide +kernel
theorem dX8_others_12 : decode cX8_others 12 = .ok (.ireturn, 1) := by decide +kernel
theorem dX8_isWritten_0 : decode cX8_isWritten 0 = .ok (.aload_n 0, 1) := by decide +kernel
theorem dX8_isWritten_1 : decode cX8_isWritten 1 = .ok (.getfield 39, 3) := by decide +kernel
theorem dX8_isWritten_4 : decode cX8_isWritten 4 = .ok (.iload_n 1, 1) := by decide +kernel
theorem dX8_isWritten_5 : decode cX8_isWritten 5 = .ok (.aload_n 0, 1) := by decide +kernel
theorem dX8_isWritten_6 : decode cX8_isWritten 6 = .ok (.getfield 118, 3) := by decide +kernel
theorem dX8_isWritten_9 : decode cX8_isWritten 9 = .ok (.iastore, 1) := by decide +kernel
theorem dX8_isWritten_10 : decode cX8_isWritten 10 = .ok (.aload_n 0, 1) := by decide +kernel
theorem dX8_isWritten_11 : decode cX8_isWritten 11 = .ok (.getfield 42, 3) := by decide +kernel
theorem dX8_isWritten_14 : decode cX8_isWritten 14 = .ok (.iload_n 1, 1) := by decide +kernel
theorem dX8_isWritten_15 : decode cX8_isWritten 15 = .ok (.iconst (-1), 1) := by decide +kernel
theorem dX8_isWritten_16 : decode cX8_isWritten 16 = .ok (.iastore, 1) := by decide +kernel
theorem dX8_isWritten_17 : decode cX8_isWritten 17 = .ok (.return_, 1) := by decide +kernel
set_option maxRecDepth 20000 in
theorem ggX8_write_X8_isFile : GoodIn wsX8_write wsX8_isFile := goodIn_r _ [8, 9, 10, 11, 12, 13, 14, 7, 15, 31, 32, 33, 34, 35, 36, 37, 38, 39, 40, 41, 42, 43, 44, 45, 46, 47, 48, 49, 50, 51, 52, 53, 54, 55, 56, 57, 58, 59, 60, 61, 62, 63, 64] (by decide +kernel) (by decide +kernel)
set_option maxRecDepth 20000 in
theorem gX8_write_X8_isFile : GoodIn wsX8_write (wsV RX8 128 RX8 yX8_isFile wsX8_isFile) := goodIn_app (goodIn_of _ (by decide +kernel)) ggX8_write_X8_isFile
set_option maxRecDepth 20000 in
theorem ggX8_write_X8_right : GoodIn wsX8_write wsX8_right := goodIn_r _ [15, 9, 31, 32, 33, 34, 35, 36, 37, 38, 39, 40, 41, 42, 43, 44, 45, 46, 47, 48, 49, 50, 51, 52, 53, 54, 55, 56, 57, 58, 59, 60, 61, 62, 63, 64] (by decide +kernel) (by decide +kernel)
set_option maxRecDepth 20000 in
theorem gX8_write_X8_right : GoodIn wsX8_write (wsV RX8 90 RX8 yX8_right wsX8_right) := goodIn_app (goodIn_of _ (by decide +kernel)) ggX8_write_X8_right
set_option maxRecDepth 20000 in
theorem ggX8_write_X8_isWritten : GoodIn wsX8_write wsX8_isWritten := goodIn_r _ [19, 20, 21, 22, 31, 32, 33, 34, 35, 36, 37, 38, 39, 40, 41, 42, 43, 44, 45, 46, 47, 48, 49, 50, 51, 52, 53, 54, 55, 56, 57, 58, 59, 60, 61, 62, 63, 64] (by decide +kernel) (by decide +kernel)
set_option maxRecDepth 20000 in
theorem gX8_write_X8_isWritten : GoodIn wsX8_write (wsV RX8 143 RX8 yX8_isWritten wsX8_isWritten) := goodIn_app (goodIn_of _ (by decide +kernel)) ggX8_write_X8_isWritten
set_option maxRecDepth 20000 in
theorem ggX8_write_X8_others : GoodIn wsX8_write wsX8_others := goodIn_r _ [26, 2, 27, 28, 29, 7, 30, 10, 11, 31, 32, 33, 34, 35, 36, 37, 38, 39, 40, 41, 42, 43, 44, 45, 46, 47, 48, 49, 50, 51, 52, 53, 54, 55, 56, 57, 58, 59, 60, 61, 62, 63, 64] (by decide +kernel) (by decide +kernel)
set_option maxRecDepth 20000 in
theorem gX8_write_X8_others : GoodIn wsX8_write (wsV RX8 146 RX8 yX8_others wsX8_others) := goodIn_app (goodIn_of _ (by decide +kernel)) ggX8_write_X8_others
theorem dX8_write_0 : decode cX8_write 0 = .ok (.aload_n 0, 1) := by decide +kernel
theorem dX8_write_1 : decode cX8_write 1 = .ok (.iload_n 1, 1) := by decide +kernel
theorem dX8_write_2 : decode cX8_write 2 = .ok (.invokevirtual 128, 3) := by decide +kernel
theorem dX8_write_5 : decode cX8_write 5 = .ok (.ifCond .eq 37, 3) := by decide +kernel
theorem dX8_write_8 : decode cX8_write 8 = .ok (.aload_n 0, 1) := by decide +kernel
theorem dX8_write_9 : decode cX8_write 9 = .ok (.iload_n 2, 1) := by decide +kernel
theorem dX8_write_10 : decode cX8_write 10 = .ok (.ifCond .lt 24, 3) := by decide +kernel
theorem dX8_write_13 : decode cX8_write 13 = .ok (.iload_n 2, 1) := by decide +kernel
theorem dX8_write_14 : decode cX8_write 14 = .ok (.aload_n 0, 1) := by decide +kernel
theorem dX8_write_15 : decode cX8_write 15 = .ok (.getfield 33, 3) := by decide +kernel
theorem dX8_write_18 : decode cX8_write 18 = .ok (.aload_n 0, 1) := by decide +kernel
theorem dX8_write_19 : decode cX8_write 19 = .ok (.getfield 26, 3) := by decide +kernel
theorem dX8_write_22 : decode cX8_write 22 = .ok (.iload_n 1, 1) := by decide +kernel
theorem dX8_write_23 : decode cX8_write 23 = .ok (.iaload, 1) := by decide +kernel
theorem dX8_write_24 : decode cX8_write 24 = .ok (.iaload, 1) := by decide +kernel
theorem dX8_write_25 : decode cX8_write 25 = .ok (.iconst 4, 1) := by decide +kernel
theorem dX8_write_26 : decode cX8_write 26 = .ok (.isub, 1) := by decide +kernel
theorem dX8_write_27 : decode cX8_write 27 = .ok (.if_icmp .gt 7, 3) := by decide +kernel
theorem dX8_write_30 : decode cX8_write 30 = .ok (.iconst 1, 1) := by decide +kernel
theorem dX8_write_31 : decode cX8_write 31 = .ok (.goto 4, 3) := by decide +kernel
theorem dX8_write_34 : decode cX8_write 34 = .ok (.iconst 0, 1) := by decide +kernel
theorem dX8_write_35 : decode cX8_write 35 = .ok (.iconst 2, 1) := by decide +kernel
theorem dX8_write_36 : decode cX8_write 36 = .ok (.invokevirtual 90, 3) := by decide +kernel
theorem dX8_write_39 : decode cX8_write 39 = .ok (.ifCond .ne 5, 3) := by decide +kernel
theorem dX8_write_42 : decode cX8_write 42 = .ok (.iconst 0, 1) := by decide +kernel
theorem dX8_write_43 : decode cX8_write 43 = .ok (.ireturn, 1) := by decide +kernel
theorem dX8_write_44 : decode cX8_write 44 = .ok (.aload_n 0, 1) := by decide +kernel
theorem dX8_write_45 : decode cX8_write 45 = .ok (.getfield 26, 3) := by decide +kernel
theorem dX8_write_48 : decode cX8_write 48 = .ok (.iload_n 1, 1) := by decide +kernel
theorem dX8_write_49 : decode cX8_write 49 = .ok (.iaload, 1) := by decide +kernel
theorem dX8_write_50 : decode cX8_write 50 = .ok (.istore 4, 2) := by decide +kernel
theorem dX8_write_52 : decode cX8_write 52 = .ok (.iconst 0, 1) := by decide +kernel
theorem dX8_write_53 : decode cX8_write 53 = .ok (.istore 5, 2) := by decide +kernel
theorem dX8_write_55 : decode cX8_write 55 = .ok (.iload 5, 2) := by decide +kernel
theorem dX8_write_57 : decode cX8_write 57 = .ok (.iconst 4, 1) := by decide +kernel
theorem dX8_write_58 : decode cX8_write 58 = .ok (.if_icmp .ge 38, 3) := by decide +kernel
theorem dX8_write_61 : decode cX8_write 61 = .ok (.aload_n 0, 1) := by decide +kernel
theorem dX8_write_62 : decode cX8_write 62 = .ok (.getfield 45, 3) := by decide +kernel
theorem dX8_write_65 : decode cX8_write 65 = .ok (.bipush 64, 2) := by decide +kernel
theorem dX8_write_67 : decode cX8_write 67 = .ok (.iload 4, 2) := by decide +kernel
theorem dX8_write_69 : decode cX8_write 69 = .ok (.imul, 1) := by decide +kernel
theorem dX8_write_70 : decode cX8_write 70 = .ok (.iload_n 2, 1) := by decide +kernel
theorem dX8_write_71 : decode cX8_write 71 = .ok (.iadd, 1) := by decide +kernel
theorem dX8_write_72 : decode cX8_write 72 = .ok (.iload 5, 2) := by decide +kernel
theorem dX8_write_74 : decode cX8_write 74 = .ok (.iadd, 1) := by decide +kernel
theorem dX8_write_75 : decode cX8_write 75 = .ok (.iload_n 3, 1) := by decide +kernel
theorem dX8_write_76 : decode cX8_write 76 = .ok (.bipush 24, 2) := by decide +kernel
theorem dX8_write_78 : decode cX8_write 78 = .ok (.bipush 8, 2) := by decide +kernel
theorem dX8_write_80 : decode cX8_write 80 = .ok (.iload 5, 2) := by decide +kernel
theorem dX8_write_82 : decode cX8_write 82 = .ok (.imul, 1) := by decide +kernel
theorem dX8_write_83 : decode cX8_write 83 = .ok (.isub, 1) := by decide +kernel
theorem dX8_write_84 : decode cX8_write 84 = .ok (.ishr, 1) := by decide +kernel
theorem dX8_write_85 : decode cX8_write 85 = .ok (.sipush 255, 3) := by decide +kernel
theorem dX8_write_88 : decode cX8_write 88 = .ok (.iand, 1) := by decide +kernel
theorem dX8_write_89 : decode cX8_write 89 = .ok (.iastore, 1) := by decide +kernel
theorem dX8_write_90 : decode cX8_write 90 = .ok (.iinc 5 1, 3) := by decide +kernel
theorem dX8_write_93 : decode cX8_write 93 = .ok (.goto (-38), 3) := by decide +kernel
theorem dX8_write_96 : decode cX8_write 96 = .ok (.aload_n 0, 1) := by decide +kernel
theorem dX8_write_97 : decode cX8_write 97 = .ok (.iload 4, 2) := by decide +kernel
theorem dX8_write_99 : decode cX8_write 99 = .ok (.invokevirtual 143, 3) := by decide +kernel
theorem dX8_write_102 : decode cX8_write 102 = .ok (.aload_n 0, 1) := by decide +kernel
theorem dX8_write_103 : decode cX8_write 103 = .ok (.iload_n 1, 1) := by decide +kernel
theorem dX8_write_104 : decode cX8_write 104 = .ok (.invokevirtual 146, 3) := by decide +kernel
theorem dX8_write_107 : decode cX8_write 107 = .ok (.ireturn, 1) := by decide +kernel
set_option maxRecDepth 20000 in
theorem ggX8_fill_X8_isFile : GoodIn wsX8_fill wsX8_isFile := goodIn_r _ [8, 9, 10, 11, 12, 13, 14, 7, 15, 31, 32, 33, 34, 35, 36, 37, 38, 39, 40, 41, 42, 43, 44, 45, 46, 47, 48, 49, 50, 51, 52, 53, 54, 55, 56, 57, 58, 59, 60, 61, 62, 63, 64] (by decide +kernel) (by decide +kernel)
set_option maxRecDepth 20000 in
theorem gX8_fill_X8_isFile : GoodIn wsX8_fill (wsV RX8 128 RX8 yX8_isFile wsX8_isFile) := goodIn_app (goodIn_of _ (by decide +kernel)) ggX8_fill_X8_isFile
set_option maxRecDepth 20000 in
theorem ggX8_fill_X8_right : GoodIn wsX8_fill wsX8_right := goodIn_r _ [15, 9, 31, 32, 33, 34, 35, 36, 37, 38, 39, 40, 41, 42, 43, 44, 45, 46, 47, 48, 49, 50, 51, 52, 53, 54, 55, 56, 57, 58, 59, 60, 61, 62, 63, 64] (by decide +kernel) (by decide +kernel)
set_option maxRecDepth 20000 in
theorem gX8_fill_X8_right : GoodIn wsX8_fill (wsV RX8 90 RX8 yX8_right wsX8_right) := goodIn_app (goodIn_of _ (by decide +kernel)) ggX8_fill_X8_right
set_option maxRecDepth 20000 in
theorem ggX8_fill_X8_isWritten : GoodIn wsX8_fill wsX8_isWritten := goodIn_r _ [19, 20, 21, 22, 31, 32, 33, 34, 35, 36, 37, 38, 39, 40, 41, 42, 43, 44, 45, 46, 47, 48, 49, 50, 51, 52, 53, 54, 55, 56, 57, 58, 59, 60, 61, 62, 63, 64] (by decide +kernel) (by decide +kernel)
set_option maxRecDepth 20000 in
theorem gX8_fill_X8_isWritten : GoodIn wsX8_fill (wsV RX8 143 RX8 yX8_isWritten wsX8_isWritten) := goodIn_app (goodIn_of _ (by decide +kernel)) ggX8_fill_X8_isWritten
set_option maxRecDepth 20000 in
theorem ggX8_fill_X8_others : GoodIn wsX8_fill wsX8_others := goodIn_r _ [26, 2, 27, 28, 29, 7, 30, 10, 11, 31, 32, 33, 34, 35, 36, 37, 38, 39, 40, 41, 42, 43, 44, 45, 46, 47, 48, 49, 50, 51, 52, 53, 54, 55, 56, 57, 58, 59, 60, 61, 62, 63, 64] (by decide +kernel) (by decide +kernel)
set_option maxRecDepth 20000 in
theorem gX8_fill_X8_others : GoodIn wsX8_fill (wsV RX8 146 RX8 yX8_others wsX8_others) := goodIn_app (goodIn_of _ (by decide +kernel)) ggX8_fill_X8_others
theorem dX8_fill_0 : decode cX8_fill 0 = .ok (.aload_n 0, 1) := by decide +kernel
theorem dX8_fill_1 : decode cX8_fill 1 = .ok (.iload_n 1, 1) := by decide +kernel
theorem dX8_fill_2 : decode cX8_fill 2 = .ok (.invokevirtual 128, 3) := by decide +kernel
theorem dX8_fill_5 : decode cX8_fill 5 = .ok (.ifCond .eq 40, 3) := by decide +kernel
theorem dX8_fill_8 : decode cX8_fill 8 = .ok (.aload_n 0, 1) := by decide +kernel
theorem dX8_fill_9 : decode cX8_fill 9 = .ok (.iload_n 2, 1) := by decide +kernel
theorem dX8_fill_10 : decode cX8_fill 10 = .ok (.ifCond .lt 27, 3) := by decide +kernel
theorem dX8_fill_13 : decode cX8_fill 13 = .ok (.iload_n 2, 1) := by decide +kernel
theorem dX8_fill_14 : decode cX8_fill 14 = .ok (.iload_n 3, 1) := by decide +kernel
theorem dX8_fill_15 : decode cX8_fill 15 = .ok (.if_icmp .gt 22, 3) := by decide +kernel
theorem dX8_fill_18 : decode cX8_fill 18 = .ok (.iload_n 3, 1) := by decide +kernel
theorem dX8_fill_19 : decode cX8_fill 19 = .ok (.aload_n 0, 1) := by decide +kernel
theorem dX8_fill_20 : decode cX8_fill 20 = .ok (.getfield 33, 3) := by decide +kernel
theorem dX8_fill_23 : decode cX8_fill 23 = .ok (.aload_n 0, 1) := by decide +kernel
theorem dX8_fill_24 : decode cX8_fill 24 = .ok (.getfield 26, 3) := by decide +kernel
theorem dX8_fill_27 : decode cX8_fill 27 = .ok (.iload_n 1, 1) := by decide +kernel
theorem dX8_fill_28 : decode cX8_fill 28 = .ok (.iaload, 1) := by decide +kernel
theorem dX8_fill_29 : decode cX8_fill 29 = .ok (.iaload, 1) := by decide +kernel
theorem dX8_fill_30 : decode cX8_fill 30 = .ok (.if_icmp .gt 7, 3) := by decide +kernel
theorem dX8_fill_33 : decode cX8_fill 33 = .ok (.iconst 1, 1) := by decide +kernel
theorem dX8_fill_34 : decode cX8_fill 34 = .ok (.goto 4, 3) := by decide +kernel
theorem dX8_fill_37 : decode cX8_fill 37 = .ok (.iconst 0, 1) := by decide +kernel
theorem dX8_fill_38 : decode cX8_fill 38 = .ok (.iconst 2, 1) := by decide +kernel
theorem dX8_fill_39 : decode cX8_fill 39 = .ok (.invokevirtual 90, 3) := by decide +kernel
theorem dX8_fill_42 : decode cX8_fill 42 = .ok (.ifCond .ne 5, 3) := by decide +kernel
theorem dX8_fill_45 : decode cX8_fill 45 = .ok (.iconst 0, 1) := by decide +kernel
theorem dX8_fill_46 : decode cX8_fill 46 = .ok (.ireturn, 1) := by decide +kernel
theorem dX8_fill_47 : decode cX8_fill 47 = .ok (.aload_n 0, 1) := by decide +kernel
theorem dX8_fill_48 : decode cX8_fill 48 = .ok (.getfield 26, 3) := by decide +kernel
theorem dX8_fill_51 : decode cX8_fill 51 = .ok (.iload_n 1, 1) := by decide +kernel
theorem dX8_fill_52 : decode cX8_fill 52 = .ok (.iaload, 1) := by decide +kernel
theorem dX8_fill_53 : decode cX8_fill 53 = .ok (.istore 5, 2) := by decide +kernel
theorem dX8_fill_55 : decode cX8_fill 55 = .ok (.iload_n 2, 1) := by decide +kernel
theorem dX8_fill_56 : decode cX8_fill 56 = .ok (.istore 6, 2) := by decide +kernel
theorem dX8_fill_58 : decode cX8_fill 58 = .ok (.iload 6, 2) := by decide +kernel
theorem dX8_fill_60 : decode cX8_fill 60 = .ok (.iload_n 3, 1) := by decide +kernel
theorem dX8_fill_61 : decode cX8_fill 61 = .ok (.if_icmp .ge 28, 3) := by decide +kernel
theorem dX8_fill_64 : decode cX8_fill 64 = .ok (.aload_n 0, 1) := by decide +kernel
theorem dX8_fill_65 : decode cX8_fill 65 = .ok (.getfield 45, 3) := by decide +kernel
theorem dX8_fill_68 : decode cX8_fill 68 = .ok (.bipush 64, 2) := by decide +kernel
theorem dX8_fill_70 : decode cX8_fill 70 = .ok (.iload 5, 2) := by decide +kernel
theorem dX8_fill_72 : decode cX8_fill 72 = .ok (.imul, 1) := by decide +kernel
theorem dX8_fill_73 : decode cX8_fill 73 = .ok (.iload 6, 2) := by decide +kernel
theorem dX8_fill_75 : decode cX8_fill 75 = .ok (.iadd, 1) := by decide +kernel
theorem dX8_fill_76 : decode cX8_fill 76 = .ok (.iload 4, 2) := by decide +kernel
theorem dX8_fill_78 : decode cX8_fill 78 = .ok (.sipush 255, 3) := by decide +kernel
theorem dX8_fill_81 : decode cX8_fill 81 = .ok (.iand, 1) := by decide +kernel
theorem dX8_fill_82 : decode cX8_fill 82 = .ok (.iastore, 1) := by decide +kernel
theorem dX8_fill_83 : decode cX8_fill 83 = .ok (.iinc 6 1, 3) := by decide +kernel
theorem dX8_fill_86 : decode cX8_fill 86 = .ok (.goto (-28), 3) := by decide +kernel
theorem dX8_fill_89 : decode cX8_fill 89 = .ok (.iload_n 2, 1) := by decide +kernel
theorem dX8_fill_90 : decode cX8_fill 90 = .ok (.iload_n 3, 1) := by decide +kernel
theorem dX8_fill_91 : decode cX8_fill 91 = .ok (.if_icmp .ge 9, 3) := by decide +kernel
theorem dX8_fill_94 : decode cX8_fill 94 = .ok (.aload_n 0, 1) := by decide +kernel
theorem dX8_fill_95 : decode cX8_fill 95 = .ok (.iload 5, 2) := by decide +kernel
theorem dX8_fill_97 : decode cX8_fill 97 = .ok (.invokevirtual 143, 3) := by decide +kernel
theorem dX8_fill_100 : decode cX8_fill 100 = .ok (.aload_n 0, 1) := by decide +kernel
theorem dX8_fill_101 : decode cX8_fill 101 = .ok (.iload_n 1, 1) := by decide +kernel
theorem dX8_fill_102 : decode cX8_fill 102 = .ok (.invokevirtual 146, 3) := by decide +kernel
theorem dX8_fill_105 : decode cX8_fill 105 = .ok (.ireturn, 1) := by decide +kernel
set_option maxRecDepth 20000 in
theorem ggX8_at_X8_isFile : GoodIn wsX8_at wsX8_isFile := goodIn_r _ [8, 9, 10, 11, 12, 13, 14, 7, 15, 16, 17, 18, 19, 20, 21, 22, 23, 24, 25, 26, 27, 28, 29, 30, 31, 32, 33, 34, 35, 36, 37, 38, 39, 40, 41, 42, 43, 44, 45, 46, 47, 48, 49] (by decide +kernel) (by decide +kernel)
set_option maxRecDepth 20000 in
theorem gX8_at_X8_isFile : GoodIn wsX8_at (wsV RX8 128 RX8 yX8_isFile wsX8_isFile) := goodIn_app (goodIn_of _ (by decide +kernel)) ggX8_at_X8_isFile
set_option maxRecDepth 20000 in
theorem ggX8_at_X8_right : GoodIn wsX8_at wsX8_right := goodIn_r _ [15, 9, 16, 17, 18, 19, 20, 21, 22, 23, 24, 25, 26, 27, 28, 29, 30, 31, 32, 33, 34, 35, 36, 37, 38, 39, 40, 41, 42, 43, 44, 45, 46, 47, 48, 49] (by decide +kernel) (by decide +kernel)
set_option maxRecDepth 20000 in
theorem gX8_at_X8_right : GoodIn wsX8_at (wsV RX8 90 RX8 yX8_right wsX8_right) := goodIn_app (goodIn_of _ (by decide +kernel)) ggX8_at_X8_right
theorem dX8_at_0 : decode cX8_at 0 = .ok (.aload_n 0, 1) := by decide +kernel
theorem dX8_at_1 : decode cX8_at 1 = .ok (.iload_n 1, 1) := by decide +kernel
theorem dX8_at_2 : decode cX8_at 2 = .ok (.invokevirtual 128, 3) := by decide +kernel
theorem dX8_at_5 : decode cX8_at 5 = .ok (.ifCond .eq 54, 3) := by decide +kernel
theorem dX8_at_8 : decode cX8_at 8 = .ok (.aload_n 0, 1) := by decide +kernel
theorem dX8_at_9 : decode cX8_at 9 = .ok (.iload_n 2, 1) := by decide +kernel
theorem dX8_at_10 : decode cX8_at 10 = .ok (.ifCond .lt 22, 3) := by decide +kernel
theorem dX8_at_13 : decode cX8_at 13 = .ok (.iload_n 2, 1) := by decide +kernel
theorem dX8_at_14 : decode cX8_at 14 = .ok (.aload_n 0, 1) := by decide +kernel
theorem dX8_at_15 : decode cX8_at 15 = .ok (.getfield 33, 3) := by decide +kernel
theorem dX8_at_18 : decode cX8_at 18 = .ok (.aload_n 0, 1) := by decide +kernel
theorem dX8_at_19 : decode cX8_at 19 = .ok (.getfield 26, 3) := by decide +kernel
theorem dX8_at_22 : decode cX8_at 22 = .ok (.iload_n 1, 1) := by decide +kernel
theorem dX8_at_23 : decode cX8_at 23 = .ok (.iaload, 1) := by decide +kernel
theorem dX8_at_24 : decode cX8_at 24 = .ok (.iaload, 1) := by decide +kernel
theorem dX8_at_25 : decode cX8_at 25 = .ok (.if_icmp .ge 7, 3) := by decide +kernel
theorem dX8_at_28 : decode cX8_at 28 = .ok (.iconst 1, 1) := by decide +kernel
theorem dX8_at_29 : decode cX8_at 29 = .ok (.goto 4, 3) := by decide +kernel
theorem dX8_at_32 : decode cX8_at 32 = .ok (.iconst 0, 1) := by decide +kernel
theorem dX8_at_33 : decode cX8_at 33 = .ok (.iconst 1, 1) := by decide +kernel
theorem dX8_at_34 : decode cX8_at 34 = .ok (.invokevirtual 90, 3) := by decide +kernel
theorem dX8_at_37 : decode cX8_at 37 = .ok (.ifCond .eq 22, 3) := by decide +kernel
theorem dX8_at_40 : decode cX8_at 40 = .ok (.aload_n 0, 1) := by decide +kernel
theorem dX8_at_41 : decode cX8_at 41 = .ok (.getfield 45, 3) := by decide +kernel
theorem dX8_at_44 : decode cX8_at 44 = .ok (.bipush 64, 2) := by decide +kernel
theorem dX8_at_46 : decode cX8_at 46 = .ok (.aload_n 0, 1) := by decide +kernel
theorem dX8_at_47 : decode cX8_at 47 = .ok (.getfield 26, 3) := by decide +kernel
theorem dX8_at_50 : decode cX8_at 50 = .ok (.iload_n 1, 1) := by decide +kernel
theorem dX8_at_51 : decode cX8_at 51 = .ok (.iaload, 1) := by decide +kernel
theorem dX8_at_52 : decode cX8_at 52 = .ok (.imul, 1) := by decide +kernel
theorem dX8_at_53 : decode cX8_at 53 = .ok (.iload_n 2, 1) := by decide +kernel
theorem dX8_at_54 : decode cX8_at 54 = .ok (.iadd, 1) := by decide +kernel
theorem dX8_at_55 : decode cX8_at 55 = .ok (.iaload, 1) := by decide +kernel
theorem dX8_at_56 : decode cX8_at 56 = .ok (.goto 4, 3) := by decide +kernel
theorem dX8_at_59 : decode cX8_at 59 = .ok (.iconst 0, 1) := by decide +kernel
theorem dX8_at_60 : decode cX8_at 60 = .ok (.ireturn, 1) := by decide +kernel
theorem dX8_above_0 : decode cX8_above 0 = .ok (.iconst 0, 1) := by decide +kernel
theorem dX8_above_1 : decode cX8_above 1 = .ok (.istore_n 2, 1) := by decide +kernel
theorem dX8_above_2 : decode cX8_above 2 = .ok (.aload_n 0, 1) := by decide +kernel
theorem dX8_above_3 : decode cX8_above 3 = .ok (.getfield 20, 3) := by decide +kernel
theorem dX8_above_6 : decode cX8_above 6 = .ok (.iload_n 1, 1) := by decide +kernel
theorem dX8_above_7 : decode cX8_above 7 = .ok (.iaload, 1) := by decide +kernel
theorem dX8_above_8 : decode cX8_above 8 = .ok (.istore_n 3, 1) := by decide +kernel
theorem dX8_above_9 : decode cX8_above 9 = .ok (.iload_n 3, 1) := by decide +kernel
theorem dX8_above_10 : decode cX8_above 10 = .ok (.iconst (-1), 1) := by decide +kernel
theorem dX8_above_11 : decode cX8_above 11 = .ok (.if_icmp .eq 16, 3) := by decide +kernel
theorem dX8_above_14 : decode cX8_above 14 = .ok (.iinc 2 1, 3) := by decide +kernel
theorem dX8_above_17 : decode cX8_above 17 = .ok (.aload_n 0, 1) := by decide +kernel
theorem dX8_above_18 : decode cX8_above 18 = .ok (.getfield 13, 3) := by decide +kernel
theorem dX8_above_21 : decode cX8_above 21 = .ok (.iload_n 3, 1) := by decide +kernel
theorem dX8_above_22 : decode cX8_above 22 = .ok (.iaload, 1) := by decide +kernel
theorem dX8_above_23 : decode cX8_above 23 = .ok (.istore_n 3, 1) := by decide +kernel
theorem dX8_above_24 : decode cX8_above 24 = .ok (.goto (-15), 3) := by decide +kernel
theorem dX8_above_27 : decode cX8_above 27 = .ok (.iload_n 2, 1) := by decide +kernel
theorem dX8_above_28 : decode cX8_above 28 = .ok (.ireturn, 1) := by decide +kernel
set_option maxRecDepth 20000 in
theorem ggX8_about_X8_isFile : GoodIn wsX8_about wsX8_isFile := goodIn_r _ [12, 13, 14, 2, 15, 16, 17, 11, 18, 28, 29, 30, 31, 32, 33, 34, 35, 36, 37, 38, 39, 40, 41, 42, 43, 44, 45, 46, 47, 48, 49, 50, 51, 52, 53, 54, 55, 56, 57, 58, 59, 60, 61] (by decide +kernel) (by decide +kernel)
set_option maxRecDepth 20000 in
theorem gX8_about_X8_isFile : GoodIn wsX8_about (wsV RX8 128 RX8 yX8_isFile wsX8_isFile) := goodIn_app (goodIn_of _ (by decide +kernel)) ggX8_about_X8_isFile
set_option maxRecDepth 20000 in
theorem ggX8_about_X8_right : GoodIn wsX8_about wsX8_right := goodIn_r _ [18, 13, 28, 29, 30, 31, 32, 33, 34, 35, 36, 37, 38, 39, 40, 41, 42, 43, 44, 45, 46, 47, 48, 49, 50, 51, 52, 53, 54, 55, 56, 57, 58, 59, 60, 61] (by decide +kernel) (by decide +kernel)
set_option maxRecDepth 20000 in
theorem gX8_about_X8_right : GoodIn wsX8_about (wsV RX8 90 RX8 yX8_right wsX8_right) := goodIn_app (goodIn_of _ (by decide +kernel)) ggX8_about_X8_right
set_option maxRecDepth 20000 in
theorem ggX8_about_X8_names : GoodIn wsX8_about wsX8_names := goodIn_r _ [22, 14, 2, 1, 28, 29, 30, 31, 32, 33, 34, 35, 36, 37, 38, 39, 40, 41, 42, 43, 44, 45, 46, 47, 48, 49, 50, 51, 52, 53, 54, 55, 56, 57, 58, 59, 60, 61] (by decide +kernel) (by decide +kernel)
set_option maxRecDepth 20000 in
theorem gX8_about_X8_names : GoodIn wsX8_about (wsV RX8 135 RX8 yX8_names wsX8_names) := goodIn_app (goodIn_of _ (by decide +kernel)) ggX8_about_X8_names
set_option maxRecDepth 20000 in
theorem ggX8_about_X8_above : GoodIn wsX8_about wsX8_above := goodIn_r _ [26, 2, 27, 28, 29, 30, 31, 32, 33, 34, 35, 36, 37, 38, 39, 40, 41, 42, 43, 44, 45, 46, 47, 48, 49, 50, 51, 52, 53, 54, 55, 56, 57, 58, 59, 60, 61] (by decide +kernel) (by decide +kernel)
set_option maxRecDepth 20000 in
theorem gX8_about_X8_above : GoodIn wsX8_about (wsV RX8 149 RX8 yX8_above wsX8_above) := goodIn_app (goodIn_of _ (by decide +kernel)) ggX8_about_X8_above
theorem dX8_about_0 : decode cX8_about 0 = .ok (.aload_n 0, 1) := by decide +kernel
theorem dX8_about_1 : decode cX8_about 1 = .ok (.iload_n 1, 1) := by decide +kernel
theorem dX8_about_2 : decode cX8_about 2 = .ok (.invokevirtual 128, 3) := by decide +kernel
theorem dX8_about_5 : decode cX8_about 5 = .ok (.ifCond .eq 26, 3) := by decide +kernel
theorem dX8_about_8 : decode cX8_about 8 = .ok (.aload_n 0, 1) := by decide +kernel
theorem dX8_about_9 : decode cX8_about 9 = .ok (.iload_n 2, 1) := by decide +kernel
theorem dX8_about_10 : decode cX8_about 10 = .ok (.ifCond .lt 13, 3) := by decide +kernel
theorem dX8_about_13 : decode cX8_about 13 = .ok (.iload_n 2, 1) := by decide +kernel
theorem dX8_about_14 : decode cX8_about 14 = .ok (.bipush 8, 2) := by decide +kernel
theorem dX8_about_16 : decode cX8_about 16 = .ok (.if_icmp .gt 7, 3) := by decide +kernel
theorem dX8_about_19 : decode cX8_about 19 = .ok (.iconst 1, 1) := by decide +kernel
theorem dX8_about_20 : decode cX8_about 20 = .ok (.goto 4, 3) := by decide +kernel
theorem dX8_about_23 : decode cX8_about 23 = .ok (.iconst 0, 1) := by decide +kernel
theorem dX8_about_24 : decode cX8_about 24 = .ok (.iconst 1, 1) := by decide +kernel
theorem dX8_about_25 : decode cX8_about 25 = .ok (.invokevirtual 90, 3) := by decide +kernel
theorem dX8_about_28 : decode cX8_about 28 = .ok (.ifCond .ne 5, 3) := by decide +kernel
theorem dX8_about_31 : decode cX8_about 31 = .ok (.iconst 0, 1) := by decide +kernel
theorem dX8_about_32 : decode cX8_about 32 = .ok (.ireturn, 1) := by decide +kernel
theorem dX8_about_33 : decode cX8_about 33 = .ok (.aload_n 0, 1) := by decide +kernel
theorem dX8_about_34 : decode cX8_about 34 = .ok (.getfield 26, 3) := by decide +kernel
theorem dX8_about_37 : decode cX8_about 37 = .ok (.iload_n 1, 1) := by decide +kernel
theorem dX8_about_38 : decode cX8_about 38 = .ok (.iaload, 1) := by decide +kernel
theorem dX8_about_39 : decode cX8_about 39 = .ok (.istore_n 3, 1) := by decide +kernel
theorem dX8_about_40 : decode cX8_about 40 = .ok (.iload_n 2, 1) := by decide +kernel
theorem dX8_about_41 : decode cX8_about 41 = .ok (.tableswitch 105 0 7 #[47, 54, 61, 63, 70, 77, 84, 90], 47) := by decide +kernel
theorem dX8_about_88 : decode cX8_about 88 = .ok (.aload_n 0, 1) := by decide +kernel
theorem dX8_about_89 : decode cX8_about 89 = .ok (.getfield 20, 3) := by decide +kernel
theorem dX8_about_92 : decode cX8_about 92 = .ok (.iload_n 1, 1) := by decide +kernel
theorem dX8_about_93 : decode cX8_about 93 = .ok (.iaload, 1) := by decide +kernel
theorem dX8_about_94 : decode cX8_about 94 = .ok (.ireturn, 1) := by decide +kernel
theorem dX8_about_95 : decode cX8_about 95 = .ok (.aload_n 0, 1) := by decide +kernel
theorem dX8_about_96 : decode cX8_about 96 = .ok (.getfield 23, 3) := by decide +kernel
theorem dX8_about_99 : decode cX8_about 99 = .ok (.iload_n 1, 1) := by decide +kernel
theorem dX8_about_100 : decode cX8_about 100 = .ok (.iaload, 1) := by decide +kernel
theorem dX8_about_101 : decode cX8_about 101 = .ok (.ireturn, 1) := by decide +kernel
theorem dX8_about_102 : decode cX8_about 102 = .ok (.iload_n 3, 1) := by decide +kernel
theorem dX8_about_103 : decode cX8_about 103 = .ok (.ireturn, 1) := by decide +kernel
theorem dX8_about_104 : decode cX8_about 104 = .ok (.aload_n 0, 1) := by decide +kernel
theorem dX8_about_105 : decode cX8_about 105 = .ok (.getfield 33, 3) := by decide +kernel
theorem dX8_about_108 : decode cX8_about 108 = .ok (.iload_n 3, 1) := by decide +kernel
theorem dX8_about_109 : decode cX8_about 109 = .ok (.iaload, 1) := by decide +kernel
theorem dX8_about_110 : decode cX8_about 110 = .ok (.ireturn, 1) := by decide +kernel
theorem dX8_about_111 : decode cX8_about 111 = .ok (.aload_n 0, 1) := by decide +kernel
theorem dX8_about_112 : decode cX8_about 112 = .ok (.getfield 36, 3) := by decide +kernel
theorem dX8_about_115 : decode cX8_about 115 = .ok (.iload_n 3, 1) := by decide +kernel
theorem dX8_about_116 : decode cX8_about 116 = .ok (.iaload, 1) := by decide +kernel
theorem dX8_about_117 : decode cX8_about 117 = .ok (.ireturn, 1) := by decide +kernel
theorem dX8_about_118 : decode cX8_about 118 = .ok (.aload_n 0, 1) := by decide +kernel
theorem dX8_about_119 : decode cX8_about 119 = .ok (.getfield 39, 3) := by decide +kernel
theorem dX8_about_122 : decode cX8_about 122 = .ok (.iload_n 3, 1) := by decide +kernel
theorem dX8_about_123 : decode cX8_about 123 = .ok (.iaload, 1) := by decide +kernel
theorem dX8_about_124 : decode cX8_about 124 = .ok (.ireturn, 1) := by decide +kernel
theorem dX8_about_125 : decode cX8_about 125 = .ok (.aload_n 0, 1) := by decide +kernel
theorem dX8_about_126 : decode cX8_about 126 = .ok (.iload_n 3, 1) := by decide +kernel
theorem dX8_about_127 : decode cX8_about 127 = .ok (.invokevirtual 135, 3) := by decide +kernel
theorem dX8_about_130 : decode cX8_about 130 = .ok (.ireturn, 1) := by decide +kernel
theorem dX8_about_131 : decode cX8_about 131 = .ok (.aload_n 0, 1) := by decide +kernel
theorem dX8_about_132 : decode cX8_about 132 = .ok (.getfield 29, 3) := by decide +kernel
theorem dX8_about_135 : decode cX8_about 135 = .ok (.iload_n 1, 1) := by decide +kernel
theorem dX8_about_136 : decode cX8_about 136 = .ok (.baload, 1) := by decide +kernel
theorem dX8_about_137 : decode cX8_about 137 = .ok (.ifCond .eq 7, 3) := by decide +kernel
theorem dX8_about_140 : decode cX8_about 140 = .ok (.iconst 1, 1) := by decide +kernel
theorem dX8_about_141 : decode cX8_about 141 = .ok (.goto 4, 3) := by decide +kernel
theorem dX8_about_144 : decode cX8_about 144 = .ok (.iconst 0, 1) := by decide +kernel
theorem dX8_about_145 : decode cX8_about 145 = .ok (.ireturn, 1) := by decide +kernel
theorem dX8_about_146 : decode cX8_about 146 = .ok (.aload_n 0, 1) := by decide +kernel
theorem dX8_about_147 : decode cX8_about 147 = .ok (.iload_n 1, 1) := by decide +kernel
theorem dX8_about_148 : decode cX8_about 148 = .ok (.invokevirtual 149, 3) := by decide +kernel
theorem dX8_about_151 : decode cX8_about 151 = .ok (.ireturn, 1) := by decide +kernel
theorem dX8_hasSame_0 : decode cX8_hasSame 0 = .ok (.iload_n 3, 1) := by decide +kernel
theorem dX8_hasSame_1 : decode cX8_hasSame 1 = .ok (.istore 5, 2) := by decide +kernel
theorem dX8_hasSame_3 : decode cX8_hasSame 3 = .ok (.iload 5, 2) := by decide +kernel
theorem dX8_hasSame_5 : decode cX8_hasSame 5 = .ok (.iload 4, 2) := by decide +kernel
theorem dX8_hasSame_7 : decode cX8_hasSame 7 = .ok (.if_icmp .ge 38, 3) := by decide +kernel
theorem dX8_hasSame_10 : decode cX8_hasSame 10 = .ok (.aload_n 0, 1) := by decide +kernel
theorem dX8_hasSame_11 : decode cX8_hasSame 11 = .ok (.getfield 45, 3) := by decide +kernel
theorem dX8_hasSame_14 : decode cX8_hasSame 14 = .ok (.bipush 64, 2) := by decide +kernel
theorem dX8_hasSame_16 : decode cX8_hasSame 16 = .ok (.iload_n 1, 1) := by decide +kernel
theorem dX8_hasSame_17 : decode cX8_hasSame 17 = .ok (.imul, 1) := by decide +kernel
theorem dX8_hasSame_18 : decode cX8_hasSame 18 = .ok (.iload 5, 2) := by decide +kernel
theorem dX8_hasSame_20 : decode cX8_hasSame 20 = .ok (.iadd, 1) := by decide +kernel
theorem dX8_hasSame_21 : decode cX8_hasSame 21 = .ok (.iaload, 1) := by decide +kernel
theorem dX8_hasSame_22 : decode cX8_hasSame 22 = .ok (.aload_n 0, 1) := by decide +kernel
theorem dX8_hasSame_23 : decode cX8_hasSame 23 = .ok (.getfield 45, 3) := by decide +kernel
theorem dX8_hasSame_26 : decode cX8_hasSame 26 = .ok (.bipush 64, 2) := by decide +kernel
theorem dX8_hasSame_28 : decode cX8_hasSame 28 = .ok (.iload_n 2, 1) := by decide +kernel
theorem dX8_hasSame_29 : decode cX8_hasSame 29 = .ok (.imul, 1) := by decide +kernel
theorem dX8_hasSame_30 : decode cX8_hasSame 30 = .ok (.iload 5, 2) := by decide +kernel
theorem dX8_hasSame_32 : decode cX8_hasSame 32 = .ok (.iadd, 1) := by decide +kernel
theorem dX8_hasSame_33 : decode cX8_hasSame 33 = .ok (.iaload, 1) := by decide +kernel
theorem dX8_hasSame_34 : decode cX8_hasSame 34 = .ok (.if_icmp .eq 5, 3) := by decide +kernel
theorem dX8_hasSame_37 : decode cX8_hasSame 37 = .ok (.iconst 0, 1) := by decide +kernel
theorem dX8_hasSame_38 : decode cX8_hasSame 38 = .ok (.ireturn, 1) := by decide +kernel
theorem dX8_hasSame_39 : decode cX8_hasSame 39 = .ok (.iinc 5 1, 3) := by decide +kernel
theorem dX8_hasSame_42 : decode cX8_hasSame 42 = .ok (.goto (-39), 3) := by decide +kernel
theorem dX8_hasSame_45 : decode cX8_hasSame 45 = .ok (.iconst 1, 1) := by decide +kernel
theorem dX8_hasSame_46 : decode cX8_hasSame 46 = .ok (.ireturn, 1) := by decide +kernel
theorem dX8_drops_0 : decode cX8_drops 0 = .ok (.iconst 0, 1) := by decide +kernel
theorem dX8_drops_1 : decode cX8_drops 1 = .ok (.istore_n 1, 1) := by decide +kernel
theorem dX8_drops_2 : decode cX8_drops 2 = .ok (.iload_n 1, 1) := by decide +kernel
theorem dX8_drops_3 : decode cX8_drops 3 = .ok (.aload_n 0, 1) := by decide +kernel
theorem dX8_drops_4 : decode cX8_drops 4 = .ok (.getfield 108, 3) := by decide +kernel
theorem dX8_drops_7 : decode cX8_drops 7 = .ok (.if_icmp .ge 76, 3) := by decide +kernel
theorem dX8_drops_10 : decode cX8_drops 10 = .ok (.iconst 0, 1) := by decide +kernel
theorem dX8_drops_11 : decode cX8_drops 11 = .ok (.istore_n 2, 1) := by decide +kernel
theorem dX8_drops_12 : decode cX8_drops 12 = .ok (.iconst 0, 1) := by decide +kernel
theorem dX8_drops_13 : decode cX8_drops 13 = .ok (.istore_n 3, 1) := by decide +kernel
theorem dX8_drops_14 : decode cX8_drops 14 = .ok (.iload_n 3, 1) := by decide +kernel
theorem dX8_drops_15 : decode cX8_drops 15 = .ok (.aload_n 0, 1) := by decide +kernel
theorem dX8_drops_16 : decode cX8_drops 16 = .ok (.getfield 108, 3) := by decide +kernel
theorem dX8_drops_19 : decode cX8_drops 19 = .ok (.if_icmp .ge 37, 3) := by decide +kernel
theorem dX8_drops_22 : decode cX8_drops 22 = .ok (.aload_n 0, 1) := by decide +kernel
theorem dX8_drops_23 : decode cX8_drops 23 = .ok (.getfield 69, 3) := by decide +kernel
theorem dX8_drops_26 : decode cX8_drops 26 = .ok (.iload_n 1, 1) := by decide +kernel
theorem dX8_drops_27 : decode cX8_drops 27 = .ok (.iaload, 1) := by decide +kernel
theorem dX8_drops_28 : decode cX8_drops 28 = .ok (.iconst (-1), 1) := by decide +kernel
theorem dX8_drops_29 : decode cX8_drops 29 = .ok (.if_icmp .eq 21, 3) := by decide +kernel
theorem dX8_drops_32 : decode cX8_drops 32 = .ok (.aload_n 0, 1) := by decide +kernel
theorem dX8_drops_33 : decode cX8_drops 33 = .ok (.getfield 69, 3) := by decide +kernel
theorem dX8_drops_36 : decode cX8_drops 36 = .ok (.iload_n 3, 1) := by decide +kernel
theorem dX8_drops_37 : decode cX8_drops 37 = .ok (.iaload, 1) := by decide +kernel
theorem dX8_drops_38 : decode cX8_drops 38 = .ok (.aload_n 0, 1) := by decide +kernel
theorem dX8_drops_39 : decode cX8_drops 39 = .ok (.getfield 69, 3) := by decide +kernel
theorem dX8_drops_42 : decode cX8_drops 42 = .ok (.iload_n 1, 1) := by decide +kernel
theorem dX8_drops_43 : decode cX8_drops 43 = .ok (.iaload, 1) := by decide +kernel
theorem dX8_drops_44 : decode cX8_drops 44 = .ok (.if_icmp .ne 6, 3) := by decide +kernel
theorem dX8_drops_47 : decode cX8_drops 47 = .ok (.iinc 2 1, 3) := by decide +kernel
theorem dX8_drops_50 : decode cX8_drops 50 = .ok (.iinc 3 1, 3) := by decide +kernel
theorem dX8_drops_53 : decode cX8_drops 53 = .ok (.goto (-39), 3) := by decide +kernel
theorem dX8_drops_56 : decode cX8_drops 56 = .ok (.aload_n 0, 1) := by decide +kernel
theorem dX8_drops_57 : decode cX8_drops 57 = .ok (.getfield 72, 3) := by decide +kernel
theorem dX8_drops_60 : decode cX8_drops 60 = .ok (.iload_n 1, 1) := by decide +kernel
theorem dX8_drops_61 : decode cX8_drops 61 = .ok (.iload_n 2, 1) := by decide +kernel
theorem dX8_drops_62 : decode cX8_drops 62 = .ok (.iconst 1, 1) := by decide +kernel
theorem dX8_drops_63 : decode cX8_drops 63 = .ok (.if_icmp .le 12, 3) := by decide +kernel
theorem dX8_drops_66 : decode cX8_drops 66 = .ok (.aload_n 0, 1) := by decide +kernel
theorem dX8_drops_67 : decode cX8_drops 67 = .ok (.getfield 69, 3) := by decide +kernel
theorem dX8_drops_70 : decode cX8_drops 70 = .ok (.iload_n 1, 1) := by decide +kernel
theorem dX8_drops_71 : decode cX8_drops 71 = .ok (.iaload, 1) := by decide +kernel
theorem dX8_drops_72 : decode cX8_drops 72 = .ok (.goto 4, 3) := by decide +kernel
theorem dX8_drops_75 : decode cX8_drops 75 = .ok (.iconst (-1), 1) := by decide +kernel
theorem dX8_drops_76 : decode cX8_drops 76 = .ok (.iastore, 1) := by decide +kernel
theorem dX8_drops_77 : decode cX8_drops 77 = .ok (.iinc 1 1, 3) := by decide +kernel
theorem dX8_drops_80 : decode cX8_drops 80 = .ok (.goto (-78), 3) := by decide +kernel
theorem dX8_drops_83 : decode cX8_drops 83 = .ok (.iconst 0, 1) := by decide +kernel
theorem dX8_drops_84 : decode cX8_drops 84 = .ok (.istore_n 1, 1) := by decide +kernel
theorem dX8_drops_85 : decode cX8_drops 85 = .ok (.iload_n 1, 1) := by decide +kernel
theorem dX8_drops_86 : decode cX8_drops 86 = .ok (.aload_n 0, 1) := by decide +kernel
theorem dX8_drops_87 : decode cX8_drops 87 = .ok (.getfield 108, 3) := by decide +kernel
theorem dX8_drops_90 : decode cX8_drops 90 = .ok (.if_icmp .ge 21, 3) := by decide +kernel
theorem dX8_drops_93 : decode cX8_drops 93 = .ok (.aload_n 0, 1) := by decide +kernel
theorem dX8_drops_94 : decode cX8_drops 94 = .ok (.getfield 69, 3) := by decide +kernel
theorem dX8_drops_97 : decode cX8_drops 97 = .ok (.iload_n 1, 1) := by decide +kernel
theorem dX8_drops_98 : decode cX8_drops 98 = .ok (.aload_n 0, 1) := by decide +kernel
theorem dX8_drops_99 : decode cX8_drops 99 = .ok (.getfield 72, 3) := by decide +kernel
theorem dX8_drops_102 : decode cX8_drops 102 = .ok (.iload_n 1, 1) := by decide +kernel
theorem dX8_drops_103 : decode cX8_drops 103 = .ok (.iaload, 1) := by decide +kernel
theorem dX8_drops_104 : decode cX8_drops 104 = .ok (.iastore, 1) := by decide +kernel
theorem dX8_drops_105 : decode cX8_drops 105 = .ok (.iinc 1 1, 3) := by decide +kernel
theorem dX8_drops_108 : decode cX8_drops 108 = .ok (.goto (-23), 3) := by decide +kernel
theorem dX8_drops_111 : decode cX8_drops 111 = .ok (.return_, 1) := by decide +kernel
set_option maxRecDepth 20000 in
theorem ggX8_find_X8_names : GoodIn wsX8_find wsX8_names := goodIn_r _ [13, 14, 15, 16, 26, 27, 28, 29, 30, 31, 32, 33, 34, 35, 36, 37, 38, 39, 40, 41, 42, 43, 44, 45, 46, 47, 48, 49, 50, 51, 52, 53, 54, 55, 56, 57, 58, 59] (by decide +kernel) (by decide +kernel)
set_option maxRecDepth 20000 in
theorem gX8_find_X8_names : GoodIn wsX8_find (wsV RX8 135 RX8 yX8_names wsX8_names) := goodIn_app (goodIn_of _ (by decide +kernel)) ggX8_find_X8_names
set_option maxRecDepth 20000 in
theorem ggX8_find_X8_drops : GoodIn wsX8_find wsX8_drops := goodIn_r _ [20, 3, 4, 6, 26, 27, 28, 29, 30, 31, 32, 33, 34, 35, 36, 37, 38, 39, 40, 41, 42, 43, 44, 45, 46, 47, 48, 49, 50, 51, 52, 53, 54, 55, 56, 57, 58, 59] (by decide +kernel) (by decide +kernel)
set_option maxRecDepth 20000 in
theorem gX8_find_X8_drops : GoodIn wsX8_find (wsV RX8 155 RX8 yX8_drops wsX8_drops) := goodIn_app (goodIn_of _ (by decide +kernel)) ggX8_find_X8_drops
set_option maxRecDepth 20000 in
theorem ggX8_find_X8_hasSame : GoodIn wsX8_find wsX8_hasSame := goodIn_r _ [24, 25, 26, 27, 28, 29, 30, 31, 32, 33, 34, 35, 36, 37, 38, 39, 40, 41, 42, 43, 44, 45, 46, 47, 48, 49, 50, 51, 52, 53, 54, 55, 56, 57, 58, 59] (by decide +kernel) (by decide +kernel)
set_option maxRecDepth 20000 in
theorem gX8_find_X8_hasSame : GoodIn wsX8_find (wsV RX8 158 RX8 yX8_hasSame wsX8_hasSame) := goodIn_app (goodIn_of _ (by decide +kernel)) ggX8_find_X8_hasSame
theorem dX8_find_0 : decode cX8_find 0 = .ok (.aload_n 0, 1) := by decide +kernel
