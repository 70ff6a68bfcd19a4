theorem dX7_copy_39 : decode cX7_copy 39 = .ok (.iload_n 1, 1) := by decide +kernel
theorem dX7_copy_40 : decode cX7_copy 40 = .ok (.iaload, 1) := by decide +kernel
theorem dX7_copy_41 : decode cX7_copy 41 = .ok (.istore 4, 2) := by decide +kernel
theorem dX7_copy_43 : decode cX7_copy 43 = .ok (.aload_n 0, 1) := by decide +kernel
theorem dX7_copy_44 : decode cX7_copy 44 = .ok (.getfield 19, 3) := by decide +kernel
theorem dX7_copy_47 : decode cX7_copy 47 = .ok (.iload_n 2, 1) := by decide +kernel
theorem dX7_copy_48 : decode cX7_copy 48 = .ok (.iload_n 3, 1) := by decide +kernel
theorem dX7_copy_49 : decode cX7_copy 49 = .ok (.aload_n 0, 1) := by decide +kernel
theorem dX7_copy_50 : decode cX7_copy 50 = .ok (.getfield 26, 3) := by decide +kernel
theorem dX7_copy_53 : decode cX7_copy 53 = .ok (.iload 4, 2) := by decide +kernel
theorem dX7_copy_55 : decode cX7_copy 55 = .ok (.aload_n 0, 1) := by decide +kernel
theorem dX7_copy_56 : decode cX7_copy 56 = .ok (.getfield 26, 3) := by decide +kernel
theorem dX7_copy_59 : decode cX7_copy 59 = .ok (.getfield 115, 3) := by decide +kernel
theorem dX7_copy_62 : decode cX7_copy 62 = .ok (.iload 4, 2) := by decide +kernel
theorem dX7_copy_64 : decode cX7_copy 64 = .ok (.iaload, 1) := by decide +kernel
theorem dX7_copy_65 : decode cX7_copy 65 = .ok (.aload_n 0, 1) := by decide +kernel
theorem dX7_copy_66 : decode cX7_copy 66 = .ok (.getfield 69, 3) := by decide +kernel
theorem dX7_copy_69 : decode cX7_copy 69 = .ok (.invokevirtual 118, 3) := by decide +kernel
theorem dX7_copy_72 : decode cX7_copy 72 = .ok (.invokevirtual 108, 3) := by decide +kernel
theorem dX7_copy_75 : decode cX7_copy 75 = .ok (.ireturn, 1) := by decide +kernel
set_option maxRecDepth 20000 in
theorem ggX7_link_X7_needFile : GoodIn wsX7_link wsX7_needFile := goodIn_ca (goodIn_r _ [6, 7, 8, 1, 9, 10, 11, 12, 13, 14, 47, 48, 49, 50, 51, 52, 53, 54, 55, 56, 57, 58, 59, 60, 61, 62, 63] (by decide +kernel) (by decide +kernel)) (goodIn_sub (fun _ h => List.mem_cons_of_mem _ (List.mem_append_right _ h)) (by decide +kernel))
set_option maxRecDepth 20000 in
theorem gX7_link_X7_needFile : GoodIn wsX7_link (wsV RX7 109 RX7 yX7_needFile wsX7_needFile) := goodIn_app (goodIn_of _ (by decide +kernel)) ggX7_link_X7_needFile
set_option maxRecDepth 20000 in
theorem ggX7_link_X7_needFolder : GoodIn wsX7_link wsX7_needFolder := goodIn_ca (goodIn_r _ [18, 7, 8, 19, 20, 21, 22, 23, 24, 47, 48, 49, 50, 51, 52, 53, 54, 55, 56, 57, 58, 64, 65, 66, 67] (by decide +kernel) (by decide +kernel)) (goodIn_sub (fun _ h => List.mem_cons_of_mem _ (List.mem_append_right _ h)) (by decide +kernel))
set_option maxRecDepth 20000 in
theorem gX7_link_X7_needFolder : GoodIn wsX7_link (wsV RX7 76 RX7 yX7_needFolder wsX7_needFolder) := goodIn_app (goodIn_of _ (by decide +kernel)) ggX7_link_X7_needFolder
set_option maxRecDepth 20000 in
theorem ggX7_link_X7_mayCome : GoodIn wsX7_link wsX7_mayCome := goodIn_r _ [28, 1, 29, 10, 30, 31, 13, 32, 33, 34, 5, 35, 36, 37, 38, 39, 40, 41, 42, 43, 47, 48, 49, 50, 51, 52, 53, 54, 55, 56, 57, 58, 59, 60, 61, 62, 63] (by decide +kernel) (by decide +kernel)
set_option maxRecDepth 20000 in
theorem gX7_link_X7_mayCome : GoodIn wsX7_link (wsV RX7 98 RX7 yX7_mayCome wsX7_mayCome) := goodIn_app (goodIn_of _ (by decide +kernel)) ggX7_link_X7_mayCome
set_option maxRecDepth 20000 in
theorem ggX7_link_X1_make : GoodIn wsX7_link wsX1_make := goodIn_r _ [46, 13, 42, 43, 14, 59, 60, 61, 62, 63] (by decide +kernel) (by decide +kernel)
set_option maxRecDepth 20000 in
theorem gX7_link_X1_make_n108 : GoodIn wsX7_link (wsX1_make) := ggX7_link_X1_make
theorem dX7_link_0 : decode cX7_link 0 = .ok (.aload_n 0, 1) := by decide +kernel
theorem dX7_link_1 : decode cX7_link 1 = .ok (.iload_n 1, 1) := by decide +kernel
theorem dX7_link_2 : decode cX7_link 2 = .ok (.invokevirtual 109, 3) := by decide +kernel
theorem dX7_link_5 : decode cX7_link 5 = .ok (.aload_n 0, 1) := by decide +kernel
theorem dX7_link_6 : decode cX7_link 6 = .ok (.iload_n 2, 1) := by decide +kernel
theorem dX7_link_7 : decode cX7_link 7 = .ok (.invokevirtual 76, 3) := by decide +kernel
theorem dX7_link_10 : decode cX7_link 10 = .ok (.aload_n 0, 1) := by decide +kernel
theorem dX7_link_11 : decode cX7_link 11 = .ok (.iload_n 2, 1) := by decide +kernel
theorem dX7_link_12 : decode cX7_link 12 = .ok (.iload_n 3, 1) := by decide +kernel
theorem dX7_link_13 : decode cX7_link 13 = .ok (.invokevirtual 98, 3) := by decide +kernel
theorem dX7_link_16 : decode cX7_link 16 = .ok (.ifCond .ne 5, 3) := by decide +kernel
theorem dX7_link_19 : decode cX7_link 19 = .ok (.iconst (-1), 1) := by decide +kernel
theorem dX7_link_20 : decode cX7_link 20 = .ok (.ireturn, 1) := by decide +kernel
theorem dX7_link_21 : decode cX7_link 21 = .ok (.aload_n 0, 1) := by decide +kernel
theorem dX7_link_22 : decode cX7_link 22 = .ok (.getfield 19, 3) := by decide +kernel
theorem dX7_link_25 : decode cX7_link 25 = .ok (.iload_n 2, 1) := by decide +kernel
theorem dX7_link_26 : decode cX7_link 26 = .ok (.iload_n 3, 1) := by decide +kernel
theorem dX7_link_27 : decode cX7_link 27 = .ok (.aload_n 0, 1) := by decide +kernel
theorem dX7_link_28 : decode cX7_link 28 = .ok (.getfield 19, 3) := by decide +kernel
theorem dX7_link_31 : decode cX7_link 31 = .ok (.getfield 112, 3) := by decide +kernel
theorem dX7_link_34 : decode cX7_link 34 = .ok (.iload_n 1, 1) := by decide +kernel
theorem dX7_link_35 : decode cX7_link 35 = .ok (.iaload, 1) := by decide +kernel
theorem dX7_link_36 : decode cX7_link 36 = .ok (.invokevirtual 108, 3) := by decide +kernel
theorem dX7_link_39 : decode cX7_link 39 = .ok (.ireturn, 1) := by decide +kernel
set_option maxRecDepth 20000 in
theorem ggX7_move_X7_needFile : GoodIn wsX7_move wsX7_needFile := goodIn_ca (goodIn_r _ [6, 7, 8, 1, 9, 10, 11, 12, 13, 14, 37, 38, 39, 40, 41, 42, 43, 44, 45, 46, 47, 48, 49, 50, 51, 52, 53] (by decide +kernel) (by decide +kernel)) (goodIn_sub (fun _ h => List.mem_cons_of_mem _ (List.mem_append_right _ h)) (by decide +kernel))
set_option maxRecDepth 20000 in
theorem gX7_move_X7_needFile : GoodIn wsX7_move (wsV RX7 109 RX7 yX7_needFile wsX7_needFile) := goodIn_app (goodIn_of _ (by decide +kernel)) ggX7_move_X7_needFile
set_option maxRecDepth 20000 in
theorem ggX7_move_X7_needFolder : GoodIn wsX7_move wsX7_needFolder := goodIn_ca (goodIn_r _ [18, 7, 8, 19, 20, 21, 22, 23, 24, 37, 38, 39, 40, 41, 42, 43, 44, 45, 46, 47, 48, 54, 55, 56, 57] (by decide +kernel) (by decide +kernel)) (goodIn_sub (fun _ h => List.mem_cons_of_mem _ (List.mem_append_right _ h)) (by decide +kernel))
set_option maxRecDepth 20000 in
theorem gX7_move_X7_needFolder : GoodIn wsX7_move (wsV RX7 76 RX7 yX7_needFolder wsX7_needFolder) := goodIn_app (goodIn_of _ (by decide +kernel)) ggX7_move_X7_needFolder
set_option maxRecDepth 20000 in
theorem ggX7_move_X7_isFreeName : GoodIn wsX7_move wsX7_isFreeName := goodIn_r _ [28, 1, 29, 30, 5, 31, 32, 10, 33, 34, 13, 35, 36, 37, 38, 39, 40, 41, 42, 43, 44, 45, 46, 47, 48, 49, 50, 51, 52, 53] (by decide +kernel) (by decide +kernel)
set_option maxRecDepth 20000 in
theorem gX7_move_X7_isFreeName : GoodIn wsX7_move (wsV RX7 121 RX7 yX7_isFreeName wsX7_isFreeName) := goodIn_app (goodIn_of _ (by decide +kernel)) ggX7_move_X7_isFreeName
theorem dX7_move_0 : decode cX7_move 0 = .ok (.aload_n 0, 1) := by decide +kernel
theorem dX7_move_1 : decode cX7_move 1 = .ok (.iload_n 1, 1) := by decide +kernel
theorem dX7_move_2 : decode cX7_move 2 = .ok (.invokevirtual 109, 3) := by decide +kernel
theorem dX7_move_5 : decode cX7_move 5 = .ok (.aload_n 0, 1) := by decide +kernel
theorem dX7_move_6 : decode cX7_move 6 = .ok (.iload_n 2, 1) := by decide +kernel
theorem dX7_move_7 : decode cX7_move 7 = .ok (.invokevirtual 76, 3) := by decide +kernel
theorem dX7_move_10 : decode cX7_move 10 = .ok (.aload_n 0, 1) := by decide +kernel
theorem dX7_move_11 : decode cX7_move 11 = .ok (.iload_n 2, 1) := by decide +kernel
theorem dX7_move_12 : decode cX7_move 12 = .ok (.iload_n 3, 1) := by decide +kernel
theorem dX7_move_13 : decode cX7_move 13 = .ok (.invokevirtual 121, 3) := by decide +kernel
theorem dX7_move_16 : decode cX7_move 16 = .ok (.ifCond .ne 5, 3) := by decide +kernel
theorem dX7_move_19 : decode cX7_move 19 = .ok (.iconst 0, 1) := by decide +kernel
theorem dX7_move_20 : decode cX7_move 20 = .ok (.ireturn, 1) := by decide +kernel
theorem dX7_move_21 : decode cX7_move 21 = .ok (.aload_n 0, 1) := by decide +kernel
theorem dX7_move_22 : decode cX7_move 22 = .ok (.getfield 19, 3) := by decide +kernel
theorem dX7_move_25 : decode cX7_move 25 = .ok (.getfield 124, 3) := by decide +kernel
theorem dX7_move_28 : decode cX7_move 28 = .ok (.iload_n 1, 1) := by decide +kernel
theorem dX7_move_29 : decode cX7_move 29 = .ok (.iload_n 2, 1) := by decide +kernel
theorem dX7_move_30 : decode cX7_move 30 = .ok (.iastore, 1) := by decide +kernel
theorem dX7_move_31 : decode cX7_move 31 = .ok (.aload_n 0, 1) := by decide +kernel
theorem dX7_move_32 : decode cX7_move 32 = .ok (.getfield 19, 3) := by decide +kernel
theorem dX7_move_35 : decode cX7_move 35 = .ok (.getfield 127, 3) := by decide +kernel
theorem dX7_move_38 : decode cX7_move 38 = .ok (.iload_n 1, 1) := by decide +kernel
theorem dX7_move_39 : decode cX7_move 39 = .ok (.iload_n 3, 1) := by decide +kernel
theorem dX7_move_40 : decode cX7_move 40 = .ok (.iastore, 1) := by decide +kernel
theorem dX7_move_41 : decode cX7_move 41 = .ok (.iconst 1, 1) := by decide +kernel
theorem dX7_move_42 : decode cX7_move 42 = .ok (.ireturn, 1) := by decide +kernel
set_option maxRecDepth 20000 in
theorem ggX7_remove_X7_needFile : GoodIn wsX7_remove wsX7_needFile := goodIn_ca (goodIn_r _ [6, 7, 8, 1, 9, 10, 11, 12, 13, 14, 23, 24, 25, 26, 27, 28, 29, 30, 31, 32, 33, 34, 35, 36, 37, 38, 39] (by decide +kernel) (by decide +kernel)) (goodIn_sub (fun _ h => List.mem_cons_of_mem _ (List.mem_append_right _ h)) (by decide +kernel))
set_option maxRecDepth 20000 in
theorem gX7_remove_X7_needFile : GoodIn wsX7_remove (wsV RX7 109 RX7 yX7_needFile wsX7_needFile) := goodIn_app (goodIn_of _ (by decide +kernel)) ggX7_remove_X7_needFile
set_option maxRecDepth 20000 in
theorem ggX7_remove_X1_drop : GoodIn wsX7_remove wsX1_drop := goodIn_r _ [17, 18, 19, 14, 35, 36, 37, 38, 39] (by decide +kernel) (by decide +kernel)
set_option maxRecDepth 20000 in
theorem gX7_remove_X1_drop_n133 : GoodIn wsX7_remove (wsX1_drop) := ggX7_remove_X1_drop
set_option maxRecDepth 20000 in
theorem ggX7_remove_X1_having : GoodIn wsX7_remove wsX1_having := goodIn_r _ [22, 13, 14, 35, 36, 37, 38, 39] (by decide +kernel) (by decide +kernel)
set_option maxRecDepth 20000 in
theorem gX7_remove_X1_having_n136 : GoodIn wsX7_remove (wsX1_having) := ggX7_remove_X1_having
theorem dX7_remove_0 : decode cX7_remove 0 = .ok (.aload_n 0, 1) := by decide +kernel
theorem dX7_remove_1 : decode cX7_remove 1 = .ok (.iload_n 1, 1) := by decide +kernel
theorem dX7_remove_2 : decode cX7_remove 2 = .ok (.invokevirtual 109, 3) := by decide +kernel
theorem dX7_remove_5 : decode cX7_remove 5 = .ok (.aload_n 0, 1) := by decide +kernel
theorem dX7_remove_6 : decode cX7_remove 6 = .ok (.getfield 19, 3) := by decide +kernel
theorem dX7_remove_9 : decode cX7_remove 9 = .ok (.getfield 130, 3) := by decide +kernel
theorem dX7_remove_12 : decode cX7_remove 12 = .ok (.iload_n 1, 1) := by decide +kernel
theorem dX7_remove_13 : decode cX7_remove 13 = .ok (.baload, 1) := by decide +kernel
theorem dX7_remove_14 : decode cX7_remove 14 = .ok (.ifCond .eq 5, 3) := by decide +kernel
theorem dX7_remove_17 : decode cX7_remove 17 = .ok (.iconst (-1), 1) := by decide +kernel
theorem dX7_remove_18 : decode cX7_remove 18 = .ok (.ireturn, 1) := by decide +kernel
theorem dX7_remove_19 : decode cX7_remove 19 = .ok (.aload_n 0, 1) := by decide +kernel
theorem dX7_remove_20 : decode cX7_remove 20 = .ok (.getfield 19, 3) := by decide +kernel
theorem dX7_remove_23 : decode cX7_remove 23 = .ok (.getfield 112, 3) := by decide +kernel
theorem dX7_remove_26 : decode cX7_remove 26 = .ok (.iload_n 1, 1) := by decide +kernel
theorem dX7_remove_27 : decode cX7_remove 27 = .ok (.iaload, 1) := by decide +kernel
theorem dX7_remove_28 : decode cX7_remove 28 = .ok (.istore_n 2, 1) := by decide +kernel
theorem dX7_remove_29 : decode cX7_remove 29 = .ok (.aload_n 0, 1) := by decide +kernel
theorem dX7_remove_30 : decode cX7_remove 30 = .ok (.getfield 19, 3) := by decide +kernel
theorem dX7_remove_33 : decode cX7_remove 33 = .ok (.iload_n 1, 1) := by decide +kernel
theorem dX7_remove_34 : decode cX7_remove 34 = .ok (.invokevirtual 133, 3) := by decide +kernel
theorem dX7_remove_37 : decode cX7_remove 37 = .ok (.aload_n 0, 1) := by decide +kernel
theorem dX7_remove_38 : decode cX7_remove 38 = .ok (.getfield 19, 3) := by decide +kernel
theorem dX7_remove_41 : decode cX7_remove 41 = .ok (.iload_n 2, 1) := by decide +kernel
theorem dX7_remove_42 : decode cX7_remove 42 = .ok (.invokevirtual 136, 3) := by decide +kernel
theorem dX7_remove_45 : decode cX7_remove 45 = .ok (.ireturn, 1) := by decide +kernel
set_option maxRecDepth 20000 in
theorem ggX7_hold_X7_needFile : GoodIn wsX7_hold wsX7_needFile := goodIn_ca (goodIn_r _ [6, 7, 8, 1, 9, 10, 11, 12, 13, 14, 15, 16, 17, 18, 19, 20, 21, 22, 23, 24, 25, 26, 27, 28, 29, 30, 31] (by decide +kernel) (by decide +kernel)) (goodIn_sub (fun _ h => List.mem_cons_of_mem _ (List.mem_append_right _ h)) (by decide +kernel))
set_option maxRecDepth 20000 in
theorem gX7_hold_X7_needFile : GoodIn wsX7_hold (wsV RX7 109 RX7 yX7_needFile wsX7_needFile) := goodIn_app (goodIn_of _ (by decide +kernel)) ggX7_hold_X7_needFile
theorem dX7_hold_0 : decode cX7_hold 0 = .ok (.aload_n 0, 1) := by decide +kernel
theorem dX7_hold_1 : decode cX7_hold 1 = .ok (.iload_n 1, 1) := by decide +kernel
theorem dX7_hold_2 : decode cX7_hold 2 = .ok (.invokevirtual 109, 3) := by decide +kernel
theorem dX7_hold_5 : decode cX7_hold 5 = .ok (.aload_n 0, 1) := by decide +kernel
theorem dX7_hold_6 : decode cX7_hold 6 = .ok (.getfield 19, 3) := by decide +kernel
theorem dX7_hold_9 : decode cX7_hold 9 = .ok (.getfield 130, 3) := by decide +kernel
theorem dX7_hold_12 : decode cX7_hold 12 = .ok (.iload_n 1, 1) := by decide +kernel
theorem dX7_hold_13 : decode cX7_hold 13 = .ok (.baload, 1) := by decide +kernel
theorem dX7_hold_14 : decode cX7_hold 14 = .ok (.istore_n 3, 1) := by decide +kernel
theorem dX7_hold_15 : decode cX7_hold 15 = .ok (.aload_n 0, 1) := by decide +kernel
theorem dX7_hold_16 : decode cX7_hold 16 = .ok (.getfield 19, 3) := by decide +kernel
theorem dX7_hold_19 : decode cX7_hold 19 = .ok (.getfield 130, 3) := by decide +kernel
theorem dX7_hold_22 : decode cX7_hold 22 = .ok (.iload_n 1, 1) := by decide +kernel
theorem dX7_hold_23 : decode cX7_hold 23 = .ok (.iload_n 2, 1) := by decide +kernel
theorem dX7_hold_24 : decode cX7_hold 24 = .ok (.bastore, 1) := by decide +kernel
theorem dX7_hold_25 : decode cX7_hold 25 = .ok (.iload_n 3, 1) := by decide +kernel
theorem dX7_hold_26 : decode cX7_hold 26 = .ok (.ireturn, 1) := by decide +kernel
set_option maxRecDepth 20000 in
theorem ggX7_write_X7_needFile : GoodIn wsX7_write wsX7_needFile := goodIn_ca (goodIn_r _ [9, 10, 11, 3, 12, 13, 14, 15, 16, 17, 32, 33, 34, 35, 36, 37, 38, 39, 40, 41, 42, 43, 44, 45, 46, 47, 48] (by decide +kernel) (by decide +kernel)) (goodIn_sub (fun _ h => List.mem_cons_of_mem _ (List.mem_append_right _ h)) (by decide +kernel))
set_option maxRecDepth 20000 in
theorem gX7_write_X7_needFile : GoodIn wsX7_write (wsV RX7 109 RX7 yX7_needFile wsX7_needFile) := goodIn_app (goodIn_of _ (by decide +kernel)) ggX7_write_X7_needFile
set_option maxRecDepth 20000 in
theorem ggX7_write_X0_put : GoodIn wsX7_write wsX0_put := goodIn_r _ [21, 22, 49, 50, 51, 52, 53] (by decide +kernel) (by decide +kernel)
set_option maxRecDepth 20000 in
theorem gX7_write_X0_put_n150 : GoodIn wsX7_write (wsX0_put) := ggX7_write_X0_put
set_option maxRecDepth 20000 in
theorem ggX7_write_X7_noteWritten : GoodIn wsX7_write wsX7_noteWritten := goodIn_r _ [26, 4, 27, 28, 32, 33, 34, 35, 36, 37, 38, 39, 40, 41, 42, 43, 49, 50, 51, 52, 53, 54, 55, 56, 57, 58] (by decide +kernel) (by decide +kernel)
set_option maxRecDepth 20000 in
theorem gX7_write_X7_noteWritten : GoodIn wsX7_write (wsV RX7 154 RX7 yX7_noteWritten wsX7_noteWritten) := goodIn_app (goodIn_of _ (by decide +kernel)) ggX7_write_X7_noteWritten
set_option maxRecDepth 20000 in
theorem ggX7_write_X1_having : GoodIn wsX7_write wsX1_having := goodIn_r _ [31, 16, 17, 44, 45, 46, 47, 48] (by decide +kernel) (by decide +kernel)
set_option maxRecDepth 20000 in
theorem gX7_write_X1_having_n136 : GoodIn wsX7_write (wsX1_having) := ggX7_write_X1_having
theorem dX7_write_0 : decode cX7_write 0 = .ok (.aload_n 0, 1) := by decide +kernel
theorem dX7_write_1 : decode cX7_write 1 = .ok (.iload_n 1, 1) := by decide +kernel
theorem dX7_write_2 : decode cX7_write 2 = .ok (.invokevirtual 109, 3) := by decide +kernel
theorem dX7_write_5 : decode cX7_write 5 = .ok (.aload_n 0, 1) := by decide +kernel
theorem dX7_write_6 : decode cX7_write 6 = .ok (.getfield 19, 3) := by decide +kernel
theorem dX7_write_9 : decode cX7_write 9 = .ok (.getfield 112, 3) := by decide +kernel
theorem dX7_write_12 : decode cX7_write 12 = .ok (.iload_n 1, 1) := by decide +kernel
theorem dX7_write_13 : decode cX7_write 13 = .ok (.iaload, 1) := by decide +kernel
theorem dX7_write_14 : decode cX7_write 14 = .ok (.istore 4, 2) := by decide +kernel
theorem dX7_write_16 : decode cX7_write 16 = .ok (.iload_n 2, 1) := by decide +kernel
theorem dX7_write_17 : decode cX7_write 17 = .ok (.ifCond .lt 19, 3) := by decide +kernel
theorem dX7_write_20 : decode cX7_write 20 = .ok (.iload_n 2, 1) := by decide +kernel
theorem dX7_write_21 : decode cX7_write 21 = .ok (.aload_n 0, 1) := by decide +kernel
theorem dX7_write_22 : decode cX7_write 22 = .ok (.getfield 26, 3) := by decide +kernel
theorem dX7_write_25 : decode cX7_write 25 = .ok (.getfield 140, 3) := by decide +kernel
theorem dX7_write_28 : decode cX7_write 28 = .ok (.iload 4, 2) := by decide +kernel
theorem dX7_write_30 : decode cX7_write 30 = .ok (.iaload, 1) := by decide +kernel
theorem dX7_write_31 : decode cX7_write 31 = .ok (.iconst 4, 1) := by decide +kernel
theorem dX7_write_32 : decode cX7_write 32 = .ok (.isub, 1) := by decide +kernel
theorem dX7_write_33 : decode cX7_write 33 = .ok (.if_icmp .le 13, 3) := by decide +kernel
theorem dX7_write_36 : decode cX7_write 36 = .ok (.new 143, 3) := by decide +kernel
theorem dX7_write_39 : decode cX7_write 39 = .ok (.dup, 1) := by decide +kernel
theorem dX7_write_40 : decode cX7_write 40 = .ok (.ldc 145, 2) := by decide +kernel
theorem dX7_write_42 : decode cX7_write 42 = .ok (.invokespecial 147, 3) := by decide +kernel
theorem dX7_write_45 : decode cX7_write 45 = .ok (.athrow, 1) := by decide +kernel
theorem dX7_write_46 : decode cX7_write 46 = .ok (.iconst 0, 1) := by decide +kernel
theorem dX7_write_47 : decode cX7_write 47 = .ok (.istore 5, 2) := by decide +kernel
theorem dX7_write_49 : decode cX7_write 49 = .ok (.iload 5, 2) := by decide +kernel
theorem dX7_write_51 : decode cX7_write 51 = .ok (.iconst 4, 1) := by decide +kernel
theorem dX7_write_52 : decode cX7_write 52 = .ok (.if_icmp .ge 31, 3) := by decide +kernel
theorem dX7_write_55 : decode cX7_write 55 = .ok (.aload_n 0, 1) := by decide +kernel
theorem dX7_write_56 : decode cX7_write 56 = .ok (.getfield 26, 3) := by decide +kernel
theorem dX7_write_59 : decode cX7_write 59 = .ok (.iload 4, 2) := by decide +kernel
theorem dX7_write_61 : decode cX7_write 61 = .ok (.iload_n 2, 1) := by decide +kernel
theorem dX7_write_62 : decode cX7_write 62 = .ok (.iload 5, 2) := by decide +kernel
theorem dX7_write_64 : decode cX7_write 64 = .ok (.iadd, 1) := by decide +kernel
theorem dX7_write_65 : decode cX7_write 65 = .ok (.iload_n 3, 1) := by decide +kernel
theorem dX7_write_66 : decode cX7_write 66 = .ok (.bipush 8, 2) := by decide +kernel
theorem dX7_write_68 : decode cX7_write 68 = .ok (.iconst 3, 1) := by decide +kernel
theorem dX7_write_69 : decode cX7_write 69 = .ok (.iload 5, 2) := by decide +kernel
theorem dX7_write_71 : decode cX7_write 71 = .ok (.isub, 1) := by decide +kernel
theorem dX7_write_72 : decode cX7_write 72 = .ok (.imul, 1) := by decide +kernel
theorem dX7_write_73 : decode cX7_write 73 = .ok (.ishr, 1) := by decide +kernel
theorem dX7_write_74 : decode cX7_write 74 = .ok (.invokevirtual 150, 3) := by decide +kernel
theorem dX7_write_77 : decode cX7_write 77 = .ok (.iinc 5 1, 3) := by decide +kernel
theorem dX7_write_80 : decode cX7_write 80 = .ok (.goto (-31), 3) := by decide +kernel
theorem dX7_write_83 : decode cX7_write 83 = .ok (.aload_n 0, 1) := by decide +kernel
theorem dX7_write_84 : decode cX7_write 84 = .ok (.iload 4, 2) := by decide +kernel
theorem dX7_write_86 : decode cX7_write 86 = .ok (.invokevirtual 154, 3) := by decide +kernel
theorem dX7_write_89 : decode cX7_write 89 = .ok (.aload_n 0, 1) := by decide +kernel
theorem dX7_write_90 : decode cX7_write 90 = .ok (.getfield 19, 3) := by decide +kernel
theorem dX7_write_93 : decode cX7_write 93 = .ok (.iload 4, 2) := by decide +kernel
theorem dX7_write_95 : decode cX7_write 95 = .ok (.invokevirtual 136, 3) := by decide +kernel
theorem dX7_write_98 : decode cX7_write 98 = .ok (.iconst 1, 1) := by decide +kernel
theorem dX7_write_99 : decode cX7_write 99 = .ok (.isub, 1) := by decide +kernel
theorem dX7_write_100 : decode cX7_write 100 = .ok (.ireturn, 1) := by decide +kernel
set_option maxRecDepth 20000 in
theorem ggX7_fill_X7_needFile : GoodIn wsX7_fill wsX7_needFile := goodIn_ca (goodIn_r _ [9, 10, 11, 3, 12, 13, 14, 15, 16, 17, 32, 33, 34, 35, 36, 37, 38, 39, 40, 41, 42, 43, 44, 45, 46, 47, 48] (by decide +kernel) (by decide +kernel)) (goodIn_sub (fun _ h => List.mem_cons_of_mem _ (List.mem_append_right _ h)) (by decide +kernel))
set_option maxRecDepth 20000 in
theorem gX7_fill_X7_needFile : GoodIn wsX7_fill (wsV RX7 109 RX7 yX7_needFile wsX7_needFile) := goodIn_app (goodIn_of _ (by decide +kernel)) ggX7_fill_X7_needFile
set_option maxRecDepth 20000 in
theorem ggX7_fill_X0_put : GoodIn wsX7_fill wsX0_put := goodIn_r _ [21, 22, 49, 50, 51, 52, 53] (by decide +kernel) (by decide +kernel)
set_option maxRecDepth 20000 in
theorem gX7_fill_X0_put_n150 : GoodIn wsX7_fill (wsX0_put) := ggX7_fill_X0_put
set_option maxRecDepth 20000 in
theorem ggX7_fill_X7_noteWritten : GoodIn wsX7_fill wsX7_noteWritten := goodIn_r _ [26, 4, 27, 28, 32, 33, 34, 35, 36, 37, 38, 39, 40, 41, 42, 43, 49, 50, 51, 52, 53, 54, 55, 56, 57, 58] (by decide +kernel) (by decide +kernel)
set_option maxRecDepth 20000 in
theorem gX7_fill_X7_noteWritten : GoodIn wsX7_fill (wsV RX7 154 RX7 yX7_noteWritten wsX7_noteWritten) := goodIn_app (goodIn_of _ (by decide +kernel)) ggX7_fill_X7_noteWritten
set_option maxRecDepth 20000 in
theorem ggX7_fill_X1_having : GoodIn wsX7_fill wsX1_having := goodIn_r _ [31, 16, 17, 44, 45, 46, 47, 48] (by decide +kernel) (by decide +kernel)
set_option maxRecDepth 20000 in
theorem gX7_fill_X1_having_n136 : GoodIn wsX7_fill (wsX1_having) := ggX7_fill_X1_having
theorem dX7_fill_0 : decode cX7_fill 0 = .ok (.aload_n 0, 1) := by decide +kernel
theorem dX7_fill_1 : decode cX7_fill 1 = .ok (.iload_n 1, 1) := by decide +kernel
theorem dX7_fill_2 : decode cX7_fill 2 = .ok (.invokevirtual 109, 3) := by decide +kernel
theorem dX7_fill_5 : decode cX7_fill 5 = .ok (.aload_n 0, 1) := by decide +kernel
theorem dX7_fill_6 : decode cX7_fill 6 = .ok (.getfield 19, 3) := by decide +kernel
theorem dX7_fill_9 : decode cX7_fill 9 = .ok (.getfield 112, 3) := by decide +kernel
theorem dX7_fill_12 : decode cX7_fill 12 = .ok (.iload_n 1, 1) := by decide +kernel
theorem dX7_fill_13 : decode cX7_fill 13 = .ok (.iaload, 1) := by decide +kernel
theorem dX7_fill_14 : decode cX7_fill 14 = .ok (.istore 5, 2) := by decide +kernel
theorem dX7_fill_16 : decode cX7_fill 16 = .ok (.iload_n 2, 1) := by decide +kernel
theorem dX7_fill_17 : decode cX7_fill 17 = .ok (.ifCond .lt 22, 3) := by decide +kernel
theorem dX7_fill_20 : decode cX7_fill 20 = .ok (.iload_n 2, 1) := by decide +kernel
theorem dX7_fill_21 : decode cX7_fill 21 = .ok (.iload_n 3, 1) := by decide +kernel
theorem dX7_fill_22 : decode cX7_fill 22 = .ok (.if_icmp .gt 17, 3) := by decide +kernel
theorem dX7_fill_25 : decode cX7_fill 25 = .ok (.iload_n 3, 1) := by decide +kernel
theorem dX7_fill_26 : decode cX7_fill 26 = .ok (.aload_n 0, 1) := by decide +kernel
theorem dX7_fill_27 : decode cX7_fill 27 = .ok (.getfield 26, 3) := by decide +kernel
theorem dX7_fill_30 : decode cX7_fill 30 = .ok (.getfield 140, 3) := by decide +kernel
theorem dX7_fill_33 : decode cX7_fill 33 = .ok (.iload 5, 2) := by decide +kernel
theorem dX7_fill_35 : decode cX7_fill 35 = .ok (.iaload, 1) := by decide +kernel
theorem dX7_fill_36 : decode cX7_fill 36 = .ok (.if_icmp .le 13, 3) := by decide +kernel
theorem dX7_fill_39 : decode cX7_fill 39 = .ok (.new 143, 3) := by decide +kernel
theorem dX7_fill_42 : decode cX7_fill 42 = .ok (.dup, 1) := by decide +kernel
theorem dX7_fill_43 : decode cX7_fill 43 = .ok (.ldc 157, 2) := by decide +kernel
theorem dX7_fill_45 : decode cX7_fill 45 = .ok (.invokespecial 147, 3) := by decide +kernel
theorem dX7_fill_48 : decode cX7_fill 48 = .ok (.athrow, 1) := by decide +kernel
theorem dX7_fill_49 : decode cX7_fill 49 = .ok (.iload_n 2, 1) := by decide +kernel
theorem dX7_fill_50 : decode cX7_fill 50 = .ok (.istore 6, 2) := by decide +kernel
theorem dX7_fill_52 : decode cX7_fill 52 = .ok (.iload 6, 2) := by decide +kernel
theorem dX7_fill_54 : decode cX7_fill 54 = .ok (.iload_n 3, 1) := by decide +kernel
theorem dX7_fill_55 : decode cX7_fill 55 = .ok (.if_icmp .ge 22, 3) := by decide +kernel
theorem dX7_fill_58 : decode cX7_fill 58 = .ok (.aload_n 0, 1) := by decide +kernel
theorem dX7_fill_59 : decode cX7_fill 59 = .ok (.getfield 26, 3) := by decide +kernel
theorem dX7_fill_62 : decode cX7_fill 62 = .ok (.iload 5, 2) := by decide +kernel
theorem dX7_fill_64 : decode cX7_fill 64 = .ok (.iload 6, 2) := by decide +kernel
theorem dX7_fill_66 : decode cX7_fill 66 = .ok (.iload 4, 2) := by decide +kernel
theorem dX7_fill_68 : decode cX7_fill 68 = .ok (.invokevirtual 150, 3) := by decide +kernel
theorem dX7_fill_71 : decode cX7_fill 71 = .ok (.iinc 6 1, 3) := by decide +kernel
theorem dX7_fill_74 : decode cX7_fill 74 = .ok (.goto (-22), 3) := by decide +kernel
theorem dX7_fill_77 : decode cX7_fill 77 = .ok (.iload_n 2, 1) := by decide +kernel
theorem dX7_fill_78 : decode cX7_fill 78 = .ok (.iload_n 3, 1) := by decide +kernel
theorem dX7_fill_79 : decode cX7_fill 79 = .ok (.if_icmp .ge 9, 3) := by decide +kernel
theorem dX7_fill_82 : decode cX7_fill 82 = .ok (.aload_n 0, 1) := by decide +kernel
theorem dX7_fill_83 : decode cX7_fill 83 = .ok (.iload 5, 2) := by decide +kernel
theorem dX7_fill_85 : decode cX7_fill 85 = .ok (.invokevirtual 154, 3) := by decide +kernel
theorem dX7_fill_88 : decode cX7_fill 88 = .ok (.aload_n 0, 1) := by decide +kernel
theorem dX7_fill_89 : decode cX7_fill 89 = .ok (.getfield 19, 3) := by decide +kernel
theorem dX7_fill_92 : decode cX7_fill 92 = .ok (.iload 5, 2) := by decide +kernel
theorem dX7_fill_94 : decode cX7_fill 94 = .ok (.invokevirtual 136, 3) := by decide +kernel
theorem dX7_fill_97 : decode cX7_fill 97 = .ok (.iconst 1, 1) := by decide +kernel
theorem dX7_fill_98 : decode cX7_fill 98 = .ok (.isub, 1) := by decide +kernel
theorem dX7_fill_99 : decode cX7_fill 99 = .ok (.ireturn, 1) := by decide +kernel
set_option maxRecDepth 20000 in
theorem ggX7_at_X7_needFile : GoodIn wsX7_at wsX7_needFile := goodIn_ca (goodIn_r _ [9, 1, 2, 3, 10, 11, 12, 13, 14, 15, 21, 22, 23, 24, 25, 26, 27, 28, 29, 30, 31, 32, 33, 34, 35, 36, 37] (by decide +kernel) (by decide +kernel)) (goodIn_sub (fun _ h => List.mem_cons_of_mem _ (List.mem_append_right _ h)) (by decide +kernel))
set_option maxRecDepth 20000 in
theorem gX7_at_X7_needFile : GoodIn wsX7_at (wsV RX7 109 RX7 yX7_needFile wsX7_needFile) := goodIn_app (goodIn_of _ (by decide +kernel)) ggX7_at_X7_needFile
set_option maxRecDepth 20000 in
theorem ggX7_at_X0_byteOf : GoodIn wsX7_at wsX0_byteOf := goodIn_r _ [19, 20, 38, 39, 40, 41, 42] (by decide +kernel) (by decide +kernel)
set_option maxRecDepth 20000 in
theorem gX7_at_X0_byteOf_n164 : GoodIn wsX7_at (wsX0_byteOf) := ggX7_at_X0_byteOf
theorem dX7_at_0 : decode cX7_at 0 = .ok (.aload_n 0, 1) := by decide +kernel
theorem dX7_at_1 : decode cX7_at 1 = .ok (.iload_n 1, 1) := by decide +kernel
theorem dX7_at_2 : decode cX7_at 2 = .ok (.invokevirtual 109, 3) := by decide +kernel
theorem dX7_at_5 : decode cX7_at 5 = .ok (.aload_n 0, 1) := by decide +kernel
theorem dX7_at_6 : decode cX7_at 6 = .ok (.getfield 19, 3) := by decide +kernel
theorem dX7_at_9 : decode cX7_at 9 = .ok (.getfield 112, 3) := by decide +kernel
theorem dX7_at_12 : decode cX7_at 12 = .ok (.iload_n 1, 1) := by decide +kernel
theorem dX7_at_13 : decode cX7_at 13 = .ok (.iaload, 1) := by decide +kernel
theorem dX7_at_14 : decode cX7_at 14 = .ok (.istore_n 3, 1) := by decide +kernel
theorem dX7_at_15 : decode cX7_at 15 = .ok (.iload_n 2, 1) := by decide +kernel
theorem dX7_at_16 : decode cX7_at 16 = .ok (.ifCond .lt 16, 3) := by decide +kernel
theorem dX7_at_19 : decode cX7_at 19 = .ok (.iload_n 2, 1) := by decide +kernel
theorem dX7_at_20 : decode cX7_at 20 = .ok (.aload_n 0, 1) := by decide +kernel
theorem dX7_at_21 : decode cX7_at 21 = .ok (.getfield 26, 3) := by decide +kernel
theorem dX7_at_24 : decode cX7_at 24 = .ok (.getfield 140, 3) := by decide +kernel
theorem dX7_at_27 : decode cX7_at 27 = .ok (.iload_n 3, 1) := by decide +kernel
theorem dX7_at_28 : decode cX7_at 28 = .ok (.iaload, 1) := by decide +kernel
theorem dX7_at_29 : decode cX7_at 29 = .ok (.if_icmp .lt 13, 3) := by decide +kernel
theorem dX7_at_32 : decode cX7_at 32 = .ok (.new 159, 3) := by decide +kernel
theorem dX7_at_35 : decode cX7_at 35 = .ok (.dup, 1) := by decide +kernel
theorem dX7_at_36 : decode cX7_at 36 = .ok (.ldc 161, 2) := by decide +kernel
theorem dX7_at_38 : decode cX7_at 38 = .ok (.invokespecial 163, 3) := by decide +kernel
theorem dX7_at_41 : decode cX7_at 41 = .ok (.athrow, 1) := by decide +kernel
theorem dX7_at_42 : decode cX7_at 42 = .ok (.aload_n 0, 1) := by decide +kernel
theorem dX7_at_43 : decode cX7_at 43 = .ok (.getfield 26, 3) := by decide +kernel
theorem dX7_at_46 : decode cX7_at 46 = .ok (.iload_n 3, 1) := by decide +kernel
theorem dX7_at_47 : decode cX7_at 47 = .ok (.iload_n 2, 1) := by decide +kernel
theorem dX7_at_48 : decode cX7_at 48 = .ok (.invokevirtual 164, 3) := by decide +kernel
theorem dX7_at_51 : decode cX7_at 51 = .ok (.ireturn, 1) := by decide +kernel
set_option maxRecDepth 20000 in
theorem ggX7_about_X7_needFile : GoodIn wsX7_about wsX7_needFile := goodIn_ca (goodIn_r _ [10, 1, 2, 3, 11, 12, 13, 14, 15, 16, 20, 21, 22, 23, 24, 25, 26, 27, 28, 29, 30, 31, 32, 33, 34, 35, 36] (by decide +kernel) (by decide +kernel)) (goodIn_sub (fun _ h => List.mem_cons_of_mem _ (List.mem_append_right _ h)) (by decide +kernel))
set_option maxRecDepth 20000 in
theorem gX7_about_X7_needFile : GoodIn wsX7_about (wsV RX7 109 RX7 yX7_needFile wsX7_needFile) := goodIn_app (goodIn_of _ (by decide +kernel)) ggX7_about_X7_needFile
set_option maxRecDepth 20000 in
theorem ggX7_about_X1_having : GoodIn wsX7_about wsX1_having := goodIn_r _ [19, 15, 16, 32, 33, 34, 35, 36] (by decide +kernel) (by decide +kernel)
set_option maxRecDepth 20000 in
theorem gX7_about_X1_having_n136 : GoodIn wsX7_about (wsX1_having) := ggX7_about_X1_having
theorem dX7_about_0 : decode cX7_about 0 = .ok (.aload_n 0, 1) := by decide +kernel
theorem dX7_about_1 : decode cX7_about 1 = .ok (.iload_n 1, 1) := by decide +kernel
theorem dX7_about_2 : decode cX7_about 2 = .ok (.invokevirtual 109, 3) := by decide +kernel
theorem dX7_about_5 : decode cX7_about 5 = .ok (.aload_n 0, 1) := by decide +kernel
theorem dX7_about_6 : decode cX7_about 6 = .ok (.getfield 19, 3) := by decide +kernel
theorem dX7_about_9 : decode cX7_about 9 = .ok (.getfield 112, 3) := by decide +kernel
theorem dX7_about_12 : decode cX7_about 12 = .ok (.iload_n 1, 1) := by decide +kernel
theorem dX7_about_13 : decode cX7_about 13 = .ok (.iaload, 1) := by decide +kernel
theorem dX7_about_14 : decode cX7_about 14 = .ok (.istore_n 3, 1) := by decide +kernel
theorem dX7_about_15 : decode cX7_about 15 = .ok (.iload_n 2, 1) := by decide +kernel
theorem dX7_about_16 : decode cX7_about 16 = .ok (.tableswitch 149 0 8 #[52, 62, 72, 74, 84, 94, 104, 113, 131], 52) := by decide +kernel
theorem dX7_about_68 : decode cX7_about 68 = .ok (.aload_n 0, 1) := by decide +kernel
theorem dX7_about_69 : decode cX7_about 69 = .ok (.getfield 19, 3) := by decide +kernel
theorem dX7_about_72 : decode cX7_about 72 = .ok (.getfield 124, 3) := by decide +kernel
theorem dX7_about_75 : decode cX7_about 75 = .ok (.iload_n 1, 1) := by decide +kernel
theorem dX7_about_76 : decode cX7_about 76 = .ok (.iaload, 1) := by decide +kernel
theorem dX7_about_77 : decode cX7_about 77 = .ok (.ireturn, 1) := by decide +kernel
theorem dX7_about_78 : decode cX7_about 78 = .ok (.aload_n 0, 1) := by decide +kernel
theorem dX7_about_79 : decode cX7_about 79 = .ok (.getfield 19, 3) := by decide +kernel
theorem dX7_about_82 : decode cX7_about 82 = .ok (.getfield 127, 3) := by decide +kernel
theorem dX7_about_85 : decode cX7_about 85 = .ok (.iload_n 1, 1) := by decide +kernel
theorem dX7_about_86 : decode cX7_about 86 = .ok (.iaload, 1) := by decide +kernel
theorem dX7_about_87 : decode cX7_about 87 = .ok (.ireturn, 1) := by decide +kernel
theorem dX7_about_88 : decode cX7_about 88 = .ok (.iload_n 3, 1) := by decide +kernel
theorem dX7_about_89 : decode cX7_about 89 = .ok (.ireturn, 1) := by decide +kernel
theorem dX7_about_90 : decode cX7_about 90 = .ok (.aload_n 0, 1) := by decide +kernel
theorem dX7_about_91 : decode cX7_about 91 = .ok (.getfield 26, 3) := by decide +kernel
theorem dX7_about_94 : decode cX7_about 94 = .ok (.getfield 140, 3) := by decide +kernel
theorem dX7_about_97 : decode cX7_about 97 = .ok (.iload_n 3, 1) := by decide +kernel
theorem dX7_about_98 : decode cX7_about 98 = .ok (.iaload, 1) := by decide +kernel
theorem dX7_about_99 : decode cX7_about 99 = .ok (.ireturn, 1) := by decide +kernel
theorem dX7_about_100 : decode cX7_about 100 = .ok (.aload_n 0, 1) := by decide +kernel
theorem dX7_about_101 : decode cX7_about 101 = .ok (.getfield 26, 3) := by decide +kernel
theorem dX7_about_104 : decode cX7_about 104 = .ok (.getfield 115, 3) := by decide +kernel
theorem dX7_about_107 : decode cX7_about 107 = .ok (.iload_n 3, 1) := by decide +kernel
theorem dX7_about_108 : decode cX7_about 108 = .ok (.iaload, 1) := by decide +kernel
theorem dX7_about_109 : decode cX7_about 109 = .ok (.ireturn, 1) := by decide +kernel
theorem dX7_about_110 : decode cX7_about 110 = .ok (.aload_n 0, 1) := by decide +kernel
theorem dX7_about_111 : decode cX7_about 111 = .ok (.getfield 26, 3) := by decide +kernel
theorem dX7_about_114 : decode cX7_about 114 = .ok (.getfield 167, 3) := by decide +kernel
theorem dX7_about_117 : decode cX7_about 117 = .ok (.iload_n 3, 1) := by decide +kernel
theorem dX7_about_118 : decode cX7_about 118 = .ok (.iaload, 1) := by decide +kernel
theorem dX7_about_119 : decode cX7_about 119 = .ok (.ireturn, 1) := by decide +kernel
theorem dX7_about_120 : decode cX7_about 120 = .ok (.aload_n 0, 1) := by decide +kernel
theorem dX7_about_121 : decode cX7_about 121 = .ok (.getfield 19, 3) := by decide +kernel
theorem dX7_about_124 : decode cX7_about 124 = .ok (.iload_n 3, 1) := by decide +kernel
theorem dX7_about_125 : decode cX7_about 125 = .ok (.invokevirtual 136, 3) := by decide +kernel
theorem dX7_about_128 : decode cX7_about 128 = .ok (.ireturn, 1) := by decide +kernel
theorem dX7_about_129 : decode cX7_about 129 = .ok (.aload_n 0, 1) := by decide +kernel
theorem dX7_about_130 : decode cX7_about 130 = .ok (.getfield 19, 3) := by decide +kernel
theorem dX7_about_133 : decode cX7_about 133 = .ok (.getfield 130, 3) := by decide +kernel
theorem dX7_about_136 : decode cX7_about 136 = .ok (.iload_n 1, 1) := by decide +kernel
theorem dX7_about_137 : decode cX7_about 137 = .ok (.baload, 1) := by decide +kernel
theorem dX7_about_138 : decode cX7_about 138 = .ok (.ifCond .eq 7, 3) := by decide +kernel
theorem dX7_about_141 : decode cX7_about 141 = .ok (.iconst 1, 1) := by decide +kernel
theorem dX7_about_142 : decode cX7_about 142 = .ok (.goto 4, 3) := by decide +kernel
theorem dX7_about_145 : decode cX7_about 145 = .ok (.iconst 0, 1) := by decide +kernel
theorem dX7_about_146 : decode cX7_about 146 = .ok (.ireturn, 1) := by decide +kernel
theorem dX7_about_147 : decode cX7_about 147 = .ok (.aload_n 0, 1) := by decide +kernel
theorem dX7_about_148 : decode cX7_about 148 = .ok (.getfield 10, 3) := by decide +kernel
theorem dX7_about_151 : decode cX7_about 151 = .ok (.getfield 169, 3) := by decide +kernel
theorem dX7_about_154 : decode cX7_about 154 = .ok (.aload_n 0, 1) := by decide +kernel
theorem dX7_about_155 : decode cX7_about 155 = .ok (.getfield 19, 3) := by decide +kernel
theorem dX7_about_158 : decode cX7_about 158 = .ok (.getfield 124, 3) := by decide +kernel
theorem dX7_about_161 : decode cX7_about 161 = .ok (.iload_n 1, 1) := by decide +kernel
theorem dX7_about_162 : decode cX7_about 162 = .ok (.iaload, 1) := by decide +kernel
theorem dX7_about_163 : decode cX7_about 163 = .ok (.iaload, 1) := by decide +kernel
theorem dX7_about_164 : decode cX7_about 164 = .ok (.ireturn, 1) := by decide +kernel
theorem dX7_about_165 : decode cX7_about 165 = .ok (.new 159, 3) := by decide +kernel
theorem dX7_about_168 : decode cX7_about 168 = .ok (.dup, 1) := by decide +kernel
theorem dX7_about_169 : decode cX7_about 169 = .ok (.ldc 172, 2) := by decide +kernel
theorem dX7_about_171 : decode cX7_about 171 = .ok (.invokespecial 163, 3) := by decide +kernel
theorem dX7_about_174 : decode cX7_about 174 = .ok (.athrow, 1) := by decide +kernel
set_option maxRecDepth 20000 in
theorem ggX7_find_X2_search : GoodIn wsX7_find wsX2_search := goodIn_r _ [7, 8, 9, 10, 11, 5, 12, 13, 14, 15, 16, 17, 18, 19, 20, 21, 22, 23, 24, 25, 26, 27, 28, 29, 30, 31, 32, 33, 34, 35, 36, 37, 38, 39, 40, 41, 42, 43, 44, 45, 46, 47, 48, 49, 50, 51, 52, 53, 54, 55, 56, 57, 58, 59, 60, 61, 62, 63, 64, 65, 66, 67, 80, 81, 82, 83, 84, 85, 86, 87, 88, 89, 90, 91, 92, 93, 94] (by decide +kernel) (by decide +kernel)
set_option maxRecDepth 20000 in
theorem gX7_find_X2_search_n174 : GoodIn wsX7_find (wsX2_search) := ggX7_find_X2_search
theorem dX7_find_0 : decode cX7_find 0 = .ok (.aload_n 0, 1) := by decide +kernel
theorem dX7_find_1 : decode cX7_find 1 = .ok (.getfield 33, 3) := by decide +kernel
theorem dX7_find_4 : decode cX7_find 4 = .ok (.aload_n 0, 1) := by decide +kernel
theorem dX7_find_5 : decode cX7_find 5 = .ok (.getfield 19, 3) := by decide +kernel
theorem dX7_find_8 : decode cX7_find 8 = .ok (.aload_n 0, 1) := by decide +kernel
theorem dX7_find_9 : decode cX7_find 9 = .ok (.getfield 26, 3) := by decide +kernel
theorem dX7_find_12 : decode cX7_find 12 = .ok (.invokevirtual 174, 3) := by decide +kernel
theorem dX7_find_15 : decode cX7_find 15 = .ok (.aload_n 0, 1) := by decide +kernel
theorem dX7_find_16 : decode cX7_find 16 = .ok (.getfield 33, 3) := by decide +kernel
theorem dX7_find_19 : decode cX7_find 19 = .ok (.getfield 178, 3) := by decide +kernel
theorem dX7_find_22 : decode cX7_find 22 = .ok (.ireturn, 1) := by decide +kernel
theorem dX7_reads_0 : decode cX7_reads 0 = .ok (.aload_n 0, 1) := by decide +kernel
theorem dX7_reads_1 : decode cX7_reads 1 = .ok (.getfield 33, 3) := by decide +kernel
theorem dX7_reads_4 : decode cX7_reads 4 = .ok (.getfield 181, 3) := by decide +kernel
theorem dX7_reads_7 : decode cX7_reads 7 = .ok (.ireturn, 1) := by decide +kernel
set_option maxRecDepth 20000 in
theorem ggX7_groupOf_X7_needFile : GoodIn wsX7_groupOf wsX7_needFile := goodIn_ca (goodIn_r _ [7, 8, 9, 2, 10, 11, 12, 13, 14, 15, 16, 17, 18, 19, 20, 21, 22, 23, 24, 25, 26, 27, 33, 34, 35, 36, 37] (by decide +kernel) (by decide +kernel)) (goodIn_sub (fun _ h => List.mem_cons_of_mem _ (List.mem_append_right _ h)) (by decide +kernel))
set_option maxRecDepth 20000 in
theorem gX7_groupOf_X7_needFile : GoodIn wsX7_groupOf (wsV RX7 109 RX7 yX7_needFile wsX7_needFile) := goodIn_app (goodIn_of _ (by decide +kernel)) ggX7_groupOf_X7_needFile
theorem dX7_groupOf_0 : decode cX7_groupOf 0 = .ok (.aload_n 0, 1) := by decide +kernel
theorem dX7_groupOf_1 : decode cX7_groupOf 1 = .ok (.iload_n 1, 1) := by decide +kernel
theorem dX7_groupOf_2 : decode cX7_groupOf 2 = .ok (.invokevirtual 109, 3) := by decide +kernel
theorem dX7_groupOf_5 : decode cX7_groupOf 5 = .ok (.aload_n 0, 1) := by decide +kernel
theorem dX7_groupOf_6 : decode cX7_groupOf 6 = .ok (.getfield 33, 3) := by decide +kernel
theorem dX7_groupOf_9 : decode cX7_groupOf 9 = .ok (.getfield 184, 3) := by decide +kernel
theorem dX7_groupOf_12 : decode cX7_groupOf 12 = .ok (.aload_n 0, 1) := by decide +kernel
theorem dX7_groupOf_13 : decode cX7_groupOf 13 = .ok (.getfield 19, 3) := by decide +kernel
theorem dX7_groupOf_16 : decode cX7_groupOf 16 = .ok (.getfield 112, 3) := by decide +kernel
theorem dX7_groupOf_19 : decode cX7_groupOf 19 = .ok (.iload_n 1, 1) := by decide +kernel
theorem dX7_groupOf_20 : decode cX7_groupOf 20 = .ok (.iaload, 1) := by decide +kernel
theorem dX7_groupOf_21 : decode cX7_groupOf 21 = .ok (.iaload, 1) := by decide +kernel
theorem dX7_groupOf_22 : decode cX7_groupOf 22 = .ok (.ireturn, 1) := by decide +kernel
set_option maxRecDepth 20000 in
theorem ggX7_member_X7_needGroup : GoodIn wsX7_member wsX7_needGroup := goodIn_ca (goodIn_r _ [8, 1, 2, 9, 20, 21, 22, 23, 24, 25, 26, 27, 28, 29, 30, 31, 37, 38, 39, 40, 41] (by decide +kernel) (by decide +kernel)) (goodIn_sub (fun _ h => List.mem_cons_of_mem _ (List.mem_append_right _ h)) (by decide +kernel))
set_option maxRecDepth 20000 in
theorem gX7_member_X7_needGroup : GoodIn wsX7_member (wsV RX7 187 RX7 yX7_needGroup wsX7_needGroup) := goodIn_app (goodIn_of _ (by decide +kernel)) ggX7_member_X7_needGroup
set_option maxRecDepth 20000 in
theorem ggX7_member_X7_isMember : GoodIn wsX7_member wsX7_isMember := goodIn_r _ [13, 3, 9, 14, 15, 16, 17, 18, 19, 20, 21, 22, 23, 24, 25, 26, 27, 28, 29, 30, 31, 37, 38, 39, 40, 41, 32, 33, 34, 35, 36] (by decide +kernel) (by decide +kernel)
set_option maxRecDepth 20000 in
theorem gX7_member_X7_isMember : GoodIn wsX7_member (wsV RX7 193 RX7 yX7_isMember wsX7_isMember) := goodIn_app (goodIn_of _ (by decide +kernel)) ggX7_member_X7_isMember
theorem dX7_member_0 : decode cX7_member 0 = .ok (.aload_n 0, 1) := by decide +kernel
theorem dX7_member_1 : decode cX7_member 1 = .ok (.iload_n 1, 1) := by decide +kernel
theorem dX7_member_2 : decode cX7_member 2 = .ok (.invokevirtual 187, 3) := by decide +kernel
theorem dX7_member_5 : decode cX7_member 5 = .ok (.iconst 0, 1) := by decide +kernel
theorem dX7_member_6 : decode cX7_member 6 = .ok (.istore_n 3, 1) := by decide +kernel
theorem dX7_member_7 : decode cX7_member 7 = .ok (.iconst 0, 1) := by decide +kernel
theorem dX7_member_8 : decode cX7_member 8 = .ok (.istore 4, 2) := by decide +kernel
theorem dX7_member_10 : decode cX7_member 10 = .ok (.iload 4, 2) := by decide +kernel
theorem dX7_member_12 : decode cX7_member 12 = .ok (.aload_n 0, 1) := by decide +kernel
theorem dX7_member_13 : decode cX7_member 13 = .ok (.getfield 19, 3) := by decide +kernel
theorem dX7_member_16 : decode cX7_member 16 = .ok (.getfield 190, 3) := by decide +kernel
theorem dX7_member_19 : decode cX7_member 19 = .ok (.if_icmp .ge 30, 3) := by decide +kernel
theorem dX7_member_22 : decode cX7_member 22 = .ok (.aload_n 0, 1) := by decide +kernel
theorem dX7_member_23 : decode cX7_member 23 = .ok (.iload 4, 2) := by decide +kernel
theorem dX7_member_25 : decode cX7_member 25 = .ok (.iload_n 1, 1) := by decide +kernel
theorem dX7_member_26 : decode cX7_member 26 = .ok (.invokevirtual 193, 3) := by decide +kernel
theorem dX7_member_29 : decode cX7_member 29 = .ok (.ifCond .eq 14, 3) := by decide +kernel
theorem dX7_member_32 : decode cX7_member 32 = .ok (.iload_n 3, 1) := by decide +kernel
theorem dX7_member_33 : decode cX7_member 33 = .ok (.iload_n 2, 1) := by decide +kernel
theorem dX7_member_34 : decode cX7_member 34 = .ok (.if_icmp .ne 6, 3) := by decide +kernel
theorem dX7_member_37 : decode cX7_member 37 = .ok (.iload 4, 2) := by decide +kernel
theorem dX7_member_39 : decode cX7_member 39 = .ok (.ireturn, 1) := by decide +kernel
theorem dX7_member_40 : decode cX7_member 40 = .ok (.iinc 3 1, 3) := by decide +kernel
theorem dX7_member_43 : decode cX7_member 43 = .ok (.iinc 4 1, 3) := by decide +kernel
theorem dX7_member_46 : decode cX7_member 46 = .ok (.goto (-36), 3) := by decide +kernel
theorem dX7_member_49 : decode cX7_member 49 = .ok (.iload_n 2, 1) := by decide +kernel
theorem dX7_member_50 : decode cX7_member 50 = .ok (.iconst (-1), 1) := by decide +kernel
theorem dX7_member_51 : decode cX7_member 51 = .ok (.if_icmp .eq 13, 3) := by decide +kernel
theorem dX7_member_54 : decode cX7_member 54 = .ok (.new 159, 3) := by decide +kernel
theorem dX7_member_57 : decode cX7_member 57 = .ok (.dup, 1) := by decide +kernel
theorem dX7_member_58 : decode cX7_member 58 = .ok (.ldc 196, 2) := by decide +kernel
theorem dX7_member_60 : decode cX7_member 60 = .ok (.invokespecial 163, 3) := by decide +kernel
theorem dX7_member_63 : decode cX7_member 63 = .ok (.athrow, 1) := by decide +kernel
theorem dX7_member_64 : decode cX7_member 64 = .ok (.iload_n 3, 1) := by decide +kernel
theorem dX7_member_65 : decode cX7_member 65 = .ok (.ireturn, 1) := by decide +kernel
set_option maxRecDepth 20000 in
theorem ggX7_near_X7_needFile : GoodIn wsX7_near wsX7_needFile := goodIn_ca (goodIn_r _ [9, 10, 11, 3, 12, 13, 14, 15, 16, 17, 44, 45, 46, 47, 48, 49, 50, 51, 52, 53, 54, 55, 56, 57, 58, 59, 60] (by decide +kernel) (by decide +kernel)) (goodIn_sub (fun _ h => List.mem_cons_of_mem _ (List.mem_append_right _ h)) (by decide +kernel))
set_option maxRecDepth 20000 in
theorem gX7_near_X7_needFile : GoodIn wsX7_near (wsV RX7 109 RX7 yX7_needFile wsX7_needFile) := goodIn_app (goodIn_of _ (by decide +kernel)) ggX7_near_X7_needFile
set_option maxRecDepth 20000 in
theorem ggX7_near_X5_gather : GoodIn wsX7_near wsX5_gather := goodIn_r _ [21, 22, 23, 24, 25, 26, 27, 28, 29, 30, 31, 32, 33, 34, 19, 35, 36, 61, 62, 63, 64, 65, 66, 67] (by decide +kernel) (by decide +kernel)
set_option maxRecDepth 20000 in
theorem gX7_near_X5_gather_n198 : GoodIn wsX7_near (wsX5_gather) := ggX7_near_X5_gather
set_option maxRecDepth 20000 in
theorem ggX7_near_X5_nearnessTo : GoodIn wsX7_near wsX5_nearnessTo := goodIn_r _ [39, 22, 40, 41, 42, 19, 43, 36, 61, 62] (by decide +kernel) (by decide +kernel)
set_option maxRecDepth 20000 in
theorem gX7_near_X5_nearnessTo_n202 : GoodIn wsX7_near (wsX5_nearnessTo) := ggX7_near_X5_nearnessTo
theorem dX7_near_0 : decode cX7_near 0 = .ok (.aload_n 0, 1) := by decide +kernel
theorem dX7_near_1 : decode cX7_near 1 = .ok (.iload_n 1, 1) := by decide +kernel
theorem dX7_near_2 : decode cX7_near 2 = .ok (.invokevirtual 109, 3) := by decide +kernel
theorem dX7_near_5 : decode cX7_near 5 = .ok (.aload_n 0, 1) := by decide +kernel
theorem dX7_near_6 : decode cX7_near 6 = .ok (.iload_n 2, 1) := by decide +kernel
theorem dX7_near_7 : decode cX7_near 7 = .ok (.invokevirtual 109, 3) := by decide +kernel
theorem dX7_near_10 : decode cX7_near 10 = .ok (.aload_n 0, 1) := by decide +kernel
theorem dX7_near_11 : decode cX7_near 11 = .ok (.getfield 40, 3) := by decide +kernel
theorem dX7_near_14 : decode cX7_near 14 = .ok (.aload_n 0, 1) := by decide +kernel
theorem dX7_near_15 : decode cX7_near 15 = .ok (.getfield 26, 3) := by decide +kernel
theorem dX7_near_18 : decode cX7_near 18 = .ok (.aload_n 0, 1) := by decide +kernel
theorem dX7_near_19 : decode cX7_near 19 = .ok (.getfield 19, 3) := by decide +kernel
theorem dX7_near_22 : decode cX7_near 22 = .ok (.getfield 112, 3) := by decide +kernel
theorem dX7_near_25 : decode cX7_near 25 = .ok (.iload_n 1, 1) := by decide +kernel
theorem dX7_near_26 : decode cX7_near 26 = .ok (.iaload, 1) := by decide +kernel
theorem dX7_near_27 : decode cX7_near 27 = .ok (.invokevirtual 198, 3) := by decide +kernel
theorem dX7_near_30 : decode cX7_near 30 = .ok (.aload_n 0, 1) := by decide +kernel
theorem dX7_near_31 : decode cX7_near 31 = .ok (.getfield 44, 3) := by decide +kernel
theorem dX7_near_34 : decode cX7_near 34 = .ok (.aload_n 0, 1) := by decide +kernel
theorem dX7_near_35 : decode cX7_near 35 = .ok (.getfield 26, 3) := by decide +kernel
theorem dX7_near_38 : decode cX7_near 38 = .ok (.aload_n 0, 1) := by decide +kernel
theorem dX7_near_39 : decode cX7_near 39 = .ok (.getfield 19, 3) := by decide +kernel
theorem dX7_near_42 : decode cX7_near 42 = .ok (.getfield 112, 3) := by decide +kernel
theorem dX7_near_45 : decode cX7_near 45 = .ok (.iload_n 2, 1) := by decide +kernel
theorem dX7_near_46 : decode cX7_near 46 = .ok (.iaload, 1) := by decide +kernel
theorem dX7_near_47 : decode cX7_near 47 = .ok (.invokevirtual 198, 3) := by decide +kernel
theorem dX7_near_50 : decode cX7_near 50 = .ok (.aload_n 0, 1) := by decide +kernel
theorem dX7_near_51 : decode cX7_near 51 = .ok (.getfield 40, 3) := by decide +kernel
theorem dX7_near_54 : decode cX7_near 54 = .ok (.aload_n 0, 1) := by decide +kernel
theorem dX7_near_55 : decode cX7_near 55 = .ok (.getfield 44, 3) := by decide +kernel
theorem dX7_near_58 : decode cX7_near 58 = .ok (.invokevirtual 202, 3) := by decide +kernel
theorem dX7_near_61 : decode cX7_near 61 = .ok (.ireturn, 1) := by decide +kernel
set_option maxRecDepth 20000 in
theorem ggX7_nearest_X7_needFile : GoodIn wsX7_nearest wsX7_needFile := goodIn_ca (goodIn_r _ [11, 12, 13, 5, 14, 15, 16, 17, 18, 19, 46, 47, 48, 49, 50, 51, 52, 53, 54, 55, 56, 57, 58, 59, 60, 61, 62] (by decide +kernel) (by decide +kernel)) (goodIn_sub (fun _ h => List.mem_cons_of_mem _ (List.mem_append_right _ h)) (by decide +kernel))
set_option maxRecDepth 20000 in
theorem gX7_nearest_X7_needFile : GoodIn wsX7_nearest (wsV RX7 109 RX7 yX7_needFile wsX7_needFile) := goodIn_app (goodIn_of _ (by decide +kernel)) ggX7_nearest_X7_needFile
set_option maxRecDepth 20000 in
theorem ggX7_nearest_X5_gather : GoodIn wsX7_nearest wsX5_gather := goodIn_r _ [23, 24, 25, 26, 27, 28, 29, 30, 31, 32, 33, 34, 35, 36, 21, 37, 38, 63, 64, 65, 66, 67, 68, 69] (by decide +kernel) (by decide +kernel)
set_option maxRecDepth 20000 in
theorem gX7_nearest_X5_gather_n198 : GoodIn wsX7_nearest (wsX5_gather) := ggX7_nearest_X5_gather
set_option maxRecDepth 20000 in
theorem ggX7_nearest_X1_has : GoodIn wsX7_nearest wsX1_has := goodIn_r _ [17, 18, 19, 58, 59, 60, 61, 62] (by decide +kernel) (by decide +kernel)
set_option maxRecDepth 20000 in
theorem gX7_nearest_X1_has_n208 : GoodIn wsX7_nearest (wsX1_has) := ggX7_nearest_X1_has
set_option maxRecDepth 20000 in
theorem ggX7_nearest_X5_nearnessTo : GoodIn wsX7_nearest wsX5_nearnessTo := goodIn_r _ [41, 24, 42, 43, 44, 21, 45, 38, 63, 64] (by decide +kernel) (by decide +kernel)
set_option maxRecDepth 20000 in
theorem gX7_nearest_X5_nearnessTo_n202 : GoodIn wsX7_nearest (wsX5_nearnessTo) := ggX7_nearest_X5_nearnessTo
theorem dX7_nearest_0 : decode cX7_nearest 0 = .ok (.aload_n 0, 1) := by decide +kernel
theorem dX7_nearest_1 : decode cX7_nearest 1 = .ok (.iload_n 1, 1) := by decide +kernel
theorem dX7_nearest_2 : decode cX7_nearest 2 = .ok (.invokevirtual 109, 3) := by decide +kernel
theorem dX7_nearest_5 : decode cX7_nearest 5 = .ok (.iload_n 2, 1) := by decide +kernel
theorem dX7_nearest_6 : decode cX7_nearest 6 = .ok (.ifCond .lt 10, 3) := by decide +kernel
theorem dX7_nearest_9 : decode cX7_nearest 9 = .ok (.iload_n 2, 1) := by decide +kernel
theorem dX7_nearest_10 : decode cX7_nearest 10 = .ok (.sipush 1000, 3) := by decide +kernel
theorem dX7_nearest_13 : decode cX7_nearest 13 = .ok (.if_icmp .le 13, 3) := by decide +kernel
theorem dX7_nearest_16 : decode cX7_nearest 16 = .ok (.new 143, 3) := by decide +kernel
theorem dX7_nearest_19 : decode cX7_nearest 19 = .ok (.dup, 1) := by decide +kernel
theorem dX7_nearest_20 : decode cX7_nearest 20 = .ok (.ldc 206, 2) := by decide +kernel
theorem dX7_nearest_22 : decode cX7_nearest 22 = .ok (.invokespecial 147, 3) := by decide +kernel
theorem dX7_nearest_25 : decode cX7_nearest 25 = .ok (.athrow, 1) := by decide +kernel
theorem dX7_nearest_26 : decode cX7_nearest 26 = .ok (.aload_n 0, 1) := by decide +kernel
theorem dX7_nearest_27 : decode cX7_nearest 27 = .ok (.getfield 40, 3) := by decide +kernel
theorem dX7_nearest_30 : decode cX7_nearest 30 = .ok (.aload_n 0, 1) := by decide +kernel
theorem dX7_nearest_31 : decode cX7_nearest 31 = .ok (.getfield 26, 3) := by decide +kernel
theorem dX7_nearest_34 : decode cX7_nearest 34 = .ok (.aload_n 0, 1) := by decide +kernel
theorem dX7_nearest_35 : decode cX7_nearest 35 = .ok (.getfield 19, 3) := by decide +kernel
theorem dX7_nearest_38 : decode cX7_nearest 38 = .ok (.getfield 112, 3) := by decide +kernel
theorem dX7_nearest_41 : decode cX7_nearest 41 = .ok (.iload_n 1, 1) := by decide +kernel
theorem dX7_nearest_42 : decode cX7_nearest 42 = .ok (.iaload, 1) := by decide +kernel
theorem dX7_nearest_43 : decode cX7_nearest 43 = .ok (.invokevirtual 198, 3) := by decide +kernel
theorem dX7_nearest_46 : decode cX7_nearest 46 = .ok (.iconst (-1), 1) := by decide +kernel
theorem dX7_nearest_47 : decode cX7_nearest 47 = .ok (.istore_n 3, 1) := by decide +kernel
theorem dX7_nearest_48 : decode cX7_nearest 48 = .ok (.iload_n 2, 1) := by decide +kernel
theorem dX7_nearest_49 : decode cX7_nearest 49 = .ok (.iconst 1, 1) := by decide +kernel
theorem dX7_nearest_50 : decode cX7_nearest 50 = .ok (.isub, 1) := by decide +kernel
theorem dX7_nearest_51 : decode cX7_nearest 51 = .ok (.istore 4, 2) := by decide +kernel
theorem dX7_nearest_53 : decode cX7_nearest 53 = .ok (.iconst 0, 1) := by decide +kernel
theorem dX7_nearest_54 : decode cX7_nearest 54 = .ok (.istore 5, 2) := by decide +kernel
theorem dX7_nearest_56 : decode cX7_nearest 56 = .ok (.iload 5, 2) := by decide +kernel
theorem dX7_nearest_58 : decode cX7_nearest 58 = .ok (.aload_n 0, 1) := by decide +kernel
theorem dX7_nearest_59 : decode cX7_nearest 59 = .ok (.getfield 19, 3) := by decide +kernel
theorem dX7_nearest_62 : decode cX7_nearest 62 = .ok (.getfield 190, 3) := by decide +kernel
theorem dX7_nearest_65 : decode cX7_nearest 65 = .ok (.if_icmp .ge 91, 3) := by decide +kernel
theorem dX7_nearest_68 : decode cX7_nearest 68 = .ok (.aload_n 0, 1) := by decide +kernel
theorem dX7_nearest_69 : decode cX7_nearest 69 = .ok (.getfield 19, 3) := by decide +kernel
theorem dX7_nearest_72 : decode cX7_nearest 72 = .ok (.iload 5, 2) := by decide +kernel
theorem dX7_nearest_74 : decode cX7_nearest 74 = .ok (.invokevirtual 208, 3) := by decide +kernel
theorem dX7_nearest_77 : decode cX7_nearest 77 = .ok (.ifCond .eq 73, 3) := by decide +kernel
theorem dX7_nearest_80 : decode cX7_nearest 80 = .ok (.aload_n 0, 1) := by decide +kernel
theorem dX7_nearest_81 : decode cX7_nearest 81 = .ok (.getfield 19, 3) := by decide +kernel
theorem dX7_nearest_84 : decode cX7_nearest 84 = .ok (.getfield 112, 3) := by decide +kernel
theorem dX7_nearest_87 : decode cX7_nearest 87 = .ok (.iload 5, 2) := by decide +kernel
theorem dX7_nearest_89 : decode cX7_nearest 89 = .ok (.iaload, 1) := by decide +kernel
theorem dX7_nearest_90 : decode cX7_nearest 90 = .ok (.aload_n 0, 1) := by decide +kernel
theorem dX7_nearest_91 : decode cX7_nearest 91 = .ok (.getfield 19, 3) := by decide +kernel
theorem dX7_nearest_94 : decode cX7_nearest 94 = .ok (.getfield 112, 3) := by decide +kernel
theorem dX7_nearest_97 : decode cX7_nearest 97 = .ok (.iload_n 1, 1) := by decide +kernel
theorem dX7_nearest_98 : decode cX7_nearest 98 = .ok (.iaload, 1) := by decide +kernel
theorem dX7_nearest_99 : decode cX7_nearest 99 = .ok (.if_icmp .eq 51, 3) := by decide +kernel
theorem dX7_nearest_102 : decode cX7_nearest 102 = .ok (.aload_n 0, 1) := by decide +kernel
theorem dX7_nearest_103 : decode cX7_nearest 103 = .ok (.getfield 44, 3) := by decide +kernel
theorem dX7_nearest_106 : decode cX7_nearest 106 = .ok (.aload_n 0, 1) := by decide +kernel
theorem dX7_nearest_107 : decode cX7_nearest 107 = .ok (.getfield 26, 3) := by decide +kernel
theorem dX7_nearest_110 : decode cX7_nearest 110 = .ok (.aload_n 0, 1) := by decide +kernel
theorem dX7_nearest_111 : decode cX7_nearest 111 = .ok (.getfield 19, 3) := by decide +kernel
theorem dX7_nearest_114 : decode cX7_nearest 114 = .ok (.getfield 112, 3) := by decide +kernel
theorem dX7_nearest_117 : decode cX7_nearest 117 = .ok (.iload 5, 2) := by decide +kernel
theorem dX7_nearest_119 : decode cX7_nearest 119 = .ok (.iaload, 1) := by decide +kernel
theorem dX7_nearest_120 : decode cX7_nearest 120 = .ok (.invokevirtual 198, 3) := by decide +kernel
theorem dX7_nearest_123 : decode cX7_nearest 123 = .ok (.aload_n 0, 1) := by decide +kernel
theorem dX7_nearest_124 : decode cX7_nearest 124 = .ok (.getfield 40, 3) := by decide +kernel
theorem dX7_nearest_127 : decode cX7_nearest 127 = .ok (.aload_n 0, 1) := by decide +kernel
theorem dX7_nearest_128 : decode cX7_nearest 128 = .ok (.getfield 44, 3) := by decide +kernel
theorem dX7_nearest_131 : decode cX7_nearest 131 = .ok (.invokevirtual 202, 3) := by decide +kernel
theorem dX7_nearest_134 : decode cX7_nearest 134 = .ok (.istore 6, 2) := by decide +kernel
theorem dX7_nearest_136 : decode cX7_nearest 136 = .ok (.iload 6, 2) := by decide +kernel
theorem dX7_nearest_138 : decode cX7_nearest 138 = .ok (.iload 4, 2) := by decide +kernel
theorem dX7_nearest_140 : decode cX7_nearest 140 = .ok (.if_icmp .le 10, 3) := by decide +kernel
theorem dX7_nearest_143 : decode cX7_nearest 143 = .ok (.iload 5, 2) := by decide +kernel
theorem dX7_nearest_145 : decode cX7_nearest 145 = .ok (.istore_n 3, 1) := by decide +kernel
theorem dX7_nearest_146 : decode cX7_nearest 146 = .ok (.iload 6, 2) := by decide +kernel
theorem dX7_nearest_148 : decode cX7_nearest 148 = .ok (.istore 4, 2) := by decide +kernel
theorem dX7_nearest_150 : decode cX7_nearest 150 = .ok (.iinc 5 1, 3) := by decide +kernel
theorem dX7_nearest_153 : decode cX7_nearest 153 = .ok (.goto (-97), 3) := by decide +kernel
theorem dX7_nearest_156 : decode cX7_nearest 156 = .ok (.iload_n 3, 1) := by decide +kernel
theorem dX7_nearest_157 : decode cX7_nearest 157 = .ok (.ireturn, 1) := by decide +kernel
set_option maxRecDepth 20000 in
theorem ggX7_differ_X7_needFolder : GoodIn wsX7_differ wsX7_needFolder := goodIn_ca (goodIn_r _ [7, 8, 9, 2, 10, 11, 12, 13, 14, 62, 63, 64, 65, 66, 67, 68, 69, 70, 71, 72, 73, 74, 75, 76, 77] (by decide +kernel) (by decide +kernel)) (goodIn_sub (fun _ h => List.mem_cons_of_mem _ (List.mem_append_right _ h)) (by decide +kernel))
set_option maxRecDepth 20000 in
theorem gX7_differ_X7_needFolder : GoodIn wsX7_differ (wsV RX7 76 RX7 yX7_needFolder wsX7_needFolder) := goodIn_app (goodIn_of _ (by decide +kernel)) ggX7_differ_X7_needFolder
set_option maxRecDepth 20000 in
theorem ggX7_differ_J7_fill_53178 : GoodIn wsX7_differ wsJ7_fill_53178 := goodIn_r _ [18] (by decide +kernel) (by decide +kernel)
set_option maxRecDepth 20000 in
theorem gX7_differ_J7_fill_53178 : GoodIn wsX7_differ (va_wsS RX7 211 yJ7_fill_53178 wsJ7_fill_53178) := goodIn_app (goodIn_of _ (by decide +kernel)) ggX7_differ_J7_fill_53178
set_option maxRecDepth 20000 in
theorem ggX7_differ_X7_differencesHere : GoodIn wsX7_differ wsX7_differencesHere := goodIn_r _ [22, 23, 24, 25, 6, 26, 27, 28, 29, 30, 31, 32, 33, 34, 35, 36, 37, 38, 39, 40, 41, 42, 43, 44, 45, 46, 47, 48, 49, 50, 51, 52, 53, 54, 55, 56, 2, 57, 11, 58, 59, 14, 60, 61, 62, 63, 64, 65, 66, 67, 68, 69, 70, 71, 72, 73, 78, 79, 80, 81, 82, 83, 84, 85, 86, 87, 74, 75, 76, 77] (by decide +kernel) (by decide +kernel)
set_option maxRecDepth 20000 in
theorem gX7_differ_X7_differencesHere : GoodIn wsX7_differ (wsV RX7 217 RX7 yX7_differencesHere wsX7_differencesHere) := goodIn_app (goodIn_of _ (by decide +kernel)) ggX7_differ_X7_differencesHere
set_option maxRecDepth 20000 in
theorem ggX7_differ_X3_named : GoodIn wsX7_differ wsX3_named := goodIn_r _ [59, 14, 60, 61, 74, 75, 76, 77] (by decide +kernel) (by decide +kernel)
set_option maxRecDepth 20000 in
theorem gX7_differ_X3_named_n88 : GoodIn wsX7_differ (wsX3_named) := ggX7_differ_X3_named
theorem dX7_differ_0 : decode cX7_differ 0 = .ok (.aload_n 0, 1) := by decide +kernel
theorem dX7_differ_1 : decode cX7_differ 1 = .ok (.iload_n 1, 1) := by decide +kernel
theorem dX7_differ_2 : decode cX7_differ 2 = .ok (.invokevirtual 76, 3) := by decide +kernel
theorem dX7_differ_5 : decode cX7_differ 5 = .ok (.aload_n 0, 1) := by decide +kernel
theorem dX7_differ_6 : decode cX7_differ 6 = .ok (.iload_n 2, 1) := by decide +kernel
theorem dX7_differ_7 : decode cX7_differ 7 = .ok (.invokevirtual 76, 3) := by decide +kernel
theorem dX7_differ_10 : decode cX7_differ 10 = .ok (.aload_n 0, 1) := by decide +kernel
theorem dX7_differ_11 : decode cX7_differ 11 = .ok (.getfield 65, 3) := by decide +kernel
theorem dX7_differ_14 : decode cX7_differ 14 = .ok (.iconst (-1), 1) := by decide +kernel
theorem dX7_differ_15 : decode cX7_differ 15 = .ok (.invokestatic 211, 3) := by decide +kernel
theorem dX7_differ_18 : decode cX7_differ 18 = .ok (.aload_n 0, 1) := by decide +kernel
theorem dX7_differ_19 : decode cX7_differ 19 = .ok (.getfield 65, 3) := by decide +kernel
theorem dX7_differ_22 : decode cX7_differ 22 = .ok (.iload_n 1, 1) := by decide +kernel
theorem dX7_differ_23 : decode cX7_differ 23 = .ok (.iload_n 2, 1) := by decide +kernel
theorem dX7_differ_24 : decode cX7_differ 24 = .ok (.iastore, 1) := by decide +kernel
theorem dX7_differ_25 : decode cX7_differ 25 = .ok (.aload_n 0, 1) := by decide +kernel
theorem dX7_differ_26 : decode cX7_differ 26 = .ok (.iload_n 1, 1) := by decide +kernel
theorem dX7_differ_27 : decode cX7_differ 27 = .ok (.iload_n 2, 1) := by decide +kernel
theorem dX7_differ_28 : decode cX7_differ 28 = .ok (.invokevirtual 217, 3) := by decide +kernel
theorem dX7_differ_31 : decode cX7_differ 31 = .ok (.istore_n 3, 1) := by decide +kernel
theorem dX7_differ_32 : decode cX7_differ 32 = .ok (.iload_n 1, 1) := by decide +kernel
theorem dX7_differ_33 : decode cX7_differ 33 = .ok (.iconst 1, 1) := by decide +kernel
theorem dX7_differ_34 : decode cX7_differ 34 = .ok (.iadd, 1) := by decide +kernel
theorem dX7_differ_35 : decode cX7_differ 35 = .ok (.istore 4, 2) := by decide +kernel
theorem dX7_differ_37 : decode cX7_differ 37 = .ok (.iload 4, 2) := by decide +kernel
theorem dX7_differ_39 : decode cX7_differ 39 = .ok (.aload_n 0, 1) := by decide +kernel
theorem dX7_differ_40 : decode cX7_differ 40 = .ok (.getfield 10, 3) := by decide +kernel
theorem dX7_differ_43 : decode cX7_differ 43 = .ok (.getfield 220, 3) := by decide +kernel
theorem dX7_differ_46 : decode cX7_differ 46 = .ok (.if_icmp .ge 83, 3) := by decide +kernel
theorem dX7_differ_49 : decode cX7_differ 49 = .ok (.aload_n 0, 1) := by decide +kernel
theorem dX7_differ_50 : decode cX7_differ 50 = .ok (.getfield 65, 3) := by decide +kernel
theorem dX7_differ_53 : decode cX7_differ 53 = .ok (.aload_n 0, 1) := by decide +kernel
theorem dX7_differ_54 : decode cX7_differ 54 = .ok (.getfield 10, 3) := by decide +kernel
theorem dX7_differ_57 : decode cX7_differ 57 = .ok (.getfield 221, 3) := by decide +kernel
theorem dX7_differ_60 : decode cX7_differ 60 = .ok (.iload 4, 2) := by decide +kernel
theorem dX7_differ_62 : decode cX7_differ 62 = .ok (.iaload, 1) := by decide +kernel
theorem dX7_differ_63 : decode cX7_differ 63 = .ok (.iaload, 1) := by decide +kernel
theorem dX7_differ_64 : decode cX7_differ 64 = .ok (.istore 5, 2) := by decide +kernel
theorem dX7_differ_66 : decode cX7_differ 66 = .ok (.iload 5, 2) := by decide +kernel
theorem dX7_differ_68 : decode cX7_differ 68 = .ok (.iconst (-1), 1) := by decide +kernel
theorem dX7_differ_69 : decode cX7_differ 69 = .ok (.if_icmp .eq 54, 3) := by decide +kernel
theorem dX7_differ_72 : decode cX7_differ 72 = .ok (.aload_n 0, 1) := by decide +kernel
theorem dX7_differ_73 : decode cX7_differ 73 = .ok (.getfield 10, 3) := by decide +kernel
theorem dX7_differ_76 : decode cX7_differ 76 = .ok (.iload 5, 2) := by decide +kernel
theorem dX7_differ_78 : decode cX7_differ 78 = .ok (.aload_n 0, 1) := by decide +kernel
theorem dX7_differ_79 : decode cX7_differ 79 = .ok (.getfield 10, 3) := by decide +kernel
theorem dX7_differ_82 : decode cX7_differ 82 = .ok (.getfield 224, 3) := by decide +kernel
theorem dX7_differ_85 : decode cX7_differ 85 = .ok (.iload 4, 2) := by decide +kernel
theorem dX7_differ_87 : decode cX7_differ 87 = .ok (.iaload, 1) := by decide +kernel
theorem dX7_differ_88 : decode cX7_differ 88 = .ok (.invokevirtual 88, 3) := by decide +kernel
