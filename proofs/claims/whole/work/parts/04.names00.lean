theorem wsL_law_in : ∀ w ∈ wsL_law, w ∈ lw_tbl := fun w h => (List.mem_append.mp h).elim (fun h => (List.mem_append.mp h).elim (fun h => wsL_law_in0 w h) (fun h => wsL_law_x0 w h)) (fun h => wsL_law_x1 w h)
theorem inlX0 : ∀ w ∈ wsX00, w ∈ wsL_law := fun _ h => List.mem_append_left _ (List.mem_append_left _ (List.mem_append_left _ (List.mem_append_left _ (List.mem_append_left _ (List.mem_append_left _ (List.mem_append_left _ (List.mem_append_right _ h)))))))
theorem inX0 : ∀ w ∈ wsX00, w ∈ lw_tbl := fun w h => wsL_law_in w (inlX0 w h)
theorem inlX1 : ∀ w ∈ wsX10, w ∈ wsL_law := fun _ h => List.mem_append_left _ (List.mem_append_left _ (List.mem_append_left _ (List.mem_append_left _ (List.mem_append_left _ (List.mem_append_left _ (List.mem_append_left _ (List.mem_append_left _ (List.mem_append_right _ h))))))))
theorem inX1 : ∀ w ∈ wsX10, w ∈ lw_tbl := fun w h => wsL_law_in w (inlX1 w h)
theorem inlX2 : ∀ w ∈ wsX20, w ∈ wsL_law := fun _ h => List.mem_append_left _ (List.mem_append_left _ (List.mem_append_left _ (List.mem_append_left _ (List.mem_append_left _ (List.mem_append_left _ (List.mem_append_right _ h))))))
theorem inX2 : ∀ w ∈ wsX20, w ∈ lw_tbl := fun w h => wsL_law_in w (inlX2 w h)
theorem inlX3 : ∀ w ∈ wsX30, w ∈ wsL_law := fun _ h => List.mem_append_left _ (List.mem_append_left _ (List.mem_append_left _ (List.mem_append_left _ (List.mem_append_left _ (List.mem_append_left _ (List.mem_append_left _ (List.mem_append_left _ (List.mem_append_left _ (List.mem_append_right _ h)))))))))
theorem inX3 : ∀ w ∈ wsX30, w ∈ lw_tbl := fun w h => wsL_law_in w (inlX3 w h)
theorem inlX4 : ∀ w ∈ wsX40, w ∈ wsL_law := fun _ h => List.mem_append_left _ (List.mem_append_left _ (List.mem_append_left _ (List.mem_append_right _ h)))
theorem inX4 : ∀ w ∈ wsX40, w ∈ lw_tbl := fun w h => wsL_law_in w (inlX4 w h)
theorem inlX5 : ∀ w ∈ wsX50, w ∈ wsL_law := fun _ h => List.mem_append_left _ (List.mem_append_left _ (List.mem_append_left _ (List.mem_append_left _ (List.mem_append_left _ (List.mem_append_right _ h)))))
theorem inX5 : ∀ w ∈ wsX50, w ∈ lw_tbl := fun w h => wsL_law_in w (inlX5 w h)
theorem inlX6 : ∀ w ∈ wsX60, w ∈ wsL_law := fun _ h => List.mem_append_left _ (List.mem_append_left _ (List.mem_append_left _ (List.mem_append_left _ (List.mem_append_right _ h))))
theorem inX6 : ∀ w ∈ wsX60, w ∈ lw_tbl := fun w h => wsL_law_in w (inlX6 w h)
theorem inlX7 : ∀ w ∈ wsX70, w ∈ wsL_law := fun _ h => List.mem_append_left _ (List.mem_append_left _ (List.mem_append_left _ (List.mem_append_left _ (List.mem_append_left _ (List.mem_append_left _ (List.mem_append_left _ (List.mem_append_left _ (List.mem_append_left _ (List.mem_append_left _ (List.mem_append_left _ (List.mem_append_right _ h)))))))))))
theorem inX7 : ∀ w ∈ wsX70, w ∈ lw_tbl := fun w h => wsL_law_in w (inlX7 w h)
theorem inlX8 : ∀ w ∈ wsX80, w ∈ wsL_law := fun _ h => List.mem_append_left _ (List.mem_append_left _ (List.mem_append_left _ (List.mem_append_left _ (List.mem_append_left _ (List.mem_append_left _ (List.mem_append_left _ (List.mem_append_left _ (List.mem_append_left _ (List.mem_append_left _ (List.mem_append_right _ h))))))))))
theorem inX8 : ∀ w ∈ wsX80, w ∈ lw_tbl := fun w h => wsL_law_in w (inlX8 w h)
theorem inJ9 : ∀ w ∈ wsJ90, w ∈ lw_tbl := by decide +kernel
theorem inJ0 : ∀ w ∈ wsJ00, w ∈ lw_tbl := by decide +kernel
theorem inJ10 : ∀ w ∈ wsJ100, w ∈ lw_tbl := by decide +kernel
theorem inJ7 : ∀ w ∈ wsJ70, w ∈ lw_tbl := by decide +kernel
theorem dX0_init_0 : decode cX0_init 0 = .ok (.aload_n 0, 1) := by decide +kernel
theorem dX0_init_1 : decode cX0_init 1 = .ok (.invokespecial 3, 3) := by decide +kernel
theorem dX0_init_4 : decode cX0_init 4 = .ok (.aload_n 0, 1) := by decide +kernel
theorem dX0_init_5 : decode cX0_init 5 = .ok (.sipush 6400, 3) := by decide +kernel
theorem dX0_init_8 : decode cX0_init 8 = .ok (.newarray .byte, 2) := by decide +kernel
theorem dX0_init_10 : decode cX0_init 10 = .ok (.putfield 9, 3) := by decide +kernel
theorem dX0_init_13 : decode cX0_init 13 = .ok (.aload_n 0, 1) := by decide +kernel
theorem dX0_init_14 : decode cX0_init 14 = .ok (.bipush 100, 2) := by decide +kernel
theorem dX0_init_16 : decode cX0_init 16 = .ok (.newarray .int, 2) := by decide +kernel
theorem dX0_init_18 : decode cX0_init 18 = .ok (.putfield 15, 3) := by decide +kernel
theorem dX0_init_21 : decode cX0_init 21 = .ok (.aload_n 0, 1) := by decide +kernel
theorem dX0_init_22 : decode cX0_init 22 = .ok (.bipush 100, 2) := by decide +kernel
theorem dX0_init_24 : decode cX0_init 24 = .ok (.newarray .int, 2) := by decide +kernel
theorem dX0_init_26 : decode cX0_init 26 = .ok (.putfield 19, 3) := by decide +kernel
theorem dX0_init_29 : decode cX0_init 29 = .ok (.aload_n 0, 1) := by decide +kernel
theorem dX0_init_30 : decode cX0_init 30 = .ok (.bipush 100, 2) := by decide +kernel
theorem dX0_init_32 : decode cX0_init 32 = .ok (.newarray .int, 2) := by decide +kernel
theorem dX0_init_34 : decode cX0_init 34 = .ok (.putfield 22, 3) := by decide +kernel
theorem dX0_init_37 : decode cX0_init 37 = .ok (.return_, 1) := by decide +kernel
theorem dX0_hasRoomFor_0 : decode cX0_hasRoomFor 0 = .ok (.aload_n 0, 1) := by decide +kernel
theorem dX0_hasRoomFor_1 : decode cX0_hasRoomFor 1 = .ok (.getfield 25, 3) := by decide +kernel
theorem dX0_hasRoomFor_4 : decode cX0_hasRoomFor 4 = .ok (.iload_n 1, 1) := by decide +kernel
theorem dX0_hasRoomFor_5 : decode cX0_hasRoomFor 5 = .ok (.iadd, 1) := by decide +kernel
theorem dX0_hasRoomFor_6 : decode cX0_hasRoomFor 6 = .ok (.bipush 100, 2) := by decide +kernel
theorem dX0_hasRoomFor_8 : decode cX0_hasRoomFor 8 = .ok (.if_icmp .gt 7, 3) := by decide +kernel
theorem dX0_hasRoomFor_11 : decode cX0_hasRoomFor 11 = .ok (.iconst 1, 1) := by decide +kernel
theorem dX0_hasRoomFor_12 : decode cX0_hasRoomFor 12 = .ok (.goto 4, 3) := by decide +kernel
theorem dX0_hasRoomFor_15 : decode cX0_hasRoomFor 15 = .ok (.iconst 0, 1) := by decide +kernel
theorem dX0_hasRoomFor_16 : decode cX0_hasRoomFor 16 = .ok (.ireturn, 1) := by decide +kernel
theorem dX0_make_0 : decode cX0_make 0 = .ok (.aload_n 0, 1) := by decide +kernel
theorem dX0_make_1 : decode cX0_make 1 = .ok (.getfield 25, 3) := by decide +kernel
theorem dX0_make_4 : decode cX0_make 4 = .ok (.istore 4, 2) := by decide +kernel
theorem dX0_make_6 : decode cX0_make 6 = .ok (.aload_n 0, 1) := by decide +kernel
theorem dX0_make_7 : decode cX0_make 7 = .ok (.dup, 1) := by decide +kernel
theorem dX0_make_8 : decode cX0_make 8 = .ok (.getfield 25, 3) := by decide +kernel
theorem dX0_make_11 : decode cX0_make 11 = .ok (.iconst 1, 1) := by decide +kernel
theorem dX0_make_12 : decode cX0_make 12 = .ok (.iadd, 1) := by decide +kernel
theorem dX0_make_13 : decode cX0_make 13 = .ok (.putfield 25, 3) := by decide +kernel
theorem dX0_make_16 : decode cX0_make 16 = .ok (.aload_n 0, 1) := by decide +kernel
theorem dX0_make_17 : decode cX0_make 17 = .ok (.getfield 15, 3) := by decide +kernel
theorem dX0_make_20 : decode cX0_make 20 = .ok (.iload 4, 2) := by decide +kernel
theorem dX0_make_22 : decode cX0_make 22 = .ok (.iload_n 1, 1) := by decide +kernel
theorem dX0_make_23 : decode cX0_make 23 = .ok (.iastore, 1) := by decide +kernel
theorem dX0_make_24 : decode cX0_make 24 = .ok (.aload_n 0, 1) := by decide +kernel
theorem dX0_make_25 : decode cX0_make 25 = .ok (.getfield 19, 3) := by decide +kernel
theorem dX0_make_28 : decode cX0_make 28 = .ok (.iload 4, 2) := by decide +kernel
theorem dX0_make_30 : decode cX0_make 30 = .ok (.iload_n 2, 1) := by decide +kernel
theorem dX0_make_31 : decode cX0_make 31 = .ok (.iastore, 1) := by decide +kernel
theorem dX0_make_32 : decode cX0_make 32 = .ok (.aload_n 0, 1) := by decide +kernel
theorem dX0_make_33 : decode cX0_make 33 = .ok (.getfield 22, 3) := by decide +kernel
theorem dX0_make_36 : decode cX0_make 36 = .ok (.iload 4, 2) := by decide +kernel
theorem dX0_make_38 : decode cX0_make 38 = .ok (.iload_n 3, 1) := by decide +kernel
theorem dX0_make_39 : decode cX0_make 39 = .ok (.iastore, 1) := by decide +kernel
theorem dX0_make_40 : decode cX0_make 40 = .ok (.iload 4, 2) := by decide +kernel
theorem dX0_make_42 : decode cX0_make 42 = .ok (.ireturn, 1) := by decide +kernel
set_option maxRecDepth 20000 in
theorem ggX0_makeLike_X0_make : GoodIn wsX0_makeLike wsX0_make := goodIn_r _ [11, 12, 1, 13, 14, 15, 16, 17, 18, 19] (by decide +kernel) (by decide +kernel)
set_option maxRecDepth 20000 in
theorem gX0_makeLike_X0_make : GoodIn wsX0_makeLike (wsV RX0 29 RX0 yX0_make wsX0_make) := goodIn_app (goodIn_of _ (by decide +kernel)) ggX0_makeLike_X0_make
theorem dX0_makeLike_0 : decode cX0_makeLike 0 = .ok (.aload_n 0, 1) := by decide +kernel
theorem dX0_makeLike_1 : decode cX0_makeLike 1 = .ok (.aload_n 0, 1) := by decide +kernel
theorem dX0_makeLike_2 : decode cX0_makeLike 2 = .ok (.getfield 15, 3) := by decide +kernel
theorem dX0_makeLike_5 : decode cX0_makeLike 5 = .ok (.iload_n 1, 1) := by decide +kernel
theorem dX0_makeLike_6 : decode cX0_makeLike 6 = .ok (.iaload, 1) := by decide +kernel
theorem dX0_makeLike_7 : decode cX0_makeLike 7 = .ok (.iload_n 2, 1) := by decide +kernel
theorem dX0_makeLike_8 : decode cX0_makeLike 8 = .ok (.iload_n 3, 1) := by decide +kernel
theorem dX0_makeLike_9 : decode cX0_makeLike 9 = .ok (.invokevirtual 29, 3) := by decide +kernel
theorem dX0_makeLike_12 : decode cX0_makeLike 12 = .ok (.istore 4, 2) := by decide +kernel
theorem dX0_makeLike_14 : decode cX0_makeLike 14 = .ok (.aload_n 0, 1) := by decide +kernel
theorem dX0_makeLike_15 : decode cX0_makeLike 15 = .ok (.getfield 9, 3) := by decide +kernel
theorem dX0_makeLike_18 : decode cX0_makeLike 18 = .ok (.iload_n 1, 1) := by decide +kernel
theorem dX0_makeLike_19 : decode cX0_makeLike 19 = .ok (.bipush 64, 2) := by decide +kernel
theorem dX0_makeLike_21 : decode cX0_makeLike 21 = .ok (.imul, 1) := by decide +kernel
theorem dX0_makeLike_22 : decode cX0_makeLike 22 = .ok (.aload_n 0, 1) := by decide +kernel
theorem dX0_makeLike_23 : decode cX0_makeLike 23 = .ok (.getfield 9, 3) := by decide +kernel
theorem dX0_makeLike_26 : decode cX0_makeLike 26 = .ok (.iload 4, 2) := by decide +kernel
theorem dX0_makeLike_28 : decode cX0_makeLike 28 = .ok (.bipush 64, 2) := by decide +kernel
theorem dX0_makeLike_30 : decode cX0_makeLike 30 = .ok (.imul, 1) := by decide +kernel
theorem dX0_makeLike_31 : decode cX0_makeLike 31 = .ok (.aload_n 0, 1) := by decide +kernel
theorem dX0_makeLike_32 : decode cX0_makeLike 32 = .ok (.getfield 15, 3) := by decide +kernel
theorem dX0_makeLike_35 : decode cX0_makeLike 35 = .ok (.iload_n 1, 1) := by decide +kernel
theorem dX0_makeLike_36 : decode cX0_makeLike 36 = .ok (.iaload, 1) := by decide +kernel
theorem dX0_makeLike_37 : decode cX0_makeLike 37 = .ok (.invokestatic 33, 3) := by decide +kernel
theorem dX0_makeLike_40 : decode cX0_makeLike 40 = .ok (.iload 4, 2) := by decide +kernel
theorem dX0_makeLike_42 : decode cX0_makeLike 42 = .ok (.ireturn, 1) := by decide +kernel
theorem dX0_put_0 : decode cX0_put 0 = .ok (.aload_n 0, 1) := by decide +kernel
theorem dX0_put_1 : decode cX0_put 1 = .ok (.getfield 9, 3) := by decide +kernel
theorem dX0_put_4 : decode cX0_put 4 = .ok (.iload_n 1, 1) := by decide +kernel
theorem dX0_put_5 : decode cX0_put 5 = .ok (.bipush 64, 2) := by decide +kernel
theorem dX0_put_7 : decode cX0_put 7 = .ok (.imul, 1) := by decide +kernel
theorem dX0_put_8 : decode cX0_put 8 = .ok (.iload_n 2, 1) := by decide +kernel
theorem dX0_put_9 : decode cX0_put 9 = .ok (.iadd, 1) := by decide +kernel
theorem dX0_put_10 : decode cX0_put 10 = .ok (.iload_n 3, 1) := by decide +kernel
theorem dX0_put_11 : decode cX0_put 11 = .ok (.i2b, 1) := by decide +kernel
theorem dX0_put_12 : decode cX0_put 12 = .ok (.bastore, 1) := by decide +kernel
theorem dX0_put_13 : decode cX0_put 13 = .ok (.return_, 1) := by decide +kernel
theorem dX0_byteOf_0 : decode cX0_byteOf 0 = .ok (.aload_n 0, 1) := by decide +kernel
theorem dX0_byteOf_1 : decode cX0_byteOf 1 = .ok (.getfield 9, 3) := by decide +kernel
theorem dX0_byteOf_4 : decode cX0_byteOf 4 = .ok (.iload_n 1, 1) := by decide +kernel
theorem dX0_byteOf_5 : decode cX0_byteOf 5 = .ok (.bipush 64, 2) := by decide +kernel
theorem dX0_byteOf_7 : decode cX0_byteOf 7 = .ok (.imul, 1) := by decide +kernel
theorem dX0_byteOf_8 : decode cX0_byteOf 8 = .ok (.iload_n 2, 1) := by decide +kernel
theorem dX0_byteOf_9 : decode cX0_byteOf 9 = .ok (.iadd, 1) := by decide +kernel
theorem dX0_byteOf_10 : decode cX0_byteOf 10 = .ok (.baload, 1) := by decide +kernel
theorem dX0_byteOf_11 : decode cX0_byteOf 11 = .ok (.sipush 255, 3) := by decide +kernel
theorem dX0_byteOf_14 : decode cX0_byteOf 14 = .ok (.iand, 1) := by decide +kernel
theorem dX0_byteOf_15 : decode cX0_byteOf 15 = .ok (.ireturn, 1) := by decide +kernel
set_option maxRecDepth 20000 in
theorem ggX0_pieceAt_X0_byteOf : GoodIn wsX0_pieceAt wsX0_byteOf := goodIn_r _ [5, 6, 7, 8, 9, 10, 11] (by decide +kernel) (by decide +kernel)
set_option maxRecDepth 20000 in
theorem gX0_pieceAt_X0_byteOf : GoodIn wsX0_pieceAt (wsV RX0 39 RX0 yX0_byteOf wsX0_byteOf) := goodIn_app (goodIn_of _ (by decide +kernel)) ggX0_pieceAt_X0_byteOf
theorem dX0_pieceAt_0 : decode cX0_pieceAt 0 = .ok (.iconst 0, 1) := by decide +kernel
theorem dX0_pieceAt_1 : decode cX0_pieceAt 1 = .ok (.istore_n 3, 1) := by decide +kernel
theorem dX0_pieceAt_2 : decode cX0_pieceAt 2 = .ok (.iconst 0, 1) := by decide +kernel
theorem dX0_pieceAt_3 : decode cX0_pieceAt 3 = .ok (.istore 4, 2) := by decide +kernel
theorem dX0_pieceAt_5 : decode cX0_pieceAt 5 = .ok (.iload 4, 2) := by decide +kernel
theorem dX0_pieceAt_7 : decode cX0_pieceAt 7 = .ok (.iconst 4, 1) := by decide +kernel
theorem dX0_pieceAt_8 : decode cX0_pieceAt 8 = .ok (.if_icmp .ge 24, 3) := by decide +kernel
theorem dX0_pieceAt_11 : decode cX0_pieceAt 11 = .ok (.iload_n 3, 1) := by decide +kernel
theorem dX0_pieceAt_12 : decode cX0_pieceAt 12 = .ok (.bipush 8, 2) := by decide +kernel
theorem dX0_pieceAt_14 : decode cX0_pieceAt 14 = .ok (.ishl, 1) := by decide +kernel
theorem dX0_pieceAt_15 : decode cX0_pieceAt 15 = .ok (.aload_n 0, 1) := by decide +kernel
theorem dX0_pieceAt_16 : decode cX0_pieceAt 16 = .ok (.iload_n 1, 1) := by decide +kernel
theorem dX0_pieceAt_17 : decode cX0_pieceAt 17 = .ok (.iload_n 2, 1) := by decide +kernel
theorem dX0_pieceAt_18 : decode cX0_pieceAt 18 = .ok (.iload 4, 2) := by decide +kernel
theorem dX0_pieceAt_20 : decode cX0_pieceAt 20 = .ok (.iadd, 1) := by decide +kernel
theorem dX0_pieceAt_21 : decode cX0_pieceAt 21 = .ok (.invokevirtual 39, 3) := by decide +kernel
theorem dX0_pieceAt_24 : decode cX0_pieceAt 24 = .ok (.ior, 1) := by decide +kernel
theorem dX0_pieceAt_25 : decode cX0_pieceAt 25 = .ok (.istore_n 3, 1) := by decide +kernel
theorem dX0_pieceAt_26 : decode cX0_pieceAt 26 = .ok (.iinc 4 1, 3) := by decide +kernel
theorem dX0_pieceAt_29 : decode cX0_pieceAt 29 = .ok (.goto (-24), 3) := by decide +kernel
theorem dX0_pieceAt_32 : decode cX0_pieceAt 32 = .ok (.iload_n 3, 1) := by decide +kernel
theorem dX0_pieceAt_33 : decode cX0_pieceAt 33 = .ok (.ireturn, 1) := by decide +kernel
set_option maxRecDepth 20000 in
theorem ggX0_areAlike_X0_areAlikeWithin : GoodIn wsX0_areAlike wsX0_areAlikeWithin := goodIn_r _ [6, 7, 8, 9, 5, 10, 11, 12, 13, 14, 15, 16] (by decide +kernel) (by decide +kernel)
set_option maxRecDepth 20000 in
theorem gX0_areAlike_X0_areAlikeWithin : GoodIn wsX0_areAlike (wsV RX0 43 RX0 yX0_areAlikeWithin wsX0_areAlikeWithin) := goodIn_app (goodIn_of _ (by decide +kernel)) ggX0_areAlike_X0_areAlikeWithin
theorem dX0_areAlike_0 : decode cX0_areAlike 0 = .ok (.aload_n 0, 1) := by decide +kernel
theorem dX0_areAlike_1 : decode cX0_areAlike 1 = .ok (.getfield 15, 3) := by decide +kernel
theorem dX0_areAlike_4 : decode cX0_areAlike 4 = .ok (.iload_n 1, 1) := by decide +kernel
theorem dX0_areAlike_5 : decode cX0_areAlike 5 = .ok (.iaload, 1) := by decide +kernel
theorem dX0_areAlike_6 : decode cX0_areAlike 6 = .ok (.aload_n 0, 1) := by decide +kernel
theorem dX0_areAlike_7 : decode cX0_areAlike 7 = .ok (.getfield 15, 3) := by decide +kernel
theorem dX0_areAlike_10 : decode cX0_areAlike 10 = .ok (.iload_n 2, 1) := by decide +kernel
theorem dX0_areAlike_11 : decode cX0_areAlike 11 = .ok (.iaload, 1) := by decide +kernel
theorem dX0_areAlike_12 : decode cX0_areAlike 12 = .ok (.if_icmp .ne 23, 3) := by decide +kernel
theorem dX0_areAlike_15 : decode cX0_areAlike 15 = .ok (.aload_n 0, 1) := by decide +kernel
theorem dX0_areAlike_16 : decode cX0_areAlike 16 = .ok (.iload_n 1, 1) := by decide +kernel
theorem dX0_areAlike_17 : decode cX0_areAlike 17 = .ok (.iload_n 2, 1) := by decide +kernel
theorem dX0_areAlike_18 : decode cX0_areAlike 18 = .ok (.iconst 0, 1) := by decide +kernel
theorem dX0_areAlike_19 : decode cX0_areAlike 19 = .ok (.aload_n 0, 1) := by decide +kernel
theorem dX0_areAlike_20 : decode cX0_areAlike 20 = .ok (.getfield 15, 3) := by decide +kernel
theorem dX0_areAlike_23 : decode cX0_areAlike 23 = .ok (.iload_n 1, 1) := by decide +kernel
theorem dX0_areAlike_24 : decode cX0_areAlike 24 = .ok (.iaload, 1) := by decide +kernel
theorem dX0_areAlike_25 : decode cX0_areAlike 25 = .ok (.invokevirtual 43, 3) := by decide +kernel
theorem dX0_areAlike_28 : decode cX0_areAlike 28 = .ok (.ifCond .eq 7, 3) := by decide +kernel
theorem dX0_areAlike_31 : decode cX0_areAlike 31 = .ok (.iconst 1, 1) := by decide +kernel
theorem dX0_areAlike_32 : decode cX0_areAlike 32 = .ok (.goto 4, 3) := by decide +kernel
theorem dX0_areAlike_35 : decode cX0_areAlike 35 = .ok (.iconst 0, 1) := by decide +kernel
theorem dX0_areAlike_36 : decode cX0_areAlike 36 = .ok (.ireturn, 1) := by decide +kernel
set_option maxRecDepth 20000 in
theorem ggX0_areAlikeWithin_X0_byteOf : GoodIn wsX0_areAlikeWithin wsX0_byteOf := goodIn_r _ [5, 6, 7, 8, 9, 10, 11] (by decide +kernel) (by decide +kernel)
set_option maxRecDepth 20000 in
theorem gX0_areAlikeWithin_X0_byteOf : GoodIn wsX0_areAlikeWithin (wsV RX0 39 RX0 yX0_byteOf wsX0_byteOf) := goodIn_app (goodIn_of _ (by decide +kernel)) ggX0_areAlikeWithin_X0_byteOf
theorem dX0_areAlikeWithin_0 : decode cX0_areAlikeWithin 0 = .ok (.iload_n 3, 1) := by decide +kernel
theorem dX0_areAlikeWithin_1 : decode cX0_areAlikeWithin 1 = .ok (.istore 5, 2) := by decide +kernel
theorem dX0_areAlikeWithin_3 : decode cX0_areAlikeWithin 3 = .ok (.iload 5, 2) := by decide +kernel
theorem dX0_areAlikeWithin_5 : decode cX0_areAlikeWithin 5 = .ok (.iload 4, 2) := by decide +kernel
theorem dX0_areAlikeWithin_7 : decode cX0_areAlikeWithin 7 = .ok (.if_icmp .ge 28, 3) := by decide +kernel
theorem dX0_areAlikeWithin_10 : decode cX0_areAlikeWithin 10 = .ok (.aload_n 0, 1) := by decide +kernel
theorem dX0_areAlikeWithin_11 : decode cX0_areAlikeWithin 11 = .ok (.iload_n 1, 1) := by decide +kernel
theorem dX0_areAlikeWithin_12 : decode cX0_areAlikeWithin 12 = .ok (.iload 5, 2) := by decide +kernel
theorem dX0_areAlikeWithin_14 : decode cX0_areAlikeWithin 14 = .ok (.invokevirtual 39, 3) := by decide +kernel
theorem dX0_areAlikeWithin_17 : decode cX0_areAlikeWithin 17 = .ok (.aload_n 0, 1) := by decide +kernel
theorem dX0_areAlikeWithin_18 : decode cX0_areAlikeWithin 18 = .ok (.iload_n 2, 1) := by decide +kernel
theorem dX0_areAlikeWithin_19 : decode cX0_areAlikeWithin 19 = .ok (.iload 5, 2) := by decide +kernel
theorem dX0_areAlikeWithin_21 : decode cX0_areAlikeWithin 21 = .ok (.invokevirtual 39, 3) := by decide +kernel
theorem dX0_areAlikeWithin_24 : decode cX0_areAlikeWithin 24 = .ok (.if_icmp .eq 5, 3) := by decide +kernel
theorem dX0_areAlikeWithin_27 : decode cX0_areAlikeWithin 27 = .ok (.iconst 0, 1) := by decide +kernel
theorem dX0_areAlikeWithin_28 : decode cX0_areAlikeWithin 28 = .ok (.ireturn, 1) := by decide +kernel
theorem dX0_areAlikeWithin_29 : decode cX0_areAlikeWithin 29 = .ok (.iinc 5 1, 3) := by decide +kernel
theorem dX0_areAlikeWithin_32 : decode cX0_areAlikeWithin 32 = .ok (.goto (-29), 3) := by decide +kernel
theorem dX0_areAlikeWithin_35 : decode cX0_areAlikeWithin 35 = .ok (.iconst 1, 1) := by decide +kernel
theorem dX0_areAlikeWithin_36 : decode cX0_areAlikeWithin 36 = .ok (.ireturn, 1) := by decide +kernel
theorem dX1_init_0 : decode cX1_init 0 = .ok (.aload_n 0, 1) := by decide +kernel
theorem dX1_init_1 : decode cX1_init 1 = .ok (.invokespecial 3, 3) := by decide +kernel
theorem dX1_init_4 : decode cX1_init 4 = .ok (.aload_n 0, 1) := by decide +kernel
theorem dX1_init_5 : decode cX1_init 5 = .ok (.bipush 60, 2) := by decide +kernel
theorem dX1_init_7 : decode cX1_init 7 = .ok (.newarray .int, 2) := by decide +kernel
theorem dX1_init_9 : decode cX1_init 9 = .ok (.putfield 9, 3) := by decide +kernel
theorem dX1_init_12 : decode cX1_init 12 = .ok (.aload_n 0, 1) := by decide +kernel
theorem dX1_init_13 : decode cX1_init 13 = .ok (.bipush 60, 2) := by decide +kernel
theorem dX1_init_15 : decode cX1_init 15 = .ok (.newarray .int, 2) := by decide +kernel
theorem dX1_init_17 : decode cX1_init 17 = .ok (.putfield 15, 3) := by decide +kernel
theorem dX1_init_20 : decode cX1_init 20 = .ok (.aload_n 0, 1) := by decide +kernel
theorem dX1_init_21 : decode cX1_init 21 = .ok (.bipush 60, 2) := by decide +kernel
theorem dX1_init_23 : decode cX1_init 23 = .ok (.newarray .int, 2) := by decide +kernel
theorem dX1_init_25 : decode cX1_init 25 = .ok (.putfield 18, 3) := by decide +kernel
theorem dX1_init_28 : decode cX1_init 28 = .ok (.aload_n 0, 1) := by decide +kernel
theorem dX1_init_29 : decode cX1_init 29 = .ok (.bipush 60, 2) := by decide +kernel
theorem dX1_init_31 : decode cX1_init 31 = .ok (.newarray .boolean, 2) := by decide +kernel
theorem dX1_init_33 : decode cX1_init 33 = .ok (.putfield 21, 3) := by decide +kernel
theorem dX1_init_36 : decode cX1_init 36 = .ok (.return_, 1) := by decide +kernel
theorem dX1_has_0 : decode cX1_has 0 = .ok (.iload_n 1, 1) := by decide +kernel
theorem dX1_has_1 : decode cX1_has 1 = .ok (.ifCond .lt 25, 3) := by decide +kernel
theorem dX1_has_4 : decode cX1_has 4 = .ok (.iload_n 1, 1) := by decide +kernel
theorem dX1_has_5 : decode cX1_has 5 = .ok (.aload_n 0, 1) := by decide +kernel
theorem dX1_has_6 : decode cX1_has 6 = .ok (.getfield 25, 3) := by decide +kernel
theorem dX1_has_9 : decode cX1_has 9 = .ok (.if_icmp .ge 17, 3) := by decide +kernel
theorem dX1_has_12 : decode cX1_has 12 = .ok (.aload_n 0, 1) := by decide +kernel
theorem dX1_has_13 : decode cX1_has 13 = .ok (.getfield 18, 3) := by decide +kernel
theorem dX1_has_16 : decode cX1_has 16 = .ok (.iload_n 1, 1) := by decide +kernel
theorem dX1_has_17 : decode cX1_has 17 = .ok (.iaload, 1) := by decide +kernel
theorem dX1_has_18 : decode cX1_has 18 = .ok (.iconst (-1), 1) := by decide +kernel
theorem dX1_has_19 : decode cX1_has 19 = .ok (.if_icmp .eq 7, 3) := by decide +kernel
theorem dX1_has_22 : decode cX1_has 22 = .ok (.iconst 1, 1) := by decide +kernel
theorem dX1_has_23 : decode cX1_has 23 = .ok (.goto 4, 3) := by decide +kernel
theorem dX1_has_26 : decode cX1_has 26 = .ok (.iconst 0, 1) := by decide +kernel
theorem dX1_has_27 : decode cX1_has 27 = .ok (.ireturn, 1) := by decide +kernel
theorem dX1_hasRoom_0 : decode cX1_hasRoom 0 = .ok (.aload_n 0, 1) := by decide +kernel
theorem dX1_hasRoom_1 : decode cX1_hasRoom 1 = .ok (.getfield 25, 3) := by decide +kernel
theorem dX1_hasRoom_4 : decode cX1_hasRoom 4 = .ok (.bipush 60, 2) := by decide +kernel
theorem dX1_hasRoom_6 : decode cX1_hasRoom 6 = .ok (.if_icmp .ge 7, 3) := by decide +kernel
theorem dX1_hasRoom_9 : decode cX1_hasRoom 9 = .ok (.iconst 1, 1) := by decide +kernel
theorem dX1_hasRoom_10 : decode cX1_hasRoom 10 = .ok (.goto 4, 3) := by decide +kernel
theorem dX1_hasRoom_13 : decode cX1_hasRoom 13 = .ok (.iconst 0, 1) := by decide +kernel
theorem dX1_hasRoom_14 : decode cX1_hasRoom 14 = .ok (.ireturn, 1) := by decide +kernel
theorem dX1_isIn_0 : decode cX1_isIn 0 = .ok (.aload_n 0, 1) := by decide +kernel
theorem dX1_isIn_1 : decode cX1_isIn 1 = .ok (.getfield 9, 3) := by decide +kernel
theorem dX1_isIn_4 : decode cX1_isIn 4 = .ok (.iload_n 1, 1) := by decide +kernel
theorem dX1_isIn_5 : decode cX1_isIn 5 = .ok (.iaload, 1) := by decide +kernel
theorem dX1_isIn_6 : decode cX1_isIn 6 = .ok (.iload_n 2, 1) := by decide +kernel
theorem dX1_isIn_7 : decode cX1_isIn 7 = .ok (.if_icmp .ne 7, 3) := by decide +kernel
theorem dX1_isIn_10 : decode cX1_isIn 10 = .ok (.iconst 1, 1) := by decide +kernel
theorem dX1_isIn_11 : decode cX1_isIn 11 = .ok (.goto 4, 3) := by decide +kernel
theorem dX1_isIn_14 : decode cX1_isIn 14 = .ok (.iconst 0, 1) := by decide +kernel
theorem dX1_isIn_15 : decode cX1_isIn 15 = .ok (.ireturn, 1) := by decide +kernel
theorem dX1_named_0 : decode cX1_named 0 = .ok (.iconst 0, 1) := by decide +kernel
theorem dX1_named_1 : decode cX1_named 1 = .ok (.istore_n 3, 1) := by decide +kernel
theorem dX1_named_2 : decode cX1_named 2 = .ok (.iload_n 3, 1) := by decide +kernel
theorem dX1_named_3 : decode cX1_named 3 = .ok (.aload_n 0, 1) := by decide +kernel
theorem dX1_named_4 : decode cX1_named 4 = .ok (.getfield 25, 3) := by decide +kernel
theorem dX1_named_7 : decode cX1_named 7 = .ok (.if_icmp .ge 31, 3) := by decide +kernel
theorem dX1_named_10 : decode cX1_named 10 = .ok (.aload_n 0, 1) := by decide +kernel
theorem dX1_named_11 : decode cX1_named 11 = .ok (.getfield 9, 3) := by decide +kernel
theorem dX1_named_14 : decode cX1_named 14 = .ok (.iload_n 3, 1) := by decide +kernel
theorem dX1_named_15 : decode cX1_named 15 = .ok (.iaload, 1) := by decide +kernel
theorem dX1_named_16 : decode cX1_named 16 = .ok (.iload_n 1, 1) := by decide +kernel
theorem dX1_named_17 : decode cX1_named 17 = .ok (.if_icmp .ne 15, 3) := by decide +kernel
theorem dX1_named_20 : decode cX1_named 20 = .ok (.aload_n 0, 1) := by decide +kernel
theorem dX1_named_21 : decode cX1_named 21 = .ok (.getfield 15, 3) := by decide +kernel
theorem dX1_named_24 : decode cX1_named 24 = .ok (.iload_n 3, 1) := by decide +kernel
theorem dX1_named_25 : decode cX1_named 25 = .ok (.iaload, 1) := by decide +kernel
theorem dX1_named_26 : decode cX1_named 26 = .ok (.iload_n 2, 1) := by decide +kernel
theorem dX1_named_27 : decode cX1_named 27 = .ok (.if_icmp .ne 5, 3) := by decide +kernel
theorem dX1_named_30 : decode cX1_named 30 = .ok (.iload_n 3, 1) := by decide +kernel
theorem dX1_named_31 : decode cX1_named 31 = .ok (.ireturn, 1) := by decide +kernel
theorem dX1_named_32 : decode cX1_named 32 = .ok (.iinc 3 1, 3) := by decide +kernel
theorem dX1_named_35 : decode cX1_named 35 = .ok (.goto (-33), 3) := by decide +kernel
theorem dX1_named_38 : decode cX1_named 38 = .ok (.iconst (-1), 1) := by decide +kernel
theorem dX1_named_39 : decode cX1_named 39 = .ok (.ireturn, 1) := by decide +kernel
theorem dX1_make_0 : decode cX1_make 0 = .ok (.aload_n 0, 1) := by decide +kernel
theorem dX1_make_1 : decode cX1_make 1 = .ok (.getfield 25, 3) := by decide +kernel
theorem dX1_make_4 : decode cX1_make 4 = .ok (.istore 4, 2) := by decide +kernel
theorem dX1_make_6 : decode cX1_make 6 = .ok (.aload_n 0, 1) := by decide +kernel
theorem dX1_make_7 : decode cX1_make 7 = .ok (.dup, 1) := by decide +kernel
theorem dX1_make_8 : decode cX1_make 8 = .ok (.getfield 25, 3) := by decide +kernel
theorem dX1_make_11 : decode cX1_make 11 = .ok (.iconst 1, 1) := by decide +kernel
theorem dX1_make_12 : decode cX1_make 12 = .ok (.iadd, 1) := by decide +kernel
theorem dX1_make_13 : decode cX1_make 13 = .ok (.putfield 25, 3) := by decide +kernel
theorem dX1_make_16 : decode cX1_make 16 = .ok (.aload_n 0, 1) := by decide +kernel
theorem dX1_make_17 : decode cX1_make 17 = .ok (.getfield 9, 3) := by decide +kernel
theorem dX1_make_20 : decode cX1_make 20 = .ok (.iload 4, 2) := by decide +kernel
theorem dX1_make_22 : decode cX1_make 22 = .ok (.iload_n 1, 1) := by decide +kernel
theorem dX1_make_23 : decode cX1_make 23 = .ok (.iastore, 1) := by decide +kernel
theorem dX1_make_24 : decode cX1_make 24 = .ok (.aload_n 0, 1) := by decide +kernel
theorem dX1_make_25 : decode cX1_make 25 = .ok (.getfield 15, 3) := by decide +kernel
theorem dX1_make_28 : decode cX1_make 28 = .ok (.iload 4, 2) := by decide +kernel
theorem dX1_make_30 : decode cX1_make 30 = .ok (.iload_n 2, 1) := by decide +kernel
theorem dX1_make_31 : decode cX1_make 31 = .ok (.iastore, 1) := by decide +kernel
theorem dX1_make_32 : decode cX1_make 32 = .ok (.aload_n 0, 1) := by decide +kernel
theorem dX1_make_33 : decode cX1_make 33 = .ok (.getfield 18, 3) := by decide +kernel
theorem dX1_make_36 : decode cX1_make 36 = .ok (.iload 4, 2) := by decide +kernel
theorem dX1_make_38 : decode cX1_make 38 = .ok (.iload_n 3, 1) := by decide +kernel
theorem dX1_make_39 : decode cX1_make 39 = .ok (.iastore, 1) := by decide +kernel
theorem dX1_make_40 : decode cX1_make 40 = .ok (.iload 4, 2) := by decide +kernel
theorem dX1_make_42 : decode cX1_make 42 = .ok (.ireturn, 1) := by decide +kernel
theorem dX1_drop_0 : decode cX1_drop 0 = .ok (.aload_n 0, 1) := by decide +kernel
theorem dX1_drop_1 : decode cX1_drop 1 = .ok (.getfield 9, 3) := by decide +kernel
theorem dX1_drop_4 : decode cX1_drop 4 = .ok (.iload_n 1, 1) := by decide +kernel
theorem dX1_drop_5 : decode cX1_drop 5 = .ok (.iconst (-1), 1) := by decide +kernel
theorem dX1_drop_6 : decode cX1_drop 6 = .ok (.iastore, 1) := by decide +kernel
theorem dX1_drop_7 : decode cX1_drop 7 = .ok (.aload_n 0, 1) := by decide +kernel
theorem dX1_drop_8 : decode cX1_drop 8 = .ok (.getfield 15, 3) := by decide +kernel
theorem dX1_drop_11 : decode cX1_drop 11 = .ok (.iload_n 1, 1) := by decide +kernel
theorem dX1_drop_12 : decode cX1_drop 12 = .ok (.iconst (-1), 1) := by decide +kernel
theorem dX1_drop_13 : decode cX1_drop 13 = .ok (.iastore, 1) := by decide +kernel
theorem dX1_drop_14 : decode cX1_drop 14 = .ok (.aload_n 0, 1) := by decide +kernel
theorem dX1_drop_15 : decode cX1_drop 15 = .ok (.getfield 18, 3) := by decide +kernel
theorem dX1_drop_18 : decode cX1_drop 18 = .ok (.iload_n 1, 1) := by decide +kernel
theorem dX1_drop_19 : decode cX1_drop 19 = .ok (.iconst (-1), 1) := by decide +kernel
theorem dX1_drop_20 : decode cX1_drop 20 = .ok (.iastore, 1) := by decide +kernel
theorem dX1_drop_21 : decode cX1_drop 21 = .ok (.return_, 1) := by decide +kernel
theorem dX1_having_0 : decode cX1_having 0 = .ok (.iconst 0, 1) := by decide +kernel
theorem dX1_having_1 : decode cX1_having 1 = .ok (.istore_n 2, 1) := by decide +kernel
theorem dX1_having_2 : decode cX1_having 2 = .ok (.iconst 0, 1) := by decide +kernel
theorem dX1_having_3 : decode cX1_having 3 = .ok (.istore_n 3, 1) := by decide +kernel
theorem dX1_having_4 : decode cX1_having 4 = .ok (.iload_n 3, 1) := by decide +kernel
theorem dX1_having_5 : decode cX1_having 5 = .ok (.aload_n 0, 1) := by decide +kernel
theorem dX1_having_6 : decode cX1_having 6 = .ok (.getfield 25, 3) := by decide +kernel
theorem dX1_having_9 : decode cX1_having 9 = .ok (.if_icmp .ge 22, 3) := by decide +kernel
theorem dX1_having_12 : decode cX1_having 12 = .ok (.aload_n 0, 1) := by decide +kernel
theorem dX1_having_13 : decode cX1_having 13 = .ok (.getfield 18, 3) := by decide +kernel
theorem dX1_having_16 : decode cX1_having 16 = .ok (.iload_n 3, 1) := by decide +kernel
theorem dX1_having_17 : decode cX1_having 17 = .ok (.iaload, 1) := by decide +kernel
theorem dX1_having_18 : decode cX1_having 18 = .ok (.iload_n 1, 1) := by decide +kernel
theorem dX1_having_19 : decode cX1_having 19 = .ok (.if_icmp .ne 6, 3) := by decide +kernel
theorem dX1_having_22 : decode cX1_having 22 = .ok (.iinc 2 1, 3) := by decide +kernel
theorem dX1_having_25 : decode cX1_having 25 = .ok (.iinc 3 1, 3) := by decide +kernel
theorem dX1_having_28 : decode cX1_having 28 = .ok (.goto (-24), 3) := by decide +kernel
theorem dX1_having_31 : decode cX1_having 31 = .ok (.iload_n 2, 1) := by decide +kernel
theorem dX1_having_32 : decode cX1_having 32 = .ok (.ireturn, 1) := by decide +kernel
set_option maxRecDepth 20000 in
theorem ggX1_there_X1_having : GoodIn wsX1_there wsX1_having := goodIn_r _ [6, 1, 7, 8, 9, 10, 11, 12] (by decide +kernel) (by decide +kernel)
set_option maxRecDepth 20000 in
theorem gX1_there_X1_having : GoodIn wsX1_there (wsV RX1 29 RX1 yX1_having wsX1_having) := goodIn_app (goodIn_of _ (by decide +kernel)) ggX1_there_X1_having
theorem dX1_there_0 : decode cX1_there 0 = .ok (.aload_n 0, 1) := by decide +kernel
theorem dX1_there_1 : decode cX1_there 1 = .ok (.getfield 25, 3) := by decide +kernel
theorem dX1_there_4 : decode cX1_there 4 = .ok (.aload_n 0, 1) := by decide +kernel
theorem dX1_there_5 : decode cX1_there 5 = .ok (.iconst (-1), 1) := by decide +kernel
theorem dX1_there_6 : decode cX1_there 6 = .ok (.invokevirtual 29, 3) := by decide +kernel
theorem dX1_there_9 : decode cX1_there 9 = .ok (.isub, 1) := by decide +kernel
theorem dX1_there_10 : decode cX1_there 10 = .ok (.ireturn, 1) := by decide +kernel
set_option maxRecDepth 20000 in
theorem ggX2_init_J7_fill_53178 : GoodIn wsX2_init wsJ7_fill_53178 := goodIn_r _ [11] (by decide +kernel) (by decide +kernel)
set_option maxRecDepth 20000 in
theorem gX2_init_J7_fill_53178 : GoodIn wsX2_init (va_wsS RX2 21 yJ7_fill_53178 wsJ7_fill_53178) := goodIn_app (goodIn_of _ (by decide +kernel)) ggX2_init_J7_fill_53178
theorem dX2_init_0 : decode cX2_init 0 = .ok (.aload_n 0, 1) := by decide +kernel
theorem dX2_init_1 : decode cX2_init 1 = .ok (.invokespecial 3, 3) := by decide +kernel
theorem dX2_init_4 : decode cX2_init 4 = .ok (.aload_n 0, 1) := by decide +kernel
theorem dX2_init_5 : decode cX2_init 5 = .ok (.bipush 100, 2) := by decide +kernel
theorem dX2_init_7 : decode cX2_init 7 = .ok (.newarray .int, 2) := by decide +kernel
theorem dX2_init_9 : decode cX2_init 9 = .ok (.putfield 9, 3) := by decide +kernel
theorem dX2_init_12 : decode cX2_init 12 = .ok (.aload_n 0, 1) := by decide +kernel
theorem dX2_init_13 : decode cX2_init 13 = .ok (.bipush 100, 2) := by decide +kernel
theorem dX2_init_15 : decode cX2_init 15 = .ok (.newarray .int, 2) := by decide +kernel
theorem dX2_init_17 : decode cX2_init 17 = .ok (.putfield 15, 3) := by decide +kernel
theorem dX2_init_20 : decode cX2_init 20 = .ok (.aload_n 0, 1) := by decide +kernel
theorem dX2_init_21 : decode cX2_init 21 = .ok (.bipush 100, 2) := by decide +kernel
theorem dX2_init_23 : decode cX2_init 23 = .ok (.newarray .int, 2) := by decide +kernel
theorem dX2_init_25 : decode cX2_init 25 = .ok (.putfield 18, 3) := by decide +kernel
theorem dX2_init_28 : decode cX2_init 28 = .ok (.aload_n 0, 1) := by decide +kernel
theorem dX2_init_29 : decode cX2_init 29 = .ok (.getfield 9, 3) := by decide +kernel
theorem dX2_init_32 : decode cX2_init 32 = .ok (.iconst (-1), 1) := by decide +kernel
theorem dX2_init_33 : decode cX2_init 33 = .ok (.invokestatic 21, 3) := by decide +kernel
theorem dX2_init_36 : decode cX2_init 36 = .ok (.return_, 1) := by decide +kernel
set_option maxRecDepth 20000 in
theorem ggX2_search_X2_heapBySize : GoodIn wsX2_search wsX2_heapBySize := goodIn_r _ [6, 7, 8, 9, 10, 11, 12, 13, 14, 15, 16, 17, 18, 19, 20, 5, 21, 22, 23, 24, 25, 26, 27, 28, 29, 62, 63, 64, 65, 66, 67, 68, 69, 70, 71, 72, 73, 74, 75, 76] (by decide +kernel) (by decide +kernel)
set_option maxRecDepth 20000 in
theorem gX2_search_X2_heapBySize : GoodIn wsX2_search (wsV RX2 27 RX2 yX2_heapBySize wsX2_heapBySize) := goodIn_app (goodIn_of _ (by decide +kernel)) ggX2_search_X2_heapBySize
set_option maxRecDepth 20000 in
theorem ggX2_search_X2_partByBlock : GoodIn wsX2_search wsX2_partByBlock := goodIn_r _ [33, 7, 34, 35, 36, 37, 38, 1, 39, 40, 41, 5, 42, 43, 44, 45, 46, 47, 48, 49, 50, 51, 52, 53, 54, 55, 22, 23, 24, 25, 26, 27, 28, 29, 62, 63, 64, 65, 66, 67, 68, 69, 70, 71] (by decide +kernel) (by decide +kernel)
set_option maxRecDepth 20000 in
theorem gX2_search_X2_partByBlock : GoodIn wsX2_search (wsV RX2 35 RX2 yX2_partByBlock wsX2_partByBlock) := goodIn_app (goodIn_of _ (by decide +kernel)) ggX2_search_X2_partByBlock
set_option maxRecDepth 20000 in
theorem ggX2_search_X2_numberGroups : GoodIn wsX2_search wsX2_numberGroups := goodIn_r _ [59, 60, 7, 61, 62, 63, 64, 65, 66] (by decide +kernel) (by decide +kernel)
set_option maxRecDepth 20000 in
theorem gX2_search_X2_numberGroups : GoodIn wsX2_search (wsV RX2 39 RX2 yX2_numberGroups wsX2_numberGroups) := goodIn_app (goodIn_of _ (by decide +kernel)) ggX2_search_X2_numberGroups
theorem dX2_search_0 : decode cX2_search 0 = .ok (.aload_n 0, 1) := by decide +kernel
theorem dX2_search_1 : decode cX2_search 1 = .ok (.aload_n 1, 1) := by decide +kernel
theorem dX2_search_2 : decode cX2_search 2 = .ok (.aload_n 2, 1) := by decide +kernel
theorem dX2_search_3 : decode cX2_search 3 = .ok (.invokevirtual 27, 3) := by decide +kernel
theorem dX2_search_6 : decode cX2_search 6 = .ok (.aload_n 0, 1) := by decide +kernel
theorem dX2_search_7 : decode cX2_search 7 = .ok (.iconst 0, 1) := by decide +kernel
theorem dX2_search_8 : decode cX2_search 8 = .ok (.putfield 31, 3) := by decide +kernel
theorem dX2_search_11 : decode cX2_search 11 = .ok (.iconst 0, 1) := by decide +kernel
theorem dX2_search_12 : decode cX2_search 12 = .ok (.istore_n 3, 1) := by decide +kernel
theorem dX2_search_13 : decode cX2_search 13 = .ok (.iload_n 3, 1) := by decide +kernel
theorem dX2_search_14 : decode cX2_search 14 = .ok (.bipush 64, 2) := by decide +kernel
theorem dX2_search_16 : decode cX2_search 16 = .ok (.if_icmp .ge 15, 3) := by decide +kernel
theorem dX2_search_19 : decode cX2_search 19 = .ok (.aload_n 0, 1) := by decide +kernel
theorem dX2_search_20 : decode cX2_search 20 = .ok (.aload_n 2, 1) := by decide +kernel
theorem dX2_search_21 : decode cX2_search 21 = .ok (.iload_n 3, 1) := by decide +kernel
theorem dX2_search_22 : decode cX2_search 22 = .ok (.invokevirtual 35, 3) := by decide +kernel
theorem dX2_search_25 : decode cX2_search 25 = .ok (.iinc 3 8, 3) := by decide +kernel
theorem dX2_search_28 : decode cX2_search 28 = .ok (.goto (-15), 3) := by decide +kernel
theorem dX2_search_31 : decode cX2_search 31 = .ok (.aload_n 0, 1) := by decide +kernel
theorem dX2_search_32 : decode cX2_search 32 = .ok (.invokevirtual 39, 3) := by decide +kernel
theorem dX2_search_35 : decode cX2_search 35 = .ok (.return_, 1) := by decide +kernel
set_option maxRecDepth 20000 in
theorem ggX2_heapBySize_J7_fill_53178 : GoodIn wsX2_heapBySize wsJ7_fill_53178 := goodIn_r _ [5] (by decide +kernel) (by decide +kernel)
set_option maxRecDepth 20000 in
theorem gX2_heapBySize_J7_fill_53178 : GoodIn wsX2_heapBySize (va_wsS RX2 21 yJ7_fill_53178 wsJ7_fill_53178) := goodIn_app (goodIn_of _ (by decide +kernel)) ggX2_heapBySize_J7_fill_53178
set_option maxRecDepth 20000 in
theorem ggX2_heapBySize_X1_having : GoodIn wsX2_heapBySize wsX1_having := goodIn_r _ [9, 10, 11, 35, 36, 37, 38, 39] (by decide +kernel) (by decide +kernel)
set_option maxRecDepth 20000 in
theorem gX2_heapBySize_X1_having_n50 : GoodIn wsX2_heapBySize (wsX1_having) := ggX2_heapBySize_X1_having
set_option maxRecDepth 20000 in
theorem ggX2_heapBySize_X2_leastOfSize : GoodIn wsX2_heapBySize wsX2_leastOfSize := goodIn_r _ [16, 1, 25, 26, 27, 28, 29, 30, 31, 32, 33, 34] (by decide +kernel) (by decide +kernel)
set_option maxRecDepth 20000 in
theorem gX2_heapBySize_X2_leastOfSize : GoodIn wsX2_heapBySize (wsV RX2 56 RX2 yX2_leastOfSize wsX2_leastOfSize) := goodIn_app (goodIn_of _ (by decide +kernel)) ggX2_heapBySize_X2_leastOfSize
set_option maxRecDepth 20000 in
theorem ggX2_heapBySize_X2_leaveOutLoneOnes : GoodIn wsX2_heapBySize wsX2_leaveOutLoneOnes := goodIn_r _ [20, 1, 21, 22, 23, 15, 24, 25, 26, 27, 28, 29] (by decide +kernel) (by decide +kernel)
set_option maxRecDepth 20000 in
theorem gX2_heapBySize_X2_leaveOutLoneOnes : GoodIn wsX2_heapBySize (wsV RX2 60 RX2 yX2_leaveOutLoneOnes wsX2_leaveOutLoneOnes) := goodIn_app (goodIn_of _ (by decide +kernel)) ggX2_heapBySize_X2_leaveOutLoneOnes
theorem dX2_heapBySize_0 : decode cX2_heapBySize 0 = .ok (.aload_n 0, 1) := by decide +kernel
theorem dX2_heapBySize_1 : decode cX2_heapBySize 1 = .ok (.getfield 15, 3) := by decide +kernel
theorem dX2_heapBySize_4 : decode cX2_heapBySize 4 = .ok (.iconst (-1), 1) := by decide +kernel
theorem dX2_heapBySize_5 : decode cX2_heapBySize 5 = .ok (.invokestatic 21, 3) := by decide +kernel
theorem dX2_heapBySize_8 : decode cX2_heapBySize 8 = .ok (.iconst 0, 1) := by decide +kernel
theorem dX2_heapBySize_9 : decode cX2_heapBySize 9 = .ok (.istore_n 3, 1) := by decide +kernel
theorem dX2_heapBySize_10 : decode cX2_heapBySize 10 = .ok (.iload_n 3, 1) := by decide +kernel
theorem dX2_heapBySize_11 : decode cX2_heapBySize 11 = .ok (.aload_n 2, 1) := by decide +kernel
theorem dX2_heapBySize_12 : decode cX2_heapBySize 12 = .ok (.getfield 42, 3) := by decide +kernel
theorem dX2_heapBySize_15 : decode cX2_heapBySize 15 = .ok (.if_icmp .ge 38, 3) := by decide +kernel
theorem dX2_heapBySize_18 : decode cX2_heapBySize 18 = .ok (.aload_n 2, 1) := by decide +kernel
theorem dX2_heapBySize_19 : decode cX2_heapBySize 19 = .ok (.getfield 47, 3) := by decide +kernel
theorem dX2_heapBySize_22 : decode cX2_heapBySize 22 = .ok (.iload_n 3, 1) := by decide +kernel
theorem dX2_heapBySize_23 : decode cX2_heapBySize 23 = .ok (.iaload, 1) := by decide +kernel
theorem dX2_heapBySize_24 : decode cX2_heapBySize 24 = .ok (.ifCond .le 23, 3) := by decide +kernel
theorem dX2_heapBySize_27 : decode cX2_heapBySize 27 = .ok (.aload_n 1, 1) := by decide +kernel
theorem dX2_heapBySize_28 : decode cX2_heapBySize 28 = .ok (.iload_n 3, 1) := by decide +kernel
theorem dX2_heapBySize_29 : decode cX2_heapBySize 29 = .ok (.invokevirtual 50, 3) := by decide +kernel
theorem dX2_heapBySize_32 : decode cX2_heapBySize 32 = .ok (.ifCond .le 15, 3) := by decide +kernel
theorem dX2_heapBySize_35 : decode cX2_heapBySize 35 = .ok (.aload_n 0, 1) := by decide +kernel
theorem dX2_heapBySize_36 : decode cX2_heapBySize 36 = .ok (.getfield 15, 3) := by decide +kernel
theorem dX2_heapBySize_39 : decode cX2_heapBySize 39 = .ok (.iload_n 3, 1) := by decide +kernel
theorem dX2_heapBySize_40 : decode cX2_heapBySize 40 = .ok (.aload_n 0, 1) := by decide +kernel
theorem dX2_heapBySize_41 : decode cX2_heapBySize 41 = .ok (.aload_n 2, 1) := by decide +kernel
theorem dX2_heapBySize_42 : decode cX2_heapBySize 42 = .ok (.iload_n 3, 1) := by decide +kernel
theorem dX2_heapBySize_43 : decode cX2_heapBySize 43 = .ok (.invokevirtual 56, 3) := by decide +kernel
theorem dX2_heapBySize_46 : decode cX2_heapBySize 46 = .ok (.iastore, 1) := by decide +kernel
theorem dX2_heapBySize_47 : decode cX2_heapBySize 47 = .ok (.iinc 3 1, 3) := by decide +kernel
theorem dX2_heapBySize_50 : decode cX2_heapBySize 50 = .ok (.goto (-40), 3) := by decide +kernel
theorem dX2_heapBySize_53 : decode cX2_heapBySize 53 = .ok (.aload_n 0, 1) := by decide +kernel
theorem dX2_heapBySize_54 : decode cX2_heapBySize 54 = .ok (.invokevirtual 60, 3) := by decide +kernel
theorem dX2_heapBySize_57 : decode cX2_heapBySize 57 = .ok (.return_, 1) := by decide +kernel
theorem dX2_leastOfSize_0 : decode cX2_leastOfSize 0 = .ok (.iconst 0, 1) := by decide +kernel
theorem dX2_leastOfSize_1 : decode cX2_leastOfSize 1 = .ok (.istore_n 3, 1) := by decide +kernel
theorem dX2_leastOfSize_2 : decode cX2_leastOfSize 2 = .ok (.iload_n 3, 1) := by decide +kernel
theorem dX2_leastOfSize_3 : decode cX2_leastOfSize 3 = .ok (.iload_n 2, 1) := by decide +kernel
theorem dX2_leastOfSize_4 : decode cX2_leastOfSize 4 = .ok (.if_icmp .ge 36, 3) := by decide +kernel
theorem dX2_leastOfSize_7 : decode cX2_leastOfSize 7 = .ok (.aload_n 0, 1) := by decide +kernel
theorem dX2_leastOfSize_8 : decode cX2_leastOfSize 8 = .ok (.getfield 15, 3) := by decide +kernel
theorem dX2_leastOfSize_11 : decode cX2_leastOfSize 11 = .ok (.iload_n 3, 1) := by decide +kernel
theorem dX2_leastOfSize_12 : decode cX2_leastOfSize 12 = .ok (.iaload, 1) := by decide +kernel
theorem dX2_leastOfSize_13 : decode cX2_leastOfSize 13 = .ok (.iconst (-1), 1) := by decide +kernel
theorem dX2_leastOfSize_14 : decode cX2_leastOfSize 14 = .ok (.if_icmp .eq 20, 3) := by decide +kernel
theorem dX2_leastOfSize_17 : decode cX2_leastOfSize 17 = .ok (.aload_n 1, 1) := by decide +kernel
theorem dX2_leastOfSize_18 : decode cX2_leastOfSize 18 = .ok (.getfield 47, 3) := by decide +kernel
theorem dX2_leastOfSize_21 : decode cX2_leastOfSize 21 = .ok (.iload_n 3, 1) := by decide +kernel
theorem dX2_leastOfSize_22 : decode cX2_leastOfSize 22 = .ok (.iaload, 1) := by decide +kernel
theorem dX2_leastOfSize_23 : decode cX2_leastOfSize 23 = .ok (.aload_n 1, 1) := by decide +kernel
theorem dX2_leastOfSize_24 : decode cX2_leastOfSize 24 = .ok (.getfield 47, 3) := by decide +kernel
theorem dX2_leastOfSize_27 : decode cX2_leastOfSize 27 = .ok (.iload_n 2, 1) := by decide +kernel
theorem dX2_leastOfSize_28 : decode cX2_leastOfSize 28 = .ok (.iaload, 1) := by decide +kernel
theorem dX2_leastOfSize_29 : decode cX2_leastOfSize 29 = .ok (.if_icmp .ne 5, 3) := by decide +kernel
theorem dX2_leastOfSize_32 : decode cX2_leastOfSize 32 = .ok (.iload_n 3, 1) := by decide +kernel
theorem dX2_leastOfSize_33 : decode cX2_leastOfSize 33 = .ok (.ireturn, 1) := by decide +kernel
theorem dX2_leastOfSize_34 : decode cX2_leastOfSize 34 = .ok (.iinc 3 1, 3) := by decide +kernel
theorem dX2_leastOfSize_37 : decode cX2_leastOfSize 37 = .ok (.goto (-35), 3) := by decide +kernel
theorem dX2_leastOfSize_40 : decode cX2_leastOfSize 40 = .ok (.iload_n 2, 1) := by decide +kernel
theorem dX2_leastOfSize_41 : decode cX2_leastOfSize 41 = .ok (.ireturn, 1) := by decide +kernel
set_option maxRecDepth 20000 in
theorem ggX2_partByBlock_X2_leastOfBlock : GoodIn wsX2_partByBlock wsX2_leastOfBlock := goodIn_r _ [12, 13, 14, 15, 16, 2, 17, 18, 19, 20, 21, 22, 23, 24, 25, 39, 40, 41, 42, 43, 34, 35, 36, 37, 38] (by decide +kernel) (by decide +kernel)
set_option maxRecDepth 20000 in
theorem gX2_partByBlock_X2_leastOfBlock : GoodIn wsX2_partByBlock (wsV RX2 69 RX2 yX2_leastOfBlock wsX2_leastOfBlock) := goodIn_app (goodIn_of _ (by decide +kernel)) ggX2_partByBlock_X2_leastOfBlock
set_option maxRecDepth 20000 in
theorem ggX2_partByBlock_X2_leaveOutLoneOnes : GoodIn wsX2_partByBlock wsX2_leaveOutLoneOnes := goodIn_r _ [29, 1, 30, 31, 32, 11, 33, 34, 35, 36, 37, 38] (by decide +kernel) (by decide +kernel)
set_option maxRecDepth 20000 in
theorem gX2_partByBlock_X2_leaveOutLoneOnes : GoodIn wsX2_partByBlock (wsV RX2 60 RX2 yX2_leaveOutLoneOnes wsX2_leaveOutLoneOnes) := goodIn_app (goodIn_of _ (by decide +kernel)) ggX2_partByBlock_X2_leaveOutLoneOnes
theorem dX2_partByBlock_0 : decode cX2_partByBlock 0 = .ok (.aload_n 0, 1) := by decide +kernel
theorem dX2_partByBlock_1 : decode cX2_partByBlock 1 = .ok (.getfield 15, 3) := by decide +kernel
theorem dX2_partByBlock_4 : decode cX2_partByBlock 4 = .ok (.iconst 0, 1) := by decide +kernel
theorem dX2_partByBlock_5 : decode cX2_partByBlock 5 = .ok (.aload_n 0, 1) := by decide +kernel
theorem dX2_partByBlock_6 : decode cX2_partByBlock 6 = .ok (.getfield 18, 3) := by decide +kernel
theorem dX2_partByBlock_9 : decode cX2_partByBlock 9 = .ok (.iconst 0, 1) := by decide +kernel
theorem dX2_partByBlock_10 : decode cX2_partByBlock 10 = .ok (.bipush 100, 2) := by decide +kernel
theorem dX2_partByBlock_12 : decode cX2_partByBlock 12 = .ok (.invokestatic 63, 3) := by decide +kernel
theorem dX2_partByBlock_15 : decode cX2_partByBlock 15 = .ok (.iconst 0, 1) := by decide +kernel
theorem dX2_partByBlock_16 : decode cX2_partByBlock 16 = .ok (.istore_n 3, 1) := by decide +kernel
theorem dX2_partByBlock_17 : decode cX2_partByBlock 17 = .ok (.iload_n 3, 1) := by decide +kernel
theorem dX2_partByBlock_18 : decode cX2_partByBlock 18 = .ok (.aload_n 1, 1) := by decide +kernel
theorem dX2_partByBlock_19 : decode cX2_partByBlock 19 = .ok (.getfield 42, 3) := by decide +kernel
theorem dX2_partByBlock_22 : decode cX2_partByBlock 22 = .ok (.if_icmp .ge 52, 3) := by decide +kernel
theorem dX2_partByBlock_25 : decode cX2_partByBlock 25 = .ok (.aload_n 0, 1) := by decide +kernel
theorem dX2_partByBlock_26 : decode cX2_partByBlock 26 = .ok (.getfield 18, 3) := by decide +kernel
theorem dX2_partByBlock_29 : decode cX2_partByBlock 29 = .ok (.iload_n 3, 1) := by decide +kernel
theorem dX2_partByBlock_30 : decode cX2_partByBlock 30 = .ok (.iaload, 1) := by decide +kernel
theorem dX2_partByBlock_31 : decode cX2_partByBlock 31 = .ok (.iconst (-1), 1) := by decide +kernel
theorem dX2_partByBlock_32 : decode cX2_partByBlock 32 = .ok (.if_icmp .eq 36, 3) := by decide +kernel
theorem dX2_partByBlock_35 : decode cX2_partByBlock 35 = .ok (.iload_n 2, 1) := by decide +kernel
theorem dX2_partByBlock_36 : decode cX2_partByBlock 36 = .ok (.aload_n 1, 1) := by decide +kernel
theorem dX2_partByBlock_37 : decode cX2_partByBlock 37 = .ok (.getfield 47, 3) := by decide +kernel
theorem dX2_partByBlock_40 : decode cX2_partByBlock 40 = .ok (.iload_n 3, 1) := by decide +kernel
theorem dX2_partByBlock_41 : decode cX2_partByBlock 41 = .ok (.iaload, 1) := by decide +kernel
theorem dX2_partByBlock_42 : decode cX2_partByBlock 42 = .ok (.if_icmp .ge 26, 3) := by decide +kernel
theorem dX2_partByBlock_45 : decode cX2_partByBlock 45 = .ok (.aload_n 0, 1) := by decide +kernel
theorem dX2_partByBlock_46 : decode cX2_partByBlock 46 = .ok (.dup, 1) := by decide +kernel
theorem dX2_partByBlock_47 : decode cX2_partByBlock 47 = .ok (.getfield 31, 3) := by decide +kernel
theorem dX2_partByBlock_50 : decode cX2_partByBlock 50 = .ok (.iconst 1, 1) := by decide +kernel
theorem dX2_partByBlock_51 : decode cX2_partByBlock 51 = .ok (.iadd, 1) := by decide +kernel
theorem dX2_partByBlock_52 : decode cX2_partByBlock 52 = .ok (.putfield 31, 3) := by decide +kernel
theorem dX2_partByBlock_55 : decode cX2_partByBlock 55 = .ok (.aload_n 0, 1) := by decide +kernel
theorem dX2_partByBlock_56 : decode cX2_partByBlock 56 = .ok (.getfield 15, 3) := by decide +kernel
theorem dX2_partByBlock_59 : decode cX2_partByBlock 59 = .ok (.iload_n 3, 1) := by decide +kernel
theorem dX2_partByBlock_60 : decode cX2_partByBlock 60 = .ok (.aload_n 0, 1) := by decide +kernel
theorem dX2_partByBlock_61 : decode cX2_partByBlock 61 = .ok (.aload_n 1, 1) := by decide +kernel
theorem dX2_partByBlock_62 : decode cX2_partByBlock 62 = .ok (.iload_n 3, 1) := by decide +kernel
theorem dX2_partByBlock_63 : decode cX2_partByBlock 63 = .ok (.iload_n 2, 1) := by decide +kernel
theorem dX2_partByBlock_64 : decode cX2_partByBlock 64 = .ok (.invokevirtual 69, 3) := by decide +kernel
theorem dX2_partByBlock_67 : decode cX2_partByBlock 67 = .ok (.iastore, 1) := by decide +kernel
theorem dX2_partByBlock_68 : decode cX2_partByBlock 68 = .ok (.iinc 3 1, 3) := by decide +kernel
theorem dX2_partByBlock_71 : decode cX2_partByBlock 71 = .ok (.goto (-54), 3) := by decide +kernel
theorem dX2_partByBlock_74 : decode cX2_partByBlock 74 = .ok (.aload_n 0, 1) := by decide +kernel
theorem dX2_partByBlock_75 : decode cX2_partByBlock 75 = .ok (.invokevirtual 60, 3) := by decide +kernel
theorem dX2_partByBlock_78 : decode cX2_partByBlock 78 = .ok (.return_, 1) := by decide +kernel
set_option maxRecDepth 20000 in
theorem ggX2_leastOfBlock_X0_areAlikeWithin : GoodIn wsX2_leastOfBlock wsX0_areAlikeWithin := goodIn_r _ [9, 10, 11, 12, 7, 13, 14, 15, 16, 17, 18, 19] (by decide +kernel) (by decide +kernel)
set_option maxRecDepth 20000 in
theorem gX2_leastOfBlock_X0_areAlikeWithin_n79 : GoodIn wsX2_leastOfBlock (wsX0_areAlikeWithin) := ggX2_leastOfBlock_X0_areAlikeWithin
theorem dX2_leastOfBlock_0 : decode cX2_leastOfBlock 0 = .ok (.iload_n 3, 1) := by decide +kernel
theorem dX2_leastOfBlock_1 : decode cX2_leastOfBlock 1 = .ok (.bipush 8, 2) := by decide +kernel
theorem dX2_leastOfBlock_3 : decode cX2_leastOfBlock 3 = .ok (.iadd, 1) := by decide +kernel
theorem dX2_leastOfBlock_4 : decode cX2_leastOfBlock 4 = .ok (.aload_n 1, 1) := by decide +kernel
theorem dX2_leastOfBlock_5 : decode cX2_leastOfBlock 5 = .ok (.getfield 47, 3) := by decide +kernel
theorem dX2_leastOfBlock_8 : decode cX2_leastOfBlock 8 = .ok (.iload_n 2, 1) := by decide +kernel
theorem dX2_leastOfBlock_9 : decode cX2_leastOfBlock 9 = .ok (.iaload, 1) := by decide +kernel
theorem dX2_leastOfBlock_10 : decode cX2_leastOfBlock 10 = .ok (.invokestatic 73, 3) := by decide +kernel
theorem dX2_leastOfBlock_13 : decode cX2_leastOfBlock 13 = .ok (.istore 4, 2) := by decide +kernel
theorem dX2_leastOfBlock_15 : decode cX2_leastOfBlock 15 = .ok (.aload_n 0, 1) := by decide +kernel
theorem dX2_leastOfBlock_16 : decode cX2_leastOfBlock 16 = .ok (.getfield 18, 3) := by decide +kernel
theorem dX2_leastOfBlock_19 : decode cX2_leastOfBlock 19 = .ok (.iload_n 2, 1) := by decide +kernel
theorem dX2_leastOfBlock_20 : decode cX2_leastOfBlock 20 = .ok (.iaload, 1) := by decide +kernel
theorem dX2_leastOfBlock_21 : decode cX2_leastOfBlock 21 = .ok (.istore 5, 2) := by decide +kernel
theorem dX2_leastOfBlock_23 : decode cX2_leastOfBlock 23 = .ok (.iload 5, 2) := by decide +kernel
theorem dX2_leastOfBlock_25 : decode cX2_leastOfBlock 25 = .ok (.iload_n 2, 1) := by decide +kernel
theorem dX2_leastOfBlock_26 : decode cX2_leastOfBlock 26 = .ok (.if_icmp .ge 41, 3) := by decide +kernel
theorem dX2_leastOfBlock_29 : decode cX2_leastOfBlock 29 = .ok (.aload_n 0, 1) := by decide +kernel
theorem dX2_leastOfBlock_30 : decode cX2_leastOfBlock 30 = .ok (.getfield 18, 3) := by decide +kernel
theorem dX2_leastOfBlock_33 : decode cX2_leastOfBlock 33 = .ok (.iload 5, 2) := by decide +kernel
theorem dX2_leastOfBlock_35 : decode cX2_leastOfBlock 35 = .ok (.iaload, 1) := by decide +kernel
theorem dX2_leastOfBlock_36 : decode cX2_leastOfBlock 36 = .ok (.aload_n 0, 1) := by decide +kernel
theorem dX2_leastOfBlock_37 : decode cX2_leastOfBlock 37 = .ok (.getfield 18, 3) := by decide +kernel
theorem dX2_leastOfBlock_40 : decode cX2_leastOfBlock 40 = .ok (.iload_n 2, 1) := by decide +kernel
theorem dX2_leastOfBlock_41 : decode cX2_leastOfBlock 41 = .ok (.iaload, 1) := by decide +kernel
theorem dX2_leastOfBlock_42 : decode cX2_leastOfBlock 42 = .ok (.if_icmp .ne 19, 3) := by decide +kernel
theorem dX2_leastOfBlock_45 : decode cX2_leastOfBlock 45 = .ok (.aload_n 1, 1) := by decide +kernel
theorem dX2_leastOfBlock_46 : decode cX2_leastOfBlock 46 = .ok (.iload 5, 2) := by decide +kernel
theorem dX2_leastOfBlock_48 : decode cX2_leastOfBlock 48 = .ok (.iload_n 2, 1) := by decide +kernel
theorem dX2_leastOfBlock_49 : decode cX2_leastOfBlock 49 = .ok (.iload_n 3, 1) := by decide +kernel
theorem dX2_leastOfBlock_50 : decode cX2_leastOfBlock 50 = .ok (.iload 4, 2) := by decide +kernel
theorem dX2_leastOfBlock_52 : decode cX2_leastOfBlock 52 = .ok (.invokevirtual 79, 3) := by decide +kernel
theorem dX2_leastOfBlock_55 : decode cX2_leastOfBlock 55 = .ok (.ifCond .eq 6, 3) := by decide +kernel
theorem dX2_leastOfBlock_58 : decode cX2_leastOfBlock 58 = .ok (.iload 5, 2) := by decide +kernel
theorem dX2_leastOfBlock_60 : decode cX2_leastOfBlock 60 = .ok (.ireturn, 1) := by decide +kernel
theorem dX2_leastOfBlock_61 : decode cX2_leastOfBlock 61 = .ok (.iinc 5 1, 3) := by decide +kernel
theorem dX2_leastOfBlock_64 : decode cX2_leastOfBlock 64 = .ok (.goto (-41), 3) := by decide +kernel
theorem dX2_leastOfBlock_67 : decode cX2_leastOfBlock 67 = .ok (.iload_n 2, 1) := by decide +kernel
theorem dX2_leastOfBlock_68 : decode cX2_leastOfBlock 68 = .ok (.ireturn, 1) := by decide +kernel
set_option maxRecDepth 20000 in
theorem ggX2_leaveOutLoneOnes_X2_hasGreaterOne : GoodIn wsX2_leaveOutLoneOnes wsX2_hasGreaterOne := goodIn_r _ [6, 1, 7, 8, 9, 10, 11] (by decide +kernel) (by decide +kernel)
set_option maxRecDepth 20000 in
theorem gX2_leaveOutLoneOnes_X2_hasGreaterOne : GoodIn wsX2_leaveOutLoneOnes (wsV RX2 83 RX2 yX2_hasGreaterOne wsX2_hasGreaterOne) := goodIn_app (goodIn_of _ (by decide +kernel)) ggX2_leaveOutLoneOnes_X2_hasGreaterOne
theorem dX2_leaveOutLoneOnes_0 : decode cX2_leaveOutLoneOnes 0 = .ok (.iconst 0, 1) := by decide +kernel
theorem dX2_leaveOutLoneOnes_1 : decode cX2_leaveOutLoneOnes 1 = .ok (.istore_n 1, 1) := by decide +kernel
theorem dX2_leaveOutLoneOnes_2 : decode cX2_leaveOutLoneOnes 2 = .ok (.iload_n 1, 1) := by decide +kernel
theorem dX2_leaveOutLoneOnes_3 : decode cX2_leaveOutLoneOnes 3 = .ok (.bipush 100, 2) := by decide +kernel
theorem dX2_leaveOutLoneOnes_5 : decode cX2_leaveOutLoneOnes 5 = .ok (.if_icmp .ge 34, 3) := by decide +kernel
theorem dX2_leaveOutLoneOnes_8 : decode cX2_leaveOutLoneOnes 8 = .ok (.aload_n 0, 1) := by decide +kernel
theorem dX2_leaveOutLoneOnes_9 : decode cX2_leaveOutLoneOnes 9 = .ok (.getfield 15, 3) := by decide +kernel
theorem dX2_leaveOutLoneOnes_12 : decode cX2_leaveOutLoneOnes 12 = .ok (.iload_n 1, 1) := by decide +kernel
theorem dX2_leaveOutLoneOnes_13 : decode cX2_leaveOutLoneOnes 13 = .ok (.iaload, 1) := by decide +kernel
theorem dX2_leaveOutLoneOnes_14 : decode cX2_leaveOutLoneOnes 14 = .ok (.iload_n 1, 1) := by decide +kernel
theorem dX2_leaveOutLoneOnes_15 : decode cX2_leaveOutLoneOnes 15 = .ok (.if_icmp .ne 18, 3) := by decide +kernel
theorem dX2_leaveOutLoneOnes_18 : decode cX2_leaveOutLoneOnes 18 = .ok (.aload_n 0, 1) := by decide +kernel
theorem dX2_leaveOutLoneOnes_19 : decode cX2_leaveOutLoneOnes 19 = .ok (.iload_n 1, 1) := by decide +kernel
theorem dX2_leaveOutLoneOnes_20 : decode cX2_leaveOutLoneOnes 20 = .ok (.invokevirtual 83, 3) := by decide +kernel
theorem dX2_leaveOutLoneOnes_23 : decode cX2_leaveOutLoneOnes 23 = .ok (.ifCond .ne 10, 3) := by decide +kernel
theorem dX2_leaveOutLoneOnes_26 : decode cX2_leaveOutLoneOnes 26 = .ok (.aload_n 0, 1) := by decide +kernel
theorem dX2_leaveOutLoneOnes_27 : decode cX2_leaveOutLoneOnes 27 = .ok (.getfield 15, 3) := by decide +kernel
theorem dX2_leaveOutLoneOnes_30 : decode cX2_leaveOutLoneOnes 30 = .ok (.iload_n 1, 1) := by decide +kernel
theorem dX2_leaveOutLoneOnes_31 : decode cX2_leaveOutLoneOnes 31 = .ok (.iconst (-1), 1) := by decide +kernel
theorem dX2_leaveOutLoneOnes_32 : decode cX2_leaveOutLoneOnes 32 = .ok (.iastore, 1) := by decide +kernel
theorem dX2_leaveOutLoneOnes_33 : decode cX2_leaveOutLoneOnes 33 = .ok (.iinc 1 1, 3) := by decide +kernel
theorem dX2_leaveOutLoneOnes_36 : decode cX2_leaveOutLoneOnes 36 = .ok (.goto (-34), 3) := by decide +kernel
theorem dX2_leaveOutLoneOnes_39 : decode cX2_leaveOutLoneOnes 39 = .ok (.return_, 1) := by decide +kernel
theorem dX2_hasGreaterOne_0 : decode cX2_hasGreaterOne 0 = .ok (.iload_n 1, 1) := by decide +kernel
theorem dX2_hasGreaterOne_1 : decode cX2_hasGreaterOne 1 = .ok (.iconst 1, 1) := by decide +kernel
theorem dX2_hasGreaterOne_2 : decode cX2_hasGreaterOne 2 = .ok (.iadd, 1) := by decide +kernel
theorem dX2_hasGreaterOne_3 : decode cX2_hasGreaterOne 3 = .ok (.istore_n 2, 1) := by decide +kernel
theorem dX2_hasGreaterOne_4 : decode cX2_hasGreaterOne 4 = .ok (.iload_n 2, 1) := by decide +kernel
theorem dX2_hasGreaterOne_5 : decode cX2_hasGreaterOne 5 = .ok (.bipush 100, 2) := by decide +kernel
theorem dX2_hasGreaterOne_7 : decode cX2_hasGreaterOne 7 = .ok (.if_icmp .ge 21, 3) := by decide +kernel
theorem dX2_hasGreaterOne_10 : decode cX2_hasGreaterOne 10 = .ok (.aload_n 0, 1) := by decide +kernel
theorem dX2_hasGreaterOne_11 : decode cX2_hasGreaterOne 11 = .ok (.getfield 15, 3) := by decide +kernel
theorem dX2_hasGreaterOne_14 : decode cX2_hasGreaterOne 14 = .ok (.iload_n 2, 1) := by decide +kernel
theorem dX2_hasGreaterOne_15 : decode cX2_hasGreaterOne 15 = .ok (.iaload, 1) := by decide +kernel
theorem dX2_hasGreaterOne_16 : decode cX2_hasGreaterOne 16 = .ok (.iload_n 1, 1) := by decide +kernel
theorem dX2_hasGreaterOne_17 : decode cX2_hasGreaterOne 17 = .ok (.if_icmp .ne 5, 3) := by decide +kernel
theorem dX2_hasGreaterOne_20 : decode cX2_hasGreaterOne 20 = .ok (.iconst 1, 1) := by decide +kernel
theorem dX2_hasGreaterOne_21 : decode cX2_hasGreaterOne 21 = .ok (.ireturn, 1) := by decide +kernel
theorem dX2_hasGreaterOne_22 : decode cX2_hasGreaterOne 22 = .ok (.iinc 2 1, 3) := by decide +kernel
theorem dX2_hasGreaterOne_25 : decode cX2_hasGreaterOne 25 = .ok (.goto (-21), 3) := by decide +kernel
theorem dX2_hasGreaterOne_28 : decode cX2_hasGreaterOne 28 = .ok (.iconst 0, 1) := by decide +kernel
theorem dX2_hasGreaterOne_29 : decode cX2_hasGreaterOne 29 = .ok (.ireturn, 1) := by decide +kernel
theorem dX2_numberGroups_0 : decode cX2_numberGroups 0 = .ok (.aload_n 0, 1) := by decide +kernel
theorem dX2_numberGroups_1 : decode cX2_numberGroups 1 = .ok (.iconst 0, 1) := by decide +kernel
theorem dX2_numberGroups_2 : decode cX2_numberGroups 2 = .ok (.putfield 87, 3) := by decide +kernel
theorem dX2_numberGroups_5 : decode cX2_numberGroups 5 = .ok (.iconst 0, 1) := by decide +kernel
theorem dX2_numberGroups_6 : decode cX2_numberGroups 6 = .ok (.istore_n 1, 1) := by decide +kernel
theorem dX2_numberGroups_7 : decode cX2_numberGroups 7 = .ok (.iload_n 1, 1) := by decide +kernel
theorem dX2_numberGroups_8 : decode cX2_numberGroups 8 = .ok (.bipush 100, 2) := by decide +kernel
theorem dX2_numberGroups_10 : decode cX2_numberGroups 10 = .ok (.if_icmp .ge 71, 3) := by decide +kernel
theorem dX2_numberGroups_13 : decode cX2_numberGroups 13 = .ok (.aload_n 0, 1) := by decide +kernel
theorem dX2_numberGroups_14 : decode cX2_numberGroups 14 = .ok (.getfield 15, 3) := by decide +kernel
theorem dX2_numberGroups_17 : decode cX2_numberGroups 17 = .ok (.iload_n 1, 1) := by decide +kernel
theorem dX2_numberGroups_18 : decode cX2_numberGroups 18 = .ok (.iaload, 1) := by decide +kernel
theorem dX2_numberGroups_19 : decode cX2_numberGroups 19 = .ok (.istore_n 2, 1) := by decide +kernel
theorem dX2_numberGroups_20 : decode cX2_numberGroups 20 = .ok (.iload_n 2, 1) := by decide +kernel
theorem dX2_numberGroups_21 : decode cX2_numberGroups 21 = .ok (.iconst (-1), 1) := by decide +kernel
theorem dX2_numberGroups_22 : decode cX2_numberGroups 22 = .ok (.if_icmp .ne 13, 3) := by decide +kernel
theorem dX2_numberGroups_25 : decode cX2_numberGroups 25 = .ok (.aload_n 0, 1) := by decide +kernel
theorem dX2_numberGroups_26 : decode cX2_numberGroups 26 = .ok (.getfield 9, 3) := by decide +kernel
theorem dX2_numberGroups_29 : decode cX2_numberGroups 29 = .ok (.iload_n 1, 1) := by decide +kernel
theorem dX2_numberGroups_30 : decode cX2_numberGroups 30 = .ok (.iconst (-1), 1) := by decide +kernel
theorem dX2_numberGroups_31 : decode cX2_numberGroups 31 = .ok (.iastore, 1) := by decide +kernel
theorem dX2_numberGroups_32 : decode cX2_numberGroups 32 = .ok (.goto 43, 3) := by decide +kernel
theorem dX2_numberGroups_35 : decode cX2_numberGroups 35 = .ok (.iload_n 2, 1) := by decide +kernel
theorem dX2_numberGroups_36 : decode cX2_numberGroups 36 = .ok (.iload_n 1, 1) := by decide +kernel
theorem dX2_numberGroups_37 : decode cX2_numberGroups 37 = .ok (.if_icmp .ne 26, 3) := by decide +kernel
theorem dX2_numberGroups_40 : decode cX2_numberGroups 40 = .ok (.aload_n 0, 1) := by decide +kernel
theorem dX2_numberGroups_41 : decode cX2_numberGroups 41 = .ok (.getfield 9, 3) := by decide +kernel
theorem dX2_numberGroups_44 : decode cX2_numberGroups 44 = .ok (.iload_n 1, 1) := by decide +kernel
theorem dX2_numberGroups_45 : decode cX2_numberGroups 45 = .ok (.aload_n 0, 1) := by decide +kernel
theorem dX2_numberGroups_46 : decode cX2_numberGroups 46 = .ok (.getfield 87, 3) := by decide +kernel
theorem dX2_numberGroups_49 : decode cX2_numberGroups 49 = .ok (.iastore, 1) := by decide +kernel
theorem dX2_numberGroups_50 : decode cX2_numberGroups 50 = .ok (.aload_n 0, 1) := by decide +kernel
theorem dX2_numberGroups_51 : decode cX2_numberGroups 51 = .ok (.dup, 1) := by decide +kernel
theorem dX2_numberGroups_52 : decode cX2_numberGroups 52 = .ok (.getfield 87, 3) := by decide +kernel
theorem dX2_numberGroups_55 : decode cX2_numberGroups 55 = .ok (.iconst 1, 1) := by decide +kernel
theorem dX2_numberGroups_56 : decode cX2_numberGroups 56 = .ok (.iadd, 1) := by decide +kernel
theorem dX2_numberGroups_57 : decode cX2_numberGroups 57 = .ok (.putfield 87, 3) := by decide +kernel
theorem dX2_numberGroups_60 : decode cX2_numberGroups 60 = .ok (.goto 15, 3) := by decide +kernel
theorem dX2_numberGroups_63 : decode cX2_numberGroups 63 = .ok (.aload_n 0, 1) := by decide +kernel
theorem dX2_numberGroups_64 : decode cX2_numberGroups 64 = .ok (.getfield 9, 3) := by decide +kernel
theorem dX2_numberGroups_67 : decode cX2_numberGroups 67 = .ok (.iload_n 1, 1) := by decide +kernel
theorem dX2_numberGroups_68 : decode cX2_numberGroups 68 = .ok (.aload_n 0, 1) := by decide +kernel
theorem dX2_numberGroups_69 : decode cX2_numberGroups 69 = .ok (.getfield 9, 3) := by decide +kernel
theorem dX2_numberGroups_72 : decode cX2_numberGroups 72 = .ok (.iload_n 2, 1) := by decide +kernel
theorem dX2_numberGroups_73 : decode cX2_numberGroups 73 = .ok (.iaload, 1) := by decide +kernel
theorem dX2_numberGroups_74 : decode cX2_numberGroups 74 = .ok (.iastore, 1) := by decide +kernel
theorem dX2_numberGroups_75 : decode cX2_numberGroups 75 = .ok (.iinc 1 1, 3) := by decide +kernel
theorem dX2_numberGroups_78 : decode cX2_numberGroups 78 = .ok (.goto (-71), 3) := by decide +kernel
theorem dX2_numberGroups_81 : decode cX2_numberGroups 81 = .ok (.return_, 1) := by decide +kernel
theorem dX3_init_0 : decode cX3_init 0 = .ok (.aload_n 0, 1) := by decide +kernel
theorem dX3_init_1 : decode cX3_init 1 = .ok (.invokespecial 3, 3) := by decide +kernel
theorem dX3_init_4 : decode cX3_init 4 = .ok (.aload_n 0, 1) := by decide +kernel
theorem dX3_init_5 : decode cX3_init 5 = .ok (.bipush 16, 2) := by decide +kernel
theorem dX3_init_7 : decode cX3_init 7 = .ok (.newarray .int, 2) := by decide +kernel
theorem dX3_init_9 : decode cX3_init 9 = .ok (.putfield 9, 3) := by decide +kernel
theorem dX3_init_12 : decode cX3_init 12 = .ok (.aload_n 0, 1) := by decide +kernel
theorem dX3_init_13 : decode cX3_init 13 = .ok (.bipush 16, 2) := by decide +kernel
theorem dX3_init_15 : decode cX3_init 15 = .ok (.newarray .int, 2) := by decide +kernel
theorem dX3_init_17 : decode cX3_init 17 = .ok (.putfield 15, 3) := by decide +kernel
theorem dX3_init_20 : decode cX3_init 20 = .ok (.aload_n 0, 1) := by decide +kernel
theorem dX3_init_21 : decode cX3_init 21 = .ok (.bipush 16, 2) := by decide +kernel
theorem dX3_init_23 : decode cX3_init 23 = .ok (.newarray .int, 2) := by decide +kernel
theorem dX3_init_25 : decode cX3_init 25 = .ok (.putfield 18, 3) := by decide +kernel
theorem dX3_init_28 : decode cX3_init 28 = .ok (.aload_n 0, 1) := by decide +kernel
theorem dX3_init_29 : decode cX3_init 29 = .ok (.getfield 9, 3) := by decide +kernel
theorem dX3_init_32 : decode cX3_init 32 = .ok (.iconst 0, 1) := by decide +kernel
theorem dX3_init_33 : decode cX3_init 33 = .ok (.iconst (-1), 1) := by decide +kernel
theorem dX3_init_34 : decode cX3_init 34 = .ok (.iastore, 1) := by decide +kernel
theorem dX3_init_35 : decode cX3_init 35 = .ok (.aload_n 0, 1) := by decide +kernel
theorem dX3_init_36 : decode cX3_init 36 = .ok (.getfield 15, 3) := by decide +kernel
theorem dX3_init_39 : decode cX3_init 39 = .ok (.iconst 0, 1) := by decide +kernel
