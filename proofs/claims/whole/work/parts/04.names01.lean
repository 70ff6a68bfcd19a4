theorem dX3_init_40 : decode cX3_init 40 = .ok (.iconst (-1), 1) := by decide +kernel
theorem dX3_init_41 : decode cX3_init 41 = .ok (.iastore, 1) := by decide +kernel
theorem dX3_init_42 : decode cX3_init 42 = .ok (.aload_n 0, 1) := by decide +kernel
theorem dX3_init_43 : decode cX3_init 43 = .ok (.getfield 18, 3) := by decide +kernel
theorem dX3_init_46 : decode cX3_init 46 = .ok (.iconst 0, 1) := by decide +kernel
theorem dX3_init_47 : decode cX3_init 47 = .ok (.iconst 1, 1) := by decide +kernel
theorem dX3_init_48 : decode cX3_init 48 = .ok (.iastore, 1) := by decide +kernel
theorem dX3_init_49 : decode cX3_init 49 = .ok (.aload_n 0, 1) := by decide +kernel
theorem dX3_init_50 : decode cX3_init 50 = .ok (.iconst 1, 1) := by decide +kernel
theorem dX3_init_51 : decode cX3_init 51 = .ok (.putfield 21, 3) := by decide +kernel
theorem dX3_init_54 : decode cX3_init 54 = .ok (.return_, 1) := by decide +kernel
theorem dX3_has_0 : decode cX3_has 0 = .ok (.iload_n 1, 1) := by decide +kernel
theorem dX3_has_1 : decode cX3_has 1 = .ok (.ifCond .lt 15, 3) := by decide +kernel
theorem dX3_has_4 : decode cX3_has 4 = .ok (.iload_n 1, 1) := by decide +kernel
theorem dX3_has_5 : decode cX3_has 5 = .ok (.aload_n 0, 1) := by decide +kernel
theorem dX3_has_6 : decode cX3_has 6 = .ok (.getfield 21, 3) := by decide +kernel
theorem dX3_has_9 : decode cX3_has 9 = .ok (.if_icmp .ge 7, 3) := by decide +kernel
theorem dX3_has_12 : decode cX3_has 12 = .ok (.iconst 1, 1) := by decide +kernel
theorem dX3_has_13 : decode cX3_has 13 = .ok (.goto 4, 3) := by decide +kernel
theorem dX3_has_16 : decode cX3_has 16 = .ok (.iconst 0, 1) := by decide +kernel
theorem dX3_has_17 : decode cX3_has 17 = .ok (.ireturn, 1) := by decide +kernel
theorem dX3_hasRoom_0 : decode cX3_hasRoom 0 = .ok (.aload_n 0, 1) := by decide +kernel
theorem dX3_hasRoom_1 : decode cX3_hasRoom 1 = .ok (.getfield 21, 3) := by decide +kernel
theorem dX3_hasRoom_4 : decode cX3_hasRoom 4 = .ok (.bipush 16, 2) := by decide +kernel
theorem dX3_hasRoom_6 : decode cX3_hasRoom 6 = .ok (.if_icmp .ge 7, 3) := by decide +kernel
theorem dX3_hasRoom_9 : decode cX3_hasRoom 9 = .ok (.iconst 1, 1) := by decide +kernel
theorem dX3_hasRoom_10 : decode cX3_hasRoom 10 = .ok (.goto 4, 3) := by decide +kernel
theorem dX3_hasRoom_13 : decode cX3_hasRoom 13 = .ok (.iconst 0, 1) := by decide +kernel
theorem dX3_hasRoom_14 : decode cX3_hasRoom 14 = .ok (.ireturn, 1) := by decide +kernel
theorem dX3_named_0 : decode cX3_named 0 = .ok (.iconst 1, 1) := by decide +kernel
theorem dX3_named_1 : decode cX3_named 1 = .ok (.istore_n 3, 1) := by decide +kernel
theorem dX3_named_2 : decode cX3_named 2 = .ok (.iload_n 3, 1) := by decide +kernel
theorem dX3_named_3 : decode cX3_named 3 = .ok (.aload_n 0, 1) := by decide +kernel
theorem dX3_named_4 : decode cX3_named 4 = .ok (.getfield 21, 3) := by decide +kernel
theorem dX3_named_7 : decode cX3_named 7 = .ok (.if_icmp .ge 31, 3) := by decide +kernel
theorem dX3_named_10 : decode cX3_named 10 = .ok (.aload_n 0, 1) := by decide +kernel
theorem dX3_named_11 : decode cX3_named 11 = .ok (.getfield 9, 3) := by decide +kernel
theorem dX3_named_14 : decode cX3_named 14 = .ok (.iload_n 3, 1) := by decide +kernel
theorem dX3_named_15 : decode cX3_named 15 = .ok (.iaload, 1) := by decide +kernel
theorem dX3_named_16 : decode cX3_named 16 = .ok (.iload_n 1, 1) := by decide +kernel
theorem dX3_named_17 : decode cX3_named 17 = .ok (.if_icmp .ne 15, 3) := by decide +kernel
theorem dX3_named_20 : decode cX3_named 20 = .ok (.aload_n 0, 1) := by decide +kernel
theorem dX3_named_21 : decode cX3_named 21 = .ok (.getfield 15, 3) := by decide +kernel
theorem dX3_named_24 : decode cX3_named 24 = .ok (.iload_n 3, 1) := by decide +kernel
theorem dX3_named_25 : decode cX3_named 25 = .ok (.iaload, 1) := by decide +kernel
theorem dX3_named_26 : decode cX3_named 26 = .ok (.iload_n 2, 1) := by decide +kernel
theorem dX3_named_27 : decode cX3_named 27 = .ok (.if_icmp .ne 5, 3) := by decide +kernel
theorem dX3_named_30 : decode cX3_named 30 = .ok (.iload_n 3, 1) := by decide +kernel
theorem dX3_named_31 : decode cX3_named 31 = .ok (.ireturn, 1) := by decide +kernel
theorem dX3_named_32 : decode cX3_named 32 = .ok (.iinc 3 1, 3) := by decide +kernel
theorem dX3_named_35 : decode cX3_named 35 = .ok (.goto (-33), 3) := by decide +kernel
theorem dX3_named_38 : decode cX3_named 38 = .ok (.iconst (-1), 1) := by decide +kernel
theorem dX3_named_39 : decode cX3_named 39 = .ok (.ireturn, 1) := by decide +kernel
theorem dX3_make_0 : decode cX3_make 0 = .ok (.aload_n 0, 1) := by decide +kernel
theorem dX3_make_1 : decode cX3_make 1 = .ok (.getfield 21, 3) := by decide +kernel
theorem dX3_make_4 : decode cX3_make 4 = .ok (.istore_n 3, 1) := by decide +kernel
theorem dX3_make_5 : decode cX3_make 5 = .ok (.aload_n 0, 1) := by decide +kernel
theorem dX3_make_6 : decode cX3_make 6 = .ok (.dup, 1) := by decide +kernel
theorem dX3_make_7 : decode cX3_make 7 = .ok (.getfield 21, 3) := by decide +kernel
theorem dX3_make_10 : decode cX3_make 10 = .ok (.iconst 1, 1) := by decide +kernel
theorem dX3_make_11 : decode cX3_make 11 = .ok (.iadd, 1) := by decide +kernel
theorem dX3_make_12 : decode cX3_make 12 = .ok (.putfield 21, 3) := by decide +kernel
theorem dX3_make_15 : decode cX3_make 15 = .ok (.aload_n 0, 1) := by decide +kernel
theorem dX3_make_16 : decode cX3_make 16 = .ok (.getfield 9, 3) := by decide +kernel
theorem dX3_make_19 : decode cX3_make 19 = .ok (.iload_n 3, 1) := by decide +kernel
theorem dX3_make_20 : decode cX3_make 20 = .ok (.iload_n 1, 1) := by decide +kernel
theorem dX3_make_21 : decode cX3_make 21 = .ok (.iastore, 1) := by decide +kernel
theorem dX3_make_22 : decode cX3_make 22 = .ok (.aload_n 0, 1) := by decide +kernel
theorem dX3_make_23 : decode cX3_make 23 = .ok (.getfield 15, 3) := by decide +kernel
theorem dX3_make_26 : decode cX3_make 26 = .ok (.iload_n 3, 1) := by decide +kernel
theorem dX3_make_27 : decode cX3_make 27 = .ok (.iload_n 2, 1) := by decide +kernel
theorem dX3_make_28 : decode cX3_make 28 = .ok (.iastore, 1) := by decide +kernel
theorem dX3_make_29 : decode cX3_make 29 = .ok (.aload_n 0, 1) := by decide +kernel
theorem dX3_make_30 : decode cX3_make 30 = .ok (.getfield 18, 3) := by decide +kernel
theorem dX3_make_33 : decode cX3_make 33 = .ok (.iload_n 3, 1) := by decide +kernel
theorem dX3_make_34 : decode cX3_make 34 = .ok (.aload_n 0, 1) := by decide +kernel
theorem dX3_make_35 : decode cX3_make 35 = .ok (.getfield 18, 3) := by decide +kernel
theorem dX3_make_38 : decode cX3_make 38 = .ok (.iload_n 1, 1) := by decide +kernel
theorem dX3_make_39 : decode cX3_make 39 = .ok (.iaload, 1) := by decide +kernel
theorem dX3_make_40 : decode cX3_make 40 = .ok (.iconst 1, 1) := by decide +kernel
theorem dX3_make_41 : decode cX3_make 41 = .ok (.iadd, 1) := by decide +kernel
theorem dX3_make_42 : decode cX3_make 42 = .ok (.iastore, 1) := by decide +kernel
theorem dX3_make_43 : decode cX3_make 43 = .ok (.iload_n 3, 1) := by decide +kernel
theorem dX3_make_44 : decode cX3_make 44 = .ok (.ireturn, 1) := by decide +kernel
theorem dX3_isInOrBelow_0 : decode cX3_isInOrBelow 0 = .ok (.iload_n 1, 1) := by decide +kernel
theorem dX3_isInOrBelow_1 : decode cX3_isInOrBelow 1 = .ok (.istore_n 3, 1) := by decide +kernel
theorem dX3_isInOrBelow_2 : decode cX3_isInOrBelow 2 = .ok (.iconst 0, 1) := by decide +kernel
theorem dX3_isInOrBelow_3 : decode cX3_isInOrBelow 3 = .ok (.istore 4, 2) := by decide +kernel
theorem dX3_isInOrBelow_5 : decode cX3_isInOrBelow 5 = .ok (.iload 4, 2) := by decide +kernel
theorem dX3_isInOrBelow_7 : decode cX3_isInOrBelow 7 = .ok (.bipush 16, 2) := by decide +kernel
theorem dX3_isInOrBelow_9 : decode cX3_isInOrBelow 9 = .ok (.if_icmp .ge 28, 3) := by decide +kernel
theorem dX3_isInOrBelow_12 : decode cX3_isInOrBelow 12 = .ok (.iload_n 3, 1) := by decide +kernel
theorem dX3_isInOrBelow_13 : decode cX3_isInOrBelow 13 = .ok (.iconst (-1), 1) := by decide +kernel
theorem dX3_isInOrBelow_14 : decode cX3_isInOrBelow 14 = .ok (.if_icmp .eq 23, 3) := by decide +kernel
theorem dX3_isInOrBelow_17 : decode cX3_isInOrBelow 17 = .ok (.iload_n 3, 1) := by decide +kernel
theorem dX3_isInOrBelow_18 : decode cX3_isInOrBelow 18 = .ok (.iload_n 2, 1) := by decide +kernel
theorem dX3_isInOrBelow_19 : decode cX3_isInOrBelow 19 = .ok (.if_icmp .ne 5, 3) := by decide +kernel
theorem dX3_isInOrBelow_22 : decode cX3_isInOrBelow 22 = .ok (.iconst 1, 1) := by decide +kernel
theorem dX3_isInOrBelow_23 : decode cX3_isInOrBelow 23 = .ok (.ireturn, 1) := by decide +kernel
theorem dX3_isInOrBelow_24 : decode cX3_isInOrBelow 24 = .ok (.aload_n 0, 1) := by decide +kernel
theorem dX3_isInOrBelow_25 : decode cX3_isInOrBelow 25 = .ok (.getfield 9, 3) := by decide +kernel
theorem dX3_isInOrBelow_28 : decode cX3_isInOrBelow 28 = .ok (.iload_n 3, 1) := by decide +kernel
theorem dX3_isInOrBelow_29 : decode cX3_isInOrBelow 29 = .ok (.iaload, 1) := by decide +kernel
theorem dX3_isInOrBelow_30 : decode cX3_isInOrBelow 30 = .ok (.istore_n 3, 1) := by decide +kernel
theorem dX3_isInOrBelow_31 : decode cX3_isInOrBelow 31 = .ok (.iinc 4 1, 3) := by decide +kernel
theorem dX3_isInOrBelow_34 : decode cX3_isInOrBelow 34 = .ok (.goto (-29), 3) := by decide +kernel
theorem dX3_isInOrBelow_37 : decode cX3_isInOrBelow 37 = .ok (.iconst 0, 1) := by decide +kernel
theorem dX3_isInOrBelow_38 : decode cX3_isInOrBelow 38 = .ok (.ireturn, 1) := by decide +kernel
theorem dX4_init_0 : decode cX4_init 0 = .ok (.aload_n 0, 1) := by decide +kernel
theorem dX4_init_1 : decode cX4_init 1 = .ok (.invokespecial 3, 3) := by decide +kernel
theorem dX4_init_4 : decode cX4_init 4 = .ok (.aload_n 0, 1) := by decide +kernel
theorem dX4_init_5 : decode cX4_init 5 = .ok (.bipush 20, 2) := by decide +kernel
theorem dX4_init_7 : decode cX4_init 7 = .ok (.newarray .int, 2) := by decide +kernel
theorem dX4_init_9 : decode cX4_init 9 = .ok (.putfield 9, 3) := by decide +kernel
theorem dX4_init_12 : decode cX4_init 12 = .ok (.aload_n 0, 1) := by decide +kernel
theorem dX4_init_13 : decode cX4_init 13 = .ok (.bipush 20, 2) := by decide +kernel
theorem dX4_init_15 : decode cX4_init 15 = .ok (.bipush 60, 2) := by decide +kernel
theorem dX4_init_17 : decode cX4_init 17 = .ok (.multianewarray 15 2, 4) := by decide +kernel
theorem dX4_init_21 : decode cX4_init 21 = .ok (.putfield 17, 3) := by decide +kernel
theorem dX4_init_24 : decode cX4_init 24 = .ok (.return_, 1) := by decide +kernel
set_option maxRecDepth 20000 in
theorem ggX4_begin_J7_fill_53178 : GoodIn wsX4_begin wsJ7_fill_53178 := goodIn_r _ [12] (by decide +kernel) (by decide +kernel)
set_option maxRecDepth 20000 in
theorem gX4_begin_J7_fill_53178 : GoodIn wsX4_begin (va_wsS RX4 33 yJ7_fill_53178 wsJ7_fill_53178) := goodIn_app (goodIn_of _ (by decide +kernel)) ggX4_begin_J7_fill_53178
theorem dX4_begin_0 : decode cX4_begin 0 = .ok (.aload_n 0, 1) := by decide +kernel
theorem dX4_begin_1 : decode cX4_begin 1 = .ok (.aload_n 0, 1) := by decide +kernel
theorem dX4_begin_2 : decode cX4_begin 2 = .ok (.getfield 20, 3) := by decide +kernel
theorem dX4_begin_5 : decode cX4_begin 5 = .ok (.iconst 1, 1) := by decide +kernel
theorem dX4_begin_6 : decode cX4_begin 6 = .ok (.iadd, 1) := by decide +kernel
theorem dX4_begin_7 : decode cX4_begin 7 = .ok (.bipush 20, 2) := by decide +kernel
theorem dX4_begin_9 : decode cX4_begin 9 = .ok (.if_icmp .ge 12, 3) := by decide +kernel
theorem dX4_begin_12 : decode cX4_begin 12 = .ok (.aload_n 0, 1) := by decide +kernel
theorem dX4_begin_13 : decode cX4_begin 13 = .ok (.getfield 20, 3) := by decide +kernel
theorem dX4_begin_16 : decode cX4_begin 16 = .ok (.iconst 1, 1) := by decide +kernel
theorem dX4_begin_17 : decode cX4_begin 17 = .ok (.iadd, 1) := by decide +kernel
theorem dX4_begin_18 : decode cX4_begin 18 = .ok (.goto 4, 3) := by decide +kernel
theorem dX4_begin_21 : decode cX4_begin 21 = .ok (.iconst 0, 1) := by decide +kernel
theorem dX4_begin_22 : decode cX4_begin 22 = .ok (.putfield 20, 3) := by decide +kernel
theorem dX4_begin_25 : decode cX4_begin 25 = .ok (.aload_n 0, 1) := by decide +kernel
theorem dX4_begin_26 : decode cX4_begin 26 = .ok (.aload_n 0, 1) := by decide +kernel
theorem dX4_begin_27 : decode cX4_begin 27 = .ok (.getfield 24, 3) := by decide +kernel
theorem dX4_begin_30 : decode cX4_begin 30 = .ok (.iconst 1, 1) := by decide +kernel
theorem dX4_begin_31 : decode cX4_begin 31 = .ok (.iadd, 1) := by decide +kernel
theorem dX4_begin_32 : decode cX4_begin 32 = .ok (.bipush 20, 2) := by decide +kernel
theorem dX4_begin_34 : decode cX4_begin 34 = .ok (.invokestatic 27, 3) := by decide +kernel
theorem dX4_begin_37 : decode cX4_begin 37 = .ok (.putfield 24, 3) := by decide +kernel
theorem dX4_begin_40 : decode cX4_begin 40 = .ok (.aload_n 0, 1) := by decide +kernel
theorem dX4_begin_41 : decode cX4_begin 41 = .ok (.getfield 9, 3) := by decide +kernel
theorem dX4_begin_44 : decode cX4_begin 44 = .ok (.aload_n 0, 1) := by decide +kernel
theorem dX4_begin_45 : decode cX4_begin 45 = .ok (.getfield 20, 3) := by decide +kernel
theorem dX4_begin_48 : decode cX4_begin 48 = .ok (.iload_n 1, 1) := by decide +kernel
theorem dX4_begin_49 : decode cX4_begin 49 = .ok (.iastore, 1) := by decide +kernel
theorem dX4_begin_50 : decode cX4_begin 50 = .ok (.aload_n 0, 1) := by decide +kernel
theorem dX4_begin_51 : decode cX4_begin 51 = .ok (.getfield 17, 3) := by decide +kernel
theorem dX4_begin_54 : decode cX4_begin 54 = .ok (.aload_n 0, 1) := by decide +kernel
theorem dX4_begin_55 : decode cX4_begin 55 = .ok (.getfield 20, 3) := by decide +kernel
theorem dX4_begin_58 : decode cX4_begin 58 = .ok (.aaload, 1) := by decide +kernel
theorem dX4_begin_59 : decode cX4_begin 59 = .ok (.iconst (-1), 1) := by decide +kernel
theorem dX4_begin_60 : decode cX4_begin 60 = .ok (.invokestatic 33, 3) := by decide +kernel
theorem dX4_begin_63 : decode cX4_begin 63 = .ok (.return_, 1) := by decide +kernel
theorem dX4_note_0 : decode cX4_note 0 = .ok (.aload_n 0, 1) := by decide +kernel
theorem dX4_note_1 : decode cX4_note 1 = .ok (.getfield 17, 3) := by decide +kernel
theorem dX4_note_4 : decode cX4_note 4 = .ok (.aload_n 0, 1) := by decide +kernel
theorem dX4_note_5 : decode cX4_note 5 = .ok (.getfield 20, 3) := by decide +kernel
theorem dX4_note_8 : decode cX4_note 8 = .ok (.aaload, 1) := by decide +kernel
theorem dX4_note_9 : decode cX4_note 9 = .ok (.iload_n 1, 1) := by decide +kernel
theorem dX4_note_10 : decode cX4_note 10 = .ok (.iload_n 2, 1) := by decide +kernel
theorem dX4_note_11 : decode cX4_note 11 = .ok (.iastore, 1) := by decide +kernel
theorem dX4_note_12 : decode cX4_note 12 = .ok (.return_, 1) := by decide +kernel
theorem dX4_formerOwner_0 : decode cX4_formerOwner 0 = .ok (.aload_n 0, 1) := by decide +kernel
theorem dX4_formerOwner_1 : decode cX4_formerOwner 1 = .ok (.getfield 17, 3) := by decide +kernel
theorem dX4_formerOwner_4 : decode cX4_formerOwner 4 = .ok (.aload_n 0, 1) := by decide +kernel
theorem dX4_formerOwner_5 : decode cX4_formerOwner 5 = .ok (.getfield 20, 3) := by decide +kernel
theorem dX4_formerOwner_8 : decode cX4_formerOwner 8 = .ok (.aaload, 1) := by decide +kernel
theorem dX4_formerOwner_9 : decode cX4_formerOwner 9 = .ok (.iload_n 1, 1) := by decide +kernel
theorem dX4_formerOwner_10 : decode cX4_formerOwner 10 = .ok (.iaload, 1) := by decide +kernel
theorem dX4_formerOwner_11 : decode cX4_formerOwner 11 = .ok (.ireturn, 1) := by decide +kernel
theorem dX4_isStillMerged_0 : decode cX4_isStillMerged 0 = .ok (.aload_n 0, 1) := by decide +kernel
theorem dX4_isStillMerged_1 : decode cX4_isStillMerged 1 = .ok (.getfield 17, 3) := by decide +kernel
theorem dX4_isStillMerged_4 : decode cX4_isStillMerged 4 = .ok (.aload_n 0, 1) := by decide +kernel
theorem dX4_isStillMerged_5 : decode cX4_isStillMerged 5 = .ok (.getfield 20, 3) := by decide +kernel
theorem dX4_isStillMerged_8 : decode cX4_isStillMerged 8 = .ok (.aaload, 1) := by decide +kernel
theorem dX4_isStillMerged_9 : decode cX4_isStillMerged 9 = .ok (.iload_n 2, 1) := by decide +kernel
theorem dX4_isStillMerged_10 : decode cX4_isStillMerged 10 = .ok (.iaload, 1) := by decide +kernel
theorem dX4_isStillMerged_11 : decode cX4_isStillMerged 11 = .ok (.iconst (-1), 1) := by decide +kernel
theorem dX4_isStillMerged_12 : decode cX4_isStillMerged 12 = .ok (.if_icmp .eq 25, 3) := by decide +kernel
theorem dX4_isStillMerged_15 : decode cX4_isStillMerged 15 = .ok (.aload_n 1, 1) := by decide +kernel
theorem dX4_isStillMerged_16 : decode cX4_isStillMerged 16 = .ok (.getfield 39, 3) := by decide +kernel
theorem dX4_isStillMerged_19 : decode cX4_isStillMerged 19 = .ok (.iload_n 2, 1) := by decide +kernel
theorem dX4_isStillMerged_20 : decode cX4_isStillMerged 20 = .ok (.iaload, 1) := by decide +kernel
theorem dX4_isStillMerged_21 : decode cX4_isStillMerged 21 = .ok (.aload_n 0, 1) := by decide +kernel
theorem dX4_isStillMerged_22 : decode cX4_isStillMerged 22 = .ok (.getfield 9, 3) := by decide +kernel
theorem dX4_isStillMerged_25 : decode cX4_isStillMerged 25 = .ok (.aload_n 0, 1) := by decide +kernel
theorem dX4_isStillMerged_26 : decode cX4_isStillMerged 26 = .ok (.getfield 20, 3) := by decide +kernel
theorem dX4_isStillMerged_29 : decode cX4_isStillMerged 29 = .ok (.iaload, 1) := by decide +kernel
theorem dX4_isStillMerged_30 : decode cX4_isStillMerged 30 = .ok (.if_icmp .ne 7, 3) := by decide +kernel
theorem dX4_isStillMerged_33 : decode cX4_isStillMerged 33 = .ok (.iconst 1, 1) := by decide +kernel
theorem dX4_isStillMerged_34 : decode cX4_isStillMerged 34 = .ok (.goto 4, 3) := by decide +kernel
theorem dX4_isStillMerged_37 : decode cX4_isStillMerged 37 = .ok (.iconst 0, 1) := by decide +kernel
theorem dX4_isStillMerged_38 : decode cX4_isStillMerged 38 = .ok (.ireturn, 1) := by decide +kernel
set_option maxRecDepth 20000 in
theorem ggX4_stillMerged_X4_isStillMerged : GoodIn wsX4_stillMerged wsX4_isStillMerged := goodIn_r _ [5, 6, 7, 8, 14, 15, 16, 17, 9, 10, 11, 12, 13] (by decide +kernel) (by decide +kernel)
set_option maxRecDepth 20000 in
theorem gX4_stillMerged_X4_isStillMerged : GoodIn wsX4_stillMerged (wsV RX4 45 RX4 yX4_isStillMerged wsX4_isStillMerged) := goodIn_app (goodIn_of _ (by decide +kernel)) ggX4_stillMerged_X4_isStillMerged
theorem dX4_stillMerged_0 : decode cX4_stillMerged 0 = .ok (.iconst 0, 1) := by decide +kernel
theorem dX4_stillMerged_1 : decode cX4_stillMerged 1 = .ok (.istore_n 2, 1) := by decide +kernel
theorem dX4_stillMerged_2 : decode cX4_stillMerged 2 = .ok (.iconst 0, 1) := by decide +kernel
theorem dX4_stillMerged_3 : decode cX4_stillMerged 3 = .ok (.istore_n 3, 1) := by decide +kernel
theorem dX4_stillMerged_4 : decode cX4_stillMerged 4 = .ok (.iload_n 3, 1) := by decide +kernel
theorem dX4_stillMerged_5 : decode cX4_stillMerged 5 = .ok (.aload_n 1, 1) := by decide +kernel
theorem dX4_stillMerged_6 : decode cX4_stillMerged 6 = .ok (.getfield 42, 3) := by decide +kernel
theorem dX4_stillMerged_9 : decode cX4_stillMerged 9 = .ok (.if_icmp .ge 21, 3) := by decide +kernel
theorem dX4_stillMerged_12 : decode cX4_stillMerged 12 = .ok (.aload_n 0, 1) := by decide +kernel
theorem dX4_stillMerged_13 : decode cX4_stillMerged 13 = .ok (.aload_n 1, 1) := by decide +kernel
theorem dX4_stillMerged_14 : decode cX4_stillMerged 14 = .ok (.iload_n 3, 1) := by decide +kernel
theorem dX4_stillMerged_15 : decode cX4_stillMerged 15 = .ok (.invokevirtual 45, 3) := by decide +kernel
theorem dX4_stillMerged_18 : decode cX4_stillMerged 18 = .ok (.ifCond .eq 6, 3) := by decide +kernel
theorem dX4_stillMerged_21 : decode cX4_stillMerged 21 = .ok (.iinc 2 1, 3) := by decide +kernel
theorem dX4_stillMerged_24 : decode cX4_stillMerged 24 = .ok (.iinc 3 1, 3) := by decide +kernel
theorem dX4_stillMerged_27 : decode cX4_stillMerged 27 = .ok (.goto (-23), 3) := by decide +kernel
theorem dX4_stillMerged_30 : decode cX4_stillMerged 30 = .ok (.iload_n 2, 1) := by decide +kernel
theorem dX4_stillMerged_31 : decode cX4_stillMerged 31 = .ok (.ireturn, 1) := by decide +kernel
theorem dX4_dropLatest_0 : decode cX4_dropLatest 0 = .ok (.aload_n 0, 1) := by decide +kernel
theorem dX4_dropLatest_1 : decode cX4_dropLatest 1 = .ok (.aload_n 0, 1) := by decide +kernel
theorem dX4_dropLatest_2 : decode cX4_dropLatest 2 = .ok (.getfield 20, 3) := by decide +kernel
theorem dX4_dropLatest_5 : decode cX4_dropLatest 5 = .ok (.ifCond .le 12, 3) := by decide +kernel
theorem dX4_dropLatest_8 : decode cX4_dropLatest 8 = .ok (.aload_n 0, 1) := by decide +kernel
theorem dX4_dropLatest_9 : decode cX4_dropLatest 9 = .ok (.getfield 20, 3) := by decide +kernel
theorem dX4_dropLatest_12 : decode cX4_dropLatest 12 = .ok (.iconst 1, 1) := by decide +kernel
theorem dX4_dropLatest_13 : decode cX4_dropLatest 13 = .ok (.isub, 1) := by decide +kernel
theorem dX4_dropLatest_14 : decode cX4_dropLatest 14 = .ok (.goto 5, 3) := by decide +kernel
theorem dX4_dropLatest_17 : decode cX4_dropLatest 17 = .ok (.bipush 19, 2) := by decide +kernel
theorem dX4_dropLatest_19 : decode cX4_dropLatest 19 = .ok (.putfield 20, 3) := by decide +kernel
theorem dX4_dropLatest_22 : decode cX4_dropLatest 22 = .ok (.aload_n 0, 1) := by decide +kernel
theorem dX4_dropLatest_23 : decode cX4_dropLatest 23 = .ok (.dup, 1) := by decide +kernel
theorem dX4_dropLatest_24 : decode cX4_dropLatest 24 = .ok (.getfield 24, 3) := by decide +kernel
theorem dX4_dropLatest_27 : decode cX4_dropLatest 27 = .ok (.iconst 1, 1) := by decide +kernel
theorem dX4_dropLatest_28 : decode cX4_dropLatest 28 = .ok (.isub, 1) := by decide +kernel
theorem dX4_dropLatest_29 : decode cX4_dropLatest 29 = .ok (.putfield 24, 3) := by decide +kernel
theorem dX4_dropLatest_32 : decode cX4_dropLatest 32 = .ok (.return_, 1) := by decide +kernel
theorem dX5_init_0 : decode cX5_init 0 = .ok (.aload_n 0, 1) := by decide +kernel
theorem dX5_init_1 : decode cX5_init 1 = .ok (.invokespecial 3, 3) := by decide +kernel
theorem dX5_init_4 : decode cX5_init 4 = .ok (.aload_n 0, 1) := by decide +kernel
theorem dX5_init_5 : decode cX5_init 5 = .ok (.bipush 61, 2) := by decide +kernel
theorem dX5_init_7 : decode cX5_init 7 = .ok (.newarray .int, 2) := by decide +kernel
theorem dX5_init_9 : decode cX5_init 9 = .ok (.putfield 9, 3) := by decide +kernel
theorem dX5_init_12 : decode cX5_init 12 = .ok (.return_, 1) := by decide +kernel
set_option maxRecDepth 20000 in
theorem ggX5_gather_X0_pieceAt : GoodIn wsX5_gather wsX0_pieceAt := goodIn_r _ [5, 6, 7, 8, 3, 9, 10, 19, 20, 21, 22, 23] (by decide +kernel) (by decide +kernel)
set_option maxRecDepth 20000 in
theorem gX5_gather_X0_pieceAt_n24 : GoodIn wsX5_gather (wsX0_pieceAt) := ggX5_gather_X0_pieceAt
set_option maxRecDepth 20000 in
theorem ggX5_gather_X5_add : GoodIn wsX5_gather wsX5_add := goodIn_r _ [15, 1, 16, 17, 18] (by decide +kernel) (by decide +kernel)
set_option maxRecDepth 20000 in
theorem gX5_gather_X5_add : GoodIn wsX5_gather (wsV RX5 28 RX5 yX5_add wsX5_add) := goodIn_app (goodIn_of _ (by decide +kernel)) ggX5_gather_X5_add
theorem dX5_gather_0 : decode cX5_gather 0 = .ok (.aload_n 0, 1) := by decide +kernel
theorem dX5_gather_1 : decode cX5_gather 1 = .ok (.iconst 0, 1) := by decide +kernel
theorem dX5_gather_2 : decode cX5_gather 2 = .ok (.putfield 15, 3) := by decide +kernel
theorem dX5_gather_5 : decode cX5_gather 5 = .ok (.iconst 0, 1) := by decide +kernel
theorem dX5_gather_6 : decode cX5_gather 6 = .ok (.istore_n 3, 1) := by decide +kernel
theorem dX5_gather_7 : decode cX5_gather 7 = .ok (.iload_n 3, 1) := by decide +kernel
theorem dX5_gather_8 : decode cX5_gather 8 = .ok (.iconst 4, 1) := by decide +kernel
theorem dX5_gather_9 : decode cX5_gather 9 = .ok (.iadd, 1) := by decide +kernel
theorem dX5_gather_10 : decode cX5_gather 10 = .ok (.aload_n 1, 1) := by decide +kernel
theorem dX5_gather_11 : decode cX5_gather 11 = .ok (.getfield 19, 3) := by decide +kernel
theorem dX5_gather_14 : decode cX5_gather 14 = .ok (.iload_n 2, 1) := by decide +kernel
theorem dX5_gather_15 : decode cX5_gather 15 = .ok (.iaload, 1) := by decide +kernel
theorem dX5_gather_16 : decode cX5_gather 16 = .ok (.if_icmp .gt 19, 3) := by decide +kernel
theorem dX5_gather_19 : decode cX5_gather 19 = .ok (.aload_n 0, 1) := by decide +kernel
theorem dX5_gather_20 : decode cX5_gather 20 = .ok (.aload_n 1, 1) := by decide +kernel
theorem dX5_gather_21 : decode cX5_gather 21 = .ok (.iload_n 2, 1) := by decide +kernel
theorem dX5_gather_22 : decode cX5_gather 22 = .ok (.iload_n 3, 1) := by decide +kernel
theorem dX5_gather_23 : decode cX5_gather 23 = .ok (.invokevirtual 24, 3) := by decide +kernel
theorem dX5_gather_26 : decode cX5_gather 26 = .ok (.invokevirtual 28, 3) := by decide +kernel
theorem dX5_gather_29 : decode cX5_gather 29 = .ok (.iinc 3 1, 3) := by decide +kernel
theorem dX5_gather_32 : decode cX5_gather 32 = .ok (.goto (-25), 3) := by decide +kernel
theorem dX5_gather_35 : decode cX5_gather 35 = .ok (.return_, 1) := by decide +kernel
theorem dX5_add_0 : decode cX5_add 0 = .ok (.iconst 0, 1) := by decide +kernel
theorem dX5_add_1 : decode cX5_add 1 = .ok (.istore_n 2, 1) := by decide +kernel
theorem dX5_add_2 : decode cX5_add 2 = .ok (.iload_n 2, 1) := by decide +kernel
theorem dX5_add_3 : decode cX5_add 3 = .ok (.aload_n 0, 1) := by decide +kernel
theorem dX5_add_4 : decode cX5_add 4 = .ok (.getfield 15, 3) := by decide +kernel
theorem dX5_add_7 : decode cX5_add 7 = .ok (.if_icmp .ge 19, 3) := by decide +kernel
theorem dX5_add_10 : decode cX5_add 10 = .ok (.aload_n 0, 1) := by decide +kernel
theorem dX5_add_11 : decode cX5_add 11 = .ok (.getfield 9, 3) := by decide +kernel
theorem dX5_add_14 : decode cX5_add 14 = .ok (.iload_n 2, 1) := by decide +kernel
theorem dX5_add_15 : decode cX5_add 15 = .ok (.iaload, 1) := by decide +kernel
theorem dX5_add_16 : decode cX5_add 16 = .ok (.iload_n 1, 1) := by decide +kernel
theorem dX5_add_17 : decode cX5_add 17 = .ok (.if_icmp .ge 9, 3) := by decide +kernel
theorem dX5_add_20 : decode cX5_add 20 = .ok (.iinc 2 1, 3) := by decide +kernel
theorem dX5_add_23 : decode cX5_add 23 = .ok (.goto (-21), 3) := by decide +kernel
theorem dX5_add_26 : decode cX5_add 26 = .ok (.iload_n 2, 1) := by decide +kernel
theorem dX5_add_27 : decode cX5_add 27 = .ok (.aload_n 0, 1) := by decide +kernel
theorem dX5_add_28 : decode cX5_add 28 = .ok (.getfield 15, 3) := by decide +kernel
theorem dX5_add_31 : decode cX5_add 31 = .ok (.if_icmp .ge 14, 3) := by decide +kernel
theorem dX5_add_34 : decode cX5_add 34 = .ok (.aload_n 0, 1) := by decide +kernel
theorem dX5_add_35 : decode cX5_add 35 = .ok (.getfield 9, 3) := by decide +kernel
theorem dX5_add_38 : decode cX5_add 38 = .ok (.iload_n 2, 1) := by decide +kernel
theorem dX5_add_39 : decode cX5_add 39 = .ok (.iaload, 1) := by decide +kernel
theorem dX5_add_40 : decode cX5_add 40 = .ok (.iload_n 1, 1) := by decide +kernel
theorem dX5_add_41 : decode cX5_add 41 = .ok (.if_icmp .ne 4, 3) := by decide +kernel
theorem dX5_add_44 : decode cX5_add 44 = .ok (.return_, 1) := by decide +kernel
theorem dX5_add_45 : decode cX5_add 45 = .ok (.aload_n 0, 1) := by decide +kernel
theorem dX5_add_46 : decode cX5_add 46 = .ok (.getfield 15, 3) := by decide +kernel
theorem dX5_add_49 : decode cX5_add 49 = .ok (.istore_n 3, 1) := by decide +kernel
theorem dX5_add_50 : decode cX5_add 50 = .ok (.iload_n 3, 1) := by decide +kernel
theorem dX5_add_51 : decode cX5_add 51 = .ok (.iload_n 2, 1) := by decide +kernel
theorem dX5_add_52 : decode cX5_add 52 = .ok (.if_icmp .le 23, 3) := by decide +kernel
theorem dX5_add_55 : decode cX5_add 55 = .ok (.aload_n 0, 1) := by decide +kernel
theorem dX5_add_56 : decode cX5_add 56 = .ok (.getfield 9, 3) := by decide +kernel
theorem dX5_add_59 : decode cX5_add 59 = .ok (.iload_n 3, 1) := by decide +kernel
theorem dX5_add_60 : decode cX5_add 60 = .ok (.aload_n 0, 1) := by decide +kernel
theorem dX5_add_61 : decode cX5_add 61 = .ok (.getfield 9, 3) := by decide +kernel
theorem dX5_add_64 : decode cX5_add 64 = .ok (.iload_n 3, 1) := by decide +kernel
theorem dX5_add_65 : decode cX5_add 65 = .ok (.iconst 1, 1) := by decide +kernel
theorem dX5_add_66 : decode cX5_add 66 = .ok (.isub, 1) := by decide +kernel
theorem dX5_add_67 : decode cX5_add 67 = .ok (.iaload, 1) := by decide +kernel
theorem dX5_add_68 : decode cX5_add 68 = .ok (.iastore, 1) := by decide +kernel
theorem dX5_add_69 : decode cX5_add 69 = .ok (.iinc 3 (-1), 3) := by decide +kernel
theorem dX5_add_72 : decode cX5_add 72 = .ok (.goto (-22), 3) := by decide +kernel
theorem dX5_add_75 : decode cX5_add 75 = .ok (.aload_n 0, 1) := by decide +kernel
theorem dX5_add_76 : decode cX5_add 76 = .ok (.getfield 9, 3) := by decide +kernel
theorem dX5_add_79 : decode cX5_add 79 = .ok (.iload_n 2, 1) := by decide +kernel
theorem dX5_add_80 : decode cX5_add 80 = .ok (.iload_n 1, 1) := by decide +kernel
theorem dX5_add_81 : decode cX5_add 81 = .ok (.iastore, 1) := by decide +kernel
theorem dX5_add_82 : decode cX5_add 82 = .ok (.aload_n 0, 1) := by decide +kernel
theorem dX5_add_83 : decode cX5_add 83 = .ok (.dup, 1) := by decide +kernel
theorem dX5_add_84 : decode cX5_add 84 = .ok (.getfield 15, 3) := by decide +kernel
theorem dX5_add_87 : decode cX5_add 87 = .ok (.iconst 1, 1) := by decide +kernel
theorem dX5_add_88 : decode cX5_add 88 = .ok (.iadd, 1) := by decide +kernel
theorem dX5_add_89 : decode cX5_add 89 = .ok (.putfield 15, 3) := by decide +kernel
theorem dX5_add_92 : decode cX5_add 92 = .ok (.return_, 1) := by decide +kernel
set_option maxRecDepth 20000 in
theorem ggX5_nearnessTo_X5_sharedWith : GoodIn wsX5_nearnessTo wsX5_sharedWith := goodIn_r _ [6, 1, 7, 8, 9] (by decide +kernel) (by decide +kernel)
set_option maxRecDepth 20000 in
theorem gX5_nearnessTo_X5_sharedWith : GoodIn wsX5_nearnessTo (wsV RX5 32 RX5 yX5_sharedWith wsX5_sharedWith) := goodIn_app (goodIn_of _ (by decide +kernel)) ggX5_nearnessTo_X5_sharedWith
theorem dX5_nearnessTo_0 : decode cX5_nearnessTo 0 = .ok (.aload_n 0, 1) := by decide +kernel
theorem dX5_nearnessTo_1 : decode cX5_nearnessTo 1 = .ok (.aload_n 1, 1) := by decide +kernel
theorem dX5_nearnessTo_2 : decode cX5_nearnessTo 2 = .ok (.invokevirtual 32, 3) := by decide +kernel
theorem dX5_nearnessTo_5 : decode cX5_nearnessTo 5 = .ok (.istore_n 2, 1) := by decide +kernel
theorem dX5_nearnessTo_6 : decode cX5_nearnessTo 6 = .ok (.aload_n 0, 1) := by decide +kernel
theorem dX5_nearnessTo_7 : decode cX5_nearnessTo 7 = .ok (.getfield 15, 3) := by decide +kernel
theorem dX5_nearnessTo_10 : decode cX5_nearnessTo 10 = .ok (.aload_n 1, 1) := by decide +kernel
theorem dX5_nearnessTo_11 : decode cX5_nearnessTo 11 = .ok (.getfield 15, 3) := by decide +kernel
theorem dX5_nearnessTo_14 : decode cX5_nearnessTo 14 = .ok (.iadd, 1) := by decide +kernel
theorem dX5_nearnessTo_15 : decode cX5_nearnessTo 15 = .ok (.iload_n 2, 1) := by decide +kernel
theorem dX5_nearnessTo_16 : decode cX5_nearnessTo 16 = .ok (.isub, 1) := by decide +kernel
theorem dX5_nearnessTo_17 : decode cX5_nearnessTo 17 = .ok (.istore_n 3, 1) := by decide +kernel
theorem dX5_nearnessTo_18 : decode cX5_nearnessTo 18 = .ok (.iload_n 3, 1) := by decide +kernel
theorem dX5_nearnessTo_19 : decode cX5_nearnessTo 19 = .ok (.ifCond .ne 7, 3) := by decide +kernel
theorem dX5_nearnessTo_22 : decode cX5_nearnessTo 22 = .ok (.iconst 0, 1) := by decide +kernel
theorem dX5_nearnessTo_23 : decode cX5_nearnessTo 23 = .ok (.goto 10, 3) := by decide +kernel
theorem dX5_nearnessTo_26 : decode cX5_nearnessTo 26 = .ok (.sipush 1000, 3) := by decide +kernel
theorem dX5_nearnessTo_29 : decode cX5_nearnessTo 29 = .ok (.iload_n 2, 1) := by decide +kernel
theorem dX5_nearnessTo_30 : decode cX5_nearnessTo 30 = .ok (.imul, 1) := by decide +kernel
theorem dX5_nearnessTo_31 : decode cX5_nearnessTo 31 = .ok (.iload_n 3, 1) := by decide +kernel
theorem dX5_nearnessTo_32 : decode cX5_nearnessTo 32 = .ok (.idiv, 1) := by decide +kernel
theorem dX5_nearnessTo_33 : decode cX5_nearnessTo 33 = .ok (.ireturn, 1) := by decide +kernel
theorem dX5_sharedWith_0 : decode cX5_sharedWith 0 = .ok (.iconst 0, 1) := by decide +kernel
theorem dX5_sharedWith_1 : decode cX5_sharedWith 1 = .ok (.istore_n 2, 1) := by decide +kernel
theorem dX5_sharedWith_2 : decode cX5_sharedWith 2 = .ok (.iconst 0, 1) := by decide +kernel
theorem dX5_sharedWith_3 : decode cX5_sharedWith 3 = .ok (.istore_n 3, 1) := by decide +kernel
theorem dX5_sharedWith_4 : decode cX5_sharedWith 4 = .ok (.iconst 0, 1) := by decide +kernel
theorem dX5_sharedWith_5 : decode cX5_sharedWith 5 = .ok (.istore 4, 2) := by decide +kernel
theorem dX5_sharedWith_7 : decode cX5_sharedWith 7 = .ok (.iload 4, 2) := by decide +kernel
theorem dX5_sharedWith_9 : decode cX5_sharedWith 9 = .ok (.aload_n 0, 1) := by decide +kernel
theorem dX5_sharedWith_10 : decode cX5_sharedWith 10 = .ok (.getfield 15, 3) := by decide +kernel
theorem dX5_sharedWith_13 : decode cX5_sharedWith 13 = .ok (.if_icmp .ge 66, 3) := by decide +kernel
theorem dX5_sharedWith_16 : decode cX5_sharedWith 16 = .ok (.iload_n 3, 1) := by decide +kernel
theorem dX5_sharedWith_17 : decode cX5_sharedWith 17 = .ok (.aload_n 1, 1) := by decide +kernel
theorem dX5_sharedWith_18 : decode cX5_sharedWith 18 = .ok (.getfield 15, 3) := by decide +kernel
theorem dX5_sharedWith_21 : decode cX5_sharedWith 21 = .ok (.if_icmp .ge 25, 3) := by decide +kernel
theorem dX5_sharedWith_24 : decode cX5_sharedWith 24 = .ok (.aload_n 1, 1) := by decide +kernel
theorem dX5_sharedWith_25 : decode cX5_sharedWith 25 = .ok (.getfield 9, 3) := by decide +kernel
theorem dX5_sharedWith_28 : decode cX5_sharedWith 28 = .ok (.iload_n 3, 1) := by decide +kernel
theorem dX5_sharedWith_29 : decode cX5_sharedWith 29 = .ok (.iaload, 1) := by decide +kernel
theorem dX5_sharedWith_30 : decode cX5_sharedWith 30 = .ok (.aload_n 0, 1) := by decide +kernel
theorem dX5_sharedWith_31 : decode cX5_sharedWith 31 = .ok (.getfield 9, 3) := by decide +kernel
theorem dX5_sharedWith_34 : decode cX5_sharedWith 34 = .ok (.iload 4, 2) := by decide +kernel
theorem dX5_sharedWith_36 : decode cX5_sharedWith 36 = .ok (.iaload, 1) := by decide +kernel
theorem dX5_sharedWith_37 : decode cX5_sharedWith 37 = .ok (.if_icmp .ge 9, 3) := by decide +kernel
theorem dX5_sharedWith_40 : decode cX5_sharedWith 40 = .ok (.iinc 3 1, 3) := by decide +kernel
theorem dX5_sharedWith_43 : decode cX5_sharedWith 43 = .ok (.goto (-27), 3) := by decide +kernel
theorem dX5_sharedWith_46 : decode cX5_sharedWith 46 = .ok (.iload_n 3, 1) := by decide +kernel
theorem dX5_sharedWith_47 : decode cX5_sharedWith 47 = .ok (.aload_n 1, 1) := by decide +kernel
theorem dX5_sharedWith_48 : decode cX5_sharedWith 48 = .ok (.getfield 15, 3) := by decide +kernel
theorem dX5_sharedWith_51 : decode cX5_sharedWith 51 = .ok (.if_icmp .ge 22, 3) := by decide +kernel
theorem dX5_sharedWith_54 : decode cX5_sharedWith 54 = .ok (.aload_n 1, 1) := by decide +kernel
theorem dX5_sharedWith_55 : decode cX5_sharedWith 55 = .ok (.getfield 9, 3) := by decide +kernel
theorem dX5_sharedWith_58 : decode cX5_sharedWith 58 = .ok (.iload_n 3, 1) := by decide +kernel
theorem dX5_sharedWith_59 : decode cX5_sharedWith 59 = .ok (.iaload, 1) := by decide +kernel
theorem dX5_sharedWith_60 : decode cX5_sharedWith 60 = .ok (.aload_n 0, 1) := by decide +kernel
theorem dX5_sharedWith_61 : decode cX5_sharedWith 61 = .ok (.getfield 9, 3) := by decide +kernel
theorem dX5_sharedWith_64 : decode cX5_sharedWith 64 = .ok (.iload 4, 2) := by decide +kernel
theorem dX5_sharedWith_66 : decode cX5_sharedWith 66 = .ok (.iaload, 1) := by decide +kernel
theorem dX5_sharedWith_67 : decode cX5_sharedWith 67 = .ok (.if_icmp .ne 6, 3) := by decide +kernel
theorem dX5_sharedWith_70 : decode cX5_sharedWith 70 = .ok (.iinc 2 1, 3) := by decide +kernel
theorem dX5_sharedWith_73 : decode cX5_sharedWith 73 = .ok (.iinc 4 1, 3) := by decide +kernel
theorem dX5_sharedWith_76 : decode cX5_sharedWith 76 = .ok (.goto (-69), 3) := by decide +kernel
theorem dX5_sharedWith_79 : decode cX5_sharedWith 79 = .ok (.iload_n 2, 1) := by decide +kernel
theorem dX5_sharedWith_80 : decode cX5_sharedWith 80 = .ok (.ireturn, 1) := by decide +kernel
theorem dX6_init_0 : decode cX6_init 0 = .ok (.aload_n 0, 1) := by decide +kernel
theorem dX6_init_1 : decode cX6_init 1 = .ok (.invokespecial 3, 3) := by decide +kernel
theorem dX6_init_4 : decode cX6_init 4 = .ok (.aload_n 0, 1) := by decide +kernel
theorem dX6_init_5 : decode cX6_init 5 = .ok (.iconst 3, 1) := by decide +kernel
theorem dX6_init_6 : decode cX6_init 6 = .ok (.newarray .int, 2) := by decide +kernel
theorem dX6_init_8 : decode cX6_init 8 = .ok (.putfield 9, 3) := by decide +kernel
theorem dX6_init_11 : decode cX6_init 11 = .ok (.aload_n 0, 1) := by decide +kernel
theorem dX6_init_12 : decode cX6_init 12 = .ok (.iconst 3, 1) := by decide +kernel
theorem dX6_init_13 : decode cX6_init 13 = .ok (.newarray .int, 2) := by decide +kernel
theorem dX6_init_15 : decode cX6_init 15 = .ok (.putfield 15, 3) := by decide +kernel
theorem dX6_init_18 : decode cX6_init 18 = .ok (.return_, 1) := by decide +kernel
theorem dX6_hasRoom_0 : decode cX6_hasRoom 0 = .ok (.aload_n 0, 1) := by decide +kernel
theorem dX6_hasRoom_1 : decode cX6_hasRoom 1 = .ok (.getfield 18, 3) := by decide +kernel
theorem dX6_hasRoom_4 : decode cX6_hasRoom 4 = .ok (.iconst 3, 1) := by decide +kernel
theorem dX6_hasRoom_5 : decode cX6_hasRoom 5 = .ok (.if_icmp .ge 7, 3) := by decide +kernel
theorem dX6_hasRoom_8 : decode cX6_hasRoom 8 = .ok (.iconst 1, 1) := by decide +kernel
theorem dX6_hasRoom_9 : decode cX6_hasRoom 9 = .ok (.goto 4, 3) := by decide +kernel
theorem dX6_hasRoom_12 : decode cX6_hasRoom 12 = .ok (.iconst 0, 1) := by decide +kernel
theorem dX6_hasRoom_13 : decode cX6_hasRoom 13 = .ok (.ireturn, 1) := by decide +kernel
theorem dX6_has_0 : decode cX6_has 0 = .ok (.iconst 0, 1) := by decide +kernel
theorem dX6_has_1 : decode cX6_has 1 = .ok (.istore_n 3, 1) := by decide +kernel
theorem dX6_has_2 : decode cX6_has 2 = .ok (.iload_n 3, 1) := by decide +kernel
theorem dX6_has_3 : decode cX6_has 3 = .ok (.aload_n 0, 1) := by decide +kernel
theorem dX6_has_4 : decode cX6_has 4 = .ok (.getfield 18, 3) := by decide +kernel
theorem dX6_has_7 : decode cX6_has 7 = .ok (.if_icmp .ge 31, 3) := by decide +kernel
theorem dX6_has_10 : decode cX6_has 10 = .ok (.aload_n 0, 1) := by decide +kernel
theorem dX6_has_11 : decode cX6_has 11 = .ok (.getfield 9, 3) := by decide +kernel
theorem dX6_has_14 : decode cX6_has 14 = .ok (.iload_n 3, 1) := by decide +kernel
theorem dX6_has_15 : decode cX6_has 15 = .ok (.iaload, 1) := by decide +kernel
theorem dX6_has_16 : decode cX6_has 16 = .ok (.iload_n 1, 1) := by decide +kernel
theorem dX6_has_17 : decode cX6_has 17 = .ok (.if_icmp .ne 15, 3) := by decide +kernel
theorem dX6_has_20 : decode cX6_has 20 = .ok (.aload_n 0, 1) := by decide +kernel
theorem dX6_has_21 : decode cX6_has 21 = .ok (.getfield 15, 3) := by decide +kernel
theorem dX6_has_24 : decode cX6_has 24 = .ok (.iload_n 3, 1) := by decide +kernel
theorem dX6_has_25 : decode cX6_has 25 = .ok (.iaload, 1) := by decide +kernel
theorem dX6_has_26 : decode cX6_has 26 = .ok (.iload_n 2, 1) := by decide +kernel
theorem dX6_has_27 : decode cX6_has 27 = .ok (.if_icmp .ne 5, 3) := by decide +kernel
theorem dX6_has_30 : decode cX6_has 30 = .ok (.iconst 1, 1) := by decide +kernel
theorem dX6_has_31 : decode cX6_has 31 = .ok (.ireturn, 1) := by decide +kernel
theorem dX6_has_32 : decode cX6_has 32 = .ok (.iinc 3 1, 3) := by decide +kernel
theorem dX6_has_35 : decode cX6_has 35 = .ok (.goto (-33), 3) := by decide +kernel
theorem dX6_has_38 : decode cX6_has 38 = .ok (.iconst 0, 1) := by decide +kernel
theorem dX6_has_39 : decode cX6_has 39 = .ok (.ireturn, 1) := by decide +kernel
theorem dX6_add_0 : decode cX6_add 0 = .ok (.aload_n 0, 1) := by decide +kernel
theorem dX6_add_1 : decode cX6_add 1 = .ok (.getfield 9, 3) := by decide +kernel
theorem dX6_add_4 : decode cX6_add 4 = .ok (.aload_n 0, 1) := by decide +kernel
theorem dX6_add_5 : decode cX6_add 5 = .ok (.getfield 18, 3) := by decide +kernel
theorem dX6_add_8 : decode cX6_add 8 = .ok (.iload_n 1, 1) := by decide +kernel
theorem dX6_add_9 : decode cX6_add 9 = .ok (.iastore, 1) := by decide +kernel
theorem dX6_add_10 : decode cX6_add 10 = .ok (.aload_n 0, 1) := by decide +kernel
theorem dX6_add_11 : decode cX6_add 11 = .ok (.getfield 15, 3) := by decide +kernel
theorem dX6_add_14 : decode cX6_add 14 = .ok (.aload_n 0, 1) := by decide +kernel
theorem dX6_add_15 : decode cX6_add 15 = .ok (.getfield 18, 3) := by decide +kernel
theorem dX6_add_18 : decode cX6_add 18 = .ok (.iload_n 2, 1) := by decide +kernel
theorem dX6_add_19 : decode cX6_add 19 = .ok (.iastore, 1) := by decide +kernel
theorem dX6_add_20 : decode cX6_add 20 = .ok (.aload_n 0, 1) := by decide +kernel
theorem dX6_add_21 : decode cX6_add 21 = .ok (.dup, 1) := by decide +kernel
theorem dX6_add_22 : decode cX6_add 22 = .ok (.getfield 18, 3) := by decide +kernel
theorem dX6_add_25 : decode cX6_add 25 = .ok (.iconst 1, 1) := by decide +kernel
theorem dX6_add_26 : decode cX6_add 26 = .ok (.iadd, 1) := by decide +kernel
theorem dX6_add_27 : decode cX6_add 27 = .ok (.putfield 18, 3) := by decide +kernel
theorem dX6_add_30 : decode cX6_add 30 = .ok (.return_, 1) := by decide +kernel
set_option maxRecDepth 20000 in
theorem ggX7_init_X3_init : GoodIn wsX7_init wsX3_init := goodIn_r _ [40, 41, 2, 3, 35, 42, 43, 44, 45, 86, 87, 88, 89] (by decide +kernel) (by decide +kernel)
set_option maxRecDepth 20000 in
theorem gX7_init_X3_init_n9 : GoodIn wsX7_init (wsX3_init) := ggX7_init_X3_init
set_option maxRecDepth 20000 in
theorem ggX7_init_X1_init : GoodIn wsX7_init wsX1_init := goodIn_r _ [47, 48, 2, 3, 35, 49, 50, 51, 33, 52, 102, 103, 104, 105, 106] (by decide +kernel) (by decide +kernel)
set_option maxRecDepth 20000 in
theorem gX7_init_X1_init_n18 : GoodIn wsX7_init (wsX1_init) := ggX7_init_X1_init
set_option maxRecDepth 20000 in
theorem ggX7_init_X0_init : GoodIn wsX7_init wsX0_init := goodIn_r _ [54, 55, 2, 3, 56, 57, 35, 58, 59, 60, 107, 108, 109, 110, 111] (by decide +kernel) (by decide +kernel)
set_option maxRecDepth 20000 in
theorem gX7_init_X0_init_n25 : GoodIn wsX7_init (wsX0_init) := ggX7_init_X0_init
set_option maxRecDepth 20000 in
theorem ggX7_init_X2_init : GoodIn wsX7_init wsX2_init := goodIn_r _ [62, 63, 2, 3, 35, 64, 65, 66, 67, 68, 69, 70, 112, 113, 114, 115, 116] (by decide +kernel) (by decide +kernel)
set_option maxRecDepth 20000 in
theorem gX7_init_X2_init_n32 : GoodIn wsX7_init (wsX2_init) := ggX7_init_X2_init
set_option maxRecDepth 20000 in
theorem ggX7_init_X5_init : GoodIn wsX7_init wsX5_init := goodIn_r _ [72, 73, 2, 3, 35, 74, 117, 118] (by decide +kernel) (by decide +kernel)
set_option maxRecDepth 20000 in
theorem gX7_init_X5_init_n39 : GoodIn wsX7_init (wsX5_init) := ggX7_init_X5_init
set_option maxRecDepth 20000 in
theorem ggX7_init_X6_init : GoodIn wsX7_init wsX6_init := goodIn_r _ [76, 77, 2, 3, 35, 78, 79, 119, 120, 121] (by decide +kernel) (by decide +kernel)
set_option maxRecDepth 20000 in
theorem gX7_init_X6_init_n49 : GoodIn wsX7_init (wsX6_init) := ggX7_init_X6_init
set_option maxRecDepth 20000 in
theorem ggX7_init_X4_init : GoodIn wsX7_init wsX4_init := goodIn_r _ [81, 82, 2, 3, 35, 83, 84, 85, 122, 123, 124, 125] (by decide +kernel) (by decide +kernel)
set_option maxRecDepth 20000 in
theorem gX7_init_X4_init_n56 : GoodIn wsX7_init (wsX4_init) := ggX7_init_X4_init
theorem dX7_init_0 : decode cX7_init 0 = .ok (.aload_n 0, 1) := by decide +kernel
theorem dX7_init_1 : decode cX7_init 1 = .ok (.invokespecial 1, 3) := by decide +kernel
theorem dX7_init_4 : decode cX7_init 4 = .ok (.aload_n 0, 1) := by decide +kernel
theorem dX7_init_5 : decode cX7_init 5 = .ok (.new 7, 3) := by decide +kernel
theorem dX7_init_8 : decode cX7_init 8 = .ok (.dup, 1) := by decide +kernel
theorem dX7_init_9 : decode cX7_init 9 = .ok (.invokespecial 9, 3) := by decide +kernel
theorem dX7_init_12 : decode cX7_init 12 = .ok (.putfield 10, 3) := by decide +kernel
theorem dX7_init_15 : decode cX7_init 15 = .ok (.aload_n 0, 1) := by decide +kernel
theorem dX7_init_16 : decode cX7_init 16 = .ok (.new 16, 3) := by decide +kernel
theorem dX7_init_19 : decode cX7_init 19 = .ok (.dup, 1) := by decide +kernel
theorem dX7_init_20 : decode cX7_init 20 = .ok (.invokespecial 18, 3) := by decide +kernel
theorem dX7_init_23 : decode cX7_init 23 = .ok (.putfield 19, 3) := by decide +kernel
theorem dX7_init_26 : decode cX7_init 26 = .ok (.aload_n 0, 1) := by decide +kernel
theorem dX7_init_27 : decode cX7_init 27 = .ok (.new 23, 3) := by decide +kernel
theorem dX7_init_30 : decode cX7_init 30 = .ok (.dup, 1) := by decide +kernel
theorem dX7_init_31 : decode cX7_init 31 = .ok (.invokespecial 25, 3) := by decide +kernel
theorem dX7_init_34 : decode cX7_init 34 = .ok (.putfield 26, 3) := by decide +kernel
theorem dX7_init_37 : decode cX7_init 37 = .ok (.aload_n 0, 1) := by decide +kernel
theorem dX7_init_38 : decode cX7_init 38 = .ok (.new 30, 3) := by decide +kernel
theorem dX7_init_41 : decode cX7_init 41 = .ok (.dup, 1) := by decide +kernel
theorem dX7_init_42 : decode cX7_init 42 = .ok (.invokespecial 32, 3) := by decide +kernel
theorem dX7_init_45 : decode cX7_init 45 = .ok (.putfield 33, 3) := by decide +kernel
theorem dX7_init_48 : decode cX7_init 48 = .ok (.aload_n 0, 1) := by decide +kernel
theorem dX7_init_49 : decode cX7_init 49 = .ok (.new 37, 3) := by decide +kernel
theorem dX7_init_52 : decode cX7_init 52 = .ok (.dup, 1) := by decide +kernel
theorem dX7_init_53 : decode cX7_init 53 = .ok (.invokespecial 39, 3) := by decide +kernel
theorem dX7_init_56 : decode cX7_init 56 = .ok (.putfield 40, 3) := by decide +kernel
theorem dX7_init_59 : decode cX7_init 59 = .ok (.aload_n 0, 1) := by decide +kernel
theorem dX7_init_60 : decode cX7_init 60 = .ok (.new 37, 3) := by decide +kernel
theorem dX7_init_63 : decode cX7_init 63 = .ok (.dup, 1) := by decide +kernel
theorem dX7_init_64 : decode cX7_init 64 = .ok (.invokespecial 39, 3) := by decide +kernel
theorem dX7_init_67 : decode cX7_init 67 = .ok (.putfield 44, 3) := by decide +kernel
theorem dX7_init_70 : decode cX7_init 70 = .ok (.aload_n 0, 1) := by decide +kernel
theorem dX7_init_71 : decode cX7_init 71 = .ok (.new 47, 3) := by decide +kernel
theorem dX7_init_74 : decode cX7_init 74 = .ok (.dup, 1) := by decide +kernel
theorem dX7_init_75 : decode cX7_init 75 = .ok (.invokespecial 49, 3) := by decide +kernel
theorem dX7_init_78 : decode cX7_init 78 = .ok (.putfield 50, 3) := by decide +kernel
theorem dX7_init_81 : decode cX7_init 81 = .ok (.aload_n 0, 1) := by decide +kernel
theorem dX7_init_82 : decode cX7_init 82 = .ok (.new 54, 3) := by decide +kernel
theorem dX7_init_85 : decode cX7_init 85 = .ok (.dup, 1) := by decide +kernel
theorem dX7_init_86 : decode cX7_init 86 = .ok (.invokespecial 56, 3) := by decide +kernel
theorem dX7_init_89 : decode cX7_init 89 = .ok (.putfield 57, 3) := by decide +kernel
theorem dX7_init_92 : decode cX7_init 92 = .ok (.aload_n 0, 1) := by decide +kernel
theorem dX7_init_93 : decode cX7_init 93 = .ok (.bipush 64, 2) := by decide +kernel
theorem dX7_init_95 : decode cX7_init 95 = .ok (.newarray .boolean, 2) := by decide +kernel
theorem dX7_init_97 : decode cX7_init 97 = .ok (.putfield 61, 3) := by decide +kernel
theorem dX7_init_100 : decode cX7_init 100 = .ok (.aload_n 0, 1) := by decide +kernel
theorem dX7_init_101 : decode cX7_init 101 = .ok (.bipush 16, 2) := by decide +kernel
theorem dX7_init_103 : decode cX7_init 103 = .ok (.newarray .int, 2) := by decide +kernel
theorem dX7_init_105 : decode cX7_init 105 = .ok (.putfield 65, 3) := by decide +kernel
theorem dX7_init_108 : decode cX7_init 108 = .ok (.aload_n 0, 1) := by decide +kernel
theorem dX7_init_109 : decode cX7_init 109 = .ok (.iconst 0, 1) := by decide +kernel
theorem dX7_init_110 : decode cX7_init 110 = .ok (.putfield 69, 3) := by decide +kernel
theorem dX7_init_113 : decode cX7_init 113 = .ok (.aload_n 0, 1) := by decide +kernel
theorem dX7_init_114 : decode cX7_init 114 = .ok (.iconst 0, 1) := by decide +kernel
theorem dX7_init_115 : decode cX7_init 115 = .ok (.putfield 73, 3) := by decide +kernel
theorem dX7_init_118 : decode cX7_init 118 = .ok (.return_, 1) := by decide +kernel
set_option maxRecDepth 20000 in
theorem ggX7_folder_X7_needFolder : GoodIn wsX7_folder wsX7_needFolder := goodIn_ca (goodIn_r _ [6, 7, 8, 1, 9, 10, 11, 12, 13, 29, 30, 31, 32, 33, 34, 35, 36, 37, 38, 39, 40, 41, 42, 43, 44] (by decide +kernel) (by decide +kernel)) (goodIn_sub (fun _ h => List.mem_cons_of_mem _ (List.mem_append_right _ h)) (by decide +kernel))
set_option maxRecDepth 20000 in
theorem gX7_folder_X7_needFolder : GoodIn wsX7_folder (wsV RX7 76 RX7 yX7_needFolder wsX7_needFolder) := goodIn_app (goodIn_of _ (by decide +kernel)) ggX7_folder_X7_needFolder
set_option maxRecDepth 20000 in
theorem ggX7_folder_X7_isName : GoodIn wsX7_folder wsX7_isName := goodIn_r _ [16] (by decide +kernel) (by decide +kernel)
set_option maxRecDepth 20000 in
theorem gX7_folder_X7_isName : GoodIn wsX7_folder (va_wsS RX7 80 yX7_isName wsX7_isName) := goodIn_app (goodIn_of _ (by decide +kernel)) ggX7_folder_X7_isName
set_option maxRecDepth 20000 in
theorem ggX7_folder_X3_hasRoom : GoodIn wsX7_folder wsX3_hasRoom := goodIn_r _ [19, 13, 41, 42, 43, 44] (by decide +kernel) (by decide +kernel)
set_option maxRecDepth 20000 in
theorem gX7_folder_X3_hasRoom_n84 : GoodIn wsX7_folder (wsX3_hasRoom) := ggX7_folder_X3_hasRoom
set_option maxRecDepth 20000 in
theorem ggX7_folder_X3_named : GoodIn wsX7_folder wsX3_named := goodIn_r _ [22, 13, 23, 24, 41, 42, 43, 44] (by decide +kernel) (by decide +kernel)
set_option maxRecDepth 20000 in
theorem gX7_folder_X3_named_n88 : GoodIn wsX7_folder (wsX3_named) := ggX7_folder_X3_named
set_option maxRecDepth 20000 in
theorem ggX7_folder_X3_make : GoodIn wsX7_folder wsX3_make := goodIn_r _ [27, 13, 23, 24, 28, 41, 42, 43, 44] (by decide +kernel) (by decide +kernel)
set_option maxRecDepth 20000 in
theorem gX7_folder_X3_make_n92 : GoodIn wsX7_folder (wsX3_make) := ggX7_folder_X3_make
theorem dX7_folder_0 : decode cX7_folder 0 = .ok (.aload_n 0, 1) := by decide +kernel
theorem dX7_folder_1 : decode cX7_folder 1 = .ok (.iload_n 1, 1) := by decide +kernel
theorem dX7_folder_2 : decode cX7_folder 2 = .ok (.invokevirtual 76, 3) := by decide +kernel
theorem dX7_folder_5 : decode cX7_folder 5 = .ok (.iload_n 2, 1) := by decide +kernel
theorem dX7_folder_6 : decode cX7_folder 6 = .ok (.invokestatic 80, 3) := by decide +kernel
theorem dX7_folder_9 : decode cX7_folder 9 = .ok (.ifCond .eq 26, 3) := by decide +kernel
theorem dX7_folder_12 : decode cX7_folder 12 = .ok (.aload_n 0, 1) := by decide +kernel
theorem dX7_folder_13 : decode cX7_folder 13 = .ok (.getfield 10, 3) := by decide +kernel
theorem dX7_folder_16 : decode cX7_folder 16 = .ok (.invokevirtual 84, 3) := by decide +kernel
theorem dX7_folder_19 : decode cX7_folder 19 = .ok (.ifCond .eq 16, 3) := by decide +kernel
theorem dX7_folder_22 : decode cX7_folder 22 = .ok (.aload_n 0, 1) := by decide +kernel
theorem dX7_folder_23 : decode cX7_folder 23 = .ok (.getfield 10, 3) := by decide +kernel
theorem dX7_folder_26 : decode cX7_folder 26 = .ok (.iload_n 1, 1) := by decide +kernel
theorem dX7_folder_27 : decode cX7_folder 27 = .ok (.iload_n 2, 1) := by decide +kernel
theorem dX7_folder_28 : decode cX7_folder 28 = .ok (.invokevirtual 88, 3) := by decide +kernel
theorem dX7_folder_31 : decode cX7_folder 31 = .ok (.iconst (-1), 1) := by decide +kernel
theorem dX7_folder_32 : decode cX7_folder 32 = .ok (.if_icmp .eq 5, 3) := by decide +kernel
theorem dX7_folder_35 : decode cX7_folder 35 = .ok (.iconst (-1), 1) := by decide +kernel
theorem dX7_folder_36 : decode cX7_folder 36 = .ok (.ireturn, 1) := by decide +kernel
theorem dX7_folder_37 : decode cX7_folder 37 = .ok (.aload_n 0, 1) := by decide +kernel
theorem dX7_folder_38 : decode cX7_folder 38 = .ok (.getfield 10, 3) := by decide +kernel
theorem dX7_folder_41 : decode cX7_folder 41 = .ok (.iload_n 1, 1) := by decide +kernel
theorem dX7_folder_42 : decode cX7_folder 42 = .ok (.iload_n 2, 1) := by decide +kernel
theorem dX7_folder_43 : decode cX7_folder 43 = .ok (.invokevirtual 92, 3) := by decide +kernel
theorem dX7_folder_46 : decode cX7_folder 46 = .ok (.ireturn, 1) := by decide +kernel
set_option maxRecDepth 20000 in
theorem ggX7_file_X7_needFolder : GoodIn wsX7_file wsX7_needFolder := goodIn_ca (goodIn_r _ [8, 9, 10, 11, 12, 13, 14, 15, 16, 56, 57, 58, 59, 60, 61, 62, 63, 64, 65, 66, 67, 68, 69, 70, 71] (by decide +kernel) (by decide +kernel)) (goodIn_sub (fun _ h => List.mem_cons_of_mem _ (List.mem_append_right _ h)) (by decide +kernel))
set_option maxRecDepth 20000 in
theorem gX7_file_X7_needFolder : GoodIn wsX7_file (wsV RX7 76 RX7 yX7_needFolder wsX7_needFolder) := goodIn_app (goodIn_of _ (by decide +kernel)) ggX7_file_X7_needFolder
set_option maxRecDepth 20000 in
theorem ggX7_file_X7_isOwner : GoodIn wsX7_file wsX7_isOwner := goodIn_r _ [19] (by decide +kernel) (by decide +kernel)
set_option maxRecDepth 20000 in
theorem gX7_file_X7_isOwner : GoodIn wsX7_file (va_wsS RX7 95 yX7_isOwner wsX7_isOwner) := goodIn_app (goodIn_of _ (by decide +kernel)) ggX7_file_X7_isOwner
set_option maxRecDepth 20000 in
theorem ggX7_file_X7_mayCome : GoodIn wsX7_file wsX7_mayCome := goodIn_r _ [23, 2, 24, 25, 26, 27, 28, 29, 30, 31, 7, 32, 33, 34, 35, 36, 37, 38, 39, 40, 56, 57, 58, 59, 60, 61, 62, 63, 64, 65, 66, 67, 72, 73, 74, 75, 76] (by decide +kernel) (by decide +kernel)
set_option maxRecDepth 20000 in
theorem gX7_file_X7_mayCome : GoodIn wsX7_file (wsV RX7 98 RX7 yX7_mayCome wsX7_mayCome) := goodIn_app (goodIn_of _ (by decide +kernel)) ggX7_file_X7_mayCome
set_option maxRecDepth 20000 in
theorem ggX7_file_X0_hasRoomFor : GoodIn wsX7_file wsX0_hasRoomFor := goodIn_r _ [44, 45, 77, 78, 79, 80, 81] (by decide +kernel) (by decide +kernel)
set_option maxRecDepth 20000 in
theorem gX7_file_X0_hasRoomFor_n102 : GoodIn wsX7_file (wsX0_hasRoomFor) := ggX7_file_X0_hasRoomFor
set_option maxRecDepth 20000 in
theorem ggX7_file_X0_make : GoodIn wsX7_file wsX0_make := goodIn_r _ [48, 45, 49, 50, 51, 77, 78, 79, 80, 81] (by decide +kernel) (by decide +kernel)
set_option maxRecDepth 20000 in
theorem gX7_file_X0_make_n105 : GoodIn wsX7_file (wsX0_make) := ggX7_file_X0_make
set_option maxRecDepth 20000 in
theorem ggX7_file_X1_make : GoodIn wsX7_file wsX1_make := goodIn_r _ [54, 28, 39, 40, 55, 72, 73, 74, 75, 76] (by decide +kernel) (by decide +kernel)
set_option maxRecDepth 20000 in
theorem gX7_file_X1_make_n108 : GoodIn wsX7_file (wsX1_make) := ggX7_file_X1_make
theorem dX7_file_0 : decode cX7_file 0 = .ok (.aload_n 0, 1) := by decide +kernel
theorem dX7_file_1 : decode cX7_file 1 = .ok (.iload_n 1, 1) := by decide +kernel
theorem dX7_file_2 : decode cX7_file 2 = .ok (.invokevirtual 76, 3) := by decide +kernel
theorem dX7_file_5 : decode cX7_file 5 = .ok (.iload_n 3, 1) := by decide +kernel
theorem dX7_file_6 : decode cX7_file 6 = .ok (.invokestatic 95, 3) := by decide +kernel
theorem dX7_file_9 : decode cX7_file 9 = .ok (.ifCond .eq 15, 3) := by decide +kernel
theorem dX7_file_12 : decode cX7_file 12 = .ok (.iload 4, 2) := by decide +kernel
theorem dX7_file_14 : decode cX7_file 14 = .ok (.ifCond .lt 10, 3) := by decide +kernel
theorem dX7_file_17 : decode cX7_file 17 = .ok (.iload 4, 2) := by decide +kernel
theorem dX7_file_19 : decode cX7_file 19 = .ok (.bipush 64, 2) := by decide +kernel
theorem dX7_file_21 : decode cX7_file 21 = .ok (.if_icmp .le 5, 3) := by decide +kernel
theorem dX7_file_24 : decode cX7_file 24 = .ok (.iconst (-1), 1) := by decide +kernel
theorem dX7_file_25 : decode cX7_file 25 = .ok (.ireturn, 1) := by decide +kernel
theorem dX7_file_26 : decode cX7_file 26 = .ok (.aload_n 0, 1) := by decide +kernel
theorem dX7_file_27 : decode cX7_file 27 = .ok (.iload_n 1, 1) := by decide +kernel
theorem dX7_file_28 : decode cX7_file 28 = .ok (.iload_n 2, 1) := by decide +kernel
theorem dX7_file_29 : decode cX7_file 29 = .ok (.invokevirtual 98, 3) := by decide +kernel
theorem dX7_file_32 : decode cX7_file 32 = .ok (.ifCond .eq 14, 3) := by decide +kernel
theorem dX7_file_35 : decode cX7_file 35 = .ok (.aload_n 0, 1) := by decide +kernel
theorem dX7_file_36 : decode cX7_file 36 = .ok (.getfield 26, 3) := by decide +kernel
theorem dX7_file_39 : decode cX7_file 39 = .ok (.iconst 1, 1) := by decide +kernel
theorem dX7_file_40 : decode cX7_file 40 = .ok (.invokevirtual 102, 3) := by decide +kernel
theorem dX7_file_43 : decode cX7_file 43 = .ok (.ifCond .ne 5, 3) := by decide +kernel
theorem dX7_file_46 : decode cX7_file 46 = .ok (.iconst (-1), 1) := by decide +kernel
theorem dX7_file_47 : decode cX7_file 47 = .ok (.ireturn, 1) := by decide +kernel
theorem dX7_file_48 : decode cX7_file 48 = .ok (.aload_n 0, 1) := by decide +kernel
theorem dX7_file_49 : decode cX7_file 49 = .ok (.getfield 19, 3) := by decide +kernel
theorem dX7_file_52 : decode cX7_file 52 = .ok (.iload_n 1, 1) := by decide +kernel
theorem dX7_file_53 : decode cX7_file 53 = .ok (.iload_n 2, 1) := by decide +kernel
theorem dX7_file_54 : decode cX7_file 54 = .ok (.aload_n 0, 1) := by decide +kernel
theorem dX7_file_55 : decode cX7_file 55 = .ok (.getfield 26, 3) := by decide +kernel
theorem dX7_file_58 : decode cX7_file 58 = .ok (.iload 4, 2) := by decide +kernel
theorem dX7_file_60 : decode cX7_file 60 = .ok (.iload_n 3, 1) := by decide +kernel
theorem dX7_file_61 : decode cX7_file 61 = .ok (.aload_n 0, 1) := by decide +kernel
theorem dX7_file_62 : decode cX7_file 62 = .ok (.getfield 69, 3) := by decide +kernel
theorem dX7_file_65 : decode cX7_file 65 = .ok (.invokevirtual 105, 3) := by decide +kernel
theorem dX7_file_68 : decode cX7_file 68 = .ok (.invokevirtual 108, 3) := by decide +kernel
theorem dX7_file_71 : decode cX7_file 71 = .ok (.ireturn, 1) := by decide +kernel
set_option maxRecDepth 20000 in
theorem ggX7_copy_X7_needFile : GoodIn wsX7_copy wsX7_needFile := goodIn_ca (goodIn_r _ [8, 9, 10, 2, 11, 12, 13, 14, 15, 16, 69, 70, 71, 72, 73, 74, 75, 76, 77, 78, 79, 80, 81, 82, 83, 84, 85] (by decide +kernel) (by decide +kernel)) (goodIn_sub (fun _ h => List.mem_cons_of_mem _ (List.mem_append_right _ h)) (by decide +kernel))
set_option maxRecDepth 20000 in
theorem gX7_copy_X7_needFile : GoodIn wsX7_copy (wsV RX7 109 RX7 yX7_needFile wsX7_needFile) := goodIn_app (goodIn_of _ (by decide +kernel)) ggX7_copy_X7_needFile
set_option maxRecDepth 20000 in
theorem ggX7_copy_X7_needFolder : GoodIn wsX7_copy wsX7_needFolder := goodIn_ca (goodIn_r _ [20, 9, 10, 21, 22, 23, 24, 25, 26, 69, 70, 71, 72, 73, 74, 75, 76, 77, 78, 79, 80, 91, 92, 93, 94] (by decide +kernel) (by decide +kernel)) (goodIn_sub (fun _ h => List.mem_cons_of_mem _ (List.mem_append_right _ h)) (by decide +kernel))
set_option maxRecDepth 20000 in
theorem gX7_copy_X7_needFolder : GoodIn wsX7_copy (wsV RX7 76 RX7 yX7_needFolder wsX7_needFolder) := goodIn_app (goodIn_of _ (by decide +kernel)) ggX7_copy_X7_needFolder
set_option maxRecDepth 20000 in
theorem ggX7_copy_X7_mayCome : GoodIn wsX7_copy wsX7_mayCome := goodIn_r _ [30, 2, 31, 12, 32, 33, 15, 34, 35, 36, 7, 37, 38, 39, 40, 41, 42, 43, 44, 45, 69, 70, 71, 72, 73, 74, 75, 76, 77, 78, 79, 80, 81, 82, 83, 84, 85] (by decide +kernel) (by decide +kernel)
set_option maxRecDepth 20000 in
theorem gX7_copy_X7_mayCome : GoodIn wsX7_copy (wsV RX7 98 RX7 yX7_mayCome wsX7_mayCome) := goodIn_app (goodIn_of _ (by decide +kernel)) ggX7_copy_X7_mayCome
set_option maxRecDepth 20000 in
theorem ggX7_copy_X0_hasRoomFor : GoodIn wsX7_copy wsX0_hasRoomFor := goodIn_r _ [49, 50, 86, 87, 88, 89, 90] (by decide +kernel) (by decide +kernel)
set_option maxRecDepth 20000 in
theorem gX7_copy_X0_hasRoomFor_n102 : GoodIn wsX7_copy (wsX0_hasRoomFor) := ggX7_copy_X0_hasRoomFor
set_option maxRecDepth 20000 in
theorem ggX7_copy_X0_makeLike : GoodIn wsX7_copy wsX0_makeLike := goodIn_r _ [53, 54, 55, 56, 57, 58, 59, 60, 61, 62, 47, 63, 50, 64, 65, 86, 87, 88, 89, 90] (by decide +kernel) (by decide +kernel)
set_option maxRecDepth 20000 in
theorem gX7_copy_X0_makeLike_n118 : GoodIn wsX7_copy (wsX0_makeLike) := ggX7_copy_X0_makeLike
set_option maxRecDepth 20000 in
theorem ggX7_copy_X1_make : GoodIn wsX7_copy wsX1_make := goodIn_r _ [68, 15, 44, 45, 16, 81, 82, 83, 84, 85] (by decide +kernel) (by decide +kernel)
set_option maxRecDepth 20000 in
theorem gX7_copy_X1_make_n108 : GoodIn wsX7_copy (wsX1_make) := ggX7_copy_X1_make
theorem dX7_copy_0 : decode cX7_copy 0 = .ok (.aload_n 0, 1) := by decide +kernel
theorem dX7_copy_1 : decode cX7_copy 1 = .ok (.iload_n 1, 1) := by decide +kernel
theorem dX7_copy_2 : decode cX7_copy 2 = .ok (.invokevirtual 109, 3) := by decide +kernel
theorem dX7_copy_5 : decode cX7_copy 5 = .ok (.aload_n 0, 1) := by decide +kernel
theorem dX7_copy_6 : decode cX7_copy 6 = .ok (.iload_n 2, 1) := by decide +kernel
theorem dX7_copy_7 : decode cX7_copy 7 = .ok (.invokevirtual 76, 3) := by decide +kernel
theorem dX7_copy_10 : decode cX7_copy 10 = .ok (.aload_n 0, 1) := by decide +kernel
theorem dX7_copy_11 : decode cX7_copy 11 = .ok (.iload_n 2, 1) := by decide +kernel
theorem dX7_copy_12 : decode cX7_copy 12 = .ok (.iload_n 3, 1) := by decide +kernel
theorem dX7_copy_13 : decode cX7_copy 13 = .ok (.invokevirtual 98, 3) := by decide +kernel
theorem dX7_copy_16 : decode cX7_copy 16 = .ok (.ifCond .eq 14, 3) := by decide +kernel
theorem dX7_copy_19 : decode cX7_copy 19 = .ok (.aload_n 0, 1) := by decide +kernel
theorem dX7_copy_20 : decode cX7_copy 20 = .ok (.getfield 26, 3) := by decide +kernel
theorem dX7_copy_23 : decode cX7_copy 23 = .ok (.iconst 1, 1) := by decide +kernel
theorem dX7_copy_24 : decode cX7_copy 24 = .ok (.invokevirtual 102, 3) := by decide +kernel
theorem dX7_copy_27 : decode cX7_copy 27 = .ok (.ifCond .ne 5, 3) := by decide +kernel
theorem dX7_copy_30 : decode cX7_copy 30 = .ok (.iconst (-1), 1) := by decide +kernel
theorem dX7_copy_31 : decode cX7_copy 31 = .ok (.ireturn, 1) := by decide +kernel
theorem dX7_copy_32 : decode cX7_copy 32 = .ok (.aload_n 0, 1) := by decide +kernel
theorem dX7_copy_33 : decode cX7_copy 33 = .ok (.getfield 19, 3) := by decide +kernel
theorem dX7_copy_36 : decode cX7_copy 36 = .ok (.getfield 112, 3) := by decide +kernel
