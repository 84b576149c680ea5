theorem dX0_init_0 : decode cX0_init 0 = .ok (.aload_n 0, 1) := by decide +kernel
theorem dX0_init_1 : decode cX0_init 1 = .ok (.invokespecial 3, 3) := by decide +kernel
theorem dX0_init_4 : decode cX0_init 4 = .ok (.aload_n 0, 1) := by decide +kernel
theorem dX0_init_5 : decode cX0_init 5 = .ok (.sipush 200, 3) := by decide +kernel
theorem dX0_init_8 : decode cX0_init 8 = .ok (.newarray .int, 2) := by decide +kernel
theorem dX0_init_10 : decode cX0_init 10 = .ok (.putfield 9, 3) := by decide +kernel
theorem dX0_init_13 : decode cX0_init 13 = .ok (.aload_n 0, 1) := by decide +kernel
theorem dX0_init_14 : decode cX0_init 14 = .ok (.sipush 200, 3) := by decide +kernel
theorem dX0_init_17 : decode cX0_init 17 = .ok (.newarray .boolean, 2) := by decide +kernel
theorem dX0_init_19 : decode cX0_init 19 = .ok (.putfield 15, 3) := by decide +kernel
theorem dX0_init_22 : decode cX0_init 22 = .ok (.aload_n 0, 1) := by decide +kernel
theorem dX0_init_23 : decode cX0_init 23 = .ok (.sipush 200, 3) := by decide +kernel
theorem dX0_init_26 : decode cX0_init 26 = .ok (.newarray .int, 2) := by decide +kernel
theorem dX0_init_28 : decode cX0_init 28 = .ok (.putfield 19, 3) := by decide +kernel
theorem dX0_init_31 : decode cX0_init 31 = .ok (.aload_n 0, 1) := by decide +kernel
theorem dX0_init_32 : decode cX0_init 32 = .ok (.iconst 0, 1) := by decide +kernel
theorem dX0_init_33 : decode cX0_init 33 = .ok (.putfield 22, 3) := by decide +kernel
theorem dX0_init_36 : decode cX0_init 36 = .ok (.aload_n 0, 1) := by decide +kernel
theorem dX0_init_37 : decode cX0_init 37 = .ok (.iconst 0, 1) := by decide +kernel
theorem dX0_init_38 : decode cX0_init 38 = .ok (.putfield 26, 3) := by decide +kernel
theorem dX0_init_41 : decode cX0_init 41 = .ok (.aload_n 0, 1) := by decide +kernel
theorem dX0_init_42 : decode cX0_init 42 = .ok (.iconst 0, 1) := by decide +kernel
theorem dX0_init_43 : decode cX0_init 43 = .ok (.putfield 29, 3) := by decide +kernel
theorem dX0_init_46 : decode cX0_init 46 = .ok (.return_, 1) := by decide +kernel
theorem dX0_copies_0 : decode cX0_copies 0 = .ok (.aload_n 0, 1) := by decide +kernel
theorem dX0_copies_1 : decode cX0_copies 1 = .ok (.getfield 22, 3) := by decide +kernel
theorem dX0_copies_4 : decode cX0_copies 4 = .ok (.ireturn, 1) := by decide +kernel
theorem dX0_toPrint_0 : decode cX0_toPrint 0 = .ok (.aload_n 0, 1) := by decide +kernel
theorem dX0_toPrint_1 : decode cX0_toPrint 1 = .ok (.getfield 29, 3) := by decide +kernel
theorem dX0_toPrint_4 : decode cX0_toPrint 4 = .ok (.ireturn, 1) := by decide +kernel
theorem dX0_isGood_0 : decode cX0_isGood 0 = .ok (.aload_n 0, 1) := by decide +kernel
theorem dX0_isGood_1 : decode cX0_isGood 1 = .ok (.getfield 15, 3) := by decide +kernel
theorem dX0_isGood_4 : decode cX0_isGood 4 = .ok (.iload_n 1, 1) := by decide +kernel
theorem dX0_isGood_5 : decode cX0_isGood 5 = .ok (.baload, 1) := by decide +kernel
theorem dX0_isGood_6 : decode cX0_isGood 6 = .ok (.ireturn, 1) := by decide +kernel
theorem dX0_timesPrinted_0 : decode cX0_timesPrinted 0 = .ok (.aload_n 0, 1) := by decide +kernel
theorem dX0_timesPrinted_1 : decode cX0_timesPrinted 1 = .ok (.getfield 9, 3) := by decide +kernel
theorem dX0_timesPrinted_4 : decode cX0_timesPrinted 4 = .ok (.iload_n 1, 1) := by decide +kernel
theorem dX0_timesPrinted_5 : decode cX0_timesPrinted 5 = .ok (.iaload, 1) := by decide +kernel
theorem dX0_timesPrinted_6 : decode cX0_timesPrinted 6 = .ok (.ireturn, 1) := by decide +kernel
theorem dX0_first_0 : decode cX0_first 0 = .ok (.aload_n 0, 1) := by decide +kernel
theorem dX0_first_1 : decode cX0_first 1 = .ok (.getfield 29, 3) := by decide +kernel
theorem dX0_first_4 : decode cX0_first 4 = .ok (.ifCond .le 15, 3) := by decide +kernel
theorem dX0_first_7 : decode cX0_first 7 = .ok (.aload_n 0, 1) := by decide +kernel
theorem dX0_first_8 : decode cX0_first 8 = .ok (.getfield 19, 3) := by decide +kernel
theorem dX0_first_11 : decode cX0_first 11 = .ok (.aload_n 0, 1) := by decide +kernel
theorem dX0_first_12 : decode cX0_first 12 = .ok (.getfield 26, 3) := by decide +kernel
theorem dX0_first_15 : decode cX0_first 15 = .ok (.iaload, 1) := by decide +kernel
theorem dX0_first_16 : decode cX0_first 16 = .ok (.goto 4, 3) := by decide +kernel
theorem dX0_first_19 : decode cX0_first 19 = .ok (.iconst (-1), 1) := by decide +kernel
theorem dX0_first_20 : decode cX0_first 20 = .ok (.ireturn, 1) := by decide +kernel
theorem dX0_begin_0 : decode cX0_begin 0 = .ok (.iconst 0, 1) := by decide +kernel
theorem dX0_begin_1 : decode cX0_begin 1 = .ok (.istore_n 2, 1) := by decide +kernel
theorem dX0_begin_2 : decode cX0_begin 2 = .ok (.iload_n 2, 1) := by decide +kernel
theorem dX0_begin_3 : decode cX0_begin 3 = .ok (.iload_n 1, 1) := by decide +kernel
theorem dX0_begin_4 : decode cX0_begin 4 = .ok (.if_icmp .ge 37, 3) := by decide +kernel
theorem dX0_begin_7 : decode cX0_begin 7 = .ok (.iload_n 2, 1) := by decide +kernel
theorem dX0_begin_8 : decode cX0_begin 8 = .ok (.sipush 200, 3) := by decide +kernel
theorem dX0_begin_11 : decode cX0_begin 11 = .ok (.if_icmp .ge 30, 3) := by decide +kernel
theorem dX0_begin_14 : decode cX0_begin 14 = .ok (.aload_n 0, 1) := by decide +kernel
theorem dX0_begin_15 : decode cX0_begin 15 = .ok (.getfield 9, 3) := by decide +kernel
theorem dX0_begin_18 : decode cX0_begin 18 = .ok (.iload_n 2, 1) := by decide +kernel
theorem dX0_begin_19 : decode cX0_begin 19 = .ok (.iconst 0, 1) := by decide +kernel
theorem dX0_begin_20 : decode cX0_begin 20 = .ok (.iastore, 1) := by decide +kernel
theorem dX0_begin_21 : decode cX0_begin 21 = .ok (.aload_n 0, 1) := by decide +kernel
theorem dX0_begin_22 : decode cX0_begin 22 = .ok (.getfield 15, 3) := by decide +kernel
theorem dX0_begin_25 : decode cX0_begin 25 = .ok (.iload_n 2, 1) := by decide +kernel
theorem dX0_begin_26 : decode cX0_begin 26 = .ok (.iconst 0, 1) := by decide +kernel
theorem dX0_begin_27 : decode cX0_begin 27 = .ok (.bastore, 1) := by decide +kernel
theorem dX0_begin_28 : decode cX0_begin 28 = .ok (.aload_n 0, 1) := by decide +kernel
theorem dX0_begin_29 : decode cX0_begin 29 = .ok (.getfield 19, 3) := by decide +kernel
theorem dX0_begin_32 : decode cX0_begin 32 = .ok (.iload_n 2, 1) := by decide +kernel
theorem dX0_begin_33 : decode cX0_begin 33 = .ok (.iload_n 2, 1) := by decide +kernel
theorem dX0_begin_34 : decode cX0_begin 34 = .ok (.iastore, 1) := by decide +kernel
theorem dX0_begin_35 : decode cX0_begin 35 = .ok (.iinc 2 1, 3) := by decide +kernel
theorem dX0_begin_38 : decode cX0_begin 38 = .ok (.goto (-36), 3) := by decide +kernel
theorem dX0_begin_41 : decode cX0_begin 41 = .ok (.aload_n 0, 1) := by decide +kernel
theorem dX0_begin_42 : decode cX0_begin 42 = .ok (.iload_n 1, 1) := by decide +kernel
theorem dX0_begin_43 : decode cX0_begin 43 = .ok (.putfield 22, 3) := by decide +kernel
theorem dX0_begin_46 : decode cX0_begin 46 = .ok (.aload_n 0, 1) := by decide +kernel
theorem dX0_begin_47 : decode cX0_begin 47 = .ok (.iconst 0, 1) := by decide +kernel
theorem dX0_begin_48 : decode cX0_begin 48 = .ok (.putfield 26, 3) := by decide +kernel
theorem dX0_begin_51 : decode cX0_begin 51 = .ok (.aload_n 0, 1) := by decide +kernel
theorem dX0_begin_52 : decode cX0_begin 52 = .ok (.iload_n 1, 1) := by decide +kernel
theorem dX0_begin_53 : decode cX0_begin 53 = .ok (.putfield 29, 3) := by decide +kernel
theorem dX0_begin_56 : decode cX0_begin 56 = .ok (.return_, 1) := by decide +kernel
theorem dX0_take_0 : decode cX0_take 0 = .ok (.aload_n 0, 1) := by decide +kernel
theorem dX0_take_1 : decode cX0_take 1 = .ok (.getfield 29, 3) := by decide +kernel
theorem dX0_take_4 : decode cX0_take 4 = .ok (.ifCond .ne 4, 3) := by decide +kernel
theorem dX0_take_7 : decode cX0_take 7 = .ok (.return_, 1) := by decide +kernel
theorem dX0_take_8 : decode cX0_take 8 = .ok (.aload_n 0, 1) := by decide +kernel
theorem dX0_take_9 : decode cX0_take 9 = .ok (.getfield 19, 3) := by decide +kernel
theorem dX0_take_12 : decode cX0_take 12 = .ok (.aload_n 0, 1) := by decide +kernel
theorem dX0_take_13 : decode cX0_take 13 = .ok (.getfield 26, 3) := by decide +kernel
theorem dX0_take_16 : decode cX0_take 16 = .ok (.iaload, 1) := by decide +kernel
theorem dX0_take_17 : decode cX0_take 17 = .ok (.istore_n 2, 1) := by decide +kernel
theorem dX0_take_18 : decode cX0_take 18 = .ok (.aload_n 0, 1) := by decide +kernel
theorem dX0_take_19 : decode cX0_take 19 = .ok (.getfield 9, 3) := by decide +kernel
theorem dX0_take_22 : decode cX0_take 22 = .ok (.iload_n 2, 1) := by decide +kernel
theorem dX0_take_23 : decode cX0_take 23 = .ok (.dup2, 1) := by decide +kernel
theorem dX0_take_24 : decode cX0_take 24 = .ok (.iaload, 1) := by decide +kernel
theorem dX0_take_25 : decode cX0_take 25 = .ok (.iconst 1, 1) := by decide +kernel
theorem dX0_take_26 : decode cX0_take 26 = .ok (.iadd, 1) := by decide +kernel
theorem dX0_take_27 : decode cX0_take 27 = .ok (.iastore, 1) := by decide +kernel
theorem dX0_take_28 : decode cX0_take 28 = .ok (.iload_n 1, 1) := by decide +kernel
theorem dX0_take_29 : decode cX0_take 29 = .ok (.ifCond .eq 23, 3) := by decide +kernel
theorem dX0_take_32 : decode cX0_take 32 = .ok (.aload_n 0, 1) := by decide +kernel
theorem dX0_take_33 : decode cX0_take 33 = .ok (.getfield 15, 3) := by decide +kernel
theorem dX0_take_36 : decode cX0_take 36 = .ok (.iload_n 2, 1) := by decide +kernel
theorem dX0_take_37 : decode cX0_take 37 = .ok (.iconst 1, 1) := by decide +kernel
theorem dX0_take_38 : decode cX0_take 38 = .ok (.bastore, 1) := by decide +kernel
theorem dX0_take_39 : decode cX0_take 39 = .ok (.aload_n 0, 1) := by decide +kernel
theorem dX0_take_40 : decode cX0_take 40 = .ok (.dup, 1) := by decide +kernel
theorem dX0_take_41 : decode cX0_take 41 = .ok (.getfield 29, 3) := by decide +kernel
theorem dX0_take_44 : decode cX0_take 44 = .ok (.iconst 1, 1) := by decide +kernel
theorem dX0_take_45 : decode cX0_take 45 = .ok (.isub, 1) := by decide +kernel
theorem dX0_take_46 : decode cX0_take 46 = .ok (.putfield 29, 3) := by decide +kernel
theorem dX0_take_49 : decode cX0_take 49 = .ok (.goto 22, 3) := by decide +kernel
theorem dX0_take_52 : decode cX0_take 52 = .ok (.aload_n 0, 1) := by decide +kernel
theorem dX0_take_53 : decode cX0_take 53 = .ok (.getfield 19, 3) := by decide +kernel
theorem dX0_take_56 : decode cX0_take 56 = .ok (.aload_n 0, 1) := by decide +kernel
theorem dX0_take_57 : decode cX0_take 57 = .ok (.getfield 26, 3) := by decide +kernel
theorem dX0_take_60 : decode cX0_take 60 = .ok (.aload_n 0, 1) := by decide +kernel
theorem dX0_take_61 : decode cX0_take 61 = .ok (.getfield 29, 3) := by decide +kernel
theorem dX0_take_64 : decode cX0_take 64 = .ok (.iadd, 1) := by decide +kernel
theorem dX0_take_65 : decode cX0_take 65 = .ok (.sipush 200, 3) := by decide +kernel
theorem dX0_take_68 : decode cX0_take 68 = .ok (.irem, 1) := by decide +kernel
theorem dX0_take_69 : decode cX0_take 69 = .ok (.iload_n 2, 1) := by decide +kernel
theorem dX0_take_70 : decode cX0_take 70 = .ok (.iastore, 1) := by decide +kernel
theorem dX0_take_71 : decode cX0_take 71 = .ok (.aload_n 0, 1) := by decide +kernel
theorem dX0_take_72 : decode cX0_take 72 = .ok (.aload_n 0, 1) := by decide +kernel
theorem dX0_take_73 : decode cX0_take 73 = .ok (.getfield 26, 3) := by decide +kernel
theorem dX0_take_76 : decode cX0_take 76 = .ok (.iconst 1, 1) := by decide +kernel
theorem dX0_take_77 : decode cX0_take 77 = .ok (.iadd, 1) := by decide +kernel
theorem dX0_take_78 : decode cX0_take 78 = .ok (.sipush 200, 3) := by decide +kernel
theorem dX0_take_81 : decode cX0_take 81 = .ok (.irem, 1) := by decide +kernel
theorem dX0_take_82 : decode cX0_take 82 = .ok (.putfield 26, 3) := by decide +kernel
theorem dX0_take_85 : decode cX0_take 85 = .ok (.return_, 1) := by decide +kernel
set_option maxRecDepth 20000 in
theorem ggX1_init_X1_paint : GoodIn wsX1_init wsX1_paint := goodIn_r _ [11, 6, 12] (by decide +kernel) (by decide +kernel)
set_option maxRecDepth 20000 in
theorem gX1_init_X1_paint : GoodIn wsX1_init (wsV RX1 16 RX1 yX1_paint wsX1_paint) := goodIn_app (goodIn_of _ (by decide +kernel)) ggX1_init_X1_paint
theorem dX1_init_0 : decode cX1_init 0 = .ok (.aload_n 0, 1) := by decide +kernel
theorem dX1_init_1 : decode cX1_init 1 = .ok (.invokespecial 3, 3) := by decide +kernel
theorem dX1_init_4 : decode cX1_init 4 = .ok (.aload_n 0, 1) := by decide +kernel
theorem dX1_init_5 : decode cX1_init 5 = .ok (.iconst 3, 1) := by decide +kernel
theorem dX1_init_6 : decode cX1_init 6 = .ok (.bipush 64, 2) := by decide +kernel
theorem dX1_init_8 : decode cX1_init 8 = .ok (.multianewarray 9 2, 4) := by decide +kernel
theorem dX1_init_12 : decode cX1_init 12 = .ok (.putfield 11, 3) := by decide +kernel
theorem dX1_init_15 : decode cX1_init 15 = .ok (.iconst 0, 1) := by decide +kernel
theorem dX1_init_16 : decode cX1_init 16 = .ok (.istore_n 1, 1) := by decide +kernel
theorem dX1_init_17 : decode cX1_init 17 = .ok (.iload_n 1, 1) := by decide +kernel
theorem dX1_init_18 : decode cX1_init 18 = .ok (.bipush 64, 2) := by decide +kernel
theorem dX1_init_20 : decode cX1_init 20 = .ok (.if_icmp .ge 20, 3) := by decide +kernel
theorem dX1_init_23 : decode cX1_init 23 = .ok (.aload_n 0, 1) := by decide +kernel
theorem dX1_init_24 : decode cX1_init 24 = .ok (.iload_n 1, 1) := by decide +kernel
theorem dX1_init_25 : decode cX1_init 25 = .ok (.bipush 100, 2) := by decide +kernel
theorem dX1_init_27 : decode cX1_init 27 = .ok (.bipush 100, 2) := by decide +kernel
theorem dX1_init_29 : decode cX1_init 29 = .ok (.bipush 100, 2) := by decide +kernel
theorem dX1_init_31 : decode cX1_init 31 = .ok (.invokevirtual 16, 3) := by decide +kernel
theorem dX1_init_34 : decode cX1_init 34 = .ok (.iinc 1 1, 3) := by decide +kernel
theorem dX1_init_37 : decode cX1_init 37 = .ok (.goto (-20), 3) := by decide +kernel
theorem dX1_init_40 : decode cX1_init 40 = .ok (.return_, 1) := by decide +kernel
theorem dX1_paint_0 : decode cX1_paint 0 = .ok (.aload_n 0, 1) := by decide +kernel
theorem dX1_paint_1 : decode cX1_paint 1 = .ok (.getfield 11, 3) := by decide +kernel
theorem dX1_paint_4 : decode cX1_paint 4 = .ok (.iconst 0, 1) := by decide +kernel
theorem dX1_paint_5 : decode cX1_paint 5 = .ok (.aaload, 1) := by decide +kernel
theorem dX1_paint_6 : decode cX1_paint 6 = .ok (.iload_n 1, 1) := by decide +kernel
theorem dX1_paint_7 : decode cX1_paint 7 = .ok (.iload_n 2, 1) := by decide +kernel
theorem dX1_paint_8 : decode cX1_paint 8 = .ok (.iastore, 1) := by decide +kernel
theorem dX1_paint_9 : decode cX1_paint 9 = .ok (.aload_n 0, 1) := by decide +kernel
theorem dX1_paint_10 : decode cX1_paint 10 = .ok (.getfield 11, 3) := by decide +kernel
theorem dX1_paint_13 : decode cX1_paint 13 = .ok (.iconst 1, 1) := by decide +kernel
theorem dX1_paint_14 : decode cX1_paint 14 = .ok (.aaload, 1) := by decide +kernel
theorem dX1_paint_15 : decode cX1_paint 15 = .ok (.iload_n 1, 1) := by decide +kernel
theorem dX1_paint_16 : decode cX1_paint 16 = .ok (.iload_n 3, 1) := by decide +kernel
theorem dX1_paint_17 : decode cX1_paint 17 = .ok (.iastore, 1) := by decide +kernel
theorem dX1_paint_18 : decode cX1_paint 18 = .ok (.aload_n 0, 1) := by decide +kernel
theorem dX1_paint_19 : decode cX1_paint 19 = .ok (.getfield 11, 3) := by decide +kernel
theorem dX1_paint_22 : decode cX1_paint 22 = .ok (.iconst 2, 1) := by decide +kernel
theorem dX1_paint_23 : decode cX1_paint 23 = .ok (.aaload, 1) := by decide +kernel
theorem dX1_paint_24 : decode cX1_paint 24 = .ok (.iload_n 1, 1) := by decide +kernel
theorem dX1_paint_25 : decode cX1_paint 25 = .ok (.iload 4, 2) := by decide +kernel
theorem dX1_paint_27 : decode cX1_paint 27 = .ok (.iastore, 1) := by decide +kernel
theorem dX1_paint_28 : decode cX1_paint 28 = .ok (.return_, 1) := by decide +kernel
set_option maxRecDepth 20000 in
theorem ggX1_aheadOfTraps_X7_share : GoodIn wsX1_aheadOfTraps wsX7_share := goodIn_r _ [10, 11, 18, 19, 20, 21, 22, 23] (by decide +kernel) (by decide +kernel)
set_option maxRecDepth 20000 in
theorem gX1_aheadOfTraps_X7_share : GoodIn wsX1_aheadOfTraps (wsV RX1 26 RX7 yX7_share wsX7_share) := goodIn_app (goodIn_of _ (by decide +kernel)) ggX1_aheadOfTraps_X7_share
set_option maxRecDepth 20000 in
theorem ggX1_aheadOfTraps_X7_limit : GoodIn wsX1_aheadOfTraps wsX7_limit := goodIn_r _ [15, 16, 18, 19, 20, 21, 22, 23] (by decide +kernel) (by decide +kernel)
set_option maxRecDepth 20000 in
theorem gX1_aheadOfTraps_X7_limit : GoodIn wsX1_aheadOfTraps (wsV RX1 32 RX7 yX7_limit wsX7_limit) := goodIn_app (goodIn_of _ (by decide +kernel)) ggX1_aheadOfTraps_X7_limit
theorem dX1_aheadOfTraps_0 : decode cX1_aheadOfTraps 0 = .ok (.bipush 100, 2) := by decide +kernel
theorem dX1_aheadOfTraps_2 : decode cX1_aheadOfTraps 2 = .ok (.aload_n 0, 1) := by decide +kernel
theorem dX1_aheadOfTraps_3 : decode cX1_aheadOfTraps 3 = .ok (.getfield 11, 3) := by decide +kernel
theorem dX1_aheadOfTraps_6 : decode cX1_aheadOfTraps 6 = .ok (.iconst 0, 1) := by decide +kernel
theorem dX1_aheadOfTraps_7 : decode cX1_aheadOfTraps 7 = .ok (.aaload, 1) := by decide +kernel
theorem dX1_aheadOfTraps_8 : decode cX1_aheadOfTraps 8 = .ok (.iload_n 1, 1) := by decide +kernel
theorem dX1_aheadOfTraps_9 : decode cX1_aheadOfTraps 9 = .ok (.iaload, 1) := by decide +kernel
theorem dX1_aheadOfTraps_10 : decode cX1_aheadOfTraps 10 = .ok (.isub, 1) := by decide +kernel
theorem dX1_aheadOfTraps_11 : decode cX1_aheadOfTraps 11 = .ok (.istore 4, 2) := by decide +kernel
theorem dX1_aheadOfTraps_13 : decode cX1_aheadOfTraps 13 = .ok (.bipush 100, 2) := by decide +kernel
theorem dX1_aheadOfTraps_15 : decode cX1_aheadOfTraps 15 = .ok (.aload_n 0, 1) := by decide +kernel
theorem dX1_aheadOfTraps_16 : decode cX1_aheadOfTraps 16 = .ok (.getfield 11, 3) := by decide +kernel
theorem dX1_aheadOfTraps_19 : decode cX1_aheadOfTraps 19 = .ok (.iconst 1, 1) := by decide +kernel
theorem dX1_aheadOfTraps_20 : decode cX1_aheadOfTraps 20 = .ok (.aaload, 1) := by decide +kernel
theorem dX1_aheadOfTraps_21 : decode cX1_aheadOfTraps 21 = .ok (.iload_n 1, 1) := by decide +kernel
theorem dX1_aheadOfTraps_22 : decode cX1_aheadOfTraps 22 = .ok (.iaload, 1) := by decide +kernel
theorem dX1_aheadOfTraps_23 : decode cX1_aheadOfTraps 23 = .ok (.isub, 1) := by decide +kernel
theorem dX1_aheadOfTraps_24 : decode cX1_aheadOfTraps 24 = .ok (.istore 5, 2) := by decide +kernel
theorem dX1_aheadOfTraps_26 : decode cX1_aheadOfTraps 26 = .ok (.bipush 100, 2) := by decide +kernel
theorem dX1_aheadOfTraps_28 : decode cX1_aheadOfTraps 28 = .ok (.aload_n 0, 1) := by decide +kernel
theorem dX1_aheadOfTraps_29 : decode cX1_aheadOfTraps 29 = .ok (.getfield 11, 3) := by decide +kernel
theorem dX1_aheadOfTraps_32 : decode cX1_aheadOfTraps 32 = .ok (.iconst 2, 1) := by decide +kernel
theorem dX1_aheadOfTraps_33 : decode cX1_aheadOfTraps 33 = .ok (.aaload, 1) := by decide +kernel
theorem dX1_aheadOfTraps_34 : decode cX1_aheadOfTraps 34 = .ok (.iload_n 1, 1) := by decide +kernel
theorem dX1_aheadOfTraps_35 : decode cX1_aheadOfTraps 35 = .ok (.iaload, 1) := by decide +kernel
theorem dX1_aheadOfTraps_36 : decode cX1_aheadOfTraps 36 = .ok (.isub, 1) := by decide +kernel
theorem dX1_aheadOfTraps_37 : decode cX1_aheadOfTraps 37 = .ok (.istore 6, 2) := by decide +kernel
theorem dX1_aheadOfTraps_39 : decode cX1_aheadOfTraps 39 = .ok (.iload 4, 2) := by decide +kernel
theorem dX1_aheadOfTraps_41 : decode cX1_aheadOfTraps 41 = .ok (.iload 5, 2) := by decide +kernel
theorem dX1_aheadOfTraps_43 : decode cX1_aheadOfTraps 43 = .ok (.iload 6, 2) := by decide +kernel
theorem dX1_aheadOfTraps_45 : decode cX1_aheadOfTraps 45 = .ok (.invokestatic 20, 3) := by decide +kernel
theorem dX1_aheadOfTraps_48 : decode cX1_aheadOfTraps 48 = .ok (.invokestatic 20, 3) := by decide +kernel
theorem dX1_aheadOfTraps_51 : decode cX1_aheadOfTraps 51 = .ok (.aload_n 3, 1) := by decide +kernel
theorem dX1_aheadOfTraps_52 : decode cX1_aheadOfTraps 52 = .ok (.invokevirtual 26, 3) := by decide +kernel
theorem dX1_aheadOfTraps_55 : decode cX1_aheadOfTraps 55 = .ok (.imul, 1) := by decide +kernel
theorem dX1_aheadOfTraps_56 : decode cX1_aheadOfTraps 56 = .ok (.bipush 100, 2) := by decide +kernel
theorem dX1_aheadOfTraps_58 : decode cX1_aheadOfTraps 58 = .ok (.idiv, 1) := by decide +kernel
theorem dX1_aheadOfTraps_59 : decode cX1_aheadOfTraps 59 = .ok (.istore 7, 2) := by decide +kernel
theorem dX1_aheadOfTraps_61 : decode cX1_aheadOfTraps 61 = .ok (.iload_n 2, 1) := by decide +kernel
theorem dX1_aheadOfTraps_62 : decode cX1_aheadOfTraps 62 = .ok (.iconst 3, 1) := by decide +kernel
theorem dX1_aheadOfTraps_63 : decode cX1_aheadOfTraps 63 = .ok (.if_icmp .ne 6, 3) := by decide +kernel
theorem dX1_aheadOfTraps_66 : decode cX1_aheadOfTraps 66 = .ok (.iload 7, 2) := by decide +kernel
theorem dX1_aheadOfTraps_68 : decode cX1_aheadOfTraps 68 = .ok (.ireturn, 1) := by decide +kernel
theorem dX1_aheadOfTraps_69 : decode cX1_aheadOfTraps 69 = .ok (.iload 4, 2) := by decide +kernel
theorem dX1_aheadOfTraps_71 : decode cX1_aheadOfTraps 71 = .ok (.iload 5, 2) := by decide +kernel
theorem dX1_aheadOfTraps_73 : decode cX1_aheadOfTraps 73 = .ok (.iadd, 1) := by decide +kernel
theorem dX1_aheadOfTraps_74 : decode cX1_aheadOfTraps 74 = .ok (.iload 6, 2) := by decide +kernel
theorem dX1_aheadOfTraps_76 : decode cX1_aheadOfTraps 76 = .ok (.iadd, 1) := by decide +kernel
theorem dX1_aheadOfTraps_77 : decode cX1_aheadOfTraps 77 = .ok (.iconst 3, 1) := by decide +kernel
theorem dX1_aheadOfTraps_78 : decode cX1_aheadOfTraps 78 = .ok (.iload 7, 2) := by decide +kernel
theorem dX1_aheadOfTraps_80 : decode cX1_aheadOfTraps 80 = .ok (.imul, 1) := by decide +kernel
theorem dX1_aheadOfTraps_81 : decode cX1_aheadOfTraps 81 = .ok (.isub, 1) := by decide +kernel
theorem dX1_aheadOfTraps_82 : decode cX1_aheadOfTraps 82 = .ok (.istore 8, 2) := by decide +kernel
theorem dX1_aheadOfTraps_84 : decode cX1_aheadOfTraps 84 = .ok (.bipush 100, 2) := by decide +kernel
theorem dX1_aheadOfTraps_86 : decode cX1_aheadOfTraps 86 = .ok (.aload_n 0, 1) := by decide +kernel
theorem dX1_aheadOfTraps_87 : decode cX1_aheadOfTraps 87 = .ok (.getfield 11, 3) := by decide +kernel
theorem dX1_aheadOfTraps_90 : decode cX1_aheadOfTraps 90 = .ok (.iload_n 2, 1) := by decide +kernel
theorem dX1_aheadOfTraps_91 : decode cX1_aheadOfTraps 91 = .ok (.aaload, 1) := by decide +kernel
theorem dX1_aheadOfTraps_92 : decode cX1_aheadOfTraps 92 = .ok (.iload_n 1, 1) := by decide +kernel
theorem dX1_aheadOfTraps_93 : decode cX1_aheadOfTraps 93 = .ok (.iaload, 1) := by decide +kernel
theorem dX1_aheadOfTraps_94 : decode cX1_aheadOfTraps 94 = .ok (.isub, 1) := by decide +kernel
theorem dX1_aheadOfTraps_95 : decode cX1_aheadOfTraps 95 = .ok (.iload 7, 2) := by decide +kernel
theorem dX1_aheadOfTraps_97 : decode cX1_aheadOfTraps 97 = .ok (.isub, 1) := by decide +kernel
theorem dX1_aheadOfTraps_98 : decode cX1_aheadOfTraps 98 = .ok (.istore 9, 2) := by decide +kernel
theorem dX1_aheadOfTraps_100 : decode cX1_aheadOfTraps 100 = .ok (.iload 8, 2) := by decide +kernel
theorem dX1_aheadOfTraps_102 : decode cX1_aheadOfTraps 102 = .ok (.ifCond .le 15, 3) := by decide +kernel
theorem dX1_aheadOfTraps_105 : decode cX1_aheadOfTraps 105 = .ok (.iload 8, 2) := by decide +kernel
theorem dX1_aheadOfTraps_107 : decode cX1_aheadOfTraps 107 = .ok (.iload 7, 2) := by decide +kernel
theorem dX1_aheadOfTraps_109 : decode cX1_aheadOfTraps 109 = .ok (.iadd, 1) := by decide +kernel
theorem dX1_aheadOfTraps_110 : decode cX1_aheadOfTraps 110 = .ok (.aload_n 3, 1) := by decide +kernel
theorem dX1_aheadOfTraps_111 : decode cX1_aheadOfTraps 111 = .ok (.invokevirtual 32, 3) := by decide +kernel
theorem dX1_aheadOfTraps_114 : decode cX1_aheadOfTraps 114 = .ok (.if_icmp .gt 6, 3) := by decide +kernel
theorem dX1_aheadOfTraps_117 : decode cX1_aheadOfTraps 117 = .ok (.iload 9, 2) := by decide +kernel
theorem dX1_aheadOfTraps_119 : decode cX1_aheadOfTraps 119 = .ok (.ireturn, 1) := by decide +kernel
theorem dX1_aheadOfTraps_120 : decode cX1_aheadOfTraps 120 = .ok (.iload 9, 2) := by decide +kernel
theorem dX1_aheadOfTraps_122 : decode cX1_aheadOfTraps 122 = .ok (.aload_n 3, 1) := by decide +kernel
theorem dX1_aheadOfTraps_123 : decode cX1_aheadOfTraps 123 = .ok (.invokevirtual 32, 3) := by decide +kernel
theorem dX1_aheadOfTraps_126 : decode cX1_aheadOfTraps 126 = .ok (.iload 7, 2) := by decide +kernel
theorem dX1_aheadOfTraps_128 : decode cX1_aheadOfTraps 128 = .ok (.isub, 1) := by decide +kernel
theorem dX1_aheadOfTraps_129 : decode cX1_aheadOfTraps 129 = .ok (.imul, 1) := by decide +kernel
theorem dX1_aheadOfTraps_130 : decode cX1_aheadOfTraps 130 = .ok (.iload 8, 2) := by decide +kernel
theorem dX1_aheadOfTraps_132 : decode cX1_aheadOfTraps 132 = .ok (.idiv, 1) := by decide +kernel
theorem dX1_aheadOfTraps_133 : decode cX1_aheadOfTraps 133 = .ok (.ireturn, 1) := by decide +kernel
set_option maxRecDepth 20000 in
theorem ggX1_wanted_X1_aheadOfTraps : GoodIn wsX1_wanted wsX1_aheadOfTraps := goodIn_r _ [9, 10, 11, 12, 3, 13, 14, 15, 16, 17, 18, 19, 20, 21, 22, 23, 24, 38, 39, 40, 41, 42, 43, 44] (by decide +kernel) (by decide +kernel)
set_option maxRecDepth 20000 in
theorem gX1_wanted_X1_aheadOfTraps : GoodIn wsX1_wanted (wsV RX1 35 RX1 yX1_aheadOfTraps wsX1_aheadOfTraps) := goodIn_app (goodIn_of _ (by decide +kernel)) ggX1_wanted_X1_aheadOfTraps
set_option maxRecDepth 20000 in
theorem ggX1_wanted_X7_trap : GoodIn wsX1_wanted wsX7_trap := goodIn_r _ [28, 29, 39, 40, 41, 42, 43, 44] (by decide +kernel) (by decide +kernel)
set_option maxRecDepth 20000 in
theorem gX1_wanted_X7_trap : GoodIn wsX1_wanted (wsV RX1 39 RX7 yX7_trap wsX7_trap) := goodIn_app (goodIn_of _ (by decide +kernel)) ggX1_wanted_X7_trap
set_option maxRecDepth 20000 in
theorem ggX1_wanted_X1_fromSide : GoodIn wsX1_wanted wsX1_fromSide := goodIn_r _ [33, 34, 35, 36, 8, 37, 10, 5, 6, 7, 9, 11, 12, 3, 13, 14, 15, 16, 17, 18, 19, 20, 21, 22, 23, 24, 38, 39, 40, 41, 42, 43, 44] (by decide +kernel) (by decide +kernel)
set_option maxRecDepth 20000 in
theorem gX1_wanted_X1_fromSide : GoodIn wsX1_wanted (wsV RX1 43 RX1 yX1_fromSide wsX1_fromSide) := goodIn_app (goodIn_of _ (by decide +kernel)) ggX1_wanted_X1_fromSide
theorem dX1_wanted_0 : decode cX1_wanted 0 = .ok (.aload_n 0, 1) := by decide +kernel
theorem dX1_wanted_1 : decode cX1_wanted 1 = .ok (.iload_n 1, 1) := by decide +kernel
theorem dX1_wanted_2 : decode cX1_wanted 2 = .ok (.iload_n 2, 1) := by decide +kernel
theorem dX1_wanted_3 : decode cX1_wanted 3 = .ok (.aload_n 3, 1) := by decide +kernel
theorem dX1_wanted_4 : decode cX1_wanted 4 = .ok (.invokevirtual 35, 3) := by decide +kernel
theorem dX1_wanted_7 : decode cX1_wanted 7 = .ok (.istore 4, 2) := by decide +kernel
theorem dX1_wanted_9 : decode cX1_wanted 9 = .ok (.iload_n 2, 1) := by decide +kernel
theorem dX1_wanted_10 : decode cX1_wanted 10 = .ok (.iconst 3, 1) := by decide +kernel
theorem dX1_wanted_11 : decode cX1_wanted 11 = .ok (.if_icmp .eq 10, 3) := by decide +kernel
theorem dX1_wanted_14 : decode cX1_wanted 14 = .ok (.aload_n 3, 1) := by decide +kernel
theorem dX1_wanted_15 : decode cX1_wanted 15 = .ok (.invokevirtual 39, 3) := by decide +kernel
theorem dX1_wanted_18 : decode cX1_wanted 18 = .ok (.ifCond .ne 6, 3) := by decide +kernel
theorem dX1_wanted_21 : decode cX1_wanted 21 = .ok (.iload 4, 2) := by decide +kernel
theorem dX1_wanted_23 : decode cX1_wanted 23 = .ok (.ireturn, 1) := by decide +kernel
theorem dX1_wanted_24 : decode cX1_wanted 24 = .ok (.iload_n 1, 1) := by decide +kernel
theorem dX1_wanted_25 : decode cX1_wanted 25 = .ok (.bipush 8, 2) := by decide +kernel
theorem dX1_wanted_27 : decode cX1_wanted 27 = .ok (.irem, 1) := by decide +kernel
theorem dX1_wanted_28 : decode cX1_wanted 28 = .ok (.istore 5, 2) := by decide +kernel
theorem dX1_wanted_30 : decode cX1_wanted 30 = .ok (.iload_n 1, 1) := by decide +kernel
theorem dX1_wanted_31 : decode cX1_wanted 31 = .ok (.bipush 8, 2) := by decide +kernel
theorem dX1_wanted_33 : decode cX1_wanted 33 = .ok (.if_icmp .lt 21, 3) := by decide +kernel
theorem dX1_wanted_36 : decode cX1_wanted 36 = .ok (.iload 4, 2) := by decide +kernel
theorem dX1_wanted_38 : decode cX1_wanted 38 = .ok (.aload_n 0, 1) := by decide +kernel
theorem dX1_wanted_39 : decode cX1_wanted 39 = .ok (.iload_n 1, 1) := by decide +kernel
theorem dX1_wanted_40 : decode cX1_wanted 40 = .ok (.iload_n 1, 1) := by decide +kernel
theorem dX1_wanted_41 : decode cX1_wanted 41 = .ok (.bipush 8, 2) := by decide +kernel
theorem dX1_wanted_43 : decode cX1_wanted 43 = .ok (.isub, 1) := by decide +kernel
theorem dX1_wanted_44 : decode cX1_wanted 44 = .ok (.iload_n 2, 1) := by decide +kernel
theorem dX1_wanted_45 : decode cX1_wanted 45 = .ok (.aload_n 3, 1) := by decide +kernel
theorem dX1_wanted_46 : decode cX1_wanted 46 = .ok (.invokevirtual 43, 3) := by decide +kernel
theorem dX1_wanted_49 : decode cX1_wanted 49 = .ok (.invokestatic 47, 3) := by decide +kernel
theorem dX1_wanted_52 : decode cX1_wanted 52 = .ok (.istore 4, 2) := by decide +kernel
theorem dX1_wanted_54 : decode cX1_wanted 54 = .ok (.iload_n 1, 1) := by decide +kernel
theorem dX1_wanted_55 : decode cX1_wanted 55 = .ok (.bipush 56, 2) := by decide +kernel
theorem dX1_wanted_57 : decode cX1_wanted 57 = .ok (.if_icmp .ge 21, 3) := by decide +kernel
theorem dX1_wanted_60 : decode cX1_wanted 60 = .ok (.iload 4, 2) := by decide +kernel
theorem dX1_wanted_62 : decode cX1_wanted 62 = .ok (.aload_n 0, 1) := by decide +kernel
theorem dX1_wanted_63 : decode cX1_wanted 63 = .ok (.iload_n 1, 1) := by decide +kernel
theorem dX1_wanted_64 : decode cX1_wanted 64 = .ok (.iload_n 1, 1) := by decide +kernel
theorem dX1_wanted_65 : decode cX1_wanted 65 = .ok (.bipush 8, 2) := by decide +kernel
theorem dX1_wanted_67 : decode cX1_wanted 67 = .ok (.iadd, 1) := by decide +kernel
theorem dX1_wanted_68 : decode cX1_wanted 68 = .ok (.iload_n 2, 1) := by decide +kernel
theorem dX1_wanted_69 : decode cX1_wanted 69 = .ok (.aload_n 3, 1) := by decide +kernel
theorem dX1_wanted_70 : decode cX1_wanted 70 = .ok (.invokevirtual 43, 3) := by decide +kernel
theorem dX1_wanted_73 : decode cX1_wanted 73 = .ok (.invokestatic 47, 3) := by decide +kernel
theorem dX1_wanted_76 : decode cX1_wanted 76 = .ok (.istore 4, 2) := by decide +kernel
theorem dX1_wanted_78 : decode cX1_wanted 78 = .ok (.iload 5, 2) := by decide +kernel
theorem dX1_wanted_80 : decode cX1_wanted 80 = .ok (.ifCond .le 20, 3) := by decide +kernel
theorem dX1_wanted_83 : decode cX1_wanted 83 = .ok (.iload 4, 2) := by decide +kernel
theorem dX1_wanted_85 : decode cX1_wanted 85 = .ok (.aload_n 0, 1) := by decide +kernel
theorem dX1_wanted_86 : decode cX1_wanted 86 = .ok (.iload_n 1, 1) := by decide +kernel
theorem dX1_wanted_87 : decode cX1_wanted 87 = .ok (.iload_n 1, 1) := by decide +kernel
theorem dX1_wanted_88 : decode cX1_wanted 88 = .ok (.iconst 1, 1) := by decide +kernel
theorem dX1_wanted_89 : decode cX1_wanted 89 = .ok (.isub, 1) := by decide +kernel
theorem dX1_wanted_90 : decode cX1_wanted 90 = .ok (.iload_n 2, 1) := by decide +kernel
theorem dX1_wanted_91 : decode cX1_wanted 91 = .ok (.aload_n 3, 1) := by decide +kernel
theorem dX1_wanted_92 : decode cX1_wanted 92 = .ok (.invokevirtual 43, 3) := by decide +kernel
theorem dX1_wanted_95 : decode cX1_wanted 95 = .ok (.invokestatic 47, 3) := by decide +kernel
theorem dX1_wanted_98 : decode cX1_wanted 98 = .ok (.istore 4, 2) := by decide +kernel
theorem dX1_wanted_100 : decode cX1_wanted 100 = .ok (.iload 5, 2) := by decide +kernel
theorem dX1_wanted_102 : decode cX1_wanted 102 = .ok (.bipush 7, 2) := by decide +kernel
theorem dX1_wanted_104 : decode cX1_wanted 104 = .ok (.if_icmp .ge 20, 3) := by decide +kernel
theorem dX1_wanted_107 : decode cX1_wanted 107 = .ok (.iload 4, 2) := by decide +kernel
theorem dX1_wanted_109 : decode cX1_wanted 109 = .ok (.aload_n 0, 1) := by decide +kernel
theorem dX1_wanted_110 : decode cX1_wanted 110 = .ok (.iload_n 1, 1) := by decide +kernel
theorem dX1_wanted_111 : decode cX1_wanted 111 = .ok (.iload_n 1, 1) := by decide +kernel
theorem dX1_wanted_112 : decode cX1_wanted 112 = .ok (.iconst 1, 1) := by decide +kernel
theorem dX1_wanted_113 : decode cX1_wanted 113 = .ok (.iadd, 1) := by decide +kernel
theorem dX1_wanted_114 : decode cX1_wanted 114 = .ok (.iload_n 2, 1) := by decide +kernel
theorem dX1_wanted_115 : decode cX1_wanted 115 = .ok (.aload_n 3, 1) := by decide +kernel
theorem dX1_wanted_116 : decode cX1_wanted 116 = .ok (.invokevirtual 43, 3) := by decide +kernel
theorem dX1_wanted_119 : decode cX1_wanted 119 = .ok (.invokestatic 47, 3) := by decide +kernel
theorem dX1_wanted_122 : decode cX1_wanted 122 = .ok (.istore 4, 2) := by decide +kernel
theorem dX1_wanted_124 : decode cX1_wanted 124 = .ok (.iload 4, 2) := by decide +kernel
theorem dX1_wanted_126 : decode cX1_wanted 126 = .ok (.ireturn, 1) := by decide +kernel
set_option maxRecDepth 20000 in
theorem ggX1_fromSide_X1_light : GoodIn wsX1_fromSide wsX1_light := goodIn_r _ [5, 6, 26] (by decide +kernel) (by decide +kernel)
set_option maxRecDepth 20000 in
theorem gX1_fromSide_X1_light : GoodIn wsX1_fromSide (wsV RX1 50 RX1 yX1_light wsX1_light) := goodIn_app (goodIn_of _ (by decide +kernel)) ggX1_fromSide_X1_light
set_option maxRecDepth 20000 in
theorem ggX1_fromSide_X1_aheadOfTraps : GoodIn wsX1_fromSide wsX1_aheadOfTraps := goodIn_r _ [10, 6, 11, 12, 13, 14, 15, 16, 17, 18, 19, 20, 21, 22, 23, 24, 25, 26, 27, 28, 29, 30, 31, 32] (by decide +kernel) (by decide +kernel)
set_option maxRecDepth 20000 in
theorem gX1_fromSide_X1_aheadOfTraps : GoodIn wsX1_fromSide (wsV RX1 35 RX1 yX1_aheadOfTraps wsX1_aheadOfTraps) := goodIn_app (goodIn_of _ (by decide +kernel)) ggX1_fromSide_X1_aheadOfTraps
theorem dX1_fromSide_0 : decode cX1_fromSide 0 = .ok (.aload_n 0, 1) := by decide +kernel
theorem dX1_fromSide_1 : decode cX1_fromSide 1 = .ok (.iload_n 2, 1) := by decide +kernel
theorem dX1_fromSide_2 : decode cX1_fromSide 2 = .ok (.invokevirtual 50, 3) := by decide +kernel
theorem dX1_fromSide_5 : decode cX1_fromSide 5 = .ok (.aload_n 0, 1) := by decide +kernel
theorem dX1_fromSide_6 : decode cX1_fromSide 6 = .ok (.iload_n 1, 1) := by decide +kernel
theorem dX1_fromSide_7 : decode cX1_fromSide 7 = .ok (.invokevirtual 50, 3) := by decide +kernel
theorem dX1_fromSide_10 : decode cX1_fromSide 10 = .ok (.if_icmp .le 14, 3) := by decide +kernel
theorem dX1_fromSide_13 : decode cX1_fromSide 13 = .ok (.aload_n 0, 1) := by decide +kernel
theorem dX1_fromSide_14 : decode cX1_fromSide 14 = .ok (.iload_n 2, 1) := by decide +kernel
theorem dX1_fromSide_15 : decode cX1_fromSide 15 = .ok (.iload_n 3, 1) := by decide +kernel
theorem dX1_fromSide_16 : decode cX1_fromSide 16 = .ok (.aload 4, 2) := by decide +kernel
theorem dX1_fromSide_18 : decode cX1_fromSide 18 = .ok (.invokevirtual 35, 3) := by decide +kernel
theorem dX1_fromSide_21 : decode cX1_fromSide 21 = .ok (.goto 4, 3) := by decide +kernel
theorem dX1_fromSide_24 : decode cX1_fromSide 24 = .ok (.iconst 0, 1) := by decide +kernel
theorem dX1_fromSide_25 : decode cX1_fromSide 25 = .ok (.ireturn, 1) := by decide +kernel
theorem dX1_light_0 : decode cX1_light 0 = .ok (.aload_n 0, 1) := by decide +kernel
theorem dX1_light_1 : decode cX1_light 1 = .ok (.getfield 11, 3) := by decide +kernel
theorem dX1_light_4 : decode cX1_light 4 = .ok (.iconst 0, 1) := by decide +kernel
theorem dX1_light_5 : decode cX1_light 5 = .ok (.aaload, 1) := by decide +kernel
theorem dX1_light_6 : decode cX1_light 6 = .ok (.iload_n 1, 1) := by decide +kernel
theorem dX1_light_7 : decode cX1_light 7 = .ok (.iaload, 1) := by decide +kernel
theorem dX1_light_8 : decode cX1_light 8 = .ok (.aload_n 0, 1) := by decide +kernel
theorem dX1_light_9 : decode cX1_light 9 = .ok (.getfield 11, 3) := by decide +kernel
theorem dX1_light_12 : decode cX1_light 12 = .ok (.iconst 1, 1) := by decide +kernel
theorem dX1_light_13 : decode cX1_light 13 = .ok (.aaload, 1) := by decide +kernel
theorem dX1_light_14 : decode cX1_light 14 = .ok (.iload_n 1, 1) := by decide +kernel
theorem dX1_light_15 : decode cX1_light 15 = .ok (.iaload, 1) := by decide +kernel
theorem dX1_light_16 : decode cX1_light 16 = .ok (.iadd, 1) := by decide +kernel
theorem dX1_light_17 : decode cX1_light 17 = .ok (.aload_n 0, 1) := by decide +kernel
theorem dX1_light_18 : decode cX1_light 18 = .ok (.getfield 11, 3) := by decide +kernel
theorem dX1_light_21 : decode cX1_light 21 = .ok (.iconst 2, 1) := by decide +kernel
theorem dX1_light_22 : decode cX1_light 22 = .ok (.aaload, 1) := by decide +kernel
theorem dX1_light_23 : decode cX1_light 23 = .ok (.iload_n 1, 1) := by decide +kernel
theorem dX1_light_24 : decode cX1_light 24 = .ok (.iaload, 1) := by decide +kernel
theorem dX1_light_25 : decode cX1_light 25 = .ok (.iadd, 1) := by decide +kernel
theorem dX1_light_26 : decode cX1_light 26 = .ok (.ireturn, 1) := by decide +kernel
theorem dX2_init_0 : decode cX2_init 0 = .ok (.aload_n 0, 1) := by decide +kernel
theorem dX2_init_1 : decode cX2_init 1 = .ok (.invokespecial 3, 3) := by decide +kernel
theorem dX2_init_4 : decode cX2_init 4 = .ok (.aload_n 0, 1) := by decide +kernel
theorem dX2_init_5 : decode cX2_init 5 = .ok (.iconst 4, 1) := by decide +kernel
theorem dX2_init_6 : decode cX2_init 6 = .ok (.bipush 64, 2) := by decide +kernel
theorem dX2_init_8 : decode cX2_init 8 = .ok (.multianewarray 9 2, 4) := by decide +kernel
theorem dX2_init_12 : decode cX2_init 12 = .ok (.putfield 11, 3) := by decide +kernel
theorem dX2_init_15 : decode cX2_init 15 = .ok (.return_, 1) := by decide +kernel
theorem dX2_curve_0 : decode cX2_curve 0 = .ok (.iload_n 0, 1) := by decide +kernel
theorem dX2_curve_1 : decode cX2_curve 1 = .ok (.iload_n 1, 1) := by decide +kernel
theorem dX2_curve_2 : decode cX2_curve 2 = .ok (.iload_n 0, 1) := by decide +kernel
theorem dX2_curve_3 : decode cX2_curve 3 = .ok (.imul, 1) := by decide +kernel
theorem dX2_curve_4 : decode cX2_curve 4 = .ok (.bipush 100, 2) := by decide +kernel
theorem dX2_curve_6 : decode cX2_curve 6 = .ok (.iload_n 0, 1) := by decide +kernel
theorem dX2_curve_7 : decode cX2_curve 7 = .ok (.isub, 1) := by decide +kernel
theorem dX2_curve_8 : decode cX2_curve 8 = .ok (.imul, 1) := by decide +kernel
theorem dX2_curve_9 : decode cX2_curve 9 = .ok (.sipush 2500, 3) := by decide +kernel
theorem dX2_curve_12 : decode cX2_curve 12 = .ok (.idiv, 1) := by decide +kernel
theorem dX2_curve_13 : decode cX2_curve 13 = .ok (.iadd, 1) := by decide +kernel
theorem dX2_curve_14 : decode cX2_curve 14 = .ok (.ireturn, 1) := by decide +kernel
set_option maxRecDepth 20000 in
theorem ggX2_leastTint_X2_curve : GoodIn wsX2_leastTint wsX2_curve := goodIn_r _ [4] (by decide +kernel) (by decide +kernel)
set_option maxRecDepth 20000 in
theorem gX2_leastTint_X2_curve : GoodIn wsX2_leastTint (va_wsS RX2 16 yX2_curve wsX2_curve) := goodIn_app (goodIn_of _ (by decide +kernel)) ggX2_leastTint_X2_curve
theorem dX2_leastTint_0 : decode cX2_leastTint 0 = .ok (.iconst 0, 1) := by decide +kernel
theorem dX2_leastTint_1 : decode cX2_leastTint 1 = .ok (.istore_n 2, 1) := by decide +kernel
theorem dX2_leastTint_2 : decode cX2_leastTint 2 = .ok (.iload_n 2, 1) := by decide +kernel
theorem dX2_leastTint_3 : decode cX2_leastTint 3 = .ok (.bipush 100, 2) := by decide +kernel
theorem dX2_leastTint_5 : decode cX2_leastTint 5 = .ok (.if_icmp .ge 18, 3) := by decide +kernel
theorem dX2_leastTint_8 : decode cX2_leastTint 8 = .ok (.iload_n 2, 1) := by decide +kernel
theorem dX2_leastTint_9 : decode cX2_leastTint 9 = .ok (.iload_n 1, 1) := by decide +kernel
theorem dX2_leastTint_10 : decode cX2_leastTint 10 = .ok (.invokestatic 16, 3) := by decide +kernel
theorem dX2_leastTint_13 : decode cX2_leastTint 13 = .ok (.iload_n 0, 1) := by decide +kernel
theorem dX2_leastTint_14 : decode cX2_leastTint 14 = .ok (.if_icmp .ge 9, 3) := by decide +kernel
theorem dX2_leastTint_17 : decode cX2_leastTint 17 = .ok (.iinc 2 1, 3) := by decide +kernel
theorem dX2_leastTint_20 : decode cX2_leastTint 20 = .ok (.goto (-18), 3) := by decide +kernel
theorem dX2_leastTint_23 : decode cX2_leastTint 23 = .ok (.iload_n 2, 1) := by decide +kernel
theorem dX2_leastTint_24 : decode cX2_leastTint 24 = .ok (.ireturn, 1) := by decide +kernel
set_option maxRecDepth 20000 in
theorem ggX2_make_X1_wanted : GoodIn wsX2_make wsX1_wanted := goodIn_r _ [6, 7, 8, 9, 10, 11, 12, 13, 5, 14, 15, 16, 17, 18, 19, 20, 21, 22, 23, 24, 25, 26, 27, 28, 29, 30, 31, 32, 33, 34, 35, 36, 37, 38, 39, 40, 41, 42, 56, 57, 58, 59, 60, 61, 62] (by decide +kernel) (by decide +kernel)
set_option maxRecDepth 20000 in
theorem gX2_make_X1_wanted : GoodIn wsX2_make (wsV RX2 20 RX1 yX1_wanted wsX1_wanted) := goodIn_app (goodIn_of _ (by decide +kernel)) ggX2_make_X1_wanted
set_option maxRecDepth 20000 in
theorem ggX2_make_X7_gain : GoodIn wsX2_make wsX7_gain := goodIn_r _ [46, 47, 57, 58, 59, 60, 61, 62] (by decide +kernel) (by decide +kernel)
set_option maxRecDepth 20000 in
theorem gX2_make_X7_gain : GoodIn wsX2_make (wsV RX2 26 RX7 yX7_gain wsX7_gain) := goodIn_app (goodIn_of _ (by decide +kernel)) ggX2_make_X7_gain
set_option maxRecDepth 20000 in
theorem ggX2_make_X2_leastTint : GoodIn wsX2_make wsX2_leastTint := goodIn_r _ [51, 52, 53, 50, 54] (by decide +kernel) (by decide +kernel)
set_option maxRecDepth 20000 in
theorem gX2_make_X2_leastTint : GoodIn wsX2_make (va_wsS RX2 32 yX2_leastTint wsX2_leastTint) := goodIn_app (goodIn_of _ (by decide +kernel)) ggX2_make_X2_leastTint
theorem dX2_make_0 : decode cX2_make 0 = .ok (.iconst 0, 1) := by decide +kernel
theorem dX2_make_1 : decode cX2_make 1 = .ok (.istore_n 3, 1) := by decide +kernel
theorem dX2_make_2 : decode cX2_make 2 = .ok (.iconst 0, 1) := by decide +kernel
theorem dX2_make_3 : decode cX2_make 3 = .ok (.istore 4, 2) := by decide +kernel
theorem dX2_make_5 : decode cX2_make 5 = .ok (.iload 4, 2) := by decide +kernel
theorem dX2_make_7 : decode cX2_make 7 = .ok (.iconst 4, 1) := by decide +kernel
theorem dX2_make_8 : decode cX2_make 8 = .ok (.if_icmp .ge 75, 3) := by decide +kernel
theorem dX2_make_11 : decode cX2_make 11 = .ok (.iconst 0, 1) := by decide +kernel
theorem dX2_make_12 : decode cX2_make 12 = .ok (.istore 5, 2) := by decide +kernel
theorem dX2_make_14 : decode cX2_make 14 = .ok (.iload 5, 2) := by decide +kernel
theorem dX2_make_16 : decode cX2_make 16 = .ok (.bipush 64, 2) := by decide +kernel
theorem dX2_make_18 : decode cX2_make 18 = .ok (.if_icmp .ge 59, 3) := by decide +kernel
theorem dX2_make_21 : decode cX2_make 21 = .ok (.aload_n 1, 1) := by decide +kernel
theorem dX2_make_22 : decode cX2_make 22 = .ok (.iload 5, 2) := by decide +kernel
theorem dX2_make_24 : decode cX2_make 24 = .ok (.iload 4, 2) := by decide +kernel
theorem dX2_make_26 : decode cX2_make 26 = .ok (.aload_n 2, 1) := by decide +kernel
theorem dX2_make_27 : decode cX2_make 27 = .ok (.invokevirtual 20, 3) := by decide +kernel
theorem dX2_make_30 : decode cX2_make 30 = .ok (.aload_n 2, 1) := by decide +kernel
theorem dX2_make_31 : decode cX2_make 31 = .ok (.iload 4, 2) := by decide +kernel
theorem dX2_make_33 : decode cX2_make 33 = .ok (.invokevirtual 26, 3) := by decide +kernel
theorem dX2_make_36 : decode cX2_make 36 = .ok (.invokestatic 32, 3) := by decide +kernel
theorem dX2_make_39 : decode cX2_make 39 = .ok (.istore 6, 2) := by decide +kernel
theorem dX2_make_41 : decode cX2_make 41 = .ok (.iload 6, 2) := by decide +kernel
theorem dX2_make_43 : decode cX2_make 43 = .ok (.aload_n 0, 1) := by decide +kernel
theorem dX2_make_44 : decode cX2_make 44 = .ok (.getfield 11, 3) := by decide +kernel
theorem dX2_make_47 : decode cX2_make 47 = .ok (.iload 4, 2) := by decide +kernel
theorem dX2_make_49 : decode cX2_make 49 = .ok (.aaload, 1) := by decide +kernel
theorem dX2_make_50 : decode cX2_make 50 = .ok (.iload 5, 2) := by decide +kernel
theorem dX2_make_52 : decode cX2_make 52 = .ok (.iaload, 1) := by decide +kernel
theorem dX2_make_53 : decode cX2_make 53 = .ok (.if_icmp .eq 18, 3) := by decide +kernel
theorem dX2_make_56 : decode cX2_make 56 = .ok (.aload_n 0, 1) := by decide +kernel
theorem dX2_make_57 : decode cX2_make 57 = .ok (.getfield 11, 3) := by decide +kernel
theorem dX2_make_60 : decode cX2_make 60 = .ok (.iload 4, 2) := by decide +kernel
theorem dX2_make_62 : decode cX2_make 62 = .ok (.aaload, 1) := by decide +kernel
theorem dX2_make_63 : decode cX2_make 63 = .ok (.iload 5, 2) := by decide +kernel
theorem dX2_make_65 : decode cX2_make 65 = .ok (.iload 6, 2) := by decide +kernel
theorem dX2_make_67 : decode cX2_make 67 = .ok (.iastore, 1) := by decide +kernel
theorem dX2_make_68 : decode cX2_make 68 = .ok (.iinc 3 1, 3) := by decide +kernel
theorem dX2_make_71 : decode cX2_make 71 = .ok (.iinc 5 1, 3) := by decide +kernel
theorem dX2_make_74 : decode cX2_make 74 = .ok (.goto (-60), 3) := by decide +kernel
theorem dX2_make_77 : decode cX2_make 77 = .ok (.iinc 4 1, 3) := by decide +kernel
theorem dX2_make_80 : decode cX2_make 80 = .ok (.goto (-75), 3) := by decide +kernel
theorem dX2_make_83 : decode cX2_make 83 = .ok (.iload_n 3, 1) := by decide +kernel
theorem dX2_make_84 : decode cX2_make 84 = .ok (.ireturn, 1) := by decide +kernel
theorem dX2_tint_0 : decode cX2_tint 0 = .ok (.aload_n 0, 1) := by decide +kernel
theorem dX2_tint_1 : decode cX2_tint 1 = .ok (.getfield 11, 3) := by decide +kernel
theorem dX2_tint_4 : decode cX2_tint 4 = .ok (.iload_n 2, 1) := by decide +kernel
theorem dX2_tint_5 : decode cX2_tint 5 = .ok (.aaload, 1) := by decide +kernel
theorem dX2_tint_6 : decode cX2_tint 6 = .ok (.iload_n 1, 1) := by decide +kernel
theorem dX2_tint_7 : decode cX2_tint 7 = .ok (.iaload, 1) := by decide +kernel
theorem dX2_tint_8 : decode cX2_tint 8 = .ok (.ireturn, 1) := by decide +kernel
set_option maxRecDepth 20000 in
theorem ggX2_printed_X7_gain : GoodIn wsX2_printed wsX7_gain := goodIn_r _ [6, 7, 13, 14, 15, 16, 17, 18] (by decide +kernel) (by decide +kernel)
set_option maxRecDepth 20000 in
theorem gX2_printed_X7_gain : GoodIn wsX2_printed (wsV RX2 26 RX7 yX7_gain wsX7_gain) := goodIn_app (goodIn_of _ (by decide +kernel)) ggX2_printed_X7_gain
set_option maxRecDepth 20000 in
theorem ggX2_printed_X2_curve : GoodIn wsX2_printed wsX2_curve := goodIn_r _ [11] (by decide +kernel) (by decide +kernel)
set_option maxRecDepth 20000 in
theorem gX2_printed_X2_curve : GoodIn wsX2_printed (va_wsS RX2 16 yX2_curve wsX2_curve) := goodIn_app (goodIn_of _ (by decide +kernel)) ggX2_printed_X2_curve
theorem dX2_printed_0 : decode cX2_printed 0 = .ok (.aload_n 0, 1) := by decide +kernel
theorem dX2_printed_1 : decode cX2_printed 1 = .ok (.getfield 11, 3) := by decide +kernel
theorem dX2_printed_4 : decode cX2_printed 4 = .ok (.iload_n 2, 1) := by decide +kernel
theorem dX2_printed_5 : decode cX2_printed 5 = .ok (.aaload, 1) := by decide +kernel
theorem dX2_printed_6 : decode cX2_printed 6 = .ok (.iload_n 1, 1) := by decide +kernel
theorem dX2_printed_7 : decode cX2_printed 7 = .ok (.iaload, 1) := by decide +kernel
theorem dX2_printed_8 : decode cX2_printed 8 = .ok (.aload_n 3, 1) := by decide +kernel
theorem dX2_printed_9 : decode cX2_printed 9 = .ok (.iload_n 2, 1) := by decide +kernel
theorem dX2_printed_10 : decode cX2_printed 10 = .ok (.invokevirtual 26, 3) := by decide +kernel
theorem dX2_printed_13 : decode cX2_printed 13 = .ok (.invokestatic 16, 3) := by decide +kernel
theorem dX2_printed_16 : decode cX2_printed 16 = .ok (.ireturn, 1) := by decide +kernel
theorem dX2_hasDot_0 : decode cX2_hasDot 0 = .ok (.iconst 0, 1) := by decide +kernel
theorem dX2_hasDot_1 : decode cX2_hasDot 1 = .ok (.istore_n 3, 1) := by decide +kernel
theorem dX2_hasDot_2 : decode cX2_hasDot 2 = .ok (.iconst 0, 1) := by decide +kernel
theorem dX2_hasDot_3 : decode cX2_hasDot 3 = .ok (.istore 4, 2) := by decide +kernel
theorem dX2_hasDot_5 : decode cX2_hasDot 5 = .ok (.iload_n 1, 1) := by decide +kernel
theorem dX2_hasDot_6 : decode cX2_hasDot 6 = .ok (.iload_n 1, 1) := by decide +kernel
theorem dX2_hasDot_7 : decode cX2_hasDot 7 = .ok (.bipush 8, 2) := by decide +kernel
theorem dX2_hasDot_9 : decode cX2_hasDot 9 = .ok (.irem, 1) := by decide +kernel
theorem dX2_hasDot_10 : decode cX2_hasDot 10 = .ok (.isub, 1) := by decide +kernel
theorem dX2_hasDot_11 : decode cX2_hasDot 11 = .ok (.istore 5, 2) := by decide +kernel
theorem dX2_hasDot_13 : decode cX2_hasDot 13 = .ok (.iload 5, 2) := by decide +kernel
theorem dX2_hasDot_15 : decode cX2_hasDot 15 = .ok (.iload_n 1, 1) := by decide +kernel
theorem dX2_hasDot_16 : decode cX2_hasDot 16 = .ok (.if_icmp .gt 43, 3) := by decide +kernel
theorem dX2_hasDot_19 : decode cX2_hasDot 19 = .ok (.iload 4, 2) := by decide +kernel
theorem dX2_hasDot_21 : decode cX2_hasDot 21 = .ok (.aload_n 0, 1) := by decide +kernel
theorem dX2_hasDot_22 : decode cX2_hasDot 22 = .ok (.getfield 11, 3) := by decide +kernel
theorem dX2_hasDot_25 : decode cX2_hasDot 25 = .ok (.iload_n 2, 1) := by decide +kernel
theorem dX2_hasDot_26 : decode cX2_hasDot 26 = .ok (.aaload, 1) := by decide +kernel
theorem dX2_hasDot_27 : decode cX2_hasDot 27 = .ok (.iload 5, 2) := by decide +kernel
theorem dX2_hasDot_29 : decode cX2_hasDot 29 = .ok (.iaload, 1) := by decide +kernel
theorem dX2_hasDot_30 : decode cX2_hasDot 30 = .ok (.iadd, 1) := by decide +kernel
theorem dX2_hasDot_31 : decode cX2_hasDot 31 = .ok (.istore 4, 2) := by decide +kernel
theorem dX2_hasDot_33 : decode cX2_hasDot 33 = .ok (.iload 4, 2) := by decide +kernel
theorem dX2_hasDot_35 : decode cX2_hasDot 35 = .ok (.bipush 50, 2) := by decide +kernel
theorem dX2_hasDot_37 : decode cX2_hasDot 37 = .ok (.if_icmp .lt 7, 3) := by decide +kernel
theorem dX2_hasDot_40 : decode cX2_hasDot 40 = .ok (.iconst 1, 1) := by decide +kernel
theorem dX2_hasDot_41 : decode cX2_hasDot 41 = .ok (.goto 4, 3) := by decide +kernel
theorem dX2_hasDot_44 : decode cX2_hasDot 44 = .ok (.iconst 0, 1) := by decide +kernel
theorem dX2_hasDot_45 : decode cX2_hasDot 45 = .ok (.istore_n 3, 1) := by decide +kernel
theorem dX2_hasDot_46 : decode cX2_hasDot 46 = .ok (.iload_n 3, 1) := by decide +kernel
theorem dX2_hasDot_47 : decode cX2_hasDot 47 = .ok (.ifCond .eq 6, 3) := by decide +kernel
theorem dX2_hasDot_50 : decode cX2_hasDot 50 = .ok (.iinc 4 (-100), 3) := by decide +kernel
theorem dX2_hasDot_53 : decode cX2_hasDot 53 = .ok (.iinc 5 1, 3) := by decide +kernel
theorem dX2_hasDot_56 : decode cX2_hasDot 56 = .ok (.goto (-43), 3) := by decide +kernel
theorem dX2_hasDot_59 : decode cX2_hasDot 59 = .ok (.iload_n 3, 1) := by decide +kernel
theorem dX2_hasDot_60 : decode cX2_hasDot 60 = .ok (.ireturn, 1) := by decide +kernel
theorem dX2_columnSum_0 : decode cX2_columnSum 0 = .ok (.iconst 0, 1) := by decide +kernel
theorem dX2_columnSum_1 : decode cX2_columnSum 1 = .ok (.istore_n 3, 1) := by decide +kernel
theorem dX2_columnSum_2 : decode cX2_columnSum 2 = .ok (.iconst 0, 1) := by decide +kernel
theorem dX2_columnSum_3 : decode cX2_columnSum 3 = .ok (.istore 4, 2) := by decide +kernel
theorem dX2_columnSum_5 : decode cX2_columnSum 5 = .ok (.iload 4, 2) := by decide +kernel
theorem dX2_columnSum_7 : decode cX2_columnSum 7 = .ok (.bipush 8, 2) := by decide +kernel
theorem dX2_columnSum_9 : decode cX2_columnSum 9 = .ok (.if_icmp .ge 26, 3) := by decide +kernel
theorem dX2_columnSum_12 : decode cX2_columnSum 12 = .ok (.iload_n 3, 1) := by decide +kernel
theorem dX2_columnSum_13 : decode cX2_columnSum 13 = .ok (.aload_n 0, 1) := by decide +kernel
theorem dX2_columnSum_14 : decode cX2_columnSum 14 = .ok (.getfield 11, 3) := by decide +kernel
theorem dX2_columnSum_17 : decode cX2_columnSum 17 = .ok (.iload_n 1, 1) := by decide +kernel
theorem dX2_columnSum_18 : decode cX2_columnSum 18 = .ok (.aaload, 1) := by decide +kernel
theorem dX2_columnSum_19 : decode cX2_columnSum 19 = .ok (.iload 4, 2) := by decide +kernel
theorem dX2_columnSum_21 : decode cX2_columnSum 21 = .ok (.bipush 8, 2) := by decide +kernel
theorem dX2_columnSum_23 : decode cX2_columnSum 23 = .ok (.imul, 1) := by decide +kernel
theorem dX2_columnSum_24 : decode cX2_columnSum 24 = .ok (.iload_n 2, 1) := by decide +kernel
theorem dX2_columnSum_25 : decode cX2_columnSum 25 = .ok (.iadd, 1) := by decide +kernel
theorem dX2_columnSum_26 : decode cX2_columnSum 26 = .ok (.iaload, 1) := by decide +kernel
theorem dX2_columnSum_27 : decode cX2_columnSum 27 = .ok (.iadd, 1) := by decide +kernel
theorem dX2_columnSum_28 : decode cX2_columnSum 28 = .ok (.istore_n 3, 1) := by decide +kernel
theorem dX2_columnSum_29 : decode cX2_columnSum 29 = .ok (.iinc 4 1, 3) := by decide +kernel
theorem dX2_columnSum_32 : decode cX2_columnSum 32 = .ok (.goto (-27), 3) := by decide +kernel
theorem dX2_columnSum_35 : decode cX2_columnSum 35 = .ok (.iload_n 3, 1) := by decide +kernel
theorem dX2_columnSum_36 : decode cX2_columnSum 36 = .ok (.ireturn, 1) := by decide +kernel
theorem dX3_init_0 : decode cX3_init 0 = .ok (.aload_n 0, 1) := by decide +kernel
theorem dX3_init_1 : decode cX3_init 1 = .ok (.invokespecial 3, 3) := by decide +kernel
theorem dX3_init_4 : decode cX3_init 4 = .ok (.aload_n 0, 1) := by decide +kernel
theorem dX3_init_5 : decode cX3_init 5 = .ok (.iconst 4, 1) := by decide +kernel
theorem dX3_init_6 : decode cX3_init 6 = .ok (.bipush 8, 2) := by decide +kernel
theorem dX3_init_8 : decode cX3_init 8 = .ok (.multianewarray 9 2, 4) := by decide +kernel
theorem dX3_init_12 : decode cX3_init 12 = .ok (.putfield 11, 3) := by decide +kernel
theorem dX3_init_15 : decode cX3_init 15 = .ok (.aload_n 0, 1) := by decide +kernel
theorem dX3_init_16 : decode cX3_init 16 = .ok (.iconst 0, 1) := by decide +kernel
theorem dX3_init_17 : decode cX3_init 17 = .ok (.putfield 16, 3) := by decide +kernel
theorem dX3_init_20 : decode cX3_init 20 = .ok (.aload_n 0, 1) := by decide +kernel
theorem dX3_init_21 : decode cX3_init 21 = .ok (.iconst 0, 1) := by decide +kernel
theorem dX3_init_22 : decode cX3_init 22 = .ok (.putfield 20, 3) := by decide +kernel
theorem dX3_init_25 : decode cX3_init 25 = .ok (.aload_n 0, 1) := by decide +kernel
theorem dX3_init_26 : decode cX3_init 26 = .ok (.iconst 0, 1) := by decide +kernel
theorem dX3_init_27 : decode cX3_init 27 = .ok (.putfield 23, 3) := by decide +kernel
theorem dX3_init_30 : decode cX3_init 30 = .ok (.aload_n 0, 1) := by decide +kernel
theorem dX3_init_31 : decode cX3_init 31 = .ok (.iconst 0, 1) := by decide +kernel
theorem dX3_init_32 : decode cX3_init 32 = .ok (.putfield 26, 3) := by decide +kernel
theorem dX3_init_35 : decode cX3_init 35 = .ok (.aload_n 0, 1) := by decide +kernel
theorem dX3_init_36 : decode cX3_init 36 = .ok (.iconst 0, 1) := by decide +kernel
theorem dX3_init_37 : decode cX3_init 37 = .ok (.putfield 29, 3) := by decide +kernel
theorem dX3_init_40 : decode cX3_init 40 = .ok (.iconst 0, 1) := by decide +kernel
theorem dX3_init_41 : decode cX3_init 41 = .ok (.istore_n 1, 1) := by decide +kernel
theorem dX3_init_42 : decode cX3_init 42 = .ok (.iload_n 1, 1) := by decide +kernel
theorem dX3_init_43 : decode cX3_init 43 = .ok (.iconst 4, 1) := by decide +kernel
theorem dX3_init_44 : decode cX3_init 44 = .ok (.if_icmp .ge 33, 3) := by decide +kernel
theorem dX3_init_47 : decode cX3_init 47 = .ok (.iconst 0, 1) := by decide +kernel
theorem dX3_init_48 : decode cX3_init 48 = .ok (.istore_n 2, 1) := by decide +kernel
theorem dX3_init_49 : decode cX3_init 49 = .ok (.iload_n 2, 1) := by decide +kernel
theorem dX3_init_50 : decode cX3_init 50 = .ok (.bipush 8, 2) := by decide +kernel
theorem dX3_init_52 : decode cX3_init 52 = .ok (.if_icmp .ge 19, 3) := by decide +kernel
theorem dX3_init_55 : decode cX3_init 55 = .ok (.aload_n 0, 1) := by decide +kernel
theorem dX3_init_56 : decode cX3_init 56 = .ok (.getfield 11, 3) := by decide +kernel
theorem dX3_init_59 : decode cX3_init 59 = .ok (.iload_n 1, 1) := by decide +kernel
theorem dX3_init_60 : decode cX3_init 60 = .ok (.aaload, 1) := by decide +kernel
theorem dX3_init_61 : decode cX3_init 61 = .ok (.iload_n 2, 1) := by decide +kernel
theorem dX3_init_62 : decode cX3_init 62 = .ok (.bipush 50, 2) := by decide +kernel
theorem dX3_init_64 : decode cX3_init 64 = .ok (.iastore, 1) := by decide +kernel
theorem dX3_init_65 : decode cX3_init 65 = .ok (.iinc 2 1, 3) := by decide +kernel
theorem dX3_init_68 : decode cX3_init 68 = .ok (.goto (-19), 3) := by decide +kernel
theorem dX3_init_71 : decode cX3_init 71 = .ok (.iinc 1 1, 3) := by decide +kernel
theorem dX3_init_74 : decode cX3_init 74 = .ok (.goto (-32), 3) := by decide +kernel
theorem dX3_init_77 : decode cX3_init 77 = .ok (.return_, 1) := by decide +kernel
theorem dX3_printed_0 : decode cX3_printed 0 = .ok (.aload_n 0, 1) := by decide +kernel
theorem dX3_printed_1 : decode cX3_printed 1 = .ok (.getfield 20, 3) := by decide +kernel
theorem dX3_printed_4 : decode cX3_printed 4 = .ok (.ireturn, 1) := by decide +kernel
theorem dX3_good_0 : decode cX3_good 0 = .ok (.aload_n 0, 1) := by decide +kernel
theorem dX3_good_1 : decode cX3_good 1 = .ok (.getfield 23, 3) := by decide +kernel
theorem dX3_good_4 : decode cX3_good 4 = .ok (.ireturn, 1) := by decide +kernel
theorem dX3_wasteByRegister_0 : decode cX3_wasteByRegister 0 = .ok (.aload_n 0, 1) := by decide +kernel
theorem dX3_wasteByRegister_1 : decode cX3_wasteByRegister 1 = .ok (.getfield 26, 3) := by decide +kernel
theorem dX3_wasteByRegister_4 : decode cX3_wasteByRegister 4 = .ok (.ireturn, 1) := by decide +kernel
theorem dX3_wasteByDensity_0 : decode cX3_wasteByDensity 0 = .ok (.aload_n 0, 1) := by decide +kernel
theorem dX3_wasteByDensity_1 : decode cX3_wasteByDensity 1 = .ok (.getfield 29, 3) := by decide +kernel
theorem dX3_wasteByDensity_4 : decode cX3_wasteByDensity 4 = .ok (.ireturn, 1) := by decide +kernel
theorem dX3_turnKey_0 : decode cX3_turnKey 0 = .ok (.aload_n 0, 1) := by decide +kernel
theorem dX3_turnKey_1 : decode cX3_turnKey 1 = .ok (.getfield 11, 3) := by decide +kernel
theorem dX3_turnKey_4 : decode cX3_turnKey 4 = .ok (.iload_n 1, 1) := by decide +kernel
theorem dX3_turnKey_5 : decode cX3_turnKey 5 = .ok (.aaload, 1) := by decide +kernel
theorem dX3_turnKey_6 : decode cX3_turnKey 6 = .ok (.iload_n 2, 1) := by decide +kernel
theorem dX3_turnKey_7 : decode cX3_turnKey 7 = .ok (.iaload, 1) := by decide +kernel
theorem dX3_turnKey_8 : decode cX3_turnKey 8 = .ok (.istore 4, 2) := by decide +kernel
theorem dX3_turnKey_10 : decode cX3_turnKey 10 = .ok (.aload_n 0, 1) := by decide +kernel
theorem dX3_turnKey_11 : decode cX3_turnKey 11 = .ok (.getfield 11, 3) := by decide +kernel
theorem dX3_turnKey_14 : decode cX3_turnKey 14 = .ok (.iload_n 1, 1) := by decide +kernel
theorem dX3_turnKey_15 : decode cX3_turnKey 15 = .ok (.aaload, 1) := by decide +kernel
theorem dX3_turnKey_16 : decode cX3_turnKey 16 = .ok (.iload_n 2, 1) := by decide +kernel
theorem dX3_turnKey_17 : decode cX3_turnKey 17 = .ok (.iload_n 3, 1) := by decide +kernel
theorem dX3_turnKey_18 : decode cX3_turnKey 18 = .ok (.iastore, 1) := by decide +kernel
theorem dX3_turnKey_19 : decode cX3_turnKey 19 = .ok (.iload 4, 2) := by decide +kernel
theorem dX3_turnKey_21 : decode cX3_turnKey 21 = .ok (.ireturn, 1) := by decide +kernel
theorem dX3_breakWeb_0 : decode cX3_breakWeb 0 = .ok (.aload_n 0, 1) := by decide +kernel
theorem dX3_breakWeb_1 : decode cX3_breakWeb 1 = .ok (.bipush 20, 2) := by decide +kernel
theorem dX3_breakWeb_3 : decode cX3_breakWeb 3 = .ok (.putfield 16, 3) := by decide +kernel
theorem dX3_breakWeb_6 : decode cX3_breakWeb 6 = .ok (.aload_n 0, 1) := by decide +kernel
theorem dX3_breakWeb_7 : decode cX3_breakWeb 7 = .ok (.getfield 16, 3) := by decide +kernel
theorem dX3_breakWeb_10 : decode cX3_breakWeb 10 = .ok (.ireturn, 1) := by decide +kernel
set_option maxRecDepth 20000 in
theorem ggX3_density_X2_columnSum : GoodIn wsX3_density wsX2_columnSum := goodIn_r _ [6, 7, 14] (by decide +kernel) (by decide +kernel)
set_option maxRecDepth 20000 in
theorem gX3_density_X2_columnSum : GoodIn wsX3_density (wsV RX3 32 RX2 yX2_columnSum wsX2_columnSum) := goodIn_app (goodIn_of _ (by decide +kernel)) ggX3_density_X2_columnSum
theorem dX3_density_0 : decode cX3_density 0 = .ok (.aload_n 3, 1) := by decide +kernel
theorem dX3_density_1 : decode cX3_density 1 = .ok (.iload_n 1, 1) := by decide +kernel
theorem dX3_density_2 : decode cX3_density 2 = .ok (.iload_n 2, 1) := by decide +kernel
theorem dX3_density_3 : decode cX3_density 3 = .ok (.invokevirtual 32, 3) := by decide +kernel
theorem dX3_density_6 : decode cX3_density 6 = .ok (.sipush 400, 3) := by decide +kernel
theorem dX3_density_9 : decode cX3_density 9 = .ok (.isub, 1) := by decide +kernel
theorem dX3_density_10 : decode cX3_density 10 = .ok (.bipush 8, 2) := by decide +kernel
theorem dX3_density_12 : decode cX3_density 12 = .ok (.idiv, 1) := by decide +kernel
theorem dX3_density_13 : decode cX3_density 13 = .ok (.istore 4, 2) := by decide +kernel
theorem dX3_density_15 : decode cX3_density 15 = .ok (.bipush 100, 2) := by decide +kernel
theorem dX3_density_17 : decode cX3_density 17 = .ok (.aload_n 0, 1) := by decide +kernel
theorem dX3_density_18 : decode cX3_density 18 = .ok (.getfield 11, 3) := by decide +kernel
theorem dX3_density_21 : decode cX3_density 21 = .ok (.iload_n 1, 1) := by decide +kernel
theorem dX3_density_22 : decode cX3_density 22 = .ok (.aaload, 1) := by decide +kernel
theorem dX3_density_23 : decode cX3_density 23 = .ok (.iload_n 2, 1) := by decide +kernel
theorem dX3_density_24 : decode cX3_density 24 = .ok (.iaload, 1) := by decide +kernel
theorem dX3_density_25 : decode cX3_density 25 = .ok (.iadd, 1) := by decide +kernel
theorem dX3_density_26 : decode cX3_density 26 = .ok (.bipush 50, 2) := by decide +kernel
theorem dX3_density_28 : decode cX3_density 28 = .ok (.isub, 1) := by decide +kernel
theorem dX3_density_29 : decode cX3_density 29 = .ok (.iload 4, 2) := by decide +kernel
theorem dX3_density_31 : decode cX3_density 31 = .ok (.bipush 10, 2) := by decide +kernel
theorem dX3_density_33 : decode cX3_density 33 = .ok (.idiv, 1) := by decide +kernel
theorem dX3_density_34 : decode cX3_density 34 = .ok (.isub, 1) := by decide +kernel
theorem dX3_density_35 : decode cX3_density 35 = .ok (.ireturn, 1) := by decide +kernel
set_option maxRecDepth 20000 in
theorem ggX3_densitiesRight_X3_density : GoodIn wsX3_densitiesRight wsX3_density := goodIn_r _ [5, 6, 7, 8, 9, 10, 11, 12, 13, 14, 15, 16, 17, 18, 19] (by decide +kernel) (by decide +kernel)
set_option maxRecDepth 20000 in
theorem gX3_densitiesRight_X3_density : GoodIn wsX3_densitiesRight (wsV RX3 38 RX3 yX3_density wsX3_density) := goodIn_app (goodIn_of _ (by decide +kernel)) ggX3_densitiesRight_X3_density
theorem dX3_densitiesRight_0 : decode cX3_densitiesRight 0 = .ok (.iconst 0, 1) := by decide +kernel
theorem dX3_densitiesRight_1 : decode cX3_densitiesRight 1 = .ok (.istore_n 2, 1) := by decide +kernel
theorem dX3_densitiesRight_2 : decode cX3_densitiesRight 2 = .ok (.iload_n 2, 1) := by decide +kernel
theorem dX3_densitiesRight_3 : decode cX3_densitiesRight 3 = .ok (.iconst 4, 1) := by decide +kernel
theorem dX3_densitiesRight_4 : decode cX3_densitiesRight 4 = .ok (.if_icmp .ge 48, 3) := by decide +kernel
theorem dX3_densitiesRight_7 : decode cX3_densitiesRight 7 = .ok (.iconst 0, 1) := by decide +kernel
theorem dX3_densitiesRight_8 : decode cX3_densitiesRight 8 = .ok (.istore_n 3, 1) := by decide +kernel
theorem dX3_densitiesRight_9 : decode cX3_densitiesRight 9 = .ok (.iload_n 3, 1) := by decide +kernel
theorem dX3_densitiesRight_10 : decode cX3_densitiesRight 10 = .ok (.bipush 8, 2) := by decide +kernel
theorem dX3_densitiesRight_12 : decode cX3_densitiesRight 12 = .ok (.if_icmp .ge 34, 3) := by decide +kernel
theorem dX3_densitiesRight_15 : decode cX3_densitiesRight 15 = .ok (.aload_n 0, 1) := by decide +kernel
theorem dX3_densitiesRight_16 : decode cX3_densitiesRight 16 = .ok (.iload_n 2, 1) := by decide +kernel
theorem dX3_densitiesRight_17 : decode cX3_densitiesRight 17 = .ok (.iload_n 3, 1) := by decide +kernel
theorem dX3_densitiesRight_18 : decode cX3_densitiesRight 18 = .ok (.aload_n 1, 1) := by decide +kernel
theorem dX3_densitiesRight_19 : decode cX3_densitiesRight 19 = .ok (.invokevirtual 38, 3) := by decide +kernel
theorem dX3_densitiesRight_22 : decode cX3_densitiesRight 22 = .ok (.istore 4, 2) := by decide +kernel
theorem dX3_densitiesRight_24 : decode cX3_densitiesRight 24 = .ok (.iload 4, 2) := by decide +kernel
theorem dX3_densitiesRight_26 : decode cX3_densitiesRight 26 = .ok (.bipush 90, 2) := by decide +kernel
theorem dX3_densitiesRight_28 : decode cX3_densitiesRight 28 = .ok (.if_icmp .lt 10, 3) := by decide +kernel
theorem dX3_densitiesRight_31 : decode cX3_densitiesRight 31 = .ok (.iload 4, 2) := by decide +kernel
theorem dX3_densitiesRight_33 : decode cX3_densitiesRight 33 = .ok (.bipush 110, 2) := by decide +kernel
theorem dX3_densitiesRight_35 : decode cX3_densitiesRight 35 = .ok (.if_icmp .le 5, 3) := by decide +kernel
theorem dX3_densitiesRight_38 : decode cX3_densitiesRight 38 = .ok (.iconst 0, 1) := by decide +kernel
theorem dX3_densitiesRight_39 : decode cX3_densitiesRight 39 = .ok (.ireturn, 1) := by decide +kernel
theorem dX3_densitiesRight_40 : decode cX3_densitiesRight 40 = .ok (.iinc 3 1, 3) := by decide +kernel
theorem dX3_densitiesRight_43 : decode cX3_densitiesRight 43 = .ok (.goto (-34), 3) := by decide +kernel
theorem dX3_densitiesRight_46 : decode cX3_densitiesRight 46 = .ok (.iinc 2 1, 3) := by decide +kernel
theorem dX3_densitiesRight_49 : decode cX3_densitiesRight 49 = .ok (.goto (-47), 3) := by decide +kernel
theorem dX3_densitiesRight_52 : decode cX3_densitiesRight 52 = .ok (.iconst 1, 1) := by decide +kernel
theorem dX3_densitiesRight_53 : decode cX3_densitiesRight 53 = .ok (.ireturn, 1) := by decide +kernel
set_option maxRecDepth 20000 in
theorem ggX3_run_X5_areRight : GoodIn wsX3_run wsX5_areRight := goodIn_r _ [6, 7, 8, 9, 10, 11, 12, 47, 48, 49, 50, 51, 52, 53, 54, 55] (by decide +kernel) (by decide +kernel)
set_option maxRecDepth 20000 in
theorem gX3_run_X5_areRight : GoodIn wsX3_run (wsV RX3 42 RX5 yX5_areRight wsX5_areRight) := goodIn_app (goodIn_of _ (by decide +kernel)) ggX3_run_X5_areRight
set_option maxRecDepth 20000 in
theorem ggX3_run_X3_judge : GoodIn wsX3_run wsX3_judge := goodIn_r _ [17, 18, 19, 20, 21, 41, 42, 43, 44, 45, 46] (by decide +kernel) (by decide +kernel)
set_option maxRecDepth 20000 in
theorem gX3_run_X3_judge : GoodIn wsX3_run (wsV RX3 48 RX3 yX3_judge wsX3_judge) := goodIn_app (goodIn_of _ (by decide +kernel)) ggX3_run_X3_judge
set_option maxRecDepth 20000 in
theorem ggX3_run_X5_follow : GoodIn wsX3_run wsX5_follow := goodIn_r _ [25, 26, 27, 28, 29, 30, 31, 32, 33, 34, 35, 5, 36, 7, 12, 37, 38, 39, 40, 47, 48, 49, 50, 51, 52, 53, 54, 55] (by decide +kernel) (by decide +kernel)
set_option maxRecDepth 20000 in
theorem gX3_run_X5_follow : GoodIn wsX3_run (wsV RX3 52 RX5 yX5_follow wsX5_follow) := goodIn_app (goodIn_of _ (by decide +kernel)) ggX3_run_X5_follow
theorem dX3_run_0 : decode cX3_run 0 = .ok (.aload_n 0, 1) := by decide +kernel
theorem dX3_run_1 : decode cX3_run 1 = .ok (.aload_n 1, 1) := by decide +kernel
theorem dX3_run_2 : decode cX3_run 2 = .ok (.iload_n 2, 1) := by decide +kernel
theorem dX3_run_3 : decode cX3_run 3 = .ok (.invokevirtual 42, 3) := by decide +kernel
theorem dX3_run_6 : decode cX3_run 6 = .ok (.iload_n 3, 1) := by decide +kernel
theorem dX3_run_7 : decode cX3_run 7 = .ok (.invokevirtual 48, 3) := by decide +kernel
theorem dX3_run_10 : decode cX3_run 10 = .ok (.istore 4, 2) := by decide +kernel
theorem dX3_run_12 : decode cX3_run 12 = .ok (.aload_n 0, 1) := by decide +kernel
theorem dX3_run_13 : decode cX3_run 13 = .ok (.dup, 1) := by decide +kernel
theorem dX3_run_14 : decode cX3_run 14 = .ok (.getfield 20, 3) := by decide +kernel
theorem dX3_run_17 : decode cX3_run 17 = .ok (.iconst 1, 1) := by decide +kernel
theorem dX3_run_18 : decode cX3_run 18 = .ok (.iadd, 1) := by decide +kernel
theorem dX3_run_19 : decode cX3_run 19 = .ok (.putfield 20, 3) := by decide +kernel
theorem dX3_run_22 : decode cX3_run 22 = .ok (.aload_n 1, 1) := by decide +kernel
theorem dX3_run_23 : decode cX3_run 23 = .ok (.aload_n 0, 1) := by decide +kernel
theorem dX3_run_24 : decode cX3_run 24 = .ok (.getfield 20, 3) := by decide +kernel
theorem dX3_run_27 : decode cX3_run 27 = .ok (.invokevirtual 52, 3) := by decide +kernel
theorem dX3_run_30 : decode cX3_run 30 = .ok (.iload 4, 2) := by decide +kernel
theorem dX3_run_32 : decode cX3_run 32 = .ok (.ireturn, 1) := by decide +kernel
theorem dX3_judge_0 : decode cX3_judge 0 = .ok (.aload_n 0, 1) := by decide +kernel
theorem dX3_judge_1 : decode cX3_judge 1 = .ok (.getfield 16, 3) := by decide +kernel
theorem dX3_judge_4 : decode cX3_judge 4 = .ok (.ifCond .le 15, 3) := by decide +kernel
theorem dX3_judge_7 : decode cX3_judge 7 = .ok (.aload_n 0, 1) := by decide +kernel
theorem dX3_judge_8 : decode cX3_judge 8 = .ok (.dup, 1) := by decide +kernel
theorem dX3_judge_9 : decode cX3_judge 9 = .ok (.getfield 16, 3) := by decide +kernel
theorem dX3_judge_12 : decode cX3_judge 12 = .ok (.iconst 1, 1) := by decide +kernel
theorem dX3_judge_13 : decode cX3_judge 13 = .ok (.isub, 1) := by decide +kernel
theorem dX3_judge_14 : decode cX3_judge 14 = .ok (.putfield 16, 3) := by decide +kernel
theorem dX3_judge_17 : decode cX3_judge 17 = .ok (.iconst 0, 1) := by decide +kernel
theorem dX3_judge_18 : decode cX3_judge 18 = .ok (.ireturn, 1) := by decide +kernel
theorem dX3_judge_19 : decode cX3_judge 19 = .ok (.iload_n 1, 1) := by decide +kernel
theorem dX3_judge_20 : decode cX3_judge 20 = .ok (.ifCond .ne 15, 3) := by decide +kernel
theorem dX3_judge_23 : decode cX3_judge 23 = .ok (.aload_n 0, 1) := by decide +kernel
theorem dX3_judge_24 : decode cX3_judge 24 = .ok (.dup, 1) := by decide +kernel
theorem dX3_judge_25 : decode cX3_judge 25 = .ok (.getfield 26, 3) := by decide +kernel
theorem dX3_judge_28 : decode cX3_judge 28 = .ok (.iconst 1, 1) := by decide +kernel
theorem dX3_judge_29 : decode cX3_judge 29 = .ok (.iadd, 1) := by decide +kernel
theorem dX3_judge_30 : decode cX3_judge 30 = .ok (.putfield 26, 3) := by decide +kernel
theorem dX3_judge_33 : decode cX3_judge 33 = .ok (.iconst 0, 1) := by decide +kernel
theorem dX3_judge_34 : decode cX3_judge 34 = .ok (.ireturn, 1) := by decide +kernel
theorem dX3_judge_35 : decode cX3_judge 35 = .ok (.iload_n 2, 1) := by decide +kernel
theorem dX3_judge_36 : decode cX3_judge 36 = .ok (.ifCond .ne 15, 3) := by decide +kernel
theorem dX3_judge_39 : decode cX3_judge 39 = .ok (.aload_n 0, 1) := by decide +kernel
theorem dX3_judge_40 : decode cX3_judge 40 = .ok (.dup, 1) := by decide +kernel
theorem dX3_judge_41 : decode cX3_judge 41 = .ok (.getfield 29, 3) := by decide +kernel
theorem dX3_judge_44 : decode cX3_judge 44 = .ok (.iconst 1, 1) := by decide +kernel
theorem dX3_judge_45 : decode cX3_judge 45 = .ok (.iadd, 1) := by decide +kernel
theorem dX3_judge_46 : decode cX3_judge 46 = .ok (.putfield 29, 3) := by decide +kernel
theorem dX3_judge_49 : decode cX3_judge 49 = .ok (.iconst 0, 1) := by decide +kernel
theorem dX3_judge_50 : decode cX3_judge 50 = .ok (.ireturn, 1) := by decide +kernel
theorem dX3_judge_51 : decode cX3_judge 51 = .ok (.aload_n 0, 1) := by decide +kernel
theorem dX3_judge_52 : decode cX3_judge 52 = .ok (.dup, 1) := by decide +kernel
theorem dX3_judge_53 : decode cX3_judge 53 = .ok (.getfield 23, 3) := by decide +kernel
theorem dX3_judge_56 : decode cX3_judge 56 = .ok (.iconst 1, 1) := by decide +kernel
theorem dX3_judge_57 : decode cX3_judge 57 = .ok (.iadd, 1) := by decide +kernel
theorem dX3_judge_58 : decode cX3_judge 58 = .ok (.putfield 23, 3) := by decide +kernel
theorem dX3_judge_61 : decode cX3_judge 61 = .ok (.iconst 1, 1) := by decide +kernel
theorem dX3_judge_62 : decode cX3_judge 62 = .ok (.ireturn, 1) := by decide +kernel
theorem dX4_init_0 : decode cX4_init 0 = .ok (.aload_n 0, 1) := by decide +kernel
theorem dX4_init_1 : decode cX4_init 1 = .ok (.invokespecial 3, 3) := by decide +kernel
theorem dX4_init_4 : decode cX4_init 4 = .ok (.aload_n 0, 1) := by decide +kernel
theorem dX4_init_5 : decode cX4_init 5 = .ok (.iconst 4, 1) := by decide +kernel
theorem dX4_init_6 : decode cX4_init 6 = .ok (.bipush 64, 2) := by decide +kernel
theorem dX4_init_8 : decode cX4_init 8 = .ok (.multianewarray 9 2, 4) := by decide +kernel
theorem dX4_init_12 : decode cX4_init 12 = .ok (.putfield 11, 3) := by decide +kernel
theorem dX4_init_15 : decode cX4_init 15 = .ok (.aload_n 0, 1) := by decide +kernel
theorem dX4_init_16 : decode cX4_init 16 = .ok (.iconst 0, 1) := by decide +kernel
theorem dX4_init_17 : decode cX4_init 17 = .ok (.putfield 16, 3) := by decide +kernel
theorem dX4_init_20 : decode cX4_init 20 = .ok (.return_, 1) := by decide +kernel
theorem dX4_isSigned_0 : decode cX4_isSigned 0 = .ok (.aload_n 0, 1) := by decide +kernel
theorem dX4_isSigned_1 : decode cX4_isSigned 1 = .ok (.getfield 16, 3) := by decide +kernel
theorem dX4_isSigned_4 : decode cX4_isSigned 4 = .ok (.ireturn, 1) := by decide +kernel
set_option maxRecDepth 20000 in
theorem ggX4_take_X2_printed : GoodIn wsX4_take wsX2_printed := goodIn_r _ [7, 8, 9, 10, 11, 12, 13, 14, 15, 16, 6, 17, 20, 21, 22, 23, 24, 25, 26] (by decide +kernel) (by decide +kernel)
set_option maxRecDepth 20000 in
theorem gX4_take_X2_printed : GoodIn wsX4_take (wsV RX4 20 RX2 yX2_printed wsX2_printed) := goodIn_app (goodIn_of _ (by decide +kernel)) ggX4_take_X2_printed
theorem dX4_take_0 : decode cX4_take 0 = .ok (.iconst 0, 1) := by decide +kernel
theorem dX4_take_1 : decode cX4_take 1 = .ok (.istore_n 3, 1) := by decide +kernel
theorem dX4_take_2 : decode cX4_take 2 = .ok (.iconst 0, 1) := by decide +kernel
theorem dX4_take_3 : decode cX4_take 3 = .ok (.istore 4, 2) := by decide +kernel
theorem dX4_take_5 : decode cX4_take 5 = .ok (.iload 4, 2) := by decide +kernel
theorem dX4_take_7 : decode cX4_take 7 = .ok (.iconst 4, 1) := by decide +kernel
theorem dX4_take_8 : decode cX4_take 8 = .ok (.if_icmp .ge 57, 3) := by decide +kernel
theorem dX4_take_11 : decode cX4_take 11 = .ok (.iconst 0, 1) := by decide +kernel
theorem dX4_take_12 : decode cX4_take 12 = .ok (.istore 5, 2) := by decide +kernel
theorem dX4_take_14 : decode cX4_take 14 = .ok (.iload 5, 2) := by decide +kernel
theorem dX4_take_16 : decode cX4_take 16 = .ok (.bipush 64, 2) := by decide +kernel
theorem dX4_take_18 : decode cX4_take 18 = .ok (.if_icmp .ge 41, 3) := by decide +kernel
theorem dX4_take_21 : decode cX4_take 21 = .ok (.aload_n 0, 1) := by decide +kernel
theorem dX4_take_22 : decode cX4_take 22 = .ok (.getfield 11, 3) := by decide +kernel
theorem dX4_take_25 : decode cX4_take 25 = .ok (.iload 4, 2) := by decide +kernel
theorem dX4_take_27 : decode cX4_take 27 = .ok (.aaload, 1) := by decide +kernel
theorem dX4_take_28 : decode cX4_take 28 = .ok (.iload 5, 2) := by decide +kernel
theorem dX4_take_30 : decode cX4_take 30 = .ok (.aload_n 1, 1) := by decide +kernel
theorem dX4_take_31 : decode cX4_take 31 = .ok (.iload 5, 2) := by decide +kernel
theorem dX4_take_33 : decode cX4_take 33 = .ok (.iload 4, 2) := by decide +kernel
theorem dX4_take_35 : decode cX4_take 35 = .ok (.aload_n 2, 1) := by decide +kernel
theorem dX4_take_36 : decode cX4_take 36 = .ok (.invokevirtual 20, 3) := by decide +kernel
theorem dX4_take_39 : decode cX4_take 39 = .ok (.iastore, 1) := by decide +kernel
theorem dX4_take_40 : decode cX4_take 40 = .ok (.iload_n 3, 1) := by decide +kernel
theorem dX4_take_41 : decode cX4_take 41 = .ok (.aload_n 0, 1) := by decide +kernel
theorem dX4_take_42 : decode cX4_take 42 = .ok (.getfield 11, 3) := by decide +kernel
theorem dX4_take_45 : decode cX4_take 45 = .ok (.iload 4, 2) := by decide +kernel
theorem dX4_take_47 : decode cX4_take 47 = .ok (.aaload, 1) := by decide +kernel
theorem dX4_take_48 : decode cX4_take 48 = .ok (.iload 5, 2) := by decide +kernel
theorem dX4_take_50 : decode cX4_take 50 = .ok (.iaload, 1) := by decide +kernel
theorem dX4_take_51 : decode cX4_take 51 = .ok (.iadd, 1) := by decide +kernel
theorem dX4_take_52 : decode cX4_take 52 = .ok (.istore_n 3, 1) := by decide +kernel
theorem dX4_take_53 : decode cX4_take 53 = .ok (.iinc 5 1, 3) := by decide +kernel
theorem dX4_take_56 : decode cX4_take 56 = .ok (.goto (-42), 3) := by decide +kernel
theorem dX4_take_59 : decode cX4_take 59 = .ok (.iinc 4 1, 3) := by decide +kernel
theorem dX4_take_62 : decode cX4_take 62 = .ok (.goto (-57), 3) := by decide +kernel
theorem dX4_take_65 : decode cX4_take 65 = .ok (.aload_n 0, 1) := by decide +kernel
theorem dX4_take_66 : decode cX4_take 66 = .ok (.iconst 1, 1) := by decide +kernel
theorem dX4_take_67 : decode cX4_take 67 = .ok (.putfield 16, 3) := by decide +kernel
theorem dX4_take_70 : decode cX4_take 70 = .ok (.iload_n 3, 1) := by decide +kernel
theorem dX4_take_71 : decode cX4_take 71 = .ok (.ireturn, 1) := by decide +kernel
set_option maxRecDepth 20000 in
theorem ggX4_difference_X2_printed : GoodIn wsX4_difference wsX2_printed := goodIn_r _ [10, 11, 12, 13, 14, 15, 16, 17, 18, 19, 9, 20, 23, 24, 25, 26, 27, 28, 29] (by decide +kernel) (by decide +kernel)
set_option maxRecDepth 20000 in
theorem gX4_difference_X2_printed : GoodIn wsX4_difference (wsV RX4 20 RX2 yX2_printed wsX2_printed) := goodIn_app (goodIn_of _ (by decide +kernel)) ggX4_difference_X2_printed
theorem dX4_difference_0 : decode cX4_difference 0 = .ok (.iconst 0, 1) := by decide +kernel
theorem dX4_difference_1 : decode cX4_difference 1 = .ok (.istore 4, 2) := by decide +kernel
theorem dX4_difference_3 : decode cX4_difference 3 = .ok (.iconst 0, 1) := by decide +kernel
theorem dX4_difference_4 : decode cX4_difference 4 = .ok (.istore 5, 2) := by decide +kernel
theorem dX4_difference_6 : decode cX4_difference 6 = .ok (.iload 5, 2) := by decide +kernel
theorem dX4_difference_8 : decode cX4_difference 8 = .ok (.iconst 4, 1) := by decide +kernel
theorem dX4_difference_9 : decode cX4_difference 9 = .ok (.if_icmp .ge 35, 3) := by decide +kernel
theorem dX4_difference_12 : decode cX4_difference 12 = .ok (.iload 4, 2) := by decide +kernel
theorem dX4_difference_14 : decode cX4_difference 14 = .ok (.aload_n 2, 1) := by decide +kernel
theorem dX4_difference_15 : decode cX4_difference 15 = .ok (.iload_n 1, 1) := by decide +kernel
theorem dX4_difference_16 : decode cX4_difference 16 = .ok (.iload 5, 2) := by decide +kernel
theorem dX4_difference_18 : decode cX4_difference 18 = .ok (.aload_n 3, 1) := by decide +kernel
theorem dX4_difference_19 : decode cX4_difference 19 = .ok (.invokevirtual 20, 3) := by decide +kernel
theorem dX4_difference_22 : decode cX4_difference 22 = .ok (.aload_n 0, 1) := by decide +kernel
theorem dX4_difference_23 : decode cX4_difference 23 = .ok (.getfield 11, 3) := by decide +kernel
theorem dX4_difference_26 : decode cX4_difference 26 = .ok (.iload 5, 2) := by decide +kernel
theorem dX4_difference_28 : decode cX4_difference 28 = .ok (.aaload, 1) := by decide +kernel
theorem dX4_difference_29 : decode cX4_difference 29 = .ok (.iload_n 1, 1) := by decide +kernel
theorem dX4_difference_30 : decode cX4_difference 30 = .ok (.iaload, 1) := by decide +kernel
theorem dX4_difference_31 : decode cX4_difference 31 = .ok (.isub, 1) := by decide +kernel
theorem dX4_difference_32 : decode cX4_difference 32 = .ok (.invokestatic 26, 3) := by decide +kernel
theorem dX4_difference_35 : decode cX4_difference 35 = .ok (.iadd, 1) := by decide +kernel
theorem dX4_difference_36 : decode cX4_difference 36 = .ok (.istore 4, 2) := by decide +kernel
theorem dX4_difference_38 : decode cX4_difference 38 = .ok (.iinc 5 1, 3) := by decide +kernel
theorem dX4_difference_41 : decode cX4_difference 41 = .ok (.goto (-35), 3) := by decide +kernel
theorem dX4_difference_44 : decode cX4_difference 44 = .ok (.iload 4, 2) := by decide +kernel
theorem dX4_difference_46 : decode cX4_difference 46 = .ok (.ireturn, 1) := by decide +kernel
theorem dX5_init_0 : decode cX5_init 0 = .ok (.aload_n 0, 1) := by decide +kernel
theorem dX5_init_1 : decode cX5_init 1 = .ok (.invokespecial 3, 3) := by decide +kernel
theorem dX5_init_4 : decode cX5_init 4 = .ok (.aload_n 0, 1) := by decide +kernel
theorem dX5_init_5 : decode cX5_init 5 = .ok (.iconst 4, 1) := by decide +kernel
theorem dX5_init_6 : decode cX5_init 6 = .ok (.newarray .int, 2) := by decide +kernel
theorem dX5_init_8 : decode cX5_init 8 = .ok (.putfield 9, 3) := by decide +kernel
theorem dX5_init_11 : decode cX5_init 11 = .ok (.aload_n 0, 1) := by decide +kernel
theorem dX5_init_12 : decode cX5_init 12 = .ok (.iconst 4, 1) := by decide +kernel
theorem dX5_init_13 : decode cX5_init 13 = .ok (.newarray .int, 2) := by decide +kernel
theorem dX5_init_15 : decode cX5_init 15 = .ok (.putfield 15, 3) := by decide +kernel
theorem dX5_init_18 : decode cX5_init 18 = .ok (.aload_n 0, 1) := by decide +kernel
theorem dX5_init_19 : decode cX5_init 19 = .ok (.iconst 4, 1) := by decide +kernel
theorem dX5_init_20 : decode cX5_init 20 = .ok (.newarray .int, 2) := by decide +kernel
theorem dX5_init_22 : decode cX5_init 22 = .ok (.putfield 18, 3) := by decide +kernel
theorem dX5_init_25 : decode cX5_init 25 = .ok (.aload_n 0, 1) := by decide +kernel
theorem dX5_init_26 : decode cX5_init 26 = .ok (.iconst 4, 1) := by decide +kernel
theorem dX5_init_27 : decode cX5_init 27 = .ok (.newarray .int, 2) := by decide +kernel
theorem dX5_init_29 : decode cX5_init 29 = .ok (.putfield 21, 3) := by decide +kernel
theorem dX5_init_32 : decode cX5_init 32 = .ok (.aload_n 0, 1) := by decide +kernel
theorem dX5_init_33 : decode cX5_init 33 = .ok (.bipush 20, 2) := by decide +kernel
theorem dX5_init_35 : decode cX5_init 35 = .ok (.newarray .int, 2) := by decide +kernel
theorem dX5_init_37 : decode cX5_init 37 = .ok (.putfield 24, 3) := by decide +kernel
theorem dX5_init_40 : decode cX5_init 40 = .ok (.aload_n 0, 1) := by decide +kernel
theorem dX5_init_41 : decode cX5_init 41 = .ok (.bipush 20, 2) := by decide +kernel
theorem dX5_init_43 : decode cX5_init 43 = .ok (.newarray .int, 2) := by decide +kernel
theorem dX5_init_45 : decode cX5_init 45 = .ok (.putfield 27, 3) := by decide +kernel
theorem dX5_init_48 : decode cX5_init 48 = .ok (.aload_n 0, 1) := by decide +kernel
theorem dX5_init_49 : decode cX5_init 49 = .ok (.bipush 20, 2) := by decide +kernel
theorem dX5_init_51 : decode cX5_init 51 = .ok (.newarray .int, 2) := by decide +kernel
theorem dX5_init_53 : decode cX5_init 53 = .ok (.putfield 30, 3) := by decide +kernel
theorem dX5_init_56 : decode cX5_init 56 = .ok (.aload_n 0, 1) := by decide +kernel
theorem dX5_init_57 : decode cX5_init 57 = .ok (.bipush 20, 2) := by decide +kernel
theorem dX5_init_59 : decode cX5_init 59 = .ok (.newarray .int, 2) := by decide +kernel
theorem dX5_init_61 : decode cX5_init 61 = .ok (.putfield 33, 3) := by decide +kernel
theorem dX5_init_64 : decode cX5_init 64 = .ok (.aload_n 0, 1) := by decide +kernel
theorem dX5_init_65 : decode cX5_init 65 = .ok (.iconst 0, 1) := by decide +kernel
theorem dX5_init_66 : decode cX5_init 66 = .ok (.putfield 36, 3) := by decide +kernel
theorem dX5_init_69 : decode cX5_init 69 = .ok (.return_, 1) := by decide +kernel
theorem dX5_x_0 : decode cX5_x 0 = .ok (.aload_n 0, 1) := by decide +kernel
theorem dX5_x_1 : decode cX5_x 1 = .ok (.getfield 9, 3) := by decide +kernel
theorem dX5_x_4 : decode cX5_x 4 = .ok (.iload_n 1, 1) := by decide +kernel
theorem dX5_x_5 : decode cX5_x 5 = .ok (.iaload, 1) := by decide +kernel
theorem dX5_x_6 : decode cX5_x 6 = .ok (.ireturn, 1) := by decide +kernel
theorem dX5_y_0 : decode cX5_y 0 = .ok (.aload_n 0, 1) := by decide +kernel
theorem dX5_y_1 : decode cX5_y 1 = .ok (.getfield 15, 3) := by decide +kernel
theorem dX5_y_4 : decode cX5_y 4 = .ok (.iload_n 1, 1) := by decide +kernel
theorem dX5_y_5 : decode cX5_y 5 = .ok (.iaload, 1) := by decide +kernel
theorem dX5_y_6 : decode cX5_y 6 = .ok (.ireturn, 1) := by decide +kernel
theorem dX5_toCome_0 : decode cX5_toCome 0 = .ok (.aload_n 0, 1) := by decide +kernel
theorem dX5_toCome_1 : decode cX5_toCome 1 = .ok (.getfield 36, 3) := by decide +kernel
theorem dX5_toCome_4 : decode cX5_toCome 4 = .ok (.ireturn, 1) := by decide +kernel
theorem dX5_setDrift_0 : decode cX5_setDrift 0 = .ok (.aload_n 0, 1) := by decide +kernel
theorem dX5_setDrift_1 : decode cX5_setDrift 1 = .ok (.getfield 18, 3) := by decide +kernel
theorem dX5_setDrift_4 : decode cX5_setDrift 4 = .ok (.iload_n 1, 1) := by decide +kernel
theorem dX5_setDrift_5 : decode cX5_setDrift 5 = .ok (.iload_n 2, 1) := by decide +kernel
theorem dX5_setDrift_6 : decode cX5_setDrift 6 = .ok (.iastore, 1) := by decide +kernel
theorem dX5_setDrift_7 : decode cX5_setDrift 7 = .ok (.aload_n 0, 1) := by decide +kernel
theorem dX5_setDrift_8 : decode cX5_setDrift 8 = .ok (.getfield 21, 3) := by decide +kernel
theorem dX5_setDrift_11 : decode cX5_setDrift 11 = .ok (.iload_n 1, 1) := by decide +kernel
theorem dX5_setDrift_12 : decode cX5_setDrift 12 = .ok (.iload_n 3, 1) := by decide +kernel
theorem dX5_setDrift_13 : decode cX5_setDrift 13 = .ok (.iastore, 1) := by decide +kernel
theorem dX5_setDrift_14 : decode cX5_setDrift 14 = .ok (.return_, 1) := by decide +kernel
theorem dX5_move_0 : decode cX5_move 0 = .ok (.aload_n 0, 1) := by decide +kernel
theorem dX5_move_1 : decode cX5_move 1 = .ok (.getfield 9, 3) := by decide +kernel
theorem dX5_move_4 : decode cX5_move 4 = .ok (.iload_n 1, 1) := by decide +kernel
theorem dX5_move_5 : decode cX5_move 5 = .ok (.dup2, 1) := by decide +kernel
theorem dX5_move_6 : decode cX5_move 6 = .ok (.iaload, 1) := by decide +kernel
theorem dX5_move_7 : decode cX5_move 7 = .ok (.iload_n 2, 1) := by decide +kernel
theorem dX5_move_8 : decode cX5_move 8 = .ok (.iadd, 1) := by decide +kernel
theorem dX5_move_9 : decode cX5_move 9 = .ok (.iastore, 1) := by decide +kernel
theorem dX5_move_10 : decode cX5_move 10 = .ok (.aload_n 0, 1) := by decide +kernel
theorem dX5_move_11 : decode cX5_move 11 = .ok (.getfield 15, 3) := by decide +kernel
theorem dX5_move_14 : decode cX5_move 14 = .ok (.iload_n 1, 1) := by decide +kernel
theorem dX5_move_15 : decode cX5_move 15 = .ok (.dup2, 1) := by decide +kernel
theorem dX5_move_16 : decode cX5_move 16 = .ok (.iaload, 1) := by decide +kernel
theorem dX5_move_17 : decode cX5_move 17 = .ok (.iload_n 3, 1) := by decide +kernel
theorem dX5_move_18 : decode cX5_move 18 = .ok (.iadd, 1) := by decide +kernel
theorem dX5_move_19 : decode cX5_move 19 = .ok (.iastore, 1) := by decide +kernel
theorem dX5_move_20 : decode cX5_move 20 = .ok (.return_, 1) := by decide +kernel
set_option maxRecDepth 20000 in
theorem ggX5_putOff_X5_keepAt : GoodIn wsX5_putOff wsX5_keepAt := goodIn_r _ [6, 7, 8, 9, 10, 11, 12, 13, 14, 15, 16, 17, 18, 19] (by decide +kernel) (by decide +kernel)
set_option maxRecDepth 20000 in
theorem gX5_putOff_X5_keepAt : GoodIn wsX5_putOff (wsV RX5 40 RX5 yX5_keepAt wsX5_keepAt) := goodIn_app (goodIn_of _ (by decide +kernel)) ggX5_putOff_X5_keepAt
theorem dX5_putOff_0 : decode cX5_putOff 0 = .ok (.aload_n 0, 1) := by decide +kernel
theorem dX5_putOff_1 : decode cX5_putOff 1 = .ok (.getfield 36, 3) := by decide +kernel
theorem dX5_putOff_4 : decode cX5_putOff 4 = .ok (.bipush 20, 2) := by decide +kernel
theorem dX5_putOff_6 : decode cX5_putOff 6 = .ok (.if_icmp .ge 26, 3) := by decide +kernel
theorem dX5_putOff_9 : decode cX5_putOff 9 = .ok (.aload_n 0, 1) := by decide +kernel
theorem dX5_putOff_10 : decode cX5_putOff 10 = .ok (.aload_n 0, 1) := by decide +kernel
theorem dX5_putOff_11 : decode cX5_putOff 11 = .ok (.getfield 36, 3) := by decide +kernel
theorem dX5_putOff_14 : decode cX5_putOff 14 = .ok (.iload_n 1, 1) := by decide +kernel
theorem dX5_putOff_15 : decode cX5_putOff 15 = .ok (.iload_n 2, 1) := by decide +kernel
theorem dX5_putOff_16 : decode cX5_putOff 16 = .ok (.iload_n 3, 1) := by decide +kernel
theorem dX5_putOff_17 : decode cX5_putOff 17 = .ok (.iload 4, 2) := by decide +kernel
theorem dX5_putOff_19 : decode cX5_putOff 19 = .ok (.invokevirtual 40, 3) := by decide +kernel
theorem dX5_putOff_22 : decode cX5_putOff 22 = .ok (.aload_n 0, 1) := by decide +kernel
theorem dX5_putOff_23 : decode cX5_putOff 23 = .ok (.dup, 1) := by decide +kernel
theorem dX5_putOff_24 : decode cX5_putOff 24 = .ok (.getfield 36, 3) := by decide +kernel
theorem dX5_putOff_27 : decode cX5_putOff 27 = .ok (.iconst 1, 1) := by decide +kernel
theorem dX5_putOff_28 : decode cX5_putOff 28 = .ok (.iadd, 1) := by decide +kernel
theorem dX5_putOff_29 : decode cX5_putOff 29 = .ok (.putfield 36, 3) := by decide +kernel
theorem dX5_putOff_32 : decode cX5_putOff 32 = .ok (.aload_n 0, 1) := by decide +kernel
theorem dX5_putOff_33 : decode cX5_putOff 33 = .ok (.getfield 36, 3) := by decide +kernel
theorem dX5_putOff_36 : decode cX5_putOff 36 = .ok (.ireturn, 1) := by decide +kernel
theorem dX5_keepAt_0 : decode cX5_keepAt 0 = .ok (.aload_n 0, 1) := by decide +kernel
theorem dX5_keepAt_1 : decode cX5_keepAt 1 = .ok (.getfield 24, 3) := by decide +kernel
theorem dX5_keepAt_4 : decode cX5_keepAt 4 = .ok (.iload_n 1, 1) := by decide +kernel
theorem dX5_keepAt_5 : decode cX5_keepAt 5 = .ok (.iload 5, 2) := by decide +kernel
theorem dX5_keepAt_7 : decode cX5_keepAt 7 = .ok (.iastore, 1) := by decide +kernel
theorem dX5_keepAt_8 : decode cX5_keepAt 8 = .ok (.aload_n 0, 1) := by decide +kernel
theorem dX5_keepAt_9 : decode cX5_keepAt 9 = .ok (.getfield 27, 3) := by decide +kernel
theorem dX5_keepAt_12 : decode cX5_keepAt 12 = .ok (.iload_n 1, 1) := by decide +kernel
theorem dX5_keepAt_13 : decode cX5_keepAt 13 = .ok (.iload_n 2, 1) := by decide +kernel
theorem dX5_keepAt_14 : decode cX5_keepAt 14 = .ok (.iastore, 1) := by decide +kernel
theorem dX5_keepAt_15 : decode cX5_keepAt 15 = .ok (.aload_n 0, 1) := by decide +kernel
theorem dX5_keepAt_16 : decode cX5_keepAt 16 = .ok (.getfield 30, 3) := by decide +kernel
theorem dX5_keepAt_19 : decode cX5_keepAt 19 = .ok (.iload_n 1, 1) := by decide +kernel
theorem dX5_keepAt_20 : decode cX5_keepAt 20 = .ok (.iload_n 3, 1) := by decide +kernel
theorem dX5_keepAt_21 : decode cX5_keepAt 21 = .ok (.iastore, 1) := by decide +kernel
theorem dX5_keepAt_22 : decode cX5_keepAt 22 = .ok (.aload_n 0, 1) := by decide +kernel
theorem dX5_keepAt_23 : decode cX5_keepAt 23 = .ok (.getfield 33, 3) := by decide +kernel
theorem dX5_keepAt_26 : decode cX5_keepAt 26 = .ok (.iload_n 1, 1) := by decide +kernel
theorem dX5_keepAt_27 : decode cX5_keepAt 27 = .ok (.iload 4, 2) := by decide +kernel
theorem dX5_keepAt_29 : decode cX5_keepAt 29 = .ok (.iastore, 1) := by decide +kernel
theorem dX5_keepAt_30 : decode cX5_keepAt 30 = .ok (.return_, 1) := by decide +kernel
theorem dX5_areRight_0 : decode cX5_areRight 0 = .ok (.iconst 0, 1) := by decide +kernel
theorem dX5_areRight_1 : decode cX5_areRight 1 = .ok (.istore_n 2, 1) := by decide +kernel
theorem dX5_areRight_2 : decode cX5_areRight 2 = .ok (.iload_n 2, 1) := by decide +kernel
theorem dX5_areRight_3 : decode cX5_areRight 3 = .ok (.iconst 4, 1) := by decide +kernel
theorem dX5_areRight_4 : decode cX5_areRight 4 = .ok (.if_icmp .ge 51, 3) := by decide +kernel
theorem dX5_areRight_7 : decode cX5_areRight 7 = .ok (.aload_n 0, 1) := by decide +kernel
theorem dX5_areRight_8 : decode cX5_areRight 8 = .ok (.getfield 9, 3) := by decide +kernel
theorem dX5_areRight_11 : decode cX5_areRight 11 = .ok (.iload_n 2, 1) := by decide +kernel
theorem dX5_areRight_12 : decode cX5_areRight 12 = .ok (.iaload, 1) := by decide +kernel
theorem dX5_areRight_13 : decode cX5_areRight 13 = .ok (.aload_n 0, 1) := by decide +kernel
theorem dX5_areRight_14 : decode cX5_areRight 14 = .ok (.getfield 9, 3) := by decide +kernel
theorem dX5_areRight_17 : decode cX5_areRight 17 = .ok (.iconst 3, 1) := by decide +kernel
theorem dX5_areRight_18 : decode cX5_areRight 18 = .ok (.iaload, 1) := by decide +kernel
theorem dX5_areRight_19 : decode cX5_areRight 19 = .ok (.isub, 1) := by decide +kernel
theorem dX5_areRight_20 : decode cX5_areRight 20 = .ok (.invokestatic 44, 3) := by decide +kernel
theorem dX5_areRight_23 : decode cX5_areRight 23 = .ok (.iload_n 1, 1) := by decide +kernel
theorem dX5_areRight_24 : decode cX5_areRight 24 = .ok (.if_icmp .gt 23, 3) := by decide +kernel
theorem dX5_areRight_27 : decode cX5_areRight 27 = .ok (.aload_n 0, 1) := by decide +kernel
theorem dX5_areRight_28 : decode cX5_areRight 28 = .ok (.getfield 15, 3) := by decide +kernel
theorem dX5_areRight_31 : decode cX5_areRight 31 = .ok (.iload_n 2, 1) := by decide +kernel
theorem dX5_areRight_32 : decode cX5_areRight 32 = .ok (.iaload, 1) := by decide +kernel
theorem dX5_areRight_33 : decode cX5_areRight 33 = .ok (.aload_n 0, 1) := by decide +kernel
theorem dX5_areRight_34 : decode cX5_areRight 34 = .ok (.getfield 15, 3) := by decide +kernel
theorem dX5_areRight_37 : decode cX5_areRight 37 = .ok (.iconst 3, 1) := by decide +kernel
theorem dX5_areRight_38 : decode cX5_areRight 38 = .ok (.iaload, 1) := by decide +kernel
theorem dX5_areRight_39 : decode cX5_areRight 39 = .ok (.isub, 1) := by decide +kernel
theorem dX5_areRight_40 : decode cX5_areRight 40 = .ok (.invokestatic 44, 3) := by decide +kernel
theorem dX5_areRight_43 : decode cX5_areRight 43 = .ok (.iload_n 1, 1) := by decide +kernel
theorem dX5_areRight_44 : decode cX5_areRight 44 = .ok (.if_icmp .le 5, 3) := by decide +kernel
theorem dX5_areRight_47 : decode cX5_areRight 47 = .ok (.iconst 0, 1) := by decide +kernel
theorem dX5_areRight_48 : decode cX5_areRight 48 = .ok (.ireturn, 1) := by decide +kernel
theorem dX5_areRight_49 : decode cX5_areRight 49 = .ok (.iinc 2 1, 3) := by decide +kernel
theorem dX5_areRight_52 : decode cX5_areRight 52 = .ok (.goto (-50), 3) := by decide +kernel
theorem dX5_areRight_55 : decode cX5_areRight 55 = .ok (.iconst 1, 1) := by decide +kernel
theorem dX5_areRight_56 : decode cX5_areRight 56 = .ok (.ireturn, 1) := by decide +kernel
set_option maxRecDepth 20000 in
theorem ggX5_follow_X5_move : GoodIn wsX5_follow wsX5_move := goodIn_r _ [12, 13, 14, 19, 20, 21, 22, 23, 24, 25, 26, 27] (by decide +kernel) (by decide +kernel)
set_option maxRecDepth 20000 in
theorem gX5_follow_X5_move : GoodIn wsX5_follow (wsV RX5 50 RX5 yX5_move wsX5_move) := goodIn_app (goodIn_of _ (by decide +kernel)) ggX5_follow_X5_move
set_option maxRecDepth 20000 in
theorem ggX5_follow_X5_keepAt : GoodIn wsX5_follow wsX5_keepAt := goodIn_r _ [18, 4, 5, 6, 7, 19, 20, 21, 22, 23, 24, 25, 26, 27] (by decide +kernel) (by decide +kernel)
set_option maxRecDepth 20000 in
theorem gX5_follow_X5_keepAt : GoodIn wsX5_follow (wsV RX5 40 RX5 yX5_keepAt wsX5_keepAt) := goodIn_app (goodIn_of _ (by decide +kernel)) ggX5_follow_X5_keepAt
theorem dX5_follow_0 : decode cX5_follow 0 = .ok (.iload_n 1, 1) := by decide +kernel
theorem dX5_follow_1 : decode cX5_follow 1 = .ok (.bipush 10, 2) := by decide +kernel
theorem dX5_follow_3 : decode cX5_follow 3 = .ok (.irem, 1) := by decide +kernel
theorem dX5_follow_4 : decode cX5_follow 4 = .ok (.ifCond .ne 33, 3) := by decide +kernel
theorem dX5_follow_7 : decode cX5_follow 7 = .ok (.iconst 0, 1) := by decide +kernel
theorem dX5_follow_8 : decode cX5_follow 8 = .ok (.istore_n 2, 1) := by decide +kernel
theorem dX5_follow_9 : decode cX5_follow 9 = .ok (.iload_n 2, 1) := by decide +kernel
theorem dX5_follow_10 : decode cX5_follow 10 = .ok (.iconst 4, 1) := by decide +kernel
theorem dX5_follow_11 : decode cX5_follow 11 = .ok (.if_icmp .ge 26, 3) := by decide +kernel
theorem dX5_follow_14 : decode cX5_follow 14 = .ok (.aload_n 0, 1) := by decide +kernel
theorem dX5_follow_15 : decode cX5_follow 15 = .ok (.iload_n 2, 1) := by decide +kernel
theorem dX5_follow_16 : decode cX5_follow 16 = .ok (.aload_n 0, 1) := by decide +kernel
theorem dX5_follow_17 : decode cX5_follow 17 = .ok (.getfield 18, 3) := by decide +kernel
theorem dX5_follow_20 : decode cX5_follow 20 = .ok (.iload_n 2, 1) := by decide +kernel
theorem dX5_follow_21 : decode cX5_follow 21 = .ok (.iaload, 1) := by decide +kernel
theorem dX5_follow_22 : decode cX5_follow 22 = .ok (.aload_n 0, 1) := by decide +kernel
theorem dX5_follow_23 : decode cX5_follow 23 = .ok (.getfield 21, 3) := by decide +kernel
theorem dX5_follow_26 : decode cX5_follow 26 = .ok (.iload_n 2, 1) := by decide +kernel
theorem dX5_follow_27 : decode cX5_follow 27 = .ok (.iaload, 1) := by decide +kernel
theorem dX5_follow_28 : decode cX5_follow 28 = .ok (.invokevirtual 50, 3) := by decide +kernel
theorem dX5_follow_31 : decode cX5_follow 31 = .ok (.iinc 2 1, 3) := by decide +kernel
theorem dX5_follow_34 : decode cX5_follow 34 = .ok (.goto (-25), 3) := by decide +kernel
theorem dX5_follow_37 : decode cX5_follow 37 = .ok (.iconst 0, 1) := by decide +kernel
theorem dX5_follow_38 : decode cX5_follow 38 = .ok (.istore_n 2, 1) := by decide +kernel
theorem dX5_follow_39 : decode cX5_follow 39 = .ok (.iconst 0, 1) := by decide +kernel
theorem dX5_follow_40 : decode cX5_follow 40 = .ok (.istore_n 3, 1) := by decide +kernel
theorem dX5_follow_41 : decode cX5_follow 41 = .ok (.iload_n 3, 1) := by decide +kernel
theorem dX5_follow_42 : decode cX5_follow 42 = .ok (.aload_n 0, 1) := by decide +kernel
theorem dX5_follow_43 : decode cX5_follow 43 = .ok (.getfield 36, 3) := by decide +kernel
theorem dX5_follow_46 : decode cX5_follow 46 = .ok (.if_icmp .ge 76, 3) := by decide +kernel
theorem dX5_follow_49 : decode cX5_follow 49 = .ok (.aload_n 0, 1) := by decide +kernel
theorem dX5_follow_50 : decode cX5_follow 50 = .ok (.getfield 24, 3) := by decide +kernel
theorem dX5_follow_53 : decode cX5_follow 53 = .ok (.iload_n 3, 1) := by decide +kernel
theorem dX5_follow_54 : decode cX5_follow 54 = .ok (.iaload, 1) := by decide +kernel
theorem dX5_follow_55 : decode cX5_follow 55 = .ok (.iload_n 1, 1) := by decide +kernel
theorem dX5_follow_56 : decode cX5_follow 56 = .ok (.if_icmp .gt 28, 3) := by decide +kernel
theorem dX5_follow_59 : decode cX5_follow 59 = .ok (.aload_n 0, 1) := by decide +kernel
theorem dX5_follow_60 : decode cX5_follow 60 = .ok (.aload_n 0, 1) := by decide +kernel
theorem dX5_follow_61 : decode cX5_follow 61 = .ok (.getfield 27, 3) := by decide +kernel
theorem dX5_follow_64 : decode cX5_follow 64 = .ok (.iload_n 3, 1) := by decide +kernel
theorem dX5_follow_65 : decode cX5_follow 65 = .ok (.iaload, 1) := by decide +kernel
theorem dX5_follow_66 : decode cX5_follow 66 = .ok (.aload_n 0, 1) := by decide +kernel
theorem dX5_follow_67 : decode cX5_follow 67 = .ok (.getfield 30, 3) := by decide +kernel
theorem dX5_follow_70 : decode cX5_follow 70 = .ok (.iload_n 3, 1) := by decide +kernel
theorem dX5_follow_71 : decode cX5_follow 71 = .ok (.iaload, 1) := by decide +kernel
theorem dX5_follow_72 : decode cX5_follow 72 = .ok (.aload_n 0, 1) := by decide +kernel
theorem dX5_follow_73 : decode cX5_follow 73 = .ok (.getfield 33, 3) := by decide +kernel
theorem dX5_follow_76 : decode cX5_follow 76 = .ok (.iload_n 3, 1) := by decide +kernel
theorem dX5_follow_77 : decode cX5_follow 77 = .ok (.iaload, 1) := by decide +kernel
theorem dX5_follow_78 : decode cX5_follow 78 = .ok (.invokevirtual 50, 3) := by decide +kernel
theorem dX5_follow_81 : decode cX5_follow 81 = .ok (.goto 35, 3) := by decide +kernel
theorem dX5_follow_84 : decode cX5_follow 84 = .ok (.aload_n 0, 1) := by decide +kernel
theorem dX5_follow_85 : decode cX5_follow 85 = .ok (.iload_n 2, 1) := by decide +kernel
theorem dX5_follow_86 : decode cX5_follow 86 = .ok (.aload_n 0, 1) := by decide +kernel
theorem dX5_follow_87 : decode cX5_follow 87 = .ok (.getfield 27, 3) := by decide +kernel
theorem dX5_follow_90 : decode cX5_follow 90 = .ok (.iload_n 3, 1) := by decide +kernel
theorem dX5_follow_91 : decode cX5_follow 91 = .ok (.iaload, 1) := by decide +kernel
theorem dX5_follow_92 : decode cX5_follow 92 = .ok (.aload_n 0, 1) := by decide +kernel
theorem dX5_follow_93 : decode cX5_follow 93 = .ok (.getfield 30, 3) := by decide +kernel
theorem dX5_follow_96 : decode cX5_follow 96 = .ok (.iload_n 3, 1) := by decide +kernel
theorem dX5_follow_97 : decode cX5_follow 97 = .ok (.iaload, 1) := by decide +kernel
theorem dX5_follow_98 : decode cX5_follow 98 = .ok (.aload_n 0, 1) := by decide +kernel
theorem dX5_follow_99 : decode cX5_follow 99 = .ok (.getfield 33, 3) := by decide +kernel
theorem dX5_follow_102 : decode cX5_follow 102 = .ok (.iload_n 3, 1) := by decide +kernel
theorem dX5_follow_103 : decode cX5_follow 103 = .ok (.iaload, 1) := by decide +kernel
theorem dX5_follow_104 : decode cX5_follow 104 = .ok (.aload_n 0, 1) := by decide +kernel
theorem dX5_follow_105 : decode cX5_follow 105 = .ok (.getfield 24, 3) := by decide +kernel
theorem dX5_follow_108 : decode cX5_follow 108 = .ok (.iload_n 3, 1) := by decide +kernel
theorem dX5_follow_109 : decode cX5_follow 109 = .ok (.iaload, 1) := by decide +kernel
theorem dX5_follow_110 : decode cX5_follow 110 = .ok (.invokevirtual 40, 3) := by decide +kernel
theorem dX5_follow_113 : decode cX5_follow 113 = .ok (.iinc 2 1, 3) := by decide +kernel
theorem dX5_follow_116 : decode cX5_follow 116 = .ok (.iinc 3 1, 3) := by decide +kernel
theorem dX5_follow_119 : decode cX5_follow 119 = .ok (.goto (-78), 3) := by decide +kernel
theorem dX5_follow_122 : decode cX5_follow 122 = .ok (.aload_n 0, 1) := by decide +kernel
theorem dX5_follow_123 : decode cX5_follow 123 = .ok (.iload_n 2, 1) := by decide +kernel
theorem dX5_follow_124 : decode cX5_follow 124 = .ok (.putfield 36, 3) := by decide +kernel
theorem dX5_follow_127 : decode cX5_follow 127 = .ok (.return_, 1) := by decide +kernel
