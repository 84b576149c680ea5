theorem dX7_init_0 : decode cX7_init 0 = .ok (.aload_n 0, 1) := by decide +kernel
theorem dX7_init_1 : decode cX7_init 1 = .ok (.invokespecial 3, 3) := by decide +kernel
theorem dX7_init_4 : decode cX7_init 4 = .ok (.aload_n 0, 1) := by decide +kernel
theorem dX7_init_5 : decode cX7_init 5 = .ok (.bipush 50, 2) := by decide +kernel
theorem dX7_init_7 : decode cX7_init 7 = .ok (.putfield 9, 3) := by decide +kernel
theorem dX7_init_10 : decode cX7_init 10 = .ok (.aload_n 0, 1) := by decide +kernel
theorem dX7_init_11 : decode cX7_init 11 = .ok (.sipush 300, 3) := by decide +kernel
theorem dX7_init_14 : decode cX7_init 14 = .ok (.putfield 15, 3) := by decide +kernel
theorem dX7_init_17 : decode cX7_init 17 = .ok (.aload_n 0, 1) := by decide +kernel
theorem dX7_init_18 : decode cX7_init 18 = .ok (.iconst 0, 1) := by decide +kernel
theorem dX7_init_19 : decode cX7_init 19 = .ok (.putfield 18, 3) := by decide +kernel
theorem dX7_init_22 : decode cX7_init 22 = .ok (.aload_n 0, 1) := by decide +kernel
theorem dX7_init_23 : decode cX7_init 23 = .ok (.iconst 2, 1) := by decide +kernel
theorem dX7_init_24 : decode cX7_init 24 = .ok (.putfield 22, 3) := by decide +kernel
theorem dX7_init_27 : decode cX7_init 27 = .ok (.aload_n 0, 1) := by decide +kernel
theorem dX7_init_28 : decode cX7_init 28 = .ok (.bipush 10, 2) := by decide +kernel
theorem dX7_init_30 : decode cX7_init 30 = .ok (.putfield 25, 3) := by decide +kernel
theorem dX7_init_33 : decode cX7_init 33 = .ok (.aload_n 0, 1) := by decide +kernel
theorem dX7_init_34 : decode cX7_init 34 = .ok (.iconst 4, 1) := by decide +kernel
theorem dX7_init_35 : decode cX7_init 35 = .ok (.newarray .int, 2) := by decide +kernel
theorem dX7_init_37 : decode cX7_init 37 = .ok (.putfield 28, 3) := by decide +kernel
theorem dX7_init_40 : decode cX7_init 40 = .ok (.iconst 0, 1) := by decide +kernel
theorem dX7_init_41 : decode cX7_init 41 = .ok (.istore_n 1, 1) := by decide +kernel
theorem dX7_init_42 : decode cX7_init 42 = .ok (.iload_n 1, 1) := by decide +kernel
theorem dX7_init_43 : decode cX7_init 43 = .ok (.iconst 4, 1) := by decide +kernel
theorem dX7_init_44 : decode cX7_init 44 = .ok (.if_icmp .ge 17, 3) := by decide +kernel
theorem dX7_init_47 : decode cX7_init 47 = .ok (.aload_n 0, 1) := by decide +kernel
theorem dX7_init_48 : decode cX7_init 48 = .ok (.getfield 28, 3) := by decide +kernel
theorem dX7_init_51 : decode cX7_init 51 = .ok (.iload_n 1, 1) := by decide +kernel
theorem dX7_init_52 : decode cX7_init 52 = .ok (.bipush 20, 2) := by decide +kernel
theorem dX7_init_54 : decode cX7_init 54 = .ok (.iastore, 1) := by decide +kernel
theorem dX7_init_55 : decode cX7_init 55 = .ok (.iinc 1 1, 3) := by decide +kernel
theorem dX7_init_58 : decode cX7_init 58 = .ok (.goto (-16), 3) := by decide +kernel
theorem dX7_init_61 : decode cX7_init 61 = .ok (.return_, 1) := by decide +kernel
theorem dX7_share_0 : decode cX7_share 0 = .ok (.aload_n 0, 1) := by decide +kernel
theorem dX7_share_1 : decode cX7_share 1 = .ok (.getfield 9, 3) := by decide +kernel
theorem dX7_share_4 : decode cX7_share 4 = .ok (.ireturn, 1) := by decide +kernel
theorem dX7_limit_0 : decode cX7_limit 0 = .ok (.aload_n 0, 1) := by decide +kernel
theorem dX7_limit_1 : decode cX7_limit 1 = .ok (.getfield 15, 3) := by decide +kernel
theorem dX7_limit_4 : decode cX7_limit 4 = .ok (.ireturn, 1) := by decide +kernel
theorem dX7_trap_0 : decode cX7_trap 0 = .ok (.aload_n 0, 1) := by decide +kernel
theorem dX7_trap_1 : decode cX7_trap 1 = .ok (.getfield 18, 3) := by decide +kernel
theorem dX7_trap_4 : decode cX7_trap 4 = .ok (.ireturn, 1) := by decide +kernel
theorem dX7_tolerance_0 : decode cX7_tolerance 0 = .ok (.aload_n 0, 1) := by decide +kernel
theorem dX7_tolerance_1 : decode cX7_tolerance 1 = .ok (.getfield 22, 3) := by decide +kernel
theorem dX7_tolerance_4 : decode cX7_tolerance 4 = .ok (.ireturn, 1) := by decide +kernel
theorem dX7_delay_0 : decode cX7_delay 0 = .ok (.aload_n 0, 1) := by decide +kernel
theorem dX7_delay_1 : decode cX7_delay 1 = .ok (.getfield 25, 3) := by decide +kernel
theorem dX7_delay_4 : decode cX7_delay 4 = .ok (.ireturn, 1) := by decide +kernel
theorem dX7_gain_0 : decode cX7_gain 0 = .ok (.aload_n 0, 1) := by decide +kernel
theorem dX7_gain_1 : decode cX7_gain 1 = .ok (.getfield 28, 3) := by decide +kernel
theorem dX7_gain_4 : decode cX7_gain 4 = .ok (.iload_n 1, 1) := by decide +kernel
theorem dX7_gain_5 : decode cX7_gain 5 = .ok (.iaload, 1) := by decide +kernel
theorem dX7_gain_6 : decode cX7_gain 6 = .ok (.ireturn, 1) := by decide +kernel
theorem dX7_setGain_0 : decode cX7_setGain 0 = .ok (.iload_n 1, 1) := by decide +kernel
theorem dX7_setGain_1 : decode cX7_setGain 1 = .ok (.ifCond .lt 15, 3) := by decide +kernel
theorem dX7_setGain_4 : decode cX7_setGain 4 = .ok (.iload_n 1, 1) := by decide +kernel
theorem dX7_setGain_5 : decode cX7_setGain 5 = .ok (.iconst 4, 1) := by decide +kernel
theorem dX7_setGain_6 : decode cX7_setGain 6 = .ok (.if_icmp .ge 10, 3) := by decide +kernel
theorem dX7_setGain_9 : decode cX7_setGain 9 = .ok (.aload_n 0, 1) := by decide +kernel
theorem dX7_setGain_10 : decode cX7_setGain 10 = .ok (.getfield 28, 3) := by decide +kernel
theorem dX7_setGain_13 : decode cX7_setGain 13 = .ok (.iload_n 1, 1) := by decide +kernel
theorem dX7_setGain_14 : decode cX7_setGain 14 = .ok (.iload_n 2, 1) := by decide +kernel
theorem dX7_setGain_15 : decode cX7_setGain 15 = .ok (.iastore, 1) := by decide +kernel
theorem dX7_setGain_16 : decode cX7_setGain 16 = .ok (.return_, 1) := by decide +kernel
theorem dX7_set_0 : decode cX7_set 0 = .ok (.aload_n 1, 1) := by decide +kernel
theorem dX7_set_1 : decode cX7_set 1 = .ok (.getstatic 32, 3) := by decide +kernel
theorem dX7_set_4 : decode cX7_set 4 = .ok (.if_acmp .ne 11, 3) := by decide +kernel
theorem dX7_set_7 : decode cX7_set 7 = .ok (.aload_n 0, 1) := by decide +kernel
theorem dX7_set_8 : decode cX7_set 8 = .ok (.iload_n 2, 1) := by decide +kernel
theorem dX7_set_9 : decode cX7_set 9 = .ok (.putfield 9, 3) := by decide +kernel
theorem dX7_set_12 : decode cX7_set 12 = .ok (.goto 69, 3) := by decide +kernel
theorem dX7_set_15 : decode cX7_set 15 = .ok (.aload_n 1, 1) := by decide +kernel
theorem dX7_set_16 : decode cX7_set 16 = .ok (.getstatic 38, 3) := by decide +kernel
theorem dX7_set_19 : decode cX7_set 19 = .ok (.if_acmp .ne 11, 3) := by decide +kernel
theorem dX7_set_22 : decode cX7_set 22 = .ok (.aload_n 0, 1) := by decide +kernel
theorem dX7_set_23 : decode cX7_set 23 = .ok (.iload_n 2, 1) := by decide +kernel
theorem dX7_set_24 : decode cX7_set 24 = .ok (.putfield 15, 3) := by decide +kernel
theorem dX7_set_27 : decode cX7_set 27 = .ok (.goto 54, 3) := by decide +kernel
theorem dX7_set_30 : decode cX7_set 30 = .ok (.aload_n 1, 1) := by decide +kernel
theorem dX7_set_31 : decode cX7_set 31 = .ok (.getstatic 41, 3) := by decide +kernel
theorem dX7_set_34 : decode cX7_set 34 = .ok (.if_acmp .ne 20, 3) := by decide +kernel
theorem dX7_set_37 : decode cX7_set 37 = .ok (.aload_n 0, 1) := by decide +kernel
theorem dX7_set_38 : decode cX7_set 38 = .ok (.iload_n 2, 1) := by decide +kernel
theorem dX7_set_39 : decode cX7_set 39 = .ok (.iconst 1, 1) := by decide +kernel
theorem dX7_set_40 : decode cX7_set 40 = .ok (.if_icmp .ne 7, 3) := by decide +kernel
theorem dX7_set_43 : decode cX7_set 43 = .ok (.iconst 1, 1) := by decide +kernel
theorem dX7_set_44 : decode cX7_set 44 = .ok (.goto 4, 3) := by decide +kernel
theorem dX7_set_47 : decode cX7_set 47 = .ok (.iconst 0, 1) := by decide +kernel
theorem dX7_set_48 : decode cX7_set 48 = .ok (.putfield 18, 3) := by decide +kernel
theorem dX7_set_51 : decode cX7_set 51 = .ok (.goto 30, 3) := by decide +kernel
theorem dX7_set_54 : decode cX7_set 54 = .ok (.aload_n 1, 1) := by decide +kernel
theorem dX7_set_55 : decode cX7_set 55 = .ok (.getstatic 44, 3) := by decide +kernel
theorem dX7_set_58 : decode cX7_set 58 = .ok (.if_acmp .ne 11, 3) := by decide +kernel
theorem dX7_set_61 : decode cX7_set 61 = .ok (.aload_n 0, 1) := by decide +kernel
theorem dX7_set_62 : decode cX7_set 62 = .ok (.iload_n 2, 1) := by decide +kernel
theorem dX7_set_63 : decode cX7_set 63 = .ok (.putfield 22, 3) := by decide +kernel
theorem dX7_set_66 : decode cX7_set 66 = .ok (.goto 15, 3) := by decide +kernel
theorem dX7_set_69 : decode cX7_set 69 = .ok (.aload_n 1, 1) := by decide +kernel
theorem dX7_set_70 : decode cX7_set 70 = .ok (.getstatic 47, 3) := by decide +kernel
theorem dX7_set_73 : decode cX7_set 73 = .ok (.if_acmp .ne 8, 3) := by decide +kernel
theorem dX7_set_76 : decode cX7_set 76 = .ok (.aload_n 0, 1) := by decide +kernel
theorem dX7_set_77 : decode cX7_set 77 = .ok (.iload_n 2, 1) := by decide +kernel
theorem dX7_set_78 : decode cX7_set 78 = .ok (.putfield 25, 3) := by decide +kernel
theorem dX7_set_81 : decode cX7_set 81 = .ok (.return_, 1) := by decide +kernel
theorem dX8_init_0 : decode cX8_init 0 = .ok (.aload_n 0, 1) := by decide +kernel
theorem dX8_init_1 : decode cX8_init 1 = .ok (.invokespecial 3, 3) := by decide +kernel
theorem dX8_init_4 : decode cX8_init 4 = .ok (.aload_n 0, 1) := by decide +kernel
theorem dX8_init_5 : decode cX8_init 5 = .ok (.bipush 60, 2) := by decide +kernel
theorem dX8_init_7 : decode cX8_init 7 = .ok (.newarray .char, 2) := by decide +kernel
theorem dX8_init_9 : decode cX8_init 9 = .ok (.putfield 9, 3) := by decide +kernel
theorem dX8_init_12 : decode cX8_init 12 = .ok (.aload_n 0, 1) := by decide +kernel
theorem dX8_init_13 : decode cX8_init 13 = .ok (.bipush 60, 2) := by decide +kernel
theorem dX8_init_15 : decode cX8_init 15 = .ok (.newarray .int, 2) := by decide +kernel
theorem dX8_init_17 : decode cX8_init 17 = .ok (.putfield 15, 3) := by decide +kernel
theorem dX8_init_20 : decode cX8_init 20 = .ok (.aload_n 0, 1) := by decide +kernel
theorem dX8_init_21 : decode cX8_init 21 = .ok (.bipush 60, 2) := by decide +kernel
theorem dX8_init_23 : decode cX8_init 23 = .ok (.newarray .int, 2) := by decide +kernel
theorem dX8_init_25 : decode cX8_init 25 = .ok (.putfield 19, 3) := by decide +kernel
theorem dX8_init_28 : decode cX8_init 28 = .ok (.aload_n 0, 1) := by decide +kernel
theorem dX8_init_29 : decode cX8_init 29 = .ok (.iconst 0, 1) := by decide +kernel
theorem dX8_init_30 : decode cX8_init 30 = .ok (.putfield 22, 3) := by decide +kernel
theorem dX8_init_33 : decode cX8_init 33 = .ok (.aload_n 0, 1) := by decide +kernel
theorem dX8_init_34 : decode cX8_init 34 = .ok (.iconst 0, 1) := by decide +kernel
theorem dX8_init_35 : decode cX8_init 35 = .ok (.putfield 26, 3) := by decide +kernel
theorem dX8_init_38 : decode cX8_init 38 = .ok (.return_, 1) := by decide +kernel
set_option maxRecDepth 20000 in
theorem ggX8_takes_X8_isFigure : GoodIn wsX8_takes wsX8_isFigure := goodIn_r _ [4] (by decide +kernel) (by decide +kernel)
set_option maxRecDepth 20000 in
theorem gX8_takes_X8_isFigure : GoodIn wsX8_takes (va_wsS RX8 29 yX8_isFigure wsX8_isFigure) := goodIn_app (goodIn_of _ (by decide +kernel)) ggX8_takes_X8_isFigure
theorem dX8_takes_0 : decode cX8_takes 0 = .ok (.iload_n 0, 1) := by decide +kernel
theorem dX8_takes_1 : decode cX8_takes 1 = .ok (.bipush 97, 2) := by decide +kernel
theorem dX8_takes_3 : decode cX8_takes 3 = .ok (.if_icmp .lt 9, 3) := by decide +kernel
theorem dX8_takes_6 : decode cX8_takes 6 = .ok (.iload_n 0, 1) := by decide +kernel
theorem dX8_takes_7 : decode cX8_takes 7 = .ok (.bipush 122, 2) := by decide +kernel
theorem dX8_takes_9 : decode cX8_takes 9 = .ok (.if_icmp .le 16, 3) := by decide +kernel
theorem dX8_takes_12 : decode cX8_takes 12 = .ok (.iload_n 0, 1) := by decide +kernel
theorem dX8_takes_13 : decode cX8_takes 13 = .ok (.invokestatic 29, 3) := by decide +kernel
theorem dX8_takes_16 : decode cX8_takes 16 = .ok (.ifCond .ne 9, 3) := by decide +kernel
theorem dX8_takes_19 : decode cX8_takes 19 = .ok (.iload_n 0, 1) := by decide +kernel
theorem dX8_takes_20 : decode cX8_takes 20 = .ok (.bipush 32, 2) := by decide +kernel
theorem dX8_takes_22 : decode cX8_takes 22 = .ok (.if_icmp .ne 7, 3) := by decide +kernel
theorem dX8_takes_25 : decode cX8_takes 25 = .ok (.iconst 1, 1) := by decide +kernel
theorem dX8_takes_26 : decode cX8_takes 26 = .ok (.goto 4, 3) := by decide +kernel
theorem dX8_takes_29 : decode cX8_takes 29 = .ok (.iconst 0, 1) := by decide +kernel
theorem dX8_takes_30 : decode cX8_takes 30 = .ok (.ireturn, 1) := by decide +kernel
theorem dX8_isFigure_0 : decode cX8_isFigure 0 = .ok (.iload_n 0, 1) := by decide +kernel
theorem dX8_isFigure_1 : decode cX8_isFigure 1 = .ok (.bipush 48, 2) := by decide +kernel
theorem dX8_isFigure_3 : decode cX8_isFigure 3 = .ok (.if_icmp .lt 13, 3) := by decide +kernel
theorem dX8_isFigure_6 : decode cX8_isFigure 6 = .ok (.iload_n 0, 1) := by decide +kernel
theorem dX8_isFigure_7 : decode cX8_isFigure 7 = .ok (.bipush 57, 2) := by decide +kernel
theorem dX8_isFigure_9 : decode cX8_isFigure 9 = .ok (.if_icmp .gt 7, 3) := by decide +kernel
theorem dX8_isFigure_12 : decode cX8_isFigure 12 = .ok (.iconst 1, 1) := by decide +kernel
theorem dX8_isFigure_13 : decode cX8_isFigure 13 = .ok (.goto 4, 3) := by decide +kernel
theorem dX8_isFigure_16 : decode cX8_isFigure 16 = .ok (.iconst 0, 1) := by decide +kernel
theorem dX8_isFigure_17 : decode cX8_isFigure 17 = .ok (.ireturn, 1) := by decide +kernel
theorem dX8_isFull_0 : decode cX8_isFull 0 = .ok (.aload_n 0, 1) := by decide +kernel
theorem dX8_isFull_1 : decode cX8_isFull 1 = .ok (.getfield 22, 3) := by decide +kernel
theorem dX8_isFull_4 : decode cX8_isFull 4 = .ok (.bipush 60, 2) := by decide +kernel
theorem dX8_isFull_6 : decode cX8_isFull 6 = .ok (.if_icmp .lt 7, 3) := by decide +kernel
theorem dX8_isFull_9 : decode cX8_isFull 9 = .ok (.iconst 1, 1) := by decide +kernel
theorem dX8_isFull_10 : decode cX8_isFull 10 = .ok (.goto 4, 3) := by decide +kernel
theorem dX8_isFull_13 : decode cX8_isFull 13 = .ok (.iconst 0, 1) := by decide +kernel
theorem dX8_isFull_14 : decode cX8_isFull 14 = .ok (.ireturn, 1) := by decide +kernel
theorem dX8_add_0 : decode cX8_add 0 = .ok (.aload_n 0, 1) := by decide +kernel
theorem dX8_add_1 : decode cX8_add 1 = .ok (.getfield 22, 3) := by decide +kernel
theorem dX8_add_4 : decode cX8_add 4 = .ok (.bipush 60, 2) := by decide +kernel
theorem dX8_add_6 : decode cX8_add 6 = .ok (.if_icmp .ge 23, 3) := by decide +kernel
theorem dX8_add_9 : decode cX8_add 9 = .ok (.aload_n 0, 1) := by decide +kernel
theorem dX8_add_10 : decode cX8_add 10 = .ok (.getfield 9, 3) := by decide +kernel
theorem dX8_add_13 : decode cX8_add 13 = .ok (.aload_n 0, 1) := by decide +kernel
theorem dX8_add_14 : decode cX8_add 14 = .ok (.getfield 22, 3) := by decide +kernel
theorem dX8_add_17 : decode cX8_add 17 = .ok (.iload_n 1, 1) := by decide +kernel
theorem dX8_add_18 : decode cX8_add 18 = .ok (.castore, 1) := by decide +kernel
theorem dX8_add_19 : decode cX8_add 19 = .ok (.aload_n 0, 1) := by decide +kernel
theorem dX8_add_20 : decode cX8_add 20 = .ok (.dup, 1) := by decide +kernel
theorem dX8_add_21 : decode cX8_add 21 = .ok (.getfield 22, 3) := by decide +kernel
theorem dX8_add_24 : decode cX8_add 24 = .ok (.iconst 1, 1) := by decide +kernel
theorem dX8_add_25 : decode cX8_add 25 = .ok (.iadd, 1) := by decide +kernel
theorem dX8_add_26 : decode cX8_add 26 = .ok (.putfield 22, 3) := by decide +kernel
theorem dX8_add_29 : decode cX8_add 29 = .ok (.aload_n 0, 1) := by decide +kernel
theorem dX8_add_30 : decode cX8_add 30 = .ok (.getfield 22, 3) := by decide +kernel
theorem dX8_add_33 : decode cX8_add 33 = .ok (.ireturn, 1) := by decide +kernel
set_option maxRecDepth 20000 in
theorem ggX8_carryOut_X8_split : GoodIn wsX8_carryOut wsX8_split := goodIn_r _ [6, 7, 1, 8, 9, 10, 11, 12, 5, 13, 14, 116, 117, 118, 119, 120] (by decide +kernel) (by decide +kernel)
set_option maxRecDepth 20000 in
theorem gX8_carryOut_X8_split : GoodIn wsX8_carryOut (wsV RX8 33 RX8 yX8_split wsX8_split) := goodIn_app (goodIn_of _ (by decide +kernel)) ggX8_carryOut_X8_split
set_option maxRecDepth 20000 in
theorem ggX8_carryOut_X8_checkParts : GoodIn wsX8_carryOut wsX8_checkParts := goodIn_r _ [18, 7, 19, 20, 21, 5, 22, 23, 24, 25, 26, 8, 9, 14, 27, 28, 29, 30, 31, 32, 33, 34, 35, 36, 37, 38, 39, 40, 41, 42, 43, 44, 45, 46, 47, 48, 49, 50, 51, 52, 53, 54, 55, 56, 57, 58, 59, 60, 61, 62, 63, 64, 65, 66, 67, 68, 69, 70, 71, 72, 73, 74, 75, 76, 77, 78, 79, 80, 81, 82, 83, 84, 85, 86, 87, 116, 117, 118, 119, 120] (by decide +kernel) (by decide +kernel)
set_option maxRecDepth 20000 in
theorem gX8_carryOut_X8_checkParts : GoodIn wsX8_carryOut (wsV RX8 36 RX8 yX8_checkParts wsX8_checkParts) := goodIn_app (goodIn_of _ (by decide +kernel)) ggX8_carryOut_X8_checkParts
set_option maxRecDepth 20000 in
theorem ggX8_carryOut_X8_setParts : GoodIn wsX8_carryOut wsX8_setParts := goodIn_r _ [91, 7, 19, 20, 21, 5, 22, 23, 24, 25, 26, 8, 9, 14, 27, 28, 29, 30, 31, 32, 33, 34, 35, 36, 37, 38, 39, 40, 41, 42, 43, 44, 45, 46, 47, 48, 49, 50, 51, 52, 53, 54, 55, 56, 57, 58, 59, 60, 61, 62, 63, 64, 65, 66, 67, 68, 69, 70, 71, 72, 73, 74, 75, 92, 93, 94, 95, 80, 81, 82, 83, 84, 85, 86, 87, 96, 97, 98, 99, 100, 101, 102, 103, 104, 105, 106, 107, 108, 109, 110, 111, 112, 113, 114, 115, 116, 117, 118, 119, 120, 121, 122, 123, 124, 125, 126] (by decide +kernel) (by decide +kernel)
set_option maxRecDepth 20000 in
theorem gX8_carryOut_X8_setParts : GoodIn wsX8_carryOut (wsV RX8 40 RX8 yX8_setParts wsX8_setParts) := goodIn_app (goodIn_of _ (by decide +kernel)) ggX8_carryOut_X8_setParts
theorem dX8_carryOut_0 : decode cX8_carryOut 0 = .ok (.aload_n 0, 1) := by decide +kernel
theorem dX8_carryOut_1 : decode cX8_carryOut 1 = .ok (.invokevirtual 33, 3) := by decide +kernel
theorem dX8_carryOut_4 : decode cX8_carryOut 4 = .ok (.aload_n 0, 1) := by decide +kernel
theorem dX8_carryOut_5 : decode cX8_carryOut 5 = .ok (.invokevirtual 36, 3) := by decide +kernel
theorem dX8_carryOut_8 : decode cX8_carryOut 8 = .ok (.istore_n 2, 1) := by decide +kernel
theorem dX8_carryOut_9 : decode cX8_carryOut 9 = .ok (.iload_n 2, 1) := by decide +kernel
theorem dX8_carryOut_10 : decode cX8_carryOut 10 = .ok (.ifCond .le 8, 3) := by decide +kernel
theorem dX8_carryOut_13 : decode cX8_carryOut 13 = .ok (.aload_n 0, 1) := by decide +kernel
theorem dX8_carryOut_14 : decode cX8_carryOut 14 = .ok (.aload_n 1, 1) := by decide +kernel
theorem dX8_carryOut_15 : decode cX8_carryOut 15 = .ok (.invokevirtual 40, 3) := by decide +kernel
theorem dX8_carryOut_18 : decode cX8_carryOut 18 = .ok (.aload_n 0, 1) := by decide +kernel
theorem dX8_carryOut_19 : decode cX8_carryOut 19 = .ok (.iconst 0, 1) := by decide +kernel
theorem dX8_carryOut_20 : decode cX8_carryOut 20 = .ok (.putfield 22, 3) := by decide +kernel
theorem dX8_carryOut_23 : decode cX8_carryOut 23 = .ok (.iload_n 2, 1) := by decide +kernel
theorem dX8_carryOut_24 : decode cX8_carryOut 24 = .ok (.ireturn, 1) := by decide +kernel
set_option maxRecDepth 20000 in
theorem ggX8_split_X8_isBlank : GoodIn wsX8_split wsX8_isBlank := goodIn_r _ [9, 2, 10, 11, 12, 13, 14, 15] (by decide +kernel) (by decide +kernel)
set_option maxRecDepth 20000 in
theorem gX8_split_X8_isBlank : GoodIn wsX8_split (wsV RX8 44 RX8 yX8_isBlank wsX8_isBlank) := goodIn_app (goodIn_of _ (by decide +kernel)) ggX8_split_X8_isBlank
theorem dX8_split_0 : decode cX8_split 0 = .ok (.aload_n 0, 1) := by decide +kernel
theorem dX8_split_1 : decode cX8_split 1 = .ok (.iconst 0, 1) := by decide +kernel
theorem dX8_split_2 : decode cX8_split 2 = .ok (.putfield 26, 3) := by decide +kernel
theorem dX8_split_5 : decode cX8_split 5 = .ok (.iconst 0, 1) := by decide +kernel
theorem dX8_split_6 : decode cX8_split 6 = .ok (.istore_n 1, 1) := by decide +kernel
theorem dX8_split_7 : decode cX8_split 7 = .ok (.iload_n 1, 1) := by decide +kernel
theorem dX8_split_8 : decode cX8_split 8 = .ok (.aload_n 0, 1) := by decide +kernel
theorem dX8_split_9 : decode cX8_split 9 = .ok (.getfield 22, 3) := by decide +kernel
theorem dX8_split_12 : decode cX8_split 12 = .ok (.if_icmp .ge 77, 3) := by decide +kernel
theorem dX8_split_15 : decode cX8_split 15 = .ok (.aload_n 0, 1) := by decide +kernel
theorem dX8_split_16 : decode cX8_split 16 = .ok (.iload_n 1, 1) := by decide +kernel
theorem dX8_split_17 : decode cX8_split 17 = .ok (.invokevirtual 44, 3) := by decide +kernel
theorem dX8_split_20 : decode cX8_split 20 = .ok (.ifCond .ne 23, 3) := by decide +kernel
theorem dX8_split_23 : decode cX8_split 23 = .ok (.aload_n 0, 1) := by decide +kernel
theorem dX8_split_24 : decode cX8_split 24 = .ok (.iload_n 1, 1) := by decide +kernel
theorem dX8_split_25 : decode cX8_split 25 = .ok (.iconst 1, 1) := by decide +kernel
theorem dX8_split_26 : decode cX8_split 26 = .ok (.isub, 1) := by decide +kernel
theorem dX8_split_27 : decode cX8_split 27 = .ok (.invokevirtual 44, 3) := by decide +kernel
theorem dX8_split_30 : decode cX8_split 30 = .ok (.ifCond .eq 13, 3) := by decide +kernel
theorem dX8_split_33 : decode cX8_split 33 = .ok (.aload_n 0, 1) := by decide +kernel
theorem dX8_split_34 : decode cX8_split 34 = .ok (.getfield 15, 3) := by decide +kernel
theorem dX8_split_37 : decode cX8_split 37 = .ok (.aload_n 0, 1) := by decide +kernel
theorem dX8_split_38 : decode cX8_split 38 = .ok (.getfield 26, 3) := by decide +kernel
theorem dX8_split_41 : decode cX8_split 41 = .ok (.iload_n 1, 1) := by decide +kernel
theorem dX8_split_42 : decode cX8_split 42 = .ok (.iastore, 1) := by decide +kernel
theorem dX8_split_43 : decode cX8_split 43 = .ok (.aload_n 0, 1) := by decide +kernel
theorem dX8_split_44 : decode cX8_split 44 = .ok (.iload_n 1, 1) := by decide +kernel
theorem dX8_split_45 : decode cX8_split 45 = .ok (.invokevirtual 44, 3) := by decide +kernel
theorem dX8_split_48 : decode cX8_split 48 = .ok (.ifCond .ne 35, 3) := by decide +kernel
theorem dX8_split_51 : decode cX8_split 51 = .ok (.aload_n 0, 1) := by decide +kernel
theorem dX8_split_52 : decode cX8_split 52 = .ok (.iload_n 1, 1) := by decide +kernel
theorem dX8_split_53 : decode cX8_split 53 = .ok (.iconst 1, 1) := by decide +kernel
theorem dX8_split_54 : decode cX8_split 54 = .ok (.iadd, 1) := by decide +kernel
theorem dX8_split_55 : decode cX8_split 55 = .ok (.invokevirtual 44, 3) := by decide +kernel
theorem dX8_split_58 : decode cX8_split 58 = .ok (.ifCond .eq 25, 3) := by decide +kernel
theorem dX8_split_61 : decode cX8_split 61 = .ok (.aload_n 0, 1) := by decide +kernel
theorem dX8_split_62 : decode cX8_split 62 = .ok (.getfield 19, 3) := by decide +kernel
theorem dX8_split_65 : decode cX8_split 65 = .ok (.aload_n 0, 1) := by decide +kernel
theorem dX8_split_66 : decode cX8_split 66 = .ok (.getfield 26, 3) := by decide +kernel
theorem dX8_split_69 : decode cX8_split 69 = .ok (.iload_n 1, 1) := by decide +kernel
theorem dX8_split_70 : decode cX8_split 70 = .ok (.iconst 1, 1) := by decide +kernel
theorem dX8_split_71 : decode cX8_split 71 = .ok (.iadd, 1) := by decide +kernel
theorem dX8_split_72 : decode cX8_split 72 = .ok (.iastore, 1) := by decide +kernel
theorem dX8_split_73 : decode cX8_split 73 = .ok (.aload_n 0, 1) := by decide +kernel
theorem dX8_split_74 : decode cX8_split 74 = .ok (.dup, 1) := by decide +kernel
theorem dX8_split_75 : decode cX8_split 75 = .ok (.getfield 26, 3) := by decide +kernel
theorem dX8_split_78 : decode cX8_split 78 = .ok (.iconst 1, 1) := by decide +kernel
theorem dX8_split_79 : decode cX8_split 79 = .ok (.iadd, 1) := by decide +kernel
theorem dX8_split_80 : decode cX8_split 80 = .ok (.putfield 26, 3) := by decide +kernel
theorem dX8_split_83 : decode cX8_split 83 = .ok (.iinc 1 1, 3) := by decide +kernel
theorem dX8_split_86 : decode cX8_split 86 = .ok (.goto (-79), 3) := by decide +kernel
theorem dX8_split_89 : decode cX8_split 89 = .ok (.return_, 1) := by decide +kernel
theorem dX8_isBlank_0 : decode cX8_isBlank 0 = .ok (.iload_n 1, 1) := by decide +kernel
theorem dX8_isBlank_1 : decode cX8_isBlank 1 = .ok (.ifCond .lt 22, 3) := by decide +kernel
theorem dX8_isBlank_4 : decode cX8_isBlank 4 = .ok (.iload_n 1, 1) := by decide +kernel
theorem dX8_isBlank_5 : decode cX8_isBlank 5 = .ok (.aload_n 0, 1) := by decide +kernel
theorem dX8_isBlank_6 : decode cX8_isBlank 6 = .ok (.getfield 22, 3) := by decide +kernel
theorem dX8_isBlank_9 : decode cX8_isBlank 9 = .ok (.if_icmp .ge 14, 3) := by decide +kernel
theorem dX8_isBlank_12 : decode cX8_isBlank 12 = .ok (.aload_n 0, 1) := by decide +kernel
theorem dX8_isBlank_13 : decode cX8_isBlank 13 = .ok (.getfield 9, 3) := by decide +kernel
theorem dX8_isBlank_16 : decode cX8_isBlank 16 = .ok (.iload_n 1, 1) := by decide +kernel
theorem dX8_isBlank_17 : decode cX8_isBlank 17 = .ok (.caload, 1) := by decide +kernel
theorem dX8_isBlank_18 : decode cX8_isBlank 18 = .ok (.bipush 32, 2) := by decide +kernel
theorem dX8_isBlank_20 : decode cX8_isBlank 20 = .ok (.if_icmp .ne 7, 3) := by decide +kernel
theorem dX8_isBlank_23 : decode cX8_isBlank 23 = .ok (.iconst 1, 1) := by decide +kernel
theorem dX8_isBlank_24 : decode cX8_isBlank 24 = .ok (.goto 4, 3) := by decide +kernel
theorem dX8_isBlank_27 : decode cX8_isBlank 27 = .ok (.iconst 0, 1) := by decide +kernel
theorem dX8_isBlank_28 : decode cX8_isBlank 28 = .ok (.ireturn, 1) := by decide +kernel
set_option maxRecDepth 20000 in
theorem ggX8_checkParts_X8_wordAt : GoodIn wsX8_checkParts wsX8_wordAt := goodIn_r _ [6, 7, 8, 9, 5, 10, 11, 12, 13, 14, 15, 16, 17, 18, 19, 20, 21, 22, 23, 24, 25, 26, 27, 28, 29, 30, 31, 32, 33, 34, 35, 36, 37, 38, 39, 40, 41, 42, 43, 44, 45, 46, 47, 48, 49, 50, 51, 52, 53, 54, 55, 56, 57, 58, 59, 60, 61, 62, 75, 76, 77, 78, 79] (by decide +kernel) (by decide +kernel)
set_option maxRecDepth 20000 in
theorem gX8_checkParts_X8_wordAt : GoodIn wsX8_checkParts (wsV RX8 48 RX8 yX8_wordAt wsX8_wordAt) := goodIn_app (goodIn_of _ (by decide +kernel)) ggX8_checkParts_X8_wordAt
set_option maxRecDepth 20000 in
theorem ggX8_checkParts_X8_hasRightNumbers : GoodIn wsX8_checkParts wsX8_hasRightNumbers := goodIn_r _ [66, 67, 68, 69, 70, 5, 71, 1, 12, 11, 13, 72, 73, 74, 75, 76, 77, 78, 79] (by decide +kernel) (by decide +kernel)
set_option maxRecDepth 20000 in
theorem gX8_checkParts_X8_hasRightNumbers : GoodIn wsX8_checkParts (wsV RX8 52 RX8 yX8_hasRightNumbers wsX8_hasRightNumbers) := goodIn_app (goodIn_of _ (by decide +kernel)) ggX8_checkParts_X8_hasRightNumbers
theorem dX8_checkParts_0 : decode cX8_checkParts 0 = .ok (.iconst 0, 1) := by decide +kernel
theorem dX8_checkParts_1 : decode cX8_checkParts 1 = .ok (.istore_n 1, 1) := by decide +kernel
theorem dX8_checkParts_2 : decode cX8_checkParts 2 = .ok (.iconst 0, 1) := by decide +kernel
theorem dX8_checkParts_3 : decode cX8_checkParts 3 = .ok (.istore_n 2, 1) := by decide +kernel
theorem dX8_checkParts_4 : decode cX8_checkParts 4 = .ok (.iconst 0, 1) := by decide +kernel
theorem dX8_checkParts_5 : decode cX8_checkParts 5 = .ok (.istore_n 3, 1) := by decide +kernel
theorem dX8_checkParts_6 : decode cX8_checkParts 6 = .ok (.iload_n 3, 1) := by decide +kernel
theorem dX8_checkParts_7 : decode cX8_checkParts 7 = .ok (.aload_n 0, 1) := by decide +kernel
theorem dX8_checkParts_8 : decode cX8_checkParts 8 = .ok (.getfield 26, 3) := by decide +kernel
theorem dX8_checkParts_11 : decode cX8_checkParts 11 = .ok (.if_icmp .ge 55, 3) := by decide +kernel
theorem dX8_checkParts_14 : decode cX8_checkParts 14 = .ok (.iload_n 2, 1) := by decide +kernel
theorem dX8_checkParts_15 : decode cX8_checkParts 15 = .ok (.ifCond .le 9, 3) := by decide +kernel
theorem dX8_checkParts_18 : decode cX8_checkParts 18 = .ok (.iinc 2 (-1), 3) := by decide +kernel
theorem dX8_checkParts_21 : decode cX8_checkParts 21 = .ok (.goto 39, 3) := by decide +kernel
theorem dX8_checkParts_24 : decode cX8_checkParts 24 = .ok (.aload_n 0, 1) := by decide +kernel
theorem dX8_checkParts_25 : decode cX8_checkParts 25 = .ok (.iload_n 3, 1) := by decide +kernel
theorem dX8_checkParts_26 : decode cX8_checkParts 26 = .ok (.invokevirtual 48, 3) := by decide +kernel
theorem dX8_checkParts_29 : decode cX8_checkParts 29 = .ok (.astore 4, 2) := by decide +kernel
theorem dX8_checkParts_31 : decode cX8_checkParts 31 = .ok (.aload 4, 2) := by decide +kernel
theorem dX8_checkParts_33 : decode cX8_checkParts 33 = .ok (.ifnull 13, 3) := by decide +kernel
theorem dX8_checkParts_36 : decode cX8_checkParts 36 = .ok (.aload_n 0, 1) := by decide +kernel
theorem dX8_checkParts_37 : decode cX8_checkParts 37 = .ok (.aload 4, 2) := by decide +kernel
theorem dX8_checkParts_39 : decode cX8_checkParts 39 = .ok (.iload_n 3, 1) := by decide +kernel
theorem dX8_checkParts_40 : decode cX8_checkParts 40 = .ok (.invokevirtual 52, 3) := by decide +kernel
theorem dX8_checkParts_43 : decode cX8_checkParts 43 = .ok (.ifCond .ne 8, 3) := by decide +kernel
theorem dX8_checkParts_46 : decode cX8_checkParts 46 = .ok (.iload_n 3, 1) := by decide +kernel
theorem dX8_checkParts_47 : decode cX8_checkParts 47 = .ok (.iconst 1, 1) := by decide +kernel
theorem dX8_checkParts_48 : decode cX8_checkParts 48 = .ok (.iadd, 1) := by decide +kernel
theorem dX8_checkParts_49 : decode cX8_checkParts 49 = .ok (.ineg, 1) := by decide +kernel
theorem dX8_checkParts_50 : decode cX8_checkParts 50 = .ok (.ireturn, 1) := by decide +kernel
theorem dX8_checkParts_51 : decode cX8_checkParts 51 = .ok (.aload 4, 2) := by decide +kernel
theorem dX8_checkParts_53 : decode cX8_checkParts 53 = .ok (.getfield 56, 3) := by decide +kernel
theorem dX8_checkParts_56 : decode cX8_checkParts 56 = .ok (.istore_n 2, 1) := by decide +kernel
theorem dX8_checkParts_57 : decode cX8_checkParts 57 = .ok (.iinc 1 1, 3) := by decide +kernel
theorem dX8_checkParts_60 : decode cX8_checkParts 60 = .ok (.iinc 3 1, 3) := by decide +kernel
theorem dX8_checkParts_63 : decode cX8_checkParts 63 = .ok (.goto (-57), 3) := by decide +kernel
theorem dX8_checkParts_66 : decode cX8_checkParts 66 = .ok (.iload_n 1, 1) := by decide +kernel
theorem dX8_checkParts_67 : decode cX8_checkParts 67 = .ok (.ireturn, 1) := by decide +kernel
set_option maxRecDepth 20000 in
theorem ggX8_setParts_X8_wordAt : GoodIn wsX8_setParts wsX8_wordAt := goodIn_r _ [6, 7, 8, 9, 5, 10, 11, 12, 13, 14, 15, 16, 17, 18, 19, 20, 21, 22, 23, 24, 25, 26, 27, 28, 29, 30, 31, 32, 33, 34, 35, 36, 37, 38, 39, 40, 41, 42, 43, 44, 45, 46, 47, 48, 49, 50, 51, 52, 53, 54, 55, 56, 57, 58, 59, 60, 61, 62, 95, 96, 97, 98, 99] (by decide +kernel) (by decide +kernel)
set_option maxRecDepth 20000 in
theorem gX8_setParts_X8_wordAt : GoodIn wsX8_setParts (wsV RX8 48 RX8 yX8_wordAt wsX8_wordAt) := goodIn_app (goodIn_of _ (by decide +kernel)) ggX8_setParts_X8_wordAt
set_option maxRecDepth 20000 in
theorem ggX8_setParts_X8_set : GoodIn wsX8_setParts wsX8_set := goodIn_r _ [66, 67, 68, 69, 70, 5, 71, 1, 12, 11, 13, 72, 73, 74, 75, 76, 77, 78, 79, 80, 81, 82, 83, 84, 85, 86, 87, 88, 89, 90, 91, 92, 93, 94, 95, 96, 97, 98, 99, 100, 101, 102, 103, 104, 105] (by decide +kernel) (by decide +kernel)
set_option maxRecDepth 20000 in
theorem gX8_setParts_X8_set : GoodIn wsX8_setParts (wsV RX8 61 RX8 yX8_set wsX8_set) := goodIn_app (goodIn_of _ (by decide +kernel)) ggX8_setParts_X8_set
theorem dX8_setParts_0 : decode cX8_setParts 0 = .ok (.iconst 0, 1) := by decide +kernel
theorem dX8_setParts_1 : decode cX8_setParts 1 = .ok (.istore_n 2, 1) := by decide +kernel
theorem dX8_setParts_2 : decode cX8_setParts 2 = .ok (.iload_n 2, 1) := by decide +kernel
theorem dX8_setParts_3 : decode cX8_setParts 3 = .ok (.aload_n 0, 1) := by decide +kernel
theorem dX8_setParts_4 : decode cX8_setParts 4 = .ok (.getfield 26, 3) := by decide +kernel
theorem dX8_setParts_7 : decode cX8_setParts 7 = .ok (.if_icmp .ge 26, 3) := by decide +kernel
theorem dX8_setParts_10 : decode cX8_setParts 10 = .ok (.aload_n 0, 1) := by decide +kernel
theorem dX8_setParts_11 : decode cX8_setParts 11 = .ok (.iload_n 2, 1) := by decide +kernel
theorem dX8_setParts_12 : decode cX8_setParts 12 = .ok (.invokevirtual 48, 3) := by decide +kernel
theorem dX8_setParts_15 : decode cX8_setParts 15 = .ok (.astore_n 3, 1) := by decide +kernel
theorem dX8_setParts_16 : decode cX8_setParts 16 = .ok (.aload_n 3, 1) := by decide +kernel
theorem dX8_setParts_17 : decode cX8_setParts 17 = .ok (.ifnull 10, 3) := by decide +kernel
theorem dX8_setParts_20 : decode cX8_setParts 20 = .ok (.aload_n 0, 1) := by decide +kernel
theorem dX8_setParts_21 : decode cX8_setParts 21 = .ok (.aload_n 1, 1) := by decide +kernel
theorem dX8_setParts_22 : decode cX8_setParts 22 = .ok (.aload_n 3, 1) := by decide +kernel
theorem dX8_setParts_23 : decode cX8_setParts 23 = .ok (.iload_n 2, 1) := by decide +kernel
theorem dX8_setParts_24 : decode cX8_setParts 24 = .ok (.invokevirtual 61, 3) := by decide +kernel
theorem dX8_setParts_27 : decode cX8_setParts 27 = .ok (.iinc 2 1, 3) := by decide +kernel
theorem dX8_setParts_30 : decode cX8_setParts 30 = .ok (.goto (-28), 3) := by decide +kernel
theorem dX8_setParts_33 : decode cX8_setParts 33 = .ok (.return_, 1) := by decide +kernel
set_option maxRecDepth 20000 in
theorem ggX8_set_X8_numberAt : GoodIn wsX8_set wsX8_numberAt := goodIn_r _ [6, 7, 8, 9, 10, 11, 12, 5, 13, 34, 35, 36, 37, 38] (by decide +kernel) (by decide +kernel)
set_option maxRecDepth 20000 in
theorem gX8_set_X8_numberAt : GoodIn wsX8_set (wsV RX8 65 RX8 yX8_numberAt wsX8_numberAt) := goodIn_app (goodIn_of _ (by decide +kernel)) ggX8_set_X8_numberAt
set_option maxRecDepth 20000 in
theorem ggX8_set_X7_setGain : GoodIn wsX8_set wsX7_setGain := goodIn_r _ [18, 19, 39, 40, 41, 42, 43, 44] (by decide +kernel) (by decide +kernel)
set_option maxRecDepth 20000 in
theorem gX8_set_X7_setGain : GoodIn wsX8_set (wsV RX8 73 RX7 yX7_setGain wsX7_setGain) := goodIn_app (goodIn_of _ (by decide +kernel)) ggX8_set_X7_setGain
set_option maxRecDepth 20000 in
theorem ggX8_set_X7_set : GoodIn wsX8_set wsX7_set := goodIn_r _ [23, 24, 25, 26, 27, 28, 29, 30, 31, 32, 33, 39, 40, 41, 42, 43, 44] (by decide +kernel) (by decide +kernel)
set_option maxRecDepth 20000 in
theorem gX8_set_X7_set : GoodIn wsX8_set (wsV RX8 79 RX7 yX7_set wsX7_set) := goodIn_app (goodIn_of _ (by decide +kernel)) ggX8_set_X7_set
theorem dX8_set_0 : decode cX8_set 0 = .ok (.aload_n 0, 1) := by decide +kernel
theorem dX8_set_1 : decode cX8_set 1 = .ok (.iload_n 3, 1) := by decide +kernel
theorem dX8_set_2 : decode cX8_set 2 = .ok (.aload_n 2, 1) := by decide +kernel
theorem dX8_set_3 : decode cX8_set 3 = .ok (.getfield 56, 3) := by decide +kernel
theorem dX8_set_6 : decode cX8_set 6 = .ok (.iadd, 1) := by decide +kernel
theorem dX8_set_7 : decode cX8_set 7 = .ok (.invokevirtual 65, 3) := by decide +kernel
theorem dX8_set_10 : decode cX8_set 10 = .ok (.istore 4, 2) := by decide +kernel
theorem dX8_set_12 : decode cX8_set 12 = .ok (.aload_n 2, 1) := by decide +kernel
theorem dX8_set_13 : decode cX8_set 13 = .ok (.getstatic 69, 3) := by decide +kernel
theorem dX8_set_16 : decode cX8_set 16 = .ok (.if_acmp .ne 19, 3) := by decide +kernel
theorem dX8_set_19 : decode cX8_set 19 = .ok (.aload_n 1, 1) := by decide +kernel
theorem dX8_set_20 : decode cX8_set 20 = .ok (.aload_n 0, 1) := by decide +kernel
theorem dX8_set_21 : decode cX8_set 21 = .ok (.iload_n 3, 1) := by decide +kernel
theorem dX8_set_22 : decode cX8_set 22 = .ok (.iconst 1, 1) := by decide +kernel
theorem dX8_set_23 : decode cX8_set 23 = .ok (.iadd, 1) := by decide +kernel
theorem dX8_set_24 : decode cX8_set 24 = .ok (.invokevirtual 65, 3) := by decide +kernel
theorem dX8_set_27 : decode cX8_set 27 = .ok (.iload 4, 2) := by decide +kernel
theorem dX8_set_29 : decode cX8_set 29 = .ok (.invokevirtual 73, 3) := by decide +kernel
theorem dX8_set_32 : decode cX8_set 32 = .ok (.goto 10, 3) := by decide +kernel
theorem dX8_set_35 : decode cX8_set 35 = .ok (.aload_n 1, 1) := by decide +kernel
theorem dX8_set_36 : decode cX8_set 36 = .ok (.aload_n 2, 1) := by decide +kernel
theorem dX8_set_37 : decode cX8_set 37 = .ok (.iload 4, 2) := by decide +kernel
theorem dX8_set_39 : decode cX8_set 39 = .ok (.invokevirtual 79, 3) := by decide +kernel
theorem dX8_set_42 : decode cX8_set 42 = .ok (.return_, 1) := by decide +kernel
set_option maxRecDepth 20000 in
theorem ggX8_hasRightNumbers_X8_numberAt : GoodIn wsX8_hasRightNumbers wsX8_numberAt := goodIn_r _ [6, 7, 8, 9, 10, 11, 12, 5, 13, 14, 15, 16, 17, 18] (by decide +kernel) (by decide +kernel)
set_option maxRecDepth 20000 in
theorem gX8_hasRightNumbers_X8_numberAt : GoodIn wsX8_hasRightNumbers (wsV RX8 65 RX8 yX8_numberAt wsX8_numberAt) := goodIn_app (goodIn_of _ (by decide +kernel)) ggX8_hasRightNumbers_X8_numberAt
theorem dX8_hasRightNumbers_0 : decode cX8_hasRightNumbers 0 = .ok (.aload_n 1, 1) := by decide +kernel
theorem dX8_hasRightNumbers_1 : decode cX8_hasRightNumbers 1 = .ok (.getstatic 69, 3) := by decide +kernel
theorem dX8_hasRightNumbers_4 : decode cX8_hasRightNumbers 4 = .ok (.if_acmp .ne 22, 3) := by decide +kernel
theorem dX8_hasRightNumbers_7 : decode cX8_hasRightNumbers 7 = .ok (.aload_n 0, 1) := by decide +kernel
theorem dX8_hasRightNumbers_8 : decode cX8_hasRightNumbers 8 = .ok (.iload_n 2, 1) := by decide +kernel
theorem dX8_hasRightNumbers_9 : decode cX8_hasRightNumbers 9 = .ok (.iconst 1, 1) := by decide +kernel
theorem dX8_hasRightNumbers_10 : decode cX8_hasRightNumbers 10 = .ok (.iadd, 1) := by decide +kernel
theorem dX8_hasRightNumbers_11 : decode cX8_hasRightNumbers 11 = .ok (.invokevirtual 65, 3) := by decide +kernel
theorem dX8_hasRightNumbers_14 : decode cX8_hasRightNumbers 14 = .ok (.istore_n 3, 1) := by decide +kernel
theorem dX8_hasRightNumbers_15 : decode cX8_hasRightNumbers 15 = .ok (.iload_n 3, 1) := by decide +kernel
theorem dX8_hasRightNumbers_16 : decode cX8_hasRightNumbers 16 = .ok (.ifCond .lt 8, 3) := by decide +kernel
theorem dX8_hasRightNumbers_19 : decode cX8_hasRightNumbers 19 = .ok (.iload_n 3, 1) := by decide +kernel
theorem dX8_hasRightNumbers_20 : decode cX8_hasRightNumbers 20 = .ok (.iconst 4, 1) := by decide +kernel
theorem dX8_hasRightNumbers_21 : decode cX8_hasRightNumbers 21 = .ok (.if_icmp .lt 5, 3) := by decide +kernel
theorem dX8_hasRightNumbers_24 : decode cX8_hasRightNumbers 24 = .ok (.iconst 0, 1) := by decide +kernel
theorem dX8_hasRightNumbers_25 : decode cX8_hasRightNumbers 25 = .ok (.ireturn, 1) := by decide +kernel
theorem dX8_hasRightNumbers_26 : decode cX8_hasRightNumbers 26 = .ok (.aload_n 0, 1) := by decide +kernel
theorem dX8_hasRightNumbers_27 : decode cX8_hasRightNumbers 27 = .ok (.iload_n 2, 1) := by decide +kernel
theorem dX8_hasRightNumbers_28 : decode cX8_hasRightNumbers 28 = .ok (.aload_n 1, 1) := by decide +kernel
theorem dX8_hasRightNumbers_29 : decode cX8_hasRightNumbers 29 = .ok (.getfield 56, 3) := by decide +kernel
theorem dX8_hasRightNumbers_32 : decode cX8_hasRightNumbers 32 = .ok (.iadd, 1) := by decide +kernel
theorem dX8_hasRightNumbers_33 : decode cX8_hasRightNumbers 33 = .ok (.invokevirtual 65, 3) := by decide +kernel
theorem dX8_hasRightNumbers_36 : decode cX8_hasRightNumbers 36 = .ok (.istore_n 3, 1) := by decide +kernel
theorem dX8_hasRightNumbers_37 : decode cX8_hasRightNumbers 37 = .ok (.iload_n 3, 1) := by decide +kernel
theorem dX8_hasRightNumbers_38 : decode cX8_hasRightNumbers 38 = .ok (.aload_n 1, 1) := by decide +kernel
theorem dX8_hasRightNumbers_39 : decode cX8_hasRightNumbers 39 = .ok (.getfield 82, 3) := by decide +kernel
theorem dX8_hasRightNumbers_42 : decode cX8_hasRightNumbers 42 = .ok (.if_icmp .lt 15, 3) := by decide +kernel
theorem dX8_hasRightNumbers_45 : decode cX8_hasRightNumbers 45 = .ok (.iload_n 3, 1) := by decide +kernel
theorem dX8_hasRightNumbers_46 : decode cX8_hasRightNumbers 46 = .ok (.aload_n 1, 1) := by decide +kernel
theorem dX8_hasRightNumbers_47 : decode cX8_hasRightNumbers 47 = .ok (.getfield 85, 3) := by decide +kernel
theorem dX8_hasRightNumbers_50 : decode cX8_hasRightNumbers 50 = .ok (.if_icmp .gt 7, 3) := by decide +kernel
theorem dX8_hasRightNumbers_53 : decode cX8_hasRightNumbers 53 = .ok (.iconst 1, 1) := by decide +kernel
theorem dX8_hasRightNumbers_54 : decode cX8_hasRightNumbers 54 = .ok (.goto 4, 3) := by decide +kernel
theorem dX8_hasRightNumbers_57 : decode cX8_hasRightNumbers 57 = .ok (.iconst 0, 1) := by decide +kernel
theorem dX8_hasRightNumbers_58 : decode cX8_hasRightNumbers 58 = .ok (.ireturn, 1) := by decide +kernel
set_option maxRecDepth 20000 in
theorem ggX8_wordAt_X8_reads : GoodIn wsX8_wordAt wsX8_reads := goodIn_r _ [5, 6, 7, 8, 9, 10, 11, 12, 13, 14, 15, 16, 17, 18, 19, 20, 21, 22, 23, 24, 25, 26, 27, 28, 29, 30, 31, 32, 33, 34, 35, 36, 37, 38, 39, 40, 41, 42, 43, 44, 45, 46, 47, 48, 49, 50, 51, 52, 53, 54, 55, 56, 57, 58, 59, 60, 61, 62] (by decide +kernel) (by decide +kernel)
set_option maxRecDepth 20000 in
theorem gX8_wordAt_X8_reads : GoodIn wsX8_wordAt (wsV RX8 96 RX8 yX8_reads wsX8_reads) := goodIn_app (goodIn_of _ (by decide +kernel)) ggX8_wordAt_X8_reads
theorem dX8_wordAt_0 : decode cX8_wordAt 0 = .ok (.getstatic 88, 3) := by decide +kernel
theorem dX8_wordAt_3 : decode cX8_wordAt 3 = .ok (.astore_n 2, 1) := by decide +kernel
theorem dX8_wordAt_4 : decode cX8_wordAt 4 = .ok (.aload_n 2, 1) := by decide +kernel
theorem dX8_wordAt_5 : decode cX8_wordAt 5 = .ok (.arraylength, 1) := by decide +kernel
theorem dX8_wordAt_6 : decode cX8_wordAt 6 = .ok (.istore_n 3, 1) := by decide +kernel
theorem dX8_wordAt_7 : decode cX8_wordAt 7 = .ok (.iconst 0, 1) := by decide +kernel
theorem dX8_wordAt_8 : decode cX8_wordAt 8 = .ok (.istore 4, 2) := by decide +kernel
theorem dX8_wordAt_10 : decode cX8_wordAt 10 = .ok (.iload 4, 2) := by decide +kernel
theorem dX8_wordAt_12 : decode cX8_wordAt 12 = .ok (.iload_n 3, 1) := by decide +kernel
theorem dX8_wordAt_13 : decode cX8_wordAt 13 = .ok (.if_icmp .ge 31, 3) := by decide +kernel
theorem dX8_wordAt_16 : decode cX8_wordAt 16 = .ok (.aload_n 2, 1) := by decide +kernel
theorem dX8_wordAt_17 : decode cX8_wordAt 17 = .ok (.iload 4, 2) := by decide +kernel
theorem dX8_wordAt_19 : decode cX8_wordAt 19 = .ok (.aaload, 1) := by decide +kernel
theorem dX8_wordAt_20 : decode cX8_wordAt 20 = .ok (.astore 5, 2) := by decide +kernel
theorem dX8_wordAt_22 : decode cX8_wordAt 22 = .ok (.aload_n 0, 1) := by decide +kernel
theorem dX8_wordAt_23 : decode cX8_wordAt 23 = .ok (.iload_n 1, 1) := by decide +kernel
theorem dX8_wordAt_24 : decode cX8_wordAt 24 = .ok (.aload 5, 2) := by decide +kernel
theorem dX8_wordAt_26 : decode cX8_wordAt 26 = .ok (.getfield 92, 3) := by decide +kernel
theorem dX8_wordAt_29 : decode cX8_wordAt 29 = .ok (.invokevirtual 96, 3) := by decide +kernel
theorem dX8_wordAt_32 : decode cX8_wordAt 32 = .ok (.ifCond .eq 6, 3) := by decide +kernel
theorem dX8_wordAt_35 : decode cX8_wordAt 35 = .ok (.aload 5, 2) := by decide +kernel
theorem dX8_wordAt_37 : decode cX8_wordAt 37 = .ok (.areturn, 1) := by decide +kernel
theorem dX8_wordAt_38 : decode cX8_wordAt 38 = .ok (.iinc 4 1, 3) := by decide +kernel
theorem dX8_wordAt_41 : decode cX8_wordAt 41 = .ok (.goto (-31), 3) := by decide +kernel
theorem dX8_wordAt_44 : decode cX8_wordAt 44 = .ok (.aconst_null, 1) := by decide +kernel
theorem dX8_wordAt_45 : decode cX8_wordAt 45 = .ok (.areturn, 1) := by decide +kernel
set_option maxRecDepth 20000 in
theorem ggX8_reads_J0_length_8abf5 : GoodIn wsX8_reads wsJ0_length_8abf5 := goodIn_r _ [8, 9, 10, 11, 12, 7, 13, 14, 15] (by decide +kernel) (by decide +kernel)
set_option maxRecDepth 20000 in
theorem gX8_reads_J0_length_8abf5 : GoodIn wsX8_reads (wsV RX8 100 RJ0 yJ0_length_8abf5 wsJ0_length_8abf5) := goodIn_app (goodIn_of _ (by decide +kernel)) ggX8_reads_J0_length_8abf5
set_option maxRecDepth 20000 in
theorem ggX8_reads_J0_charAt_5068e : GoodIn wsX8_reads wsJ0_charAt_5068e := goodIn_r _ [19, 9, 20, 21, 22, 7, 23, 14, 15, 24, 25, 26, 27, 28, 29, 30, 31, 32, 33, 34, 35, 36, 37, 38, 39, 40, 41, 42, 43, 44, 45, 46, 47, 48, 49, 50, 51, 52] (by decide +kernel) (by decide +kernel)
set_option maxRecDepth 20000 in
theorem gX8_reads_J0_charAt_5068e : GoodIn wsX8_reads (wsV RX8 104 RJ0 yJ0_charAt_5068e wsJ0_charAt_5068e) := goodIn_app (goodIn_of _ (by decide +kernel)) ggX8_reads_J0_charAt_5068e
theorem dX8_reads_0 : decode cX8_reads 0 = .ok (.aload_n 0, 1) := by decide +kernel
theorem dX8_reads_1 : decode cX8_reads 1 = .ok (.getfield 15, 3) := by decide +kernel
theorem dX8_reads_4 : decode cX8_reads 4 = .ok (.iload_n 1, 1) := by decide +kernel
theorem dX8_reads_5 : decode cX8_reads 5 = .ok (.iaload, 1) := by decide +kernel
theorem dX8_reads_6 : decode cX8_reads 6 = .ok (.istore_n 3, 1) := by decide +kernel
theorem dX8_reads_7 : decode cX8_reads 7 = .ok (.aload_n 0, 1) := by decide +kernel
theorem dX8_reads_8 : decode cX8_reads 8 = .ok (.getfield 19, 3) := by decide +kernel
theorem dX8_reads_11 : decode cX8_reads 11 = .ok (.iload_n 1, 1) := by decide +kernel
theorem dX8_reads_12 : decode cX8_reads 12 = .ok (.iaload, 1) := by decide +kernel
theorem dX8_reads_13 : decode cX8_reads 13 = .ok (.iload_n 3, 1) := by decide +kernel
theorem dX8_reads_14 : decode cX8_reads 14 = .ok (.isub, 1) := by decide +kernel
theorem dX8_reads_15 : decode cX8_reads 15 = .ok (.istore 4, 2) := by decide +kernel
theorem dX8_reads_17 : decode cX8_reads 17 = .ok (.iload 4, 2) := by decide +kernel
theorem dX8_reads_19 : decode cX8_reads 19 = .ok (.aload_n 2, 1) := by decide +kernel
theorem dX8_reads_20 : decode cX8_reads 20 = .ok (.invokevirtual 100, 3) := by decide +kernel
theorem dX8_reads_23 : decode cX8_reads 23 = .ok (.if_icmp .eq 5, 3) := by decide +kernel
theorem dX8_reads_26 : decode cX8_reads 26 = .ok (.iconst 0, 1) := by decide +kernel
theorem dX8_reads_27 : decode cX8_reads 27 = .ok (.ireturn, 1) := by decide +kernel
theorem dX8_reads_28 : decode cX8_reads 28 = .ok (.iconst 0, 1) := by decide +kernel
theorem dX8_reads_29 : decode cX8_reads 29 = .ok (.istore 5, 2) := by decide +kernel
theorem dX8_reads_31 : decode cX8_reads 31 = .ok (.iload 5, 2) := by decide +kernel
theorem dX8_reads_33 : decode cX8_reads 33 = .ok (.iload 4, 2) := by decide +kernel
theorem dX8_reads_35 : decode cX8_reads 35 = .ok (.if_icmp .ge 29, 3) := by decide +kernel
theorem dX8_reads_38 : decode cX8_reads 38 = .ok (.aload_n 0, 1) := by decide +kernel
theorem dX8_reads_39 : decode cX8_reads 39 = .ok (.getfield 9, 3) := by decide +kernel
theorem dX8_reads_42 : decode cX8_reads 42 = .ok (.iload_n 3, 1) := by decide +kernel
theorem dX8_reads_43 : decode cX8_reads 43 = .ok (.iload 5, 2) := by decide +kernel
theorem dX8_reads_45 : decode cX8_reads 45 = .ok (.iadd, 1) := by decide +kernel
theorem dX8_reads_46 : decode cX8_reads 46 = .ok (.caload, 1) := by decide +kernel
theorem dX8_reads_47 : decode cX8_reads 47 = .ok (.aload_n 2, 1) := by decide +kernel
theorem dX8_reads_48 : decode cX8_reads 48 = .ok (.iload 5, 2) := by decide +kernel
theorem dX8_reads_50 : decode cX8_reads 50 = .ok (.invokevirtual 104, 3) := by decide +kernel
theorem dX8_reads_53 : decode cX8_reads 53 = .ok (.if_icmp .eq 5, 3) := by decide +kernel
theorem dX8_reads_56 : decode cX8_reads 56 = .ok (.iconst 0, 1) := by decide +kernel
theorem dX8_reads_57 : decode cX8_reads 57 = .ok (.ireturn, 1) := by decide +kernel
theorem dX8_reads_58 : decode cX8_reads 58 = .ok (.iinc 5 1, 3) := by decide +kernel
theorem dX8_reads_61 : decode cX8_reads 61 = .ok (.goto (-30), 3) := by decide +kernel
theorem dX8_reads_64 : decode cX8_reads 64 = .ok (.iconst 1, 1) := by decide +kernel
theorem dX8_reads_65 : decode cX8_reads 65 = .ok (.ireturn, 1) := by decide +kernel
set_option maxRecDepth 20000 in
theorem ggX8_numberAt_X8_isFigure : GoodIn wsX8_numberAt wsX8_isFigure := goodIn_r _ [8] (by decide +kernel) (by decide +kernel)
set_option maxRecDepth 20000 in
theorem gX8_numberAt_X8_isFigure : GoodIn wsX8_numberAt (va_wsS RX8 29 yX8_isFigure wsX8_isFigure) := goodIn_app (goodIn_of _ (by decide +kernel)) ggX8_numberAt_X8_isFigure
theorem dX8_numberAt_0 : decode cX8_numberAt 0 = .ok (.iload_n 1, 1) := by decide +kernel
theorem dX8_numberAt_1 : decode cX8_numberAt 1 = .ok (.ifCond .lt 28, 3) := by decide +kernel
theorem dX8_numberAt_4 : decode cX8_numberAt 4 = .ok (.iload_n 1, 1) := by decide +kernel
theorem dX8_numberAt_5 : decode cX8_numberAt 5 = .ok (.aload_n 0, 1) := by decide +kernel
theorem dX8_numberAt_6 : decode cX8_numberAt 6 = .ok (.getfield 26, 3) := by decide +kernel
theorem dX8_numberAt_9 : decode cX8_numberAt 9 = .ok (.if_icmp .ge 20, 3) := by decide +kernel
theorem dX8_numberAt_12 : decode cX8_numberAt 12 = .ok (.aload_n 0, 1) := by decide +kernel
theorem dX8_numberAt_13 : decode cX8_numberAt 13 = .ok (.getfield 19, 3) := by decide +kernel
theorem dX8_numberAt_16 : decode cX8_numberAt 16 = .ok (.iload_n 1, 1) := by decide +kernel
theorem dX8_numberAt_17 : decode cX8_numberAt 17 = .ok (.iaload, 1) := by decide +kernel
theorem dX8_numberAt_18 : decode cX8_numberAt 18 = .ok (.aload_n 0, 1) := by decide +kernel
theorem dX8_numberAt_19 : decode cX8_numberAt 19 = .ok (.getfield 15, 3) := by decide +kernel
theorem dX8_numberAt_22 : decode cX8_numberAt 22 = .ok (.iload_n 1, 1) := by decide +kernel
theorem dX8_numberAt_23 : decode cX8_numberAt 23 = .ok (.iaload, 1) := by decide +kernel
theorem dX8_numberAt_24 : decode cX8_numberAt 24 = .ok (.isub, 1) := by decide +kernel
theorem dX8_numberAt_25 : decode cX8_numberAt 25 = .ok (.iconst 3, 1) := by decide +kernel
theorem dX8_numberAt_26 : decode cX8_numberAt 26 = .ok (.if_icmp .le 5, 3) := by decide +kernel
theorem dX8_numberAt_29 : decode cX8_numberAt 29 = .ok (.iconst (-1), 1) := by decide +kernel
theorem dX8_numberAt_30 : decode cX8_numberAt 30 = .ok (.ireturn, 1) := by decide +kernel
theorem dX8_numberAt_31 : decode cX8_numberAt 31 = .ok (.iconst 0, 1) := by decide +kernel
theorem dX8_numberAt_32 : decode cX8_numberAt 32 = .ok (.istore_n 2, 1) := by decide +kernel
theorem dX8_numberAt_33 : decode cX8_numberAt 33 = .ok (.aload_n 0, 1) := by decide +kernel
theorem dX8_numberAt_34 : decode cX8_numberAt 34 = .ok (.getfield 15, 3) := by decide +kernel
theorem dX8_numberAt_37 : decode cX8_numberAt 37 = .ok (.iload_n 1, 1) := by decide +kernel
theorem dX8_numberAt_38 : decode cX8_numberAt 38 = .ok (.iaload, 1) := by decide +kernel
theorem dX8_numberAt_39 : decode cX8_numberAt 39 = .ok (.istore_n 3, 1) := by decide +kernel
theorem dX8_numberAt_40 : decode cX8_numberAt 40 = .ok (.iload_n 3, 1) := by decide +kernel
theorem dX8_numberAt_41 : decode cX8_numberAt 41 = .ok (.aload_n 0, 1) := by decide +kernel
theorem dX8_numberAt_42 : decode cX8_numberAt 42 = .ok (.getfield 19, 3) := by decide +kernel
theorem dX8_numberAt_45 : decode cX8_numberAt 45 = .ok (.iload_n 1, 1) := by decide +kernel
theorem dX8_numberAt_46 : decode cX8_numberAt 46 = .ok (.iaload, 1) := by decide +kernel
theorem dX8_numberAt_47 : decode cX8_numberAt 47 = .ok (.if_icmp .ge 38, 3) := by decide +kernel
theorem dX8_numberAt_50 : decode cX8_numberAt 50 = .ok (.aload_n 0, 1) := by decide +kernel
theorem dX8_numberAt_51 : decode cX8_numberAt 51 = .ok (.getfield 9, 3) := by decide +kernel
theorem dX8_numberAt_54 : decode cX8_numberAt 54 = .ok (.iload_n 3, 1) := by decide +kernel
theorem dX8_numberAt_55 : decode cX8_numberAt 55 = .ok (.caload, 1) := by decide +kernel
theorem dX8_numberAt_56 : decode cX8_numberAt 56 = .ok (.invokestatic 29, 3) := by decide +kernel
theorem dX8_numberAt_59 : decode cX8_numberAt 59 = .ok (.ifCond .ne 5, 3) := by decide +kernel
theorem dX8_numberAt_62 : decode cX8_numberAt 62 = .ok (.iconst (-1), 1) := by decide +kernel
theorem dX8_numberAt_63 : decode cX8_numberAt 63 = .ok (.ireturn, 1) := by decide +kernel
theorem dX8_numberAt_64 : decode cX8_numberAt 64 = .ok (.iload_n 2, 1) := by decide +kernel
theorem dX8_numberAt_65 : decode cX8_numberAt 65 = .ok (.bipush 10, 2) := by decide +kernel
theorem dX8_numberAt_67 : decode cX8_numberAt 67 = .ok (.imul, 1) := by decide +kernel
theorem dX8_numberAt_68 : decode cX8_numberAt 68 = .ok (.aload_n 0, 1) := by decide +kernel
theorem dX8_numberAt_69 : decode cX8_numberAt 69 = .ok (.getfield 9, 3) := by decide +kernel
theorem dX8_numberAt_72 : decode cX8_numberAt 72 = .ok (.iload_n 3, 1) := by decide +kernel
theorem dX8_numberAt_73 : decode cX8_numberAt 73 = .ok (.caload, 1) := by decide +kernel
theorem dX8_numberAt_74 : decode cX8_numberAt 74 = .ok (.bipush 48, 2) := by decide +kernel
theorem dX8_numberAt_76 : decode cX8_numberAt 76 = .ok (.isub, 1) := by decide +kernel
theorem dX8_numberAt_77 : decode cX8_numberAt 77 = .ok (.iadd, 1) := by decide +kernel
theorem dX8_numberAt_78 : decode cX8_numberAt 78 = .ok (.istore_n 2, 1) := by decide +kernel
theorem dX8_numberAt_79 : decode cX8_numberAt 79 = .ok (.iinc 3 1, 3) := by decide +kernel
theorem dX8_numberAt_82 : decode cX8_numberAt 82 = .ok (.goto (-42), 3) := by decide +kernel
theorem dX8_numberAt_85 : decode cX8_numberAt 85 = .ok (.iload_n 2, 1) := by decide +kernel
theorem dX8_numberAt_86 : decode cX8_numberAt 86 = .ok (.ireturn, 1) := by decide +kernel
set_option maxRecDepth 20000 in
theorem ggX9_init_X7_init : GoodIn wsX9_init wsX7_init := goodIn_r _ [38, 39, 2, 3, 40, 41, 42, 43, 44, 45, 46, 115, 116, 117, 118, 119, 120] (by decide +kernel) (by decide +kernel)
set_option maxRecDepth 20000 in
theorem gX9_init_X7_init : GoodIn wsX9_init (wsX7_init) := ggX9_init_X7_init
set_option maxRecDepth 20000 in
theorem ggX9_init_X8_init : GoodIn wsX9_init wsX8_init := goodIn_r _ [49, 50, 2, 3, 51, 52, 45, 53, 54, 55, 56, 129, 130, 131, 132, 133] (by decide +kernel) (by decide +kernel)
set_option maxRecDepth 20000 in
theorem gX9_init_X8_init : GoodIn wsX9_init (wsX8_init) := ggX9_init_X8_init
set_option maxRecDepth 20000 in
theorem ggX9_init_X1_init : GoodIn wsX9_init wsX1_init := goodIn_r _ [59, 60, 2, 3, 61, 45, 62, 63, 64, 65, 14, 66, 134] (by decide +kernel) (by decide +kernel)
set_option maxRecDepth 20000 in
theorem gX9_init_X1_init : GoodIn wsX9_init (wsX1_init) := ggX9_init_X1_init
set_option maxRecDepth 20000 in
theorem ggX9_init_X2_init : GoodIn wsX9_init wsX2_init := goodIn_r _ [69, 70, 2, 3, 71, 45, 72, 135] (by decide +kernel) (by decide +kernel)
set_option maxRecDepth 20000 in
theorem gX9_init_X2_init : GoodIn wsX9_init (wsX2_init) := ggX9_init_X2_init
set_option maxRecDepth 20000 in
theorem ggX9_init_X5_init : GoodIn wsX9_init wsX5_init := goodIn_r _ [75, 76, 2, 3, 45, 77, 78, 79, 80, 81, 82, 83, 84, 85, 136, 137, 138, 139, 140, 141, 142, 143, 144] (by decide +kernel) (by decide +kernel)
set_option maxRecDepth 20000 in
theorem gX9_init_X5_init : GoodIn wsX9_init (wsX5_init) := ggX9_init_X5_init
set_option maxRecDepth 20000 in
theorem ggX9_init_X3_init : GoodIn wsX9_init wsX3_init := goodIn_r _ [88, 89, 2, 3, 90, 45, 91, 92, 93, 94, 95, 96, 145, 146, 147, 148, 149, 150] (by decide +kernel) (by decide +kernel)
set_option maxRecDepth 20000 in
theorem gX9_init_X3_init : GoodIn wsX9_init (wsX3_init) := ggX9_init_X3_init
set_option maxRecDepth 20000 in
theorem ggX9_init_X0_init : GoodIn wsX9_init wsX0_init := goodIn_r _ [99, 100, 2, 3, 45, 101, 102, 103, 104, 105, 106, 107, 151, 152, 153, 154, 155, 156] (by decide +kernel) (by decide +kernel)
set_option maxRecDepth 20000 in
theorem gX9_init_X0_init : GoodIn wsX9_init (wsX0_init) := ggX9_init_X0_init
set_option maxRecDepth 20000 in
theorem ggX9_init_X4_init : GoodIn wsX9_init wsX4_init := goodIn_r _ [110, 111, 2, 3, 112, 45, 113, 114, 157, 158] (by decide +kernel) (by decide +kernel)
set_option maxRecDepth 20000 in
theorem gX9_init_X4_init : GoodIn wsX9_init (wsX4_init) := ggX9_init_X4_init
