theorem dX9_init_0 : decode cX9_init 0 = .ok (.aload_n 0, 1) := by decide +kernel
theorem dX9_init_1 : decode cX9_init 1 = .ok (.invokespecial 1, 3) := by decide +kernel
theorem dX9_init_4 : decode cX9_init 4 = .ok (.aload_n 0, 1) := by decide +kernel
theorem dX9_init_5 : decode cX9_init 5 = .ok (.new 7, 3) := by decide +kernel
theorem dX9_init_8 : decode cX9_init 8 = .ok (.dup, 1) := by decide +kernel
theorem dX9_init_9 : decode cX9_init 9 = .ok (.invokespecial 9, 3) := by decide +kernel
theorem dX9_init_12 : decode cX9_init 12 = .ok (.putfield 10, 3) := by decide +kernel
theorem dX9_init_15 : decode cX9_init 15 = .ok (.aload_n 0, 1) := by decide +kernel
theorem dX9_init_16 : decode cX9_init 16 = .ok (.new 16, 3) := by decide +kernel
theorem dX9_init_19 : decode cX9_init 19 = .ok (.dup, 1) := by decide +kernel
theorem dX9_init_20 : decode cX9_init 20 = .ok (.invokespecial 18, 3) := by decide +kernel
theorem dX9_init_23 : decode cX9_init 23 = .ok (.putfield 19, 3) := by decide +kernel
theorem dX9_init_26 : decode cX9_init 26 = .ok (.aload_n 0, 1) := by decide +kernel
theorem dX9_init_27 : decode cX9_init 27 = .ok (.new 23, 3) := by decide +kernel
theorem dX9_init_30 : decode cX9_init 30 = .ok (.dup, 1) := by decide +kernel
theorem dX9_init_31 : decode cX9_init 31 = .ok (.invokespecial 25, 3) := by decide +kernel
theorem dX9_init_34 : decode cX9_init 34 = .ok (.putfield 26, 3) := by decide +kernel
theorem dX9_init_37 : decode cX9_init 37 = .ok (.aload_n 0, 1) := by decide +kernel
theorem dX9_init_38 : decode cX9_init 38 = .ok (.new 30, 3) := by decide +kernel
theorem dX9_init_41 : decode cX9_init 41 = .ok (.dup, 1) := by decide +kernel
theorem dX9_init_42 : decode cX9_init 42 = .ok (.invokespecial 32, 3) := by decide +kernel
theorem dX9_init_45 : decode cX9_init 45 = .ok (.putfield 33, 3) := by decide +kernel
theorem dX9_init_48 : decode cX9_init 48 = .ok (.aload_n 0, 1) := by decide +kernel
theorem dX9_init_49 : decode cX9_init 49 = .ok (.new 37, 3) := by decide +kernel
theorem dX9_init_52 : decode cX9_init 52 = .ok (.dup, 1) := by decide +kernel
theorem dX9_init_53 : decode cX9_init 53 = .ok (.invokespecial 39, 3) := by decide +kernel
theorem dX9_init_56 : decode cX9_init 56 = .ok (.putfield 40, 3) := by decide +kernel
theorem dX9_init_59 : decode cX9_init 59 = .ok (.aload_n 0, 1) := by decide +kernel
theorem dX9_init_60 : decode cX9_init 60 = .ok (.new 44, 3) := by decide +kernel
theorem dX9_init_63 : decode cX9_init 63 = .ok (.dup, 1) := by decide +kernel
theorem dX9_init_64 : decode cX9_init 64 = .ok (.invokespecial 46, 3) := by decide +kernel
theorem dX9_init_67 : decode cX9_init 67 = .ok (.putfield 47, 3) := by decide +kernel
theorem dX9_init_70 : decode cX9_init 70 = .ok (.aload_n 0, 1) := by decide +kernel
theorem dX9_init_71 : decode cX9_init 71 = .ok (.new 51, 3) := by decide +kernel
theorem dX9_init_74 : decode cX9_init 74 = .ok (.dup, 1) := by decide +kernel
theorem dX9_init_75 : decode cX9_init 75 = .ok (.invokespecial 53, 3) := by decide +kernel
theorem dX9_init_78 : decode cX9_init 78 = .ok (.putfield 54, 3) := by decide +kernel
theorem dX9_init_81 : decode cX9_init 81 = .ok (.aload_n 0, 1) := by decide +kernel
theorem dX9_init_82 : decode cX9_init 82 = .ok (.new 58, 3) := by decide +kernel
theorem dX9_init_85 : decode cX9_init 85 = .ok (.dup, 1) := by decide +kernel
theorem dX9_init_86 : decode cX9_init 86 = .ok (.invokespecial 60, 3) := by decide +kernel
theorem dX9_init_89 : decode cX9_init 89 = .ok (.putfield 61, 3) := by decide +kernel
theorem dX9_init_92 : decode cX9_init 92 = .ok (.return_, 1) := by decide +kernel
set_option maxRecDepth 20000 in
theorem ggX9_colour_X9_needIndex : GoodIn wsX9_colour wsX9_needIndex := goodIn_ca (goodIn_r _ [5, 6, 7] (by decide +kernel) (by decide +kernel)) (goodIn_sub (fun _ h => List.mem_cons_of_mem _ (List.mem_append_left _ (List.mem_append_right _ h))) (by decide +kernel))
set_option maxRecDepth 20000 in
theorem gX9_colour_X9_needIndex : GoodIn wsX9_colour (va_wsS RX9 65 yX9_needIndex wsX9_needIndex) := goodIn_app (goodIn_of _ (by decide +kernel)) ggX9_colour_X9_needIndex
set_option maxRecDepth 20000 in
theorem ggX9_colour_X9_needRange : GoodIn wsX9_colour wsX9_needRange := goodIn_ca (goodIn_r _ [10, 11, 12] (by decide +kernel) (by decide +kernel)) (goodIn_sub (fun _ h => List.mem_cons_of_mem _ (List.mem_append_right _ h)) (by decide +kernel))
set_option maxRecDepth 20000 in
theorem gX9_colour_X9_needRange : GoodIn wsX9_colour (va_wsS RX9 69 yX9_needRange wsX9_needRange) := goodIn_app (goodIn_of _ (by decide +kernel)) ggX9_colour_X9_needRange
set_option maxRecDepth 20000 in
theorem ggX9_colour_X1_paint : GoodIn wsX9_colour wsX1_paint := goodIn_r _ [17, 18, 27] (by decide +kernel) (by decide +kernel)
set_option maxRecDepth 20000 in
theorem gX9_colour_X1_paint : GoodIn wsX9_colour (wsV RX9 73 RX1 yX1_paint wsX1_paint) := goodIn_app (goodIn_of _ (by decide +kernel)) ggX9_colour_X1_paint
theorem dX9_colour_0 : decode cX9_colour 0 = .ok (.iload_n 1, 1) := by decide +kernel
theorem dX9_colour_1 : decode cX9_colour 1 = .ok (.bipush 64, 2) := by decide +kernel
theorem dX9_colour_3 : decode cX9_colour 3 = .ok (.invokestatic 65, 3) := by decide +kernel
theorem dX9_colour_6 : decode cX9_colour 6 = .ok (.iload_n 2, 1) := by decide +kernel
theorem dX9_colour_7 : decode cX9_colour 7 = .ok (.iconst 0, 1) := by decide +kernel
theorem dX9_colour_8 : decode cX9_colour 8 = .ok (.bipush 100, 2) := by decide +kernel
theorem dX9_colour_10 : decode cX9_colour 10 = .ok (.invokestatic 69, 3) := by decide +kernel
theorem dX9_colour_13 : decode cX9_colour 13 = .ok (.iload_n 3, 1) := by decide +kernel
theorem dX9_colour_14 : decode cX9_colour 14 = .ok (.iconst 0, 1) := by decide +kernel
theorem dX9_colour_15 : decode cX9_colour 15 = .ok (.bipush 100, 2) := by decide +kernel
theorem dX9_colour_17 : decode cX9_colour 17 = .ok (.invokestatic 69, 3) := by decide +kernel
theorem dX9_colour_20 : decode cX9_colour 20 = .ok (.iload 4, 2) := by decide +kernel
theorem dX9_colour_22 : decode cX9_colour 22 = .ok (.iconst 0, 1) := by decide +kernel
theorem dX9_colour_23 : decode cX9_colour 23 = .ok (.bipush 100, 2) := by decide +kernel
theorem dX9_colour_25 : decode cX9_colour 25 = .ok (.invokestatic 69, 3) := by decide +kernel
theorem dX9_colour_28 : decode cX9_colour 28 = .ok (.aload_n 0, 1) := by decide +kernel
theorem dX9_colour_29 : decode cX9_colour 29 = .ok (.getfield 26, 3) := by decide +kernel
theorem dX9_colour_32 : decode cX9_colour 32 = .ok (.iload_n 1, 1) := by decide +kernel
theorem dX9_colour_33 : decode cX9_colour 33 = .ok (.iload_n 2, 1) := by decide +kernel
theorem dX9_colour_34 : decode cX9_colour 34 = .ok (.iload_n 3, 1) := by decide +kernel
theorem dX9_colour_35 : decode cX9_colour 35 = .ok (.iload 4, 2) := by decide +kernel
theorem dX9_colour_37 : decode cX9_colour 37 = .ok (.invokevirtual 73, 3) := by decide +kernel
theorem dX9_colour_40 : decode cX9_colour 40 = .ok (.return_, 1) := by decide +kernel
set_option maxRecDepth 20000 in
theorem ggX9_type_X8_takes : GoodIn wsX9_type wsX8_takes := goodIn_r _ [9, 10, 11, 8, 12] (by decide +kernel) (by decide +kernel)
set_option maxRecDepth 20000 in
theorem gX9_type_X8_takes : GoodIn wsX9_type (va_wsS RX9 77 yX8_takes wsX8_takes) := goodIn_app (goodIn_of _ (by decide +kernel)) ggX9_type_X8_takes
set_option maxRecDepth 20000 in
theorem ggX9_type_X8_isFull : GoodIn wsX9_type wsX8_isFull := goodIn_r _ [16, 17, 31, 32, 33, 34, 35] (by decide +kernel) (by decide +kernel)
set_option maxRecDepth 20000 in
theorem gX9_type_X8_isFull : GoodIn wsX9_type (wsV RX9 88 RX8 yX8_isFull wsX8_isFull) := goodIn_app (goodIn_of _ (by decide +kernel)) ggX9_type_X8_isFull
set_option maxRecDepth 20000 in
theorem ggX9_type_X8_add : GoodIn wsX9_type wsX8_add := goodIn_r _ [21, 17, 22, 31, 32, 33, 34, 35] (by decide +kernel) (by decide +kernel)
set_option maxRecDepth 20000 in
theorem gX9_type_X8_add : GoodIn wsX9_type (wsV RX9 97 RX8 yX8_add wsX8_add) := goodIn_app (goodIn_of _ (by decide +kernel)) ggX9_type_X8_add
theorem dX9_type_0 : decode cX9_type 0 = .ok (.iload_n 1, 1) := by decide +kernel
theorem dX9_type_1 : decode cX9_type 1 = .ok (.invokestatic 77, 3) := by decide +kernel
theorem dX9_type_4 : decode cX9_type 4 = .ok (.ifCond .ne 13, 3) := by decide +kernel
theorem dX9_type_7 : decode cX9_type 7 = .ok (.new 81, 3) := by decide +kernel
theorem dX9_type_10 : decode cX9_type 10 = .ok (.dup, 1) := by decide +kernel
theorem dX9_type_11 : decode cX9_type 11 = .ok (.ldc 83, 2) := by decide +kernel
theorem dX9_type_13 : decode cX9_type 13 = .ok (.invokespecial 85, 3) := by decide +kernel
theorem dX9_type_16 : decode cX9_type 16 = .ok (.athrow, 1) := by decide +kernel
theorem dX9_type_17 : decode cX9_type 17 = .ok (.aload_n 0, 1) := by decide +kernel
theorem dX9_type_18 : decode cX9_type 18 = .ok (.getfield 19, 3) := by decide +kernel
theorem dX9_type_21 : decode cX9_type 21 = .ok (.invokevirtual 88, 3) := by decide +kernel
theorem dX9_type_24 : decode cX9_type 24 = .ok (.ifCond .eq 13, 3) := by decide +kernel
theorem dX9_type_27 : decode cX9_type 27 = .ok (.new 92, 3) := by decide +kernel
theorem dX9_type_30 : decode cX9_type 30 = .ok (.dup, 1) := by decide +kernel
theorem dX9_type_31 : decode cX9_type 31 = .ok (.ldc 94, 2) := by decide +kernel
theorem dX9_type_33 : decode cX9_type 33 = .ok (.invokespecial 96, 3) := by decide +kernel
theorem dX9_type_36 : decode cX9_type 36 = .ok (.athrow, 1) := by decide +kernel
theorem dX9_type_37 : decode cX9_type 37 = .ok (.aload_n 0, 1) := by decide +kernel
theorem dX9_type_38 : decode cX9_type 38 = .ok (.getfield 19, 3) := by decide +kernel
theorem dX9_type_41 : decode cX9_type 41 = .ok (.iload_n 1, 1) := by decide +kernel
theorem dX9_type_42 : decode cX9_type 42 = .ok (.invokevirtual 97, 3) := by decide +kernel
theorem dX9_type_45 : decode cX9_type 45 = .ok (.ireturn, 1) := by decide +kernel
set_option maxRecDepth 20000 in
theorem ggX9_apply_X8_carryOut : GoodIn wsX9_apply wsX8_carryOut := goodIn_r _ [7, 8, 9, 10, 11, 6, 12, 13, 14, 15, 16, 17, 18, 19, 20, 21, 22, 23, 24, 25, 26, 27, 28, 29, 30, 31, 32, 33, 34, 35, 36, 37, 38, 39, 40, 41, 42, 43, 44, 45, 46, 47, 48, 49, 50, 51, 52, 53, 54, 55, 56, 57, 58, 59, 60, 61, 62, 63, 64, 65, 66, 67, 68, 69, 70, 71, 72, 73, 74, 75, 76, 77, 78, 79, 80, 81, 82, 83, 84, 85, 86, 87, 88, 89, 90, 91, 92, 93, 94, 95, 96, 97, 98, 99, 100, 101, 102, 103, 104, 105, 106, 107, 108, 109, 110, 111, 112, 113, 114, 115, 116, 117, 118, 119, 120, 121, 130, 131, 132, 133, 134, 135, 136, 137, 138, 139, 140] (by decide +kernel) (by decide +kernel)
set_option maxRecDepth 20000 in
theorem gX9_apply_X8_carryOut : GoodIn wsX9_apply (wsV RX9 101 RX8 yX8_carryOut wsX8_carryOut) := goodIn_app (goodIn_of _ (by decide +kernel)) ggX9_apply_X8_carryOut
theorem dX9_apply_0 : decode cX9_apply 0 = .ok (.aload_n 0, 1) := by decide +kernel
theorem dX9_apply_1 : decode cX9_apply 1 = .ok (.getfield 19, 3) := by decide +kernel
theorem dX9_apply_4 : decode cX9_apply 4 = .ok (.aload_n 0, 1) := by decide +kernel
theorem dX9_apply_5 : decode cX9_apply 5 = .ok (.getfield 10, 3) := by decide +kernel
theorem dX9_apply_8 : decode cX9_apply 8 = .ok (.invokevirtual 101, 3) := by decide +kernel
theorem dX9_apply_11 : decode cX9_apply 11 = .ok (.ireturn, 1) := by decide +kernel
set_option maxRecDepth 20000 in
theorem ggX9_plates_X2_make : GoodIn wsX9_plates wsX2_make := goodIn_r _ [8, 9, 10, 11, 12, 13, 14, 15, 16, 17, 18, 19, 20, 21, 22, 23, 24, 25, 26, 27, 28, 29, 30, 31, 32, 33, 34, 35, 36, 37, 38, 39, 40, 41, 42, 43, 44, 45, 46, 47, 48, 49, 50, 51, 52, 53, 54, 55, 56, 57, 7, 58, 59, 60, 61, 70, 71, 72, 73, 74, 75, 76, 77] (by decide +kernel) (by decide +kernel)
set_option maxRecDepth 20000 in
theorem gX9_plates_X2_make : GoodIn wsX9_plates (wsV RX9 105 RX2 yX2_make wsX2_make) := goodIn_app (goodIn_of _ (by decide +kernel)) ggX9_plates_X2_make
theorem dX9_plates_0 : decode cX9_plates 0 = .ok (.aload_n 0, 1) := by decide +kernel
theorem dX9_plates_1 : decode cX9_plates 1 = .ok (.getfield 33, 3) := by decide +kernel
theorem dX9_plates_4 : decode cX9_plates 4 = .ok (.aload_n 0, 1) := by decide +kernel
theorem dX9_plates_5 : decode cX9_plates 5 = .ok (.getfield 26, 3) := by decide +kernel
theorem dX9_plates_8 : decode cX9_plates 8 = .ok (.aload_n 0, 1) := by decide +kernel
theorem dX9_plates_9 : decode cX9_plates 9 = .ok (.getfield 10, 3) := by decide +kernel
theorem dX9_plates_12 : decode cX9_plates 12 = .ok (.invokevirtual 105, 3) := by decide +kernel
theorem dX9_plates_15 : decode cX9_plates 15 = .ok (.ireturn, 1) := by decide +kernel
set_option maxRecDepth 20000 in
theorem ggX9_drift_X9_needIndex : GoodIn wsX9_drift wsX9_needIndex := goodIn_ca (goodIn_r _ [5, 6, 7] (by decide +kernel) (by decide +kernel)) (goodIn_sub (fun _ h => List.mem_cons_of_mem _ (List.mem_append_left _ (List.mem_append_right _ h))) (by decide +kernel))
set_option maxRecDepth 20000 in
theorem gX9_drift_X9_needIndex : GoodIn wsX9_drift (va_wsS RX9 65 yX9_needIndex wsX9_needIndex) := goodIn_app (goodIn_of _ (by decide +kernel)) ggX9_drift_X9_needIndex
set_option maxRecDepth 20000 in
theorem ggX9_drift_X9_needRange : GoodIn wsX9_drift wsX9_needRange := goodIn_ca (goodIn_r _ [10, 11, 12] (by decide +kernel) (by decide +kernel)) (goodIn_sub (fun _ h => List.mem_cons_of_mem _ (List.mem_append_right _ h)) (by decide +kernel))
set_option maxRecDepth 20000 in
theorem gX9_drift_X9_needRange : GoodIn wsX9_drift (va_wsS RX9 69 yX9_needRange wsX9_needRange) := goodIn_app (goodIn_of _ (by decide +kernel)) ggX9_drift_X9_needRange
set_option maxRecDepth 20000 in
theorem ggX9_drift_X5_setDrift : GoodIn wsX9_drift wsX5_setDrift := goodIn_r _ [17, 18, 19, 28, 29, 30, 31, 32, 33, 34, 35, 36] (by decide +kernel) (by decide +kernel)
set_option maxRecDepth 20000 in
theorem gX9_drift_X5_setDrift : GoodIn wsX9_drift (wsV RX9 109 RX5 yX5_setDrift wsX5_setDrift) := goodIn_app (goodIn_of _ (by decide +kernel)) ggX9_drift_X5_setDrift
theorem dX9_drift_0 : decode cX9_drift 0 = .ok (.iload_n 1, 1) := by decide +kernel
theorem dX9_drift_1 : decode cX9_drift 1 = .ok (.iconst 4, 1) := by decide +kernel
theorem dX9_drift_2 : decode cX9_drift 2 = .ok (.invokestatic 65, 3) := by decide +kernel
theorem dX9_drift_5 : decode cX9_drift 5 = .ok (.iload_n 2, 1) := by decide +kernel
theorem dX9_drift_6 : decode cX9_drift 6 = .ok (.bipush (-5), 2) := by decide +kernel
theorem dX9_drift_8 : decode cX9_drift 8 = .ok (.iconst 5, 1) := by decide +kernel
theorem dX9_drift_9 : decode cX9_drift 9 = .ok (.invokestatic 69, 3) := by decide +kernel
theorem dX9_drift_12 : decode cX9_drift 12 = .ok (.iload_n 3, 1) := by decide +kernel
theorem dX9_drift_13 : decode cX9_drift 13 = .ok (.bipush (-5), 2) := by decide +kernel
theorem dX9_drift_15 : decode cX9_drift 15 = .ok (.iconst 5, 1) := by decide +kernel
theorem dX9_drift_16 : decode cX9_drift 16 = .ok (.invokestatic 69, 3) := by decide +kernel
theorem dX9_drift_19 : decode cX9_drift 19 = .ok (.aload_n 0, 1) := by decide +kernel
theorem dX9_drift_20 : decode cX9_drift 20 = .ok (.getfield 40, 3) := by decide +kernel
theorem dX9_drift_23 : decode cX9_drift 23 = .ok (.iload_n 1, 1) := by decide +kernel
theorem dX9_drift_24 : decode cX9_drift 24 = .ok (.iload_n 2, 1) := by decide +kernel
theorem dX9_drift_25 : decode cX9_drift 25 = .ok (.iload_n 3, 1) := by decide +kernel
theorem dX9_drift_26 : decode cX9_drift 26 = .ok (.invokevirtual 109, 3) := by decide +kernel
theorem dX9_drift_29 : decode cX9_drift 29 = .ok (.return_, 1) := by decide +kernel
set_option maxRecDepth 20000 in
theorem ggX9_correct_X9_needIndex : GoodIn wsX9_correct wsX9_needIndex := goodIn_ca (goodIn_r _ [9, 10, 11] (by decide +kernel) (by decide +kernel)) (goodIn_sub (fun _ h => List.mem_cons_of_mem _ (List.mem_append_left _ (List.mem_append_right _ h))) (by decide +kernel))
set_option maxRecDepth 20000 in
theorem gX9_correct_X9_needIndex : GoodIn wsX9_correct (va_wsS RX9 65 yX9_needIndex wsX9_needIndex) := goodIn_app (goodIn_of _ (by decide +kernel)) ggX9_correct_X9_needIndex
set_option maxRecDepth 20000 in
theorem ggX9_correct_X9_needRange : GoodIn wsX9_correct wsX9_needRange := goodIn_ca (goodIn_r _ [14, 15, 16] (by decide +kernel) (by decide +kernel)) (goodIn_sub (fun _ h => List.mem_cons_of_mem _ (List.mem_append_right _ h)) (by decide +kernel))
set_option maxRecDepth 20000 in
theorem gX9_correct_X9_needRange : GoodIn wsX9_correct (va_wsS RX9 69 yX9_needRange wsX9_needRange) := goodIn_app (goodIn_of _ (by decide +kernel)) ggX9_correct_X9_needRange
set_option maxRecDepth 20000 in
theorem ggX9_correct_X5_toCome : GoodIn wsX9_correct wsX5_toCome := goodIn_r _ [21, 22, 61, 62, 63, 64, 65, 66, 67, 68, 69] (by decide +kernel) (by decide +kernel)
set_option maxRecDepth 20000 in
theorem gX9_correct_X5_toCome : GoodIn wsX9_correct (wsV RX9 112 RX5 yX5_toCome wsX5_toCome) := goodIn_app (goodIn_of _ (by decide +kernel)) ggX9_correct_X5_toCome
set_option maxRecDepth 20000 in
theorem ggX9_correct_X7_delay : GoodIn wsX9_correct wsX7_delay := goodIn_r _ [27, 28, 70, 71, 72, 73, 74, 75] (by decide +kernel) (by decide +kernel)
set_option maxRecDepth 20000 in
theorem gX9_correct_X7_delay : GoodIn wsX9_correct (wsV RX9 118 RX7 yX7_delay wsX7_delay) := goodIn_app (goodIn_of _ (by decide +kernel)) ggX9_correct_X7_delay
set_option maxRecDepth 20000 in
theorem ggX9_correct_X5_move : GoodIn wsX9_correct wsX5_move := goodIn_r _ [32, 33, 34, 61, 62, 63, 64, 65, 66, 67, 68, 69] (by decide +kernel) (by decide +kernel)
set_option maxRecDepth 20000 in
theorem gX9_correct_X5_move : GoodIn wsX9_correct (wsV RX9 121 RX5 yX5_move wsX5_move) := goodIn_app (goodIn_of _ (by decide +kernel)) ggX9_correct_X5_move
set_option maxRecDepth 20000 in
theorem ggX9_correct_X3_printed : GoodIn wsX9_correct wsX3_printed := goodIn_r _ [39, 40, 76, 77, 78, 79, 80, 81] (by decide +kernel) (by decide +kernel)
set_option maxRecDepth 20000 in
theorem gX9_correct_X3_printed : GoodIn wsX9_correct (wsV RX9 124 RX3 yX3_printed wsX3_printed) := goodIn_app (goodIn_of _ (by decide +kernel)) ggX9_correct_X3_printed
set_option maxRecDepth 20000 in
theorem ggX9_correct_X5_putOff : GoodIn wsX9_correct wsX5_putOff := goodIn_r _ [44, 22, 45, 46, 47, 20, 48, 49, 50, 51, 52, 61, 62, 63, 64, 65, 66, 67, 68, 69] (by decide +kernel) (by decide +kernel)
set_option maxRecDepth 20000 in
theorem gX9_correct_X5_putOff : GoodIn wsX9_correct (wsV RX9 127 RX5 yX5_putOff wsX5_putOff) := goodIn_app (goodIn_of _ (by decide +kernel)) ggX9_correct_X5_putOff
theorem dX9_correct_0 : decode cX9_correct 0 = .ok (.iload_n 1, 1) := by decide +kernel
theorem dX9_correct_1 : decode cX9_correct 1 = .ok (.iconst 4, 1) := by decide +kernel
theorem dX9_correct_2 : decode cX9_correct 2 = .ok (.invokestatic 65, 3) := by decide +kernel
theorem dX9_correct_5 : decode cX9_correct 5 = .ok (.iload_n 2, 1) := by decide +kernel
theorem dX9_correct_6 : decode cX9_correct 6 = .ok (.bipush (-50), 2) := by decide +kernel
theorem dX9_correct_8 : decode cX9_correct 8 = .ok (.bipush 50, 2) := by decide +kernel
theorem dX9_correct_10 : decode cX9_correct 10 = .ok (.invokestatic 69, 3) := by decide +kernel
theorem dX9_correct_13 : decode cX9_correct 13 = .ok (.iload_n 3, 1) := by decide +kernel
theorem dX9_correct_14 : decode cX9_correct 14 = .ok (.bipush (-50), 2) := by decide +kernel
theorem dX9_correct_16 : decode cX9_correct 16 = .ok (.bipush 50, 2) := by decide +kernel
theorem dX9_correct_18 : decode cX9_correct 18 = .ok (.invokestatic 69, 3) := by decide +kernel
theorem dX9_correct_21 : decode cX9_correct 21 = .ok (.aload_n 0, 1) := by decide +kernel
theorem dX9_correct_22 : decode cX9_correct 22 = .ok (.getfield 40, 3) := by decide +kernel
theorem dX9_correct_25 : decode cX9_correct 25 = .ok (.invokevirtual 112, 3) := by decide +kernel
theorem dX9_correct_28 : decode cX9_correct 28 = .ok (.bipush 20, 2) := by decide +kernel
theorem dX9_correct_30 : decode cX9_correct 30 = .ok (.if_icmp .lt 13, 3) := by decide +kernel
theorem dX9_correct_33 : decode cX9_correct 33 = .ok (.new 92, 3) := by decide +kernel
theorem dX9_correct_36 : decode cX9_correct 36 = .ok (.dup, 1) := by decide +kernel
theorem dX9_correct_37 : decode cX9_correct 37 = .ok (.ldc 116, 2) := by decide +kernel
theorem dX9_correct_39 : decode cX9_correct 39 = .ok (.invokespecial 96, 3) := by decide +kernel
theorem dX9_correct_42 : decode cX9_correct 42 = .ok (.athrow, 1) := by decide +kernel
theorem dX9_correct_43 : decode cX9_correct 43 = .ok (.aload_n 0, 1) := by decide +kernel
theorem dX9_correct_44 : decode cX9_correct 44 = .ok (.getfield 10, 3) := by decide +kernel
theorem dX9_correct_47 : decode cX9_correct 47 = .ok (.invokevirtual 118, 3) := by decide +kernel
theorem dX9_correct_50 : decode cX9_correct 50 = .ok (.ifCond .ne 15, 3) := by decide +kernel
theorem dX9_correct_53 : decode cX9_correct 53 = .ok (.aload_n 0, 1) := by decide +kernel
theorem dX9_correct_54 : decode cX9_correct 54 = .ok (.getfield 40, 3) := by decide +kernel
theorem dX9_correct_57 : decode cX9_correct 57 = .ok (.iload_n 1, 1) := by decide +kernel
theorem dX9_correct_58 : decode cX9_correct 58 = .ok (.iload_n 2, 1) := by decide +kernel
theorem dX9_correct_59 : decode cX9_correct 59 = .ok (.iload_n 3, 1) := by decide +kernel
theorem dX9_correct_60 : decode cX9_correct 60 = .ok (.invokevirtual 121, 3) := by decide +kernel
theorem dX9_correct_63 : decode cX9_correct 63 = .ok (.iconst 0, 1) := by decide +kernel
theorem dX9_correct_64 : decode cX9_correct 64 = .ok (.ireturn, 1) := by decide +kernel
theorem dX9_correct_65 : decode cX9_correct 65 = .ok (.aload_n 0, 1) := by decide +kernel
theorem dX9_correct_66 : decode cX9_correct 66 = .ok (.getfield 40, 3) := by decide +kernel
theorem dX9_correct_69 : decode cX9_correct 69 = .ok (.iload_n 1, 1) := by decide +kernel
theorem dX9_correct_70 : decode cX9_correct 70 = .ok (.iload_n 2, 1) := by decide +kernel
theorem dX9_correct_71 : decode cX9_correct 71 = .ok (.iload_n 3, 1) := by decide +kernel
theorem dX9_correct_72 : decode cX9_correct 72 = .ok (.aload_n 0, 1) := by decide +kernel
theorem dX9_correct_73 : decode cX9_correct 73 = .ok (.getfield 47, 3) := by decide +kernel
theorem dX9_correct_76 : decode cX9_correct 76 = .ok (.invokevirtual 124, 3) := by decide +kernel
theorem dX9_correct_79 : decode cX9_correct 79 = .ok (.aload_n 0, 1) := by decide +kernel
theorem dX9_correct_80 : decode cX9_correct 80 = .ok (.getfield 10, 3) := by decide +kernel
theorem dX9_correct_83 : decode cX9_correct 83 = .ok (.invokevirtual 118, 3) := by decide +kernel
theorem dX9_correct_86 : decode cX9_correct 86 = .ok (.iadd, 1) := by decide +kernel
theorem dX9_correct_87 : decode cX9_correct 87 = .ok (.invokevirtual 127, 3) := by decide +kernel
theorem dX9_correct_90 : decode cX9_correct 90 = .ok (.ireturn, 1) := by decide +kernel
set_option maxRecDepth 20000 in
theorem ggX9_key_X9_needIndex : GoodIn wsX9_key wsX9_needIndex := goodIn_ca (goodIn_r _ [5, 6, 7] (by decide +kernel) (by decide +kernel)) (goodIn_sub (fun _ h => List.mem_cons_of_mem _ (List.mem_append_left _ (List.mem_append_right _ h))) (by decide +kernel))
set_option maxRecDepth 20000 in
theorem gX9_key_X9_needIndex : GoodIn wsX9_key (va_wsS RX9 65 yX9_needIndex wsX9_needIndex) := goodIn_app (goodIn_of _ (by decide +kernel)) ggX9_key_X9_needIndex
set_option maxRecDepth 20000 in
theorem ggX9_key_X9_needRange : GoodIn wsX9_key wsX9_needRange := goodIn_ca (goodIn_r _ [10, 11, 12] (by decide +kernel) (by decide +kernel)) (goodIn_sub (fun _ h => List.mem_cons_of_mem _ (List.mem_append_right _ h)) (by decide +kernel))
set_option maxRecDepth 20000 in
theorem gX9_key_X9_needRange : GoodIn wsX9_key (va_wsS RX9 69 yX9_needRange wsX9_needRange) := goodIn_app (goodIn_of _ (by decide +kernel)) ggX9_key_X9_needRange
set_option maxRecDepth 20000 in
theorem ggX9_key_X3_turnKey : GoodIn wsX9_key wsX3_turnKey := goodIn_r _ [17, 18, 27, 28, 29, 30, 31, 32] (by decide +kernel) (by decide +kernel)
set_option maxRecDepth 20000 in
theorem gX9_key_X3_turnKey : GoodIn wsX9_key (wsV RX9 131 RX3 yX3_turnKey wsX3_turnKey) := goodIn_app (goodIn_of _ (by decide +kernel)) ggX9_key_X3_turnKey
theorem dX9_key_0 : decode cX9_key 0 = .ok (.iload_n 1, 1) := by decide +kernel
theorem dX9_key_1 : decode cX9_key 1 = .ok (.iconst 4, 1) := by decide +kernel
theorem dX9_key_2 : decode cX9_key 2 = .ok (.invokestatic 65, 3) := by decide +kernel
theorem dX9_key_5 : decode cX9_key 5 = .ok (.iload_n 2, 1) := by decide +kernel
theorem dX9_key_6 : decode cX9_key 6 = .ok (.bipush 8, 2) := by decide +kernel
theorem dX9_key_8 : decode cX9_key 8 = .ok (.invokestatic 65, 3) := by decide +kernel
theorem dX9_key_11 : decode cX9_key 11 = .ok (.iload_n 3, 1) := by decide +kernel
theorem dX9_key_12 : decode cX9_key 12 = .ok (.iconst 0, 1) := by decide +kernel
theorem dX9_key_13 : decode cX9_key 13 = .ok (.bipush 100, 2) := by decide +kernel
theorem dX9_key_15 : decode cX9_key 15 = .ok (.invokestatic 69, 3) := by decide +kernel
theorem dX9_key_18 : decode cX9_key 18 = .ok (.aload_n 0, 1) := by decide +kernel
theorem dX9_key_19 : decode cX9_key 19 = .ok (.getfield 47, 3) := by decide +kernel
theorem dX9_key_22 : decode cX9_key 22 = .ok (.iload_n 1, 1) := by decide +kernel
theorem dX9_key_23 : decode cX9_key 23 = .ok (.iload_n 2, 1) := by decide +kernel
theorem dX9_key_24 : decode cX9_key 24 = .ok (.iload_n 3, 1) := by decide +kernel
theorem dX9_key_25 : decode cX9_key 25 = .ok (.invokevirtual 131, 3) := by decide +kernel
theorem dX9_key_28 : decode cX9_key 28 = .ok (.ireturn, 1) := by decide +kernel
set_option maxRecDepth 20000 in
theorem ggX9_tear_X3_breakWeb : GoodIn wsX9_tear wsX3_breakWeb := goodIn_r _ [6, 7, 16, 17, 18, 19, 20, 21] (by decide +kernel) (by decide +kernel)
set_option maxRecDepth 20000 in
theorem gX9_tear_X3_breakWeb : GoodIn wsX9_tear (wsV RX9 135 RX3 yX3_breakWeb wsX3_breakWeb) := goodIn_app (goodIn_of _ (by decide +kernel)) ggX9_tear_X3_breakWeb
theorem dX9_tear_0 : decode cX9_tear 0 = .ok (.aload_n 0, 1) := by decide +kernel
theorem dX9_tear_1 : decode cX9_tear 1 = .ok (.getfield 47, 3) := by decide +kernel
theorem dX9_tear_4 : decode cX9_tear 4 = .ok (.invokevirtual 135, 3) := by decide +kernel
theorem dX9_tear_7 : decode cX9_tear 7 = .ok (.ireturn, 1) := by decide +kernel
set_option maxRecDepth 20000 in
theorem ggX9_job_X9_needRange : GoodIn wsX9_job wsX9_needRange := goodIn_ca (goodIn_r _ [7, 8, 9] (by decide +kernel) (by decide +kernel)) (goodIn_sub (fun _ h => List.mem_cons_of_mem _ (List.mem_append_right _ h)) (by decide +kernel))
set_option maxRecDepth 20000 in
theorem gX9_job_X9_needRange : GoodIn wsX9_job (va_wsS RX9 69 yX9_needRange wsX9_needRange) := goodIn_app (goodIn_of _ (by decide +kernel)) ggX9_job_X9_needRange
set_option maxRecDepth 20000 in
theorem ggX9_job_X0_toPrint : GoodIn wsX9_job wsX0_toPrint := goodIn_r _ [14, 15, 33, 34, 35, 36, 37, 38] (by decide +kernel) (by decide +kernel)
set_option maxRecDepth 20000 in
theorem gX9_job_X0_toPrint : GoodIn wsX9_job (wsV RX9 138 RX0 yX0_toPrint wsX0_toPrint) := goodIn_app (goodIn_of _ (by decide +kernel)) ggX9_job_X0_toPrint
set_option maxRecDepth 20000 in
theorem ggX9_job_X0_begin : GoodIn wsX9_job wsX0_begin := goodIn_r _ [19, 20, 21, 22, 23, 24, 15, 33, 34, 35, 36, 37, 38] (by decide +kernel) (by decide +kernel)
set_option maxRecDepth 20000 in
theorem gX9_job_X0_begin : GoodIn wsX9_job (wsV RX9 143 RX0 yX0_begin wsX0_begin) := goodIn_app (goodIn_of _ (by decide +kernel)) ggX9_job_X0_begin
theorem dX9_job_0 : decode cX9_job 0 = .ok (.iload_n 1, 1) := by decide +kernel
theorem dX9_job_1 : decode cX9_job 1 = .ok (.iconst 1, 1) := by decide +kernel
theorem dX9_job_2 : decode cX9_job 2 = .ok (.sipush 200, 3) := by decide +kernel
theorem dX9_job_5 : decode cX9_job 5 = .ok (.invokestatic 69, 3) := by decide +kernel
theorem dX9_job_8 : decode cX9_job 8 = .ok (.aload_n 0, 1) := by decide +kernel
theorem dX9_job_9 : decode cX9_job 9 = .ok (.getfield 54, 3) := by decide +kernel
theorem dX9_job_12 : decode cX9_job 12 = .ok (.invokevirtual 138, 3) := by decide +kernel
theorem dX9_job_15 : decode cX9_job 15 = .ok (.ifCond .le 13, 3) := by decide +kernel
theorem dX9_job_18 : decode cX9_job 18 = .ok (.new 92, 3) := by decide +kernel
theorem dX9_job_21 : decode cX9_job 21 = .ok (.dup, 1) := by decide +kernel
theorem dX9_job_22 : decode cX9_job 22 = .ok (.ldc 141, 2) := by decide +kernel
theorem dX9_job_24 : decode cX9_job 24 = .ok (.invokespecial 96, 3) := by decide +kernel
theorem dX9_job_27 : decode cX9_job 27 = .ok (.athrow, 1) := by decide +kernel
theorem dX9_job_28 : decode cX9_job 28 = .ok (.aload_n 0, 1) := by decide +kernel
theorem dX9_job_29 : decode cX9_job 29 = .ok (.getfield 54, 3) := by decide +kernel
theorem dX9_job_32 : decode cX9_job 32 = .ok (.iload_n 1, 1) := by decide +kernel
theorem dX9_job_33 : decode cX9_job 33 = .ok (.invokevirtual 143, 3) := by decide +kernel
theorem dX9_job_36 : decode cX9_job 36 = .ok (.return_, 1) := by decide +kernel
set_option maxRecDepth 20000 in
theorem ggX9_print_X9_needRange : GoodIn wsX9_print wsX9_needRange := goodIn_ca (goodIn_r _ [11, 12, 13] (by decide +kernel) (by decide +kernel)) (goodIn_sub (fun _ h => List.mem_cons_of_mem _ (List.mem_append_right _ h)) (by decide +kernel))
set_option maxRecDepth 20000 in
theorem gX9_print_X9_needRange : GoodIn wsX9_print (va_wsS RX9 69 yX9_needRange wsX9_needRange) := goodIn_app (goodIn_of _ (by decide +kernel)) ggX9_print_X9_needRange
set_option maxRecDepth 20000 in
theorem ggX9_print_X3_printed : GoodIn wsX9_print wsX3_printed := goodIn_r _ [18, 19, 101, 102, 103, 104, 105, 106] (by decide +kernel) (by decide +kernel)
set_option maxRecDepth 20000 in
theorem gX9_print_X3_printed : GoodIn wsX9_print (wsV RX9 124 RX3 yX3_printed wsX3_printed) := goodIn_app (goodIn_of _ (by decide +kernel)) ggX9_print_X3_printed
set_option maxRecDepth 20000 in
theorem ggX9_print_X3_densitiesRight : GoodIn wsX9_print wsX3_densitiesRight := goodIn_r _ [23, 24, 25, 26, 17, 27, 28, 29, 30, 31, 32, 33, 34, 101, 102, 103, 104, 105, 106, 107] (by decide +kernel) (by decide +kernel)
set_option maxRecDepth 20000 in
theorem gX9_print_X3_densitiesRight : GoodIn wsX9_print (wsV RX9 149 RX3 yX3_densitiesRight wsX3_densitiesRight) := goodIn_app (goodIn_of _ (by decide +kernel)) ggX9_print_X3_densitiesRight
set_option maxRecDepth 20000 in
theorem ggX9_print_X7_tolerance : GoodIn wsX9_print wsX7_tolerance := goodIn_r _ [39, 40, 108, 109, 110, 111, 112, 113] (by decide +kernel) (by decide +kernel)
set_option maxRecDepth 20000 in
theorem gX9_print_X7_tolerance : GoodIn wsX9_print (wsV RX9 153 RX7 yX7_tolerance wsX7_tolerance) := goodIn_app (goodIn_of _ (by decide +kernel)) ggX9_print_X7_tolerance
set_option maxRecDepth 20000 in
theorem ggX9_print_X3_run : GoodIn wsX9_print wsX3_run := goodIn_r _ [44, 19, 45, 46, 47, 48, 49, 50, 51, 52, 53, 54, 55, 56, 57, 58, 17, 59, 60, 61, 62, 63, 64, 65, 66, 67, 68, 69, 70, 71, 72, 73, 74, 75, 76, 77, 78, 79, 80, 81, 82, 101, 102, 103, 104, 105, 106, 114, 115, 116, 117, 118, 119, 120, 121, 122] (by decide +kernel) (by decide +kernel)
set_option maxRecDepth 20000 in
theorem gX9_print_X3_run : GoodIn wsX9_print (wsV RX9 156 RX3 yX3_run wsX3_run) := goodIn_app (goodIn_of _ (by decide +kernel)) ggX9_print_X3_run
set_option maxRecDepth 20000 in
theorem ggX9_print_X0_take : GoodIn wsX9_print wsX0_take := goodIn_r _ [87, 88, 89, 90, 91, 92, 123, 124, 125, 126, 127, 128] (by decide +kernel) (by decide +kernel)
set_option maxRecDepth 20000 in
theorem gX9_print_X0_take : GoodIn wsX9_print (wsV RX9 160 RX0 yX0_take wsX0_take) := goodIn_app (goodIn_of _ (by decide +kernel)) ggX9_print_X0_take
theorem dX9_print_0 : decode cX9_print 0 = .ok (.iload_n 1, 1) := by decide +kernel
theorem dX9_print_1 : decode cX9_print 1 = .ok (.iconst 1, 1) := by decide +kernel
theorem dX9_print_2 : decode cX9_print 2 = .ok (.bipush 100, 2) := by decide +kernel
theorem dX9_print_4 : decode cX9_print 4 = .ok (.invokestatic 69, 3) := by decide +kernel
theorem dX9_print_7 : decode cX9_print 7 = .ok (.aload_n 0, 1) := by decide +kernel
theorem dX9_print_8 : decode cX9_print 8 = .ok (.getfield 47, 3) := by decide +kernel
theorem dX9_print_11 : decode cX9_print 11 = .ok (.invokevirtual 124, 3) := by decide +kernel
theorem dX9_print_14 : decode cX9_print 14 = .ok (.iload_n 1, 1) := by decide +kernel
theorem dX9_print_15 : decode cX9_print 15 = .ok (.iadd, 1) := by decide +kernel
theorem dX9_print_16 : decode cX9_print 16 = .ok (.sipush 20000, 3) := by decide +kernel
theorem dX9_print_19 : decode cX9_print 19 = .ok (.if_icmp .le 13, 3) := by decide +kernel
theorem dX9_print_22 : decode cX9_print 22 = .ok (.new 92, 3) := by decide +kernel
theorem dX9_print_25 : decode cX9_print 25 = .ok (.dup, 1) := by decide +kernel
theorem dX9_print_26 : decode cX9_print 26 = .ok (.ldc 147, 2) := by decide +kernel
theorem dX9_print_28 : decode cX9_print 28 = .ok (.invokespecial 96, 3) := by decide +kernel
theorem dX9_print_31 : decode cX9_print 31 = .ok (.athrow, 1) := by decide +kernel
theorem dX9_print_32 : decode cX9_print 32 = .ok (.aload_n 0, 1) := by decide +kernel
theorem dX9_print_33 : decode cX9_print 33 = .ok (.getfield 47, 3) := by decide +kernel
theorem dX9_print_36 : decode cX9_print 36 = .ok (.aload_n 0, 1) := by decide +kernel
theorem dX9_print_37 : decode cX9_print 37 = .ok (.getfield 33, 3) := by decide +kernel
theorem dX9_print_40 : decode cX9_print 40 = .ok (.invokevirtual 149, 3) := by decide +kernel
theorem dX9_print_43 : decode cX9_print 43 = .ok (.istore_n 2, 1) := by decide +kernel
theorem dX9_print_44 : decode cX9_print 44 = .ok (.iconst 0, 1) := by decide +kernel
theorem dX9_print_45 : decode cX9_print 45 = .ok (.istore_n 3, 1) := by decide +kernel
theorem dX9_print_46 : decode cX9_print 46 = .ok (.iconst 0, 1) := by decide +kernel
theorem dX9_print_47 : decode cX9_print 47 = .ok (.istore 4, 2) := by decide +kernel
theorem dX9_print_49 : decode cX9_print 49 = .ok (.iload 4, 2) := by decide +kernel
theorem dX9_print_51 : decode cX9_print 51 = .ok (.iload_n 1, 1) := by decide +kernel
theorem dX9_print_52 : decode cX9_print 52 = .ok (.if_icmp .ge 47, 3) := by decide +kernel
theorem dX9_print_55 : decode cX9_print 55 = .ok (.aload_n 0, 1) := by decide +kernel
theorem dX9_print_56 : decode cX9_print 56 = .ok (.getfield 47, 3) := by decide +kernel
theorem dX9_print_59 : decode cX9_print 59 = .ok (.aload_n 0, 1) := by decide +kernel
theorem dX9_print_60 : decode cX9_print 60 = .ok (.getfield 40, 3) := by decide +kernel
theorem dX9_print_63 : decode cX9_print 63 = .ok (.aload_n 0, 1) := by decide +kernel
theorem dX9_print_64 : decode cX9_print 64 = .ok (.getfield 10, 3) := by decide +kernel
theorem dX9_print_67 : decode cX9_print 67 = .ok (.invokevirtual 153, 3) := by decide +kernel
theorem dX9_print_70 : decode cX9_print 70 = .ok (.iload_n 2, 1) := by decide +kernel
theorem dX9_print_71 : decode cX9_print 71 = .ok (.invokevirtual 156, 3) := by decide +kernel
theorem dX9_print_74 : decode cX9_print 74 = .ok (.istore 5, 2) := by decide +kernel
theorem dX9_print_76 : decode cX9_print 76 = .ok (.aload_n 0, 1) := by decide +kernel
theorem dX9_print_77 : decode cX9_print 77 = .ok (.getfield 54, 3) := by decide +kernel
theorem dX9_print_80 : decode cX9_print 80 = .ok (.iload 5, 2) := by decide +kernel
theorem dX9_print_82 : decode cX9_print 82 = .ok (.invokevirtual 160, 3) := by decide +kernel
theorem dX9_print_85 : decode cX9_print 85 = .ok (.iload 5, 2) := by decide +kernel
theorem dX9_print_87 : decode cX9_print 87 = .ok (.ifCond .eq 6, 3) := by decide +kernel
theorem dX9_print_90 : decode cX9_print 90 = .ok (.iinc 3 1, 3) := by decide +kernel
theorem dX9_print_93 : decode cX9_print 93 = .ok (.iinc 4 1, 3) := by decide +kernel
theorem dX9_print_96 : decode cX9_print 96 = .ok (.goto (-47), 3) := by decide +kernel
theorem dX9_print_99 : decode cX9_print 99 = .ok (.iload_n 3, 1) := by decide +kernel
theorem dX9_print_100 : decode cX9_print 100 = .ok (.ireturn, 1) := by decide +kernel
set_option maxRecDepth 20000 in
theorem ggX9_sign_X4_take : GoodIn wsX9_sign wsX4_take := goodIn_r _ [8, 9, 10, 11, 12, 13, 14, 15, 16, 17, 18, 19, 20, 21, 22, 23, 24, 25, 34, 35, 36, 37, 38, 39, 40, 41, 42] (by decide +kernel) (by decide +kernel)
set_option maxRecDepth 20000 in
theorem gX9_sign_X4_take : GoodIn wsX9_sign (wsV RX9 164 RX4 yX4_take wsX4_take) := goodIn_app (goodIn_of _ (by decide +kernel)) ggX9_sign_X4_take
theorem dX9_sign_0 : decode cX9_sign 0 = .ok (.aload_n 0, 1) := by decide +kernel
theorem dX9_sign_1 : decode cX9_sign 1 = .ok (.getfield 61, 3) := by decide +kernel
theorem dX9_sign_4 : decode cX9_sign 4 = .ok (.aload_n 0, 1) := by decide +kernel
theorem dX9_sign_5 : decode cX9_sign 5 = .ok (.getfield 33, 3) := by decide +kernel
theorem dX9_sign_8 : decode cX9_sign 8 = .ok (.aload_n 0, 1) := by decide +kernel
theorem dX9_sign_9 : decode cX9_sign 9 = .ok (.getfield 10, 3) := by decide +kernel
theorem dX9_sign_12 : decode cX9_sign 12 = .ok (.invokevirtual 164, 3) := by decide +kernel
theorem dX9_sign_15 : decode cX9_sign 15 = .ok (.ireturn, 1) := by decide +kernel
set_option maxRecDepth 20000 in
theorem ggX9_differs_X9_needIndex : GoodIn wsX9_differs wsX9_needIndex := goodIn_ca (goodIn_r _ [7, 8, 9] (by decide +kernel) (by decide +kernel)) (goodIn_sub (fun _ h => List.mem_cons_of_mem _ (List.mem_append_left _ (List.mem_append_right _ h))) (by decide +kernel))
set_option maxRecDepth 20000 in
theorem gX9_differs_X9_needIndex : GoodIn wsX9_differs (va_wsS RX9 65 yX9_needIndex wsX9_needIndex) := goodIn_app (goodIn_of _ (by decide +kernel)) ggX9_differs_X9_needIndex
set_option maxRecDepth 20000 in
theorem ggX9_differs_X9_needProof : GoodIn wsX9_differs wsX9_needProof := goodIn_ca (goodIn_r _ [13, 14, 15, 1, 16, 17, 18, 19, 20, 21, 46, 47, 48, 49, 50, 51, 52, 53, 54, 55] (by decide +kernel) (by decide +kernel)) (goodIn_sub (fun _ h => List.mem_cons_of_mem _ (List.mem_append_right _ h)) (by decide +kernel))
set_option maxRecDepth 20000 in
theorem gX9_differs_X9_needProof : GoodIn wsX9_differs (wsV RX9 167 RX9 yX9_needProof wsX9_needProof) := goodIn_app (goodIn_of _ (by decide +kernel)) ggX9_differs_X9_needProof
set_option maxRecDepth 20000 in
theorem ggX9_differs_X4_difference : GoodIn wsX9_differs wsX4_difference := goodIn_r _ [25, 26, 27, 28, 29, 30, 31, 32, 33, 34, 35, 36, 37, 38, 39, 40, 41, 42, 43, 44, 45, 54, 55, 56, 57, 58, 59, 60, 61, 62] (by decide +kernel) (by decide +kernel)
set_option maxRecDepth 20000 in
theorem gX9_differs_X4_difference : GoodIn wsX9_differs (wsV RX9 170 RX4 yX4_difference wsX4_difference) := goodIn_app (goodIn_of _ (by decide +kernel)) ggX9_differs_X4_difference
theorem dX9_differs_0 : decode cX9_differs 0 = .ok (.iload_n 1, 1) := by decide +kernel
theorem dX9_differs_1 : decode cX9_differs 1 = .ok (.bipush 64, 2) := by decide +kernel
theorem dX9_differs_3 : decode cX9_differs 3 = .ok (.invokestatic 65, 3) := by decide +kernel
theorem dX9_differs_6 : decode cX9_differs 6 = .ok (.aload_n 0, 1) := by decide +kernel
theorem dX9_differs_7 : decode cX9_differs 7 = .ok (.invokevirtual 167, 3) := by decide +kernel
theorem dX9_differs_10 : decode cX9_differs 10 = .ok (.aload_n 0, 1) := by decide +kernel
theorem dX9_differs_11 : decode cX9_differs 11 = .ok (.getfield 61, 3) := by decide +kernel
theorem dX9_differs_14 : decode cX9_differs 14 = .ok (.iload_n 1, 1) := by decide +kernel
theorem dX9_differs_15 : decode cX9_differs 15 = .ok (.aload_n 0, 1) := by decide +kernel
theorem dX9_differs_16 : decode cX9_differs 16 = .ok (.getfield 33, 3) := by decide +kernel
theorem dX9_differs_19 : decode cX9_differs 19 = .ok (.aload_n 0, 1) := by decide +kernel
theorem dX9_differs_20 : decode cX9_differs 20 = .ok (.getfield 10, 3) := by decide +kernel
theorem dX9_differs_23 : decode cX9_differs 23 = .ok (.invokevirtual 170, 3) := by decide +kernel
theorem dX9_differs_26 : decode cX9_differs 26 = .ok (.ireturn, 1) := by decide +kernel
set_option maxRecDepth 20000 in
theorem ggX9_claim_X9_needIndex : GoodIn wsX9_claim wsX9_needIndex := goodIn_ca (goodIn_r _ [7, 8, 9] (by decide +kernel) (by decide +kernel)) (goodIn_sub (fun _ h => List.mem_cons_of_mem _ (List.mem_append_left _ (List.mem_append_right _ h))) (by decide +kernel))
set_option maxRecDepth 20000 in
theorem gX9_claim_X9_needIndex : GoodIn wsX9_claim (va_wsS RX9 65 yX9_needIndex wsX9_needIndex) := goodIn_app (goodIn_of _ (by decide +kernel)) ggX9_claim_X9_needIndex
set_option maxRecDepth 20000 in
theorem ggX9_claim_X9_needProof : GoodIn wsX9_claim wsX9_needProof := goodIn_ca (goodIn_r _ [13, 14, 15, 1, 16, 17, 18, 19, 20, 21, 46, 47, 48, 49, 50, 51, 52, 53, 54, 55] (by decide +kernel) (by decide +kernel)) (goodIn_sub (fun _ h => List.mem_cons_of_mem _ (List.mem_append_right _ h)) (by decide +kernel))
set_option maxRecDepth 20000 in
theorem gX9_claim_X9_needProof : GoodIn wsX9_claim (wsV RX9 167 RX9 yX9_needProof wsX9_needProof) := goodIn_app (goodIn_of _ (by decide +kernel)) ggX9_claim_X9_needProof
set_option maxRecDepth 20000 in
theorem ggX9_claim_X4_difference : GoodIn wsX9_claim wsX4_difference := goodIn_r _ [25, 26, 27, 28, 29, 30, 31, 32, 33, 34, 35, 36, 37, 38, 39, 40, 41, 42, 43, 44, 45, 54, 55, 56, 57, 58, 59, 60, 61, 62] (by decide +kernel) (by decide +kernel)
set_option maxRecDepth 20000 in
theorem gX9_claim_X4_difference : GoodIn wsX9_claim (wsV RX9 170 RX4 yX4_difference wsX4_difference) := goodIn_app (goodIn_of _ (by decide +kernel)) ggX9_claim_X4_difference
theorem dX9_claim_0 : decode cX9_claim 0 = .ok (.iload_n 1, 1) := by decide +kernel
theorem dX9_claim_1 : decode cX9_claim 1 = .ok (.bipush 64, 2) := by decide +kernel
theorem dX9_claim_3 : decode cX9_claim 3 = .ok (.invokestatic 65, 3) := by decide +kernel
theorem dX9_claim_6 : decode cX9_claim 6 = .ok (.aload_n 0, 1) := by decide +kernel
theorem dX9_claim_7 : decode cX9_claim 7 = .ok (.invokevirtual 167, 3) := by decide +kernel
theorem dX9_claim_10 : decode cX9_claim 10 = .ok (.aload_n 0, 1) := by decide +kernel
theorem dX9_claim_11 : decode cX9_claim 11 = .ok (.getfield 61, 3) := by decide +kernel
theorem dX9_claim_14 : decode cX9_claim 14 = .ok (.iload_n 1, 1) := by decide +kernel
theorem dX9_claim_15 : decode cX9_claim 15 = .ok (.aload_n 0, 1) := by decide +kernel
theorem dX9_claim_16 : decode cX9_claim 16 = .ok (.getfield 33, 3) := by decide +kernel
theorem dX9_claim_19 : decode cX9_claim 19 = .ok (.aload_n 0, 1) := by decide +kernel
theorem dX9_claim_20 : decode cX9_claim 20 = .ok (.getfield 10, 3) := by decide +kernel
theorem dX9_claim_23 : decode cX9_claim 23 = .ok (.invokevirtual 170, 3) := by decide +kernel
theorem dX9_claim_26 : decode cX9_claim 26 = .ok (.iconst 5, 1) := by decide +kernel
theorem dX9_claim_27 : decode cX9_claim 27 = .ok (.if_icmp .le 7, 3) := by decide +kernel
theorem dX9_claim_30 : decode cX9_claim 30 = .ok (.iconst 1, 1) := by decide +kernel
theorem dX9_claim_31 : decode cX9_claim 31 = .ok (.goto 4, 3) := by decide +kernel
theorem dX9_claim_34 : decode cX9_claim 34 = .ok (.iconst 0, 1) := by decide +kernel
theorem dX9_claim_35 : decode cX9_claim 35 = .ok (.ireturn, 1) := by decide +kernel
set_option maxRecDepth 20000 in
theorem ggX9_ink_X9_needIndex : GoodIn wsX9_ink wsX9_needIndex := goodIn_ca (goodIn_r _ [9, 10, 11] (by decide +kernel) (by decide +kernel)) (goodIn_sub (fun _ h => List.mem_cons_of_mem _ (List.mem_append_right _ h)) (by decide +kernel))
set_option maxRecDepth 20000 in
theorem gX9_ink_X9_needIndex : GoodIn wsX9_ink (va_wsS RX9 65 yX9_needIndex wsX9_needIndex) := goodIn_app (goodIn_of _ (by decide +kernel)) ggX9_ink_X9_needIndex
set_option maxRecDepth 20000 in
theorem ggX9_ink_X1_aheadOfTraps : GoodIn wsX9_ink wsX1_aheadOfTraps := goodIn_r _ [16, 17, 18, 19, 20, 21, 22, 23, 24, 25, 26, 27, 28, 29, 30, 31, 32, 84, 85, 86, 87, 88, 89, 90] (by decide +kernel) (by decide +kernel)
set_option maxRecDepth 20000 in
theorem gX9_ink_X1_aheadOfTraps : GoodIn wsX9_ink (wsV RX9 174 RX1 yX1_aheadOfTraps wsX1_aheadOfTraps) := goodIn_app (goodIn_of _ (by decide +kernel)) ggX9_ink_X1_aheadOfTraps
set_option maxRecDepth 20000 in
theorem ggX9_ink_X1_wanted : GoodIn wsX9_ink wsX1_wanted := goodIn_r _ [36, 37, 38, 20, 39, 40, 13, 14, 15, 16, 17, 18, 19, 21, 22, 23, 24, 25, 26, 27, 28, 29, 30, 31, 32, 41, 42, 43, 44, 45, 46, 47, 48, 49, 50, 51, 52, 53, 84, 85, 86, 87, 88, 89, 90] (by decide +kernel) (by decide +kernel)
set_option maxRecDepth 20000 in
theorem gX9_ink_X1_wanted : GoodIn wsX9_ink (wsV RX9 178 RX1 yX1_wanted wsX1_wanted) := goodIn_app (goodIn_of _ (by decide +kernel)) ggX9_ink_X1_wanted
set_option maxRecDepth 20000 in
theorem ggX9_ink_X7_gain : GoodIn wsX9_ink wsX7_gain := goodIn_r _ [57, 58, 85, 86, 87, 88, 89, 90] (by decide +kernel) (by decide +kernel)
set_option maxRecDepth 20000 in
theorem gX9_ink_X7_gain : GoodIn wsX9_ink (wsV RX9 181 RX7 yX7_gain wsX7_gain) := goodIn_app (goodIn_of _ (by decide +kernel)) ggX9_ink_X7_gain
set_option maxRecDepth 20000 in
theorem ggX9_ink_X2_leastTint : GoodIn wsX9_ink wsX2_leastTint := goodIn_r _ [62, 63, 64, 61, 65] (by decide +kernel) (by decide +kernel)
set_option maxRecDepth 20000 in
theorem gX9_ink_X2_leastTint : GoodIn wsX9_ink (va_wsS RX9 185 yX2_leastTint wsX2_leastTint) := goodIn_app (goodIn_of _ (by decide +kernel)) ggX9_ink_X2_leastTint
set_option maxRecDepth 20000 in
theorem ggX9_ink_X2_tint : GoodIn wsX9_ink wsX2_tint := goodIn_r _ [69, 70, 91] (by decide +kernel) (by decide +kernel)
set_option maxRecDepth 20000 in
theorem gX9_ink_X2_tint : GoodIn wsX9_ink (wsV RX9 189 RX2 yX2_tint wsX2_tint) := goodIn_app (goodIn_of _ (by decide +kernel)) ggX9_ink_X2_tint
set_option maxRecDepth 20000 in
theorem ggX9_ink_X2_printed : GoodIn wsX9_ink wsX2_printed := goodIn_r _ [74, 70, 75, 55, 56, 25, 57, 58, 63, 64, 61, 65, 91, 85, 86, 87, 88, 89, 90] (by decide +kernel) (by decide +kernel)
set_option maxRecDepth 20000 in
theorem gX9_ink_X2_printed : GoodIn wsX9_ink (wsV RX9 192 RX2 yX2_printed wsX2_printed) := goodIn_app (goodIn_of _ (by decide +kernel)) ggX9_ink_X2_printed
theorem dX9_ink_0 : decode cX9_ink 0 = .ok (.iload_n 1, 1) := by decide +kernel
theorem dX9_ink_1 : decode cX9_ink 1 = .ok (.bipush 64, 2) := by decide +kernel
theorem dX9_ink_3 : decode cX9_ink 3 = .ok (.invokestatic 65, 3) := by decide +kernel
theorem dX9_ink_6 : decode cX9_ink 6 = .ok (.iload_n 2, 1) := by decide +kernel
theorem dX9_ink_7 : decode cX9_ink 7 = .ok (.iconst 4, 1) := by decide +kernel
theorem dX9_ink_8 : decode cX9_ink 8 = .ok (.invokestatic 65, 3) := by decide +kernel
theorem dX9_ink_11 : decode cX9_ink 11 = .ok (.iload_n 3, 1) := by decide +kernel
theorem dX9_ink_12 : decode cX9_ink 12 = .ok (.tableswitch 113 0 4 #[36, 50, 64, 89, 99], 36) := by decide +kernel
theorem dX9_ink_48 : decode cX9_ink 48 = .ok (.aload_n 0, 1) := by decide +kernel
theorem dX9_ink_49 : decode cX9_ink 49 = .ok (.getfield 26, 3) := by decide +kernel
theorem dX9_ink_52 : decode cX9_ink 52 = .ok (.iload_n 1, 1) := by decide +kernel
theorem dX9_ink_53 : decode cX9_ink 53 = .ok (.iload_n 2, 1) := by decide +kernel
theorem dX9_ink_54 : decode cX9_ink 54 = .ok (.aload_n 0, 1) := by decide +kernel
theorem dX9_ink_55 : decode cX9_ink 55 = .ok (.getfield 10, 3) := by decide +kernel
theorem dX9_ink_58 : decode cX9_ink 58 = .ok (.invokevirtual 174, 3) := by decide +kernel
theorem dX9_ink_61 : decode cX9_ink 61 = .ok (.ireturn, 1) := by decide +kernel
theorem dX9_ink_62 : decode cX9_ink 62 = .ok (.aload_n 0, 1) := by decide +kernel
theorem dX9_ink_63 : decode cX9_ink 63 = .ok (.getfield 26, 3) := by decide +kernel
theorem dX9_ink_66 : decode cX9_ink 66 = .ok (.iload_n 1, 1) := by decide +kernel
theorem dX9_ink_67 : decode cX9_ink 67 = .ok (.iload_n 2, 1) := by decide +kernel
theorem dX9_ink_68 : decode cX9_ink 68 = .ok (.aload_n 0, 1) := by decide +kernel
theorem dX9_ink_69 : decode cX9_ink 69 = .ok (.getfield 10, 3) := by decide +kernel
theorem dX9_ink_72 : decode cX9_ink 72 = .ok (.invokevirtual 178, 3) := by decide +kernel
theorem dX9_ink_75 : decode cX9_ink 75 = .ok (.ireturn, 1) := by decide +kernel
theorem dX9_ink_76 : decode cX9_ink 76 = .ok (.aload_n 0, 1) := by decide +kernel
theorem dX9_ink_77 : decode cX9_ink 77 = .ok (.getfield 26, 3) := by decide +kernel
theorem dX9_ink_80 : decode cX9_ink 80 = .ok (.iload_n 1, 1) := by decide +kernel
theorem dX9_ink_81 : decode cX9_ink 81 = .ok (.iload_n 2, 1) := by decide +kernel
theorem dX9_ink_82 : decode cX9_ink 82 = .ok (.aload_n 0, 1) := by decide +kernel
theorem dX9_ink_83 : decode cX9_ink 83 = .ok (.getfield 10, 3) := by decide +kernel
theorem dX9_ink_86 : decode cX9_ink 86 = .ok (.invokevirtual 178, 3) := by decide +kernel
theorem dX9_ink_89 : decode cX9_ink 89 = .ok (.aload_n 0, 1) := by decide +kernel
theorem dX9_ink_90 : decode cX9_ink 90 = .ok (.getfield 10, 3) := by decide +kernel
theorem dX9_ink_93 : decode cX9_ink 93 = .ok (.iload_n 2, 1) := by decide +kernel
theorem dX9_ink_94 : decode cX9_ink 94 = .ok (.invokevirtual 181, 3) := by decide +kernel
theorem dX9_ink_97 : decode cX9_ink 97 = .ok (.invokestatic 185, 3) := by decide +kernel
theorem dX9_ink_100 : decode cX9_ink 100 = .ok (.ireturn, 1) := by decide +kernel
theorem dX9_ink_101 : decode cX9_ink 101 = .ok (.aload_n 0, 1) := by decide +kernel
theorem dX9_ink_102 : decode cX9_ink 102 = .ok (.getfield 33, 3) := by decide +kernel
theorem dX9_ink_105 : decode cX9_ink 105 = .ok (.iload_n 1, 1) := by decide +kernel
theorem dX9_ink_106 : decode cX9_ink 106 = .ok (.iload_n 2, 1) := by decide +kernel
theorem dX9_ink_107 : decode cX9_ink 107 = .ok (.invokevirtual 189, 3) := by decide +kernel
theorem dX9_ink_110 : decode cX9_ink 110 = .ok (.ireturn, 1) := by decide +kernel
theorem dX9_ink_111 : decode cX9_ink 111 = .ok (.aload_n 0, 1) := by decide +kernel
theorem dX9_ink_112 : decode cX9_ink 112 = .ok (.getfield 33, 3) := by decide +kernel
theorem dX9_ink_115 : decode cX9_ink 115 = .ok (.iload_n 1, 1) := by decide +kernel
theorem dX9_ink_116 : decode cX9_ink 116 = .ok (.iload_n 2, 1) := by decide +kernel
theorem dX9_ink_117 : decode cX9_ink 117 = .ok (.aload_n 0, 1) := by decide +kernel
theorem dX9_ink_118 : decode cX9_ink 118 = .ok (.getfield 10, 3) := by decide +kernel
theorem dX9_ink_121 : decode cX9_ink 121 = .ok (.invokevirtual 192, 3) := by decide +kernel
theorem dX9_ink_124 : decode cX9_ink 124 = .ok (.ireturn, 1) := by decide +kernel
theorem dX9_ink_125 : decode cX9_ink 125 = .ok (.new 81, 3) := by decide +kernel
theorem dX9_ink_128 : decode cX9_ink 128 = .ok (.dup, 1) := by decide +kernel
theorem dX9_ink_129 : decode cX9_ink 129 = .ok (.ldc 194, 2) := by decide +kernel
theorem dX9_ink_131 : decode cX9_ink 131 = .ok (.invokespecial 85, 3) := by decide +kernel
theorem dX9_ink_134 : decode cX9_ink 134 = .ok (.athrow, 1) := by decide +kernel
set_option maxRecDepth 20000 in
theorem ggX9_dot_X9_needIndex : GoodIn wsX9_dot wsX9_needIndex := goodIn_ca (goodIn_r _ [5, 6, 7] (by decide +kernel) (by decide +kernel)) (goodIn_sub (fun _ h => List.mem_cons_of_mem _ (List.mem_append_right _ h)) (by decide +kernel))
set_option maxRecDepth 20000 in
theorem gX9_dot_X9_needIndex : GoodIn wsX9_dot (va_wsS RX9 65 yX9_needIndex wsX9_needIndex) := goodIn_app (goodIn_of _ (by decide +kernel)) ggX9_dot_X9_needIndex
set_option maxRecDepth 20000 in
theorem ggX9_dot_X2_hasDot : GoodIn wsX9_dot wsX2_hasDot := goodIn_r _ [12, 13, 22] (by decide +kernel) (by decide +kernel)
set_option maxRecDepth 20000 in
theorem gX9_dot_X2_hasDot : GoodIn wsX9_dot (wsV RX9 196 RX2 yX2_hasDot wsX2_hasDot) := goodIn_app (goodIn_of _ (by decide +kernel)) ggX9_dot_X2_hasDot
theorem dX9_dot_0 : decode cX9_dot 0 = .ok (.iload_n 1, 1) := by decide +kernel
theorem dX9_dot_1 : decode cX9_dot 1 = .ok (.bipush 64, 2) := by decide +kernel
theorem dX9_dot_3 : decode cX9_dot 3 = .ok (.invokestatic 65, 3) := by decide +kernel
theorem dX9_dot_6 : decode cX9_dot 6 = .ok (.iload_n 2, 1) := by decide +kernel
theorem dX9_dot_7 : decode cX9_dot 7 = .ok (.iconst 4, 1) := by decide +kernel
theorem dX9_dot_8 : decode cX9_dot 8 = .ok (.invokestatic 65, 3) := by decide +kernel
theorem dX9_dot_11 : decode cX9_dot 11 = .ok (.aload_n 0, 1) := by decide +kernel
theorem dX9_dot_12 : decode cX9_dot 12 = .ok (.getfield 33, 3) := by decide +kernel
theorem dX9_dot_15 : decode cX9_dot 15 = .ok (.iload_n 1, 1) := by decide +kernel
theorem dX9_dot_16 : decode cX9_dot 16 = .ok (.iload_n 2, 1) := by decide +kernel
theorem dX9_dot_17 : decode cX9_dot 17 = .ok (.invokevirtual 196, 3) := by decide +kernel
theorem dX9_dot_20 : decode cX9_dot 20 = .ok (.ireturn, 1) := by decide +kernel
set_option maxRecDepth 20000 in
theorem ggX9_unit_X9_needIndex : GoodIn wsX9_unit wsX9_needIndex := goodIn_ca (goodIn_r _ [7, 8, 9] (by decide +kernel) (by decide +kernel)) (goodIn_sub (fun _ h => List.mem_cons_of_mem _ (List.mem_append_left _ (List.mem_append_right _ h))) (by decide +kernel))
set_option maxRecDepth 20000 in
theorem gX9_unit_X9_needIndex : GoodIn wsX9_unit (va_wsS RX9 65 yX9_needIndex wsX9_needIndex) := goodIn_app (goodIn_of _ (by decide +kernel)) ggX9_unit_X9_needIndex
set_option maxRecDepth 20000 in
theorem ggX9_unit_X9_needRange : GoodIn wsX9_unit wsX9_needRange := goodIn_ca (goodIn_r _ [12, 13, 14] (by decide +kernel) (by decide +kernel)) (goodIn_sub (fun _ h => List.mem_cons_of_mem _ (List.mem_append_right _ h)) (by decide +kernel))
set_option maxRecDepth 20000 in
theorem gX9_unit_X9_needRange : GoodIn wsX9_unit (va_wsS RX9 69 yX9_needRange wsX9_needRange) := goodIn_app (goodIn_of _ (by decide +kernel)) ggX9_unit_X9_needRange
set_option maxRecDepth 20000 in
theorem ggX9_unit_X5_x : GoodIn wsX9_unit wsX5_x := goodIn_r _ [19, 20, 46, 47, 48, 49, 50, 51, 52, 53, 54] (by decide +kernel) (by decide +kernel)
set_option maxRecDepth 20000 in
theorem gX9_unit_X5_x : GoodIn wsX9_unit (wsV RX9 200 RX5 yX5_x wsX5_x) := goodIn_app (goodIn_of _ (by decide +kernel)) ggX9_unit_X5_x
set_option maxRecDepth 20000 in
theorem ggX9_unit_X5_y : GoodIn wsX9_unit wsX5_y := goodIn_r _ [24, 25, 46, 47, 48, 49, 50, 51, 52, 53, 54] (by decide +kernel) (by decide +kernel)
set_option maxRecDepth 20000 in
theorem gX9_unit_X5_y : GoodIn wsX9_unit (wsV RX9 203 RX5 yX5_y wsX5_y) := goodIn_app (goodIn_of _ (by decide +kernel)) ggX9_unit_X5_y
set_option maxRecDepth 20000 in
theorem ggX9_unit_X3_density : GoodIn wsX9_unit wsX3_density := goodIn_r _ [30, 31, 32, 33, 34, 35, 36, 37, 55, 56, 57, 58, 59, 60, 61] (by decide +kernel) (by decide +kernel)
set_option maxRecDepth 20000 in
theorem gX9_unit_X3_density : GoodIn wsX9_unit (wsV RX9 206 RX3 yX3_density wsX3_density) := goodIn_app (goodIn_of _ (by decide +kernel)) ggX9_unit_X3_density
theorem dX9_unit_0 : decode cX9_unit 0 = .ok (.iload_n 1, 1) := by decide +kernel
theorem dX9_unit_1 : decode cX9_unit 1 = .ok (.iconst 4, 1) := by decide +kernel
theorem dX9_unit_2 : decode cX9_unit 2 = .ok (.invokestatic 65, 3) := by decide +kernel
theorem dX9_unit_5 : decode cX9_unit 5 = .ok (.iload_n 2, 1) := by decide +kernel
theorem dX9_unit_6 : decode cX9_unit 6 = .ok (.iconst 0, 1) := by decide +kernel
theorem dX9_unit_7 : decode cX9_unit 7 = .ok (.bipush 9, 2) := by decide +kernel
theorem dX9_unit_9 : decode cX9_unit 9 = .ok (.invokestatic 69, 3) := by decide +kernel
theorem dX9_unit_12 : decode cX9_unit 12 = .ok (.iload_n 2, 1) := by decide +kernel
theorem dX9_unit_13 : decode cX9_unit 13 = .ok (.ifCond .ne 12, 3) := by decide +kernel
theorem dX9_unit_16 : decode cX9_unit 16 = .ok (.aload_n 0, 1) := by decide +kernel
theorem dX9_unit_17 : decode cX9_unit 17 = .ok (.getfield 40, 3) := by decide +kernel
theorem dX9_unit_20 : decode cX9_unit 20 = .ok (.iload_n 1, 1) := by decide +kernel
theorem dX9_unit_21 : decode cX9_unit 21 = .ok (.invokevirtual 200, 3) := by decide +kernel
theorem dX9_unit_24 : decode cX9_unit 24 = .ok (.ireturn, 1) := by decide +kernel
theorem dX9_unit_25 : decode cX9_unit 25 = .ok (.iload_n 2, 1) := by decide +kernel
theorem dX9_unit_26 : decode cX9_unit 26 = .ok (.iconst 1, 1) := by decide +kernel
theorem dX9_unit_27 : decode cX9_unit 27 = .ok (.if_icmp .ne 12, 3) := by decide +kernel
theorem dX9_unit_30 : decode cX9_unit 30 = .ok (.aload_n 0, 1) := by decide +kernel
theorem dX9_unit_31 : decode cX9_unit 31 = .ok (.getfield 40, 3) := by decide +kernel
theorem dX9_unit_34 : decode cX9_unit 34 = .ok (.iload_n 1, 1) := by decide +kernel
theorem dX9_unit_35 : decode cX9_unit 35 = .ok (.invokevirtual 203, 3) := by decide +kernel
theorem dX9_unit_38 : decode cX9_unit 38 = .ok (.ireturn, 1) := by decide +kernel
theorem dX9_unit_39 : decode cX9_unit 39 = .ok (.aload_n 0, 1) := by decide +kernel
theorem dX9_unit_40 : decode cX9_unit 40 = .ok (.getfield 47, 3) := by decide +kernel
theorem dX9_unit_43 : decode cX9_unit 43 = .ok (.iload_n 1, 1) := by decide +kernel
theorem dX9_unit_44 : decode cX9_unit 44 = .ok (.iload_n 2, 1) := by decide +kernel
theorem dX9_unit_45 : decode cX9_unit 45 = .ok (.iconst 2, 1) := by decide +kernel
theorem dX9_unit_46 : decode cX9_unit 46 = .ok (.isub, 1) := by decide +kernel
theorem dX9_unit_47 : decode cX9_unit 47 = .ok (.aload_n 0, 1) := by decide +kernel
theorem dX9_unit_48 : decode cX9_unit 48 = .ok (.getfield 33, 3) := by decide +kernel
theorem dX9_unit_51 : decode cX9_unit 51 = .ok (.invokevirtual 206, 3) := by decide +kernel
theorem dX9_unit_54 : decode cX9_unit 54 = .ok (.ireturn, 1) := by decide +kernel
set_option maxRecDepth 20000 in
theorem ggX9_copy_X0_copies : GoodIn wsX9_copy wsX0_copies := goodIn_r _ [6, 7, 37, 38, 39, 40, 41, 42] (by decide +kernel) (by decide +kernel)
set_option maxRecDepth 20000 in
theorem gX9_copy_X0_copies : GoodIn wsX9_copy (wsV RX9 210 RX0 yX0_copies wsX0_copies) := goodIn_app (goodIn_of _ (by decide +kernel)) ggX9_copy_X0_copies
set_option maxRecDepth 20000 in
theorem ggX9_copy_X9_needIndex : GoodIn wsX9_copy wsX9_needIndex := goodIn_ca (goodIn_r _ [11, 12, 13] (by decide +kernel) (by decide +kernel)) (goodIn_sub (fun _ h => List.mem_cons_of_mem _ (List.mem_append_left _ (List.mem_append_right _ h))) (by decide +kernel))
set_option maxRecDepth 20000 in
theorem gX9_copy_X9_needIndex : GoodIn wsX9_copy (va_wsS RX9 65 yX9_needIndex wsX9_needIndex) := goodIn_app (goodIn_of _ (by decide +kernel)) ggX9_copy_X9_needIndex
set_option maxRecDepth 20000 in
theorem ggX9_copy_X9_needRange : GoodIn wsX9_copy wsX9_needRange := goodIn_ca (goodIn_r _ [16, 17, 18] (by decide +kernel) (by decide +kernel)) (goodIn_sub (fun _ h => List.mem_cons_of_mem _ (List.mem_append_right _ h)) (by decide +kernel))
set_option maxRecDepth 20000 in
theorem gX9_copy_X9_needRange : GoodIn wsX9_copy (va_wsS RX9 69 yX9_needRange wsX9_needRange) := goodIn_app (goodIn_of _ (by decide +kernel)) ggX9_copy_X9_needRange
set_option maxRecDepth 20000 in
theorem ggX9_copy_X0_isGood : GoodIn wsX9_copy wsX0_isGood := goodIn_r _ [22, 23, 37, 38, 39, 40, 41, 42] (by decide +kernel) (by decide +kernel)
set_option maxRecDepth 20000 in
theorem gX9_copy_X0_isGood : GoodIn wsX9_copy (wsV RX9 213 RX0 yX0_isGood wsX0_isGood) := goodIn_app (goodIn_of _ (by decide +kernel)) ggX9_copy_X0_isGood
set_option maxRecDepth 20000 in
theorem ggX9_copy_X0_timesPrinted : GoodIn wsX9_copy wsX0_timesPrinted := goodIn_r _ [27, 28, 37, 38, 39, 40, 41, 42] (by decide +kernel) (by decide +kernel)
set_option maxRecDepth 20000 in
theorem gX9_copy_X0_timesPrinted : GoodIn wsX9_copy (wsV RX9 217 RX0 yX0_timesPrinted wsX0_timesPrinted) := goodIn_app (goodIn_of _ (by decide +kernel)) ggX9_copy_X0_timesPrinted
theorem dX9_copy_0 : decode cX9_copy 0 = .ok (.iload_n 1, 1) := by decide +kernel
theorem dX9_copy_1 : decode cX9_copy 1 = .ok (.aload_n 0, 1) := by decide +kernel
theorem dX9_copy_2 : decode cX9_copy 2 = .ok (.getfield 54, 3) := by decide +kernel
theorem dX9_copy_5 : decode cX9_copy 5 = .ok (.invokevirtual 210, 3) := by decide +kernel
theorem dX9_copy_8 : decode cX9_copy 8 = .ok (.invokestatic 65, 3) := by decide +kernel
theorem dX9_copy_11 : decode cX9_copy 11 = .ok (.iload_n 2, 1) := by decide +kernel
theorem dX9_copy_12 : decode cX9_copy 12 = .ok (.iconst 0, 1) := by decide +kernel
theorem dX9_copy_13 : decode cX9_copy 13 = .ok (.iconst 1, 1) := by decide +kernel
theorem dX9_copy_14 : decode cX9_copy 14 = .ok (.invokestatic 69, 3) := by decide +kernel
theorem dX9_copy_17 : decode cX9_copy 17 = .ok (.iload_n 2, 1) := by decide +kernel
theorem dX9_copy_18 : decode cX9_copy 18 = .ok (.ifCond .ne 20, 3) := by decide +kernel
theorem dX9_copy_21 : decode cX9_copy 21 = .ok (.aload_n 0, 1) := by decide +kernel
theorem dX9_copy_22 : decode cX9_copy 22 = .ok (.getfield 54, 3) := by decide +kernel
theorem dX9_copy_25 : decode cX9_copy 25 = .ok (.iload_n 1, 1) := by decide +kernel
theorem dX9_copy_26 : decode cX9_copy 26 = .ok (.invokevirtual 213, 3) := by decide +kernel
theorem dX9_copy_29 : decode cX9_copy 29 = .ok (.ifCond .eq 7, 3) := by decide +kernel
theorem dX9_copy_32 : decode cX9_copy 32 = .ok (.iconst 1, 1) := by decide +kernel
theorem dX9_copy_33 : decode cX9_copy 33 = .ok (.goto 4, 3) := by decide +kernel
theorem dX9_copy_36 : decode cX9_copy 36 = .ok (.iconst 0, 1) := by decide +kernel
theorem dX9_copy_37 : decode cX9_copy 37 = .ok (.ireturn, 1) := by decide +kernel
theorem dX9_copy_38 : decode cX9_copy 38 = .ok (.aload_n 0, 1) := by decide +kernel
theorem dX9_copy_39 : decode cX9_copy 39 = .ok (.getfield 54, 3) := by decide +kernel
theorem dX9_copy_42 : decode cX9_copy 42 = .ok (.iload_n 1, 1) := by decide +kernel
theorem dX9_copy_43 : decode cX9_copy 43 = .ok (.invokevirtual 217, 3) := by decide +kernel
theorem dX9_copy_46 : decode cX9_copy 46 = .ok (.ireturn, 1) := by decide +kernel
set_option maxRecDepth 20000 in
theorem ggX9_next_X0_first : GoodIn wsX9_next wsX0_first := goodIn_r _ [6, 7, 8, 9, 18, 19, 20, 21, 22, 23] (by decide +kernel) (by decide +kernel)
set_option maxRecDepth 20000 in
theorem gX9_next_X0_first : GoodIn wsX9_next (wsV RX9 220 RX0 yX0_first wsX0_first) := goodIn_app (goodIn_of _ (by decide +kernel)) ggX9_next_X0_first
theorem dX9_next_0 : decode cX9_next 0 = .ok (.aload_n 0, 1) := by decide +kernel
theorem dX9_next_1 : decode cX9_next 1 = .ok (.getfield 54, 3) := by decide +kernel
theorem dX9_next_4 : decode cX9_next 4 = .ok (.invokevirtual 220, 3) := by decide +kernel
theorem dX9_next_7 : decode cX9_next 7 = .ok (.ireturn, 1) := by decide +kernel
set_option maxRecDepth 20000 in
theorem ggX9_all_X3_printed : GoodIn wsX9_all wsX3_printed := goodIn_r _ [10, 11, 47, 48, 49, 50, 51, 52] (by decide +kernel) (by decide +kernel)
set_option maxRecDepth 20000 in
theorem gX9_all_X3_printed : GoodIn wsX9_all (wsV RX9 124 RX3 yX3_printed wsX3_printed) := goodIn_app (goodIn_of _ (by decide +kernel)) ggX9_all_X3_printed
set_option maxRecDepth 20000 in
theorem ggX9_all_X3_good : GoodIn wsX9_all wsX3_good := goodIn_r _ [15, 16, 47, 48, 49, 50, 51, 52] (by decide +kernel) (by decide +kernel)
set_option maxRecDepth 20000 in
theorem gX9_all_X3_good : GoodIn wsX9_all (wsV RX9 223 RX3 yX3_good wsX3_good) := goodIn_app (goodIn_of _ (by decide +kernel)) ggX9_all_X3_good
set_option maxRecDepth 20000 in
theorem ggX9_all_X3_wasteByRegister : GoodIn wsX9_all wsX3_wasteByRegister := goodIn_r _ [20, 21, 47, 48, 49, 50, 51, 52] (by decide +kernel) (by decide +kernel)
set_option maxRecDepth 20000 in
theorem gX9_all_X3_wasteByRegister : GoodIn wsX9_all (wsV RX9 226 RX3 yX3_wasteByRegister wsX3_wasteByRegister) := goodIn_app (goodIn_of _ (by decide +kernel)) ggX9_all_X3_wasteByRegister
set_option maxRecDepth 20000 in
theorem ggX9_all_X3_wasteByDensity : GoodIn wsX9_all wsX3_wasteByDensity := goodIn_r _ [25, 26, 47, 48, 49, 50, 51, 52] (by decide +kernel) (by decide +kernel)
set_option maxRecDepth 20000 in
theorem gX9_all_X3_wasteByDensity : GoodIn wsX9_all (wsV RX9 229 RX3 yX3_wasteByDensity wsX3_wasteByDensity) := goodIn_app (goodIn_of _ (by decide +kernel)) ggX9_all_X3_wasteByDensity
set_option maxRecDepth 20000 in
theorem ggX9_all_X0_toPrint : GoodIn wsX9_all wsX0_toPrint := goodIn_r _ [31, 32, 53, 54, 55, 56, 57, 58] (by decide +kernel) (by decide +kernel)
set_option maxRecDepth 20000 in
theorem gX9_all_X0_toPrint : GoodIn wsX9_all (wsV RX9 138 RX0 yX0_toPrint wsX0_toPrint) := goodIn_app (goodIn_of _ (by decide +kernel)) ggX9_all_X0_toPrint
set_option maxRecDepth 20000 in
theorem ggX9_all_X5_toCome : GoodIn wsX9_all wsX5_toCome := goodIn_r _ [37, 38, 59, 60, 61, 62, 63, 64, 65, 66, 67] (by decide +kernel) (by decide +kernel)
set_option maxRecDepth 20000 in
theorem gX9_all_X5_toCome : GoodIn wsX9_all (wsV RX9 112 RX5 yX5_toCome wsX5_toCome) := goodIn_app (goodIn_of _ (by decide +kernel)) ggX9_all_X5_toCome
theorem dX9_all_0 : decode cX9_all 0 = .ok (.iload_n 1, 1) := by decide +kernel
theorem dX9_all_1 : decode cX9_all 1 = .ok (.tableswitch 107 0 6 #[43, 51, 59, 75, 83, 91, 99], 43) := by decide +kernel
theorem dX9_all_44 : decode cX9_all 44 = .ok (.aload_n 0, 1) := by decide +kernel
theorem dX9_all_45 : decode cX9_all 45 = .ok (.getfield 47, 3) := by decide +kernel
theorem dX9_all_48 : decode cX9_all 48 = .ok (.invokevirtual 124, 3) := by decide +kernel
theorem dX9_all_51 : decode cX9_all 51 = .ok (.ireturn, 1) := by decide +kernel
theorem dX9_all_52 : decode cX9_all 52 = .ok (.aload_n 0, 1) := by decide +kernel
theorem dX9_all_53 : decode cX9_all 53 = .ok (.getfield 47, 3) := by decide +kernel
theorem dX9_all_56 : decode cX9_all 56 = .ok (.invokevirtual 223, 3) := by decide +kernel
theorem dX9_all_59 : decode cX9_all 59 = .ok (.ireturn, 1) := by decide +kernel
theorem dX9_all_60 : decode cX9_all 60 = .ok (.aload_n 0, 1) := by decide +kernel
theorem dX9_all_61 : decode cX9_all 61 = .ok (.getfield 47, 3) := by decide +kernel
theorem dX9_all_64 : decode cX9_all 64 = .ok (.invokevirtual 124, 3) := by decide +kernel
theorem dX9_all_67 : decode cX9_all 67 = .ok (.aload_n 0, 1) := by decide +kernel
theorem dX9_all_68 : decode cX9_all 68 = .ok (.getfield 47, 3) := by decide +kernel
theorem dX9_all_71 : decode cX9_all 71 = .ok (.invokevirtual 223, 3) := by decide +kernel
theorem dX9_all_74 : decode cX9_all 74 = .ok (.isub, 1) := by decide +kernel
theorem dX9_all_75 : decode cX9_all 75 = .ok (.ireturn, 1) := by decide +kernel
theorem dX9_all_76 : decode cX9_all 76 = .ok (.aload_n 0, 1) := by decide +kernel
theorem dX9_all_77 : decode cX9_all 77 = .ok (.getfield 47, 3) := by decide +kernel
theorem dX9_all_80 : decode cX9_all 80 = .ok (.invokevirtual 226, 3) := by decide +kernel
theorem dX9_all_83 : decode cX9_all 83 = .ok (.ireturn, 1) := by decide +kernel
theorem dX9_all_84 : decode cX9_all 84 = .ok (.aload_n 0, 1) := by decide +kernel
theorem dX9_all_85 : decode cX9_all 85 = .ok (.getfield 47, 3) := by decide +kernel
theorem dX9_all_88 : decode cX9_all 88 = .ok (.invokevirtual 229, 3) := by decide +kernel
theorem dX9_all_91 : decode cX9_all 91 = .ok (.ireturn, 1) := by decide +kernel
theorem dX9_all_92 : decode cX9_all 92 = .ok (.aload_n 0, 1) := by decide +kernel
theorem dX9_all_93 : decode cX9_all 93 = .ok (.getfield 54, 3) := by decide +kernel
theorem dX9_all_96 : decode cX9_all 96 = .ok (.invokevirtual 138, 3) := by decide +kernel
theorem dX9_all_99 : decode cX9_all 99 = .ok (.ireturn, 1) := by decide +kernel
theorem dX9_all_100 : decode cX9_all 100 = .ok (.aload_n 0, 1) := by decide +kernel
theorem dX9_all_101 : decode cX9_all 101 = .ok (.getfield 40, 3) := by decide +kernel
theorem dX9_all_104 : decode cX9_all 104 = .ok (.invokevirtual 112, 3) := by decide +kernel
theorem dX9_all_107 : decode cX9_all 107 = .ok (.ireturn, 1) := by decide +kernel
theorem dX9_all_108 : decode cX9_all 108 = .ok (.new 81, 3) := by decide +kernel
theorem dX9_all_111 : decode cX9_all 111 = .ok (.dup, 1) := by decide +kernel
theorem dX9_all_112 : decode cX9_all 112 = .ok (.ldc 232, 2) := by decide +kernel
theorem dX9_all_114 : decode cX9_all 114 = .ok (.invokespecial 85, 3) := by decide +kernel
theorem dX9_all_117 : decode cX9_all 117 = .ok (.athrow, 1) := by decide +kernel
theorem dX9_needIndex_0 : decode cX9_needIndex 0 = .ok (.iload_n 0, 1) := by decide +kernel
theorem dX9_needIndex_1 : decode cX9_needIndex 1 = .ok (.ifCond .lt 8, 3) := by decide +kernel
theorem dX9_needIndex_4 : decode cX9_needIndex 4 = .ok (.iload_n 0, 1) := by decide +kernel
theorem dX9_needIndex_5 : decode cX9_needIndex 5 = .ok (.iload_n 1, 1) := by decide +kernel
theorem dX9_needIndex_6 : decode cX9_needIndex 6 = .ok (.if_icmp .lt 13, 3) := by decide +kernel
theorem dX9_needIndex_9 : decode cX9_needIndex 9 = .ok (.new 234, 3) := by decide +kernel
theorem dX9_needIndex_12 : decode cX9_needIndex 12 = .ok (.dup, 1) := by decide +kernel
theorem dX9_needIndex_13 : decode cX9_needIndex 13 = .ok (.ldc 236, 2) := by decide +kernel
theorem dX9_needIndex_15 : decode cX9_needIndex 15 = .ok (.invokespecial 238, 3) := by decide +kernel
theorem dX9_needIndex_18 : decode cX9_needIndex 18 = .ok (.athrow, 1) := by decide +kernel
theorem dX9_needIndex_19 : decode cX9_needIndex 19 = .ok (.return_, 1) := by decide +kernel
theorem dX9_needRange_0 : decode cX9_needRange 0 = .ok (.iload_n 0, 1) := by decide +kernel
theorem dX9_needRange_1 : decode cX9_needRange 1 = .ok (.iload_n 1, 1) := by decide +kernel
theorem dX9_needRange_2 : decode cX9_needRange 2 = .ok (.if_icmp .lt 8, 3) := by decide +kernel
theorem dX9_needRange_5 : decode cX9_needRange 5 = .ok (.iload_n 0, 1) := by decide +kernel
theorem dX9_needRange_6 : decode cX9_needRange 6 = .ok (.iload_n 2, 1) := by decide +kernel
theorem dX9_needRange_7 : decode cX9_needRange 7 = .ok (.if_icmp .le 13, 3) := by decide +kernel
theorem dX9_needRange_10 : decode cX9_needRange 10 = .ok (.new 81, 3) := by decide +kernel
theorem dX9_needRange_13 : decode cX9_needRange 13 = .ok (.dup, 1) := by decide +kernel
theorem dX9_needRange_14 : decode cX9_needRange 14 = .ok (.ldc 239, 2) := by decide +kernel
theorem dX9_needRange_16 : decode cX9_needRange 16 = .ok (.invokespecial 85, 3) := by decide +kernel
theorem dX9_needRange_19 : decode cX9_needRange 19 = .ok (.athrow, 1) := by decide +kernel
theorem dX9_needRange_20 : decode cX9_needRange 20 = .ok (.return_, 1) := by decide +kernel
set_option maxRecDepth 20000 in
theorem ggX9_needProof_X4_isSigned : GoodIn wsX9_needProof wsX4_isSigned := goodIn_r _ [8, 9, 18, 19] (by decide +kernel) (by decide +kernel)
set_option maxRecDepth 20000 in
theorem gX9_needProof_X4_isSigned : GoodIn wsX9_needProof (wsV RX9 241 RX4 yX4_isSigned wsX4_isSigned) := goodIn_app (goodIn_of _ (by decide +kernel)) ggX9_needProof_X4_isSigned
theorem dX9_needProof_0 : decode cX9_needProof 0 = .ok (.aload_n 0, 1) := by decide +kernel
theorem dX9_needProof_1 : decode cX9_needProof 1 = .ok (.getfield 61, 3) := by decide +kernel
theorem dX9_needProof_4 : decode cX9_needProof 4 = .ok (.invokevirtual 241, 3) := by decide +kernel
theorem dX9_needProof_7 : decode cX9_needProof 7 = .ok (.ifCond .ne 13, 3) := by decide +kernel
theorem dX9_needProof_10 : decode cX9_needProof 10 = .ok (.new 92, 3) := by decide +kernel
theorem dX9_needProof_13 : decode cX9_needProof 13 = .ok (.dup, 1) := by decide +kernel
theorem dX9_needProof_14 : decode cX9_needProof 14 = .ok (.ldc 244, 2) := by decide +kernel
theorem dX9_needProof_16 : decode cX9_needProof 16 = .ok (.invokespecial 96, 3) := by decide +kernel
theorem dX9_needProof_19 : decode cX9_needProof 19 = .ok (.athrow, 1) := by decide +kernel
theorem dX9_needProof_20 : decode cX9_needProof 20 = .ok (.return_, 1) := by decide +kernel
theorem dJ9_abs_0f7a4_0 : decode cJ9_abs_0f7a4 0 = .ok (.iload_n 0, 1) := by decide +kernel
theorem dJ9_abs_0f7a4_1 : decode cJ9_abs_0f7a4 1 = .ok (.ifCond .ge 8, 3) := by decide +kernel
theorem dJ9_abs_0f7a4_4 : decode cJ9_abs_0f7a4 4 = .ok (.iload_n 0, 1) := by decide +kernel
theorem dJ9_abs_0f7a4_5 : decode cJ9_abs_0f7a4 5 = .ok (.ineg, 1) := by decide +kernel
theorem dJ9_abs_0f7a4_6 : decode cJ9_abs_0f7a4 6 = .ok (.goto 4, 3) := by decide +kernel
theorem dJ9_abs_0f7a4_9 : decode cJ9_abs_0f7a4 9 = .ok (.iload_n 0, 1) := by decide +kernel
theorem dJ9_abs_0f7a4_10 : decode cJ9_abs_0f7a4 10 = .ok (.ireturn, 1) := by decide +kernel
theorem dJ9_max_7cf53_0 : decode cJ9_max_7cf53 0 = .ok (.iload_n 0, 1) := by decide +kernel
theorem dJ9_max_7cf53_1 : decode cJ9_max_7cf53 1 = .ok (.iload_n 1, 1) := by decide +kernel
theorem dJ9_max_7cf53_2 : decode cJ9_max_7cf53 2 = .ok (.if_icmp .lt 7, 3) := by decide +kernel
theorem dJ9_max_7cf53_5 : decode cJ9_max_7cf53 5 = .ok (.iload_n 0, 1) := by decide +kernel
theorem dJ9_max_7cf53_6 : decode cJ9_max_7cf53 6 = .ok (.goto 4, 3) := by decide +kernel
theorem dJ9_max_7cf53_9 : decode cJ9_max_7cf53 9 = .ok (.iload_n 1, 1) := by decide +kernel
theorem dJ9_max_7cf53_10 : decode cJ9_max_7cf53 10 = .ok (.ireturn, 1) := by decide +kernel
theorem dJ9_min_7cf53_0 : decode cJ9_min_7cf53 0 = .ok (.iload_n 0, 1) := by decide +kernel
theorem dJ9_min_7cf53_1 : decode cJ9_min_7cf53 1 = .ok (.iload_n 1, 1) := by decide +kernel
theorem dJ9_min_7cf53_2 : decode cJ9_min_7cf53 2 = .ok (.if_icmp .gt 7, 3) := by decide +kernel
theorem dJ9_min_7cf53_5 : decode cJ9_min_7cf53 5 = .ok (.iload_n 0, 1) := by decide +kernel
theorem dJ9_min_7cf53_6 : decode cJ9_min_7cf53 6 = .ok (.goto 4, 3) := by decide +kernel
theorem dJ9_min_7cf53_9 : decode cJ9_min_7cf53 9 = .ok (.iload_n 1, 1) := by decide +kernel
theorem dJ9_min_7cf53_10 : decode cJ9_min_7cf53 10 = .ok (.ireturn, 1) := by decide +kernel
set_option maxRecDepth 20000 in
theorem ggJ0_length_8abf5_J0_coder_7d493 : GoodIn wsJ0_length_8abf5 wsJ0_coder_7d493 := goodIn_r _ [6, 7, 8] (by decide +kernel) (by decide +kernel)
set_option maxRecDepth 20000 in
theorem gJ0_length_8abf5_J0_coder_7d493 : GoodIn wsJ0_length_8abf5 (wsV RJ0 335 RJ0 yJ0_coder_7d493 wsJ0_coder_7d493) := goodIn_app (goodIn_of _ (by decide +kernel)) ggJ0_length_8abf5_J0_coder_7d493
theorem dJ0_length_8abf5_0 : decode cJ0_length_8abf5 0 = .ok (.aload_n 0, 1) := by decide +kernel
theorem dJ0_length_8abf5_1 : decode cJ0_length_8abf5 1 = .ok (.getfield 9, 3) := by decide +kernel
theorem dJ0_length_8abf5_4 : decode cJ0_length_8abf5 4 = .ok (.arraylength, 1) := by decide +kernel
theorem dJ0_length_8abf5_5 : decode cJ0_length_8abf5 5 = .ok (.aload_n 0, 1) := by decide +kernel
theorem dJ0_length_8abf5_6 : decode cJ0_length_8abf5 6 = .ok (.invokevirtual 335, 3) := by decide +kernel
theorem dJ0_length_8abf5_9 : decode cJ0_length_8abf5 9 = .ok (.ishr, 1) := by decide +kernel
theorem dJ0_length_8abf5_10 : decode cJ0_length_8abf5 10 = .ok (.ireturn, 1) := by decide +kernel
set_option maxRecDepth 20000 in
theorem ggJ0_charAt_5068e_J0_isLatin1_aae02 : GoodIn wsJ0_charAt_5068e wsJ0_isLatin1_aae02 := goodIn_r _ [6, 7, 8] (by decide +kernel) (by decide +kernel)
set_option maxRecDepth 20000 in
theorem gJ0_charAt_5068e_J0_isLatin1_aae02 : GoodIn wsJ0_charAt_5068e (wsV RJ0 492 RJ0 yJ0_isLatin1_aae02 wsJ0_isLatin1_aae02) := goodIn_app (goodIn_of _ (by decide +kernel)) ggJ0_charAt_5068e_J0_isLatin1_aae02
set_option maxRecDepth 20000 in
theorem ggJ0_charAt_5068e_J1_charAt_3b067 : GoodIn wsJ0_charAt_5068e wsJ1_charAt_3b067 := goodIn_r _ [12, 13, 14, 5, 15, 16, 17, 18, 19, 20] (by decide +kernel) (by decide +kernel)
set_option maxRecDepth 20000 in
theorem gJ0_charAt_5068e_J1_charAt_3b067 : GoodIn wsJ0_charAt_5068e (va_wsS RJ0 495 yJ1_charAt_3b067 wsJ1_charAt_3b067) := goodIn_app (goodIn_of _ (by decide +kernel)) ggJ0_charAt_5068e_J1_charAt_3b067
set_option maxRecDepth 20000 in
theorem ggJ0_charAt_5068e_J2_charAt_3b067 : GoodIn wsJ0_charAt_5068e wsJ2_charAt_3b067 := goodIn_r _ [24, 25, 26, 23, 27, 28, 29, 30, 31, 14, 5, 15, 16, 17, 18, 19, 20, 32, 33, 34, 35, 36, 37] (by decide +kernel) (by decide +kernel)
set_option maxRecDepth 20000 in
theorem gJ0_charAt_5068e_J2_charAt_3b067 : GoodIn wsJ0_charAt_5068e (va_wsS RJ0 498 yJ2_charAt_3b067 wsJ2_charAt_3b067) := goodIn_app (goodIn_of _ (by decide +kernel)) ggJ0_charAt_5068e_J2_charAt_3b067
theorem dJ0_charAt_5068e_0 : decode cJ0_charAt_5068e 0 = .ok (.aload_n 0, 1) := by decide +kernel
theorem dJ0_charAt_5068e_1 : decode cJ0_charAt_5068e 1 = .ok (.invokevirtual 492, 3) := by decide +kernel
theorem dJ0_charAt_5068e_4 : decode cJ0_charAt_5068e 4 = .ok (.ifCond .eq 12, 3) := by decide +kernel
theorem dJ0_charAt_5068e_7 : decode cJ0_charAt_5068e 7 = .ok (.aload_n 0, 1) := by decide +kernel
theorem dJ0_charAt_5068e_8 : decode cJ0_charAt_5068e 8 = .ok (.getfield 9, 3) := by decide +kernel
theorem dJ0_charAt_5068e_11 : decode cJ0_charAt_5068e 11 = .ok (.iload_n 1, 1) := by decide +kernel
theorem dJ0_charAt_5068e_12 : decode cJ0_charAt_5068e 12 = .ok (.invokestatic 495, 3) := by decide +kernel
theorem dJ0_charAt_5068e_15 : decode cJ0_charAt_5068e 15 = .ok (.ireturn, 1) := by decide +kernel
theorem dJ0_charAt_5068e_16 : decode cJ0_charAt_5068e 16 = .ok (.aload_n 0, 1) := by decide +kernel
theorem dJ0_charAt_5068e_17 : decode cJ0_charAt_5068e 17 = .ok (.getfield 9, 3) := by decide +kernel
theorem dJ0_charAt_5068e_20 : decode cJ0_charAt_5068e 20 = .ok (.iload_n 1, 1) := by decide +kernel
theorem dJ0_charAt_5068e_21 : decode cJ0_charAt_5068e 21 = .ok (.invokestatic 498, 3) := by decide +kernel
theorem dJ0_charAt_5068e_24 : decode cJ0_charAt_5068e 24 = .ok (.ireturn, 1) := by decide +kernel
theorem dJ0_coder_7d493_0 : decode cJ0_coder_7d493 0 = .ok (.getstatic 38, 3) := by decide +kernel
theorem dJ0_coder_7d493_3 : decode cJ0_coder_7d493 3 = .ok (.ifCond .eq 10, 3) := by decide +kernel
theorem dJ0_coder_7d493_6 : decode cJ0_coder_7d493 6 = .ok (.aload_n 0, 1) := by decide +kernel
theorem dJ0_coder_7d493_7 : decode cJ0_coder_7d493 7 = .ok (.getfield 15, 3) := by decide +kernel
theorem dJ0_coder_7d493_10 : decode cJ0_coder_7d493 10 = .ok (.goto 4, 3) := by decide +kernel
theorem dJ0_coder_7d493_13 : decode cJ0_coder_7d493 13 = .ok (.iconst 1, 1) := by decide +kernel
theorem dJ0_coder_7d493_14 : decode cJ0_coder_7d493 14 = .ok (.ireturn, 1) := by decide +kernel
theorem dJ0_isLatin1_aae02_0 : decode cJ0_isLatin1_aae02 0 = .ok (.getstatic 38, 3) := by decide +kernel
theorem dJ0_isLatin1_aae02_3 : decode cJ0_isLatin1_aae02 3 = .ok (.ifCond .eq 14, 3) := by decide +kernel
theorem dJ0_isLatin1_aae02_6 : decode cJ0_isLatin1_aae02 6 = .ok (.aload_n 0, 1) := by decide +kernel
theorem dJ0_isLatin1_aae02_7 : decode cJ0_isLatin1_aae02 7 = .ok (.getfield 15, 3) := by decide +kernel
theorem dJ0_isLatin1_aae02_10 : decode cJ0_isLatin1_aae02 10 = .ok (.ifCond .ne 7, 3) := by decide +kernel
theorem dJ0_isLatin1_aae02_13 : decode cJ0_isLatin1_aae02 13 = .ok (.iconst 1, 1) := by decide +kernel
theorem dJ0_isLatin1_aae02_14 : decode cJ0_isLatin1_aae02 14 = .ok (.goto 4, 3) := by decide +kernel
theorem dJ0_isLatin1_aae02_17 : decode cJ0_isLatin1_aae02 17 = .ok (.iconst 0, 1) := by decide +kernel
theorem dJ0_isLatin1_aae02_18 : decode cJ0_isLatin1_aae02 18 = .ok (.ireturn, 1) := by decide +kernel
set_option maxRecDepth 20000 in
theorem ggJ0_checkIndex_df160_J3_checkIndex_8e157 : GoodIn wsJ0_checkIndex_df160 wsJ3_checkIndex_8e157 := goodIn_r _ [5] (by decide +kernel) (by decide +kernel)
set_option maxRecDepth 20000 in
theorem gJ0_checkIndex_df160_J3_checkIndex_8e157 : GoodIn wsJ0_checkIndex_df160 (va_wsS RJ0 1059 yJ3_checkIndex_8e157 wsJ3_checkIndex_8e157) := goodIn_app (goodIn_of _ (by decide +kernel)) ggJ0_checkIndex_df160_J3_checkIndex_8e157
theorem dJ0_checkIndex_df160_0 : decode cJ0_checkIndex_df160 0 = .ok (.iload_n 0, 1) := by decide +kernel
theorem dJ0_checkIndex_df160_1 : decode cJ0_checkIndex_df160 1 = .ok (.iload_n 1, 1) := by decide +kernel
theorem dJ0_checkIndex_df160_2 : decode cJ0_checkIndex_df160 2 = .ok (.getstatic 1053, 3) := by decide +kernel
theorem dJ0_checkIndex_df160_5 : decode cJ0_checkIndex_df160 5 = .ok (.invokestatic 1059, 3) := by decide +kernel
theorem dJ0_checkIndex_df160_8 : decode cJ0_checkIndex_df160 8 = .ok (.pop, 1) := by decide +kernel
theorem dJ0_checkIndex_df160_9 : decode cJ0_checkIndex_df160 9 = .ok (.return_, 1) := by decide +kernel
set_option maxRecDepth 20000 in
theorem ggJ1_charAt_3b067_J0_checkIndex_df160 : GoodIn wsJ1_charAt_3b067 wsJ0_checkIndex_df160 := goodIn_r _ [4, 5, 6, 7, 8, 9] (by decide +kernel) (by decide +kernel)
set_option maxRecDepth 20000 in
theorem gJ1_charAt_3b067_J0_checkIndex_df160 : GoodIn wsJ1_charAt_3b067 (va_wsS RJ1 9 yJ0_checkIndex_df160 wsJ0_checkIndex_df160) := goodIn_app (goodIn_of _ (by decide +kernel)) ggJ1_charAt_3b067_J0_checkIndex_df160
theorem dJ1_charAt_3b067_0 : decode cJ1_charAt_3b067 0 = .ok (.iload_n 1, 1) := by decide +kernel
theorem dJ1_charAt_3b067_1 : decode cJ1_charAt_3b067 1 = .ok (.aload_n 0, 1) := by decide +kernel
theorem dJ1_charAt_3b067_2 : decode cJ1_charAt_3b067 2 = .ok (.arraylength, 1) := by decide +kernel
theorem dJ1_charAt_3b067_3 : decode cJ1_charAt_3b067 3 = .ok (.invokestatic 9, 3) := by decide +kernel
theorem dJ1_charAt_3b067_6 : decode cJ1_charAt_3b067 6 = .ok (.aload_n 0, 1) := by decide +kernel
theorem dJ1_charAt_3b067_7 : decode cJ1_charAt_3b067 7 = .ok (.iload_n 1, 1) := by decide +kernel
theorem dJ1_charAt_3b067_8 : decode cJ1_charAt_3b067 8 = .ok (.baload, 1) := by decide +kernel
theorem dJ1_charAt_3b067_9 : decode cJ1_charAt_3b067 9 = .ok (.sipush 255, 3) := by decide +kernel
theorem dJ1_charAt_3b067_12 : decode cJ1_charAt_3b067 12 = .ok (.iand, 1) := by decide +kernel
theorem dJ1_charAt_3b067_13 : decode cJ1_charAt_3b067 13 = .ok (.i2c, 1) := by decide +kernel
theorem dJ1_charAt_3b067_14 : decode cJ1_charAt_3b067 14 = .ok (.ireturn, 1) := by decide +kernel
set_option maxRecDepth 20000 in
theorem ggJ2_getChar_3b067_J2_length_9d52b : GoodIn wsJ2_getChar_3b067 wsJ2_length_9d52b := goodIn_r _ [7] (by decide +kernel) (by decide +kernel)
set_option maxRecDepth 20000 in
theorem gJ2_getChar_3b067_J2_length_9d52b : GoodIn wsJ2_getChar_3b067 (va_wsS RJ2 48 yJ2_length_9d52b wsJ2_length_9d52b) := goodIn_app (goodIn_of _ (by decide +kernel)) ggJ2_getChar_3b067_J2_length_9d52b
theorem dJ2_getChar_3b067_0 : decode cJ2_getChar_3b067 0 = .ok (.getstatic 44, 3) := by decide +kernel
theorem dJ2_getChar_3b067_3 : decode cJ2_getChar_3b067 3 = .ok (.ifCond .ne 25, 3) := by decide +kernel
theorem dJ2_getChar_3b067_6 : decode cJ2_getChar_3b067 6 = .ok (.iload_n 1, 1) := by decide +kernel
theorem dJ2_getChar_3b067_7 : decode cJ2_getChar_3b067 7 = .ok (.ifCond .lt 11, 3) := by decide +kernel
theorem dJ2_getChar_3b067_10 : decode cJ2_getChar_3b067 10 = .ok (.iload_n 1, 1) := by decide +kernel
theorem dJ2_getChar_3b067_11 : decode cJ2_getChar_3b067 11 = .ok (.aload_n 0, 1) := by decide +kernel
theorem dJ2_getChar_3b067_12 : decode cJ2_getChar_3b067 12 = .ok (.invokestatic 48, 3) := by decide +kernel
theorem dJ2_getChar_3b067_15 : decode cJ2_getChar_3b067 15 = .ok (.if_icmp .lt 13, 3) := by decide +kernel
theorem dJ2_getChar_3b067_18 : decode cJ2_getChar_3b067 18 = .ok (.new 52, 3) := by decide +kernel
theorem dJ2_getChar_3b067_21 : decode cJ2_getChar_3b067 21 = .ok (.dup, 1) := by decide +kernel
theorem dJ2_getChar_3b067_22 : decode cJ2_getChar_3b067 22 = .ok (.ldc 54, 2) := by decide +kernel
theorem dJ2_getChar_3b067_24 : decode cJ2_getChar_3b067 24 = .ok (.invokespecial 56, 3) := by decide +kernel
theorem dJ2_getChar_3b067_27 : decode cJ2_getChar_3b067 27 = .ok (.athrow, 1) := by decide +kernel
theorem dJ2_getChar_3b067_28 : decode cJ2_getChar_3b067 28 = .ok (.iload_n 1, 1) := by decide +kernel
theorem dJ2_getChar_3b067_29 : decode cJ2_getChar_3b067 29 = .ok (.iconst 1, 1) := by decide +kernel
theorem dJ2_getChar_3b067_30 : decode cJ2_getChar_3b067 30 = .ok (.ishl, 1) := by decide +kernel
theorem dJ2_getChar_3b067_31 : decode cJ2_getChar_3b067 31 = .ok (.istore_n 1, 1) := by decide +kernel
theorem dJ2_getChar_3b067_32 : decode cJ2_getChar_3b067 32 = .ok (.aload_n 0, 1) := by decide +kernel
theorem dJ2_getChar_3b067_33 : decode cJ2_getChar_3b067 33 = .ok (.iload_n 1, 1) := by decide +kernel
theorem dJ2_getChar_3b067_34 : decode cJ2_getChar_3b067 34 = .ok (.iinc 1 1, 3) := by decide +kernel
theorem dJ2_getChar_3b067_37 : decode cJ2_getChar_3b067 37 = .ok (.baload, 1) := by decide +kernel
theorem dJ2_getChar_3b067_38 : decode cJ2_getChar_3b067 38 = .ok (.sipush 255, 3) := by decide +kernel
theorem dJ2_getChar_3b067_41 : decode cJ2_getChar_3b067 41 = .ok (.iand, 1) := by decide +kernel
theorem dJ2_getChar_3b067_42 : decode cJ2_getChar_3b067 42 = .ok (.getstatic 59, 3) := by decide +kernel
theorem dJ2_getChar_3b067_45 : decode cJ2_getChar_3b067 45 = .ok (.ishl, 1) := by decide +kernel
theorem dJ2_getChar_3b067_46 : decode cJ2_getChar_3b067 46 = .ok (.aload_n 0, 1) := by decide +kernel
theorem dJ2_getChar_3b067_47 : decode cJ2_getChar_3b067 47 = .ok (.iload_n 1, 1) := by decide +kernel
theorem dJ2_getChar_3b067_48 : decode cJ2_getChar_3b067 48 = .ok (.baload, 1) := by decide +kernel
theorem dJ2_getChar_3b067_49 : decode cJ2_getChar_3b067 49 = .ok (.sipush 255, 3) := by decide +kernel
theorem dJ2_getChar_3b067_52 : decode cJ2_getChar_3b067 52 = .ok (.iand, 1) := by decide +kernel
theorem dJ2_getChar_3b067_53 : decode cJ2_getChar_3b067 53 = .ok (.getstatic 63, 3) := by decide +kernel
theorem dJ2_getChar_3b067_56 : decode cJ2_getChar_3b067 56 = .ok (.ishl, 1) := by decide +kernel
theorem dJ2_getChar_3b067_57 : decode cJ2_getChar_3b067 57 = .ok (.ior, 1) := by decide +kernel
theorem dJ2_getChar_3b067_58 : decode cJ2_getChar_3b067 58 = .ok (.i2c, 1) := by decide +kernel
theorem dJ2_getChar_3b067_59 : decode cJ2_getChar_3b067 59 = .ok (.ireturn, 1) := by decide +kernel
theorem dJ2_length_9d52b_0 : decode cJ2_length_9d52b 0 = .ok (.aload_n 0, 1) := by decide +kernel
theorem dJ2_length_9d52b_1 : decode cJ2_length_9d52b 1 = .ok (.arraylength, 1) := by decide +kernel
theorem dJ2_length_9d52b_2 : decode cJ2_length_9d52b 2 = .ok (.iconst 1, 1) := by decide +kernel
theorem dJ2_length_9d52b_3 : decode cJ2_length_9d52b 3 = .ok (.ishr, 1) := by decide +kernel
theorem dJ2_length_9d52b_4 : decode cJ2_length_9d52b 4 = .ok (.ireturn, 1) := by decide +kernel
set_option maxRecDepth 20000 in
theorem ggJ2_charAt_3b067_J2_checkIndex_2214a : GoodIn wsJ2_charAt_3b067 wsJ2_checkIndex_2214a := goodIn_r _ [4, 5, 6, 3, 7, 8, 9, 10, 11, 12, 13, 14, 15, 16] (by decide +kernel) (by decide +kernel)
set_option maxRecDepth 20000 in
theorem gJ2_charAt_3b067_J2_checkIndex_2214a : GoodIn wsJ2_charAt_3b067 (va_wsS RJ2 67 yJ2_checkIndex_2214a wsJ2_checkIndex_2214a) := goodIn_app (goodIn_of _ (by decide +kernel)) ggJ2_charAt_3b067_J2_checkIndex_2214a
set_option maxRecDepth 20000 in
theorem ggJ2_charAt_3b067_J2_getChar_3b067 : GoodIn wsJ2_charAt_3b067 wsJ2_getChar_3b067 := goodIn_r _ [19, 20, 21, 22, 5, 6, 3, 7] (by decide +kernel) (by decide +kernel)
set_option maxRecDepth 20000 in
theorem gJ2_charAt_3b067_J2_getChar_3b067 : GoodIn wsJ2_charAt_3b067 (va_wsS RJ2 71 yJ2_getChar_3b067 wsJ2_getChar_3b067) := goodIn_app (goodIn_of _ (by decide +kernel)) ggJ2_charAt_3b067_J2_getChar_3b067
theorem dJ2_charAt_3b067_0 : decode cJ2_charAt_3b067 0 = .ok (.iload_n 1, 1) := by decide +kernel
theorem dJ2_charAt_3b067_1 : decode cJ2_charAt_3b067 1 = .ok (.aload_n 0, 1) := by decide +kernel
theorem dJ2_charAt_3b067_2 : decode cJ2_charAt_3b067 2 = .ok (.invokestatic 67, 3) := by decide +kernel
theorem dJ2_charAt_3b067_5 : decode cJ2_charAt_3b067 5 = .ok (.aload_n 0, 1) := by decide +kernel
theorem dJ2_charAt_3b067_6 : decode cJ2_charAt_3b067 6 = .ok (.iload_n 1, 1) := by decide +kernel
theorem dJ2_charAt_3b067_7 : decode cJ2_charAt_3b067 7 = .ok (.invokestatic 71, 3) := by decide +kernel
theorem dJ2_charAt_3b067_10 : decode cJ2_charAt_3b067 10 = .ok (.ireturn, 1) := by decide +kernel
set_option maxRecDepth 20000 in
theorem ggJ2_checkIndex_2214a_J2_length_9d52b : GoodIn wsJ2_checkIndex_2214a wsJ2_length_9d52b := goodIn_r _ [4] (by decide +kernel) (by decide +kernel)
set_option maxRecDepth 20000 in
theorem gJ2_checkIndex_2214a_J2_length_9d52b : GoodIn wsJ2_checkIndex_2214a (va_wsS RJ2 48 yJ2_length_9d52b wsJ2_length_9d52b) := goodIn_app (goodIn_of _ (by decide +kernel)) ggJ2_checkIndex_2214a_J2_length_9d52b
set_option maxRecDepth 20000 in
theorem ggJ2_checkIndex_2214a_J0_checkIndex_df160 : GoodIn wsJ2_checkIndex_2214a wsJ0_checkIndex_df160 := goodIn_r _ [8, 9, 10, 11, 12, 13] (by decide +kernel) (by decide +kernel)
set_option maxRecDepth 20000 in
theorem gJ2_checkIndex_2214a_J0_checkIndex_df160 : GoodIn wsJ2_checkIndex_2214a (va_wsS RJ2 414 yJ0_checkIndex_df160 wsJ0_checkIndex_df160) := goodIn_app (goodIn_of _ (by decide +kernel)) ggJ2_checkIndex_2214a_J0_checkIndex_df160
theorem dJ2_checkIndex_2214a_0 : decode cJ2_checkIndex_2214a 0 = .ok (.iload_n 0, 1) := by decide +kernel
theorem dJ2_checkIndex_2214a_1 : decode cJ2_checkIndex_2214a 1 = .ok (.aload_n 1, 1) := by decide +kernel
theorem dJ2_checkIndex_2214a_2 : decode cJ2_checkIndex_2214a 2 = .ok (.invokestatic 48, 3) := by decide +kernel
theorem dJ2_checkIndex_2214a_5 : decode cJ2_checkIndex_2214a 5 = .ok (.invokestatic 414, 3) := by decide +kernel
theorem dJ2_checkIndex_2214a_8 : decode cJ2_checkIndex_2214a 8 = .ok (.return_, 1) := by decide +kernel
theorem dJ3_checkIndex_8e157_0 : decode cJ3_checkIndex_8e157 0 = .ok (.iload_n 0, 1) := by decide +kernel
theorem dJ3_checkIndex_8e157_1 : decode cJ3_checkIndex_8e157 1 = .ok (.ifCond .lt 8, 3) := by decide +kernel
theorem dJ3_checkIndex_8e157_4 : decode cJ3_checkIndex_8e157 4 = .ok (.iload_n 0, 1) := by decide +kernel
theorem dJ3_checkIndex_8e157_5 : decode cJ3_checkIndex_8e157 5 = .ok (.iload_n 1, 1) := by decide +kernel
theorem dJ3_checkIndex_8e157_6 : decode cJ3_checkIndex_8e157 6 = .ok (.if_icmp .lt 10, 3) := by decide +kernel
theorem dJ3_checkIndex_8e157_9 : decode cJ3_checkIndex_8e157 9 = .ok (.aload_n 2, 1) := by decide +kernel
theorem dJ3_checkIndex_8e157_10 : decode cJ3_checkIndex_8e157 10 = .ok (.iload_n 0, 1) := by decide +kernel
theorem dJ3_checkIndex_8e157_11 : decode cJ3_checkIndex_8e157 11 = .ok (.iload_n 1, 1) := by decide +kernel
theorem dJ3_checkIndex_8e157_12 : decode cJ3_checkIndex_8e157 12 = .ok (.invokestatic 95, 3) := by decide +kernel
theorem dJ3_checkIndex_8e157_15 : decode cJ3_checkIndex_8e157 15 = .ok (.athrow, 1) := by decide +kernel
theorem dJ3_checkIndex_8e157_16 : decode cJ3_checkIndex_8e157 16 = .ok (.iload_n 0, 1) := by decide +kernel
theorem dJ3_checkIndex_8e157_17 : decode cJ3_checkIndex_8e157 17 = .ok (.ireturn, 1) := by decide +kernel
