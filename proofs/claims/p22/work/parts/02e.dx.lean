theorem dL_draw_0 : decode cL_draw 0 = .ok (.iload_n 1, 1) := by decide +kernel
theorem dL_draw_1 : decode cL_draw 1 = .ok (.aload_n 0, 1) := by decide +kernel
theorem dL_draw_2 : decode cL_draw 2 = .ok (.arraylength, 1) := by decide +kernel
theorem dL_draw_3 : decode cL_draw 3 = .ok (.if_icmp .ge 9, 3) := by decide +kernel
theorem dL_draw_6 : decode cL_draw 6 = .ok (.aload_n 0, 1) := by decide +kernel
theorem dL_draw_7 : decode cL_draw 7 = .ok (.iload_n 1, 1) := by decide +kernel
theorem dL_draw_8 : decode cL_draw 8 = .ok (.iaload, 1) := by decide +kernel
theorem dL_draw_9 : decode cL_draw 9 = .ok (.goto 14, 3) := by decide +kernel
theorem dL_draw_12 : decode cL_draw 12 = .ok (.ldc 7, 2) := by decide +kernel
theorem dL_draw_14 : decode cL_draw 14 = .ok (.iload_n 1, 1) := by decide +kernel
theorem dL_draw_15 : decode cL_draw 15 = .ok (.sipush 1019, 3) := by decide +kernel
theorem dL_draw_18 : decode cL_draw 18 = .ok (.iadd, 1) := by decide +kernel
theorem dL_draw_19 : decode cL_draw 19 = .ok (.imul, 1) := by decide +kernel
theorem dL_draw_20 : decode cL_draw 20 = .ok (.ldc 8, 2) := by decide +kernel
theorem dL_draw_22 : decode cL_draw 22 = .ok (.iadd, 1) := by decide +kernel
theorem dL_draw_23 : decode cL_draw 23 = .ok (.istore_n 3, 1) := by decide +kernel
theorem dL_draw_24 : decode cL_draw 24 = .ok (.iload_n 3, 1) := by decide +kernel
theorem dL_draw_25 : decode cL_draw 25 = .ok (.ldc 9, 2) := by decide +kernel
theorem dL_draw_27 : decode cL_draw 27 = .ok (.iand, 1) := by decide +kernel
theorem dL_draw_28 : decode cL_draw 28 = .ok (.iload_n 2, 1) := by decide +kernel
theorem dL_draw_29 : decode cL_draw 29 = .ok (.irem, 1) := by decide +kernel
theorem dL_draw_30 : decode cL_draw 30 = .ok (.ireturn, 1) := by decide +kernel
set_option maxRecDepth 20000 in
theorem ggL_jobs_X9_job : GoodIn wsL_jobs wsX9_job := goodIn_ca (goodIn_ca (goodIn_r _ [5, 6, 7, 8, 9, 10, 4, 11, 12, 13, 14, 15, 16, 17, 18, 19, 20, 21, 22, 23, 24, 25, 26, 27, 28, 29, 30, 31, 32, 33, 34, 35, 36, 37, 38, 39, 40, 41, 42] (by decide +kernel) (by decide +kernel)) (goodIn_sub (fun _ h => List.mem_cons_of_mem _ (List.mem_append_left _ (List.mem_append_right _ h))) (by decide +kernel))) (goodIn_sub (fun _ h => List.mem_cons_of_mem _ (List.mem_append_right _ h)) (by decide +kernel))
set_option maxRecDepth 20000 in
theorem gL_jobs_X9_job : GoodIn wsL_jobs (wsV RL 10 RX9 yX9_job wsX9_job) := goodIn_app (goodIn_of _ (by decide +kernel)) ggL_jobs_X9_job
theorem dL_jobs_0 : decode cL_jobs 0 = .ok (.aload_n 0, 1) := by decide +kernel
theorem dL_jobs_1 : decode cL_jobs 1 = .ok (.iload_n 1, 1) := by decide +kernel
theorem dL_jobs_2 : decode cL_jobs 2 = .ok (.invokevirtual 10, 3) := by decide +kernel
theorem dL_jobs_5 : decode cL_jobs 5 = .ok (.iconst 0, 1) := by decide +kernel
theorem dL_jobs_6 : decode cL_jobs 6 = .ok (.ireturn, 1) := by decide +kernel
set_option maxRecDepth 20000 in
theorem ggL_asks_L_jobs : GoodIn wsL_asks wsL_jobs := goodIn_ca (goodIn_ca (goodIn_r _ [10, 11, 12, 13, 14, 15, 16, 17, 18, 19, 20, 21, 22, 23, 24, 25, 26, 27, 28, 29, 30, 31, 32, 33, 34, 35, 36, 37, 38, 196, 197, 198, 199, 200, 201, 202, 203, 204, 205, 206, 207, 208, 209] (by decide +kernel) (by decide +kernel)) (goodIn_sub (fun _ h => List.mem_cons_of_mem _ (List.mem_append_left _ (List.mem_append_left _ (List.mem_append_right _ h)))) (by decide +kernel))) (goodIn_sub (fun _ h => List.mem_cons_of_mem _ (List.mem_append_left _ (List.mem_append_right _ h))) (by decide +kernel))
set_option maxRecDepth 20000 in
theorem gL_asks_L_jobs : GoodIn wsL_asks (va_wsS RL 16 yL_jobs wsL_jobs) := goodIn_app (goodIn_of _ (by decide +kernel)) ggL_asks_L_jobs
set_option maxRecDepth 20000 in
theorem ggL_asks_X9_correct : GoodIn wsL_asks wsX9_correct := goodIn_ca (goodIn_ca (goodIn_ca (goodIn_r _ [42, 16, 17, 43, 44, 45, 46, 47, 14, 48, 49, 50, 19, 20, 21, 22, 23, 51, 52, 53, 54, 55, 56, 57, 58, 59, 60, 61, 62, 63, 64, 65, 66, 67, 68, 69, 70, 71, 72, 73, 74, 75, 76, 77, 78, 79, 80, 81, 82, 83, 84, 85, 86, 196, 197, 198, 199, 200, 201, 202, 203, 210, 211, 212, 213, 214, 215, 216, 217, 218, 219, 220, 221, 222, 223, 224, 225, 226, 227, 228, 229, 230] (by decide +kernel) (by decide +kernel)) (goodIn_sub (fun _ h => List.mem_cons_of_mem _ (List.mem_append_left _ (List.mem_append_left _ (List.mem_append_right _ h)))) (by decide +kernel))) (goodIn_sub (fun _ h => List.mem_cons_of_mem _ (List.mem_append_right _ h)) (by decide +kernel))) (goodIn_sub (fun _ h => List.mem_cons_of_mem _ (List.mem_append_left _ (List.mem_append_right _ h))) (by decide +kernel))
set_option maxRecDepth 20000 in
theorem gL_asks_X9_correct : GoodIn wsL_asks (wsV RL 22 RX9 yX9_correct wsX9_correct) := goodIn_app (goodIn_of _ (by decide +kernel)) ggL_asks_X9_correct
set_option maxRecDepth 20000 in
theorem ggL_asks_X9_copy : GoodIn wsL_asks wsX9_copy := goodIn_ca (goodIn_ca (goodIn_r _ [90, 18, 91, 92, 93, 27, 94, 37, 46, 47, 14, 48, 49, 50, 19, 20, 21, 22, 23, 95, 96, 97, 98, 35, 99, 100, 101, 102, 34, 196, 197, 198, 199, 200, 201, 202, 203, 204, 205, 206, 207, 208, 209] (by decide +kernel) (by decide +kernel)) (goodIn_sub (fun _ h => List.mem_cons_of_mem _ (List.mem_append_right _ h)) (by decide +kernel))) (goodIn_sub (fun _ h => List.mem_cons_of_mem _ (List.mem_append_left _ (List.mem_append_right _ h))) (by decide +kernel))
set_option maxRecDepth 20000 in
theorem gL_asks_X9_copy : GoodIn wsL_asks (wsV RL 26 RX9 yX9_copy wsX9_copy) := goodIn_app (goodIn_of _ (by decide +kernel)) ggL_asks_X9_copy
set_option maxRecDepth 20000 in
theorem ggL_asks_X9_differs : GoodIn wsL_asks wsX9_differs := goodIn_ca (goodIn_ca (goodIn_r _ [106, 107, 108, 44, 46, 47, 14, 48, 49, 50, 109, 110, 111, 112, 16, 17, 113, 114, 115, 116, 117, 118, 119, 120, 121, 122, 123, 124, 125, 126, 127, 128, 129, 130, 131, 132, 133, 134, 135, 136, 60, 137, 138, 139, 140, 141, 196, 197, 198, 199, 200, 201, 202, 203, 231, 232, 233, 219, 220, 221, 222, 223, 224] (by decide +kernel) (by decide +kernel)) (goodIn_sub (fun _ h => List.mem_cons_of_mem _ (List.mem_append_right _ h)) (by decide +kernel))) (goodIn_sub (fun _ h => List.mem_cons_of_mem _ (List.mem_append_left _ (List.mem_append_left _ (List.mem_append_right _ h)))) (by decide +kernel))
set_option maxRecDepth 20000 in
theorem gL_asks_X9_differs : GoodIn wsL_asks (wsV RL 30 RX9 yX9_differs wsX9_differs) := goodIn_app (goodIn_of _ (by decide +kernel)) ggL_asks_X9_differs
set_option maxRecDepth 20000 in
theorem ggL_asks_X9_ink : GoodIn wsL_asks wsX9_ink := goodIn_ca (goodIn_ca (goodIn_r _ [145, 22, 23, 146, 44, 108, 46, 47, 14, 48, 49, 50, 147, 148, 149, 150, 151, 152, 153, 154, 126, 155, 156, 157, 158, 60, 159, 160, 161, 162, 163, 164, 165, 166, 167, 168, 169, 170, 171, 172, 173, 174, 175, 176, 177, 178, 179, 180, 181, 182, 183, 184, 185, 186, 187, 135, 136, 137, 138, 188, 189, 131, 190, 139, 140, 141, 191, 192, 193, 194, 133, 195, 129, 130, 132, 134, 196, 197, 198, 199, 200, 201, 202, 203, 234, 219, 220, 221, 222, 223, 224, 233] (by decide +kernel) (by decide +kernel)) (goodIn_sub (fun _ h => List.mem_cons_of_mem _ (List.mem_append_left _ (List.mem_append_right _ h))) (by decide +kernel))) (goodIn_sub (fun _ h => List.mem_cons_of_mem _ (List.mem_append_right _ h)) (by decide +kernel))
set_option maxRecDepth 20000 in
theorem gL_asks_X9_ink : GoodIn wsL_asks (wsV RL 34 RX9 yX9_ink wsX9_ink) := goodIn_app (goodIn_of _ (by decide +kernel)) ggL_asks_X9_ink
theorem dL_asks_0 : decode cL_asks 0 = .ok (.iload_n 1, 1) := by decide +kernel
theorem dL_asks_1 : decode cL_asks 1 = .ok (.ifCond .ne 11, 3) := by decide +kernel
theorem dL_asks_4 : decode cL_asks 4 = .ok (.aload_n 0, 1) := by decide +kernel
theorem dL_asks_5 : decode cL_asks 5 = .ok (.iload_n 2, 1) := by decide +kernel
theorem dL_asks_6 : decode cL_asks 6 = .ok (.invokestatic 16, 3) := by decide +kernel
theorem dL_asks_9 : decode cL_asks 9 = .ok (.goto 54, 3) := by decide +kernel
theorem dL_asks_12 : decode cL_asks 12 = .ok (.iload_n 1, 1) := by decide +kernel
theorem dL_asks_13 : decode cL_asks 13 = .ok (.iconst 1, 1) := by decide +kernel
theorem dL_asks_14 : decode cL_asks 14 = .ok (.if_icmp .ne 14, 3) := by decide +kernel
theorem dL_asks_17 : decode cL_asks 17 = .ok (.aload_n 0, 1) := by decide +kernel
theorem dL_asks_18 : decode cL_asks 18 = .ok (.iload_n 2, 1) := by decide +kernel
theorem dL_asks_19 : decode cL_asks 19 = .ok (.iload_n 3, 1) := by decide +kernel
theorem dL_asks_20 : decode cL_asks 20 = .ok (.iload 4, 2) := by decide +kernel
theorem dL_asks_22 : decode cL_asks 22 = .ok (.invokevirtual 22, 3) := by decide +kernel
theorem dL_asks_25 : decode cL_asks 25 = .ok (.goto 38, 3) := by decide +kernel
theorem dL_asks_28 : decode cL_asks 28 = .ok (.iload_n 1, 1) := by decide +kernel
theorem dL_asks_29 : decode cL_asks 29 = .ok (.iconst 2, 1) := by decide +kernel
theorem dL_asks_30 : decode cL_asks 30 = .ok (.if_icmp .ne 12, 3) := by decide +kernel
theorem dL_asks_33 : decode cL_asks 33 = .ok (.aload_n 0, 1) := by decide +kernel
theorem dL_asks_34 : decode cL_asks 34 = .ok (.iload_n 2, 1) := by decide +kernel
theorem dL_asks_35 : decode cL_asks 35 = .ok (.iload_n 3, 1) := by decide +kernel
theorem dL_asks_36 : decode cL_asks 36 = .ok (.invokevirtual 26, 3) := by decide +kernel
theorem dL_asks_39 : decode cL_asks 39 = .ok (.goto 24, 3) := by decide +kernel
theorem dL_asks_42 : decode cL_asks 42 = .ok (.iload_n 1, 1) := by decide +kernel
theorem dL_asks_43 : decode cL_asks 43 = .ok (.iconst 3, 1) := by decide +kernel
theorem dL_asks_44 : decode cL_asks 44 = .ok (.if_icmp .ne 11, 3) := by decide +kernel
theorem dL_asks_47 : decode cL_asks 47 = .ok (.aload_n 0, 1) := by decide +kernel
theorem dL_asks_48 : decode cL_asks 48 = .ok (.iload_n 2, 1) := by decide +kernel
theorem dL_asks_49 : decode cL_asks 49 = .ok (.invokevirtual 30, 3) := by decide +kernel
theorem dL_asks_52 : decode cL_asks 52 = .ok (.goto 11, 3) := by decide +kernel
theorem dL_asks_55 : decode cL_asks 55 = .ok (.aload_n 0, 1) := by decide +kernel
theorem dL_asks_56 : decode cL_asks 56 = .ok (.iload_n 2, 1) := by decide +kernel
theorem dL_asks_57 : decode cL_asks 57 = .ok (.iload_n 3, 1) := by decide +kernel
theorem dL_asks_58 : decode cL_asks 58 = .ok (.iload 4, 2) := by decide +kernel
theorem dL_asks_60 : decode cL_asks 60 = .ok (.invokevirtual 34, 3) := by decide +kernel
theorem dL_asks_63 : decode cL_asks 63 = .ok (.ireturn, 1) := by decide +kernel
theorem dL_asks_64 : decode cL_asks 64 = .ok (.astore 5, 2) := by decide +kernel
theorem dL_asks_66 : decode cL_asks 66 = .ok (.ldc 39, 2) := by decide +kernel
theorem dL_asks_68 : decode cL_asks 68 = .ok (.ireturn, 1) := by decide +kernel
theorem dL_asks_69 : decode cL_asks 69 = .ok (.astore 5, 2) := by decide +kernel
theorem dL_asks_71 : decode cL_asks 71 = .ok (.ldc 42, 2) := by decide +kernel
theorem dL_asks_73 : decode cL_asks 73 = .ok (.ireturn, 1) := by decide +kernel
theorem dL_asks_74 : decode cL_asks 74 = .ok (.astore 5, 2) := by decide +kernel
theorem dL_asks_76 : decode cL_asks 76 = .ok (.ldc 45, 2) := by decide +kernel
theorem dL_asks_78 : decode cL_asks 78 = .ok (.ireturn, 1) := by decide +kernel
theorem dL_prints_0 : decode cL_prints 0 = .ok (.iload_n 2, 1) := by decide +kernel
theorem dL_prints_1 : decode cL_prints 1 = .ok (.aload_n 0, 1) := by decide +kernel
theorem dL_prints_2 : decode cL_prints 2 = .ok (.iconst 3, 1) := by decide +kernel
theorem dL_prints_3 : decode cL_prints 3 = .ok (.iload_n 1, 1) := by decide +kernel
theorem dL_prints_4 : decode cL_prints 4 = .ok (.iadd, 1) := by decide +kernel
theorem dL_prints_5 : decode cL_prints 5 = .ok (.iaload, 1) := by decide +kernel
theorem dL_prints_6 : decode cL_prints 6 = .ok (.iload_n 2, 1) := by decide +kernel
theorem dL_prints_7 : decode cL_prints 7 = .ok (.imul, 1) := by decide +kernel
theorem dL_prints_8 : decode cL_prints 8 = .ok (.bipush 100, 2) := by decide +kernel
theorem dL_prints_10 : decode cL_prints 10 = .ok (.iload_n 2, 1) := by decide +kernel
theorem dL_prints_11 : decode cL_prints 11 = .ok (.isub, 1) := by decide +kernel
theorem dL_prints_12 : decode cL_prints 12 = .ok (.imul, 1) := by decide +kernel
theorem dL_prints_13 : decode cL_prints 13 = .ok (.sipush 2500, 3) := by decide +kernel
theorem dL_prints_16 : decode cL_prints 16 = .ok (.idiv, 1) := by decide +kernel
theorem dL_prints_17 : decode cL_prints 17 = .ok (.iadd, 1) := by decide +kernel
theorem dL_prints_18 : decode cL_prints 18 = .ok (.ireturn, 1) := by decide +kernel
set_option maxRecDepth 20000 in
theorem ggL_isCell_X9_ink : GoodIn wsL_isCell wsX9_ink := goodIn_ca (goodIn_ca (goodIn_r _ [5, 6, 7, 8, 9, 10, 11, 12, 4, 13, 14, 15, 16, 17, 18, 19, 20, 21, 22, 23, 24, 25, 26, 27, 28, 29, 30, 31, 32, 33, 34, 35, 36, 37, 38, 39, 40, 41, 42, 43, 44, 45, 46, 47, 48, 49, 50, 51, 52, 53, 54, 55, 56, 57, 58, 59, 60, 61, 62, 63, 64, 65, 66, 67, 68, 69, 70, 71, 72, 73, 74, 75, 76, 77, 78, 79, 84, 85, 86, 87, 88, 89, 90, 91, 92, 93, 94, 95, 96, 97, 98, 99] (by decide +kernel) (by decide +kernel)) (goodIn_sub (fun _ h => List.mem_cons_of_mem _ (List.mem_append_left _ (List.mem_append_right _ h))) (by decide +kernel))) (goodIn_sub (fun _ h => List.mem_cons_of_mem _ (List.mem_append_right _ h)) (by decide +kernel))
set_option maxRecDepth 20000 in
theorem gL_isCell_X9_ink : GoodIn wsL_isCell (wsV RL 34 RX9 yX9_ink wsX9_ink) := goodIn_app (goodIn_of _ (by decide +kernel)) ggL_isCell_X9_ink
set_option maxRecDepth 20000 in
theorem ggL_isCell_L_prints : GoodIn wsL_isCell wsL_prints := goodIn_r _ [83] (by decide +kernel) (by decide +kernel)
set_option maxRecDepth 20000 in
theorem gL_isCell_L_prints : GoodIn wsL_isCell (va_wsS RL 46 yL_prints wsL_prints) := goodIn_app (goodIn_of _ (by decide +kernel)) ggL_isCell_L_prints
theorem dL_isCell_0 : decode cL_isCell 0 = .ok (.iconst 0, 1) := by decide +kernel
theorem dL_isCell_1 : decode cL_isCell 1 = .ok (.istore_n 3, 1) := by decide +kernel
theorem dL_isCell_2 : decode cL_isCell 2 = .ok (.iconst 1, 1) := by decide +kernel
theorem dL_isCell_3 : decode cL_isCell 3 = .ok (.istore 4, 2) := by decide +kernel
theorem dL_isCell_5 : decode cL_isCell 5 = .ok (.iconst 0, 1) := by decide +kernel
theorem dL_isCell_6 : decode cL_isCell 6 = .ok (.istore 5, 2) := by decide +kernel
theorem dL_isCell_8 : decode cL_isCell 8 = .ok (.iload 5, 2) := by decide +kernel
theorem dL_isCell_10 : decode cL_isCell 10 = .ok (.iconst 4, 1) := by decide +kernel
theorem dL_isCell_11 : decode cL_isCell 11 = .ok (.if_icmp .ge 172, 3) := by decide +kernel
theorem dL_isCell_14 : decode cL_isCell 14 = .ok (.iload 4, 2) := by decide +kernel
theorem dL_isCell_16 : decode cL_isCell 16 = .ok (.ifCond .eq 167, 3) := by decide +kernel
theorem dL_isCell_19 : decode cL_isCell 19 = .ok (.aload_n 0, 1) := by decide +kernel
theorem dL_isCell_20 : decode cL_isCell 20 = .ok (.iload_n 1, 1) := by decide +kernel
theorem dL_isCell_21 : decode cL_isCell 21 = .ok (.iload 5, 2) := by decide +kernel
theorem dL_isCell_23 : decode cL_isCell 23 = .ok (.iconst 0, 1) := by decide +kernel
theorem dL_isCell_24 : decode cL_isCell 24 = .ok (.invokevirtual 34, 3) := by decide +kernel
theorem dL_isCell_27 : decode cL_isCell 27 = .ok (.istore 6, 2) := by decide +kernel
theorem dL_isCell_29 : decode cL_isCell 29 = .ok (.aload_n 0, 1) := by decide +kernel
theorem dL_isCell_30 : decode cL_isCell 30 = .ok (.iload_n 1, 1) := by decide +kernel
theorem dL_isCell_31 : decode cL_isCell 31 = .ok (.iload 5, 2) := by decide +kernel
theorem dL_isCell_33 : decode cL_isCell 33 = .ok (.iconst 1, 1) := by decide +kernel
theorem dL_isCell_34 : decode cL_isCell 34 = .ok (.invokevirtual 34, 3) := by decide +kernel
theorem dL_isCell_37 : decode cL_isCell 37 = .ok (.istore 7, 2) := by decide +kernel
theorem dL_isCell_39 : decode cL_isCell 39 = .ok (.aload_n 0, 1) := by decide +kernel
theorem dL_isCell_40 : decode cL_isCell 40 = .ok (.iload_n 1, 1) := by decide +kernel
theorem dL_isCell_41 : decode cL_isCell 41 = .ok (.iload 5, 2) := by decide +kernel
theorem dL_isCell_43 : decode cL_isCell 43 = .ok (.iconst 2, 1) := by decide +kernel
theorem dL_isCell_44 : decode cL_isCell 44 = .ok (.invokevirtual 34, 3) := by decide +kernel
theorem dL_isCell_47 : decode cL_isCell 47 = .ok (.istore 8, 2) := by decide +kernel
theorem dL_isCell_49 : decode cL_isCell 49 = .ok (.iload_n 3, 1) := by decide +kernel
theorem dL_isCell_50 : decode cL_isCell 50 = .ok (.iload 6, 2) := by decide +kernel
theorem dL_isCell_52 : decode cL_isCell 52 = .ok (.iadd, 1) := by decide +kernel
theorem dL_isCell_53 : decode cL_isCell 53 = .ok (.istore_n 3, 1) := by decide +kernel
theorem dL_isCell_54 : decode cL_isCell 54 = .ok (.iload 6, 2) := by decide +kernel
theorem dL_isCell_56 : decode cL_isCell 56 = .ok (.ifCond .lt 118, 3) := by decide +kernel
theorem dL_isCell_59 : decode cL_isCell 59 = .ok (.iload 6, 2) := by decide +kernel
theorem dL_isCell_61 : decode cL_isCell 61 = .ok (.bipush 100, 2) := by decide +kernel
theorem dL_isCell_63 : decode cL_isCell 63 = .ok (.if_icmp .gt 111, 3) := by decide +kernel
theorem dL_isCell_66 : decode cL_isCell 66 = .ok (.iload 7, 2) := by decide +kernel
theorem dL_isCell_68 : decode cL_isCell 68 = .ok (.iload 6, 2) := by decide +kernel
theorem dL_isCell_70 : decode cL_isCell 70 = .ok (.if_icmp .lt 104, 3) := by decide +kernel
theorem dL_isCell_73 : decode cL_isCell 73 = .ok (.iload 7, 2) := by decide +kernel
theorem dL_isCell_75 : decode cL_isCell 75 = .ok (.bipush 100, 2) := by decide +kernel
theorem dL_isCell_77 : decode cL_isCell 77 = .ok (.if_icmp .gt 97, 3) := by decide +kernel
theorem dL_isCell_80 : decode cL_isCell 80 = .ok (.iload 5, 2) := by decide +kernel
theorem dL_isCell_82 : decode cL_isCell 82 = .ok (.iconst 3, 1) := by decide +kernel
theorem dL_isCell_83 : decode cL_isCell 83 = .ok (.if_icmp .ge 10, 3) := by decide +kernel
theorem dL_isCell_86 : decode cL_isCell 86 = .ok (.aload_n 2, 1) := by decide +kernel
theorem dL_isCell_87 : decode cL_isCell 87 = .ok (.iconst 2, 1) := by decide +kernel
theorem dL_isCell_88 : decode cL_isCell 88 = .ok (.iaload, 1) := by decide +kernel
theorem dL_isCell_89 : decode cL_isCell 89 = .ok (.iconst 1, 1) := by decide +kernel
theorem dL_isCell_90 : decode cL_isCell 90 = .ok (.if_icmp .eq 10, 3) := by decide +kernel
theorem dL_isCell_93 : decode cL_isCell 93 = .ok (.iload 7, 2) := by decide +kernel
theorem dL_isCell_95 : decode cL_isCell 95 = .ok (.iload 6, 2) := by decide +kernel
theorem dL_isCell_97 : decode cL_isCell 97 = .ok (.if_icmp .ne 77, 3) := by decide +kernel
theorem dL_isCell_100 : decode cL_isCell 100 = .ok (.iload 8, 2) := by decide +kernel
theorem dL_isCell_102 : decode cL_isCell 102 = .ok (.ifCond .lt 72, 3) := by decide +kernel
theorem dL_isCell_105 : decode cL_isCell 105 = .ok (.iload 8, 2) := by decide +kernel
theorem dL_isCell_107 : decode cL_isCell 107 = .ok (.bipush 100, 2) := by decide +kernel
theorem dL_isCell_109 : decode cL_isCell 109 = .ok (.if_icmp .gt 65, 3) := by decide +kernel
theorem dL_isCell_112 : decode cL_isCell 112 = .ok (.aload_n 2, 1) := by decide +kernel
theorem dL_isCell_113 : decode cL_isCell 113 = .ok (.iload 5, 2) := by decide +kernel
theorem dL_isCell_115 : decode cL_isCell 115 = .ok (.iload 8, 2) := by decide +kernel
theorem dL_isCell_117 : decode cL_isCell 117 = .ok (.invokestatic 46, 3) := by decide +kernel
theorem dL_isCell_120 : decode cL_isCell 120 = .ok (.iload 7, 2) := by decide +kernel
theorem dL_isCell_122 : decode cL_isCell 122 = .ok (.if_icmp .lt 52, 3) := by decide +kernel
theorem dL_isCell_125 : decode cL_isCell 125 = .ok (.iload 8, 2) := by decide +kernel
theorem dL_isCell_127 : decode cL_isCell 127 = .ok (.ifCond .eq 18, 3) := by decide +kernel
theorem dL_isCell_130 : decode cL_isCell 130 = .ok (.aload_n 2, 1) := by decide +kernel
theorem dL_isCell_131 : decode cL_isCell 131 = .ok (.iload 5, 2) := by decide +kernel
theorem dL_isCell_133 : decode cL_isCell 133 = .ok (.iload 8, 2) := by decide +kernel
theorem dL_isCell_135 : decode cL_isCell 135 = .ok (.iconst 1, 1) := by decide +kernel
theorem dL_isCell_136 : decode cL_isCell 136 = .ok (.isub, 1) := by decide +kernel
theorem dL_isCell_137 : decode cL_isCell 137 = .ok (.invokestatic 46, 3) := by decide +kernel
theorem dL_isCell_140 : decode cL_isCell 140 = .ok (.iload 7, 2) := by decide +kernel
theorem dL_isCell_142 : decode cL_isCell 142 = .ok (.if_icmp .ge 32, 3) := by decide +kernel
theorem dL_isCell_145 : decode cL_isCell 145 = .ok (.aload_n 0, 1) := by decide +kernel
theorem dL_isCell_146 : decode cL_isCell 146 = .ok (.iload_n 1, 1) := by decide +kernel
theorem dL_isCell_147 : decode cL_isCell 147 = .ok (.iload 5, 2) := by decide +kernel
theorem dL_isCell_149 : decode cL_isCell 149 = .ok (.iconst 4, 1) := by decide +kernel
theorem dL_isCell_150 : decode cL_isCell 150 = .ok (.invokevirtual 34, 3) := by decide +kernel
theorem dL_isCell_153 : decode cL_isCell 153 = .ok (.aload_n 2, 1) := by decide +kernel
theorem dL_isCell_154 : decode cL_isCell 154 = .ok (.iload 5, 2) := by decide +kernel
theorem dL_isCell_156 : decode cL_isCell 156 = .ok (.aload_n 0, 1) := by decide +kernel
theorem dL_isCell_157 : decode cL_isCell 157 = .ok (.iload_n 1, 1) := by decide +kernel
theorem dL_isCell_158 : decode cL_isCell 158 = .ok (.iload 5, 2) := by decide +kernel
theorem dL_isCell_160 : decode cL_isCell 160 = .ok (.iconst 3, 1) := by decide +kernel
theorem dL_isCell_161 : decode cL_isCell 161 = .ok (.invokevirtual 34, 3) := by decide +kernel
theorem dL_isCell_164 : decode cL_isCell 164 = .ok (.invokestatic 46, 3) := by decide +kernel
theorem dL_isCell_167 : decode cL_isCell 167 = .ok (.if_icmp .ne 7, 3) := by decide +kernel
theorem dL_isCell_170 : decode cL_isCell 170 = .ok (.iconst 1, 1) := by decide +kernel
theorem dL_isCell_171 : decode cL_isCell 171 = .ok (.goto 4, 3) := by decide +kernel
theorem dL_isCell_174 : decode cL_isCell 174 = .ok (.iconst 0, 1) := by decide +kernel
theorem dL_isCell_175 : decode cL_isCell 175 = .ok (.istore 4, 2) := by decide +kernel
theorem dL_isCell_177 : decode cL_isCell 177 = .ok (.iinc 5 1, 3) := by decide +kernel
theorem dL_isCell_180 : decode cL_isCell 180 = .ok (.goto (-172), 3) := by decide +kernel
theorem dL_isCell_183 : decode cL_isCell 183 = .ok (.iload 4, 2) := by decide +kernel
theorem dL_isCell_185 : decode cL_isCell 185 = .ok (.ifCond .eq 14, 3) := by decide +kernel
theorem dL_isCell_188 : decode cL_isCell 188 = .ok (.iload_n 3, 1) := by decide +kernel
theorem dL_isCell_189 : decode cL_isCell 189 = .ok (.aload_n 2, 1) := by decide +kernel
theorem dL_isCell_190 : decode cL_isCell 190 = .ok (.iconst 1, 1) := by decide +kernel
theorem dL_isCell_191 : decode cL_isCell 191 = .ok (.iaload, 1) := by decide +kernel
theorem dL_isCell_192 : decode cL_isCell 192 = .ok (.if_icmp .gt 7, 3) := by decide +kernel
theorem dL_isCell_195 : decode cL_isCell 195 = .ok (.iconst 1, 1) := by decide +kernel
theorem dL_isCell_196 : decode cL_isCell 196 = .ok (.goto 4, 3) := by decide +kernel
theorem dL_isCell_199 : decode cL_isCell 199 = .ok (.iconst 0, 1) := by decide +kernel
theorem dL_isCell_200 : decode cL_isCell 200 = .ok (.ireturn, 1) := by decide +kernel
set_option maxRecDepth 20000 in
theorem ggL_areDots_X9_ink : GoodIn wsL_areDots wsX9_ink := goodIn_ca (goodIn_ca (goodIn_r _ [5, 6, 7, 8, 9, 10, 11, 12, 4, 13, 14, 15, 16, 17, 18, 19, 20, 21, 22, 23, 24, 25, 26, 27, 28, 29, 30, 31, 32, 33, 34, 35, 36, 37, 38, 39, 40, 41, 42, 43, 44, 45, 46, 47, 48, 49, 50, 51, 52, 53, 54, 55, 56, 57, 58, 59, 60, 61, 62, 63, 64, 65, 66, 67, 68, 69, 70, 71, 72, 73, 74, 75, 76, 77, 78, 79, 88, 89, 90, 91, 92, 93, 94, 95, 96, 97, 98, 99, 100, 101, 102, 103] (by decide +kernel) (by decide +kernel)) (goodIn_sub (fun _ h => List.mem_cons_of_mem _ (List.mem_append_left _ (List.mem_append_right _ h))) (by decide +kernel))) (goodIn_sub (fun _ h => List.mem_cons_of_mem _ (List.mem_append_right _ h)) (by decide +kernel))
set_option maxRecDepth 20000 in
theorem gL_areDots_X9_ink : GoodIn wsL_areDots (wsV RL 34 RX9 yX9_ink wsX9_ink) := goodIn_app (goodIn_of _ (by decide +kernel)) ggL_areDots_X9_ink
set_option maxRecDepth 20000 in
theorem ggL_areDots_X9_dot : GoodIn wsL_areDots wsX9_dot := goodIn_ca (goodIn_r _ [83, 10, 11, 12, 4, 13, 14, 15, 84, 85, 86, 65, 87, 74, 88, 89, 90, 91, 92, 93, 94, 95, 103] (by decide +kernel) (by decide +kernel)) (goodIn_sub (fun _ h => List.mem_cons_of_mem _ (List.mem_append_right _ h)) (by decide +kernel))
set_option maxRecDepth 20000 in
theorem gL_areDots_X9_dot : GoodIn wsL_areDots (wsV RL 50 RX9 yX9_dot wsX9_dot) := goodIn_app (goodIn_of _ (by decide +kernel)) ggL_areDots_X9_dot
theorem dL_areDots_0 : decode cL_areDots 0 = .ok (.iconst 0, 1) := by decide +kernel
theorem dL_areDots_1 : decode cL_areDots 1 = .ok (.istore_n 3, 1) := by decide +kernel
theorem dL_areDots_2 : decode cL_areDots 2 = .ok (.iconst 1, 1) := by decide +kernel
theorem dL_areDots_3 : decode cL_areDots 3 = .ok (.istore 4, 2) := by decide +kernel
theorem dL_areDots_5 : decode cL_areDots 5 = .ok (.iconst 0, 1) := by decide +kernel
theorem dL_areDots_6 : decode cL_areDots 6 = .ok (.istore 5, 2) := by decide +kernel
theorem dL_areDots_8 : decode cL_areDots 8 = .ok (.iload 5, 2) := by decide +kernel
theorem dL_areDots_10 : decode cL_areDots 10 = .ok (.bipush 8, 2) := by decide +kernel
theorem dL_areDots_12 : decode cL_areDots 12 = .ok (.if_icmp .ge 83, 3) := by decide +kernel
theorem dL_areDots_15 : decode cL_areDots 15 = .ok (.iload 4, 2) := by decide +kernel
theorem dL_areDots_17 : decode cL_areDots 17 = .ok (.ifCond .eq 78, 3) := by decide +kernel
theorem dL_areDots_20 : decode cL_areDots 20 = .ok (.iload_n 3, 1) := by decide +kernel
theorem dL_areDots_21 : decode cL_areDots 21 = .ok (.aload_n 0, 1) := by decide +kernel
theorem dL_areDots_22 : decode cL_areDots 22 = .ok (.bipush 8, 2) := by decide +kernel
theorem dL_areDots_24 : decode cL_areDots 24 = .ok (.iload_n 1, 1) := by decide +kernel
theorem dL_areDots_25 : decode cL_areDots 25 = .ok (.imul, 1) := by decide +kernel
theorem dL_areDots_26 : decode cL_areDots 26 = .ok (.iload 5, 2) := by decide +kernel
theorem dL_areDots_28 : decode cL_areDots 28 = .ok (.iadd, 1) := by decide +kernel
theorem dL_areDots_29 : decode cL_areDots 29 = .ok (.iload_n 2, 1) := by decide +kernel
theorem dL_areDots_30 : decode cL_areDots 30 = .ok (.iconst 3, 1) := by decide +kernel
theorem dL_areDots_31 : decode cL_areDots 31 = .ok (.invokevirtual 34, 3) := by decide +kernel
theorem dL_areDots_34 : decode cL_areDots 34 = .ok (.iadd, 1) := by decide +kernel
theorem dL_areDots_35 : decode cL_areDots 35 = .ok (.istore 6, 2) := by decide +kernel
theorem dL_areDots_37 : decode cL_areDots 37 = .ok (.aload_n 0, 1) := by decide +kernel
theorem dL_areDots_38 : decode cL_areDots 38 = .ok (.bipush 8, 2) := by decide +kernel
theorem dL_areDots_40 : decode cL_areDots 40 = .ok (.iload_n 1, 1) := by decide +kernel
theorem dL_areDots_41 : decode cL_areDots 41 = .ok (.imul, 1) := by decide +kernel
theorem dL_areDots_42 : decode cL_areDots 42 = .ok (.iload 5, 2) := by decide +kernel
theorem dL_areDots_44 : decode cL_areDots 44 = .ok (.iadd, 1) := by decide +kernel
theorem dL_areDots_45 : decode cL_areDots 45 = .ok (.iload_n 2, 1) := by decide +kernel
theorem dL_areDots_46 : decode cL_areDots 46 = .ok (.invokevirtual 50, 3) := by decide +kernel
theorem dL_areDots_49 : decode cL_areDots 49 = .ok (.iload 6, 2) := by decide +kernel
theorem dL_areDots_51 : decode cL_areDots 51 = .ok (.bipush 49, 2) := by decide +kernel
theorem dL_areDots_53 : decode cL_areDots 53 = .ok (.if_icmp .le 7, 3) := by decide +kernel
theorem dL_areDots_56 : decode cL_areDots 56 = .ok (.iconst 1, 1) := by decide +kernel
theorem dL_areDots_57 : decode cL_areDots 57 = .ok (.goto 4, 3) := by decide +kernel
theorem dL_areDots_60 : decode cL_areDots 60 = .ok (.iconst 0, 1) := by decide +kernel
theorem dL_areDots_61 : decode cL_areDots 61 = .ok (.if_icmp .ne 7, 3) := by decide +kernel
theorem dL_areDots_64 : decode cL_areDots 64 = .ok (.iconst 1, 1) := by decide +kernel
theorem dL_areDots_65 : decode cL_areDots 65 = .ok (.goto 4, 3) := by decide +kernel
theorem dL_areDots_68 : decode cL_areDots 68 = .ok (.iconst 0, 1) := by decide +kernel
theorem dL_areDots_69 : decode cL_areDots 69 = .ok (.istore 4, 2) := by decide +kernel
theorem dL_areDots_71 : decode cL_areDots 71 = .ok (.iload 6, 2) := by decide +kernel
theorem dL_areDots_73 : decode cL_areDots 73 = .ok (.bipush 49, 2) := by decide +kernel
theorem dL_areDots_75 : decode cL_areDots 75 = .ok (.if_icmp .le 11, 3) := by decide +kernel
theorem dL_areDots_78 : decode cL_areDots 78 = .ok (.iload 6, 2) := by decide +kernel
theorem dL_areDots_80 : decode cL_areDots 80 = .ok (.bipush 100, 2) := by decide +kernel
theorem dL_areDots_82 : decode cL_areDots 82 = .ok (.isub, 1) := by decide +kernel
theorem dL_areDots_83 : decode cL_areDots 83 = .ok (.goto 5, 3) := by decide +kernel
theorem dL_areDots_86 : decode cL_areDots 86 = .ok (.iload 6, 2) := by decide +kernel
theorem dL_areDots_88 : decode cL_areDots 88 = .ok (.istore_n 3, 1) := by decide +kernel
theorem dL_areDots_89 : decode cL_areDots 89 = .ok (.iinc 5 1, 3) := by decide +kernel
theorem dL_areDots_92 : decode cL_areDots 92 = .ok (.goto (-84), 3) := by decide +kernel
theorem dL_areDots_95 : decode cL_areDots 95 = .ok (.iload 4, 2) := by decide +kernel
theorem dL_areDots_97 : decode cL_areDots 97 = .ok (.ireturn, 1) := by decide +kernel
set_option maxRecDepth 20000 in
theorem ggL_density_X9_ink : GoodIn wsL_density wsX9_ink := goodIn_ca (goodIn_ca (goodIn_r _ [5, 6, 7, 8, 9, 10, 11, 12, 4, 13, 14, 15, 16, 17, 18, 19, 20, 21, 22, 23, 24, 25, 26, 27, 28, 29, 30, 31, 32, 33, 34, 35, 36, 37, 38, 39, 40, 41, 42, 43, 44, 45, 46, 47, 48, 49, 50, 51, 52, 53, 54, 55, 56, 57, 58, 59, 60, 61, 62, 63, 64, 65, 66, 67, 68, 69, 70, 71, 72, 73, 74, 75, 76, 77, 78, 79, 80, 81, 82, 83, 84, 85, 86, 87, 88, 89, 90, 91, 92, 93, 94, 95] (by decide +kernel) (by decide +kernel)) (goodIn_sub (fun _ h => List.mem_cons_of_mem _ (List.mem_append_left _ (List.mem_append_right _ h))) (by decide +kernel))) (goodIn_sub (fun _ h => List.mem_cons_of_mem _ (List.mem_append_right _ h)) (by decide +kernel))
set_option maxRecDepth 20000 in
theorem gL_density_X9_ink : GoodIn wsL_density (wsV RL 34 RX9 yX9_ink wsX9_ink) := goodIn_app (goodIn_of _ (by decide +kernel)) ggL_density_X9_ink
theorem dL_density_0 : decode cL_density 0 = .ok (.sipush (-400), 3) := by decide +kernel
theorem dL_density_3 : decode cL_density 3 = .ok (.istore 4, 2) := by decide +kernel
theorem dL_density_5 : decode cL_density 5 = .ok (.iconst 0, 1) := by decide +kernel
theorem dL_density_6 : decode cL_density 6 = .ok (.istore 5, 2) := by decide +kernel
theorem dL_density_8 : decode cL_density 8 = .ok (.iload 5, 2) := by decide +kernel
theorem dL_density_10 : decode cL_density 10 = .ok (.bipush 8, 2) := by decide +kernel
theorem dL_density_12 : decode cL_density 12 = .ok (.if_icmp .ge 27, 3) := by decide +kernel
theorem dL_density_15 : decode cL_density 15 = .ok (.iload 4, 2) := by decide +kernel
theorem dL_density_17 : decode cL_density 17 = .ok (.aload_n 0, 1) := by decide +kernel
theorem dL_density_18 : decode cL_density 18 = .ok (.bipush 8, 2) := by decide +kernel
theorem dL_density_20 : decode cL_density 20 = .ok (.iload 5, 2) := by decide +kernel
theorem dL_density_22 : decode cL_density 22 = .ok (.imul, 1) := by decide +kernel
theorem dL_density_23 : decode cL_density 23 = .ok (.iload_n 2, 1) := by decide +kernel
theorem dL_density_24 : decode cL_density 24 = .ok (.iadd, 1) := by decide +kernel
theorem dL_density_25 : decode cL_density 25 = .ok (.iload_n 1, 1) := by decide +kernel
theorem dL_density_26 : decode cL_density 26 = .ok (.iconst 3, 1) := by decide +kernel
theorem dL_density_27 : decode cL_density 27 = .ok (.invokevirtual 34, 3) := by decide +kernel
theorem dL_density_30 : decode cL_density 30 = .ok (.iadd, 1) := by decide +kernel
theorem dL_density_31 : decode cL_density 31 = .ok (.istore 4, 2) := by decide +kernel
theorem dL_density_33 : decode cL_density 33 = .ok (.iinc 5 1, 3) := by decide +kernel
theorem dL_density_36 : decode cL_density 36 = .ok (.goto (-28), 3) := by decide +kernel
theorem dL_density_39 : decode cL_density 39 = .ok (.iload 4, 2) := by decide +kernel
theorem dL_density_41 : decode cL_density 41 = .ok (.ifCond .ge 16, 3) := by decide +kernel
theorem dL_density_44 : decode cL_density 44 = .ok (.iload 4, 2) := by decide +kernel
theorem dL_density_46 : decode cL_density 46 = .ok (.ineg, 1) := by decide +kernel
theorem dL_density_47 : decode cL_density 47 = .ok (.bipush 8, 2) := by decide +kernel
theorem dL_density_49 : decode cL_density 49 = .ok (.idiv, 1) := by decide +kernel
theorem dL_density_50 : decode cL_density 50 = .ok (.bipush 10, 2) := by decide +kernel
theorem dL_density_52 : decode cL_density 52 = .ok (.idiv, 1) := by decide +kernel
theorem dL_density_53 : decode cL_density 53 = .ok (.ineg, 1) := by decide +kernel
theorem dL_density_54 : decode cL_density 54 = .ok (.goto 11, 3) := by decide +kernel
theorem dL_density_57 : decode cL_density 57 = .ok (.iload 4, 2) := by decide +kernel
theorem dL_density_59 : decode cL_density 59 = .ok (.bipush 8, 2) := by decide +kernel
theorem dL_density_61 : decode cL_density 61 = .ok (.idiv, 1) := by decide +kernel
theorem dL_density_62 : decode cL_density 62 = .ok (.bipush 10, 2) := by decide +kernel
theorem dL_density_64 : decode cL_density 64 = .ok (.idiv, 1) := by decide +kernel
theorem dL_density_65 : decode cL_density 65 = .ok (.istore 5, 2) := by decide +kernel
theorem dL_density_67 : decode cL_density 67 = .ok (.bipush 50, 2) := by decide +kernel
theorem dL_density_69 : decode cL_density 69 = .ok (.aload_n 3, 1) := by decide +kernel
theorem dL_density_70 : decode cL_density 70 = .ok (.bipush 8, 2) := by decide +kernel
theorem dL_density_72 : decode cL_density 72 = .ok (.iload_n 1, 1) := by decide +kernel
theorem dL_density_73 : decode cL_density 73 = .ok (.imul, 1) := by decide +kernel
theorem dL_density_74 : decode cL_density 74 = .ok (.iload_n 2, 1) := by decide +kernel
theorem dL_density_75 : decode cL_density 75 = .ok (.iadd, 1) := by decide +kernel
theorem dL_density_76 : decode cL_density 76 = .ok (.iaload, 1) := by decide +kernel
theorem dL_density_77 : decode cL_density 77 = .ok (.iadd, 1) := by decide +kernel
theorem dL_density_78 : decode cL_density 78 = .ok (.iload 5, 2) := by decide +kernel
theorem dL_density_80 : decode cL_density 80 = .ok (.isub, 1) := by decide +kernel
theorem dL_density_81 : decode cL_density 81 = .ok (.ireturn, 1) := by decide +kernel
set_option maxRecDepth 20000 in
theorem ggL_areUnits_X9_unit : GoodIn wsL_areUnits wsX9_unit := goodIn_ca (goodIn_ca (goodIn_r _ [5, 6, 7, 8, 9, 10, 4, 11, 12, 13, 14, 15, 16, 17, 18, 19, 20, 21, 22, 23, 24, 25, 26, 27, 28, 29, 30, 31, 32, 33, 34, 35, 36, 37, 38, 39, 40, 41, 114, 115, 116, 117, 118, 119, 120, 121, 122, 123, 124, 125, 126, 127, 128, 129, 130, 131, 132, 133, 134, 135, 136, 137] (by decide +kernel) (by decide +kernel)) (goodIn_sub (fun _ h => List.mem_cons_of_mem _ (List.mem_append_left _ (List.mem_append_right _ h))) (by decide +kernel))) (goodIn_sub (fun _ h => List.mem_cons_of_mem _ (List.mem_append_right _ h)) (by decide +kernel))
set_option maxRecDepth 20000 in
theorem gL_areUnits_X9_unit : GoodIn wsL_areUnits (wsV RL 54 RX9 yX9_unit wsX9_unit) := goodIn_app (goodIn_of _ (by decide +kernel)) ggL_areUnits_X9_unit
set_option maxRecDepth 20000 in
theorem ggL_areUnits_L_density : GoodIn wsL_areUnits wsL_density := goodIn_ca (goodIn_ca (goodIn_r _ [45, 46, 47, 48, 4, 49, 17, 18, 50, 51, 8, 9, 10, 11, 12, 13, 52, 53, 54, 55, 56, 57, 58, 59, 60, 61, 62, 63, 64, 65, 66, 67, 68, 69, 70, 71, 72, 73, 74, 75, 76, 77, 78, 79, 80, 81, 82, 83, 84, 85, 86, 87, 88, 89, 90, 91, 92, 93, 94, 95, 96, 97, 98, 99, 100, 39, 101, 102, 103, 104, 105, 106, 107, 108, 41, 109, 110, 111, 112, 113, 114, 115, 116, 117, 118, 119, 120, 121, 138, 139, 140, 141, 142, 143, 144, 137] (by decide +kernel) (by decide +kernel)) (goodIn_sub (fun _ h => List.mem_cons_of_mem _ (List.mem_append_right _ h)) (by decide +kernel))) (goodIn_sub (fun _ h => List.mem_cons_of_mem _ (List.mem_append_left _ (List.mem_append_right _ h))) (by decide +kernel))
set_option maxRecDepth 20000 in
theorem gL_areUnits_L_density : GoodIn wsL_areUnits (va_wsS RL 57 yL_density wsL_density) := goodIn_app (goodIn_of _ (by decide +kernel)) ggL_areUnits_L_density
theorem dL_areUnits_0 : decode cL_areUnits 0 = .ok (.iconst 1, 1) := by decide +kernel
theorem dL_areUnits_1 : decode cL_areUnits 1 = .ok (.istore_n 2, 1) := by decide +kernel
theorem dL_areUnits_2 : decode cL_areUnits 2 = .ok (.iconst 0, 1) := by decide +kernel
theorem dL_areUnits_3 : decode cL_areUnits 3 = .ok (.istore_n 3, 1) := by decide +kernel
theorem dL_areUnits_4 : decode cL_areUnits 4 = .ok (.iload_n 3, 1) := by decide +kernel
theorem dL_areUnits_5 : decode cL_areUnits 5 = .ok (.iconst 4, 1) := by decide +kernel
theorem dL_areUnits_6 : decode cL_areUnits 6 = .ok (.if_icmp .ge 55, 3) := by decide +kernel
theorem dL_areUnits_9 : decode cL_areUnits 9 = .ok (.iconst 0, 1) := by decide +kernel
theorem dL_areUnits_10 : decode cL_areUnits 10 = .ok (.istore 4, 2) := by decide +kernel
theorem dL_areUnits_12 : decode cL_areUnits 12 = .ok (.iload 4, 2) := by decide +kernel
theorem dL_areUnits_14 : decode cL_areUnits 14 = .ok (.bipush 8, 2) := by decide +kernel
theorem dL_areUnits_16 : decode cL_areUnits 16 = .ok (.if_icmp .ge 39, 3) := by decide +kernel
theorem dL_areUnits_19 : decode cL_areUnits 19 = .ok (.iload_n 2, 1) := by decide +kernel
theorem dL_areUnits_20 : decode cL_areUnits 20 = .ok (.ifCond .eq 35, 3) := by decide +kernel
theorem dL_areUnits_23 : decode cL_areUnits 23 = .ok (.aload_n 0, 1) := by decide +kernel
theorem dL_areUnits_24 : decode cL_areUnits 24 = .ok (.iload_n 3, 1) := by decide +kernel
theorem dL_areUnits_25 : decode cL_areUnits 25 = .ok (.iconst 2, 1) := by decide +kernel
theorem dL_areUnits_26 : decode cL_areUnits 26 = .ok (.iload 4, 2) := by decide +kernel
theorem dL_areUnits_28 : decode cL_areUnits 28 = .ok (.iadd, 1) := by decide +kernel
theorem dL_areUnits_29 : decode cL_areUnits 29 = .ok (.invokevirtual 54, 3) := by decide +kernel
theorem dL_areUnits_32 : decode cL_areUnits 32 = .ok (.aload_n 0, 1) := by decide +kernel
theorem dL_areUnits_33 : decode cL_areUnits 33 = .ok (.iload_n 3, 1) := by decide +kernel
theorem dL_areUnits_34 : decode cL_areUnits 34 = .ok (.iload 4, 2) := by decide +kernel
theorem dL_areUnits_36 : decode cL_areUnits 36 = .ok (.aload_n 1, 1) := by decide +kernel
theorem dL_areUnits_37 : decode cL_areUnits 37 = .ok (.invokestatic 57, 3) := by decide +kernel
theorem dL_areUnits_40 : decode cL_areUnits 40 = .ok (.if_icmp .ne 7, 3) := by decide +kernel
theorem dL_areUnits_43 : decode cL_areUnits 43 = .ok (.iconst 1, 1) := by decide +kernel
theorem dL_areUnits_44 : decode cL_areUnits 44 = .ok (.goto 4, 3) := by decide +kernel
theorem dL_areUnits_47 : decode cL_areUnits 47 = .ok (.iconst 0, 1) := by decide +kernel
theorem dL_areUnits_48 : decode cL_areUnits 48 = .ok (.istore_n 2, 1) := by decide +kernel
theorem dL_areUnits_49 : decode cL_areUnits 49 = .ok (.iinc 4 1, 3) := by decide +kernel
theorem dL_areUnits_52 : decode cL_areUnits 52 = .ok (.goto (-40), 3) := by decide +kernel
theorem dL_areUnits_55 : decode cL_areUnits 55 = .ok (.iinc 3 1, 3) := by decide +kernel
theorem dL_areUnits_58 : decode cL_areUnits 58 = .ok (.goto (-54), 3) := by decide +kernel
theorem dL_areUnits_61 : decode cL_areUnits 61 = .ok (.iload_n 2, 1) := by decide +kernel
theorem dL_areUnits_62 : decode cL_areUnits 62 = .ok (.ireturn, 1) := by decide +kernel
set_option maxRecDepth 20000 in
theorem ggL_isSound_L_areUnits : GoodIn wsL_isSound wsL_areUnits := goodIn_ca (goodIn_ca (goodIn_r _ [5, 6, 7, 8, 9, 10, 11, 12, 13, 14, 15, 16, 17, 18, 19, 20, 21, 22, 23, 24, 25, 26, 27, 28, 29, 30, 31, 32, 33, 34, 35, 36, 37, 38, 39, 40, 41, 42, 43, 44, 45, 46, 47, 48, 4, 49, 50, 51, 52, 53, 54, 55, 56, 57, 58, 59, 60, 61, 62, 63, 64, 65, 66, 67, 68, 69, 70, 71, 72, 73, 74, 75, 76, 77, 78, 79, 80, 81, 82, 83, 84, 85, 86, 87, 88, 89, 90, 91, 92, 93, 94, 95, 96, 97, 98, 99, 100, 101, 102, 103, 104, 105, 106, 107, 108, 109, 110, 111, 112, 113, 114, 115, 116, 117, 270, 271, 272, 273, 274, 275, 276, 277, 278, 279, 280, 281, 282, 283, 284, 285, 286, 287, 288, 289, 290, 291, 292, 293, 294, 295, 296, 297, 298, 299, 300] (by decide +kernel) (by decide +kernel)) (goodIn_sub (fun _ h => List.mem_cons_of_mem _ (List.mem_append_left _ (List.mem_append_left _ (List.mem_append_right _ h)))) (by decide +kernel))) (goodIn_sub (fun _ h => List.mem_cons_of_mem _ (List.mem_append_left _ (List.mem_append_right _ h))) (by decide +kernel))
set_option maxRecDepth 20000 in
theorem gL_isSound_L_areUnits : GoodIn wsL_isSound (va_wsS RL 61 yL_areUnits wsL_areUnits) := goodIn_app (goodIn_of _ (by decide +kernel)) ggL_isSound_L_areUnits
set_option maxRecDepth 20000 in
theorem ggL_isSound_L_isCell : GoodIn wsL_isSound wsL_isCell := goodIn_ca (goodIn_ca (goodIn_r _ [120, 50, 51, 52, 9, 53, 22, 23, 54, 55, 13, 14, 15, 16, 17, 18, 56, 57, 58, 59, 60, 61, 62, 63, 64, 65, 66, 67, 68, 69, 70, 71, 72, 73, 74, 75, 76, 77, 78, 79, 80, 81, 82, 83, 84, 85, 86, 87, 88, 89, 90, 91, 92, 93, 94, 95, 96, 97, 98, 99, 100, 101, 102, 103, 104, 44, 105, 106, 107, 108, 109, 110, 111, 112, 46, 113, 114, 115, 116, 117, 121, 122, 4, 123, 270, 271, 272, 273, 274, 275, 276, 277, 294, 295, 296, 297, 298, 299, 300, 293] (by decide +kernel) (by decide +kernel)) (goodIn_sub (fun _ h => List.mem_cons_of_mem _ (List.mem_append_left _ (List.mem_append_right _ h))) (by decide +kernel))) (goodIn_sub (fun _ h => List.mem_cons_of_mem _ (List.mem_append_left _ (List.mem_append_left _ (List.mem_append_right _ h)))) (by decide +kernel))
set_option maxRecDepth 20000 in
theorem gL_isSound_L_isCell : GoodIn wsL_isSound (va_wsS RL 65 yL_isCell wsL_isCell) := goodIn_app (goodIn_of _ (by decide +kernel)) ggL_isSound_L_isCell
set_option maxRecDepth 20000 in
theorem ggL_isSound_L_areDots : GoodIn wsL_isSound wsL_areDots := goodIn_ca (goodIn_ca (goodIn_r _ [126, 50, 51, 52, 9, 53, 22, 23, 54, 55, 13, 14, 15, 16, 17, 18, 56, 57, 58, 59, 60, 61, 62, 63, 64, 65, 66, 67, 68, 69, 70, 71, 72, 73, 74, 75, 76, 77, 78, 79, 80, 81, 82, 83, 84, 85, 86, 87, 88, 89, 90, 91, 92, 93, 94, 95, 96, 97, 98, 99, 100, 101, 102, 103, 104, 44, 105, 106, 107, 108, 109, 110, 111, 112, 46, 113, 114, 115, 116, 117, 127, 128, 129, 130, 131, 132, 133, 134, 270, 271, 272, 273, 274, 275, 276, 277, 294, 295, 296, 297, 298, 299, 300, 293] (by decide +kernel) (by decide +kernel)) (goodIn_sub (fun _ h => List.mem_cons_of_mem _ (List.mem_append_left _ (List.mem_append_right _ h))) (by decide +kernel))) (goodIn_sub (fun _ h => List.mem_cons_of_mem _ (List.mem_append_left _ (List.mem_append_left _ (List.mem_append_right _ h)))) (by decide +kernel))
set_option maxRecDepth 20000 in
theorem gL_isSound_L_areDots : GoodIn wsL_isSound (va_wsS RL 69 yL_areDots wsL_areDots) := goodIn_app (goodIn_of _ (by decide +kernel)) ggL_isSound_L_areDots
set_option maxRecDepth 20000 in
theorem ggL_isSound_X9_all : GoodIn wsL_isSound wsX9_all := goodIn_ca (goodIn_r _ [138, 22, 23, 12, 139, 11, 140, 141, 142, 38, 143, 144, 145, 146, 147, 148, 149, 150, 151, 152, 153, 154, 155, 156, 157, 158, 159, 160, 161, 162, 163, 164, 165, 166, 167, 168, 27, 169, 170, 270, 271, 272, 273, 274, 275, 276, 277, 287, 288, 289, 290, 291, 292, 301, 302, 303, 304, 305, 306, 278, 279, 280, 281, 282, 283, 284, 285, 286] (by decide +kernel) (by decide +kernel)) (goodIn_sub (fun _ h => List.mem_cons_of_mem _ (List.mem_append_left _ (List.mem_append_right _ h))) (by decide +kernel))
set_option maxRecDepth 20000 in
theorem gL_isSound_X9_all : GoodIn wsL_isSound (wsV RL 73 RX9 yX9_all wsX9_all) := goodIn_app (goodIn_of _ (by decide +kernel)) ggL_isSound_X9_all
set_option maxRecDepth 20000 in
theorem ggL_isSound_L_asks : GoodIn wsL_isSound wsL_asks := goodIn_ca (goodIn_ca (goodIn_ca (goodIn_r _ [173, 174, 175, 176, 1, 177, 178, 179, 180, 4, 181, 182, 183, 184, 9, 185, 186, 187, 139, 19, 20, 21, 22, 23, 160, 161, 162, 163, 164, 165, 188, 189, 190, 191, 192, 193, 194, 195, 196, 197, 198, 199, 200, 11, 55, 12, 14, 15, 16, 17, 18, 166, 167, 168, 27, 169, 170, 201, 202, 203, 69, 204, 205, 206, 207, 208, 209, 29, 34, 140, 141, 142, 38, 143, 144, 210, 211, 212, 213, 214, 215, 216, 217, 218, 219, 220, 221, 222, 223, 224, 225, 226, 227, 228, 229, 230, 231, 232, 233, 234, 235, 236, 237, 238, 239, 240, 241, 242, 13, 243, 244, 245, 246, 247, 248, 249, 250, 251, 252, 253, 254, 255, 256, 257, 258, 259, 64, 260, 261, 114, 115, 44, 116, 46, 117, 99, 100, 101, 102, 106, 107, 108, 50, 51, 52, 53, 54, 56, 57, 58, 59, 60, 61, 62, 63, 65, 66, 67, 68, 70, 71, 72, 73, 74, 75, 76, 77, 78, 79, 80, 81, 82, 83, 84, 85, 86, 87, 88, 89, 90, 91, 92, 93, 94, 95, 96, 97, 98, 103, 104, 105, 109, 110, 111, 112, 113, 270, 271, 272, 273, 274, 275, 276, 277, 301, 302, 303, 304, 305, 306, 278, 279, 280, 281, 282, 283, 284, 285, 286, 295, 296, 297, 298, 299, 300, 287, 288, 289, 290, 291, 292, 307, 308, 293, 294] (by decide +kernel) (by decide +kernel)) (goodIn_sub (fun _ h => List.mem_cons_of_mem _ (List.mem_append_right _ h)) (by decide +kernel))) (goodIn_sub (fun _ h => List.mem_cons_of_mem _ (List.mem_append_left _ (List.mem_append_right _ h))) (by decide +kernel))) (goodIn_sub (fun _ h => List.mem_cons_of_mem _ (List.mem_append_left _ (List.mem_append_left _ (List.mem_append_right _ h)))) (by decide +kernel))
set_option maxRecDepth 20000 in
theorem gL_isSound_L_asks : GoodIn wsL_isSound (va_wsS RL 76 yL_asks wsL_asks) := goodIn_app (goodIn_of _ (by decide +kernel)) ggL_isSound_L_asks
set_option maxRecDepth 20000 in
theorem ggL_isSound_X9_next : GoodIn wsL_isSound wsX9_next := goodIn_r _ [265, 139, 266, 267, 268, 163, 269, 165, 194, 196, 270, 271, 272, 273, 274, 275, 276, 277, 301, 302, 303, 304, 305, 306] (by decide +kernel) (by decide +kernel)
set_option maxRecDepth 20000 in
theorem gL_isSound_X9_next : GoodIn wsL_isSound (wsV RL 80 RX9 yX9_next wsX9_next) := goodIn_app (goodIn_of _ (by decide +kernel)) ggL_isSound_X9_next
set_option maxRecDepth 20000 in
theorem ggL_isSound_X9_copy : GoodIn wsL_isSound wsX9_copy := goodIn_ca (goodIn_ca (goodIn_r _ [225, 139, 226, 227, 228, 163, 229, 195, 14, 15, 9, 16, 17, 18, 19, 20, 21, 22, 23, 230, 231, 232, 233, 193, 234, 235, 236, 237, 192, 270, 271, 272, 273, 274, 275, 276, 277, 301, 302, 303, 304, 305, 306] (by decide +kernel) (by decide +kernel)) (goodIn_sub (fun _ h => List.mem_cons_of_mem _ (List.mem_append_left _ (List.mem_append_left _ (List.mem_append_right _ h)))) (by decide +kernel))) (goodIn_sub (fun _ h => List.mem_cons_of_mem _ (List.mem_append_left _ (List.mem_append_right _ h))) (by decide +kernel))
set_option maxRecDepth 20000 in
theorem gL_isSound_X9_copy : GoodIn wsL_isSound (wsV RL 26 RX9 yX9_copy wsX9_copy) := goodIn_app (goodIn_of _ (by decide +kernel)) ggL_isSound_X9_copy
theorem dL_isSound_0 : decode cL_isSound 0 = .ok (.aload_n 0, 1) := by decide +kernel
theorem dL_isSound_1 : decode cL_isSound 1 = .ok (.aload_n 3, 1) := by decide +kernel
theorem dL_isSound_2 : decode cL_isSound 2 = .ok (.invokestatic 61, 3) := by decide +kernel
theorem dL_isSound_5 : decode cL_isSound 5 = .ok (.ifCond .eq 193, 3) := by decide +kernel
theorem dL_isSound_8 : decode cL_isSound 8 = .ok (.aload_n 0, 1) := by decide +kernel
theorem dL_isSound_9 : decode cL_isSound 9 = .ok (.iload_n 1, 1) := by decide +kernel
theorem dL_isSound_10 : decode cL_isSound 10 = .ok (.bipush 64, 2) := by decide +kernel
theorem dL_isSound_12 : decode cL_isSound 12 = .ok (.irem, 1) := by decide +kernel
theorem dL_isSound_13 : decode cL_isSound 13 = .ok (.aload_n 2, 1) := by decide +kernel
theorem dL_isSound_14 : decode cL_isSound 14 = .ok (.invokestatic 65, 3) := by decide +kernel
theorem dL_isSound_17 : decode cL_isSound 17 = .ok (.ifCond .eq 181, 3) := by decide +kernel
theorem dL_isSound_20 : decode cL_isSound 20 = .ok (.aload_n 0, 1) := by decide +kernel
theorem dL_isSound_21 : decode cL_isSound 21 = .ok (.iload_n 1, 1) := by decide +kernel
theorem dL_isSound_22 : decode cL_isSound 22 = .ok (.bipush 64, 2) := by decide +kernel
theorem dL_isSound_24 : decode cL_isSound 24 = .ok (.idiv, 1) := by decide +kernel
theorem dL_isSound_25 : decode cL_isSound 25 = .ok (.bipush 64, 2) := by decide +kernel
theorem dL_isSound_27 : decode cL_isSound 27 = .ok (.irem, 1) := by decide +kernel
theorem dL_isSound_28 : decode cL_isSound 28 = .ok (.aload_n 2, 1) := by decide +kernel
theorem dL_isSound_29 : decode cL_isSound 29 = .ok (.invokestatic 65, 3) := by decide +kernel
theorem dL_isSound_32 : decode cL_isSound 32 = .ok (.ifCond .eq 166, 3) := by decide +kernel
theorem dL_isSound_35 : decode cL_isSound 35 = .ok (.aload_n 0, 1) := by decide +kernel
theorem dL_isSound_36 : decode cL_isSound 36 = .ok (.iload_n 1, 1) := by decide +kernel
theorem dL_isSound_37 : decode cL_isSound 37 = .ok (.bipush 8, 2) := by decide +kernel
theorem dL_isSound_39 : decode cL_isSound 39 = .ok (.irem, 1) := by decide +kernel
theorem dL_isSound_40 : decode cL_isSound 40 = .ok (.iload_n 1, 1) := by decide +kernel
theorem dL_isSound_41 : decode cL_isSound 41 = .ok (.bipush 8, 2) := by decide +kernel
theorem dL_isSound_43 : decode cL_isSound 43 = .ok (.idiv, 1) := by decide +kernel
theorem dL_isSound_44 : decode cL_isSound 44 = .ok (.iconst 4, 1) := by decide +kernel
theorem dL_isSound_45 : decode cL_isSound 45 = .ok (.irem, 1) := by decide +kernel
theorem dL_isSound_46 : decode cL_isSound 46 = .ok (.invokestatic 69, 3) := by decide +kernel
theorem dL_isSound_49 : decode cL_isSound 49 = .ok (.ifCond .eq 149, 3) := by decide +kernel
theorem dL_isSound_52 : decode cL_isSound 52 = .ok (.aload_n 0, 1) := by decide +kernel
theorem dL_isSound_53 : decode cL_isSound 53 = .ok (.iconst 0, 1) := by decide +kernel
theorem dL_isSound_54 : decode cL_isSound 54 = .ok (.invokevirtual 73, 3) := by decide +kernel
theorem dL_isSound_57 : decode cL_isSound 57 = .ok (.aload 5, 2) := by decide +kernel
theorem dL_isSound_59 : decode cL_isSound 59 = .ok (.iconst 3, 1) := by decide +kernel
theorem dL_isSound_60 : decode cL_isSound 60 = .ok (.iaload, 1) := by decide +kernel
theorem dL_isSound_61 : decode cL_isSound 61 = .ok (.if_icmp .ne 137, 3) := by decide +kernel
theorem dL_isSound_64 : decode cL_isSound 64 = .ok (.aload_n 0, 1) := by decide +kernel
theorem dL_isSound_65 : decode cL_isSound 65 = .ok (.iconst 1, 1) := by decide +kernel
theorem dL_isSound_66 : decode cL_isSound 66 = .ok (.invokevirtual 73, 3) := by decide +kernel
theorem dL_isSound_69 : decode cL_isSound 69 = .ok (.aload 5, 2) := by decide +kernel
theorem dL_isSound_71 : decode cL_isSound 71 = .ok (.iconst 4, 1) := by decide +kernel
theorem dL_isSound_72 : decode cL_isSound 72 = .ok (.iaload, 1) := by decide +kernel
theorem dL_isSound_73 : decode cL_isSound 73 = .ok (.if_icmp .ne 125, 3) := by decide +kernel
theorem dL_isSound_76 : decode cL_isSound 76 = .ok (.aload_n 0, 1) := by decide +kernel
theorem dL_isSound_77 : decode cL_isSound 77 = .ok (.iconst 2, 1) := by decide +kernel
theorem dL_isSound_78 : decode cL_isSound 78 = .ok (.invokevirtual 73, 3) := by decide +kernel
theorem dL_isSound_81 : decode cL_isSound 81 = .ok (.aload 5, 2) := by decide +kernel
theorem dL_isSound_83 : decode cL_isSound 83 = .ok (.iconst 3, 1) := by decide +kernel
theorem dL_isSound_84 : decode cL_isSound 84 = .ok (.iaload, 1) := by decide +kernel
theorem dL_isSound_85 : decode cL_isSound 85 = .ok (.aload 5, 2) := by decide +kernel
theorem dL_isSound_87 : decode cL_isSound 87 = .ok (.iconst 4, 1) := by decide +kernel
theorem dL_isSound_88 : decode cL_isSound 88 = .ok (.iaload, 1) := by decide +kernel
theorem dL_isSound_89 : decode cL_isSound 89 = .ok (.isub, 1) := by decide +kernel
theorem dL_isSound_90 : decode cL_isSound 90 = .ok (.if_icmp .ne 108, 3) := by decide +kernel
theorem dL_isSound_93 : decode cL_isSound 93 = .ok (.aload_n 0, 1) := by decide +kernel
theorem dL_isSound_94 : decode cL_isSound 94 = .ok (.iconst 3, 1) := by decide +kernel
theorem dL_isSound_95 : decode cL_isSound 95 = .ok (.invokevirtual 73, 3) := by decide +kernel
theorem dL_isSound_98 : decode cL_isSound 98 = .ok (.aload 5, 2) := by decide +kernel
theorem dL_isSound_100 : decode cL_isSound 100 = .ok (.iconst 5, 1) := by decide +kernel
theorem dL_isSound_101 : decode cL_isSound 101 = .ok (.iaload, 1) := by decide +kernel
theorem dL_isSound_102 : decode cL_isSound 102 = .ok (.if_icmp .ne 96, 3) := by decide +kernel
theorem dL_isSound_105 : decode cL_isSound 105 = .ok (.aload_n 0, 1) := by decide +kernel
theorem dL_isSound_106 : decode cL_isSound 106 = .ok (.iconst 4, 1) := by decide +kernel
theorem dL_isSound_107 : decode cL_isSound 107 = .ok (.invokevirtual 73, 3) := by decide +kernel
theorem dL_isSound_110 : decode cL_isSound 110 = .ok (.aload 5, 2) := by decide +kernel
theorem dL_isSound_112 : decode cL_isSound 112 = .ok (.bipush 6, 2) := by decide +kernel
theorem dL_isSound_114 : decode cL_isSound 114 = .ok (.iaload, 1) := by decide +kernel
theorem dL_isSound_115 : decode cL_isSound 115 = .ok (.if_icmp .ne 83, 3) := by decide +kernel
theorem dL_isSound_118 : decode cL_isSound 118 = .ok (.aload_n 0, 1) := by decide +kernel
theorem dL_isSound_119 : decode cL_isSound 119 = .ok (.iconst 5, 1) := by decide +kernel
theorem dL_isSound_120 : decode cL_isSound 120 = .ok (.invokevirtual 73, 3) := by decide +kernel
theorem dL_isSound_123 : decode cL_isSound 123 = .ok (.aload 5, 2) := by decide +kernel
theorem dL_isSound_125 : decode cL_isSound 125 = .ok (.iconst 0, 1) := by decide +kernel
theorem dL_isSound_126 : decode cL_isSound 126 = .ok (.iaload, 1) := by decide +kernel
theorem dL_isSound_127 : decode cL_isSound 127 = .ok (.aload 5, 2) := by decide +kernel
theorem dL_isSound_129 : decode cL_isSound 129 = .ok (.iconst 1, 1) := by decide +kernel
theorem dL_isSound_130 : decode cL_isSound 130 = .ok (.iaload, 1) := by decide +kernel
theorem dL_isSound_131 : decode cL_isSound 131 = .ok (.isub, 1) := by decide +kernel
theorem dL_isSound_132 : decode cL_isSound 132 = .ok (.if_icmp .ne 66, 3) := by decide +kernel
theorem dL_isSound_135 : decode cL_isSound 135 = .ok (.aload_n 0, 1) := by decide +kernel
theorem dL_isSound_136 : decode cL_isSound 136 = .ok (.bipush 6, 2) := by decide +kernel
theorem dL_isSound_138 : decode cL_isSound 138 = .ok (.invokevirtual 73, 3) := by decide +kernel
theorem dL_isSound_141 : decode cL_isSound 141 = .ok (.bipush 20, 2) := by decide +kernel
theorem dL_isSound_143 : decode cL_isSound 143 = .ok (.if_icmp .gt 55, 3) := by decide +kernel
theorem dL_isSound_146 : decode cL_isSound 146 = .ok (.aload_n 0, 1) := by decide +kernel
theorem dL_isSound_147 : decode cL_isSound 147 = .ok (.iconst 2, 1) := by decide +kernel
theorem dL_isSound_148 : decode cL_isSound 148 = .ok (.aload 5, 2) := by decide +kernel
theorem dL_isSound_150 : decode cL_isSound 150 = .ok (.iconst 0, 1) := by decide +kernel
theorem dL_isSound_151 : decode cL_isSound 151 = .ok (.iaload, 1) := by decide +kernel
theorem dL_isSound_152 : decode cL_isSound 152 = .ok (.iconst 0, 1) := by decide +kernel
theorem dL_isSound_153 : decode cL_isSound 153 = .ok (.iconst 0, 1) := by decide +kernel
theorem dL_isSound_154 : decode cL_isSound 154 = .ok (.invokestatic 76, 3) := by decide +kernel
theorem dL_isSound_157 : decode cL_isSound 157 = .ok (.ldc 39, 2) := by decide +kernel
theorem dL_isSound_159 : decode cL_isSound 159 = .ok (.if_icmp .ne 39, 3) := by decide +kernel
theorem dL_isSound_162 : decode cL_isSound 162 = .ok (.aload_n 0, 1) := by decide +kernel
theorem dL_isSound_163 : decode cL_isSound 163 = .ok (.invokevirtual 80, 3) := by decide +kernel
theorem dL_isSound_166 : decode cL_isSound 166 = .ok (.iconst (-1), 1) := by decide +kernel
theorem dL_isSound_167 : decode cL_isSound 167 = .ok (.if_icmp .ne 7, 3) := by decide +kernel
theorem dL_isSound_170 : decode cL_isSound 170 = .ok (.iconst 1, 1) := by decide +kernel
theorem dL_isSound_171 : decode cL_isSound 171 = .ok (.goto 4, 3) := by decide +kernel
theorem dL_isSound_174 : decode cL_isSound 174 = .ok (.iconst 0, 1) := by decide +kernel
theorem dL_isSound_175 : decode cL_isSound 175 = .ok (.aload 5, 2) := by decide +kernel
theorem dL_isSound_177 : decode cL_isSound 177 = .ok (.iconst 0, 1) := by decide +kernel
theorem dL_isSound_178 : decode cL_isSound 178 = .ok (.iaload, 1) := by decide +kernel
theorem dL_isSound_179 : decode cL_isSound 179 = .ok (.aload 5, 2) := by decide +kernel
theorem dL_isSound_181 : decode cL_isSound 181 = .ok (.iconst 1, 1) := by decide +kernel
theorem dL_isSound_182 : decode cL_isSound 182 = .ok (.iaload, 1) := by decide +kernel
theorem dL_isSound_183 : decode cL_isSound 183 = .ok (.if_icmp .ne 7, 3) := by decide +kernel
theorem dL_isSound_186 : decode cL_isSound 186 = .ok (.iconst 1, 1) := by decide +kernel
theorem dL_isSound_187 : decode cL_isSound 187 = .ok (.goto 4, 3) := by decide +kernel
theorem dL_isSound_190 : decode cL_isSound 190 = .ok (.iconst 0, 1) := by decide +kernel
theorem dL_isSound_191 : decode cL_isSound 191 = .ok (.if_icmp .ne 7, 3) := by decide +kernel
theorem dL_isSound_194 : decode cL_isSound 194 = .ok (.iconst 1, 1) := by decide +kernel
theorem dL_isSound_195 : decode cL_isSound 195 = .ok (.goto 4, 3) := by decide +kernel
theorem dL_isSound_198 : decode cL_isSound 198 = .ok (.iconst 0, 1) := by decide +kernel
theorem dL_isSound_199 : decode cL_isSound 199 = .ok (.istore 6, 2) := by decide +kernel
theorem dL_isSound_201 : decode cL_isSound 201 = .ok (.iconst 0, 1) := by decide +kernel
theorem dL_isSound_202 : decode cL_isSound 202 = .ok (.istore 7, 2) := by decide +kernel
theorem dL_isSound_204 : decode cL_isSound 204 = .ok (.iload 7, 2) := by decide +kernel
theorem dL_isSound_206 : decode cL_isSound 206 = .ok (.aload 5, 2) := by decide +kernel
theorem dL_isSound_208 : decode cL_isSound 208 = .ok (.iconst 0, 1) := by decide +kernel
theorem dL_isSound_209 : decode cL_isSound 209 = .ok (.iaload, 1) := by decide +kernel
theorem dL_isSound_210 : decode cL_isSound 210 = .ok (.if_icmp .ge 59, 3) := by decide +kernel
theorem dL_isSound_213 : decode cL_isSound 213 = .ok (.iload 6, 2) := by decide +kernel
theorem dL_isSound_215 : decode cL_isSound 215 = .ok (.ifCond .eq 54, 3) := by decide +kernel
theorem dL_isSound_218 : decode cL_isSound 218 = .ok (.aload_n 0, 1) := by decide +kernel
theorem dL_isSound_219 : decode cL_isSound 219 = .ok (.iload 7, 2) := by decide +kernel
theorem dL_isSound_221 : decode cL_isSound 221 = .ok (.iconst 0, 1) := by decide +kernel
theorem dL_isSound_222 : decode cL_isSound 222 = .ok (.invokevirtual 26, 3) := by decide +kernel
theorem dL_isSound_225 : decode cL_isSound 225 = .ok (.aload 4, 2) := by decide +kernel
theorem dL_isSound_227 : decode cL_isSound 227 = .ok (.iload 7, 2) := by decide +kernel
theorem dL_isSound_229 : decode cL_isSound 229 = .ok (.iaload, 1) := by decide +kernel
theorem dL_isSound_230 : decode cL_isSound 230 = .ok (.sipush 1000, 3) := by decide +kernel
theorem dL_isSound_233 : decode cL_isSound 233 = .ok (.idiv, 1) := by decide +kernel
theorem dL_isSound_234 : decode cL_isSound 234 = .ok (.if_icmp .ne 26, 3) := by decide +kernel
theorem dL_isSound_237 : decode cL_isSound 237 = .ok (.aload_n 0, 1) := by decide +kernel
theorem dL_isSound_238 : decode cL_isSound 238 = .ok (.iload 7, 2) := by decide +kernel
theorem dL_isSound_240 : decode cL_isSound 240 = .ok (.iconst 1, 1) := by decide +kernel
theorem dL_isSound_241 : decode cL_isSound 241 = .ok (.invokevirtual 26, 3) := by decide +kernel
theorem dL_isSound_244 : decode cL_isSound 244 = .ok (.aload 4, 2) := by decide +kernel
theorem dL_isSound_246 : decode cL_isSound 246 = .ok (.iload 7, 2) := by decide +kernel
theorem dL_isSound_248 : decode cL_isSound 248 = .ok (.iaload, 1) := by decide +kernel
theorem dL_isSound_249 : decode cL_isSound 249 = .ok (.sipush 1000, 3) := by decide +kernel
theorem dL_isSound_252 : decode cL_isSound 252 = .ok (.irem, 1) := by decide +kernel
theorem dL_isSound_253 : decode cL_isSound 253 = .ok (.if_icmp .ne 7, 3) := by decide +kernel
theorem dL_isSound_256 : decode cL_isSound 256 = .ok (.iconst 1, 1) := by decide +kernel
theorem dL_isSound_257 : decode cL_isSound 257 = .ok (.goto 4, 3) := by decide +kernel
theorem dL_isSound_260 : decode cL_isSound 260 = .ok (.iconst 0, 1) := by decide +kernel
theorem dL_isSound_261 : decode cL_isSound 261 = .ok (.istore 6, 2) := by decide +kernel
theorem dL_isSound_263 : decode cL_isSound 263 = .ok (.iinc 7 1, 3) := by decide +kernel
theorem dL_isSound_266 : decode cL_isSound 266 = .ok (.goto (-62), 3) := by decide +kernel
theorem dL_isSound_269 : decode cL_isSound 269 = .ok (.iload 6, 2) := by decide +kernel
theorem dL_isSound_271 : decode cL_isSound 271 = .ok (.ireturn, 1) := by decide +kernel
set_option maxRecDepth 20000 in
theorem ggL_digits_X9_type : GoodIn wsL_digits wsX9_type := goodIn_ca (goodIn_ca (goodIn_r _ [5, 6, 7, 8, 9, 10, 11, 12, 13, 14, 15, 16, 17, 18, 19, 20, 21, 22, 23, 24, 25, 26, 27, 28, 29, 30, 31, 32, 33, 34, 35, 36, 37, 38, 39, 40] (by decide +kernel) (by decide +kernel)) (goodIn_sub (fun _ h => List.mem_cons_of_mem _ (List.mem_append_left _ (List.mem_append_right _ h))) (by decide +kernel))) (goodIn_sub (fun _ h => List.mem_cons_of_mem _ (List.mem_append_right _ h)) (by decide +kernel))
set_option maxRecDepth 20000 in
theorem gL_digits_X9_type : GoodIn wsL_digits (wsV RL 84 RX9 yX9_type wsX9_type) := goodIn_app (goodIn_of _ (by decide +kernel)) ggL_digits_X9_type
theorem dL_digits_0 : decode cL_digits 0 = .ok (.iload_n 1, 1) := by decide +kernel
theorem dL_digits_1 : decode cL_digits 1 = .ok (.bipush 99, 2) := by decide +kernel
theorem dL_digits_3 : decode cL_digits 3 = .ok (.if_icmp .le 16, 3) := by decide +kernel
theorem dL_digits_6 : decode cL_digits 6 = .ok (.aload_n 0, 1) := by decide +kernel
theorem dL_digits_7 : decode cL_digits 7 = .ok (.bipush 48, 2) := by decide +kernel
theorem dL_digits_9 : decode cL_digits 9 = .ok (.iload_n 1, 1) := by decide +kernel
theorem dL_digits_10 : decode cL_digits 10 = .ok (.bipush 100, 2) := by decide +kernel
theorem dL_digits_12 : decode cL_digits 12 = .ok (.idiv, 1) := by decide +kernel
theorem dL_digits_13 : decode cL_digits 13 = .ok (.iadd, 1) := by decide +kernel
theorem dL_digits_14 : decode cL_digits 14 = .ok (.i2c, 1) := by decide +kernel
theorem dL_digits_15 : decode cL_digits 15 = .ok (.invokevirtual 84, 3) := by decide +kernel
theorem dL_digits_18 : decode cL_digits 18 = .ok (.pop, 1) := by decide +kernel
theorem dL_digits_19 : decode cL_digits 19 = .ok (.iload_n 1, 1) := by decide +kernel
theorem dL_digits_20 : decode cL_digits 20 = .ok (.bipush 9, 2) := by decide +kernel
theorem dL_digits_22 : decode cL_digits 22 = .ok (.if_icmp .le 19, 3) := by decide +kernel
theorem dL_digits_25 : decode cL_digits 25 = .ok (.aload_n 0, 1) := by decide +kernel
theorem dL_digits_26 : decode cL_digits 26 = .ok (.bipush 48, 2) := by decide +kernel
theorem dL_digits_28 : decode cL_digits 28 = .ok (.iload_n 1, 1) := by decide +kernel
theorem dL_digits_29 : decode cL_digits 29 = .ok (.bipush 10, 2) := by decide +kernel
theorem dL_digits_31 : decode cL_digits 31 = .ok (.idiv, 1) := by decide +kernel
theorem dL_digits_32 : decode cL_digits 32 = .ok (.bipush 10, 2) := by decide +kernel
theorem dL_digits_34 : decode cL_digits 34 = .ok (.irem, 1) := by decide +kernel
theorem dL_digits_35 : decode cL_digits 35 = .ok (.iadd, 1) := by decide +kernel
theorem dL_digits_36 : decode cL_digits 36 = .ok (.i2c, 1) := by decide +kernel
theorem dL_digits_37 : decode cL_digits 37 = .ok (.invokevirtual 84, 3) := by decide +kernel
theorem dL_digits_40 : decode cL_digits 40 = .ok (.pop, 1) := by decide +kernel
theorem dL_digits_41 : decode cL_digits 41 = .ok (.aload_n 0, 1) := by decide +kernel
theorem dL_digits_42 : decode cL_digits 42 = .ok (.bipush 48, 2) := by decide +kernel
theorem dL_digits_44 : decode cL_digits 44 = .ok (.iload_n 1, 1) := by decide +kernel
theorem dL_digits_45 : decode cL_digits 45 = .ok (.bipush 10, 2) := by decide +kernel
theorem dL_digits_47 : decode cL_digits 47 = .ok (.irem, 1) := by decide +kernel
theorem dL_digits_48 : decode cL_digits 48 = .ok (.iadd, 1) := by decide +kernel
theorem dL_digits_49 : decode cL_digits 49 = .ok (.i2c, 1) := by decide +kernel
theorem dL_digits_50 : decode cL_digits 50 = .ok (.invokevirtual 84, 3) := by decide +kernel
theorem dL_digits_53 : decode cL_digits 53 = .ok (.ireturn, 1) := by decide +kernel
set_option maxRecDepth 20000 in
theorem ggL_word_X9_type : GoodIn wsL_word wsX9_type := goodIn_ca (goodIn_ca (goodIn_r _ [5, 6, 7, 8, 9, 10, 11, 12, 13, 14, 15, 16, 17, 18, 19, 20, 21, 22, 23, 24, 25, 26, 27, 28, 29, 30, 31, 32, 33, 34, 35, 36, 37, 38, 39, 40] (by decide +kernel) (by decide +kernel)) (goodIn_sub (fun _ h => List.mem_cons_of_mem _ (List.mem_append_left _ (List.mem_append_right _ h))) (by decide +kernel))) (goodIn_sub (fun _ h => List.mem_cons_of_mem _ (List.mem_append_right _ h)) (by decide +kernel))
set_option maxRecDepth 20000 in
theorem gL_word_X9_type : GoodIn wsL_word (wsV RL 84 RX9 yX9_type wsX9_type) := goodIn_app (goodIn_of _ (by decide +kernel)) ggL_word_X9_type
theorem dL_word_0 : decode cL_word 0 = .ok (.iload_n 1, 1) := by decide +kernel
theorem dL_word_1 : decode cL_word 1 = .ok (.ifCond .ne 9, 3) := by decide +kernel
theorem dL_word_4 : decode cL_word 4 = .ok (.sipush 12652, 3) := by decide +kernel
theorem dL_word_7 : decode cL_word 7 = .ok (.goto 50, 3) := by decide +kernel
theorem dL_word_10 : decode cL_word 10 = .ok (.iload_n 1, 1) := by decide +kernel
theorem dL_word_11 : decode cL_word 11 = .ok (.iconst 1, 1) := by decide +kernel
theorem dL_word_12 : decode cL_word 12 = .ok (.if_icmp .ne 9, 3) := by decide +kernel
theorem dL_word_15 : decode cL_word 15 = .ok (.sipush 13929, 3) := by decide +kernel
theorem dL_word_18 : decode cL_word 18 = .ok (.goto 39, 3) := by decide +kernel
theorem dL_word_21 : decode cL_word 21 = .ok (.iload_n 1, 1) := by decide +kernel
theorem dL_word_22 : decode cL_word 22 = .ok (.iconst 2, 1) := by decide +kernel
theorem dL_word_23 : decode cL_word 23 = .ok (.if_icmp .ne 9, 3) := by decide +kernel
theorem dL_word_26 : decode cL_word 26 = .ok (.sipush 14962, 3) := by decide +kernel
theorem dL_word_29 : decode cL_word 29 = .ok (.goto 28, 3) := by decide +kernel
theorem dL_word_32 : decode cL_word 32 = .ok (.iload_n 1, 1) := by decide +kernel
theorem dL_word_33 : decode cL_word 33 = .ok (.iconst 3, 1) := by decide +kernel
theorem dL_word_34 : decode cL_word 34 = .ok (.if_icmp .ne 9, 3) := by decide +kernel
theorem dL_word_37 : decode cL_word 37 = .ok (.sipush 13281, 3) := by decide +kernel
theorem dL_word_40 : decode cL_word 40 = .ok (.goto 17, 3) := by decide +kernel
theorem dL_word_43 : decode cL_word 43 = .ok (.iload_n 1, 1) := by decide +kernel
theorem dL_word_44 : decode cL_word 44 = .ok (.iconst 4, 1) := by decide +kernel
theorem dL_word_45 : decode cL_word 45 = .ok (.if_icmp .ne 9, 3) := by decide +kernel
theorem dL_word_48 : decode cL_word 48 = .ok (.sipush 14959, 3) := by decide +kernel
theorem dL_word_51 : decode cL_word 51 = .ok (.goto 6, 3) := by decide +kernel
theorem dL_word_54 : decode cL_word 54 = .ok (.sipush 12901, 3) := by decide +kernel
theorem dL_word_57 : decode cL_word 57 = .ok (.istore_n 2, 1) := by decide +kernel
theorem dL_word_58 : decode cL_word 58 = .ok (.iload_n 1, 1) := by decide +kernel
theorem dL_word_59 : decode cL_word 59 = .ok (.ifCond .ne 9, 3) := by decide +kernel
theorem dL_word_62 : decode cL_word 62 = .ok (.sipush 12515, 3) := by decide +kernel
theorem dL_word_65 : decode cL_word 65 = .ok (.goto 50, 3) := by decide +kernel
theorem dL_word_68 : decode cL_word 68 = .ok (.iload_n 1, 1) := by decide +kernel
theorem dL_word_69 : decode cL_word 69 = .ok (.iconst 1, 1) := by decide +kernel
theorem dL_word_70 : decode cL_word 70 = .ok (.if_icmp .ne 9, 3) := by decide +kernel
theorem dL_word_73 : decode cL_word 73 = .ok (.sipush 14057, 3) := by decide +kernel
theorem dL_word_76 : decode cL_word 76 = .ok (.goto 39, 3) := by decide +kernel
theorem dL_word_79 : decode cL_word 79 = .ok (.iload_n 1, 1) := by decide +kernel
theorem dL_word_80 : decode cL_word 80 = .ok (.iconst 2, 1) := by decide +kernel
theorem dL_word_81 : decode cL_word 81 = .ok (.if_icmp .ne 9, 3) := by decide +kernel
theorem dL_word_84 : decode cL_word 84 = .ok (.sipush 12528, 3) := by decide +kernel
theorem dL_word_87 : decode cL_word 87 = .ok (.goto 28, 3) := by decide +kernel
theorem dL_word_90 : decode cL_word 90 = .ok (.iload_n 1, 1) := by decide +kernel
theorem dL_word_91 : decode cL_word 91 = .ok (.iconst 3, 1) := by decide +kernel
theorem dL_word_92 : decode cL_word 92 = .ok (.if_icmp .ne 9, 3) := by decide +kernel
theorem dL_word_95 : decode cL_word 95 = .ok (.sipush 13550, 3) := by decide +kernel
theorem dL_word_98 : decode cL_word 98 = .ok (.goto 17, 3) := by decide +kernel
theorem dL_word_101 : decode cL_word 101 = .ok (.iload_n 1, 1) := by decide +kernel
theorem dL_word_102 : decode cL_word 102 = .ok (.iconst 4, 1) := by decide +kernel
theorem dL_word_103 : decode cL_word 103 = .ok (.if_icmp .ne 9, 3) := by decide +kernel
theorem dL_word_106 : decode cL_word 106 = .ok (.sipush 13925, 3) := by decide +kernel
theorem dL_word_109 : decode cL_word 109 = .ok (.goto 6, 3) := by decide +kernel
theorem dL_word_112 : decode cL_word 112 = .ok (.sipush 13921, 3) := by decide +kernel
theorem dL_word_115 : decode cL_word 115 = .ok (.istore_n 3, 1) := by decide +kernel
theorem dL_word_116 : decode cL_word 116 = .ok (.aload_n 0, 1) := by decide +kernel
theorem dL_word_117 : decode cL_word 117 = .ok (.iload_n 2, 1) := by decide +kernel
theorem dL_word_118 : decode cL_word 118 = .ok (.sipush 128, 3) := by decide +kernel
theorem dL_word_121 : decode cL_word 121 = .ok (.idiv, 1) := by decide +kernel
theorem dL_word_122 : decode cL_word 122 = .ok (.i2c, 1) := by decide +kernel
theorem dL_word_123 : decode cL_word 123 = .ok (.invokevirtual 84, 3) := by decide +kernel
theorem dL_word_126 : decode cL_word 126 = .ok (.pop, 1) := by decide +kernel
theorem dL_word_127 : decode cL_word 127 = .ok (.aload_n 0, 1) := by decide +kernel
theorem dL_word_128 : decode cL_word 128 = .ok (.iload_n 2, 1) := by decide +kernel
theorem dL_word_129 : decode cL_word 129 = .ok (.sipush 128, 3) := by decide +kernel
theorem dL_word_132 : decode cL_word 132 = .ok (.irem, 1) := by decide +kernel
theorem dL_word_133 : decode cL_word 133 = .ok (.i2c, 1) := by decide +kernel
theorem dL_word_134 : decode cL_word 134 = .ok (.invokevirtual 84, 3) := by decide +kernel
theorem dL_word_137 : decode cL_word 137 = .ok (.pop, 1) := by decide +kernel
theorem dL_word_138 : decode cL_word 138 = .ok (.aload_n 0, 1) := by decide +kernel
theorem dL_word_139 : decode cL_word 139 = .ok (.iload_n 3, 1) := by decide +kernel
theorem dL_word_140 : decode cL_word 140 = .ok (.sipush 128, 3) := by decide +kernel
theorem dL_word_143 : decode cL_word 143 = .ok (.idiv, 1) := by decide +kernel
theorem dL_word_144 : decode cL_word 144 = .ok (.i2c, 1) := by decide +kernel
theorem dL_word_145 : decode cL_word 145 = .ok (.invokevirtual 84, 3) := by decide +kernel
theorem dL_word_148 : decode cL_word 148 = .ok (.pop, 1) := by decide +kernel
theorem dL_word_149 : decode cL_word 149 = .ok (.aload_n 0, 1) := by decide +kernel
theorem dL_word_150 : decode cL_word 150 = .ok (.iload_n 3, 1) := by decide +kernel
theorem dL_word_151 : decode cL_word 151 = .ok (.sipush 128, 3) := by decide +kernel
theorem dL_word_154 : decode cL_word 154 = .ok (.irem, 1) := by decide +kernel
theorem dL_word_155 : decode cL_word 155 = .ok (.i2c, 1) := by decide +kernel
theorem dL_word_156 : decode cL_word 156 = .ok (.invokevirtual 84, 3) := by decide +kernel
theorem dL_word_159 : decode cL_word 159 = .ok (.pop, 1) := by decide +kernel
theorem dL_word_160 : decode cL_word 160 = .ok (.iload_n 1, 1) := by decide +kernel
theorem dL_word_161 : decode cL_word 161 = .ok (.ifCond .eq 13, 3) := by decide +kernel
theorem dL_word_164 : decode cL_word 164 = .ok (.iload_n 1, 1) := by decide +kernel
theorem dL_word_165 : decode cL_word 165 = .ok (.iconst 1, 1) := by decide +kernel
theorem dL_word_166 : decode cL_word 166 = .ok (.if_icmp .eq 8, 3) := by decide +kernel
theorem dL_word_169 : decode cL_word 169 = .ok (.iload_n 1, 1) := by decide +kernel
theorem dL_word_170 : decode cL_word 170 = .ok (.iconst 5, 1) := by decide +kernel
theorem dL_word_171 : decode cL_word 171 = .ok (.if_icmp .ne 29, 3) := by decide +kernel
theorem dL_word_174 : decode cL_word 174 = .ok (.aload_n 0, 1) := by decide +kernel
theorem dL_word_175 : decode cL_word 175 = .ok (.iload_n 1, 1) := by decide +kernel
theorem dL_word_176 : decode cL_word 176 = .ok (.ifCond .ne 8, 3) := by decide +kernel
theorem dL_word_179 : decode cL_word 179 = .ok (.bipush 107, 2) := by decide +kernel
theorem dL_word_181 : decode cL_word 181 = .ok (.goto 15, 3) := by decide +kernel
theorem dL_word_184 : decode cL_word 184 = .ok (.iload_n 1, 1) := by decide +kernel
theorem dL_word_185 : decode cL_word 185 = .ok (.iconst 1, 1) := by decide +kernel
theorem dL_word_186 : decode cL_word 186 = .ok (.if_icmp .ne 8, 3) := by decide +kernel
theorem dL_word_189 : decode cL_word 189 = .ok (.bipush 116, 2) := by decide +kernel
theorem dL_word_191 : decode cL_word 191 = .ok (.goto 5, 3) := by decide +kernel
theorem dL_word_194 : decode cL_word 194 = .ok (.bipush 121, 2) := by decide +kernel
theorem dL_word_196 : decode cL_word 196 = .ok (.invokevirtual 84, 3) := by decide +kernel
theorem dL_word_199 : decode cL_word 199 = .ok (.pop, 1) := by decide +kernel
theorem dL_word_200 : decode cL_word 200 = .ok (.iload_n 1, 1) := by decide +kernel
theorem dL_word_201 : decode cL_word 201 = .ok (.iconst 4, 1) := by decide +kernel
theorem dL_word_202 : decode cL_word 202 = .ok (.if_icmp .ne 38, 3) := by decide +kernel
theorem dL_word_205 : decode cL_word 205 = .ok (.aload_n 0, 1) := by decide +kernel
theorem dL_word_206 : decode cL_word 206 = .ok (.bipush 114, 2) := by decide +kernel
theorem dL_word_208 : decode cL_word 208 = .ok (.invokevirtual 84, 3) := by decide +kernel
theorem dL_word_211 : decode cL_word 211 = .ok (.pop, 1) := by decide +kernel
theorem dL_word_212 : decode cL_word 212 = .ok (.aload_n 0, 1) := by decide +kernel
theorem dL_word_213 : decode cL_word 213 = .ok (.bipush 97, 2) := by decide +kernel
theorem dL_word_215 : decode cL_word 215 = .ok (.invokevirtual 84, 3) := by decide +kernel
theorem dL_word_218 : decode cL_word 218 = .ok (.pop, 1) := by decide +kernel
theorem dL_word_219 : decode cL_word 219 = .ok (.aload_n 0, 1) := by decide +kernel
theorem dL_word_220 : decode cL_word 220 = .ok (.bipush 110, 2) := by decide +kernel
theorem dL_word_222 : decode cL_word 222 = .ok (.invokevirtual 84, 3) := by decide +kernel
theorem dL_word_225 : decode cL_word 225 = .ok (.pop, 1) := by decide +kernel
theorem dL_word_226 : decode cL_word 226 = .ok (.aload_n 0, 1) := by decide +kernel
theorem dL_word_227 : decode cL_word 227 = .ok (.bipush 99, 2) := by decide +kernel
theorem dL_word_229 : decode cL_word 229 = .ok (.invokevirtual 84, 3) := by decide +kernel
theorem dL_word_232 : decode cL_word 232 = .ok (.pop, 1) := by decide +kernel
theorem dL_word_233 : decode cL_word 233 = .ok (.aload_n 0, 1) := by decide +kernel
theorem dL_word_234 : decode cL_word 234 = .ok (.bipush 101, 2) := by decide +kernel
theorem dL_word_236 : decode cL_word 236 = .ok (.invokevirtual 84, 3) := by decide +kernel
theorem dL_word_239 : decode cL_word 239 = .ok (.pop, 1) := by decide +kernel
theorem dL_word_240 : decode cL_word 240 = .ok (.aload_n 0, 1) := by decide +kernel
theorem dL_word_241 : decode cL_word 241 = .ok (.bipush 32, 2) := by decide +kernel
theorem dL_word_243 : decode cL_word 243 = .ok (.invokevirtual 84, 3) := by decide +kernel
theorem dL_word_246 : decode cL_word 246 = .ok (.pop, 1) := by decide +kernel
theorem dL_word_247 : decode cL_word 247 = .ok (.return_, 1) := by decide +kernel
set_option maxRecDepth 20000 in
theorem ggL_rules_L_word : GoodIn wsL_rules wsL_word := goodIn_ca (goodIn_ca (goodIn_r _ [4, 5, 6, 7, 8, 9, 10, 11, 12, 13, 14, 15, 16, 17, 18, 19, 20, 21, 22, 23, 24, 25, 26, 27, 28, 29, 30, 31, 153, 154, 155, 156, 157, 158, 159, 160, 161, 162, 163, 164, 165] (by decide +kernel) (by decide +kernel)) (goodIn_sub (fun _ h => List.mem_cons_of_mem _ (List.mem_append_left _ (List.mem_append_right _ h))) (by decide +kernel))) (goodIn_sub (fun _ h => List.mem_cons_of_mem _ (List.mem_append_right _ h)) (by decide +kernel))
set_option maxRecDepth 20000 in
theorem gL_rules_L_word : GoodIn wsL_rules (va_wsS RL 88 yL_word wsL_word) := goodIn_app (goodIn_of _ (by decide +kernel)) ggL_rules_L_word
set_option maxRecDepth 20000 in
theorem ggL_rules_L_digits : GoodIn wsL_rules wsL_digits := goodIn_ca (goodIn_ca (goodIn_r _ [34, 5, 6, 7, 8, 9, 10, 11, 12, 13, 14, 15, 16, 17, 18, 19, 20, 21, 22, 23, 24, 25, 26, 27, 28, 29, 30, 31, 153, 154, 155, 156, 157, 158, 159, 160, 161, 162, 163, 164, 165] (by decide +kernel) (by decide +kernel)) (goodIn_sub (fun _ h => List.mem_cons_of_mem _ (List.mem_append_left _ (List.mem_append_right _ h))) (by decide +kernel))) (goodIn_sub (fun _ h => List.mem_cons_of_mem _ (List.mem_append_right _ h)) (by decide +kernel))
set_option maxRecDepth 20000 in
theorem gL_rules_L_digits : GoodIn wsL_rules (va_wsS RL 92 yL_digits wsL_digits) := goodIn_app (goodIn_of _ (by decide +kernel)) ggL_rules_L_digits
set_option maxRecDepth 20000 in
theorem ggL_rules_X9_type : GoodIn wsL_rules wsX9_type := goodIn_ca (goodIn_ca (goodIn_r _ [9, 10, 11, 12, 13, 14, 15, 16, 17, 18, 19, 20, 21, 22, 23, 24, 25, 26, 27, 28, 29, 30, 31, 153, 154, 155, 156, 157, 158, 159, 160, 161, 162, 163, 164, 165] (by decide +kernel) (by decide +kernel)) (goodIn_sub (fun _ h => List.mem_cons_of_mem _ (List.mem_append_left _ (List.mem_append_right _ h))) (by decide +kernel))) (goodIn_sub (fun _ h => List.mem_cons_of_mem _ (List.mem_append_right _ h)) (by decide +kernel))
set_option maxRecDepth 20000 in
theorem gL_rules_X9_type : GoodIn wsL_rules (wsV RL 84 RX9 yX9_type wsX9_type) := goodIn_app (goodIn_of _ (by decide +kernel)) ggL_rules_X9_type
set_option maxRecDepth 20000 in
theorem ggL_rules_X9_apply : GoodIn wsL_rules wsX9_apply := goodIn_r _ [38, 14, 39, 40, 41, 42, 17, 43, 26, 44, 45, 46, 47, 48, 49, 50, 51, 52, 53, 54, 31, 55, 56, 57, 58, 59, 60, 61, 62, 63, 64, 65, 66, 67, 68, 69, 70, 71, 72, 73, 74, 75, 76, 77, 78, 79, 80, 81, 82, 83, 84, 85, 86, 87, 88, 89, 90, 91, 92, 93, 94, 95, 96, 97, 98, 99, 100, 101, 102, 103, 104, 105, 106, 107, 108, 109, 110, 111, 112, 113, 114, 115, 116, 117, 118, 119, 120, 121, 122, 123, 124, 19, 20, 21, 125, 126, 127, 128, 129, 130, 131, 132, 133, 134, 135, 136, 137, 138, 139, 140, 141, 142, 143, 144, 145, 146, 147, 148, 149, 150, 151, 152, 153, 154, 155, 156, 157, 158, 159, 160, 161, 162, 163, 164, 165, 166, 167, 168, 169, 170, 171] (by decide +kernel) (by decide +kernel)
set_option maxRecDepth 20000 in
theorem gL_rules_X9_apply : GoodIn wsL_rules (wsV RL 95 RX9 yX9_apply wsX9_apply) := goodIn_app (goodIn_of _ (by decide +kernel)) ggL_rules_X9_apply
theorem dL_rules_0 : decode cL_rules 0 = .ok (.iload_n 1, 1) := by decide +kernel
theorem dL_rules_1 : decode cL_rules 1 = .ok (.bipush 6, 2) := by decide +kernel
theorem dL_rules_3 : decode cL_rules 3 = .ok (.irem, 1) := by decide +kernel
theorem dL_rules_4 : decode cL_rules 4 = .ok (.istore 4, 2) := by decide +kernel
theorem dL_rules_6 : decode cL_rules 6 = .ok (.iload_n 1, 1) := by decide +kernel
theorem dL_rules_7 : decode cL_rules 7 = .ok (.bipush 6, 2) := by decide +kernel
theorem dL_rules_9 : decode cL_rules 9 = .ok (.idiv, 1) := by decide +kernel
theorem dL_rules_10 : decode cL_rules 10 = .ok (.iconst 5, 1) := by decide +kernel
theorem dL_rules_11 : decode cL_rules 11 = .ok (.irem, 1) := by decide +kernel
theorem dL_rules_12 : decode cL_rules 12 = .ok (.istore 5, 2) := by decide +kernel
theorem dL_rules_14 : decode cL_rules 14 = .ok (.iload 4, 2) := by decide +kernel
theorem dL_rules_16 : decode cL_rules 16 = .ok (.ifCond .ne 8, 3) := by decide +kernel
theorem dL_rules_19 : decode cL_rules 19 = .ok (.bipush 100, 2) := by decide +kernel
theorem dL_rules_21 : decode cL_rules 21 = .ok (.goto 49, 3) := by decide +kernel
theorem dL_rules_24 : decode cL_rules 24 = .ok (.iload 4, 2) := by decide +kernel
theorem dL_rules_26 : decode cL_rules 26 = .ok (.iconst 1, 1) := by decide +kernel
theorem dL_rules_27 : decode cL_rules 27 = .ok (.if_icmp .ne 9, 3) := by decide +kernel
theorem dL_rules_30 : decode cL_rules 30 = .ok (.sipush 400, 3) := by decide +kernel
theorem dL_rules_33 : decode cL_rules 33 = .ok (.goto 37, 3) := by decide +kernel
theorem dL_rules_36 : decode cL_rules 36 = .ok (.iload 4, 2) := by decide +kernel
theorem dL_rules_38 : decode cL_rules 38 = .ok (.iconst 2, 1) := by decide +kernel
theorem dL_rules_39 : decode cL_rules 39 = .ok (.if_icmp .ne 7, 3) := by decide +kernel
theorem dL_rules_42 : decode cL_rules 42 = .ok (.iconst 1, 1) := by decide +kernel
theorem dL_rules_43 : decode cL_rules 43 = .ok (.goto 27, 3) := by decide +kernel
theorem dL_rules_46 : decode cL_rules 46 = .ok (.iload 4, 2) := by decide +kernel
theorem dL_rules_48 : decode cL_rules 48 = .ok (.iconst 3, 1) := by decide +kernel
theorem dL_rules_49 : decode cL_rules 49 = .ok (.if_icmp .ne 8, 3) := by decide +kernel
theorem dL_rules_52 : decode cL_rules 52 = .ok (.bipush 40, 2) := by decide +kernel
theorem dL_rules_54 : decode cL_rules 54 = .ok (.goto 16, 3) := by decide +kernel
theorem dL_rules_57 : decode cL_rules 57 = .ok (.iload 4, 2) := by decide +kernel
theorem dL_rules_59 : decode cL_rules 59 = .ok (.iconst 4, 1) := by decide +kernel
theorem dL_rules_60 : decode cL_rules 60 = .ok (.if_icmp .ne 8, 3) := by decide +kernel
theorem dL_rules_63 : decode cL_rules 63 = .ok (.bipush 9, 2) := by decide +kernel
theorem dL_rules_65 : decode cL_rules 65 = .ok (.goto 5, 3) := by decide +kernel
theorem dL_rules_68 : decode cL_rules 68 = .ok (.bipush 50, 2) := by decide +kernel
theorem dL_rules_70 : decode cL_rules 70 = .ok (.istore 6, 2) := by decide +kernel
theorem dL_rules_72 : decode cL_rules 72 = .ok (.iload_n 2, 1) := by decide +kernel
theorem dL_rules_73 : decode cL_rules 73 = .ok (.iload 6, 2) := by decide +kernel
theorem dL_rules_75 : decode cL_rules 75 = .ok (.iconst 2, 1) := by decide +kernel
theorem dL_rules_76 : decode cL_rules 76 = .ok (.iadd, 1) := by decide +kernel
theorem dL_rules_77 : decode cL_rules 77 = .ok (.irem, 1) := by decide +kernel
theorem dL_rules_78 : decode cL_rules 78 = .ok (.istore 7, 2) := by decide +kernel
theorem dL_rules_80 : decode cL_rules 80 = .ok (.iload 7, 2) := by decide +kernel
theorem dL_rules_82 : decode cL_rules 82 = .ok (.iload 6, 2) := by decide +kernel
theorem dL_rules_84 : decode cL_rules 84 = .ok (.if_icmp .gt 32, 3) := by decide +kernel
theorem dL_rules_87 : decode cL_rules 87 = .ok (.iload 4, 2) := by decide +kernel
theorem dL_rules_89 : decode cL_rules 89 = .ok (.iconst 1, 1) := by decide +kernel
theorem dL_rules_90 : decode cL_rules 90 = .ok (.if_icmp .ne 10, 3) := by decide +kernel
theorem dL_rules_93 : decode cL_rules 93 = .ok (.iload 7, 2) := by decide +kernel
theorem dL_rules_95 : decode cL_rules 95 = .ok (.bipush 99, 2) := by decide +kernel
theorem dL_rules_97 : decode cL_rules 97 = .ok (.if_icmp .le 19, 3) := by decide +kernel
theorem dL_rules_100 : decode cL_rules 100 = .ok (.iload 4, 2) := by decide +kernel
theorem dL_rules_102 : decode cL_rules 102 = .ok (.iconst 3, 1) := by decide +kernel
theorem dL_rules_103 : decode cL_rules 103 = .ok (.if_icmp .ne 9, 3) := by decide +kernel
theorem dL_rules_106 : decode cL_rules 106 = .ok (.iload 5, 2) := by decide +kernel
theorem dL_rules_108 : decode cL_rules 108 = .ok (.iconst 4, 1) := by decide +kernel
theorem dL_rules_109 : decode cL_rules 109 = .ok (.if_icmp .ge 7, 3) := by decide +kernel
theorem dL_rules_112 : decode cL_rules 112 = .ok (.iconst 1, 1) := by decide +kernel
theorem dL_rules_113 : decode cL_rules 113 = .ok (.goto 4, 3) := by decide +kernel
theorem dL_rules_116 : decode cL_rules 116 = .ok (.iconst 0, 1) := by decide +kernel
theorem dL_rules_117 : decode cL_rules 117 = .ok (.istore 8, 2) := by decide +kernel
theorem dL_rules_119 : decode cL_rules 119 = .ok (.aload_n 0, 1) := by decide +kernel
theorem dL_rules_120 : decode cL_rules 120 = .ok (.iload 4, 2) := by decide +kernel
theorem dL_rules_122 : decode cL_rules 122 = .ok (.invokestatic 88, 3) := by decide +kernel
theorem dL_rules_125 : decode cL_rules 125 = .ok (.iload 4, 2) := by decide +kernel
theorem dL_rules_127 : decode cL_rules 127 = .ok (.iconst 3, 1) := by decide +kernel
theorem dL_rules_128 : decode cL_rules 128 = .ok (.if_icmp .ne 17, 3) := by decide +kernel
theorem dL_rules_131 : decode cL_rules 131 = .ok (.aload_n 0, 1) := by decide +kernel
theorem dL_rules_132 : decode cL_rules 132 = .ok (.iload 5, 2) := by decide +kernel
theorem dL_rules_134 : decode cL_rules 134 = .ok (.invokestatic 92, 3) := by decide +kernel
theorem dL_rules_137 : decode cL_rules 137 = .ok (.pop, 1) := by decide +kernel
theorem dL_rules_138 : decode cL_rules 138 = .ok (.aload_n 0, 1) := by decide +kernel
theorem dL_rules_139 : decode cL_rules 139 = .ok (.bipush 32, 2) := by decide +kernel
theorem dL_rules_141 : decode cL_rules 141 = .ok (.invokevirtual 84, 3) := by decide +kernel
theorem dL_rules_144 : decode cL_rules 144 = .ok (.pop, 1) := by decide +kernel
theorem dL_rules_145 : decode cL_rules 145 = .ok (.aload_n 0, 1) := by decide +kernel
theorem dL_rules_146 : decode cL_rules 146 = .ok (.iload 7, 2) := by decide +kernel
theorem dL_rules_148 : decode cL_rules 148 = .ok (.invokestatic 92, 3) := by decide +kernel
theorem dL_rules_151 : decode cL_rules 151 = .ok (.pop, 1) := by decide +kernel
theorem dL_rules_152 : decode cL_rules 152 = .ok (.aload_n 0, 1) := by decide +kernel
theorem dL_rules_153 : decode cL_rules 153 = .ok (.invokevirtual 95, 3) := by decide +kernel
theorem dL_rules_156 : decode cL_rules 156 = .ok (.istore 9, 2) := by decide +kernel
theorem dL_rules_158 : decode cL_rules 158 = .ok (.iload 4, 2) := by decide +kernel
theorem dL_rules_160 : decode cL_rules 160 = .ok (.iconst 3, 1) := by decide +kernel
theorem dL_rules_161 : decode cL_rules 161 = .ok (.if_icmp .ne 10, 3) := by decide +kernel
theorem dL_rules_164 : decode cL_rules 164 = .ok (.iconst 3, 1) := by decide +kernel
theorem dL_rules_165 : decode cL_rules 165 = .ok (.iload 5, 2) := by decide +kernel
theorem dL_rules_167 : decode cL_rules 167 = .ok (.iadd, 1) := by decide +kernel
theorem dL_rules_168 : decode cL_rules 168 = .ok (.goto 18, 3) := by decide +kernel
theorem dL_rules_171 : decode cL_rules 171 = .ok (.iload 4, 2) := by decide +kernel
theorem dL_rules_173 : decode cL_rules 173 = .ok (.iconst 3, 1) := by decide +kernel
theorem dL_rules_174 : decode cL_rules 174 = .ok (.if_icmp .ge 8, 3) := by decide +kernel
theorem dL_rules_177 : decode cL_rules 177 = .ok (.iload 4, 2) := by decide +kernel
theorem dL_rules_179 : decode cL_rules 179 = .ok (.goto 7, 3) := by decide +kernel
theorem dL_rules_182 : decode cL_rules 182 = .ok (.iload 4, 2) := by decide +kernel
theorem dL_rules_184 : decode cL_rules 184 = .ok (.iconst 3, 1) := by decide +kernel
theorem dL_rules_185 : decode cL_rules 185 = .ok (.iadd, 1) := by decide +kernel
theorem dL_rules_186 : decode cL_rules 186 = .ok (.istore 10, 2) := by decide +kernel
theorem dL_rules_188 : decode cL_rules 188 = .ok (.iload 8, 2) := by decide +kernel
theorem dL_rules_190 : decode cL_rules 190 = .ok (.ifCond .eq 9, 3) := by decide +kernel
theorem dL_rules_193 : decode cL_rules 193 = .ok (.aload_n 3, 1) := by decide +kernel
theorem dL_rules_194 : decode cL_rules 194 = .ok (.iload 10, 2) := by decide +kernel
theorem dL_rules_196 : decode cL_rules 196 = .ok (.iload 7, 2) := by decide +kernel
theorem dL_rules_198 : decode cL_rules 198 = .ok (.iastore, 1) := by decide +kernel
theorem dL_rules_199 : decode cL_rules 199 = .ok (.iload 9, 2) := by decide +kernel
theorem dL_rules_201 : decode cL_rules 201 = .ok (.iload 8, 2) := by decide +kernel
theorem dL_rules_203 : decode cL_rules 203 = .ok (.ifCond .eq 7, 3) := by decide +kernel
theorem dL_rules_206 : decode cL_rules 206 = .ok (.iconst 1, 1) := by decide +kernel
theorem dL_rules_207 : decode cL_rules 207 = .ok (.goto 4, 3) := by decide +kernel
theorem dL_rules_210 : decode cL_rules 210 = .ok (.iconst (-1), 1) := by decide +kernel
theorem dL_rules_211 : decode cL_rules 211 = .ok (.if_icmp .ne 14, 3) := by decide +kernel
theorem dL_rules_214 : decode cL_rules 214 = .ok (.aload_n 0, 1) := by decide +kernel
theorem dL_rules_215 : decode cL_rules 215 = .ok (.invokevirtual 95, 3) := by decide +kernel
theorem dL_rules_218 : decode cL_rules 218 = .ok (.ifCond .ne 7, 3) := by decide +kernel
theorem dL_rules_221 : decode cL_rules 221 = .ok (.iconst 1, 1) := by decide +kernel
theorem dL_rules_222 : decode cL_rules 222 = .ok (.goto 4, 3) := by decide +kernel
theorem dL_rules_225 : decode cL_rules 225 = .ok (.iconst 0, 1) := by decide +kernel
theorem dL_rules_226 : decode cL_rules 226 = .ok (.ireturn, 1) := by decide +kernel
set_option maxRecDepth 20000 in
theorem ggL_copies_X9_unit : GoodIn wsL_copies wsX9_unit := goodIn_ca (goodIn_ca (goodIn_r _ [6, 7, 8, 9, 10, 11, 5, 12, 13, 14, 15, 16, 17, 18, 19, 20, 21, 22, 23, 24, 25, 26, 27, 28, 29, 30, 31, 32, 33, 34, 35, 36, 37, 38, 39, 40, 41, 42, 148, 149, 150, 151, 152, 153, 154, 155, 156, 157, 158, 159, 160, 161, 162, 163, 164, 165, 166, 167, 168, 169, 170, 171] (by decide +kernel) (by decide +kernel)) (goodIn_sub (fun _ h => List.mem_cons_of_mem _ (List.mem_append_left _ (List.mem_append_left _ (List.mem_append_right _ h)))) (by decide +kernel))) (goodIn_sub (fun _ h => List.mem_cons_of_mem _ (List.mem_append_left _ (List.mem_append_right _ h))) (by decide +kernel))
set_option maxRecDepth 20000 in
theorem gL_copies_X9_unit : GoodIn wsL_copies (wsV RL 54 RX9 yX9_unit wsX9_unit) := goodIn_app (goodIn_of _ (by decide +kernel)) ggL_copies_X9_unit
set_option maxRecDepth 20000 in
theorem ggL_copies_X9_next : GoodIn wsL_copies wsX9_next := goodIn_r _ [46, 47, 48, 49, 50, 51, 52, 53, 54, 55, 148, 149, 150, 151, 152, 153, 154, 155, 172, 173, 174, 175, 176, 177] (by decide +kernel) (by decide +kernel)
set_option maxRecDepth 20000 in
theorem gL_copies_X9_next : GoodIn wsL_copies (wsV RL 80 RX9 yX9_next wsX9_next) := goodIn_app (goodIn_of _ (by decide +kernel)) ggL_copies_X9_next
set_option maxRecDepth 20000 in
theorem ggL_copies_X9_all : GoodIn wsL_copies wsX9_all := goodIn_ca (goodIn_r _ [59, 18, 19, 8, 47, 7, 60, 61, 62, 34, 63, 64, 65, 66, 67, 68, 69, 70, 71, 72, 73, 74, 75, 76, 77, 78, 79, 80, 81, 82, 51, 83, 53, 84, 85, 86, 23, 87, 88, 148, 149, 150, 151, 152, 153, 154, 155, 165, 166, 167, 168, 169, 170, 172, 173, 174, 175, 176, 177, 156, 157, 158, 159, 160, 161, 162, 163, 164] (by decide +kernel) (by decide +kernel)) (goodIn_sub (fun _ h => List.mem_cons_of_mem _ (List.mem_append_left _ (List.mem_append_right _ h))) (by decide +kernel))
set_option maxRecDepth 20000 in
theorem gL_copies_X9_all : GoodIn wsL_copies (wsV RL 73 RX9 yX9_all wsX9_all) := goodIn_app (goodIn_of _ (by decide +kernel)) ggL_copies_X9_all
set_option maxRecDepth 20000 in
theorem ggL_copies_X9_print : GoodIn wsL_copies wsX9_print := goodIn_ca (goodIn_ca (goodIn_r _ [92, 93, 94, 8, 9, 7, 95, 47, 15, 16, 5, 17, 18, 19, 60, 61, 62, 34, 63, 64, 96, 97, 98, 99, 100, 32, 33, 35, 36, 37, 38, 39, 40, 41, 42, 101, 102, 103, 104, 105, 106, 107, 108, 109, 110, 111, 112, 113, 23, 114, 25, 115, 116, 117, 118, 30, 119, 120, 121, 122, 123, 74, 79, 69, 124, 125, 126, 127, 128, 129, 88, 130, 131, 132, 133, 134, 135, 136, 137, 138, 139, 140, 141, 142, 143, 144, 51, 145, 53, 54, 55, 146, 147, 148, 149, 150, 151, 152, 153, 154, 155, 165, 166, 167, 168, 169, 170, 171, 178, 179, 180, 181, 182, 183, 156, 157, 158, 159, 160, 161, 162, 163, 164, 172, 173, 174, 175, 176, 177] (by decide +kernel) (by decide +kernel)) (goodIn_sub (fun _ h => List.mem_cons_of_mem _ (List.mem_append_right _ h)) (by decide +kernel))) (goodIn_sub (fun _ h => List.mem_cons_of_mem _ (List.mem_append_left _ (List.mem_append_right _ h))) (by decide +kernel))
set_option maxRecDepth 20000 in
theorem gL_copies_X9_print : GoodIn wsL_copies (wsV RL 98 RX9 yX9_print wsX9_print) := goodIn_app (goodIn_of _ (by decide +kernel)) ggL_copies_X9_print
