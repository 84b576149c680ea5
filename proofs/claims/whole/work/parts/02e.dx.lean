theorem dX10_plates_57 : decode cX10_plates 57 = .ok (.iload_n 3, 1) := by decide +kernel
theorem dX10_plates_58 : decode cX10_plates 58 = .ok (.iastore, 1) := by decide +kernel
theorem dX10_plates_59 : decode cX10_plates 59 = .ok (.iinc 2 1, 3) := by decide +kernel
theorem dX10_plates_62 : decode cX10_plates 62 = .ok (.goto (-53), 3) := by decide +kernel
theorem dX10_plates_65 : decode cX10_plates 65 = .ok (.iload_n 1, 1) := by decide +kernel
theorem dX10_plates_66 : decode cX10_plates 66 = .ok (.ireturn, 1) := by decide +kernel
set_option maxRecDepth 20000 in
theorem ggX10_drift_X10_isInk : GoodIn wsX10_drift wsX10_isInk := goodIn_r _ [6, 7, 8, 5, 9] (by decide +kernel) (by decide +kernel)
set_option maxRecDepth 20000 in
theorem gX10_drift_X10_isInk : GoodIn wsX10_drift (va_wsS RX10 111 yX10_isInk wsX10_isInk) := goodIn_app (goodIn_of _ (by decide +kernel)) ggX10_drift_X10_isInk
set_option maxRecDepth 20000 in
theorem ggX10_drift_X10_isIn : GoodIn wsX10_drift wsX10_isIn := goodIn_r _ [9] (by decide +kernel) (by decide +kernel)
set_option maxRecDepth 20000 in
theorem gX10_drift_X10_isIn : GoodIn wsX10_drift (va_wsS RX10 76 yX10_isIn wsX10_isIn) := goodIn_app (goodIn_of _ (by decide +kernel)) ggX10_drift_X10_isIn
set_option maxRecDepth 20000 in
theorem ggX10_drift_X10_can : GoodIn wsX10_drift wsX10_can := goodIn_r _ [13, 14, 15, 16, 17, 18, 19, 20, 21, 22, 23, 24, 25, 26, 27, 28, 29, 30, 31, 32, 33, 34, 35, 36, 37, 38, 39, 40, 41, 42, 43, 44, 45, 46, 47, 48, 49] (by decide +kernel) (by decide +kernel)
set_option maxRecDepth 20000 in
theorem gX10_drift_X10_can : GoodIn wsX10_drift (wsV RX10 84 RX10 yX10_can wsX10_can) := goodIn_app (goodIn_of _ (by decide +kernel)) ggX10_drift_X10_can
theorem dX10_drift_0 : decode cX10_drift 0 = .ok (.aload_n 0, 1) := by decide +kernel
theorem dX10_drift_1 : decode cX10_drift 1 = .ok (.iload_n 1, 1) := by decide +kernel
theorem dX10_drift_2 : decode cX10_drift 2 = .ok (.invokestatic 111, 3) := by decide +kernel
theorem dX10_drift_5 : decode cX10_drift 5 = .ok (.ifCond .ne 7, 3) := by decide +kernel
theorem dX10_drift_8 : decode cX10_drift 8 = .ok (.iconst 1, 1) := by decide +kernel
theorem dX10_drift_9 : decode cX10_drift 9 = .ok (.goto 28, 3) := by decide +kernel
theorem dX10_drift_12 : decode cX10_drift 12 = .ok (.iload_n 2, 1) := by decide +kernel
theorem dX10_drift_13 : decode cX10_drift 13 = .ok (.bipush (-5), 2) := by decide +kernel
theorem dX10_drift_15 : decode cX10_drift 15 = .ok (.iconst 5, 1) := by decide +kernel
theorem dX10_drift_16 : decode cX10_drift 16 = .ok (.invokestatic 76, 3) := by decide +kernel
theorem dX10_drift_19 : decode cX10_drift 19 = .ok (.ifCond .eq 17, 3) := by decide +kernel
theorem dX10_drift_22 : decode cX10_drift 22 = .ok (.iload_n 3, 1) := by decide +kernel
theorem dX10_drift_23 : decode cX10_drift 23 = .ok (.bipush (-5), 2) := by decide +kernel
theorem dX10_drift_25 : decode cX10_drift 25 = .ok (.iconst 5, 1) := by decide +kernel
theorem dX10_drift_26 : decode cX10_drift 26 = .ok (.invokestatic 76, 3) := by decide +kernel
theorem dX10_drift_29 : decode cX10_drift 29 = .ok (.ifCond .eq 7, 3) := by decide +kernel
theorem dX10_drift_32 : decode cX10_drift 32 = .ok (.iconst 0, 1) := by decide +kernel
theorem dX10_drift_33 : decode cX10_drift 33 = .ok (.goto 4, 3) := by decide +kernel
theorem dX10_drift_36 : decode cX10_drift 36 = .ok (.iconst 2, 1) := by decide +kernel
theorem dX10_drift_37 : decode cX10_drift 37 = .ok (.invokevirtual 84, 3) := by decide +kernel
theorem dX10_drift_40 : decode cX10_drift 40 = .ok (.ifCond .eq 17, 3) := by decide +kernel
theorem dX10_drift_43 : decode cX10_drift 43 = .ok (.aload_n 0, 1) := by decide +kernel
theorem dX10_drift_44 : decode cX10_drift 44 = .ok (.getfield 38, 3) := by decide +kernel
theorem dX10_drift_47 : decode cX10_drift 47 = .ok (.iload_n 1, 1) := by decide +kernel
theorem dX10_drift_48 : decode cX10_drift 48 = .ok (.iload_n 2, 1) := by decide +kernel
theorem dX10_drift_49 : decode cX10_drift 49 = .ok (.iastore, 1) := by decide +kernel
theorem dX10_drift_50 : decode cX10_drift 50 = .ok (.aload_n 0, 1) := by decide +kernel
theorem dX10_drift_51 : decode cX10_drift 51 = .ok (.getfield 41, 3) := by decide +kernel
theorem dX10_drift_54 : decode cX10_drift 54 = .ok (.iload_n 1, 1) := by decide +kernel
theorem dX10_drift_55 : decode cX10_drift 55 = .ok (.iload_n 3, 1) := by decide +kernel
theorem dX10_drift_56 : decode cX10_drift 56 = .ok (.iastore, 1) := by decide +kernel
theorem dX10_drift_57 : decode cX10_drift 57 = .ok (.return_, 1) := by decide +kernel
set_option maxRecDepth 20000 in
theorem ggX10_correct_X10_isIn : GoodIn wsX10_correct wsX10_isIn := goodIn_r _ [13] (by decide +kernel) (by decide +kernel)
set_option maxRecDepth 20000 in
theorem gX10_correct_X10_isIn : GoodIn wsX10_correct (va_wsS RX10 76 yX10_isIn wsX10_isIn) := goodIn_app (goodIn_of _ (by decide +kernel)) ggX10_correct_X10_isIn
set_option maxRecDepth 20000 in
theorem ggX10_correct_X10_isInk : GoodIn wsX10_correct wsX10_isInk := goodIn_r _ [16, 10, 11, 12, 13] (by decide +kernel) (by decide +kernel)
set_option maxRecDepth 20000 in
theorem gX10_correct_X10_isInk : GoodIn wsX10_correct (va_wsS RX10 111 yX10_isInk wsX10_isInk) := goodIn_app (goodIn_of _ (by decide +kernel)) ggX10_correct_X10_isInk
set_option maxRecDepth 20000 in
theorem ggX10_correct_X10_can : GoodIn wsX10_correct wsX10_can := goodIn_r _ [20, 21, 22, 23, 24, 25, 26, 27, 28, 29, 30, 31, 32, 33, 34, 35, 36, 37, 38, 39, 40, 41, 42, 43, 44, 45, 46, 47, 48, 49, 50, 51, 52, 53, 54, 55, 56] (by decide +kernel) (by decide +kernel)
set_option maxRecDepth 20000 in
theorem gX10_correct_X10_can : GoodIn wsX10_correct (wsV RX10 84 RX10 yX10_can wsX10_can) := goodIn_app (goodIn_of _ (by decide +kernel)) ggX10_correct_X10_can
theorem dX10_correct_0 : decode cX10_correct 0 = .ok (.iload_n 2, 1) := by decide +kernel
theorem dX10_correct_1 : decode cX10_correct 1 = .ok (.bipush (-50), 2) := by decide +kernel
theorem dX10_correct_3 : decode cX10_correct 3 = .ok (.bipush 50, 2) := by decide +kernel
theorem dX10_correct_5 : decode cX10_correct 5 = .ok (.invokestatic 76, 3) := by decide +kernel
theorem dX10_correct_8 : decode cX10_correct 8 = .ok (.ifCond .eq 18, 3) := by decide +kernel
theorem dX10_correct_11 : decode cX10_correct 11 = .ok (.iload_n 3, 1) := by decide +kernel
theorem dX10_correct_12 : decode cX10_correct 12 = .ok (.bipush (-50), 2) := by decide +kernel
theorem dX10_correct_14 : decode cX10_correct 14 = .ok (.bipush 50, 2) := by decide +kernel
theorem dX10_correct_16 : decode cX10_correct 16 = .ok (.invokestatic 76, 3) := by decide +kernel
theorem dX10_correct_19 : decode cX10_correct 19 = .ok (.ifCond .eq 7, 3) := by decide +kernel
theorem dX10_correct_22 : decode cX10_correct 22 = .ok (.iconst 1, 1) := by decide +kernel
theorem dX10_correct_23 : decode cX10_correct 23 = .ok (.goto 4, 3) := by decide +kernel
theorem dX10_correct_26 : decode cX10_correct 26 = .ok (.iconst 0, 1) := by decide +kernel
theorem dX10_correct_27 : decode cX10_correct 27 = .ok (.istore 4, 2) := by decide +kernel
theorem dX10_correct_29 : decode cX10_correct 29 = .ok (.aload_n 0, 1) := by decide +kernel
theorem dX10_correct_30 : decode cX10_correct 30 = .ok (.iload_n 1, 1) := by decide +kernel
theorem dX10_correct_31 : decode cX10_correct 31 = .ok (.invokestatic 111, 3) := by decide +kernel
theorem dX10_correct_34 : decode cX10_correct 34 = .ok (.ifCond .ne 7, 3) := by decide +kernel
theorem dX10_correct_37 : decode cX10_correct 37 = .ok (.iconst 1, 1) := by decide +kernel
theorem dX10_correct_38 : decode cX10_correct 38 = .ok (.goto 26, 3) := by decide +kernel
theorem dX10_correct_41 : decode cX10_correct 41 = .ok (.iload 4, 2) := by decide +kernel
theorem dX10_correct_43 : decode cX10_correct 43 = .ok (.ifCond .ne 7, 3) := by decide +kernel
theorem dX10_correct_46 : decode cX10_correct 46 = .ok (.iconst 2, 1) := by decide +kernel
theorem dX10_correct_47 : decode cX10_correct 47 = .ok (.goto 17, 3) := by decide +kernel
theorem dX10_correct_50 : decode cX10_correct 50 = .ok (.aload_n 0, 1) := by decide +kernel
theorem dX10_correct_51 : decode cX10_correct 51 = .ok (.getfield 151, 3) := by decide +kernel
theorem dX10_correct_54 : decode cX10_correct 54 = .ok (.bipush 20, 2) := by decide +kernel
theorem dX10_correct_56 : decode cX10_correct 56 = .ok (.if_icmp .ne 7, 3) := by decide +kernel
theorem dX10_correct_59 : decode cX10_correct 59 = .ok (.iconst 3, 1) := by decide +kernel
theorem dX10_correct_60 : decode cX10_correct 60 = .ok (.goto 4, 3) := by decide +kernel
theorem dX10_correct_63 : decode cX10_correct 63 = .ok (.iconst 0, 1) := by decide +kernel
theorem dX10_correct_64 : decode cX10_correct 64 = .ok (.invokevirtual 84, 3) := by decide +kernel
theorem dX10_correct_67 : decode cX10_correct 67 = .ok (.ifCond .ne 5, 3) := by decide +kernel
theorem dX10_correct_70 : decode cX10_correct 70 = .ok (.iconst 0, 1) := by decide +kernel
theorem dX10_correct_71 : decode cX10_correct 71 = .ok (.ireturn, 1) := by decide +kernel
theorem dX10_correct_72 : decode cX10_correct 72 = .ok (.aload_n 0, 1) := by decide +kernel
theorem dX10_correct_73 : decode cX10_correct 73 = .ok (.getfield 19, 3) := by decide +kernel
theorem dX10_correct_76 : decode cX10_correct 76 = .ok (.bipush 8, 2) := by decide +kernel
theorem dX10_correct_78 : decode cX10_correct 78 = .ok (.iaload, 1) := by decide +kernel
theorem dX10_correct_79 : decode cX10_correct 79 = .ok (.ifCond .ne 25, 3) := by decide +kernel
theorem dX10_correct_82 : decode cX10_correct 82 = .ok (.aload_n 0, 1) := by decide +kernel
theorem dX10_correct_83 : decode cX10_correct 83 = .ok (.getfield 32, 3) := by decide +kernel
theorem dX10_correct_86 : decode cX10_correct 86 = .ok (.iload_n 1, 1) := by decide +kernel
theorem dX10_correct_87 : decode cX10_correct 87 = .ok (.dup2, 1) := by decide +kernel
theorem dX10_correct_88 : decode cX10_correct 88 = .ok (.iaload, 1) := by decide +kernel
theorem dX10_correct_89 : decode cX10_correct 89 = .ok (.iload_n 2, 1) := by decide +kernel
theorem dX10_correct_90 : decode cX10_correct 90 = .ok (.iadd, 1) := by decide +kernel
theorem dX10_correct_91 : decode cX10_correct 91 = .ok (.iastore, 1) := by decide +kernel
theorem dX10_correct_92 : decode cX10_correct 92 = .ok (.aload_n 0, 1) := by decide +kernel
theorem dX10_correct_93 : decode cX10_correct 93 = .ok (.getfield 35, 3) := by decide +kernel
theorem dX10_correct_96 : decode cX10_correct 96 = .ok (.iload_n 1, 1) := by decide +kernel
theorem dX10_correct_97 : decode cX10_correct 97 = .ok (.dup2, 1) := by decide +kernel
theorem dX10_correct_98 : decode cX10_correct 98 = .ok (.iaload, 1) := by decide +kernel
theorem dX10_correct_99 : decode cX10_correct 99 = .ok (.iload_n 3, 1) := by decide +kernel
theorem dX10_correct_100 : decode cX10_correct 100 = .ok (.iadd, 1) := by decide +kernel
theorem dX10_correct_101 : decode cX10_correct 101 = .ok (.iastore, 1) := by decide +kernel
theorem dX10_correct_102 : decode cX10_correct 102 = .ok (.iconst 0, 1) := by decide +kernel
theorem dX10_correct_103 : decode cX10_correct 103 = .ok (.ireturn, 1) := by decide +kernel
theorem dX10_correct_104 : decode cX10_correct 104 = .ok (.aload_n 0, 1) := by decide +kernel
theorem dX10_correct_105 : decode cX10_correct 105 = .ok (.getfield 47, 3) := by decide +kernel
theorem dX10_correct_108 : decode cX10_correct 108 = .ok (.aload_n 0, 1) := by decide +kernel
theorem dX10_correct_109 : decode cX10_correct 109 = .ok (.getfield 151, 3) := by decide +kernel
theorem dX10_correct_112 : decode cX10_correct 112 = .ok (.iload_n 1, 1) := by decide +kernel
theorem dX10_correct_113 : decode cX10_correct 113 = .ok (.iastore, 1) := by decide +kernel
theorem dX10_correct_114 : decode cX10_correct 114 = .ok (.aload_n 0, 1) := by decide +kernel
theorem dX10_correct_115 : decode cX10_correct 115 = .ok (.getfield 50, 3) := by decide +kernel
theorem dX10_correct_118 : decode cX10_correct 118 = .ok (.aload_n 0, 1) := by decide +kernel
theorem dX10_correct_119 : decode cX10_correct 119 = .ok (.getfield 151, 3) := by decide +kernel
theorem dX10_correct_122 : decode cX10_correct 122 = .ok (.iload_n 2, 1) := by decide +kernel
theorem dX10_correct_123 : decode cX10_correct 123 = .ok (.iastore, 1) := by decide +kernel
theorem dX10_correct_124 : decode cX10_correct 124 = .ok (.aload_n 0, 1) := by decide +kernel
theorem dX10_correct_125 : decode cX10_correct 125 = .ok (.getfield 53, 3) := by decide +kernel
theorem dX10_correct_128 : decode cX10_correct 128 = .ok (.aload_n 0, 1) := by decide +kernel
theorem dX10_correct_129 : decode cX10_correct 129 = .ok (.getfield 151, 3) := by decide +kernel
theorem dX10_correct_132 : decode cX10_correct 132 = .ok (.iload_n 3, 1) := by decide +kernel
theorem dX10_correct_133 : decode cX10_correct 133 = .ok (.iastore, 1) := by decide +kernel
theorem dX10_correct_134 : decode cX10_correct 134 = .ok (.aload_n 0, 1) := by decide +kernel
theorem dX10_correct_135 : decode cX10_correct 135 = .ok (.getfield 56, 3) := by decide +kernel
theorem dX10_correct_138 : decode cX10_correct 138 = .ok (.aload_n 0, 1) := by decide +kernel
theorem dX10_correct_139 : decode cX10_correct 139 = .ok (.getfield 151, 3) := by decide +kernel
theorem dX10_correct_142 : decode cX10_correct 142 = .ok (.aload_n 0, 1) := by decide +kernel
theorem dX10_correct_143 : decode cX10_correct 143 = .ok (.getfield 154, 3) := by decide +kernel
theorem dX10_correct_146 : decode cX10_correct 146 = .ok (.aload_n 0, 1) := by decide +kernel
theorem dX10_correct_147 : decode cX10_correct 147 = .ok (.getfield 19, 3) := by decide +kernel
theorem dX10_correct_150 : decode cX10_correct 150 = .ok (.bipush 8, 2) := by decide +kernel
theorem dX10_correct_152 : decode cX10_correct 152 = .ok (.iaload, 1) := by decide +kernel
theorem dX10_correct_153 : decode cX10_correct 153 = .ok (.iadd, 1) := by decide +kernel
theorem dX10_correct_154 : decode cX10_correct 154 = .ok (.iastore, 1) := by decide +kernel
theorem dX10_correct_155 : decode cX10_correct 155 = .ok (.aload_n 0, 1) := by decide +kernel
theorem dX10_correct_156 : decode cX10_correct 156 = .ok (.dup, 1) := by decide +kernel
theorem dX10_correct_157 : decode cX10_correct 157 = .ok (.getfield 151, 3) := by decide +kernel
theorem dX10_correct_160 : decode cX10_correct 160 = .ok (.iconst 1, 1) := by decide +kernel
theorem dX10_correct_161 : decode cX10_correct 161 = .ok (.iadd, 1) := by decide +kernel
theorem dX10_correct_162 : decode cX10_correct 162 = .ok (.putfield 151, 3) := by decide +kernel
theorem dX10_correct_165 : decode cX10_correct 165 = .ok (.aload_n 0, 1) := by decide +kernel
theorem dX10_correct_166 : decode cX10_correct 166 = .ok (.getfield 151, 3) := by decide +kernel
theorem dX10_correct_169 : decode cX10_correct 169 = .ok (.ireturn, 1) := by decide +kernel
set_option maxRecDepth 20000 in
theorem ggX10_key_X10_isInk : GoodIn wsX10_key wsX10_isInk := goodIn_r _ [5, 6, 7, 4, 8] (by decide +kernel) (by decide +kernel)
set_option maxRecDepth 20000 in
theorem gX10_key_X10_isInk : GoodIn wsX10_key (va_wsS RX10 111 yX10_isInk wsX10_isInk) := goodIn_app (goodIn_of _ (by decide +kernel)) ggX10_key_X10_isInk
set_option maxRecDepth 20000 in
theorem ggX10_key_X10_isIn : GoodIn wsX10_key wsX10_isIn := goodIn_r _ [8] (by decide +kernel) (by decide +kernel)
set_option maxRecDepth 20000 in
theorem gX10_key_X10_isIn : GoodIn wsX10_key (va_wsS RX10 76 yX10_isIn wsX10_isIn) := goodIn_app (goodIn_of _ (by decide +kernel)) ggX10_key_X10_isIn
set_option maxRecDepth 20000 in
theorem ggX10_key_X10_can : GoodIn wsX10_key wsX10_can := goodIn_r _ [12, 13, 14, 15, 16, 17, 18, 19, 20, 21, 22, 23, 24, 25, 26, 27, 28, 29, 30, 31, 32, 33, 34, 35, 36, 37, 38, 39, 40, 41, 42, 43, 44, 45, 46, 47, 48] (by decide +kernel) (by decide +kernel)
set_option maxRecDepth 20000 in
theorem gX10_key_X10_can : GoodIn wsX10_key (wsV RX10 84 RX10 yX10_can wsX10_can) := goodIn_app (goodIn_of _ (by decide +kernel)) ggX10_key_X10_can
theorem dX10_key_0 : decode cX10_key 0 = .ok (.iload_n 1, 1) := by decide +kernel
theorem dX10_key_1 : decode cX10_key 1 = .ok (.invokestatic 111, 3) := by decide +kernel
theorem dX10_key_4 : decode cX10_key 4 = .ok (.ifCond .eq 17, 3) := by decide +kernel
theorem dX10_key_7 : decode cX10_key 7 = .ok (.iload_n 2, 1) := by decide +kernel
theorem dX10_key_8 : decode cX10_key 8 = .ok (.iconst 0, 1) := by decide +kernel
theorem dX10_key_9 : decode cX10_key 9 = .ok (.bipush 7, 2) := by decide +kernel
theorem dX10_key_11 : decode cX10_key 11 = .ok (.invokestatic 76, 3) := by decide +kernel
theorem dX10_key_14 : decode cX10_key 14 = .ok (.ifCond .eq 7, 3) := by decide +kernel
theorem dX10_key_17 : decode cX10_key 17 = .ok (.iconst 1, 1) := by decide +kernel
theorem dX10_key_18 : decode cX10_key 18 = .ok (.goto 4, 3) := by decide +kernel
theorem dX10_key_21 : decode cX10_key 21 = .ok (.iconst 0, 1) := by decide +kernel
theorem dX10_key_22 : decode cX10_key 22 = .ok (.istore 4, 2) := by decide +kernel
theorem dX10_key_24 : decode cX10_key 24 = .ok (.aload_n 0, 1) := by decide +kernel
theorem dX10_key_25 : decode cX10_key 25 = .ok (.iload 4, 2) := by decide +kernel
theorem dX10_key_27 : decode cX10_key 27 = .ok (.ifCond .ne 7, 3) := by decide +kernel
theorem dX10_key_30 : decode cX10_key 30 = .ok (.iconst 1, 1) := by decide +kernel
theorem dX10_key_31 : decode cX10_key 31 = .ok (.goto 18, 3) := by decide +kernel
theorem dX10_key_34 : decode cX10_key 34 = .ok (.iload_n 3, 1) := by decide +kernel
theorem dX10_key_35 : decode cX10_key 35 = .ok (.iconst 0, 1) := by decide +kernel
theorem dX10_key_36 : decode cX10_key 36 = .ok (.bipush 100, 2) := by decide +kernel
theorem dX10_key_38 : decode cX10_key 38 = .ok (.invokestatic 76, 3) := by decide +kernel
theorem dX10_key_41 : decode cX10_key 41 = .ok (.ifCond .eq 7, 3) := by decide +kernel
theorem dX10_key_44 : decode cX10_key 44 = .ok (.iconst 0, 1) := by decide +kernel
theorem dX10_key_45 : decode cX10_key 45 = .ok (.goto 4, 3) := by decide +kernel
theorem dX10_key_48 : decode cX10_key 48 = .ok (.iconst 2, 1) := by decide +kernel
theorem dX10_key_49 : decode cX10_key 49 = .ok (.invokevirtual 84, 3) := by decide +kernel
theorem dX10_key_52 : decode cX10_key 52 = .ok (.ifCond .ne 5, 3) := by decide +kernel
theorem dX10_key_55 : decode cX10_key 55 = .ok (.iconst 0, 1) := by decide +kernel
theorem dX10_key_56 : decode cX10_key 56 = .ok (.ireturn, 1) := by decide +kernel
theorem dX10_key_57 : decode cX10_key 57 = .ok (.aload_n 0, 1) := by decide +kernel
theorem dX10_key_58 : decode cX10_key 58 = .ok (.getfield 44, 3) := by decide +kernel
theorem dX10_key_61 : decode cX10_key 61 = .ok (.bipush 8, 2) := by decide +kernel
theorem dX10_key_63 : decode cX10_key 63 = .ok (.iload_n 1, 1) := by decide +kernel
theorem dX10_key_64 : decode cX10_key 64 = .ok (.imul, 1) := by decide +kernel
theorem dX10_key_65 : decode cX10_key 65 = .ok (.iload_n 2, 1) := by decide +kernel
theorem dX10_key_66 : decode cX10_key 66 = .ok (.iadd, 1) := by decide +kernel
theorem dX10_key_67 : decode cX10_key 67 = .ok (.iaload, 1) := by decide +kernel
theorem dX10_key_68 : decode cX10_key 68 = .ok (.istore 5, 2) := by decide +kernel
theorem dX10_key_70 : decode cX10_key 70 = .ok (.aload_n 0, 1) := by decide +kernel
theorem dX10_key_71 : decode cX10_key 71 = .ok (.getfield 44, 3) := by decide +kernel
theorem dX10_key_74 : decode cX10_key 74 = .ok (.bipush 8, 2) := by decide +kernel
theorem dX10_key_76 : decode cX10_key 76 = .ok (.iload_n 1, 1) := by decide +kernel
theorem dX10_key_77 : decode cX10_key 77 = .ok (.imul, 1) := by decide +kernel
theorem dX10_key_78 : decode cX10_key 78 = .ok (.iload_n 2, 1) := by decide +kernel
theorem dX10_key_79 : decode cX10_key 79 = .ok (.iadd, 1) := by decide +kernel
theorem dX10_key_80 : decode cX10_key 80 = .ok (.iload_n 3, 1) := by decide +kernel
theorem dX10_key_81 : decode cX10_key 81 = .ok (.iastore, 1) := by decide +kernel
theorem dX10_key_82 : decode cX10_key 82 = .ok (.iload 5, 2) := by decide +kernel
theorem dX10_key_84 : decode cX10_key 84 = .ok (.ireturn, 1) := by decide +kernel
theorem dX10_tear_0 : decode cX10_tear 0 = .ok (.aload_n 0, 1) := by decide +kernel
theorem dX10_tear_1 : decode cX10_tear 1 = .ok (.iconst 0, 1) := by decide +kernel
theorem dX10_tear_2 : decode cX10_tear 2 = .ok (.putfield 72, 3) := by decide +kernel
theorem dX10_tear_5 : decode cX10_tear 5 = .ok (.aload_n 0, 1) := by decide +kernel
theorem dX10_tear_6 : decode cX10_tear 6 = .ok (.bipush 20, 2) := by decide +kernel
theorem dX10_tear_8 : decode cX10_tear 8 = .ok (.putfield 157, 3) := by decide +kernel
theorem dX10_tear_11 : decode cX10_tear 11 = .ok (.bipush 20, 2) := by decide +kernel
theorem dX10_tear_13 : decode cX10_tear 13 = .ok (.ireturn, 1) := by decide +kernel
set_option maxRecDepth 20000 in
theorem ggX10_job_X10_isIn : GoodIn wsX10_job wsX10_isIn := goodIn_r _ [10] (by decide +kernel) (by decide +kernel)
set_option maxRecDepth 20000 in
theorem gX10_job_X10_isIn : GoodIn wsX10_job (va_wsS RX10 76 yX10_isIn wsX10_isIn) := goodIn_app (goodIn_of _ (by decide +kernel)) ggX10_job_X10_isIn
set_option maxRecDepth 20000 in
theorem ggX10_job_X10_can : GoodIn wsX10_job wsX10_can := goodIn_r _ [14, 15, 16, 17, 18, 19, 20, 21, 22, 23, 24, 25, 26, 27, 28, 29, 30, 31, 32, 33, 34, 35, 36, 37, 38, 39, 40, 41, 42, 43, 44, 45, 46, 47, 48, 49, 50] (by decide +kernel) (by decide +kernel)
set_option maxRecDepth 20000 in
theorem gX10_job_X10_can : GoodIn wsX10_job (wsV RX10 84 RX10 yX10_can wsX10_can) := goodIn_app (goodIn_of _ (by decide +kernel)) ggX10_job_X10_can
theorem dX10_job_0 : decode cX10_job 0 = .ok (.aload_n 0, 1) := by decide +kernel
theorem dX10_job_1 : decode cX10_job 1 = .ok (.iload_n 1, 1) := by decide +kernel
theorem dX10_job_2 : decode cX10_job 2 = .ok (.iconst 1, 1) := by decide +kernel
theorem dX10_job_3 : decode cX10_job 3 = .ok (.sipush 200, 3) := by decide +kernel
theorem dX10_job_6 : decode cX10_job 6 = .ok (.invokestatic 76, 3) := by decide +kernel
theorem dX10_job_9 : decode cX10_job 9 = .ok (.ifCond .ne 7, 3) := by decide +kernel
theorem dX10_job_12 : decode cX10_job 12 = .ok (.iconst 1, 1) := by decide +kernel
theorem dX10_job_13 : decode cX10_job 13 = .ok (.goto 15, 3) := by decide +kernel
theorem dX10_job_16 : decode cX10_job 16 = .ok (.aload_n 0, 1) := by decide +kernel
theorem dX10_job_17 : decode cX10_job 17 = .ok (.getfield 160, 3) := by decide +kernel
theorem dX10_job_20 : decode cX10_job 20 = .ok (.ifCond .le 7, 3) := by decide +kernel
theorem dX10_job_23 : decode cX10_job 23 = .ok (.iconst 2, 1) := by decide +kernel
theorem dX10_job_24 : decode cX10_job 24 = .ok (.goto 4, 3) := by decide +kernel
theorem dX10_job_27 : decode cX10_job 27 = .ok (.iconst 0, 1) := by decide +kernel
theorem dX10_job_28 : decode cX10_job 28 = .ok (.invokevirtual 84, 3) := by decide +kernel
theorem dX10_job_31 : decode cX10_job 31 = .ok (.ifCond .eq 52, 3) := by decide +kernel
theorem dX10_job_34 : decode cX10_job 34 = .ok (.aload_n 0, 1) := by decide +kernel
theorem dX10_job_35 : decode cX10_job 35 = .ok (.iload_n 1, 1) := by decide +kernel
theorem dX10_job_36 : decode cX10_job 36 = .ok (.putfield 163, 3) := by decide +kernel
theorem dX10_job_39 : decode cX10_job 39 = .ok (.aload_n 0, 1) := by decide +kernel
theorem dX10_job_40 : decode cX10_job 40 = .ok (.iconst 0, 1) := by decide +kernel
theorem dX10_job_41 : decode cX10_job 41 = .ok (.putfield 166, 3) := by decide +kernel
theorem dX10_job_44 : decode cX10_job 44 = .ok (.aload_n 0, 1) := by decide +kernel
theorem dX10_job_45 : decode cX10_job 45 = .ok (.iload_n 1, 1) := by decide +kernel
theorem dX10_job_46 : decode cX10_job 46 = .ok (.putfield 160, 3) := by decide +kernel
theorem dX10_job_49 : decode cX10_job 49 = .ok (.iconst 0, 1) := by decide +kernel
theorem dX10_job_50 : decode cX10_job 50 = .ok (.istore_n 2, 1) := by decide +kernel
theorem dX10_job_51 : decode cX10_job 51 = .ok (.iload_n 2, 1) := by decide +kernel
theorem dX10_job_52 : decode cX10_job 52 = .ok (.iload_n 1, 1) := by decide +kernel
theorem dX10_job_53 : decode cX10_job 53 = .ok (.if_icmp .ge 30, 3) := by decide +kernel
theorem dX10_job_56 : decode cX10_job 56 = .ok (.aload_n 0, 1) := by decide +kernel
theorem dX10_job_57 : decode cX10_job 57 = .ok (.getfield 59, 3) := by decide +kernel
theorem dX10_job_60 : decode cX10_job 60 = .ok (.iload_n 2, 1) := by decide +kernel
theorem dX10_job_61 : decode cX10_job 61 = .ok (.iconst 0, 1) := by decide +kernel
theorem dX10_job_62 : decode cX10_job 62 = .ok (.bastore, 1) := by decide +kernel
theorem dX10_job_63 : decode cX10_job 63 = .ok (.aload_n 0, 1) := by decide +kernel
theorem dX10_job_64 : decode cX10_job 64 = .ok (.getfield 63, 3) := by decide +kernel
theorem dX10_job_67 : decode cX10_job 67 = .ok (.iload_n 2, 1) := by decide +kernel
theorem dX10_job_68 : decode cX10_job 68 = .ok (.iconst 0, 1) := by decide +kernel
theorem dX10_job_69 : decode cX10_job 69 = .ok (.iastore, 1) := by decide +kernel
theorem dX10_job_70 : decode cX10_job 70 = .ok (.aload_n 0, 1) := by decide +kernel
theorem dX10_job_71 : decode cX10_job 71 = .ok (.getfield 66, 3) := by decide +kernel
theorem dX10_job_74 : decode cX10_job 74 = .ok (.iload_n 2, 1) := by decide +kernel
theorem dX10_job_75 : decode cX10_job 75 = .ok (.iload_n 2, 1) := by decide +kernel
theorem dX10_job_76 : decode cX10_job 76 = .ok (.iastore, 1) := by decide +kernel
theorem dX10_job_77 : decode cX10_job 77 = .ok (.iinc 2 1, 3) := by decide +kernel
theorem dX10_job_80 : decode cX10_job 80 = .ok (.goto (-29), 3) := by decide +kernel
theorem dX10_job_83 : decode cX10_job 83 = .ok (.return_, 1) := by decide +kernel
theorem dX10_density_0 : decode cX10_density 0 = .ok (.iconst 0, 1) := by decide +kernel
theorem dX10_density_1 : decode cX10_density 1 = .ok (.istore_n 3, 1) := by decide +kernel
theorem dX10_density_2 : decode cX10_density 2 = .ok (.iconst 0, 1) := by decide +kernel
theorem dX10_density_3 : decode cX10_density 3 = .ok (.istore 4, 2) := by decide +kernel
theorem dX10_density_5 : decode cX10_density 5 = .ok (.iload 4, 2) := by decide +kernel
theorem dX10_density_7 : decode cX10_density 7 = .ok (.bipush 8, 2) := by decide +kernel
theorem dX10_density_9 : decode cX10_density 9 = .ok (.if_icmp .ge 28, 3) := by decide +kernel
theorem dX10_density_12 : decode cX10_density 12 = .ok (.iload_n 3, 1) := by decide +kernel
theorem dX10_density_13 : decode cX10_density 13 = .ok (.aload_n 0, 1) := by decide +kernel
theorem dX10_density_14 : decode cX10_density 14 = .ok (.getfield 29, 3) := by decide +kernel
theorem dX10_density_17 : decode cX10_density 17 = .ok (.iconst 4, 1) := by decide +kernel
theorem dX10_density_18 : decode cX10_density 18 = .ok (.bipush 8, 2) := by decide +kernel
theorem dX10_density_20 : decode cX10_density 20 = .ok (.iload 4, 2) := by decide +kernel
theorem dX10_density_22 : decode cX10_density 22 = .ok (.imul, 1) := by decide +kernel
theorem dX10_density_23 : decode cX10_density 23 = .ok (.iload_n 2, 1) := by decide +kernel
theorem dX10_density_24 : decode cX10_density 24 = .ok (.iadd, 1) := by decide +kernel
theorem dX10_density_25 : decode cX10_density 25 = .ok (.imul, 1) := by decide +kernel
theorem dX10_density_26 : decode cX10_density 26 = .ok (.iload_n 1, 1) := by decide +kernel
theorem dX10_density_27 : decode cX10_density 27 = .ok (.iadd, 1) := by decide +kernel
theorem dX10_density_28 : decode cX10_density 28 = .ok (.iaload, 1) := by decide +kernel
theorem dX10_density_29 : decode cX10_density 29 = .ok (.iadd, 1) := by decide +kernel
theorem dX10_density_30 : decode cX10_density 30 = .ok (.istore_n 3, 1) := by decide +kernel
theorem dX10_density_31 : decode cX10_density 31 = .ok (.iinc 4 1, 3) := by decide +kernel
theorem dX10_density_34 : decode cX10_density 34 = .ok (.goto (-29), 3) := by decide +kernel
theorem dX10_density_37 : decode cX10_density 37 = .ok (.bipush 50, 2) := by decide +kernel
theorem dX10_density_39 : decode cX10_density 39 = .ok (.aload_n 0, 1) := by decide +kernel
theorem dX10_density_40 : decode cX10_density 40 = .ok (.getfield 44, 3) := by decide +kernel
theorem dX10_density_43 : decode cX10_density 43 = .ok (.bipush 8, 2) := by decide +kernel
theorem dX10_density_45 : decode cX10_density 45 = .ok (.iload_n 1, 1) := by decide +kernel
theorem dX10_density_46 : decode cX10_density 46 = .ok (.imul, 1) := by decide +kernel
theorem dX10_density_47 : decode cX10_density 47 = .ok (.iload_n 2, 1) := by decide +kernel
theorem dX10_density_48 : decode cX10_density 48 = .ok (.iadd, 1) := by decide +kernel
theorem dX10_density_49 : decode cX10_density 49 = .ok (.iaload, 1) := by decide +kernel
theorem dX10_density_50 : decode cX10_density 50 = .ok (.iadd, 1) := by decide +kernel
theorem dX10_density_51 : decode cX10_density 51 = .ok (.iload_n 3, 1) := by decide +kernel
theorem dX10_density_52 : decode cX10_density 52 = .ok (.sipush 400, 3) := by decide +kernel
theorem dX10_density_55 : decode cX10_density 55 = .ok (.isub, 1) := by decide +kernel
theorem dX10_density_56 : decode cX10_density 56 = .ok (.bipush 8, 2) := by decide +kernel
theorem dX10_density_58 : decode cX10_density 58 = .ok (.idiv, 1) := by decide +kernel
theorem dX10_density_59 : decode cX10_density 59 = .ok (.bipush 10, 2) := by decide +kernel
theorem dX10_density_61 : decode cX10_density 61 = .ok (.idiv, 1) := by decide +kernel
theorem dX10_density_62 : decode cX10_density 62 = .ok (.isub, 1) := by decide +kernel
theorem dX10_density_63 : decode cX10_density 63 = .ok (.ireturn, 1) := by decide +kernel
set_option maxRecDepth 20000 in
theorem ggX10_isOff_X10_size : GoodIn wsX10_isOff wsX10_size := goodIn_r _ [7] (by decide +kernel) (by decide +kernel)
set_option maxRecDepth 20000 in
theorem gX10_isOff_X10_size : GoodIn wsX10_isOff (va_wsS RX10 169 yX10_size wsX10_size) := goodIn_app (goodIn_of _ (by decide +kernel)) ggX10_isOff_X10_size
theorem dX10_isOff_0 : decode cX10_isOff 0 = .ok (.iconst 0, 1) := by decide +kernel
theorem dX10_isOff_1 : decode cX10_isOff 1 = .ok (.istore_n 1, 1) := by decide +kernel
theorem dX10_isOff_2 : decode cX10_isOff 2 = .ok (.iconst 0, 1) := by decide +kernel
theorem dX10_isOff_3 : decode cX10_isOff 3 = .ok (.istore_n 2, 1) := by decide +kernel
theorem dX10_isOff_4 : decode cX10_isOff 4 = .ok (.iload_n 2, 1) := by decide +kernel
theorem dX10_isOff_5 : decode cX10_isOff 5 = .ok (.iconst 4, 1) := by decide +kernel
theorem dX10_isOff_6 : decode cX10_isOff 6 = .ok (.if_icmp .ge 71, 3) := by decide +kernel
theorem dX10_isOff_9 : decode cX10_isOff 9 = .ok (.iload_n 1, 1) := by decide +kernel
theorem dX10_isOff_10 : decode cX10_isOff 10 = .ok (.ifCond .ne 55, 3) := by decide +kernel
theorem dX10_isOff_13 : decode cX10_isOff 13 = .ok (.aload_n 0, 1) := by decide +kernel
theorem dX10_isOff_14 : decode cX10_isOff 14 = .ok (.getfield 32, 3) := by decide +kernel
theorem dX10_isOff_17 : decode cX10_isOff 17 = .ok (.iload_n 2, 1) := by decide +kernel
theorem dX10_isOff_18 : decode cX10_isOff 18 = .ok (.iaload, 1) := by decide +kernel
theorem dX10_isOff_19 : decode cX10_isOff 19 = .ok (.aload_n 0, 1) := by decide +kernel
theorem dX10_isOff_20 : decode cX10_isOff 20 = .ok (.getfield 32, 3) := by decide +kernel
theorem dX10_isOff_23 : decode cX10_isOff 23 = .ok (.iconst 3, 1) := by decide +kernel
theorem dX10_isOff_24 : decode cX10_isOff 24 = .ok (.iaload, 1) := by decide +kernel
theorem dX10_isOff_25 : decode cX10_isOff 25 = .ok (.isub, 1) := by decide +kernel
theorem dX10_isOff_26 : decode cX10_isOff 26 = .ok (.invokestatic 169, 3) := by decide +kernel
theorem dX10_isOff_29 : decode cX10_isOff 29 = .ok (.aload_n 0, 1) := by decide +kernel
theorem dX10_isOff_30 : decode cX10_isOff 30 = .ok (.getfield 19, 3) := by decide +kernel
theorem dX10_isOff_33 : decode cX10_isOff 33 = .ok (.bipush 7, 2) := by decide +kernel
theorem dX10_isOff_35 : decode cX10_isOff 35 = .ok (.iaload, 1) := by decide +kernel
theorem dX10_isOff_36 : decode cX10_isOff 36 = .ok (.if_icmp .gt 29, 3) := by decide +kernel
theorem dX10_isOff_39 : decode cX10_isOff 39 = .ok (.aload_n 0, 1) := by decide +kernel
theorem dX10_isOff_40 : decode cX10_isOff 40 = .ok (.getfield 35, 3) := by decide +kernel
theorem dX10_isOff_43 : decode cX10_isOff 43 = .ok (.iload_n 2, 1) := by decide +kernel
theorem dX10_isOff_44 : decode cX10_isOff 44 = .ok (.iaload, 1) := by decide +kernel
theorem dX10_isOff_45 : decode cX10_isOff 45 = .ok (.aload_n 0, 1) := by decide +kernel
theorem dX10_isOff_46 : decode cX10_isOff 46 = .ok (.getfield 35, 3) := by decide +kernel
theorem dX10_isOff_49 : decode cX10_isOff 49 = .ok (.iconst 3, 1) := by decide +kernel
theorem dX10_isOff_50 : decode cX10_isOff 50 = .ok (.iaload, 1) := by decide +kernel
theorem dX10_isOff_51 : decode cX10_isOff 51 = .ok (.isub, 1) := by decide +kernel
theorem dX10_isOff_52 : decode cX10_isOff 52 = .ok (.invokestatic 169, 3) := by decide +kernel
theorem dX10_isOff_55 : decode cX10_isOff 55 = .ok (.aload_n 0, 1) := by decide +kernel
theorem dX10_isOff_56 : decode cX10_isOff 56 = .ok (.getfield 19, 3) := by decide +kernel
theorem dX10_isOff_59 : decode cX10_isOff 59 = .ok (.bipush 7, 2) := by decide +kernel
theorem dX10_isOff_61 : decode cX10_isOff 61 = .ok (.iaload, 1) := by decide +kernel
theorem dX10_isOff_62 : decode cX10_isOff 62 = .ok (.if_icmp .le 7, 3) := by decide +kernel
theorem dX10_isOff_65 : decode cX10_isOff 65 = .ok (.iconst 1, 1) := by decide +kernel
theorem dX10_isOff_66 : decode cX10_isOff 66 = .ok (.goto 4, 3) := by decide +kernel
theorem dX10_isOff_69 : decode cX10_isOff 69 = .ok (.iconst 0, 1) := by decide +kernel
theorem dX10_isOff_70 : decode cX10_isOff 70 = .ok (.istore_n 1, 1) := by decide +kernel
theorem dX10_isOff_71 : decode cX10_isOff 71 = .ok (.iinc 2 1, 3) := by decide +kernel
theorem dX10_isOff_74 : decode cX10_isOff 74 = .ok (.goto (-70), 3) := by decide +kernel
theorem dX10_isOff_77 : decode cX10_isOff 77 = .ok (.iload_n 1, 1) := by decide +kernel
theorem dX10_isOff_78 : decode cX10_isOff 78 = .ok (.ireturn, 1) := by decide +kernel
set_option maxRecDepth 20000 in
theorem ggX10_isUneven_X10_density : GoodIn wsX10_isUneven wsX10_density := goodIn_r _ [5, 6, 7, 11, 12, 13, 14, 15, 16, 17, 18, 19, 20, 21, 22, 23, 24, 25, 26, 27, 28, 29, 30, 31, 32, 33, 34, 35, 36, 37, 38, 39, 40, 41, 42, 43, 44, 45] (by decide +kernel) (by decide +kernel)
set_option maxRecDepth 20000 in
theorem gX10_isUneven_X10_density : GoodIn wsX10_isUneven (wsV RX10 172 RX10 yX10_density wsX10_density) := goodIn_app (goodIn_of _ (by decide +kernel)) ggX10_isUneven_X10_density
set_option maxRecDepth 20000 in
theorem ggX10_isUneven_X10_isIn : GoodIn wsX10_isUneven wsX10_isIn := goodIn_r _ [10] (by decide +kernel) (by decide +kernel)
set_option maxRecDepth 20000 in
theorem gX10_isUneven_X10_isIn : GoodIn wsX10_isUneven (va_wsS RX10 76 yX10_isIn wsX10_isIn) := goodIn_app (goodIn_of _ (by decide +kernel)) ggX10_isUneven_X10_isIn
theorem dX10_isUneven_0 : decode cX10_isUneven 0 = .ok (.iconst 0, 1) := by decide +kernel
theorem dX10_isUneven_1 : decode cX10_isUneven 1 = .ok (.istore_n 1, 1) := by decide +kernel
theorem dX10_isUneven_2 : decode cX10_isUneven 2 = .ok (.iconst 0, 1) := by decide +kernel
theorem dX10_isUneven_3 : decode cX10_isUneven 3 = .ok (.istore_n 2, 1) := by decide +kernel
theorem dX10_isUneven_4 : decode cX10_isUneven 4 = .ok (.iload_n 2, 1) := by decide +kernel
theorem dX10_isUneven_5 : decode cX10_isUneven 5 = .ok (.bipush 32, 2) := by decide +kernel
theorem dX10_isUneven_7 : decode cX10_isUneven 7 = .ok (.if_icmp .ge 41, 3) := by decide +kernel
theorem dX10_isUneven_10 : decode cX10_isUneven 10 = .ok (.iload_n 1, 1) := by decide +kernel
theorem dX10_isUneven_11 : decode cX10_isUneven 11 = .ok (.ifCond .ne 25, 3) := by decide +kernel
theorem dX10_isUneven_14 : decode cX10_isUneven 14 = .ok (.aload_n 0, 1) := by decide +kernel
theorem dX10_isUneven_15 : decode cX10_isUneven 15 = .ok (.iload_n 2, 1) := by decide +kernel
theorem dX10_isUneven_16 : decode cX10_isUneven 16 = .ok (.bipush 8, 2) := by decide +kernel
theorem dX10_isUneven_18 : decode cX10_isUneven 18 = .ok (.idiv, 1) := by decide +kernel
theorem dX10_isUneven_19 : decode cX10_isUneven 19 = .ok (.iload_n 2, 1) := by decide +kernel
theorem dX10_isUneven_20 : decode cX10_isUneven 20 = .ok (.bipush 8, 2) := by decide +kernel
theorem dX10_isUneven_22 : decode cX10_isUneven 22 = .ok (.irem, 1) := by decide +kernel
theorem dX10_isUneven_23 : decode cX10_isUneven 23 = .ok (.invokevirtual 172, 3) := by decide +kernel
theorem dX10_isUneven_26 : decode cX10_isUneven 26 = .ok (.bipush 90, 2) := by decide +kernel
theorem dX10_isUneven_28 : decode cX10_isUneven 28 = .ok (.bipush 110, 2) := by decide +kernel
theorem dX10_isUneven_30 : decode cX10_isUneven 30 = .ok (.invokestatic 76, 3) := by decide +kernel
theorem dX10_isUneven_33 : decode cX10_isUneven 33 = .ok (.ifCond .ne 7, 3) := by decide +kernel
theorem dX10_isUneven_36 : decode cX10_isUneven 36 = .ok (.iconst 1, 1) := by decide +kernel
theorem dX10_isUneven_37 : decode cX10_isUneven 37 = .ok (.goto 4, 3) := by decide +kernel
theorem dX10_isUneven_40 : decode cX10_isUneven 40 = .ok (.iconst 0, 1) := by decide +kernel
theorem dX10_isUneven_41 : decode cX10_isUneven 41 = .ok (.istore_n 1, 1) := by decide +kernel
theorem dX10_isUneven_42 : decode cX10_isUneven 42 = .ok (.iinc 2 1, 3) := by decide +kernel
theorem dX10_isUneven_45 : decode cX10_isUneven 45 = .ok (.goto (-41), 3) := by decide +kernel
theorem dX10_isUneven_48 : decode cX10_isUneven 48 = .ok (.iload_n 1, 1) := by decide +kernel
theorem dX10_isUneven_49 : decode cX10_isUneven 49 = .ok (.ireturn, 1) := by decide +kernel
set_option maxRecDepth 20000 in
theorem ggX10_looks_X10_isOff : GoodIn wsX10_looks wsX10_isOff := goodIn_r _ [8, 9, 10, 11, 12, 13, 7, 14, 28, 29, 30, 31, 32, 33, 34, 35, 36, 37, 38, 39, 40, 41, 42, 43, 44, 45, 46, 47, 48, 49, 50, 51, 52, 53, 54, 55, 56, 57, 58, 59, 60, 61, 62] (by decide +kernel) (by decide +kernel)
set_option maxRecDepth 20000 in
theorem gX10_looks_X10_isOff : GoodIn wsX10_looks (wsV RX10 175 RX10 yX10_isOff wsX10_isOff) := goodIn_app (goodIn_of _ (by decide +kernel)) ggX10_looks_X10_isOff
set_option maxRecDepth 20000 in
theorem ggX10_looks_X10_isUneven : GoodIn wsX10_looks wsX10_isUneven := goodIn_r _ [18, 19, 20, 21, 7, 22, 23, 24, 25, 26, 27, 28, 29, 30, 31, 32, 33, 34, 35, 36, 37, 38, 39, 40, 41, 42, 43, 44, 45, 46, 47, 48, 49, 50, 51, 52, 53, 54, 55, 56, 57, 58, 59, 60, 61, 62] (by decide +kernel) (by decide +kernel)
set_option maxRecDepth 20000 in
theorem gX10_looks_X10_isUneven : GoodIn wsX10_looks (wsV RX10 178 RX10 yX10_isUneven wsX10_isUneven) := goodIn_app (goodIn_of _ (by decide +kernel)) ggX10_looks_X10_isUneven
theorem dX10_looks_0 : decode cX10_looks 0 = .ok (.aload_n 0, 1) := by decide +kernel
theorem dX10_looks_1 : decode cX10_looks 1 = .ok (.getfield 157, 3) := by decide +kernel
theorem dX10_looks_4 : decode cX10_looks 4 = .ok (.ifCond .le 15, 3) := by decide +kernel
theorem dX10_looks_7 : decode cX10_looks 7 = .ok (.aload_n 0, 1) := by decide +kernel
theorem dX10_looks_8 : decode cX10_looks 8 = .ok (.dup, 1) := by decide +kernel
theorem dX10_looks_9 : decode cX10_looks 9 = .ok (.getfield 157, 3) := by decide +kernel
theorem dX10_looks_12 : decode cX10_looks 12 = .ok (.iconst 1, 1) := by decide +kernel
theorem dX10_looks_13 : decode cX10_looks 13 = .ok (.isub, 1) := by decide +kernel
theorem dX10_looks_14 : decode cX10_looks 14 = .ok (.putfield 157, 3) := by decide +kernel
theorem dX10_looks_17 : decode cX10_looks 17 = .ok (.iconst 0, 1) := by decide +kernel
theorem dX10_looks_18 : decode cX10_looks 18 = .ok (.ireturn, 1) := by decide +kernel
theorem dX10_looks_19 : decode cX10_looks 19 = .ok (.aload_n 0, 1) := by decide +kernel
theorem dX10_looks_20 : decode cX10_looks 20 = .ok (.invokevirtual 175, 3) := by decide +kernel
theorem dX10_looks_23 : decode cX10_looks 23 = .ok (.istore_n 1, 1) := by decide +kernel
theorem dX10_looks_24 : decode cX10_looks 24 = .ok (.iload_n 1, 1) := by decide +kernel
theorem dX10_looks_25 : decode cX10_looks 25 = .ok (.ifCond .ne 14, 3) := by decide +kernel
theorem dX10_looks_28 : decode cX10_looks 28 = .ok (.aload_n 0, 1) := by decide +kernel
theorem dX10_looks_29 : decode cX10_looks 29 = .ok (.invokevirtual 178, 3) := by decide +kernel
theorem dX10_looks_32 : decode cX10_looks 32 = .ok (.ifCond .eq 7, 3) := by decide +kernel
theorem dX10_looks_35 : decode cX10_looks 35 = .ok (.iconst 1, 1) := by decide +kernel
theorem dX10_looks_36 : decode cX10_looks 36 = .ok (.goto 4, 3) := by decide +kernel
theorem dX10_looks_39 : decode cX10_looks 39 = .ok (.iconst 0, 1) := by decide +kernel
theorem dX10_looks_40 : decode cX10_looks 40 = .ok (.istore_n 2, 1) := by decide +kernel
theorem dX10_looks_41 : decode cX10_looks 41 = .ok (.aload_n 0, 1) := by decide +kernel
theorem dX10_looks_42 : decode cX10_looks 42 = .ok (.dup, 1) := by decide +kernel
theorem dX10_looks_43 : decode cX10_looks 43 = .ok (.getfield 181, 3) := by decide +kernel
theorem dX10_looks_46 : decode cX10_looks 46 = .ok (.iload_n 1, 1) := by decide +kernel
theorem dX10_looks_47 : decode cX10_looks 47 = .ok (.ifCond .eq 7, 3) := by decide +kernel
theorem dX10_looks_50 : decode cX10_looks 50 = .ok (.iconst 1, 1) := by decide +kernel
theorem dX10_looks_51 : decode cX10_looks 51 = .ok (.goto 4, 3) := by decide +kernel
theorem dX10_looks_54 : decode cX10_looks 54 = .ok (.iconst 0, 1) := by decide +kernel
theorem dX10_looks_55 : decode cX10_looks 55 = .ok (.iadd, 1) := by decide +kernel
theorem dX10_looks_56 : decode cX10_looks 56 = .ok (.putfield 181, 3) := by decide +kernel
theorem dX10_looks_59 : decode cX10_looks 59 = .ok (.aload_n 0, 1) := by decide +kernel
theorem dX10_looks_60 : decode cX10_looks 60 = .ok (.dup, 1) := by decide +kernel
theorem dX10_looks_61 : decode cX10_looks 61 = .ok (.getfield 184, 3) := by decide +kernel
theorem dX10_looks_64 : decode cX10_looks 64 = .ok (.iload_n 2, 1) := by decide +kernel
theorem dX10_looks_65 : decode cX10_looks 65 = .ok (.ifCond .eq 7, 3) := by decide +kernel
theorem dX10_looks_68 : decode cX10_looks 68 = .ok (.iconst 1, 1) := by decide +kernel
theorem dX10_looks_69 : decode cX10_looks 69 = .ok (.goto 4, 3) := by decide +kernel
theorem dX10_looks_72 : decode cX10_looks 72 = .ok (.iconst 0, 1) := by decide +kernel
theorem dX10_looks_73 : decode cX10_looks 73 = .ok (.iadd, 1) := by decide +kernel
theorem dX10_looks_74 : decode cX10_looks 74 = .ok (.putfield 184, 3) := by decide +kernel
theorem dX10_looks_77 : decode cX10_looks 77 = .ok (.iload_n 1, 1) := by decide +kernel
theorem dX10_looks_78 : decode cX10_looks 78 = .ok (.ifCond .ne 11, 3) := by decide +kernel
theorem dX10_looks_81 : decode cX10_looks 81 = .ok (.iload_n 2, 1) := by decide +kernel
theorem dX10_looks_82 : decode cX10_looks 82 = .ok (.ifCond .ne 7, 3) := by decide +kernel
theorem dX10_looks_85 : decode cX10_looks 85 = .ok (.iconst 1, 1) := by decide +kernel
theorem dX10_looks_86 : decode cX10_looks 86 = .ok (.goto 4, 3) := by decide +kernel
theorem dX10_looks_89 : decode cX10_looks 89 = .ok (.iconst 0, 1) := by decide +kernel
theorem dX10_looks_90 : decode cX10_looks 90 = .ok (.ireturn, 1) := by decide +kernel
theorem dX10_moves_0 : decode cX10_moves 0 = .ok (.iconst 0, 1) := by decide +kernel
theorem dX10_moves_1 : decode cX10_moves 1 = .ok (.istore_n 1, 1) := by decide +kernel
theorem dX10_moves_2 : decode cX10_moves 2 = .ok (.iload_n 1, 1) := by decide +kernel
theorem dX10_moves_3 : decode cX10_moves 3 = .ok (.iconst 4, 1) := by decide +kernel
theorem dX10_moves_4 : decode cX10_moves 4 = .ok (.if_icmp .ge 49, 3) := by decide +kernel
theorem dX10_moves_7 : decode cX10_moves 7 = .ok (.aload_n 0, 1) := by decide +kernel
theorem dX10_moves_8 : decode cX10_moves 8 = .ok (.getfield 154, 3) := by decide +kernel
theorem dX10_moves_11 : decode cX10_moves 11 = .ok (.bipush 10, 2) := by decide +kernel
theorem dX10_moves_13 : decode cX10_moves 13 = .ok (.irem, 1) := by decide +kernel
theorem dX10_moves_14 : decode cX10_moves 14 = .ok (.ifCond .ne 39, 3) := by decide +kernel
theorem dX10_moves_17 : decode cX10_moves 17 = .ok (.aload_n 0, 1) := by decide +kernel
theorem dX10_moves_18 : decode cX10_moves 18 = .ok (.getfield 32, 3) := by decide +kernel
theorem dX10_moves_21 : decode cX10_moves 21 = .ok (.iload_n 1, 1) := by decide +kernel
theorem dX10_moves_22 : decode cX10_moves 22 = .ok (.dup2, 1) := by decide +kernel
theorem dX10_moves_23 : decode cX10_moves 23 = .ok (.iaload, 1) := by decide +kernel
theorem dX10_moves_24 : decode cX10_moves 24 = .ok (.aload_n 0, 1) := by decide +kernel
theorem dX10_moves_25 : decode cX10_moves 25 = .ok (.getfield 38, 3) := by decide +kernel
theorem dX10_moves_28 : decode cX10_moves 28 = .ok (.iload_n 1, 1) := by decide +kernel
theorem dX10_moves_29 : decode cX10_moves 29 = .ok (.iaload, 1) := by decide +kernel
theorem dX10_moves_30 : decode cX10_moves 30 = .ok (.iadd, 1) := by decide +kernel
theorem dX10_moves_31 : decode cX10_moves 31 = .ok (.iastore, 1) := by decide +kernel
theorem dX10_moves_32 : decode cX10_moves 32 = .ok (.aload_n 0, 1) := by decide +kernel
theorem dX10_moves_33 : decode cX10_moves 33 = .ok (.getfield 35, 3) := by decide +kernel
theorem dX10_moves_36 : decode cX10_moves 36 = .ok (.iload_n 1, 1) := by decide +kernel
theorem dX10_moves_37 : decode cX10_moves 37 = .ok (.dup2, 1) := by decide +kernel
theorem dX10_moves_38 : decode cX10_moves 38 = .ok (.iaload, 1) := by decide +kernel
theorem dX10_moves_39 : decode cX10_moves 39 = .ok (.aload_n 0, 1) := by decide +kernel
theorem dX10_moves_40 : decode cX10_moves 40 = .ok (.getfield 41, 3) := by decide +kernel
theorem dX10_moves_43 : decode cX10_moves 43 = .ok (.iload_n 1, 1) := by decide +kernel
theorem dX10_moves_44 : decode cX10_moves 44 = .ok (.iaload, 1) := by decide +kernel
theorem dX10_moves_45 : decode cX10_moves 45 = .ok (.iadd, 1) := by decide +kernel
theorem dX10_moves_46 : decode cX10_moves 46 = .ok (.iastore, 1) := by decide +kernel
theorem dX10_moves_47 : decode cX10_moves 47 = .ok (.iinc 1 1, 3) := by decide +kernel
theorem dX10_moves_50 : decode cX10_moves 50 = .ok (.goto (-48), 3) := by decide +kernel
theorem dX10_moves_53 : decode cX10_moves 53 = .ok (.iconst 0, 1) := by decide +kernel
theorem dX10_moves_54 : decode cX10_moves 54 = .ok (.istore_n 1, 1) := by decide +kernel
theorem dX10_moves_55 : decode cX10_moves 55 = .ok (.iconst 0, 1) := by decide +kernel
theorem dX10_moves_56 : decode cX10_moves 56 = .ok (.istore_n 2, 1) := by decide +kernel
theorem dX10_moves_57 : decode cX10_moves 57 = .ok (.iload_n 2, 1) := by decide +kernel
theorem dX10_moves_58 : decode cX10_moves 58 = .ok (.aload_n 0, 1) := by decide +kernel
theorem dX10_moves_59 : decode cX10_moves 59 = .ok (.getfield 151, 3) := by decide +kernel
theorem dX10_moves_62 : decode cX10_moves 62 = .ok (.if_icmp .ge 116, 3) := by decide +kernel
theorem dX10_moves_65 : decode cX10_moves 65 = .ok (.aload_n 0, 1) := by decide +kernel
theorem dX10_moves_66 : decode cX10_moves 66 = .ok (.getfield 56, 3) := by decide +kernel
theorem dX10_moves_69 : decode cX10_moves 69 = .ok (.iload_n 2, 1) := by decide +kernel
theorem dX10_moves_70 : decode cX10_moves 70 = .ok (.iaload, 1) := by decide +kernel
theorem dX10_moves_71 : decode cX10_moves 71 = .ok (.aload_n 0, 1) := by decide +kernel
theorem dX10_moves_72 : decode cX10_moves 72 = .ok (.getfield 154, 3) := by decide +kernel
theorem dX10_moves_75 : decode cX10_moves 75 = .ok (.if_icmp .ne 46, 3) := by decide +kernel
theorem dX10_moves_78 : decode cX10_moves 78 = .ok (.aload_n 0, 1) := by decide +kernel
theorem dX10_moves_79 : decode cX10_moves 79 = .ok (.getfield 32, 3) := by decide +kernel
theorem dX10_moves_82 : decode cX10_moves 82 = .ok (.aload_n 0, 1) := by decide +kernel
theorem dX10_moves_83 : decode cX10_moves 83 = .ok (.getfield 47, 3) := by decide +kernel
theorem dX10_moves_86 : decode cX10_moves 86 = .ok (.iload_n 2, 1) := by decide +kernel
theorem dX10_moves_87 : decode cX10_moves 87 = .ok (.iaload, 1) := by decide +kernel
theorem dX10_moves_88 : decode cX10_moves 88 = .ok (.dup2, 1) := by decide +kernel
theorem dX10_moves_89 : decode cX10_moves 89 = .ok (.iaload, 1) := by decide +kernel
theorem dX10_moves_90 : decode cX10_moves 90 = .ok (.aload_n 0, 1) := by decide +kernel
theorem dX10_moves_91 : decode cX10_moves 91 = .ok (.getfield 50, 3) := by decide +kernel
theorem dX10_moves_94 : decode cX10_moves 94 = .ok (.iload_n 2, 1) := by decide +kernel
theorem dX10_moves_95 : decode cX10_moves 95 = .ok (.iaload, 1) := by decide +kernel
theorem dX10_moves_96 : decode cX10_moves 96 = .ok (.iadd, 1) := by decide +kernel
theorem dX10_moves_97 : decode cX10_moves 97 = .ok (.iastore, 1) := by decide +kernel
theorem dX10_moves_98 : decode cX10_moves 98 = .ok (.aload_n 0, 1) := by decide +kernel
theorem dX10_moves_99 : decode cX10_moves 99 = .ok (.getfield 35, 3) := by decide +kernel
theorem dX10_moves_102 : decode cX10_moves 102 = .ok (.aload_n 0, 1) := by decide +kernel
theorem dX10_moves_103 : decode cX10_moves 103 = .ok (.getfield 47, 3) := by decide +kernel
theorem dX10_moves_106 : decode cX10_moves 106 = .ok (.iload_n 2, 1) := by decide +kernel
theorem dX10_moves_107 : decode cX10_moves 107 = .ok (.iaload, 1) := by decide +kernel
theorem dX10_moves_108 : decode cX10_moves 108 = .ok (.dup2, 1) := by decide +kernel
theorem dX10_moves_109 : decode cX10_moves 109 = .ok (.iaload, 1) := by decide +kernel
theorem dX10_moves_110 : decode cX10_moves 110 = .ok (.aload_n 0, 1) := by decide +kernel
theorem dX10_moves_111 : decode cX10_moves 111 = .ok (.getfield 53, 3) := by decide +kernel
theorem dX10_moves_114 : decode cX10_moves 114 = .ok (.iload_n 2, 1) := by decide +kernel
theorem dX10_moves_115 : decode cX10_moves 115 = .ok (.iaload, 1) := by decide +kernel
theorem dX10_moves_116 : decode cX10_moves 116 = .ok (.iadd, 1) := by decide +kernel
theorem dX10_moves_117 : decode cX10_moves 117 = .ok (.iastore, 1) := by decide +kernel
theorem dX10_moves_118 : decode cX10_moves 118 = .ok (.goto 54, 3) := by decide +kernel
theorem dX10_moves_121 : decode cX10_moves 121 = .ok (.aload_n 0, 1) := by decide +kernel
theorem dX10_moves_122 : decode cX10_moves 122 = .ok (.getfield 47, 3) := by decide +kernel
theorem dX10_moves_125 : decode cX10_moves 125 = .ok (.iload_n 1, 1) := by decide +kernel
theorem dX10_moves_126 : decode cX10_moves 126 = .ok (.aload_n 0, 1) := by decide +kernel
theorem dX10_moves_127 : decode cX10_moves 127 = .ok (.getfield 47, 3) := by decide +kernel
theorem dX10_moves_130 : decode cX10_moves 130 = .ok (.iload_n 2, 1) := by decide +kernel
theorem dX10_moves_131 : decode cX10_moves 131 = .ok (.iaload, 1) := by decide +kernel
theorem dX10_moves_132 : decode cX10_moves 132 = .ok (.iastore, 1) := by decide +kernel
theorem dX10_moves_133 : decode cX10_moves 133 = .ok (.aload_n 0, 1) := by decide +kernel
theorem dX10_moves_134 : decode cX10_moves 134 = .ok (.getfield 50, 3) := by decide +kernel
theorem dX10_moves_137 : decode cX10_moves 137 = .ok (.iload_n 1, 1) := by decide +kernel
theorem dX10_moves_138 : decode cX10_moves 138 = .ok (.aload_n 0, 1) := by decide +kernel
theorem dX10_moves_139 : decode cX10_moves 139 = .ok (.getfield 50, 3) := by decide +kernel
theorem dX10_moves_142 : decode cX10_moves 142 = .ok (.iload_n 2, 1) := by decide +kernel
theorem dX10_moves_143 : decode cX10_moves 143 = .ok (.iaload, 1) := by decide +kernel
theorem dX10_moves_144 : decode cX10_moves 144 = .ok (.iastore, 1) := by decide +kernel
theorem dX10_moves_145 : decode cX10_moves 145 = .ok (.aload_n 0, 1) := by decide +kernel
theorem dX10_moves_146 : decode cX10_moves 146 = .ok (.getfield 53, 3) := by decide +kernel
theorem dX10_moves_149 : decode cX10_moves 149 = .ok (.iload_n 1, 1) := by decide +kernel
theorem dX10_moves_150 : decode cX10_moves 150 = .ok (.aload_n 0, 1) := by decide +kernel
theorem dX10_moves_151 : decode cX10_moves 151 = .ok (.getfield 53, 3) := by decide +kernel
theorem dX10_moves_154 : decode cX10_moves 154 = .ok (.iload_n 2, 1) := by decide +kernel
theorem dX10_moves_155 : decode cX10_moves 155 = .ok (.iaload, 1) := by decide +kernel
theorem dX10_moves_156 : decode cX10_moves 156 = .ok (.iastore, 1) := by decide +kernel
theorem dX10_moves_157 : decode cX10_moves 157 = .ok (.aload_n 0, 1) := by decide +kernel
theorem dX10_moves_158 : decode cX10_moves 158 = .ok (.getfield 56, 3) := by decide +kernel
theorem dX10_moves_161 : decode cX10_moves 161 = .ok (.iload_n 1, 1) := by decide +kernel
theorem dX10_moves_162 : decode cX10_moves 162 = .ok (.aload_n 0, 1) := by decide +kernel
theorem dX10_moves_163 : decode cX10_moves 163 = .ok (.getfield 56, 3) := by decide +kernel
theorem dX10_moves_166 : decode cX10_moves 166 = .ok (.iload_n 2, 1) := by decide +kernel
theorem dX10_moves_167 : decode cX10_moves 167 = .ok (.iaload, 1) := by decide +kernel
theorem dX10_moves_168 : decode cX10_moves 168 = .ok (.iastore, 1) := by decide +kernel
theorem dX10_moves_169 : decode cX10_moves 169 = .ok (.iinc 1 1, 3) := by decide +kernel
theorem dX10_moves_172 : decode cX10_moves 172 = .ok (.iinc 2 1, 3) := by decide +kernel
theorem dX10_moves_175 : decode cX10_moves 175 = .ok (.goto (-118), 3) := by decide +kernel
theorem dX10_moves_178 : decode cX10_moves 178 = .ok (.aload_n 0, 1) := by decide +kernel
theorem dX10_moves_179 : decode cX10_moves 179 = .ok (.iload_n 1, 1) := by decide +kernel
theorem dX10_moves_180 : decode cX10_moves 180 = .ok (.putfield 151, 3) := by decide +kernel
theorem dX10_moves_183 : decode cX10_moves 183 = .ok (.return_, 1) := by decide +kernel
set_option maxRecDepth 20000 in
theorem ggX10_printsOne_X10_looks : GoodIn wsX10_printsOne wsX10_looks := goodIn_r _ [12, 13, 14, 15, 16, 17, 18, 11, 19, 20, 21, 22, 23, 24, 25, 26, 27, 28, 29, 30, 31, 32, 33, 34, 35, 36, 37, 38, 50, 51, 52, 53, 54, 55, 56, 57, 58, 59, 60, 61, 62, 63, 64, 65, 66, 67, 68, 69, 70, 71, 72, 73, 74, 75, 76, 77, 78, 79, 80, 81, 82, 83, 84] (by decide +kernel) (by decide +kernel)
set_option maxRecDepth 20000 in
theorem gX10_printsOne_X10_looks : GoodIn wsX10_printsOne (wsV RX10 187 RX10 yX10_looks wsX10_looks) := goodIn_app (goodIn_of _ (by decide +kernel)) ggX10_printsOne_X10_looks
set_option maxRecDepth 20000 in
theorem ggX10_printsOne_X10_moves : GoodIn wsX10_printsOne wsX10_moves := goodIn_r _ [42, 1, 20, 43, 22, 44, 45, 46, 47, 48, 49, 50, 51, 52, 53, 54, 55, 56, 57, 58, 59, 60, 61, 62, 63, 64, 65, 66, 67, 68, 69, 70, 71, 72, 73, 74, 75, 76, 77, 78, 79, 80, 81, 82, 83, 84] (by decide +kernel) (by decide +kernel)
set_option maxRecDepth 20000 in
theorem gX10_printsOne_X10_moves : GoodIn wsX10_printsOne (wsV RX10 193 RX10 yX10_moves wsX10_moves) := goodIn_app (goodIn_of _ (by decide +kernel)) ggX10_printsOne_X10_moves
theorem dX10_printsOne_0 : decode cX10_printsOne 0 = .ok (.aload_n 0, 1) := by decide +kernel
theorem dX10_printsOne_1 : decode cX10_printsOne 1 = .ok (.invokevirtual 187, 3) := by decide +kernel
theorem dX10_printsOne_4 : decode cX10_printsOne 4 = .ok (.istore_n 1, 1) := by decide +kernel
theorem dX10_printsOne_5 : decode cX10_printsOne 5 = .ok (.aload_n 0, 1) := by decide +kernel
theorem dX10_printsOne_6 : decode cX10_printsOne 6 = .ok (.dup, 1) := by decide +kernel
theorem dX10_printsOne_7 : decode cX10_printsOne 7 = .ok (.getfield 154, 3) := by decide +kernel
theorem dX10_printsOne_10 : decode cX10_printsOne 10 = .ok (.iconst 1, 1) := by decide +kernel
theorem dX10_printsOne_11 : decode cX10_printsOne 11 = .ok (.iadd, 1) := by decide +kernel
theorem dX10_printsOne_12 : decode cX10_printsOne 12 = .ok (.putfield 154, 3) := by decide +kernel
theorem dX10_printsOne_15 : decode cX10_printsOne 15 = .ok (.aload_n 0, 1) := by decide +kernel
theorem dX10_printsOne_16 : decode cX10_printsOne 16 = .ok (.dup, 1) := by decide +kernel
theorem dX10_printsOne_17 : decode cX10_printsOne 17 = .ok (.getfield 190, 3) := by decide +kernel
theorem dX10_printsOne_20 : decode cX10_printsOne 20 = .ok (.iload_n 1, 1) := by decide +kernel
theorem dX10_printsOne_21 : decode cX10_printsOne 21 = .ok (.ifCond .eq 7, 3) := by decide +kernel
theorem dX10_printsOne_24 : decode cX10_printsOne 24 = .ok (.iconst 1, 1) := by decide +kernel
theorem dX10_printsOne_25 : decode cX10_printsOne 25 = .ok (.goto 4, 3) := by decide +kernel
theorem dX10_printsOne_28 : decode cX10_printsOne 28 = .ok (.iconst 0, 1) := by decide +kernel
theorem dX10_printsOne_29 : decode cX10_printsOne 29 = .ok (.iadd, 1) := by decide +kernel
theorem dX10_printsOne_30 : decode cX10_printsOne 30 = .ok (.putfield 190, 3) := by decide +kernel
theorem dX10_printsOne_33 : decode cX10_printsOne 33 = .ok (.aload_n 0, 1) := by decide +kernel
theorem dX10_printsOne_34 : decode cX10_printsOne 34 = .ok (.getfield 160, 3) := by decide +kernel
theorem dX10_printsOne_37 : decode cX10_printsOne 37 = .ok (.ifCond .le 87, 3) := by decide +kernel
theorem dX10_printsOne_40 : decode cX10_printsOne 40 = .ok (.aload_n 0, 1) := by decide +kernel
theorem dX10_printsOne_41 : decode cX10_printsOne 41 = .ok (.getfield 66, 3) := by decide +kernel
theorem dX10_printsOne_44 : decode cX10_printsOne 44 = .ok (.aload_n 0, 1) := by decide +kernel
theorem dX10_printsOne_45 : decode cX10_printsOne 45 = .ok (.getfield 166, 3) := by decide +kernel
theorem dX10_printsOne_48 : decode cX10_printsOne 48 = .ok (.iaload, 1) := by decide +kernel
theorem dX10_printsOne_49 : decode cX10_printsOne 49 = .ok (.istore_n 2, 1) := by decide +kernel
theorem dX10_printsOne_50 : decode cX10_printsOne 50 = .ok (.aload_n 0, 1) := by decide +kernel
theorem dX10_printsOne_51 : decode cX10_printsOne 51 = .ok (.aload_n 0, 1) := by decide +kernel
theorem dX10_printsOne_52 : decode cX10_printsOne 52 = .ok (.getfield 166, 3) := by decide +kernel
theorem dX10_printsOne_55 : decode cX10_printsOne 55 = .ok (.iconst 1, 1) := by decide +kernel
theorem dX10_printsOne_56 : decode cX10_printsOne 56 = .ok (.iadd, 1) := by decide +kernel
theorem dX10_printsOne_57 : decode cX10_printsOne 57 = .ok (.sipush 200, 3) := by decide +kernel
theorem dX10_printsOne_60 : decode cX10_printsOne 60 = .ok (.irem, 1) := by decide +kernel
theorem dX10_printsOne_61 : decode cX10_printsOne 61 = .ok (.putfield 166, 3) := by decide +kernel
theorem dX10_printsOne_64 : decode cX10_printsOne 64 = .ok (.aload_n 0, 1) := by decide +kernel
theorem dX10_printsOne_65 : decode cX10_printsOne 65 = .ok (.dup, 1) := by decide +kernel
theorem dX10_printsOne_66 : decode cX10_printsOne 66 = .ok (.getfield 160, 3) := by decide +kernel
theorem dX10_printsOne_69 : decode cX10_printsOne 69 = .ok (.iconst 1, 1) := by decide +kernel
theorem dX10_printsOne_70 : decode cX10_printsOne 70 = .ok (.isub, 1) := by decide +kernel
theorem dX10_printsOne_71 : decode cX10_printsOne 71 = .ok (.putfield 160, 3) := by decide +kernel
theorem dX10_printsOne_74 : decode cX10_printsOne 74 = .ok (.aload_n 0, 1) := by decide +kernel
theorem dX10_printsOne_75 : decode cX10_printsOne 75 = .ok (.getfield 63, 3) := by decide +kernel
theorem dX10_printsOne_78 : decode cX10_printsOne 78 = .ok (.iload_n 2, 1) := by decide +kernel
theorem dX10_printsOne_79 : decode cX10_printsOne 79 = .ok (.dup2, 1) := by decide +kernel
theorem dX10_printsOne_80 : decode cX10_printsOne 80 = .ok (.iaload, 1) := by decide +kernel
theorem dX10_printsOne_81 : decode cX10_printsOne 81 = .ok (.iconst 1, 1) := by decide +kernel
theorem dX10_printsOne_82 : decode cX10_printsOne 82 = .ok (.iadd, 1) := by decide +kernel
theorem dX10_printsOne_83 : decode cX10_printsOne 83 = .ok (.iastore, 1) := by decide +kernel
theorem dX10_printsOne_84 : decode cX10_printsOne 84 = .ok (.aload_n 0, 1) := by decide +kernel
theorem dX10_printsOne_85 : decode cX10_printsOne 85 = .ok (.getfield 59, 3) := by decide +kernel
theorem dX10_printsOne_88 : decode cX10_printsOne 88 = .ok (.iload_n 2, 1) := by decide +kernel
theorem dX10_printsOne_89 : decode cX10_printsOne 89 = .ok (.iload_n 1, 1) := by decide +kernel
theorem dX10_printsOne_90 : decode cX10_printsOne 90 = .ok (.bastore, 1) := by decide +kernel
theorem dX10_printsOne_91 : decode cX10_printsOne 91 = .ok (.iload_n 1, 1) := by decide +kernel
theorem dX10_printsOne_92 : decode cX10_printsOne 92 = .ok (.ifCond .ne 32, 3) := by decide +kernel
theorem dX10_printsOne_95 : decode cX10_printsOne 95 = .ok (.aload_n 0, 1) := by decide +kernel
theorem dX10_printsOne_96 : decode cX10_printsOne 96 = .ok (.getfield 66, 3) := by decide +kernel
theorem dX10_printsOne_99 : decode cX10_printsOne 99 = .ok (.aload_n 0, 1) := by decide +kernel
theorem dX10_printsOne_100 : decode cX10_printsOne 100 = .ok (.getfield 166, 3) := by decide +kernel
theorem dX10_printsOne_103 : decode cX10_printsOne 103 = .ok (.aload_n 0, 1) := by decide +kernel
theorem dX10_printsOne_104 : decode cX10_printsOne 104 = .ok (.getfield 160, 3) := by decide +kernel
theorem dX10_printsOne_107 : decode cX10_printsOne 107 = .ok (.iadd, 1) := by decide +kernel
theorem dX10_printsOne_108 : decode cX10_printsOne 108 = .ok (.sipush 200, 3) := by decide +kernel
theorem dX10_printsOne_111 : decode cX10_printsOne 111 = .ok (.irem, 1) := by decide +kernel
theorem dX10_printsOne_112 : decode cX10_printsOne 112 = .ok (.iload_n 2, 1) := by decide +kernel
theorem dX10_printsOne_113 : decode cX10_printsOne 113 = .ok (.iastore, 1) := by decide +kernel
theorem dX10_printsOne_114 : decode cX10_printsOne 114 = .ok (.aload_n 0, 1) := by decide +kernel
theorem dX10_printsOne_115 : decode cX10_printsOne 115 = .ok (.dup, 1) := by decide +kernel
theorem dX10_printsOne_116 : decode cX10_printsOne 116 = .ok (.getfield 160, 3) := by decide +kernel
theorem dX10_printsOne_119 : decode cX10_printsOne 119 = .ok (.iconst 1, 1) := by decide +kernel
theorem dX10_printsOne_120 : decode cX10_printsOne 120 = .ok (.iadd, 1) := by decide +kernel
theorem dX10_printsOne_121 : decode cX10_printsOne 121 = .ok (.putfield 160, 3) := by decide +kernel
theorem dX10_printsOne_124 : decode cX10_printsOne 124 = .ok (.aload_n 0, 1) := by decide +kernel
theorem dX10_printsOne_125 : decode cX10_printsOne 125 = .ok (.invokevirtual 193, 3) := by decide +kernel
theorem dX10_printsOne_128 : decode cX10_printsOne 128 = .ok (.iload_n 1, 1) := by decide +kernel
theorem dX10_printsOne_129 : decode cX10_printsOne 129 = .ok (.ireturn, 1) := by decide +kernel
set_option maxRecDepth 20000 in
theorem ggX10_print_X10_isIn : GoodIn wsX10_print wsX10_isIn := goodIn_r _ [5] (by decide +kernel) (by decide +kernel)
set_option maxRecDepth 20000 in
theorem gX10_print_X10_isIn : GoodIn wsX10_print (va_wsS RX10 76 yX10_isIn wsX10_isIn) := goodIn_app (goodIn_of _ (by decide +kernel)) ggX10_print_X10_isIn
set_option maxRecDepth 20000 in
theorem ggX10_print_X10_can : GoodIn wsX10_print wsX10_can := goodIn_r _ [9, 10, 59, 60, 61, 62, 63, 64, 65, 66, 67, 68, 69, 70, 71, 72, 73, 74, 75, 76, 77, 78, 79, 80, 81, 82, 83, 84, 85, 86, 87, 88, 89, 90, 91, 92, 93] (by decide +kernel) (by decide +kernel)
set_option maxRecDepth 20000 in
theorem gX10_print_X10_can : GoodIn wsX10_print (wsV RX10 84 RX10 yX10_can wsX10_can) := goodIn_app (goodIn_of _ (by decide +kernel)) ggX10_print_X10_can
set_option maxRecDepth 20000 in
theorem ggX10_print_X10_printsOne : GoodIn wsX10_print wsX10_printsOne := goodIn_r _ [14, 1, 15, 16, 17, 18, 19, 20, 21, 22, 23, 4, 24, 25, 26, 27, 28, 29, 30, 31, 32, 33, 34, 35, 36, 37, 38, 39, 40, 41, 42, 43, 44, 45, 46, 47, 2, 3, 5, 48, 49, 50, 51, 52, 53, 54, 55, 56, 57, 58, 59, 60, 61, 62, 63, 64, 65, 66, 67, 68, 69, 70, 71, 72, 73, 74, 75, 76, 77, 78, 79, 80, 81, 82, 83, 84, 85, 86, 87, 88, 89, 90, 91, 92, 93] (by decide +kernel) (by decide +kernel)
set_option maxRecDepth 20000 in
theorem gX10_print_X10_printsOne : GoodIn wsX10_print (wsV RX10 196 RX10 yX10_printsOne wsX10_printsOne) := goodIn_app (goodIn_of _ (by decide +kernel)) ggX10_print_X10_printsOne
theorem dX10_print_0 : decode cX10_print 0 = .ok (.aload_n 0, 1) := by decide +kernel
theorem dX10_print_1 : decode cX10_print 1 = .ok (.iload_n 1, 1) := by decide +kernel
theorem dX10_print_2 : decode cX10_print 2 = .ok (.iconst 1, 1) := by decide +kernel
theorem dX10_print_3 : decode cX10_print 3 = .ok (.bipush 100, 2) := by decide +kernel
theorem dX10_print_5 : decode cX10_print 5 = .ok (.invokestatic 76, 3) := by decide +kernel
theorem dX10_print_8 : decode cX10_print 8 = .ok (.ifCond .ne 7, 3) := by decide +kernel
theorem dX10_print_11 : decode cX10_print 11 = .ok (.iconst 1, 1) := by decide +kernel
theorem dX10_print_12 : decode cX10_print 12 = .ok (.goto 20, 3) := by decide +kernel
theorem dX10_print_15 : decode cX10_print 15 = .ok (.aload_n 0, 1) := by decide +kernel
theorem dX10_print_16 : decode cX10_print 16 = .ok (.getfield 154, 3) := by decide +kernel
theorem dX10_print_19 : decode cX10_print 19 = .ok (.iload_n 1, 1) := by decide +kernel
theorem dX10_print_20 : decode cX10_print 20 = .ok (.iadd, 1) := by decide +kernel
theorem dX10_print_21 : decode cX10_print 21 = .ok (.sipush 20000, 3) := by decide +kernel
theorem dX10_print_24 : decode cX10_print 24 = .ok (.if_icmp .le 7, 3) := by decide +kernel
theorem dX10_print_27 : decode cX10_print 27 = .ok (.iconst 2, 1) := by decide +kernel
theorem dX10_print_28 : decode cX10_print 28 = .ok (.goto 4, 3) := by decide +kernel
theorem dX10_print_31 : decode cX10_print 31 = .ok (.iconst 0, 1) := by decide +kernel
theorem dX10_print_32 : decode cX10_print 32 = .ok (.invokevirtual 84, 3) := by decide +kernel
theorem dX10_print_35 : decode cX10_print 35 = .ok (.ifCond .ne 5, 3) := by decide +kernel
theorem dX10_print_38 : decode cX10_print 38 = .ok (.iconst 0, 1) := by decide +kernel
theorem dX10_print_39 : decode cX10_print 39 = .ok (.ireturn, 1) := by decide +kernel
theorem dX10_print_40 : decode cX10_print 40 = .ok (.iconst 0, 1) := by decide +kernel
theorem dX10_print_41 : decode cX10_print 41 = .ok (.istore_n 2, 1) := by decide +kernel
theorem dX10_print_42 : decode cX10_print 42 = .ok (.iconst 0, 1) := by decide +kernel
theorem dX10_print_43 : decode cX10_print 43 = .ok (.istore_n 3, 1) := by decide +kernel
theorem dX10_print_44 : decode cX10_print 44 = .ok (.iload_n 3, 1) := by decide +kernel
theorem dX10_print_45 : decode cX10_print 45 = .ok (.iload_n 1, 1) := by decide +kernel
theorem dX10_print_46 : decode cX10_print 46 = .ok (.if_icmp .ge 28, 3) := by decide +kernel
theorem dX10_print_49 : decode cX10_print 49 = .ok (.aload_n 0, 1) := by decide +kernel
theorem dX10_print_50 : decode cX10_print 50 = .ok (.invokevirtual 196, 3) := by decide +kernel
theorem dX10_print_53 : decode cX10_print 53 = .ok (.istore 4, 2) := by decide +kernel
theorem dX10_print_55 : decode cX10_print 55 = .ok (.iload_n 2, 1) := by decide +kernel
theorem dX10_print_56 : decode cX10_print 56 = .ok (.iload 4, 2) := by decide +kernel
theorem dX10_print_58 : decode cX10_print 58 = .ok (.ifCond .eq 7, 3) := by decide +kernel
theorem dX10_print_61 : decode cX10_print 61 = .ok (.iconst 1, 1) := by decide +kernel
theorem dX10_print_62 : decode cX10_print 62 = .ok (.goto 4, 3) := by decide +kernel
theorem dX10_print_65 : decode cX10_print 65 = .ok (.iconst 0, 1) := by decide +kernel
theorem dX10_print_66 : decode cX10_print 66 = .ok (.iadd, 1) := by decide +kernel
theorem dX10_print_67 : decode cX10_print 67 = .ok (.istore_n 2, 1) := by decide +kernel
theorem dX10_print_68 : decode cX10_print 68 = .ok (.iinc 3 1, 3) := by decide +kernel
theorem dX10_print_71 : decode cX10_print 71 = .ok (.goto (-27), 3) := by decide +kernel
theorem dX10_print_74 : decode cX10_print 74 = .ok (.iload_n 2, 1) := by decide +kernel
theorem dX10_print_75 : decode cX10_print 75 = .ok (.ireturn, 1) := by decide +kernel
set_option maxRecDepth 20000 in
theorem ggX10_printsNow_X10_prints : GoodIn wsX10_printsNow wsX10_prints := goodIn_r _ [6, 7, 8, 9, 10, 11, 12, 13, 14, 15, 16, 17, 18, 19, 20, 21, 22, 23, 24, 25, 26, 27, 28, 29, 30, 31, 32, 33, 34, 35, 36, 37, 38, 39, 40, 41, 42] (by decide +kernel) (by decide +kernel)
set_option maxRecDepth 20000 in
theorem gX10_printsNow_X10_prints : GoodIn wsX10_printsNow (wsV RX10 142 RX10 yX10_prints wsX10_prints) := goodIn_app (goodIn_of _ (by decide +kernel)) ggX10_printsNow_X10_prints
theorem dX10_printsNow_0 : decode cX10_printsNow 0 = .ok (.aload_n 0, 1) := by decide +kernel
theorem dX10_printsNow_1 : decode cX10_printsNow 1 = .ok (.iload_n 1, 1) := by decide +kernel
theorem dX10_printsNow_2 : decode cX10_printsNow 2 = .ok (.iconst 4, 1) := by decide +kernel
theorem dX10_printsNow_3 : decode cX10_printsNow 3 = .ok (.irem, 1) := by decide +kernel
theorem dX10_printsNow_4 : decode cX10_printsNow 4 = .ok (.aload_n 0, 1) := by decide +kernel
theorem dX10_printsNow_5 : decode cX10_printsNow 5 = .ok (.getfield 29, 3) := by decide +kernel
theorem dX10_printsNow_8 : decode cX10_printsNow 8 = .ok (.iload_n 1, 1) := by decide +kernel
theorem dX10_printsNow_9 : decode cX10_printsNow 9 = .ok (.iaload, 1) := by decide +kernel
theorem dX10_printsNow_10 : decode cX10_printsNow 10 = .ok (.invokevirtual 142, 3) := by decide +kernel
theorem dX10_printsNow_13 : decode cX10_printsNow 13 = .ok (.ireturn, 1) := by decide +kernel
set_option maxRecDepth 20000 in
theorem ggX10_sign_X10_printsNow : GoodIn wsX10_sign wsX10_printsNow := goodIn_r _ [8, 9, 10, 11, 12, 7, 13, 14, 15, 16, 17, 18, 19, 20, 21, 22, 23, 24, 25, 26, 27, 28, 29, 30, 31, 32, 33, 34, 35, 36, 37, 38, 39, 40, 41, 42, 43, 44, 45, 46, 47, 48, 49] (by decide +kernel) (by decide +kernel)
set_option maxRecDepth 20000 in
theorem gX10_sign_X10_printsNow : GoodIn wsX10_sign (wsV RX10 199 RX10 yX10_printsNow wsX10_printsNow) := goodIn_app (goodIn_of _ (by decide +kernel)) ggX10_sign_X10_printsNow
theorem dX10_sign_0 : decode cX10_sign 0 = .ok (.aload_n 0, 1) := by decide +kernel
theorem dX10_sign_1 : decode cX10_sign 1 = .ok (.iconst 0, 1) := by decide +kernel
theorem dX10_sign_2 : decode cX10_sign 2 = .ok (.putfield 72, 3) := by decide +kernel
theorem dX10_sign_5 : decode cX10_sign 5 = .ok (.iconst 0, 1) := by decide +kernel
theorem dX10_sign_6 : decode cX10_sign 6 = .ok (.istore_n 1, 1) := by decide +kernel
theorem dX10_sign_7 : decode cX10_sign 7 = .ok (.iconst 0, 1) := by decide +kernel
theorem dX10_sign_8 : decode cX10_sign 8 = .ok (.istore_n 2, 1) := by decide +kernel
theorem dX10_sign_9 : decode cX10_sign 9 = .ok (.iload_n 2, 1) := by decide +kernel
theorem dX10_sign_10 : decode cX10_sign 10 = .ok (.sipush 256, 3) := by decide +kernel
theorem dX10_sign_13 : decode cX10_sign 13 = .ok (.if_icmp .ge 29, 3) := by decide +kernel
theorem dX10_sign_16 : decode cX10_sign 16 = .ok (.aload_n 0, 1) := by decide +kernel
theorem dX10_sign_17 : decode cX10_sign 17 = .ok (.getfield 69, 3) := by decide +kernel
theorem dX10_sign_20 : decode cX10_sign 20 = .ok (.iload_n 2, 1) := by decide +kernel
theorem dX10_sign_21 : decode cX10_sign 21 = .ok (.aload_n 0, 1) := by decide +kernel
theorem dX10_sign_22 : decode cX10_sign 22 = .ok (.iload_n 2, 1) := by decide +kernel
theorem dX10_sign_23 : decode cX10_sign 23 = .ok (.invokevirtual 199, 3) := by decide +kernel
theorem dX10_sign_26 : decode cX10_sign 26 = .ok (.iastore, 1) := by decide +kernel
theorem dX10_sign_27 : decode cX10_sign 27 = .ok (.iload_n 1, 1) := by decide +kernel
theorem dX10_sign_28 : decode cX10_sign 28 = .ok (.aload_n 0, 1) := by decide +kernel
theorem dX10_sign_29 : decode cX10_sign 29 = .ok (.getfield 69, 3) := by decide +kernel
theorem dX10_sign_32 : decode cX10_sign 32 = .ok (.iload_n 2, 1) := by decide +kernel
theorem dX10_sign_33 : decode cX10_sign 33 = .ok (.iaload, 1) := by decide +kernel
theorem dX10_sign_34 : decode cX10_sign 34 = .ok (.iadd, 1) := by decide +kernel
theorem dX10_sign_35 : decode cX10_sign 35 = .ok (.istore_n 1, 1) := by decide +kernel
theorem dX10_sign_36 : decode cX10_sign 36 = .ok (.iinc 2 1, 3) := by decide +kernel
theorem dX10_sign_39 : decode cX10_sign 39 = .ok (.goto (-30), 3) := by decide +kernel
theorem dX10_sign_42 : decode cX10_sign 42 = .ok (.aload_n 0, 1) := by decide +kernel
theorem dX10_sign_43 : decode cX10_sign 43 = .ok (.iconst 1, 1) := by decide +kernel
theorem dX10_sign_44 : decode cX10_sign 44 = .ok (.putfield 202, 3) := by decide +kernel
theorem dX10_sign_47 : decode cX10_sign 47 = .ok (.iload_n 1, 1) := by decide +kernel
theorem dX10_sign_48 : decode cX10_sign 48 = .ok (.ireturn, 1) := by decide +kernel
set_option maxRecDepth 20000 in
theorem ggX10_difference_X10_printsNow : GoodIn wsX10_difference wsX10_printsNow := goodIn_r _ [6, 7, 8, 9, 10, 5, 11, 12, 16, 17, 18, 19, 20, 21, 22, 23, 24, 25, 26, 27, 28, 29, 30, 31, 32, 33, 34, 35, 36, 37, 38, 39, 40, 41, 42, 43, 44, 45, 46, 47, 48, 49, 50] (by decide +kernel) (by decide +kernel)
set_option maxRecDepth 20000 in
theorem gX10_difference_X10_printsNow : GoodIn wsX10_difference (wsV RX10 199 RX10 yX10_printsNow wsX10_printsNow) := goodIn_app (goodIn_of _ (by decide +kernel)) ggX10_difference_X10_printsNow
set_option maxRecDepth 20000 in
theorem ggX10_difference_X10_size : GoodIn wsX10_difference wsX10_size := goodIn_r _ [15] (by decide +kernel) (by decide +kernel)
set_option maxRecDepth 20000 in
theorem gX10_difference_X10_size : GoodIn wsX10_difference (va_wsS RX10 169 yX10_size wsX10_size) := goodIn_app (goodIn_of _ (by decide +kernel)) ggX10_difference_X10_size
theorem dX10_difference_0 : decode cX10_difference 0 = .ok (.iconst 0, 1) := by decide +kernel
theorem dX10_difference_1 : decode cX10_difference 1 = .ok (.istore_n 2, 1) := by decide +kernel
theorem dX10_difference_2 : decode cX10_difference 2 = .ok (.iconst 4, 1) := by decide +kernel
theorem dX10_difference_3 : decode cX10_difference 3 = .ok (.iload_n 1, 1) := by decide +kernel
theorem dX10_difference_4 : decode cX10_difference 4 = .ok (.imul, 1) := by decide +kernel
theorem dX10_difference_5 : decode cX10_difference 5 = .ok (.istore_n 3, 1) := by decide +kernel
theorem dX10_difference_6 : decode cX10_difference 6 = .ok (.iload_n 3, 1) := by decide +kernel
theorem dX10_difference_7 : decode cX10_difference 7 = .ok (.iconst 4, 1) := by decide +kernel
theorem dX10_difference_8 : decode cX10_difference 8 = .ok (.iload_n 1, 1) := by decide +kernel
theorem dX10_difference_9 : decode cX10_difference 9 = .ok (.imul, 1) := by decide +kernel
theorem dX10_difference_10 : decode cX10_difference 10 = .ok (.iconst 4, 1) := by decide +kernel
theorem dX10_difference_11 : decode cX10_difference 11 = .ok (.iadd, 1) := by decide +kernel
theorem dX10_difference_12 : decode cX10_difference 12 = .ok (.if_icmp .ge 27, 3) := by decide +kernel
theorem dX10_difference_15 : decode cX10_difference 15 = .ok (.iload_n 2, 1) := by decide +kernel
theorem dX10_difference_16 : decode cX10_difference 16 = .ok (.aload_n 0, 1) := by decide +kernel
theorem dX10_difference_17 : decode cX10_difference 17 = .ok (.iload_n 3, 1) := by decide +kernel
theorem dX10_difference_18 : decode cX10_difference 18 = .ok (.invokevirtual 199, 3) := by decide +kernel
theorem dX10_difference_21 : decode cX10_difference 21 = .ok (.aload_n 0, 1) := by decide +kernel
theorem dX10_difference_22 : decode cX10_difference 22 = .ok (.getfield 69, 3) := by decide +kernel
theorem dX10_difference_25 : decode cX10_difference 25 = .ok (.iload_n 3, 1) := by decide +kernel
theorem dX10_difference_26 : decode cX10_difference 26 = .ok (.iaload, 1) := by decide +kernel
theorem dX10_difference_27 : decode cX10_difference 27 = .ok (.isub, 1) := by decide +kernel
theorem dX10_difference_28 : decode cX10_difference 28 = .ok (.invokestatic 169, 3) := by decide +kernel
theorem dX10_difference_31 : decode cX10_difference 31 = .ok (.iadd, 1) := by decide +kernel
theorem dX10_difference_32 : decode cX10_difference 32 = .ok (.istore_n 2, 1) := by decide +kernel
theorem dX10_difference_33 : decode cX10_difference 33 = .ok (.iinc 3 1, 3) := by decide +kernel
theorem dX10_difference_36 : decode cX10_difference 36 = .ok (.goto (-30), 3) := by decide +kernel
theorem dX10_difference_39 : decode cX10_difference 39 = .ok (.iload_n 2, 1) := by decide +kernel
theorem dX10_difference_40 : decode cX10_difference 40 = .ok (.ireturn, 1) := by decide +kernel
set_option maxRecDepth 20000 in
theorem ggX10_differs_X10_isCell : GoodIn wsX10_differs wsX10_isCell := goodIn_r _ [5, 6, 7, 4, 8] (by decide +kernel) (by decide +kernel)
set_option maxRecDepth 20000 in
theorem gX10_differs_X10_isCell : GoodIn wsX10_differs (va_wsS RX10 80 yX10_isCell wsX10_isCell) := goodIn_app (goodIn_of _ (by decide +kernel)) ggX10_differs_X10_isCell
set_option maxRecDepth 20000 in
theorem ggX10_differs_X10_can : GoodIn wsX10_differs wsX10_can := goodIn_r _ [12, 13, 32, 33, 34, 35, 36, 37, 38, 39, 40, 41, 42, 43, 44, 45, 46, 47, 48, 49, 50, 51, 52, 53, 54, 55, 56, 57, 58, 59, 60, 61, 62, 63, 64, 65, 66] (by decide +kernel) (by decide +kernel)
set_option maxRecDepth 20000 in
theorem gX10_differs_X10_can : GoodIn wsX10_differs (wsV RX10 84 RX10 yX10_can wsX10_can) := goodIn_app (goodIn_of _ (by decide +kernel)) ggX10_differs_X10_can
set_option maxRecDepth 20000 in
theorem ggX10_differs_X10_difference : GoodIn wsX10_differs wsX10_difference := goodIn_r _ [17, 18, 19, 20, 21, 4, 22, 23, 24, 25, 26, 27, 28, 29, 30, 31, 32, 33, 34, 35, 36, 37, 38, 39, 40, 41, 42, 43, 44, 45, 46, 47, 48, 49, 50, 51, 52, 53, 54, 55, 56, 57, 58, 59, 60, 61, 62, 63, 64, 65, 66] (by decide +kernel) (by decide +kernel)
set_option maxRecDepth 20000 in
theorem gX10_differs_X10_difference : GoodIn wsX10_differs (wsV RX10 206 RX10 yX10_difference wsX10_difference) := goodIn_app (goodIn_of _ (by decide +kernel)) ggX10_differs_X10_difference
theorem dX10_differs_0 : decode cX10_differs 0 = .ok (.aload_n 0, 1) := by decide +kernel
theorem dX10_differs_1 : decode cX10_differs 1 = .ok (.iload_n 1, 1) := by decide +kernel
theorem dX10_differs_2 : decode cX10_differs 2 = .ok (.invokestatic 80, 3) := by decide +kernel
theorem dX10_differs_5 : decode cX10_differs 5 = .ok (.ifCond .ne 7, 3) := by decide +kernel
theorem dX10_differs_8 : decode cX10_differs 8 = .ok (.iconst 1, 1) := by decide +kernel
theorem dX10_differs_9 : decode cX10_differs 9 = .ok (.goto 15, 3) := by decide +kernel
theorem dX10_differs_12 : decode cX10_differs 12 = .ok (.aload_n 0, 1) := by decide +kernel
theorem dX10_differs_13 : decode cX10_differs 13 = .ok (.getfield 202, 3) := by decide +kernel
theorem dX10_differs_16 : decode cX10_differs 16 = .ok (.ifCond .eq 7, 3) := by decide +kernel
theorem dX10_differs_19 : decode cX10_differs 19 = .ok (.iconst 0, 1) := by decide +kernel
theorem dX10_differs_20 : decode cX10_differs 20 = .ok (.goto 4, 3) := by decide +kernel
theorem dX10_differs_23 : decode cX10_differs 23 = .ok (.iconst 2, 1) := by decide +kernel
theorem dX10_differs_24 : decode cX10_differs 24 = .ok (.invokevirtual 84, 3) := by decide +kernel
theorem dX10_differs_27 : decode cX10_differs 27 = .ok (.ifCond .eq 11, 3) := by decide +kernel
theorem dX10_differs_30 : decode cX10_differs 30 = .ok (.aload_n 0, 1) := by decide +kernel
theorem dX10_differs_31 : decode cX10_differs 31 = .ok (.iload_n 1, 1) := by decide +kernel
theorem dX10_differs_32 : decode cX10_differs 32 = .ok (.invokevirtual 206, 3) := by decide +kernel
theorem dX10_differs_35 : decode cX10_differs 35 = .ok (.goto 4, 3) := by decide +kernel
theorem dX10_differs_38 : decode cX10_differs 38 = .ok (.iconst 0, 1) := by decide +kernel
theorem dX10_differs_39 : decode cX10_differs 39 = .ok (.ireturn, 1) := by decide +kernel
set_option maxRecDepth 20000 in
theorem ggX10_claim_X10_isCell : GoodIn wsX10_claim wsX10_isCell := goodIn_r _ [5, 6, 7, 4, 8] (by decide +kernel) (by decide +kernel)
set_option maxRecDepth 20000 in
theorem gX10_claim_X10_isCell : GoodIn wsX10_claim (va_wsS RX10 80 yX10_isCell wsX10_isCell) := goodIn_app (goodIn_of _ (by decide +kernel)) ggX10_claim_X10_isCell
set_option maxRecDepth 20000 in
theorem ggX10_claim_X10_can : GoodIn wsX10_claim wsX10_can := goodIn_r _ [12, 13, 32, 33, 34, 35, 36, 37, 38, 39, 40, 41, 42, 43, 44, 45, 46, 47, 48, 49, 50, 51, 52, 53, 54, 55, 56, 57, 58, 59, 60, 61, 62, 63, 64, 65, 66] (by decide +kernel) (by decide +kernel)
set_option maxRecDepth 20000 in
theorem gX10_claim_X10_can : GoodIn wsX10_claim (wsV RX10 84 RX10 yX10_can wsX10_can) := goodIn_app (goodIn_of _ (by decide +kernel)) ggX10_claim_X10_can
set_option maxRecDepth 20000 in
theorem ggX10_claim_X10_difference : GoodIn wsX10_claim wsX10_difference := goodIn_r _ [17, 18, 19, 20, 21, 4, 22, 23, 24, 25, 26, 27, 28, 29, 30, 31, 32, 33, 34, 35, 36, 37, 38, 39, 40, 41, 42, 43, 44, 45, 46, 47, 48, 49, 50, 51, 52, 53, 54, 55, 56, 57, 58, 59, 60, 61, 62, 63, 64, 65, 66] (by decide +kernel) (by decide +kernel)
set_option maxRecDepth 20000 in
theorem gX10_claim_X10_difference : GoodIn wsX10_claim (wsV RX10 206 RX10 yX10_difference wsX10_difference) := goodIn_app (goodIn_of _ (by decide +kernel)) ggX10_claim_X10_difference
theorem dX10_claim_0 : decode cX10_claim 0 = .ok (.aload_n 0, 1) := by decide +kernel
theorem dX10_claim_1 : decode cX10_claim 1 = .ok (.iload_n 1, 1) := by decide +kernel
theorem dX10_claim_2 : decode cX10_claim 2 = .ok (.invokestatic 80, 3) := by decide +kernel
theorem dX10_claim_5 : decode cX10_claim 5 = .ok (.ifCond .ne 7, 3) := by decide +kernel
theorem dX10_claim_8 : decode cX10_claim 8 = .ok (.iconst 1, 1) := by decide +kernel
theorem dX10_claim_9 : decode cX10_claim 9 = .ok (.goto 15, 3) := by decide +kernel
theorem dX10_claim_12 : decode cX10_claim 12 = .ok (.aload_n 0, 1) := by decide +kernel
theorem dX10_claim_13 : decode cX10_claim 13 = .ok (.getfield 202, 3) := by decide +kernel
theorem dX10_claim_16 : decode cX10_claim 16 = .ok (.ifCond .eq 7, 3) := by decide +kernel
theorem dX10_claim_19 : decode cX10_claim 19 = .ok (.iconst 0, 1) := by decide +kernel
theorem dX10_claim_20 : decode cX10_claim 20 = .ok (.goto 4, 3) := by decide +kernel
theorem dX10_claim_23 : decode cX10_claim 23 = .ok (.iconst 2, 1) := by decide +kernel
theorem dX10_claim_24 : decode cX10_claim 24 = .ok (.invokevirtual 84, 3) := by decide +kernel
theorem dX10_claim_27 : decode cX10_claim 27 = .ok (.ifCond .eq 16, 3) := by decide +kernel
theorem dX10_claim_30 : decode cX10_claim 30 = .ok (.aload_n 0, 1) := by decide +kernel
theorem dX10_claim_31 : decode cX10_claim 31 = .ok (.iload_n 1, 1) := by decide +kernel
theorem dX10_claim_32 : decode cX10_claim 32 = .ok (.invokevirtual 206, 3) := by decide +kernel
theorem dX10_claim_35 : decode cX10_claim 35 = .ok (.iconst 5, 1) := by decide +kernel
theorem dX10_claim_36 : decode cX10_claim 36 = .ok (.if_icmp .le 7, 3) := by decide +kernel
theorem dX10_claim_39 : decode cX10_claim 39 = .ok (.iconst 1, 1) := by decide +kernel
theorem dX10_claim_40 : decode cX10_claim 40 = .ok (.goto 4, 3) := by decide +kernel
theorem dX10_claim_43 : decode cX10_claim 43 = .ok (.iconst 0, 1) := by decide +kernel
theorem dX10_claim_44 : decode cX10_claim 44 = .ok (.ireturn, 1) := by decide +kernel
set_option maxRecDepth 20000 in
theorem ggX10_ink_X10_isCell : GoodIn wsX10_ink wsX10_isCell := goodIn_r _ [5, 6, 7, 4, 8] (by decide +kernel) (by decide +kernel)
set_option maxRecDepth 20000 in
theorem gX10_ink_X10_isCell : GoodIn wsX10_ink (va_wsS RX10 80 yX10_isCell wsX10_isCell) := goodIn_app (goodIn_of _ (by decide +kernel)) ggX10_ink_X10_isCell
set_option maxRecDepth 20000 in
theorem ggX10_ink_X10_isInk : GoodIn wsX10_ink wsX10_isInk := goodIn_r _ [11, 6, 7, 4, 8] (by decide +kernel) (by decide +kernel)
set_option maxRecDepth 20000 in
theorem gX10_ink_X10_isInk : GoodIn wsX10_ink (va_wsS RX10 111 yX10_isInk wsX10_isInk) := goodIn_app (goodIn_of _ (by decide +kernel)) ggX10_ink_X10_isInk
set_option maxRecDepth 20000 in
theorem ggX10_ink_X10_isIn : GoodIn wsX10_ink wsX10_isIn := goodIn_r _ [8] (by decide +kernel) (by decide +kernel)
set_option maxRecDepth 20000 in
theorem gX10_ink_X10_isIn : GoodIn wsX10_ink (va_wsS RX10 76 yX10_isIn wsX10_isIn) := goodIn_app (goodIn_of _ (by decide +kernel)) ggX10_ink_X10_isIn
set_option maxRecDepth 20000 in
theorem ggX10_ink_X10_can : GoodIn wsX10_ink wsX10_can := goodIn_r _ [15, 16, 56, 57, 58, 59, 60, 61, 62, 63, 64, 65, 66, 67, 68, 69, 70, 71, 72, 73, 74, 75, 76, 77, 78, 79, 80, 81, 82, 83, 84, 85, 86, 87, 88, 89, 90] (by decide +kernel) (by decide +kernel)
set_option maxRecDepth 20000 in
theorem gX10_ink_X10_can : GoodIn wsX10_ink (wsV RX10 84 RX10 yX10_can wsX10_can) := goodIn_app (goodIn_of _ (by decide +kernel)) ggX10_ink_X10_can
set_option maxRecDepth 20000 in
theorem ggX10_ink_X10_plain : GoodIn wsX10_ink wsX10_plain := goodIn_r _ [20, 21, 22, 23, 24, 25, 26, 27, 4, 28, 29, 30, 31, 32, 33, 34, 35, 56, 57, 58, 59, 60, 61, 62, 63, 64, 65, 66, 67, 68, 69, 70, 71, 72, 73, 74, 75, 76, 77, 78, 79, 80, 81, 82, 83, 84, 85, 86, 87, 88, 89, 90] (by decide +kernel) (by decide +kernel)
set_option maxRecDepth 20000 in
theorem gX10_ink_X10_plain : GoodIn wsX10_ink (wsV RX10 135 RX10 yX10_plain wsX10_plain) := goodIn_app (goodIn_of _ (by decide +kernel)) ggX10_ink_X10_plain
set_option maxRecDepth 20000 in
theorem ggX10_ink_X10_wanted : GoodIn wsX10_ink wsX10_wanted := goodIn_r _ [39, 24, 17, 18, 19, 4, 20, 21, 22, 23, 25, 26, 27, 28, 29, 30, 31, 32, 33, 34, 35, 40, 41, 42, 43, 56, 57, 58, 59, 60, 61, 62, 63, 64, 65, 66, 67, 68, 69, 70, 71, 72, 73, 74, 75, 76, 77, 78, 79, 80, 81, 82, 83, 84, 85, 86, 87, 88, 89, 90] (by decide +kernel) (by decide +kernel)
set_option maxRecDepth 20000 in
theorem gX10_ink_X10_wanted : GoodIn wsX10_ink (wsV RX10 145 RX10 yX10_wanted wsX10_wanted) := goodIn_app (goodIn_of _ (by decide +kernel)) ggX10_ink_X10_wanted
set_option maxRecDepth 20000 in
theorem ggX10_ink_X10_tint : GoodIn wsX10_ink wsX10_tint := goodIn_r _ [47, 48, 49, 50, 4, 51, 24, 56, 57, 58, 59, 60, 61, 62, 63, 64, 65, 66, 67, 68, 69, 70, 71, 72, 73, 74, 75, 76, 77, 78, 79, 80, 81, 82, 83, 84, 85, 86, 87, 88, 89, 90] (by decide +kernel) (by decide +kernel)
set_option maxRecDepth 20000 in
theorem gX10_ink_X10_tint : GoodIn wsX10_ink (wsV RX10 148 RX10 yX10_tint wsX10_tint) := goodIn_app (goodIn_of _ (by decide +kernel)) ggX10_ink_X10_tint
set_option maxRecDepth 20000 in
theorem ggX10_ink_X10_printsNow : GoodIn wsX10_ink wsX10_printsNow := goodIn_r _ [55, 1, 48, 49, 50, 4, 51, 24, 56, 57, 58, 59, 60, 61, 62, 63, 64, 65, 66, 67, 68, 69, 70, 71, 72, 73, 74, 75, 76, 77, 78, 79, 80, 81, 82, 83, 84, 85, 86, 87, 88, 89, 90] (by decide +kernel) (by decide +kernel)
set_option maxRecDepth 20000 in
theorem gX10_ink_X10_printsNow : GoodIn wsX10_ink (wsV RX10 199 RX10 yX10_printsNow wsX10_printsNow) := goodIn_app (goodIn_of _ (by decide +kernel)) ggX10_ink_X10_printsNow
theorem dX10_ink_0 : decode cX10_ink 0 = .ok (.aload_n 0, 1) := by decide +kernel
theorem dX10_ink_1 : decode cX10_ink 1 = .ok (.iload_n 1, 1) := by decide +kernel
theorem dX10_ink_2 : decode cX10_ink 2 = .ok (.invokestatic 80, 3) := by decide +kernel
theorem dX10_ink_5 : decode cX10_ink 5 = .ok (.ifCond .eq 10, 3) := by decide +kernel
theorem dX10_ink_8 : decode cX10_ink 8 = .ok (.iload_n 2, 1) := by decide +kernel
theorem dX10_ink_9 : decode cX10_ink 9 = .ok (.invokestatic 111, 3) := by decide +kernel
theorem dX10_ink_12 : decode cX10_ink 12 = .ok (.ifCond .ne 7, 3) := by decide +kernel
theorem dX10_ink_15 : decode cX10_ink 15 = .ok (.iconst 1, 1) := by decide +kernel
theorem dX10_ink_16 : decode cX10_ink 16 = .ok (.goto 17, 3) := by decide +kernel
theorem dX10_ink_19 : decode cX10_ink 19 = .ok (.iload_n 3, 1) := by decide +kernel
theorem dX10_ink_20 : decode cX10_ink 20 = .ok (.iconst 0, 1) := by decide +kernel
theorem dX10_ink_21 : decode cX10_ink 21 = .ok (.iconst 4, 1) := by decide +kernel
theorem dX10_ink_22 : decode cX10_ink 22 = .ok (.invokestatic 76, 3) := by decide +kernel
theorem dX10_ink_25 : decode cX10_ink 25 = .ok (.ifCond .eq 7, 3) := by decide +kernel
theorem dX10_ink_28 : decode cX10_ink 28 = .ok (.iconst 0, 1) := by decide +kernel
theorem dX10_ink_29 : decode cX10_ink 29 = .ok (.goto 4, 3) := by decide +kernel
theorem dX10_ink_32 : decode cX10_ink 32 = .ok (.iconst 2, 1) := by decide +kernel
theorem dX10_ink_33 : decode cX10_ink 33 = .ok (.invokevirtual 84, 3) := by decide +kernel
theorem dX10_ink_36 : decode cX10_ink 36 = .ok (.ifCond .ne 5, 3) := by decide +kernel
theorem dX10_ink_39 : decode cX10_ink 39 = .ok (.iconst 0, 1) := by decide +kernel
theorem dX10_ink_40 : decode cX10_ink 40 = .ok (.ireturn, 1) := by decide +kernel
theorem dX10_ink_41 : decode cX10_ink 41 = .ok (.iload_n 3, 1) := by decide +kernel
theorem dX10_ink_42 : decode cX10_ink 42 = .ok (.tableswitch 67 0 3 #[30, 37, 44, 56], 30) := by decide +kernel
theorem dX10_ink_72 : decode cX10_ink 72 = .ok (.aload_n 0, 1) := by decide +kernel
theorem dX10_ink_73 : decode cX10_ink 73 = .ok (.iload_n 1, 1) := by decide +kernel
theorem dX10_ink_74 : decode cX10_ink 74 = .ok (.iload_n 2, 1) := by decide +kernel
theorem dX10_ink_75 : decode cX10_ink 75 = .ok (.invokevirtual 135, 3) := by decide +kernel
theorem dX10_ink_78 : decode cX10_ink 78 = .ok (.ireturn, 1) := by decide +kernel
theorem dX10_ink_79 : decode cX10_ink 79 = .ok (.aload_n 0, 1) := by decide +kernel
theorem dX10_ink_80 : decode cX10_ink 80 = .ok (.iload_n 1, 1) := by decide +kernel
theorem dX10_ink_81 : decode cX10_ink 81 = .ok (.iload_n 2, 1) := by decide +kernel
theorem dX10_ink_82 : decode cX10_ink 82 = .ok (.invokevirtual 145, 3) := by decide +kernel
theorem dX10_ink_85 : decode cX10_ink 85 = .ok (.ireturn, 1) := by decide +kernel
theorem dX10_ink_86 : decode cX10_ink 86 = .ok (.aload_n 0, 1) := by decide +kernel
theorem dX10_ink_87 : decode cX10_ink 87 = .ok (.iload_n 2, 1) := by decide +kernel
theorem dX10_ink_88 : decode cX10_ink 88 = .ok (.aload_n 0, 1) := by decide +kernel
theorem dX10_ink_89 : decode cX10_ink 89 = .ok (.iload_n 1, 1) := by decide +kernel
theorem dX10_ink_90 : decode cX10_ink 90 = .ok (.iload_n 2, 1) := by decide +kernel
theorem dX10_ink_91 : decode cX10_ink 91 = .ok (.invokevirtual 145, 3) := by decide +kernel
theorem dX10_ink_94 : decode cX10_ink 94 = .ok (.invokevirtual 148, 3) := by decide +kernel
theorem dX10_ink_97 : decode cX10_ink 97 = .ok (.ireturn, 1) := by decide +kernel
theorem dX10_ink_98 : decode cX10_ink 98 = .ok (.aload_n 0, 1) := by decide +kernel
theorem dX10_ink_99 : decode cX10_ink 99 = .ok (.getfield 29, 3) := by decide +kernel
theorem dX10_ink_102 : decode cX10_ink 102 = .ok (.iconst 4, 1) := by decide +kernel
theorem dX10_ink_103 : decode cX10_ink 103 = .ok (.iload_n 1, 1) := by decide +kernel
theorem dX10_ink_104 : decode cX10_ink 104 = .ok (.imul, 1) := by decide +kernel
theorem dX10_ink_105 : decode cX10_ink 105 = .ok (.iload_n 2, 1) := by decide +kernel
theorem dX10_ink_106 : decode cX10_ink 106 = .ok (.iadd, 1) := by decide +kernel
theorem dX10_ink_107 : decode cX10_ink 107 = .ok (.iaload, 1) := by decide +kernel
theorem dX10_ink_108 : decode cX10_ink 108 = .ok (.ireturn, 1) := by decide +kernel
theorem dX10_ink_109 : decode cX10_ink 109 = .ok (.aload_n 0, 1) := by decide +kernel
theorem dX10_ink_110 : decode cX10_ink 110 = .ok (.iconst 4, 1) := by decide +kernel
theorem dX10_ink_111 : decode cX10_ink 111 = .ok (.iload_n 1, 1) := by decide +kernel
theorem dX10_ink_112 : decode cX10_ink 112 = .ok (.imul, 1) := by decide +kernel
theorem dX10_ink_113 : decode cX10_ink 113 = .ok (.iload_n 2, 1) := by decide +kernel
theorem dX10_ink_114 : decode cX10_ink 114 = .ok (.iadd, 1) := by decide +kernel
theorem dX10_ink_115 : decode cX10_ink 115 = .ok (.invokevirtual 199, 3) := by decide +kernel
theorem dX10_ink_118 : decode cX10_ink 118 = .ok (.ireturn, 1) := by decide +kernel
set_option maxRecDepth 20000 in
theorem ggX10_dot_X10_isCell : GoodIn wsX10_dot wsX10_isCell := goodIn_r _ [5, 6, 7, 4, 8] (by decide +kernel) (by decide +kernel)
set_option maxRecDepth 20000 in
theorem gX10_dot_X10_isCell : GoodIn wsX10_dot (va_wsS RX10 80 yX10_isCell wsX10_isCell) := goodIn_app (goodIn_of _ (by decide +kernel)) ggX10_dot_X10_isCell
set_option maxRecDepth 20000 in
theorem ggX10_dot_X10_isInk : GoodIn wsX10_dot wsX10_isInk := goodIn_r _ [11, 6, 7, 4, 8] (by decide +kernel) (by decide +kernel)
set_option maxRecDepth 20000 in
theorem gX10_dot_X10_isInk : GoodIn wsX10_dot (va_wsS RX10 111 yX10_isInk wsX10_isInk) := goodIn_app (goodIn_of _ (by decide +kernel)) ggX10_dot_X10_isInk
set_option maxRecDepth 20000 in
theorem ggX10_dot_X10_can : GoodIn wsX10_dot wsX10_can := goodIn_r _ [15, 16, 17, 18, 19, 20, 21, 22, 23, 24, 25, 26, 27, 28, 29, 30, 31, 32, 33, 34, 35, 36, 37, 38, 39, 40, 41, 42, 43, 44, 45, 46, 47, 48, 49, 50, 51] (by decide +kernel) (by decide +kernel)
set_option maxRecDepth 20000 in
theorem gX10_dot_X10_can : GoodIn wsX10_dot (wsV RX10 84 RX10 yX10_can wsX10_can) := goodIn_app (goodIn_of _ (by decide +kernel)) ggX10_dot_X10_can
theorem dX10_dot_0 : decode cX10_dot 0 = .ok (.aload_n 0, 1) := by decide +kernel
theorem dX10_dot_1 : decode cX10_dot 1 = .ok (.iload_n 1, 1) := by decide +kernel
theorem dX10_dot_2 : decode cX10_dot 2 = .ok (.invokestatic 80, 3) := by decide +kernel
theorem dX10_dot_5 : decode cX10_dot 5 = .ok (.ifCond .eq 14, 3) := by decide +kernel
theorem dX10_dot_8 : decode cX10_dot 8 = .ok (.iload_n 2, 1) := by decide +kernel
theorem dX10_dot_9 : decode cX10_dot 9 = .ok (.invokestatic 111, 3) := by decide +kernel
theorem dX10_dot_12 : decode cX10_dot 12 = .ok (.ifCond .eq 7, 3) := by decide +kernel
theorem dX10_dot_15 : decode cX10_dot 15 = .ok (.iconst 0, 1) := by decide +kernel
theorem dX10_dot_16 : decode cX10_dot 16 = .ok (.goto 4, 3) := by decide +kernel
theorem dX10_dot_19 : decode cX10_dot 19 = .ok (.iconst 1, 1) := by decide +kernel
theorem dX10_dot_20 : decode cX10_dot 20 = .ok (.invokevirtual 84, 3) := by decide +kernel
theorem dX10_dot_23 : decode cX10_dot 23 = .ok (.ifCond .ne 5, 3) := by decide +kernel
theorem dX10_dot_26 : decode cX10_dot 26 = .ok (.iconst 0, 1) := by decide +kernel
theorem dX10_dot_27 : decode cX10_dot 27 = .ok (.ireturn, 1) := by decide +kernel
theorem dX10_dot_28 : decode cX10_dot 28 = .ok (.iconst 0, 1) := by decide +kernel
theorem dX10_dot_29 : decode cX10_dot 29 = .ok (.istore_n 3, 1) := by decide +kernel
theorem dX10_dot_30 : decode cX10_dot 30 = .ok (.iconst 0, 1) := by decide +kernel
theorem dX10_dot_31 : decode cX10_dot 31 = .ok (.istore 4, 2) := by decide +kernel
theorem dX10_dot_33 : decode cX10_dot 33 = .ok (.iload_n 1, 1) := by decide +kernel
theorem dX10_dot_34 : decode cX10_dot 34 = .ok (.iload_n 1, 1) := by decide +kernel
theorem dX10_dot_35 : decode cX10_dot 35 = .ok (.bipush 8, 2) := by decide +kernel
theorem dX10_dot_37 : decode cX10_dot 37 = .ok (.irem, 1) := by decide +kernel
theorem dX10_dot_38 : decode cX10_dot 38 = .ok (.isub, 1) := by decide +kernel
theorem dX10_dot_39 : decode cX10_dot 39 = .ok (.istore 5, 2) := by decide +kernel
theorem dX10_dot_41 : decode cX10_dot 41 = .ok (.iload 5, 2) := by decide +kernel
theorem dX10_dot_43 : decode cX10_dot 43 = .ok (.iload_n 1, 1) := by decide +kernel
theorem dX10_dot_44 : decode cX10_dot 44 = .ok (.if_icmp .gt 54, 3) := by decide +kernel
theorem dX10_dot_47 : decode cX10_dot 47 = .ok (.aload_n 0, 1) := by decide +kernel
theorem dX10_dot_48 : decode cX10_dot 48 = .ok (.getfield 29, 3) := by decide +kernel
theorem dX10_dot_51 : decode cX10_dot 51 = .ok (.iconst 4, 1) := by decide +kernel
theorem dX10_dot_52 : decode cX10_dot 52 = .ok (.iload 5, 2) := by decide +kernel
theorem dX10_dot_54 : decode cX10_dot 54 = .ok (.imul, 1) := by decide +kernel
theorem dX10_dot_55 : decode cX10_dot 55 = .ok (.iload_n 2, 1) := by decide +kernel
theorem dX10_dot_56 : decode cX10_dot 56 = .ok (.iadd, 1) := by decide +kernel
theorem dX10_dot_57 : decode cX10_dot 57 = .ok (.iaload, 1) := by decide +kernel
theorem dX10_dot_58 : decode cX10_dot 58 = .ok (.iload_n 3, 1) := by decide +kernel
theorem dX10_dot_59 : decode cX10_dot 59 = .ok (.iadd, 1) := by decide +kernel
theorem dX10_dot_60 : decode cX10_dot 60 = .ok (.istore 6, 2) := by decide +kernel
theorem dX10_dot_62 : decode cX10_dot 62 = .ok (.iload 6, 2) := by decide +kernel
theorem dX10_dot_64 : decode cX10_dot 64 = .ok (.bipush 50, 2) := by decide +kernel
theorem dX10_dot_66 : decode cX10_dot 66 = .ok (.if_icmp .lt 7, 3) := by decide +kernel
theorem dX10_dot_69 : decode cX10_dot 69 = .ok (.iconst 1, 1) := by decide +kernel
theorem dX10_dot_70 : decode cX10_dot 70 = .ok (.goto 4, 3) := by decide +kernel
theorem dX10_dot_73 : decode cX10_dot 73 = .ok (.iconst 0, 1) := by decide +kernel
theorem dX10_dot_74 : decode cX10_dot 74 = .ok (.istore 4, 2) := by decide +kernel
theorem dX10_dot_76 : decode cX10_dot 76 = .ok (.iload 4, 2) := by decide +kernel
theorem dX10_dot_78 : decode cX10_dot 78 = .ok (.ifCond .eq 11, 3) := by decide +kernel
theorem dX10_dot_81 : decode cX10_dot 81 = .ok (.iload 6, 2) := by decide +kernel
theorem dX10_dot_83 : decode cX10_dot 83 = .ok (.bipush 100, 2) := by decide +kernel
theorem dX10_dot_85 : decode cX10_dot 85 = .ok (.isub, 1) := by decide +kernel
theorem dX10_dot_86 : decode cX10_dot 86 = .ok (.goto 5, 3) := by decide +kernel
theorem dX10_dot_89 : decode cX10_dot 89 = .ok (.iload 6, 2) := by decide +kernel
theorem dX10_dot_91 : decode cX10_dot 91 = .ok (.istore_n 3, 1) := by decide +kernel
theorem dX10_dot_92 : decode cX10_dot 92 = .ok (.iinc 5 1, 3) := by decide +kernel
theorem dX10_dot_95 : decode cX10_dot 95 = .ok (.goto (-54), 3) := by decide +kernel
theorem dX10_dot_98 : decode cX10_dot 98 = .ok (.iload 4, 2) := by decide +kernel
theorem dX10_dot_100 : decode cX10_dot 100 = .ok (.ireturn, 1) := by decide +kernel
set_option maxRecDepth 20000 in
theorem ggX10_unit_X10_isInk : GoodIn wsX10_unit wsX10_isInk := goodIn_r _ [6, 7, 8, 5, 9] (by decide +kernel) (by decide +kernel)
set_option maxRecDepth 20000 in
theorem gX10_unit_X10_isInk : GoodIn wsX10_unit (va_wsS RX10 111 yX10_isInk wsX10_isInk) := goodIn_app (goodIn_of _ (by decide +kernel)) ggX10_unit_X10_isInk
set_option maxRecDepth 20000 in
theorem ggX10_unit_X10_isIn : GoodIn wsX10_unit wsX10_isIn := goodIn_r _ [9] (by decide +kernel) (by decide +kernel)
set_option maxRecDepth 20000 in
theorem gX10_unit_X10_isIn : GoodIn wsX10_unit (va_wsS RX10 76 yX10_isIn wsX10_isIn) := goodIn_app (goodIn_of _ (by decide +kernel)) ggX10_unit_X10_isIn
set_option maxRecDepth 20000 in
theorem ggX10_unit_X10_can : GoodIn wsX10_unit wsX10_can := goodIn_r _ [13, 14, 21, 22, 23, 24, 25, 26, 27, 28, 29, 30, 31, 32, 33, 34, 35, 36, 37, 38, 39, 40, 41, 42, 43, 44, 45, 46, 47, 48, 49, 50, 51, 52, 53, 54, 55] (by decide +kernel) (by decide +kernel)
set_option maxRecDepth 20000 in
theorem gX10_unit_X10_can : GoodIn wsX10_unit (wsV RX10 84 RX10 yX10_can wsX10_can) := goodIn_app (goodIn_of _ (by decide +kernel)) ggX10_unit_X10_can
set_option maxRecDepth 20000 in
theorem ggX10_unit_X10_density : GoodIn wsX10_unit wsX10_density := goodIn_r _ [18, 19, 20, 21, 22, 23, 24, 25, 26, 27, 28, 29, 30, 31, 32, 33, 34, 35, 36, 37, 38, 39, 40, 41, 42, 43, 44, 45, 46, 47, 48, 49, 50, 51, 52, 53, 54, 55] (by decide +kernel) (by decide +kernel)
set_option maxRecDepth 20000 in
theorem gX10_unit_X10_density : GoodIn wsX10_unit (wsV RX10 172 RX10 yX10_density wsX10_density) := goodIn_app (goodIn_of _ (by decide +kernel)) ggX10_unit_X10_density
theorem dX10_unit_0 : decode cX10_unit 0 = .ok (.aload_n 0, 1) := by decide +kernel
theorem dX10_unit_1 : decode cX10_unit 1 = .ok (.iload_n 1, 1) := by decide +kernel
theorem dX10_unit_2 : decode cX10_unit 2 = .ok (.invokestatic 111, 3) := by decide +kernel
theorem dX10_unit_5 : decode cX10_unit 5 = .ok (.ifCond .ne 7, 3) := by decide +kernel
theorem dX10_unit_8 : decode cX10_unit 8 = .ok (.iconst 1, 1) := by decide +kernel
theorem dX10_unit_9 : decode cX10_unit 9 = .ok (.goto 18, 3) := by decide +kernel
theorem dX10_unit_12 : decode cX10_unit 12 = .ok (.iload_n 2, 1) := by decide +kernel
theorem dX10_unit_13 : decode cX10_unit 13 = .ok (.iconst 0, 1) := by decide +kernel
theorem dX10_unit_14 : decode cX10_unit 14 = .ok (.bipush 9, 2) := by decide +kernel
theorem dX10_unit_16 : decode cX10_unit 16 = .ok (.invokestatic 76, 3) := by decide +kernel
theorem dX10_unit_19 : decode cX10_unit 19 = .ok (.ifCond .eq 7, 3) := by decide +kernel
theorem dX10_unit_22 : decode cX10_unit 22 = .ok (.iconst 0, 1) := by decide +kernel
theorem dX10_unit_23 : decode cX10_unit 23 = .ok (.goto 4, 3) := by decide +kernel
theorem dX10_unit_26 : decode cX10_unit 26 = .ok (.iconst 2, 1) := by decide +kernel
theorem dX10_unit_27 : decode cX10_unit 27 = .ok (.invokevirtual 84, 3) := by decide +kernel
theorem dX10_unit_30 : decode cX10_unit 30 = .ok (.ifCond .ne 5, 3) := by decide +kernel
theorem dX10_unit_33 : decode cX10_unit 33 = .ok (.iconst 0, 1) := by decide +kernel
theorem dX10_unit_34 : decode cX10_unit 34 = .ok (.ireturn, 1) := by decide +kernel
theorem dX10_unit_35 : decode cX10_unit 35 = .ok (.iload_n 2, 1) := by decide +kernel
theorem dX10_unit_36 : decode cX10_unit 36 = .ok (.ifCond .ne 12, 3) := by decide +kernel
theorem dX10_unit_39 : decode cX10_unit 39 = .ok (.aload_n 0, 1) := by decide +kernel
theorem dX10_unit_40 : decode cX10_unit 40 = .ok (.getfield 32, 3) := by decide +kernel
theorem dX10_unit_43 : decode cX10_unit 43 = .ok (.iload_n 1, 1) := by decide +kernel
theorem dX10_unit_44 : decode cX10_unit 44 = .ok (.iaload, 1) := by decide +kernel
theorem dX10_unit_45 : decode cX10_unit 45 = .ok (.goto 25, 3) := by decide +kernel
theorem dX10_unit_48 : decode cX10_unit 48 = .ok (.iload_n 2, 1) := by decide +kernel
theorem dX10_unit_49 : decode cX10_unit 49 = .ok (.iconst 1, 1) := by decide +kernel
theorem dX10_unit_50 : decode cX10_unit 50 = .ok (.if_icmp .ne 12, 3) := by decide +kernel
theorem dX10_unit_53 : decode cX10_unit 53 = .ok (.aload_n 0, 1) := by decide +kernel
theorem dX10_unit_54 : decode cX10_unit 54 = .ok (.getfield 35, 3) := by decide +kernel
theorem dX10_unit_57 : decode cX10_unit 57 = .ok (.iload_n 1, 1) := by decide +kernel
theorem dX10_unit_58 : decode cX10_unit 58 = .ok (.iaload, 1) := by decide +kernel
theorem dX10_unit_59 : decode cX10_unit 59 = .ok (.goto 11, 3) := by decide +kernel
theorem dX10_unit_62 : decode cX10_unit 62 = .ok (.aload_n 0, 1) := by decide +kernel
theorem dX10_unit_63 : decode cX10_unit 63 = .ok (.iload_n 1, 1) := by decide +kernel
theorem dX10_unit_64 : decode cX10_unit 64 = .ok (.iload_n 2, 1) := by decide +kernel
theorem dX10_unit_65 : decode cX10_unit 65 = .ok (.iconst 2, 1) := by decide +kernel
theorem dX10_unit_66 : decode cX10_unit 66 = .ok (.isub, 1) := by decide +kernel
theorem dX10_unit_67 : decode cX10_unit 67 = .ok (.invokevirtual 172, 3) := by decide +kernel
theorem dX10_unit_70 : decode cX10_unit 70 = .ok (.ireturn, 1) := by decide +kernel
set_option maxRecDepth 20000 in
theorem ggX10_copy_X10_isIn : GoodIn wsX10_copy wsX10_isIn := goodIn_r _ [7] (by decide +kernel) (by decide +kernel)
set_option maxRecDepth 20000 in
theorem gX10_copy_X10_isIn : GoodIn wsX10_copy (va_wsS RX10 76 yX10_isIn wsX10_isIn) := goodIn_app (goodIn_of _ (by decide +kernel)) ggX10_copy_X10_isIn
set_option maxRecDepth 20000 in
theorem ggX10_copy_X10_can : GoodIn wsX10_copy wsX10_can := goodIn_r _ [11, 12, 13, 14, 15, 16, 17, 18, 19, 20, 21, 22, 23, 24, 25, 26, 27, 28, 29, 30, 31, 32, 33, 34, 35, 36, 37, 38, 39, 40, 41, 42, 43, 44, 45, 46, 47] (by decide +kernel) (by decide +kernel)
set_option maxRecDepth 20000 in
theorem gX10_copy_X10_can : GoodIn wsX10_copy (wsV RX10 84 RX10 yX10_can wsX10_can) := goodIn_app (goodIn_of _ (by decide +kernel)) ggX10_copy_X10_can
theorem dX10_copy_0 : decode cX10_copy 0 = .ok (.aload_n 0, 1) := by decide +kernel
theorem dX10_copy_1 : decode cX10_copy 1 = .ok (.iload_n 1, 1) := by decide +kernel
theorem dX10_copy_2 : decode cX10_copy 2 = .ok (.iconst 0, 1) := by decide +kernel
theorem dX10_copy_3 : decode cX10_copy 3 = .ok (.aload_n 0, 1) := by decide +kernel
theorem dX10_copy_4 : decode cX10_copy 4 = .ok (.getfield 163, 3) := by decide +kernel
theorem dX10_copy_7 : decode cX10_copy 7 = .ok (.iconst 1, 1) := by decide +kernel
theorem dX10_copy_8 : decode cX10_copy 8 = .ok (.isub, 1) := by decide +kernel
theorem dX10_copy_9 : decode cX10_copy 9 = .ok (.invokestatic 76, 3) := by decide +kernel
theorem dX10_copy_12 : decode cX10_copy 12 = .ok (.ifCond .ne 7, 3) := by decide +kernel
theorem dX10_copy_15 : decode cX10_copy 15 = .ok (.iconst 1, 1) := by decide +kernel
theorem dX10_copy_16 : decode cX10_copy 16 = .ok (.goto 17, 3) := by decide +kernel
theorem dX10_copy_19 : decode cX10_copy 19 = .ok (.iload_n 2, 1) := by decide +kernel
theorem dX10_copy_20 : decode cX10_copy 20 = .ok (.iconst 0, 1) := by decide +kernel
theorem dX10_copy_21 : decode cX10_copy 21 = .ok (.iconst 1, 1) := by decide +kernel
theorem dX10_copy_22 : decode cX10_copy 22 = .ok (.invokestatic 76, 3) := by decide +kernel
theorem dX10_copy_25 : decode cX10_copy 25 = .ok (.ifCond .eq 7, 3) := by decide +kernel
theorem dX10_copy_28 : decode cX10_copy 28 = .ok (.iconst 0, 1) := by decide +kernel
theorem dX10_copy_29 : decode cX10_copy 29 = .ok (.goto 4, 3) := by decide +kernel
theorem dX10_copy_32 : decode cX10_copy 32 = .ok (.iconst 2, 1) := by decide +kernel
theorem dX10_copy_33 : decode cX10_copy 33 = .ok (.invokevirtual 84, 3) := by decide +kernel
theorem dX10_copy_36 : decode cX10_copy 36 = .ok (.ifCond .ne 5, 3) := by decide +kernel
theorem dX10_copy_39 : decode cX10_copy 39 = .ok (.iconst 0, 1) := by decide +kernel
theorem dX10_copy_40 : decode cX10_copy 40 = .ok (.ireturn, 1) := by decide +kernel
theorem dX10_copy_41 : decode cX10_copy 41 = .ok (.iload_n 2, 1) := by decide +kernel
theorem dX10_copy_42 : decode cX10_copy 42 = .ok (.iconst 1, 1) := by decide +kernel
theorem dX10_copy_43 : decode cX10_copy 43 = .ok (.if_icmp .ne 12, 3) := by decide +kernel
theorem dX10_copy_46 : decode cX10_copy 46 = .ok (.aload_n 0, 1) := by decide +kernel
theorem dX10_copy_47 : decode cX10_copy 47 = .ok (.getfield 63, 3) := by decide +kernel
theorem dX10_copy_50 : decode cX10_copy 50 = .ok (.iload_n 1, 1) := by decide +kernel
theorem dX10_copy_51 : decode cX10_copy 51 = .ok (.iaload, 1) := by decide +kernel
theorem dX10_copy_52 : decode cX10_copy 52 = .ok (.goto 17, 3) := by decide +kernel
theorem dX10_copy_55 : decode cX10_copy 55 = .ok (.aload_n 0, 1) := by decide +kernel
theorem dX10_copy_56 : decode cX10_copy 56 = .ok (.getfield 59, 3) := by decide +kernel
theorem dX10_copy_59 : decode cX10_copy 59 = .ok (.iload_n 1, 1) := by decide +kernel
theorem dX10_copy_60 : decode cX10_copy 60 = .ok (.baload, 1) := by decide +kernel
theorem dX10_copy_61 : decode cX10_copy 61 = .ok (.ifCond .eq 7, 3) := by decide +kernel
theorem dX10_copy_64 : decode cX10_copy 64 = .ok (.iconst 1, 1) := by decide +kernel
theorem dX10_copy_65 : decode cX10_copy 65 = .ok (.goto 4, 3) := by decide +kernel
theorem dX10_copy_68 : decode cX10_copy 68 = .ok (.iconst 0, 1) := by decide +kernel
theorem dX10_copy_69 : decode cX10_copy 69 = .ok (.ireturn, 1) := by decide +kernel
theorem dX10_next_0 : decode cX10_next 0 = .ok (.aload_n 0, 1) := by decide +kernel
theorem dX10_next_1 : decode cX10_next 1 = .ok (.iconst 0, 1) := by decide +kernel
theorem dX10_next_2 : decode cX10_next 2 = .ok (.putfield 72, 3) := by decide +kernel
theorem dX10_next_5 : decode cX10_next 5 = .ok (.aload_n 0, 1) := by decide +kernel
theorem dX10_next_6 : decode cX10_next 6 = .ok (.getfield 160, 3) := by decide +kernel
theorem dX10_next_9 : decode cX10_next 9 = .ok (.ifCond .le 15, 3) := by decide +kernel
theorem dX10_next_12 : decode cX10_next 12 = .ok (.aload_n 0, 1) := by decide +kernel
theorem dX10_next_13 : decode cX10_next 13 = .ok (.getfield 66, 3) := by decide +kernel
theorem dX10_next_16 : decode cX10_next 16 = .ok (.aload_n 0, 1) := by decide +kernel
theorem dX10_next_17 : decode cX10_next 17 = .ok (.getfield 166, 3) := by decide +kernel
theorem dX10_next_20 : decode cX10_next 20 = .ok (.iaload, 1) := by decide +kernel
theorem dX10_next_21 : decode cX10_next 21 = .ok (.goto 4, 3) := by decide +kernel
theorem dX10_next_24 : decode cX10_next 24 = .ok (.iconst (-1), 1) := by decide +kernel
theorem dX10_next_25 : decode cX10_next 25 = .ok (.ireturn, 1) := by decide +kernel
set_option maxRecDepth 20000 in
theorem ggX10_all_X10_isIn : GoodIn wsX10_all wsX10_isIn := goodIn_r _ [10] (by decide +kernel) (by decide +kernel)
set_option maxRecDepth 20000 in
theorem gX10_all_X10_isIn : GoodIn wsX10_all (va_wsS RX10 76 yX10_isIn wsX10_isIn) := goodIn_app (goodIn_of _ (by decide +kernel)) ggX10_all_X10_isIn
set_option maxRecDepth 20000 in
theorem ggX10_all_X10_can : GoodIn wsX10_all wsX10_can := goodIn_r _ [14, 15, 16, 17, 18, 19, 20, 21, 22, 23, 24, 25, 26, 27, 28, 29, 30, 31, 32, 33, 34, 35, 36, 37, 38, 39, 40, 41, 42, 43, 44, 45, 46, 47, 48, 49, 50] (by decide +kernel) (by decide +kernel)
set_option maxRecDepth 20000 in
theorem gX10_all_X10_can : GoodIn wsX10_all (wsV RX10 84 RX10 yX10_can wsX10_can) := goodIn_app (goodIn_of _ (by decide +kernel)) ggX10_all_X10_can
theorem dX10_all_0 : decode cX10_all 0 = .ok (.aload_n 0, 1) := by decide +kernel
theorem dX10_all_1 : decode cX10_all 1 = .ok (.iload_n 1, 1) := by decide +kernel
theorem dX10_all_2 : decode cX10_all 2 = .ok (.iconst 0, 1) := by decide +kernel
theorem dX10_all_3 : decode cX10_all 3 = .ok (.bipush 6, 2) := by decide +kernel
theorem dX10_all_5 : decode cX10_all 5 = .ok (.invokestatic 76, 3) := by decide +kernel
theorem dX10_all_8 : decode cX10_all 8 = .ok (.ifCond .eq 7, 3) := by decide +kernel
theorem dX10_all_11 : decode cX10_all 11 = .ok (.iconst 0, 1) := by decide +kernel
theorem dX10_all_12 : decode cX10_all 12 = .ok (.goto 4, 3) := by decide +kernel
theorem dX10_all_15 : decode cX10_all 15 = .ok (.iconst 1, 1) := by decide +kernel
theorem dX10_all_16 : decode cX10_all 16 = .ok (.invokevirtual 84, 3) := by decide +kernel
theorem dX10_all_19 : decode cX10_all 19 = .ok (.ifCond .ne 5, 3) := by decide +kernel
theorem dX10_all_22 : decode cX10_all 22 = .ok (.iconst 0, 1) := by decide +kernel
theorem dX10_all_23 : decode cX10_all 23 = .ok (.ireturn, 1) := by decide +kernel
theorem dX10_all_24 : decode cX10_all 24 = .ok (.iload_n 1, 1) := by decide +kernel
theorem dX10_all_25 : decode cX10_all 25 = .ok (.tableswitch 74 0 5 #[39, 44, 49, 59, 64, 69], 39) := by decide +kernel
theorem dX10_all_64 : decode cX10_all 64 = .ok (.aload_n 0, 1) := by decide +kernel
theorem dX10_all_65 : decode cX10_all 65 = .ok (.getfield 154, 3) := by decide +kernel
theorem dX10_all_68 : decode cX10_all 68 = .ok (.ireturn, 1) := by decide +kernel
theorem dX10_all_69 : decode cX10_all 69 = .ok (.aload_n 0, 1) := by decide +kernel
theorem dX10_all_70 : decode cX10_all 70 = .ok (.getfield 190, 3) := by decide +kernel
theorem dX10_all_73 : decode cX10_all 73 = .ok (.ireturn, 1) := by decide +kernel
theorem dX10_all_74 : decode cX10_all 74 = .ok (.aload_n 0, 1) := by decide +kernel
theorem dX10_all_75 : decode cX10_all 75 = .ok (.getfield 154, 3) := by decide +kernel
theorem dX10_all_78 : decode cX10_all 78 = .ok (.aload_n 0, 1) := by decide +kernel
theorem dX10_all_79 : decode cX10_all 79 = .ok (.getfield 190, 3) := by decide +kernel
theorem dX10_all_82 : decode cX10_all 82 = .ok (.isub, 1) := by decide +kernel
theorem dX10_all_83 : decode cX10_all 83 = .ok (.ireturn, 1) := by decide +kernel
theorem dX10_all_84 : decode cX10_all 84 = .ok (.aload_n 0, 1) := by decide +kernel
theorem dX10_all_85 : decode cX10_all 85 = .ok (.getfield 181, 3) := by decide +kernel
theorem dX10_all_88 : decode cX10_all 88 = .ok (.ireturn, 1) := by decide +kernel
theorem dX10_all_89 : decode cX10_all 89 = .ok (.aload_n 0, 1) := by decide +kernel
theorem dX10_all_90 : decode cX10_all 90 = .ok (.getfield 184, 3) := by decide +kernel
theorem dX10_all_93 : decode cX10_all 93 = .ok (.ireturn, 1) := by decide +kernel
theorem dX10_all_94 : decode cX10_all 94 = .ok (.aload_n 0, 1) := by decide +kernel
theorem dX10_all_95 : decode cX10_all 95 = .ok (.getfield 160, 3) := by decide +kernel
theorem dX10_all_98 : decode cX10_all 98 = .ok (.ireturn, 1) := by decide +kernel
theorem dX10_all_99 : decode cX10_all 99 = .ok (.aload_n 0, 1) := by decide +kernel
theorem dX10_all_100 : decode cX10_all 100 = .ok (.getfield 151, 3) := by decide +kernel
theorem dX10_all_103 : decode cX10_all 103 = .ok (.ireturn, 1) := by decide +kernel
theorem dJ9_abs_0f7a4_0 : decode cJ9_abs_0f7a4 0 = .ok (.iload_n 0, 1) := by decide +kernel
theorem dJ9_abs_0f7a4_1 : decode cJ9_abs_0f7a4 1 = .ok (.ifCond .ge 8, 3) := by decide +kernel
theorem dJ9_abs_0f7a4_4 : decode cJ9_abs_0f7a4 4 = .ok (.iload_n 0, 1) := by decide +kernel
theorem dJ9_abs_0f7a4_5 : decode cJ9_abs_0f7a4 5 = .ok (.ineg, 1) := by decide +kernel
theorem dJ9_abs_0f7a4_6 : decode cJ9_abs_0f7a4 6 = .ok (.goto 4, 3) := by decide +kernel
theorem dJ9_abs_0f7a4_9 : decode cJ9_abs_0f7a4 9 = .ok (.iload_n 0, 1) := by decide +kernel
theorem dJ9_abs_0f7a4_10 : decode cJ9_abs_0f7a4 10 = .ok (.ireturn, 1) := by decide +kernel
theorem dJ9_max_7cf53_0 : decode cJ9_max_7cf53 0 = .ok (.iload_n 0, 1) := by decide +kernel
theorem dJ9_max_7cf53_1 : decode cJ9_max_7cf53 1 = .ok (.iload_n 1, 1) := by decide +kernel
theorem dJ9_max_7cf53_2 : decode cJ9_max_7cf53 2 = .ok (.if_icmp .lt 7, 3) := by decide +kernel
theorem dJ9_max_7cf53_5 : decode cJ9_max_7cf53 5 = .ok (.iload_n 0, 1) := by decide +kernel
theorem dJ9_max_7cf53_6 : decode cJ9_max_7cf53 6 = .ok (.goto 4, 3) := by decide +kernel
theorem dJ9_max_7cf53_9 : decode cJ9_max_7cf53 9 = .ok (.iload_n 1, 1) := by decide +kernel
theorem dJ9_max_7cf53_10 : decode cJ9_max_7cf53 10 = .ok (.ireturn, 1) := by decide +kernel
theorem dJ9_min_7cf53_0 : decode cJ9_min_7cf53 0 = .ok (.iload_n 0, 1) := by decide +kernel
theorem dJ9_min_7cf53_1 : decode cJ9_min_7cf53 1 = .ok (.iload_n 1, 1) := by decide +kernel
theorem dJ9_min_7cf53_2 : decode cJ9_min_7cf53 2 = .ok (.if_icmp .gt 7, 3) := by decide +kernel
theorem dJ9_min_7cf53_5 : decode cJ9_min_7cf53 5 = .ok (.iload_n 0, 1) := by decide +kernel
theorem dJ9_min_7cf53_6 : decode cJ9_min_7cf53 6 = .ok (.goto 4, 3) := by decide +kernel
theorem dJ9_min_7cf53_9 : decode cJ9_min_7cf53 9 = .ok (.iload_n 1, 1) := by decide +kernel
theorem dJ9_min_7cf53_10 : decode cJ9_min_7cf53 10 = .ok (.ireturn, 1) := by decide +kernel
set_option maxRecDepth 20000 in
theorem ggJ0_length_8abf5_J0_coder_7d493 : GoodIn wsJ0_length_8abf5 wsJ0_coder_7d493 := goodIn_r _ [6, 7, 8] (by decide +kernel) (by decide +kernel)
set_option maxRecDepth 20000 in
theorem gJ0_length_8abf5_J0_coder_7d493 : GoodIn wsJ0_length_8abf5 (wsV RJ0 335 RJ0 yJ0_coder_7d493 wsJ0_coder_7d493) := goodIn_app (goodIn_of _ (by decide +kernel)) ggJ0_length_8abf5_J0_coder_7d493
theorem dJ0_length_8abf5_0 : decode cJ0_length_8abf5 0 = .ok (.aload_n 0, 1) := by decide +kernel
theorem dJ0_length_8abf5_1 : decode cJ0_length_8abf5 1 = .ok (.getfield 9, 3) := by decide +kernel
theorem dJ0_length_8abf5_4 : decode cJ0_length_8abf5 4 = .ok (.arraylength, 1) := by decide +kernel
theorem dJ0_length_8abf5_5 : decode cJ0_length_8abf5 5 = .ok (.aload_n 0, 1) := by decide +kernel
theorem dJ0_length_8abf5_6 : decode cJ0_length_8abf5 6 = .ok (.invokevirtual 335, 3) := by decide +kernel
theorem dJ0_length_8abf5_9 : decode cJ0_length_8abf5 9 = .ok (.ishr, 1) := by decide +kernel
theorem dJ0_length_8abf5_10 : decode cJ0_length_8abf5 10 = .ok (.ireturn, 1) := by decide +kernel
set_option maxRecDepth 20000 in
theorem ggJ0_charAt_5068e_J0_isLatin1_aae02 : GoodIn wsJ0_charAt_5068e wsJ0_isLatin1_aae02 := goodIn_r _ [6, 7, 8] (by decide +kernel) (by decide +kernel)
set_option maxRecDepth 20000 in
theorem gJ0_charAt_5068e_J0_isLatin1_aae02 : GoodIn wsJ0_charAt_5068e (wsV RJ0 492 RJ0 yJ0_isLatin1_aae02 wsJ0_isLatin1_aae02) := goodIn_app (goodIn_of _ (by decide +kernel)) ggJ0_charAt_5068e_J0_isLatin1_aae02
set_option maxRecDepth 20000 in
theorem ggJ0_charAt_5068e_J1_charAt_3b067 : GoodIn wsJ0_charAt_5068e wsJ1_charAt_3b067 := goodIn_r _ [12, 13, 14, 5, 15, 16, 17, 18, 19, 20] (by decide +kernel) (by decide +kernel)
set_option maxRecDepth 20000 in
theorem gJ0_charAt_5068e_J1_charAt_3b067 : GoodIn wsJ0_charAt_5068e (va_wsS RJ0 495 yJ1_charAt_3b067 wsJ1_charAt_3b067) := goodIn_app (goodIn_of _ (by decide +kernel)) ggJ0_charAt_5068e_J1_charAt_3b067
set_option maxRecDepth 20000 in
theorem ggJ0_charAt_5068e_J2_charAt_3b067 : GoodIn wsJ0_charAt_5068e wsJ2_charAt_3b067 := goodIn_r _ [24, 25, 26, 23, 27, 28, 29, 30, 31, 14, 5, 15, 16, 17, 18, 19, 20, 32, 33, 34, 35, 36, 37] (by decide +kernel) (by decide +kernel)
set_option maxRecDepth 20000 in
theorem gJ0_charAt_5068e_J2_charAt_3b067 : GoodIn wsJ0_charAt_5068e (va_wsS RJ0 498 yJ2_charAt_3b067 wsJ2_charAt_3b067) := goodIn_app (goodIn_of _ (by decide +kernel)) ggJ0_charAt_5068e_J2_charAt_3b067
theorem dJ0_charAt_5068e_0 : decode cJ0_charAt_5068e 0 = .ok (.aload_n 0, 1) := by decide +kernel
theorem dJ0_charAt_5068e_1 : decode cJ0_charAt_5068e 1 = .ok (.invokevirtual 492, 3) := by decide +kernel
theorem dJ0_charAt_5068e_4 : decode cJ0_charAt_5068e 4 = .ok (.ifCond .eq 12, 3) := by decide +kernel
theorem dJ0_charAt_5068e_7 : decode cJ0_charAt_5068e 7 = .ok (.aload_n 0, 1) := by decide +kernel
theorem dJ0_charAt_5068e_8 : decode cJ0_charAt_5068e 8 = .ok (.getfield 9, 3) := by decide +kernel
theorem dJ0_charAt_5068e_11 : decode cJ0_charAt_5068e 11 = .ok (.iload_n 1, 1) := by decide +kernel
theorem dJ0_charAt_5068e_12 : decode cJ0_charAt_5068e 12 = .ok (.invokestatic 495, 3) := by decide +kernel
theorem dJ0_charAt_5068e_15 : decode cJ0_charAt_5068e 15 = .ok (.ireturn, 1) := by decide +kernel
theorem dJ0_charAt_5068e_16 : decode cJ0_charAt_5068e 16 = .ok (.aload_n 0, 1) := by decide +kernel
theorem dJ0_charAt_5068e_17 : decode cJ0_charAt_5068e 17 = .ok (.getfield 9, 3) := by decide +kernel
theorem dJ0_charAt_5068e_20 : decode cJ0_charAt_5068e 20 = .ok (.iload_n 1, 1) := by decide +kernel
theorem dJ0_charAt_5068e_21 : decode cJ0_charAt_5068e 21 = .ok (.invokestatic 498, 3) := by decide +kernel
theorem dJ0_charAt_5068e_24 : decode cJ0_charAt_5068e 24 = .ok (.ireturn, 1) := by decide +kernel
theorem dJ0_coder_7d493_0 : decode cJ0_coder_7d493 0 = .ok (.getstatic 38, 3) := by decide +kernel
theorem dJ0_coder_7d493_3 : decode cJ0_coder_7d493 3 = .ok (.ifCond .eq 10, 3) := by decide +kernel
theorem dJ0_coder_7d493_6 : decode cJ0_coder_7d493 6 = .ok (.aload_n 0, 1) := by decide +kernel
theorem dJ0_coder_7d493_7 : decode cJ0_coder_7d493 7 = .ok (.getfield 15, 3) := by decide +kernel
theorem dJ0_coder_7d493_10 : decode cJ0_coder_7d493 10 = .ok (.goto 4, 3) := by decide +kernel
theorem dJ0_coder_7d493_13 : decode cJ0_coder_7d493 13 = .ok (.iconst 1, 1) := by decide +kernel
theorem dJ0_coder_7d493_14 : decode cJ0_coder_7d493 14 = .ok (.ireturn, 1) := by decide +kernel
theorem dJ0_isLatin1_aae02_0 : decode cJ0_isLatin1_aae02 0 = .ok (.getstatic 38, 3) := by decide +kernel
theorem dJ0_isLatin1_aae02_3 : decode cJ0_isLatin1_aae02 3 = .ok (.ifCond .eq 14, 3) := by decide +kernel
theorem dJ0_isLatin1_aae02_6 : decode cJ0_isLatin1_aae02 6 = .ok (.aload_n 0, 1) := by decide +kernel
theorem dJ0_isLatin1_aae02_7 : decode cJ0_isLatin1_aae02 7 = .ok (.getfield 15, 3) := by decide +kernel
theorem dJ0_isLatin1_aae02_10 : decode cJ0_isLatin1_aae02 10 = .ok (.ifCond .ne 7, 3) := by decide +kernel
theorem dJ0_isLatin1_aae02_13 : decode cJ0_isLatin1_aae02 13 = .ok (.iconst 1, 1) := by decide +kernel
theorem dJ0_isLatin1_aae02_14 : decode cJ0_isLatin1_aae02 14 = .ok (.goto 4, 3) := by decide +kernel
theorem dJ0_isLatin1_aae02_17 : decode cJ0_isLatin1_aae02 17 = .ok (.iconst 0, 1) := by decide +kernel
theorem dJ0_isLatin1_aae02_18 : decode cJ0_isLatin1_aae02 18 = .ok (.ireturn, 1) := by decide +kernel
set_option maxRecDepth 20000 in
theorem ggJ0_checkIndex_df160_J3_checkIndex_8e157 : GoodIn wsJ0_checkIndex_df160 wsJ3_checkIndex_8e157 := goodIn_r _ [5] (by decide +kernel) (by decide +kernel)
set_option maxRecDepth 20000 in
theorem gJ0_checkIndex_df160_J3_checkIndex_8e157 : GoodIn wsJ0_checkIndex_df160 (va_wsS RJ0 1059 yJ3_checkIndex_8e157 wsJ3_checkIndex_8e157) := goodIn_app (goodIn_of _ (by decide +kernel)) ggJ0_checkIndex_df160_J3_checkIndex_8e157
theorem dJ0_checkIndex_df160_0 : decode cJ0_checkIndex_df160 0 = .ok (.iload_n 0, 1) := by decide +kernel
theorem dJ0_checkIndex_df160_1 : decode cJ0_checkIndex_df160 1 = .ok (.iload_n 1, 1) := by decide +kernel
theorem dJ0_checkIndex_df160_2 : decode cJ0_checkIndex_df160 2 = .ok (.getstatic 1053, 3) := by decide +kernel
theorem dJ0_checkIndex_df160_5 : decode cJ0_checkIndex_df160 5 = .ok (.invokestatic 1059, 3) := by decide +kernel
theorem dJ0_checkIndex_df160_8 : decode cJ0_checkIndex_df160 8 = .ok (.pop, 1) := by decide +kernel
theorem dJ0_checkIndex_df160_9 : decode cJ0_checkIndex_df160 9 = .ok (.return_, 1) := by decide +kernel
set_option maxRecDepth 20000 in
theorem ggJ1_charAt_3b067_J0_checkIndex_df160 : GoodIn wsJ1_charAt_3b067 wsJ0_checkIndex_df160 := goodIn_r _ [4, 5, 6, 7, 8, 9] (by decide +kernel) (by decide +kernel)
set_option maxRecDepth 20000 in
theorem gJ1_charAt_3b067_J0_checkIndex_df160 : GoodIn wsJ1_charAt_3b067 (va_wsS RJ1 9 yJ0_checkIndex_df160 wsJ0_checkIndex_df160) := goodIn_app (goodIn_of _ (by decide +kernel)) ggJ1_charAt_3b067_J0_checkIndex_df160
theorem dJ1_charAt_3b067_0 : decode cJ1_charAt_3b067 0 = .ok (.iload_n 1, 1) := by decide +kernel
theorem dJ1_charAt_3b067_1 : decode cJ1_charAt_3b067 1 = .ok (.aload_n 0, 1) := by decide +kernel
theorem dJ1_charAt_3b067_2 : decode cJ1_charAt_3b067 2 = .ok (.arraylength, 1) := by decide +kernel
theorem dJ1_charAt_3b067_3 : decode cJ1_charAt_3b067 3 = .ok (.invokestatic 9, 3) := by decide +kernel
theorem dJ1_charAt_3b067_6 : decode cJ1_charAt_3b067 6 = .ok (.aload_n 0, 1) := by decide +kernel
theorem dJ1_charAt_3b067_7 : decode cJ1_charAt_3b067 7 = .ok (.iload_n 1, 1) := by decide +kernel
theorem dJ1_charAt_3b067_8 : decode cJ1_charAt_3b067 8 = .ok (.baload, 1) := by decide +kernel
theorem dJ1_charAt_3b067_9 : decode cJ1_charAt_3b067 9 = .ok (.sipush 255, 3) := by decide +kernel
theorem dJ1_charAt_3b067_12 : decode cJ1_charAt_3b067 12 = .ok (.iand, 1) := by decide +kernel
theorem dJ1_charAt_3b067_13 : decode cJ1_charAt_3b067 13 = .ok (.i2c, 1) := by decide +kernel
theorem dJ1_charAt_3b067_14 : decode cJ1_charAt_3b067 14 = .ok (.ireturn, 1) := by decide +kernel
set_option maxRecDepth 20000 in
theorem ggJ2_getChar_3b067_J2_length_9d52b : GoodIn wsJ2_getChar_3b067 wsJ2_length_9d52b := goodIn_r _ [7] (by decide +kernel) (by decide +kernel)
set_option maxRecDepth 20000 in
theorem gJ2_getChar_3b067_J2_length_9d52b : GoodIn wsJ2_getChar_3b067 (va_wsS RJ2 48 yJ2_length_9d52b wsJ2_length_9d52b) := goodIn_app (goodIn_of _ (by decide +kernel)) ggJ2_getChar_3b067_J2_length_9d52b
theorem dJ2_getChar_3b067_0 : decode cJ2_getChar_3b067 0 = .ok (.getstatic 44, 3) := by decide +kernel
theorem dJ2_getChar_3b067_3 : decode cJ2_getChar_3b067 3 = .ok (.ifCond .ne 25, 3) := by decide +kernel
theorem dJ2_getChar_3b067_6 : decode cJ2_getChar_3b067 6 = .ok (.iload_n 1, 1) := by decide +kernel
theorem dJ2_getChar_3b067_7 : decode cJ2_getChar_3b067 7 = .ok (.ifCond .lt 11, 3) := by decide +kernel
theorem dJ2_getChar_3b067_10 : decode cJ2_getChar_3b067 10 = .ok (.iload_n 1, 1) := by decide +kernel
theorem dJ2_getChar_3b067_11 : decode cJ2_getChar_3b067 11 = .ok (.aload_n 0, 1) := by decide +kernel
theorem dJ2_getChar_3b067_12 : decode cJ2_getChar_3b067 12 = .ok (.invokestatic 48, 3) := by decide +kernel
theorem dJ2_getChar_3b067_15 : decode cJ2_getChar_3b067 15 = .ok (.if_icmp .lt 13, 3) := by decide +kernel
theorem dJ2_getChar_3b067_18 : decode cJ2_getChar_3b067 18 = .ok (.new 52, 3) := by decide +kernel
theorem dJ2_getChar_3b067_21 : decode cJ2_getChar_3b067 21 = .ok (.dup, 1) := by decide +kernel
theorem dJ2_getChar_3b067_22 : decode cJ2_getChar_3b067 22 = .ok (.ldc 54, 2) := by decide +kernel
theorem dJ2_getChar_3b067_24 : decode cJ2_getChar_3b067 24 = .ok (.invokespecial 56, 3) := by decide +kernel
theorem dJ2_getChar_3b067_27 : decode cJ2_getChar_3b067 27 = .ok (.athrow, 1) := by decide +kernel
theorem dJ2_getChar_3b067_28 : decode cJ2_getChar_3b067 28 = .ok (.iload_n 1, 1) := by decide +kernel
theorem dJ2_getChar_3b067_29 : decode cJ2_getChar_3b067 29 = .ok (.iconst 1, 1) := by decide +kernel
theorem dJ2_getChar_3b067_30 : decode cJ2_getChar_3b067 30 = .ok (.ishl, 1) := by decide +kernel
theorem dJ2_getChar_3b067_31 : decode cJ2_getChar_3b067 31 = .ok (.istore_n 1, 1) := by decide +kernel
theorem dJ2_getChar_3b067_32 : decode cJ2_getChar_3b067 32 = .ok (.aload_n 0, 1) := by decide +kernel
theorem dJ2_getChar_3b067_33 : decode cJ2_getChar_3b067 33 = .ok (.iload_n 1, 1) := by decide +kernel
theorem dJ2_getChar_3b067_34 : decode cJ2_getChar_3b067 34 = .ok (.iinc 1 1, 3) := by decide +kernel
theorem dJ2_getChar_3b067_37 : decode cJ2_getChar_3b067 37 = .ok (.baload, 1) := by decide +kernel
theorem dJ2_getChar_3b067_38 : decode cJ2_getChar_3b067 38 = .ok (.sipush 255, 3) := by decide +kernel
theorem dJ2_getChar_3b067_41 : decode cJ2_getChar_3b067 41 = .ok (.iand, 1) := by decide +kernel
theorem dJ2_getChar_3b067_42 : decode cJ2_getChar_3b067 42 = .ok (.getstatic 59, 3) := by decide +kernel
theorem dJ2_getChar_3b067_45 : decode cJ2_getChar_3b067 45 = .ok (.ishl, 1) := by decide +kernel
theorem dJ2_getChar_3b067_46 : decode cJ2_getChar_3b067 46 = .ok (.aload_n 0, 1) := by decide +kernel
theorem dJ2_getChar_3b067_47 : decode cJ2_getChar_3b067 47 = .ok (.iload_n 1, 1) := by decide +kernel
theorem dJ2_getChar_3b067_48 : decode cJ2_getChar_3b067 48 = .ok (.baload, 1) := by decide +kernel
theorem dJ2_getChar_3b067_49 : decode cJ2_getChar_3b067 49 = .ok (.sipush 255, 3) := by decide +kernel
theorem dJ2_getChar_3b067_52 : decode cJ2_getChar_3b067 52 = .ok (.iand, 1) := by decide +kernel
theorem dJ2_getChar_3b067_53 : decode cJ2_getChar_3b067 53 = .ok (.getstatic 63, 3) := by decide +kernel
theorem dJ2_getChar_3b067_56 : decode cJ2_getChar_3b067 56 = .ok (.ishl, 1) := by decide +kernel
theorem dJ2_getChar_3b067_57 : decode cJ2_getChar_3b067 57 = .ok (.ior, 1) := by decide +kernel
theorem dJ2_getChar_3b067_58 : decode cJ2_getChar_3b067 58 = .ok (.i2c, 1) := by decide +kernel
theorem dJ2_getChar_3b067_59 : decode cJ2_getChar_3b067 59 = .ok (.ireturn, 1) := by decide +kernel
theorem dJ2_length_9d52b_0 : decode cJ2_length_9d52b 0 = .ok (.aload_n 0, 1) := by decide +kernel
theorem dJ2_length_9d52b_1 : decode cJ2_length_9d52b 1 = .ok (.arraylength, 1) := by decide +kernel
theorem dJ2_length_9d52b_2 : decode cJ2_length_9d52b 2 = .ok (.iconst 1, 1) := by decide +kernel
theorem dJ2_length_9d52b_3 : decode cJ2_length_9d52b 3 = .ok (.ishr, 1) := by decide +kernel
theorem dJ2_length_9d52b_4 : decode cJ2_length_9d52b 4 = .ok (.ireturn, 1) := by decide +kernel
set_option maxRecDepth 20000 in
theorem ggJ2_charAt_3b067_J2_checkIndex_2214a : GoodIn wsJ2_charAt_3b067 wsJ2_checkIndex_2214a := goodIn_r _ [4, 5, 6, 3, 7, 8, 9, 10, 11, 12, 13, 14, 15, 16] (by decide +kernel) (by decide +kernel)
set_option maxRecDepth 20000 in
theorem gJ2_charAt_3b067_J2_checkIndex_2214a : GoodIn wsJ2_charAt_3b067 (va_wsS RJ2 67 yJ2_checkIndex_2214a wsJ2_checkIndex_2214a) := goodIn_app (goodIn_of _ (by decide +kernel)) ggJ2_charAt_3b067_J2_checkIndex_2214a
set_option maxRecDepth 20000 in
theorem ggJ2_charAt_3b067_J2_getChar_3b067 : GoodIn wsJ2_charAt_3b067 wsJ2_getChar_3b067 := goodIn_r _ [19, 20, 21, 22, 5, 6, 3, 7] (by decide +kernel) (by decide +kernel)
set_option maxRecDepth 20000 in
theorem gJ2_charAt_3b067_J2_getChar_3b067 : GoodIn wsJ2_charAt_3b067 (va_wsS RJ2 71 yJ2_getChar_3b067 wsJ2_getChar_3b067) := goodIn_app (goodIn_of _ (by decide +kernel)) ggJ2_charAt_3b067_J2_getChar_3b067
theorem dJ2_charAt_3b067_0 : decode cJ2_charAt_3b067 0 = .ok (.iload_n 1, 1) := by decide +kernel
theorem dJ2_charAt_3b067_1 : decode cJ2_charAt_3b067 1 = .ok (.aload_n 0, 1) := by decide +kernel
theorem dJ2_charAt_3b067_2 : decode cJ2_charAt_3b067 2 = .ok (.invokestatic 67, 3) := by decide +kernel
theorem dJ2_charAt_3b067_5 : decode cJ2_charAt_3b067 5 = .ok (.aload_n 0, 1) := by decide +kernel
theorem dJ2_charAt_3b067_6 : decode cJ2_charAt_3b067 6 = .ok (.iload_n 1, 1) := by decide +kernel
theorem dJ2_charAt_3b067_7 : decode cJ2_charAt_3b067 7 = .ok (.invokestatic 71, 3) := by decide +kernel
theorem dJ2_charAt_3b067_10 : decode cJ2_charAt_3b067 10 = .ok (.ireturn, 1) := by decide +kernel
set_option maxRecDepth 20000 in
theorem ggJ2_checkIndex_2214a_J2_length_9d52b : GoodIn wsJ2_checkIndex_2214a wsJ2_length_9d52b := goodIn_r _ [4] (by decide +kernel) (by decide +kernel)
set_option maxRecDepth 20000 in
theorem gJ2_checkIndex_2214a_J2_length_9d52b : GoodIn wsJ2_checkIndex_2214a (va_wsS RJ2 48 yJ2_length_9d52b wsJ2_length_9d52b) := goodIn_app (goodIn_of _ (by decide +kernel)) ggJ2_checkIndex_2214a_J2_length_9d52b
set_option maxRecDepth 20000 in
theorem ggJ2_checkIndex_2214a_J0_checkIndex_df160 : GoodIn wsJ2_checkIndex_2214a wsJ0_checkIndex_df160 := goodIn_r _ [8, 9, 10, 11, 12, 13] (by decide +kernel) (by decide +kernel)
set_option maxRecDepth 20000 in
theorem gJ2_checkIndex_2214a_J0_checkIndex_df160 : GoodIn wsJ2_checkIndex_2214a (va_wsS RJ2 414 yJ0_checkIndex_df160 wsJ0_checkIndex_df160) := goodIn_app (goodIn_of _ (by decide +kernel)) ggJ2_checkIndex_2214a_J0_checkIndex_df160
theorem dJ2_checkIndex_2214a_0 : decode cJ2_checkIndex_2214a 0 = .ok (.iload_n 0, 1) := by decide +kernel
theorem dJ2_checkIndex_2214a_1 : decode cJ2_checkIndex_2214a 1 = .ok (.aload_n 1, 1) := by decide +kernel
theorem dJ2_checkIndex_2214a_2 : decode cJ2_checkIndex_2214a 2 = .ok (.invokestatic 48, 3) := by decide +kernel
theorem dJ2_checkIndex_2214a_5 : decode cJ2_checkIndex_2214a 5 = .ok (.invokestatic 414, 3) := by decide +kernel
theorem dJ2_checkIndex_2214a_8 : decode cJ2_checkIndex_2214a 8 = .ok (.return_, 1) := by decide +kernel
theorem dJ3_checkIndex_8e157_0 : decode cJ3_checkIndex_8e157 0 = .ok (.iload_n 0, 1) := by decide +kernel
theorem dJ3_checkIndex_8e157_1 : decode cJ3_checkIndex_8e157 1 = .ok (.ifCond .lt 8, 3) := by decide +kernel
theorem dJ3_checkIndex_8e157_4 : decode cJ3_checkIndex_8e157 4 = .ok (.iload_n 0, 1) := by decide +kernel
theorem dJ3_checkIndex_8e157_5 : decode cJ3_checkIndex_8e157 5 = .ok (.iload_n 1, 1) := by decide +kernel
theorem dJ3_checkIndex_8e157_6 : decode cJ3_checkIndex_8e157 6 = .ok (.if_icmp .lt 10, 3) := by decide +kernel
theorem dJ3_checkIndex_8e157_9 : decode cJ3_checkIndex_8e157 9 = .ok (.aload_n 2, 1) := by decide +kernel
theorem dJ3_checkIndex_8e157_10 : decode cJ3_checkIndex_8e157 10 = .ok (.iload_n 0, 1) := by decide +kernel
theorem dJ3_checkIndex_8e157_11 : decode cJ3_checkIndex_8e157 11 = .ok (.iload_n 1, 1) := by decide +kernel
theorem dJ3_checkIndex_8e157_12 : decode cJ3_checkIndex_8e157 12 = .ok (.invokestatic 95, 3) := by decide +kernel
theorem dJ3_checkIndex_8e157_15 : decode cJ3_checkIndex_8e157 15 = .ok (.athrow, 1) := by decide +kernel
theorem dJ3_checkIndex_8e157_16 : decode cJ3_checkIndex_8e157 16 = .ok (.iload_n 0, 1) := by decide +kernel
theorem dJ3_checkIndex_8e157_17 : decode cJ3_checkIndex_8e157 17 = .ok (.ireturn, 1) := by decide +kernel
