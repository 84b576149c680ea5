theorem dX10_init_0 : decode cX10_init 0 = .ok (.aload_n 0, 1) := by decide +kernel
theorem dX10_init_1 : decode cX10_init 1 = .ok (.invokespecial 1, 3) := by decide +kernel
theorem dX10_init_4 : decode cX10_init 4 = .ok (.aload_n 0, 1) := by decide +kernel
theorem dX10_init_5 : decode cX10_init 5 = .ok (.bipush 64, 2) := by decide +kernel
theorem dX10_init_7 : decode cX10_init 7 = .ok (.newarray .int, 2) := by decide +kernel
theorem dX10_init_9 : decode cX10_init 9 = .ok (.putfield 7, 3) := by decide +kernel
theorem dX10_init_12 : decode cX10_init 12 = .ok (.aload_n 0, 1) := by decide +kernel
theorem dX10_init_13 : decode cX10_init 13 = .ok (.bipush 64, 2) := by decide +kernel
theorem dX10_init_15 : decode cX10_init 15 = .ok (.newarray .int, 2) := by decide +kernel
theorem dX10_init_17 : decode cX10_init 17 = .ok (.putfield 13, 3) := by decide +kernel
theorem dX10_init_20 : decode cX10_init 20 = .ok (.aload_n 0, 1) := by decide +kernel
theorem dX10_init_21 : decode cX10_init 21 = .ok (.bipush 64, 2) := by decide +kernel
theorem dX10_init_23 : decode cX10_init 23 = .ok (.newarray .int, 2) := by decide +kernel
theorem dX10_init_25 : decode cX10_init 25 = .ok (.putfield 16, 3) := by decide +kernel
theorem dX10_init_28 : decode cX10_init 28 = .ok (.aload_n 0, 1) := by decide +kernel
theorem dX10_init_29 : decode cX10_init 29 = .ok (.bipush 9, 2) := by decide +kernel
theorem dX10_init_31 : decode cX10_init 31 = .ok (.newarray .int, 2) := by decide +kernel
theorem dX10_init_33 : decode cX10_init 33 = .ok (.putfield 19, 3) := by decide +kernel
theorem dX10_init_36 : decode cX10_init 36 = .ok (.aload_n 0, 1) := by decide +kernel
theorem dX10_init_37 : decode cX10_init 37 = .ok (.bipush 9, 2) := by decide +kernel
theorem dX10_init_39 : decode cX10_init 39 = .ok (.newarray .int, 2) := by decide +kernel
theorem dX10_init_41 : decode cX10_init 41 = .ok (.putfield 22, 3) := by decide +kernel
theorem dX10_init_44 : decode cX10_init 44 = .ok (.aload_n 0, 1) := by decide +kernel
theorem dX10_init_45 : decode cX10_init 45 = .ok (.bipush 60, 2) := by decide +kernel
theorem dX10_init_47 : decode cX10_init 47 = .ok (.newarray .char, 2) := by decide +kernel
theorem dX10_init_49 : decode cX10_init 49 = .ok (.putfield 25, 3) := by decide +kernel
theorem dX10_init_52 : decode cX10_init 52 = .ok (.aload_n 0, 1) := by decide +kernel
theorem dX10_init_53 : decode cX10_init 53 = .ok (.sipush 256, 3) := by decide +kernel
theorem dX10_init_56 : decode cX10_init 56 = .ok (.newarray .int, 2) := by decide +kernel
theorem dX10_init_58 : decode cX10_init 58 = .ok (.putfield 29, 3) := by decide +kernel
theorem dX10_init_61 : decode cX10_init 61 = .ok (.aload_n 0, 1) := by decide +kernel
theorem dX10_init_62 : decode cX10_init 62 = .ok (.iconst 4, 1) := by decide +kernel
theorem dX10_init_63 : decode cX10_init 63 = .ok (.newarray .int, 2) := by decide +kernel
theorem dX10_init_65 : decode cX10_init 65 = .ok (.putfield 32, 3) := by decide +kernel
theorem dX10_init_68 : decode cX10_init 68 = .ok (.aload_n 0, 1) := by decide +kernel
theorem dX10_init_69 : decode cX10_init 69 = .ok (.iconst 4, 1) := by decide +kernel
theorem dX10_init_70 : decode cX10_init 70 = .ok (.newarray .int, 2) := by decide +kernel
theorem dX10_init_72 : decode cX10_init 72 = .ok (.putfield 35, 3) := by decide +kernel
theorem dX10_init_75 : decode cX10_init 75 = .ok (.aload_n 0, 1) := by decide +kernel
theorem dX10_init_76 : decode cX10_init 76 = .ok (.iconst 4, 1) := by decide +kernel
theorem dX10_init_77 : decode cX10_init 77 = .ok (.newarray .int, 2) := by decide +kernel
theorem dX10_init_79 : decode cX10_init 79 = .ok (.putfield 38, 3) := by decide +kernel
theorem dX10_init_82 : decode cX10_init 82 = .ok (.aload_n 0, 1) := by decide +kernel
theorem dX10_init_83 : decode cX10_init 83 = .ok (.iconst 4, 1) := by decide +kernel
theorem dX10_init_84 : decode cX10_init 84 = .ok (.newarray .int, 2) := by decide +kernel
theorem dX10_init_86 : decode cX10_init 86 = .ok (.putfield 41, 3) := by decide +kernel
theorem dX10_init_89 : decode cX10_init 89 = .ok (.aload_n 0, 1) := by decide +kernel
theorem dX10_init_90 : decode cX10_init 90 = .ok (.bipush 32, 2) := by decide +kernel
theorem dX10_init_92 : decode cX10_init 92 = .ok (.newarray .int, 2) := by decide +kernel
theorem dX10_init_94 : decode cX10_init 94 = .ok (.putfield 44, 3) := by decide +kernel
theorem dX10_init_97 : decode cX10_init 97 = .ok (.aload_n 0, 1) := by decide +kernel
theorem dX10_init_98 : decode cX10_init 98 = .ok (.bipush 20, 2) := by decide +kernel
theorem dX10_init_100 : decode cX10_init 100 = .ok (.newarray .int, 2) := by decide +kernel
theorem dX10_init_102 : decode cX10_init 102 = .ok (.putfield 47, 3) := by decide +kernel
theorem dX10_init_105 : decode cX10_init 105 = .ok (.aload_n 0, 1) := by decide +kernel
theorem dX10_init_106 : decode cX10_init 106 = .ok (.bipush 20, 2) := by decide +kernel
theorem dX10_init_108 : decode cX10_init 108 = .ok (.newarray .int, 2) := by decide +kernel
theorem dX10_init_110 : decode cX10_init 110 = .ok (.putfield 50, 3) := by decide +kernel
theorem dX10_init_113 : decode cX10_init 113 = .ok (.aload_n 0, 1) := by decide +kernel
theorem dX10_init_114 : decode cX10_init 114 = .ok (.bipush 20, 2) := by decide +kernel
theorem dX10_init_116 : decode cX10_init 116 = .ok (.newarray .int, 2) := by decide +kernel
theorem dX10_init_118 : decode cX10_init 118 = .ok (.putfield 53, 3) := by decide +kernel
theorem dX10_init_121 : decode cX10_init 121 = .ok (.aload_n 0, 1) := by decide +kernel
theorem dX10_init_122 : decode cX10_init 122 = .ok (.bipush 20, 2) := by decide +kernel
theorem dX10_init_124 : decode cX10_init 124 = .ok (.newarray .int, 2) := by decide +kernel
theorem dX10_init_126 : decode cX10_init 126 = .ok (.putfield 56, 3) := by decide +kernel
theorem dX10_init_129 : decode cX10_init 129 = .ok (.aload_n 0, 1) := by decide +kernel
theorem dX10_init_130 : decode cX10_init 130 = .ok (.sipush 200, 3) := by decide +kernel
theorem dX10_init_133 : decode cX10_init 133 = .ok (.newarray .boolean, 2) := by decide +kernel
theorem dX10_init_135 : decode cX10_init 135 = .ok (.putfield 59, 3) := by decide +kernel
theorem dX10_init_138 : decode cX10_init 138 = .ok (.aload_n 0, 1) := by decide +kernel
theorem dX10_init_139 : decode cX10_init 139 = .ok (.sipush 200, 3) := by decide +kernel
theorem dX10_init_142 : decode cX10_init 142 = .ok (.newarray .int, 2) := by decide +kernel
theorem dX10_init_144 : decode cX10_init 144 = .ok (.putfield 63, 3) := by decide +kernel
theorem dX10_init_147 : decode cX10_init 147 = .ok (.aload_n 0, 1) := by decide +kernel
theorem dX10_init_148 : decode cX10_init 148 = .ok (.sipush 200, 3) := by decide +kernel
theorem dX10_init_151 : decode cX10_init 151 = .ok (.newarray .int, 2) := by decide +kernel
theorem dX10_init_153 : decode cX10_init 153 = .ok (.putfield 66, 3) := by decide +kernel
theorem dX10_init_156 : decode cX10_init 156 = .ok (.aload_n 0, 1) := by decide +kernel
theorem dX10_init_157 : decode cX10_init 157 = .ok (.sipush 256, 3) := by decide +kernel
theorem dX10_init_160 : decode cX10_init 160 = .ok (.newarray .int, 2) := by decide +kernel
theorem dX10_init_162 : decode cX10_init 162 = .ok (.putfield 69, 3) := by decide +kernel
theorem dX10_init_165 : decode cX10_init 165 = .ok (.iconst 0, 1) := by decide +kernel
theorem dX10_init_166 : decode cX10_init 166 = .ok (.istore_n 1, 1) := by decide +kernel
theorem dX10_init_167 : decode cX10_init 167 = .ok (.iload_n 1, 1) := by decide +kernel
theorem dX10_init_168 : decode cX10_init 168 = .ok (.bipush 64, 2) := by decide +kernel
theorem dX10_init_170 : decode cX10_init 170 = .ok (.if_icmp .ge 33, 3) := by decide +kernel
theorem dX10_init_173 : decode cX10_init 173 = .ok (.aload_n 0, 1) := by decide +kernel
theorem dX10_init_174 : decode cX10_init 174 = .ok (.getfield 7, 3) := by decide +kernel
theorem dX10_init_177 : decode cX10_init 177 = .ok (.iload_n 1, 1) := by decide +kernel
theorem dX10_init_178 : decode cX10_init 178 = .ok (.bipush 100, 2) := by decide +kernel
theorem dX10_init_180 : decode cX10_init 180 = .ok (.iastore, 1) := by decide +kernel
theorem dX10_init_181 : decode cX10_init 181 = .ok (.aload_n 0, 1) := by decide +kernel
theorem dX10_init_182 : decode cX10_init 182 = .ok (.getfield 13, 3) := by decide +kernel
theorem dX10_init_185 : decode cX10_init 185 = .ok (.iload_n 1, 1) := by decide +kernel
theorem dX10_init_186 : decode cX10_init 186 = .ok (.bipush 100, 2) := by decide +kernel
theorem dX10_init_188 : decode cX10_init 188 = .ok (.iastore, 1) := by decide +kernel
theorem dX10_init_189 : decode cX10_init 189 = .ok (.aload_n 0, 1) := by decide +kernel
theorem dX10_init_190 : decode cX10_init 190 = .ok (.getfield 16, 3) := by decide +kernel
theorem dX10_init_193 : decode cX10_init 193 = .ok (.iload_n 1, 1) := by decide +kernel
theorem dX10_init_194 : decode cX10_init 194 = .ok (.bipush 100, 2) := by decide +kernel
theorem dX10_init_196 : decode cX10_init 196 = .ok (.iastore, 1) := by decide +kernel
theorem dX10_init_197 : decode cX10_init 197 = .ok (.iinc 1 1, 3) := by decide +kernel
theorem dX10_init_200 : decode cX10_init 200 = .ok (.goto (-33), 3) := by decide +kernel
theorem dX10_init_203 : decode cX10_init 203 = .ok (.iconst 0, 1) := by decide +kernel
theorem dX10_init_204 : decode cX10_init 204 = .ok (.istore_n 1, 1) := by decide +kernel
theorem dX10_init_205 : decode cX10_init 205 = .ok (.iload_n 1, 1) := by decide +kernel
theorem dX10_init_206 : decode cX10_init 206 = .ok (.bipush 32, 2) := by decide +kernel
theorem dX10_init_208 : decode cX10_init 208 = .ok (.if_icmp .ge 17, 3) := by decide +kernel
theorem dX10_init_211 : decode cX10_init 211 = .ok (.aload_n 0, 1) := by decide +kernel
theorem dX10_init_212 : decode cX10_init 212 = .ok (.getfield 44, 3) := by decide +kernel
theorem dX10_init_215 : decode cX10_init 215 = .ok (.iload_n 1, 1) := by decide +kernel
theorem dX10_init_216 : decode cX10_init 216 = .ok (.bipush 50, 2) := by decide +kernel
theorem dX10_init_218 : decode cX10_init 218 = .ok (.iastore, 1) := by decide +kernel
theorem dX10_init_219 : decode cX10_init 219 = .ok (.iinc 1 1, 3) := by decide +kernel
theorem dX10_init_222 : decode cX10_init 222 = .ok (.goto (-17), 3) := by decide +kernel
theorem dX10_init_225 : decode cX10_init 225 = .ok (.aload_n 0, 1) := by decide +kernel
theorem dX10_init_226 : decode cX10_init 226 = .ok (.getfield 19, 3) := by decide +kernel
theorem dX10_init_229 : decode cX10_init 229 = .ok (.iconst 0, 1) := by decide +kernel
theorem dX10_init_230 : decode cX10_init 230 = .ok (.bipush 50, 2) := by decide +kernel
theorem dX10_init_232 : decode cX10_init 232 = .ok (.iastore, 1) := by decide +kernel
theorem dX10_init_233 : decode cX10_init 233 = .ok (.aload_n 0, 1) := by decide +kernel
theorem dX10_init_234 : decode cX10_init 234 = .ok (.getfield 19, 3) := by decide +kernel
theorem dX10_init_237 : decode cX10_init 237 = .ok (.iconst 1, 1) := by decide +kernel
theorem dX10_init_238 : decode cX10_init 238 = .ok (.sipush 300, 3) := by decide +kernel
theorem dX10_init_241 : decode cX10_init 241 = .ok (.iastore, 1) := by decide +kernel
theorem dX10_init_242 : decode cX10_init 242 = .ok (.iconst 0, 1) := by decide +kernel
theorem dX10_init_243 : decode cX10_init 243 = .ok (.istore_n 1, 1) := by decide +kernel
theorem dX10_init_244 : decode cX10_init 244 = .ok (.iload_n 1, 1) := by decide +kernel
theorem dX10_init_245 : decode cX10_init 245 = .ok (.iconst 4, 1) := by decide +kernel
theorem dX10_init_246 : decode cX10_init 246 = .ok (.if_icmp .ge 19, 3) := by decide +kernel
theorem dX10_init_249 : decode cX10_init 249 = .ok (.aload_n 0, 1) := by decide +kernel
theorem dX10_init_250 : decode cX10_init 250 = .ok (.getfield 19, 3) := by decide +kernel
theorem dX10_init_253 : decode cX10_init 253 = .ok (.iconst 3, 1) := by decide +kernel
theorem dX10_init_254 : decode cX10_init 254 = .ok (.iload_n 1, 1) := by decide +kernel
theorem dX10_init_255 : decode cX10_init 255 = .ok (.iadd, 1) := by decide +kernel
theorem dX10_init_256 : decode cX10_init 256 = .ok (.bipush 20, 2) := by decide +kernel
theorem dX10_init_258 : decode cX10_init 258 = .ok (.iastore, 1) := by decide +kernel
theorem dX10_init_259 : decode cX10_init 259 = .ok (.iinc 1 1, 3) := by decide +kernel
theorem dX10_init_262 : decode cX10_init 262 = .ok (.goto (-18), 3) := by decide +kernel
theorem dX10_init_265 : decode cX10_init 265 = .ok (.aload_n 0, 1) := by decide +kernel
theorem dX10_init_266 : decode cX10_init 266 = .ok (.getfield 19, 3) := by decide +kernel
theorem dX10_init_269 : decode cX10_init 269 = .ok (.bipush 7, 2) := by decide +kernel
theorem dX10_init_271 : decode cX10_init 271 = .ok (.iconst 2, 1) := by decide +kernel
theorem dX10_init_272 : decode cX10_init 272 = .ok (.iastore, 1) := by decide +kernel
theorem dX10_init_273 : decode cX10_init 273 = .ok (.aload_n 0, 1) := by decide +kernel
theorem dX10_init_274 : decode cX10_init 274 = .ok (.getfield 19, 3) := by decide +kernel
theorem dX10_init_277 : decode cX10_init 277 = .ok (.bipush 8, 2) := by decide +kernel
theorem dX10_init_279 : decode cX10_init 279 = .ok (.bipush 10, 2) := by decide +kernel
theorem dX10_init_281 : decode cX10_init 281 = .ok (.iastore, 1) := by decide +kernel
theorem dX10_init_282 : decode cX10_init 282 = .ok (.return_, 1) := by decide +kernel
theorem dX10_thrown_0 : decode cX10_thrown 0 = .ok (.aload_n 0, 1) := by decide +kernel
theorem dX10_thrown_1 : decode cX10_thrown 1 = .ok (.getfield 72, 3) := by decide +kernel
theorem dX10_thrown_4 : decode cX10_thrown 4 = .ok (.ireturn, 1) := by decide +kernel
theorem dX10_can_0 : decode cX10_can 0 = .ok (.aload_n 0, 1) := by decide +kernel
theorem dX10_can_1 : decode cX10_can 1 = .ok (.iload_n 1, 1) := by decide +kernel
theorem dX10_can_2 : decode cX10_can 2 = .ok (.putfield 72, 3) := by decide +kernel
theorem dX10_can_5 : decode cX10_can 5 = .ok (.iload_n 1, 1) := by decide +kernel
theorem dX10_can_6 : decode cX10_can 6 = .ok (.ifCond .ne 7, 3) := by decide +kernel
theorem dX10_can_9 : decode cX10_can 9 = .ok (.iconst 1, 1) := by decide +kernel
theorem dX10_can_10 : decode cX10_can 10 = .ok (.goto 4, 3) := by decide +kernel
theorem dX10_can_13 : decode cX10_can 13 = .ok (.iconst 0, 1) := by decide +kernel
theorem dX10_can_14 : decode cX10_can 14 = .ok (.ireturn, 1) := by decide +kernel
theorem dX10_isIn_0 : decode cX10_isIn 0 = .ok (.iload_n 0, 1) := by decide +kernel
theorem dX10_isIn_1 : decode cX10_isIn 1 = .ok (.iload_n 1, 1) := by decide +kernel
theorem dX10_isIn_2 : decode cX10_isIn 2 = .ok (.if_icmp .lt 12, 3) := by decide +kernel
theorem dX10_isIn_5 : decode cX10_isIn 5 = .ok (.iload_n 0, 1) := by decide +kernel
theorem dX10_isIn_6 : decode cX10_isIn 6 = .ok (.iload_n 2, 1) := by decide +kernel
theorem dX10_isIn_7 : decode cX10_isIn 7 = .ok (.if_icmp .gt 7, 3) := by decide +kernel
theorem dX10_isIn_10 : decode cX10_isIn 10 = .ok (.iconst 1, 1) := by decide +kernel
theorem dX10_isIn_11 : decode cX10_isIn 11 = .ok (.goto 4, 3) := by decide +kernel
theorem dX10_isIn_14 : decode cX10_isIn 14 = .ok (.iconst 0, 1) := by decide +kernel
theorem dX10_isIn_15 : decode cX10_isIn 15 = .ok (.ireturn, 1) := by decide +kernel
set_option maxRecDepth 20000 in
theorem ggX10_isCell_X10_isIn : GoodIn wsX10_isCell wsX10_isIn := goodIn_r _ [4] (by decide +kernel) (by decide +kernel)
set_option maxRecDepth 20000 in
theorem gX10_isCell_X10_isIn : GoodIn wsX10_isCell (va_wsS RX10 76 yX10_isIn wsX10_isIn) := goodIn_app (goodIn_of _ (by decide +kernel)) ggX10_isCell_X10_isIn
theorem dX10_isCell_0 : decode cX10_isCell 0 = .ok (.iload_n 0, 1) := by decide +kernel
theorem dX10_isCell_1 : decode cX10_isCell 1 = .ok (.iconst 0, 1) := by decide +kernel
theorem dX10_isCell_2 : decode cX10_isCell 2 = .ok (.bipush 63, 2) := by decide +kernel
theorem dX10_isCell_4 : decode cX10_isCell 4 = .ok (.invokestatic 76, 3) := by decide +kernel
theorem dX10_isCell_7 : decode cX10_isCell 7 = .ok (.ireturn, 1) := by decide +kernel
set_option maxRecDepth 20000 in
theorem ggX10_isInk_X10_isIn : GoodIn wsX10_isInk wsX10_isIn := goodIn_r _ [4] (by decide +kernel) (by decide +kernel)
set_option maxRecDepth 20000 in
theorem gX10_isInk_X10_isIn : GoodIn wsX10_isInk (va_wsS RX10 76 yX10_isIn wsX10_isIn) := goodIn_app (goodIn_of _ (by decide +kernel)) ggX10_isInk_X10_isIn
theorem dX10_isInk_0 : decode cX10_isInk 0 = .ok (.iload_n 0, 1) := by decide +kernel
theorem dX10_isInk_1 : decode cX10_isInk 1 = .ok (.iconst 0, 1) := by decide +kernel
theorem dX10_isInk_2 : decode cX10_isInk 2 = .ok (.iconst 3, 1) := by decide +kernel
theorem dX10_isInk_3 : decode cX10_isInk 3 = .ok (.invokestatic 76, 3) := by decide +kernel
theorem dX10_isInk_6 : decode cX10_isInk 6 = .ok (.ireturn, 1) := by decide +kernel
theorem dX10_lesser_0 : decode cX10_lesser 0 = .ok (.iload_n 0, 1) := by decide +kernel
theorem dX10_lesser_1 : decode cX10_lesser 1 = .ok (.iload_n 1, 1) := by decide +kernel
theorem dX10_lesser_2 : decode cX10_lesser 2 = .ok (.if_icmp .ge 7, 3) := by decide +kernel
theorem dX10_lesser_5 : decode cX10_lesser 5 = .ok (.iload_n 0, 1) := by decide +kernel
theorem dX10_lesser_6 : decode cX10_lesser 6 = .ok (.goto 4, 3) := by decide +kernel
theorem dX10_lesser_9 : decode cX10_lesser 9 = .ok (.iload_n 1, 1) := by decide +kernel
theorem dX10_lesser_10 : decode cX10_lesser 10 = .ok (.ireturn, 1) := by decide +kernel
theorem dX10_size_0 : decode cX10_size 0 = .ok (.iload_n 0, 1) := by decide +kernel
theorem dX10_size_1 : decode cX10_size 1 = .ok (.ifCond .ge 8, 3) := by decide +kernel
theorem dX10_size_4 : decode cX10_size 4 = .ok (.iload_n 0, 1) := by decide +kernel
theorem dX10_size_5 : decode cX10_size 5 = .ok (.ineg, 1) := by decide +kernel
theorem dX10_size_6 : decode cX10_size 6 = .ok (.goto 4, 3) := by decide +kernel
theorem dX10_size_9 : decode cX10_size 9 = .ok (.iload_n 0, 1) := by decide +kernel
theorem dX10_size_10 : decode cX10_size 10 = .ok (.ireturn, 1) := by decide +kernel
set_option maxRecDepth 20000 in
theorem ggX10_colour_X10_isIn : GoodIn wsX10_colour wsX10_isIn := goodIn_r _ [7] (by decide +kernel) (by decide +kernel)
set_option maxRecDepth 20000 in
theorem gX10_colour_X10_isIn : GoodIn wsX10_colour (va_wsS RX10 76 yX10_isIn wsX10_isIn) := goodIn_app (goodIn_of _ (by decide +kernel)) ggX10_colour_X10_isIn
set_option maxRecDepth 20000 in
theorem ggX10_colour_X10_isCell : GoodIn wsX10_colour wsX10_isCell := goodIn_r _ [10, 4, 5, 6, 7] (by decide +kernel) (by decide +kernel)
set_option maxRecDepth 20000 in
theorem gX10_colour_X10_isCell : GoodIn wsX10_colour (va_wsS RX10 80 yX10_isCell wsX10_isCell) := goodIn_app (goodIn_of _ (by decide +kernel)) ggX10_colour_X10_isCell
set_option maxRecDepth 20000 in
theorem ggX10_colour_X10_can : GoodIn wsX10_colour wsX10_can := goodIn_r _ [14, 15, 16, 17, 18, 19, 20, 21, 22, 23, 24, 25, 26, 27, 28, 29, 30, 31, 32, 33, 34, 35, 36, 37, 38, 39, 40, 41, 42, 43, 44, 45, 46, 47, 48, 49, 50] (by decide +kernel) (by decide +kernel)
set_option maxRecDepth 20000 in
theorem gX10_colour_X10_can : GoodIn wsX10_colour (wsV RX10 84 RX10 yX10_can wsX10_can) := goodIn_app (goodIn_of _ (by decide +kernel)) ggX10_colour_X10_can
theorem dX10_colour_0 : decode cX10_colour 0 = .ok (.iload_n 2, 1) := by decide +kernel
theorem dX10_colour_1 : decode cX10_colour 1 = .ok (.iconst 0, 1) := by decide +kernel
theorem dX10_colour_2 : decode cX10_colour 2 = .ok (.bipush 100, 2) := by decide +kernel
theorem dX10_colour_4 : decode cX10_colour 4 = .ok (.invokestatic 76, 3) := by decide +kernel
theorem dX10_colour_7 : decode cX10_colour 7 = .ok (.ifCond .eq 28, 3) := by decide +kernel
theorem dX10_colour_10 : decode cX10_colour 10 = .ok (.iload_n 3, 1) := by decide +kernel
theorem dX10_colour_11 : decode cX10_colour 11 = .ok (.iconst 0, 1) := by decide +kernel
theorem dX10_colour_12 : decode cX10_colour 12 = .ok (.bipush 100, 2) := by decide +kernel
theorem dX10_colour_14 : decode cX10_colour 14 = .ok (.invokestatic 76, 3) := by decide +kernel
theorem dX10_colour_17 : decode cX10_colour 17 = .ok (.ifCond .eq 18, 3) := by decide +kernel
theorem dX10_colour_20 : decode cX10_colour 20 = .ok (.iload 4, 2) := by decide +kernel
theorem dX10_colour_22 : decode cX10_colour 22 = .ok (.iconst 0, 1) := by decide +kernel
theorem dX10_colour_23 : decode cX10_colour 23 = .ok (.bipush 100, 2) := by decide +kernel
theorem dX10_colour_25 : decode cX10_colour 25 = .ok (.invokestatic 76, 3) := by decide +kernel
theorem dX10_colour_28 : decode cX10_colour 28 = .ok (.ifCond .eq 7, 3) := by decide +kernel
theorem dX10_colour_31 : decode cX10_colour 31 = .ok (.iconst 1, 1) := by decide +kernel
theorem dX10_colour_32 : decode cX10_colour 32 = .ok (.goto 4, 3) := by decide +kernel
theorem dX10_colour_35 : decode cX10_colour 35 = .ok (.iconst 0, 1) := by decide +kernel
theorem dX10_colour_36 : decode cX10_colour 36 = .ok (.istore 5, 2) := by decide +kernel
theorem dX10_colour_38 : decode cX10_colour 38 = .ok (.aload_n 0, 1) := by decide +kernel
theorem dX10_colour_39 : decode cX10_colour 39 = .ok (.iload_n 1, 1) := by decide +kernel
theorem dX10_colour_40 : decode cX10_colour 40 = .ok (.invokestatic 80, 3) := by decide +kernel
theorem dX10_colour_43 : decode cX10_colour 43 = .ok (.ifCond .ne 7, 3) := by decide +kernel
theorem dX10_colour_46 : decode cX10_colour 46 = .ok (.iconst 1, 1) := by decide +kernel
theorem dX10_colour_47 : decode cX10_colour 47 = .ok (.goto 13, 3) := by decide +kernel
theorem dX10_colour_50 : decode cX10_colour 50 = .ok (.iload 5, 2) := by decide +kernel
theorem dX10_colour_52 : decode cX10_colour 52 = .ok (.ifCond .eq 7, 3) := by decide +kernel
theorem dX10_colour_55 : decode cX10_colour 55 = .ok (.iconst 0, 1) := by decide +kernel
theorem dX10_colour_56 : decode cX10_colour 56 = .ok (.goto 4, 3) := by decide +kernel
theorem dX10_colour_59 : decode cX10_colour 59 = .ok (.iconst 2, 1) := by decide +kernel
theorem dX10_colour_60 : decode cX10_colour 60 = .ok (.invokevirtual 84, 3) := by decide +kernel
theorem dX10_colour_63 : decode cX10_colour 63 = .ok (.ifCond .eq 25, 3) := by decide +kernel
theorem dX10_colour_66 : decode cX10_colour 66 = .ok (.aload_n 0, 1) := by decide +kernel
theorem dX10_colour_67 : decode cX10_colour 67 = .ok (.getfield 7, 3) := by decide +kernel
theorem dX10_colour_70 : decode cX10_colour 70 = .ok (.iload_n 1, 1) := by decide +kernel
theorem dX10_colour_71 : decode cX10_colour 71 = .ok (.iload_n 2, 1) := by decide +kernel
theorem dX10_colour_72 : decode cX10_colour 72 = .ok (.iastore, 1) := by decide +kernel
theorem dX10_colour_73 : decode cX10_colour 73 = .ok (.aload_n 0, 1) := by decide +kernel
theorem dX10_colour_74 : decode cX10_colour 74 = .ok (.getfield 13, 3) := by decide +kernel
theorem dX10_colour_77 : decode cX10_colour 77 = .ok (.iload_n 1, 1) := by decide +kernel
theorem dX10_colour_78 : decode cX10_colour 78 = .ok (.iload_n 3, 1) := by decide +kernel
theorem dX10_colour_79 : decode cX10_colour 79 = .ok (.iastore, 1) := by decide +kernel
theorem dX10_colour_80 : decode cX10_colour 80 = .ok (.aload_n 0, 1) := by decide +kernel
theorem dX10_colour_81 : decode cX10_colour 81 = .ok (.getfield 16, 3) := by decide +kernel
theorem dX10_colour_84 : decode cX10_colour 84 = .ok (.iload_n 1, 1) := by decide +kernel
theorem dX10_colour_85 : decode cX10_colour 85 = .ok (.iload 4, 2) := by decide +kernel
theorem dX10_colour_87 : decode cX10_colour 87 = .ok (.iastore, 1) := by decide +kernel
theorem dX10_colour_88 : decode cX10_colour 88 = .ok (.return_, 1) := by decide +kernel
set_option maxRecDepth 20000 in
theorem ggX10_type_X10_isIn : GoodIn wsX10_type wsX10_isIn := goodIn_r _ [6] (by decide +kernel) (by decide +kernel)
set_option maxRecDepth 20000 in
theorem gX10_type_X10_isIn : GoodIn wsX10_type (va_wsS RX10 76 yX10_isIn wsX10_isIn) := goodIn_app (goodIn_of _ (by decide +kernel)) ggX10_type_X10_isIn
set_option maxRecDepth 20000 in
theorem ggX10_type_X10_can : GoodIn wsX10_type wsX10_can := goodIn_r _ [10, 11, 12, 13, 14, 15, 16, 17, 18, 19, 20, 21, 22, 23, 24, 25, 26, 27, 28, 29, 30, 31, 32, 33, 34, 35, 36, 37, 38, 39, 40, 41, 42, 43, 44, 45, 46] (by decide +kernel) (by decide +kernel)
set_option maxRecDepth 20000 in
theorem gX10_type_X10_can : GoodIn wsX10_type (wsV RX10 84 RX10 yX10_can wsX10_can) := goodIn_app (goodIn_of _ (by decide +kernel)) ggX10_type_X10_can
theorem dX10_type_0 : decode cX10_type 0 = .ok (.iload_n 1, 1) := by decide +kernel
theorem dX10_type_1 : decode cX10_type 1 = .ok (.bipush 97, 2) := by decide +kernel
theorem dX10_type_3 : decode cX10_type 3 = .ok (.bipush 122, 2) := by decide +kernel
theorem dX10_type_5 : decode cX10_type 5 = .ok (.invokestatic 76, 3) := by decide +kernel
theorem dX10_type_8 : decode cX10_type 8 = .ok (.ifCond .ne 20, 3) := by decide +kernel
theorem dX10_type_11 : decode cX10_type 11 = .ok (.iload_n 1, 1) := by decide +kernel
theorem dX10_type_12 : decode cX10_type 12 = .ok (.bipush 48, 2) := by decide +kernel
theorem dX10_type_14 : decode cX10_type 14 = .ok (.bipush 57, 2) := by decide +kernel
theorem dX10_type_16 : decode cX10_type 16 = .ok (.invokestatic 76, 3) := by decide +kernel
theorem dX10_type_19 : decode cX10_type 19 = .ok (.ifCond .ne 9, 3) := by decide +kernel
theorem dX10_type_22 : decode cX10_type 22 = .ok (.iload_n 1, 1) := by decide +kernel
theorem dX10_type_23 : decode cX10_type 23 = .ok (.bipush 32, 2) := by decide +kernel
theorem dX10_type_25 : decode cX10_type 25 = .ok (.if_icmp .ne 7, 3) := by decide +kernel
theorem dX10_type_28 : decode cX10_type 28 = .ok (.iconst 1, 1) := by decide +kernel
theorem dX10_type_29 : decode cX10_type 29 = .ok (.goto 4, 3) := by decide +kernel
theorem dX10_type_32 : decode cX10_type 32 = .ok (.iconst 0, 1) := by decide +kernel
theorem dX10_type_33 : decode cX10_type 33 = .ok (.istore_n 2, 1) := by decide +kernel
theorem dX10_type_34 : decode cX10_type 34 = .ok (.aload_n 0, 1) := by decide +kernel
theorem dX10_type_35 : decode cX10_type 35 = .ok (.iload_n 2, 1) := by decide +kernel
theorem dX10_type_36 : decode cX10_type 36 = .ok (.ifCond .ne 7, 3) := by decide +kernel
theorem dX10_type_39 : decode cX10_type 39 = .ok (.iconst 1, 1) := by decide +kernel
theorem dX10_type_40 : decode cX10_type 40 = .ok (.goto 17, 3) := by decide +kernel
theorem dX10_type_43 : decode cX10_type 43 = .ok (.aload_n 0, 1) := by decide +kernel
theorem dX10_type_44 : decode cX10_type 44 = .ok (.getfield 87, 3) := by decide +kernel
theorem dX10_type_47 : decode cX10_type 47 = .ok (.bipush 60, 2) := by decide +kernel
theorem dX10_type_49 : decode cX10_type 49 = .ok (.if_icmp .ne 7, 3) := by decide +kernel
theorem dX10_type_52 : decode cX10_type 52 = .ok (.iconst 2, 1) := by decide +kernel
theorem dX10_type_53 : decode cX10_type 53 = .ok (.goto 4, 3) := by decide +kernel
theorem dX10_type_56 : decode cX10_type 56 = .ok (.iconst 0, 1) := by decide +kernel
theorem dX10_type_57 : decode cX10_type 57 = .ok (.invokevirtual 84, 3) := by decide +kernel
theorem dX10_type_60 : decode cX10_type 60 = .ok (.ifCond .ne 5, 3) := by decide +kernel
theorem dX10_type_63 : decode cX10_type 63 = .ok (.iconst 0, 1) := by decide +kernel
theorem dX10_type_64 : decode cX10_type 64 = .ok (.ireturn, 1) := by decide +kernel
theorem dX10_type_65 : decode cX10_type 65 = .ok (.aload_n 0, 1) := by decide +kernel
theorem dX10_type_66 : decode cX10_type 66 = .ok (.getfield 25, 3) := by decide +kernel
theorem dX10_type_69 : decode cX10_type 69 = .ok (.aload_n 0, 1) := by decide +kernel
theorem dX10_type_70 : decode cX10_type 70 = .ok (.getfield 87, 3) := by decide +kernel
theorem dX10_type_73 : decode cX10_type 73 = .ok (.iload_n 1, 1) := by decide +kernel
theorem dX10_type_74 : decode cX10_type 74 = .ok (.castore, 1) := by decide +kernel
theorem dX10_type_75 : decode cX10_type 75 = .ok (.aload_n 0, 1) := by decide +kernel
theorem dX10_type_76 : decode cX10_type 76 = .ok (.dup, 1) := by decide +kernel
theorem dX10_type_77 : decode cX10_type 77 = .ok (.getfield 87, 3) := by decide +kernel
theorem dX10_type_80 : decode cX10_type 80 = .ok (.iconst 1, 1) := by decide +kernel
theorem dX10_type_81 : decode cX10_type 81 = .ok (.iadd, 1) := by decide +kernel
theorem dX10_type_82 : decode cX10_type 82 = .ok (.putfield 87, 3) := by decide +kernel
theorem dX10_type_85 : decode cX10_type 85 = .ok (.aload_n 0, 1) := by decide +kernel
theorem dX10_type_86 : decode cX10_type 86 = .ok (.getfield 87, 3) := by decide +kernel
theorem dX10_type_89 : decode cX10_type 89 = .ok (.ireturn, 1) := by decide +kernel
theorem dX10_reads_0 : decode cX10_reads 0 = .ok (.aload_n 0, 1) := by decide +kernel
theorem dX10_reads_1 : decode cX10_reads 1 = .ok (.getfield 90, 3) := by decide +kernel
theorem dX10_reads_4 : decode cX10_reads 4 = .ok (.aload_n 0, 1) := by decide +kernel
theorem dX10_reads_5 : decode cX10_reads 5 = .ok (.getfield 87, 3) := by decide +kernel
theorem dX10_reads_8 : decode cX10_reads 8 = .ok (.if_icmp .ge 30, 3) := by decide +kernel
theorem dX10_reads_11 : decode cX10_reads 11 = .ok (.aload_n 0, 1) := by decide +kernel
theorem dX10_reads_12 : decode cX10_reads 12 = .ok (.getfield 25, 3) := by decide +kernel
theorem dX10_reads_15 : decode cX10_reads 15 = .ok (.aload_n 0, 1) := by decide +kernel
theorem dX10_reads_16 : decode cX10_reads 16 = .ok (.getfield 90, 3) := by decide +kernel
theorem dX10_reads_19 : decode cX10_reads 19 = .ok (.caload, 1) := by decide +kernel
theorem dX10_reads_20 : decode cX10_reads 20 = .ok (.bipush 32, 2) := by decide +kernel
theorem dX10_reads_22 : decode cX10_reads 22 = .ok (.if_icmp .ne 16, 3) := by decide +kernel
theorem dX10_reads_25 : decode cX10_reads 25 = .ok (.aload_n 0, 1) := by decide +kernel
theorem dX10_reads_26 : decode cX10_reads 26 = .ok (.dup, 1) := by decide +kernel
theorem dX10_reads_27 : decode cX10_reads 27 = .ok (.getfield 90, 3) := by decide +kernel
theorem dX10_reads_30 : decode cX10_reads 30 = .ok (.iconst 1, 1) := by decide +kernel
theorem dX10_reads_31 : decode cX10_reads 31 = .ok (.iadd, 1) := by decide +kernel
theorem dX10_reads_32 : decode cX10_reads 32 = .ok (.putfield 90, 3) := by decide +kernel
theorem dX10_reads_35 : decode cX10_reads 35 = .ok (.goto (-35), 3) := by decide +kernel
theorem dX10_reads_38 : decode cX10_reads 38 = .ok (.aload_n 0, 1) := by decide +kernel
theorem dX10_reads_39 : decode cX10_reads 39 = .ok (.aload_n 0, 1) := by decide +kernel
theorem dX10_reads_40 : decode cX10_reads 40 = .ok (.getfield 90, 3) := by decide +kernel
theorem dX10_reads_43 : decode cX10_reads 43 = .ok (.putfield 93, 3) := by decide +kernel
theorem dX10_reads_46 : decode cX10_reads 46 = .ok (.aload_n 0, 1) := by decide +kernel
theorem dX10_reads_47 : decode cX10_reads 47 = .ok (.getfield 90, 3) := by decide +kernel
theorem dX10_reads_50 : decode cX10_reads 50 = .ok (.aload_n 0, 1) := by decide +kernel
theorem dX10_reads_51 : decode cX10_reads 51 = .ok (.getfield 87, 3) := by decide +kernel
theorem dX10_reads_54 : decode cX10_reads 54 = .ok (.if_icmp .ge 30, 3) := by decide +kernel
theorem dX10_reads_57 : decode cX10_reads 57 = .ok (.aload_n 0, 1) := by decide +kernel
theorem dX10_reads_58 : decode cX10_reads 58 = .ok (.getfield 25, 3) := by decide +kernel
theorem dX10_reads_61 : decode cX10_reads 61 = .ok (.aload_n 0, 1) := by decide +kernel
theorem dX10_reads_62 : decode cX10_reads 62 = .ok (.getfield 90, 3) := by decide +kernel
theorem dX10_reads_65 : decode cX10_reads 65 = .ok (.caload, 1) := by decide +kernel
theorem dX10_reads_66 : decode cX10_reads 66 = .ok (.bipush 32, 2) := by decide +kernel
theorem dX10_reads_68 : decode cX10_reads 68 = .ok (.if_icmp .eq 16, 3) := by decide +kernel
theorem dX10_reads_71 : decode cX10_reads 71 = .ok (.aload_n 0, 1) := by decide +kernel
theorem dX10_reads_72 : decode cX10_reads 72 = .ok (.dup, 1) := by decide +kernel
theorem dX10_reads_73 : decode cX10_reads 73 = .ok (.getfield 90, 3) := by decide +kernel
theorem dX10_reads_76 : decode cX10_reads 76 = .ok (.iconst 1, 1) := by decide +kernel
theorem dX10_reads_77 : decode cX10_reads 77 = .ok (.iadd, 1) := by decide +kernel
theorem dX10_reads_78 : decode cX10_reads 78 = .ok (.putfield 90, 3) := by decide +kernel
theorem dX10_reads_81 : decode cX10_reads 81 = .ok (.goto (-35), 3) := by decide +kernel
theorem dX10_reads_84 : decode cX10_reads 84 = .ok (.aload_n 0, 1) := by decide +kernel
theorem dX10_reads_85 : decode cX10_reads 85 = .ok (.dup, 1) := by decide +kernel
theorem dX10_reads_86 : decode cX10_reads 86 = .ok (.getfield 96, 3) := by decide +kernel
theorem dX10_reads_89 : decode cX10_reads 89 = .ok (.aload_n 0, 1) := by decide +kernel
theorem dX10_reads_90 : decode cX10_reads 90 = .ok (.getfield 90, 3) := by decide +kernel
theorem dX10_reads_93 : decode cX10_reads 93 = .ok (.aload_n 0, 1) := by decide +kernel
theorem dX10_reads_94 : decode cX10_reads 94 = .ok (.getfield 93, 3) := by decide +kernel
theorem dX10_reads_97 : decode cX10_reads 97 = .ok (.if_icmp .le 7, 3) := by decide +kernel
theorem dX10_reads_100 : decode cX10_reads 100 = .ok (.iconst 1, 1) := by decide +kernel
theorem dX10_reads_101 : decode cX10_reads 101 = .ok (.goto 4, 3) := by decide +kernel
theorem dX10_reads_104 : decode cX10_reads 104 = .ok (.iconst 0, 1) := by decide +kernel
theorem dX10_reads_105 : decode cX10_reads 105 = .ok (.iadd, 1) := by decide +kernel
theorem dX10_reads_106 : decode cX10_reads 106 = .ok (.putfield 96, 3) := by decide +kernel
theorem dX10_reads_109 : decode cX10_reads 109 = .ok (.aload_n 0, 1) := by decide +kernel
theorem dX10_reads_110 : decode cX10_reads 110 = .ok (.getfield 90, 3) := by decide +kernel
theorem dX10_reads_113 : decode cX10_reads 113 = .ok (.aload_n 0, 1) := by decide +kernel
theorem dX10_reads_114 : decode cX10_reads 114 = .ok (.getfield 93, 3) := by decide +kernel
theorem dX10_reads_117 : decode cX10_reads 117 = .ok (.if_icmp .le 7, 3) := by decide +kernel
theorem dX10_reads_120 : decode cX10_reads 120 = .ok (.iconst 1, 1) := by decide +kernel
theorem dX10_reads_121 : decode cX10_reads 121 = .ok (.goto 4, 3) := by decide +kernel
theorem dX10_reads_124 : decode cX10_reads 124 = .ok (.iconst 0, 1) := by decide +kernel
theorem dX10_reads_125 : decode cX10_reads 125 = .ok (.ireturn, 1) := by decide +kernel
set_option maxRecDepth 20000 in
theorem ggX10_number_X10_isIn : GoodIn wsX10_number wsX10_isIn := goodIn_r _ [7] (by decide +kernel) (by decide +kernel)
set_option maxRecDepth 20000 in
theorem gX10_number_X10_isIn : GoodIn wsX10_number (va_wsS RX10 76 yX10_isIn wsX10_isIn) := goodIn_app (goodIn_of _ (by decide +kernel)) ggX10_number_X10_isIn
theorem dX10_number_0 : decode cX10_number 0 = .ok (.aload_n 0, 1) := by decide +kernel
theorem dX10_number_1 : decode cX10_number 1 = .ok (.getfield 90, 3) := by decide +kernel
theorem dX10_number_4 : decode cX10_number 4 = .ok (.aload_n 0, 1) := by decide +kernel
theorem dX10_number_5 : decode cX10_number 5 = .ok (.getfield 93, 3) := by decide +kernel
theorem dX10_number_8 : decode cX10_number 8 = .ok (.isub, 1) := by decide +kernel
theorem dX10_number_9 : decode cX10_number 9 = .ok (.iconst 3, 1) := by decide +kernel
theorem dX10_number_10 : decode cX10_number 10 = .ok (.if_icmp .le 7, 3) := by decide +kernel
theorem dX10_number_13 : decode cX10_number 13 = .ok (.iconst (-1), 1) := by decide +kernel
theorem dX10_number_14 : decode cX10_number 14 = .ok (.goto 4, 3) := by decide +kernel
theorem dX10_number_17 : decode cX10_number 17 = .ok (.iconst 0, 1) := by decide +kernel
theorem dX10_number_18 : decode cX10_number 18 = .ok (.istore_n 1, 1) := by decide +kernel
theorem dX10_number_19 : decode cX10_number 19 = .ok (.aload_n 0, 1) := by decide +kernel
theorem dX10_number_20 : decode cX10_number 20 = .ok (.getfield 93, 3) := by decide +kernel
theorem dX10_number_23 : decode cX10_number 23 = .ok (.istore_n 2, 1) := by decide +kernel
theorem dX10_number_24 : decode cX10_number 24 = .ok (.iload_n 2, 1) := by decide +kernel
theorem dX10_number_25 : decode cX10_number 25 = .ok (.aload_n 0, 1) := by decide +kernel
theorem dX10_number_26 : decode cX10_number 26 = .ok (.getfield 90, 3) := by decide +kernel
theorem dX10_number_29 : decode cX10_number 29 = .ok (.if_icmp .ge 51, 3) := by decide +kernel
theorem dX10_number_32 : decode cX10_number 32 = .ok (.aload_n 0, 1) := by decide +kernel
theorem dX10_number_33 : decode cX10_number 33 = .ok (.getfield 25, 3) := by decide +kernel
theorem dX10_number_36 : decode cX10_number 36 = .ok (.iload_n 2, 1) := by decide +kernel
theorem dX10_number_37 : decode cX10_number 37 = .ok (.caload, 1) := by decide +kernel
theorem dX10_number_38 : decode cX10_number 38 = .ok (.bipush 48, 2) := by decide +kernel
theorem dX10_number_40 : decode cX10_number 40 = .ok (.isub, 1) := by decide +kernel
theorem dX10_number_41 : decode cX10_number 41 = .ok (.istore_n 3, 1) := by decide +kernel
theorem dX10_number_42 : decode cX10_number 42 = .ok (.iload_n 1, 1) := by decide +kernel
theorem dX10_number_43 : decode cX10_number 43 = .ok (.iconst (-1), 1) := by decide +kernel
theorem dX10_number_44 : decode cX10_number 44 = .ok (.if_icmp .eq 19, 3) := by decide +kernel
theorem dX10_number_47 : decode cX10_number 47 = .ok (.aload_n 0, 1) := by decide +kernel
theorem dX10_number_48 : decode cX10_number 48 = .ok (.getfield 25, 3) := by decide +kernel
theorem dX10_number_51 : decode cX10_number 51 = .ok (.iload_n 2, 1) := by decide +kernel
theorem dX10_number_52 : decode cX10_number 52 = .ok (.caload, 1) := by decide +kernel
theorem dX10_number_53 : decode cX10_number 53 = .ok (.bipush 48, 2) := by decide +kernel
theorem dX10_number_55 : decode cX10_number 55 = .ok (.bipush 57, 2) := by decide +kernel
theorem dX10_number_57 : decode cX10_number 57 = .ok (.invokestatic 76, 3) := by decide +kernel
theorem dX10_number_60 : decode cX10_number 60 = .ok (.ifCond .ne 7, 3) := by decide +kernel
theorem dX10_number_63 : decode cX10_number 63 = .ok (.iconst (-1), 1) := by decide +kernel
theorem dX10_number_64 : decode cX10_number 64 = .ok (.goto 9, 3) := by decide +kernel
theorem dX10_number_67 : decode cX10_number 67 = .ok (.bipush 10, 2) := by decide +kernel
theorem dX10_number_69 : decode cX10_number 69 = .ok (.iload_n 1, 1) := by decide +kernel
theorem dX10_number_70 : decode cX10_number 70 = .ok (.imul, 1) := by decide +kernel
theorem dX10_number_71 : decode cX10_number 71 = .ok (.iload_n 3, 1) := by decide +kernel
theorem dX10_number_72 : decode cX10_number 72 = .ok (.iadd, 1) := by decide +kernel
theorem dX10_number_73 : decode cX10_number 73 = .ok (.istore_n 1, 1) := by decide +kernel
theorem dX10_number_74 : decode cX10_number 74 = .ok (.iinc 2 1, 3) := by decide +kernel
theorem dX10_number_77 : decode cX10_number 77 = .ok (.goto (-53), 3) := by decide +kernel
theorem dX10_number_80 : decode cX10_number 80 = .ok (.iload_n 1, 1) := by decide +kernel
theorem dX10_number_81 : decode cX10_number 81 = .ok (.ireturn, 1) := by decide +kernel
theorem dX10_is_0 : decode cX10_is 0 = .ok (.aload_n 0, 1) := by decide +kernel
theorem dX10_is_1 : decode cX10_is 1 = .ok (.getfield 25, 3) := by decide +kernel
theorem dX10_is_4 : decode cX10_is 4 = .ok (.aload_n 0, 1) := by decide +kernel
theorem dX10_is_5 : decode cX10_is 5 = .ok (.getfield 93, 3) := by decide +kernel
theorem dX10_is_8 : decode cX10_is 8 = .ok (.iload_n 1, 1) := by decide +kernel
theorem dX10_is_9 : decode cX10_is 9 = .ok (.iadd, 1) := by decide +kernel
theorem dX10_is_10 : decode cX10_is 10 = .ok (.caload, 1) := by decide +kernel
theorem dX10_is_11 : decode cX10_is 11 = .ok (.iload_n 2, 1) := by decide +kernel
theorem dX10_is_12 : decode cX10_is 12 = .ok (.if_icmp .ne 78, 3) := by decide +kernel
theorem dX10_is_15 : decode cX10_is 15 = .ok (.aload_n 0, 1) := by decide +kernel
theorem dX10_is_16 : decode cX10_is 16 = .ok (.getfield 25, 3) := by decide +kernel
theorem dX10_is_19 : decode cX10_is 19 = .ok (.aload_n 0, 1) := by decide +kernel
theorem dX10_is_20 : decode cX10_is 20 = .ok (.getfield 93, 3) := by decide +kernel
theorem dX10_is_23 : decode cX10_is 23 = .ok (.iload_n 1, 1) := by decide +kernel
theorem dX10_is_24 : decode cX10_is 24 = .ok (.iadd, 1) := by decide +kernel
theorem dX10_is_25 : decode cX10_is 25 = .ok (.iconst 1, 1) := by decide +kernel
theorem dX10_is_26 : decode cX10_is 26 = .ok (.iadd, 1) := by decide +kernel
theorem dX10_is_27 : decode cX10_is 27 = .ok (.caload, 1) := by decide +kernel
theorem dX10_is_28 : decode cX10_is 28 = .ok (.iload_n 3, 1) := by decide +kernel
theorem dX10_is_29 : decode cX10_is 29 = .ok (.if_icmp .ne 61, 3) := by decide +kernel
theorem dX10_is_32 : decode cX10_is 32 = .ok (.aload_n 0, 1) := by decide +kernel
theorem dX10_is_33 : decode cX10_is 33 = .ok (.getfield 25, 3) := by decide +kernel
theorem dX10_is_36 : decode cX10_is 36 = .ok (.aload_n 0, 1) := by decide +kernel
theorem dX10_is_37 : decode cX10_is 37 = .ok (.getfield 93, 3) := by decide +kernel
theorem dX10_is_40 : decode cX10_is 40 = .ok (.iload_n 1, 1) := by decide +kernel
theorem dX10_is_41 : decode cX10_is 41 = .ok (.iadd, 1) := by decide +kernel
theorem dX10_is_42 : decode cX10_is 42 = .ok (.iconst 2, 1) := by decide +kernel
theorem dX10_is_43 : decode cX10_is 43 = .ok (.iadd, 1) := by decide +kernel
theorem dX10_is_44 : decode cX10_is 44 = .ok (.caload, 1) := by decide +kernel
theorem dX10_is_45 : decode cX10_is 45 = .ok (.iload 4, 2) := by decide +kernel
theorem dX10_is_47 : decode cX10_is 47 = .ok (.if_icmp .ne 43, 3) := by decide +kernel
theorem dX10_is_50 : decode cX10_is 50 = .ok (.aload_n 0, 1) := by decide +kernel
theorem dX10_is_51 : decode cX10_is 51 = .ok (.getfield 25, 3) := by decide +kernel
theorem dX10_is_54 : decode cX10_is 54 = .ok (.aload_n 0, 1) := by decide +kernel
theorem dX10_is_55 : decode cX10_is 55 = .ok (.getfield 93, 3) := by decide +kernel
theorem dX10_is_58 : decode cX10_is 58 = .ok (.iload_n 1, 1) := by decide +kernel
theorem dX10_is_59 : decode cX10_is 59 = .ok (.iadd, 1) := by decide +kernel
theorem dX10_is_60 : decode cX10_is 60 = .ok (.iconst 3, 1) := by decide +kernel
theorem dX10_is_61 : decode cX10_is 61 = .ok (.iadd, 1) := by decide +kernel
theorem dX10_is_62 : decode cX10_is 62 = .ok (.caload, 1) := by decide +kernel
theorem dX10_is_63 : decode cX10_is 63 = .ok (.iload 5, 2) := by decide +kernel
theorem dX10_is_65 : decode cX10_is 65 = .ok (.if_icmp .ne 25, 3) := by decide +kernel
theorem dX10_is_68 : decode cX10_is 68 = .ok (.aload_n 0, 1) := by decide +kernel
theorem dX10_is_69 : decode cX10_is 69 = .ok (.getfield 25, 3) := by decide +kernel
theorem dX10_is_72 : decode cX10_is 72 = .ok (.aload_n 0, 1) := by decide +kernel
theorem dX10_is_73 : decode cX10_is 73 = .ok (.getfield 93, 3) := by decide +kernel
theorem dX10_is_76 : decode cX10_is 76 = .ok (.iload_n 1, 1) := by decide +kernel
theorem dX10_is_77 : decode cX10_is 77 = .ok (.iadd, 1) := by decide +kernel
theorem dX10_is_78 : decode cX10_is 78 = .ok (.iconst 4, 1) := by decide +kernel
theorem dX10_is_79 : decode cX10_is 79 = .ok (.iadd, 1) := by decide +kernel
theorem dX10_is_80 : decode cX10_is 80 = .ok (.caload, 1) := by decide +kernel
theorem dX10_is_81 : decode cX10_is 81 = .ok (.iload 6, 2) := by decide +kernel
theorem dX10_is_83 : decode cX10_is 83 = .ok (.if_icmp .ne 7, 3) := by decide +kernel
theorem dX10_is_86 : decode cX10_is 86 = .ok (.iconst 1, 1) := by decide +kernel
theorem dX10_is_87 : decode cX10_is 87 = .ok (.goto 4, 3) := by decide +kernel
theorem dX10_is_90 : decode cX10_is 90 = .ok (.iconst 0, 1) := by decide +kernel
theorem dX10_is_91 : decode cX10_is 91 = .ok (.ireturn, 1) := by decide +kernel
set_option maxRecDepth 20000 in
theorem ggX10_which_X10_is : GoodIn wsX10_which wsX10_is := goodIn_r _ [8, 3, 2, 9, 10, 11, 12, 13, 14, 15, 16, 17, 18, 19, 20, 21, 22, 23, 24, 25, 26, 27, 28, 29, 30, 31, 32, 33, 34, 35, 36, 37, 38, 39, 40, 41, 42, 43] (by decide +kernel) (by decide +kernel)
set_option maxRecDepth 20000 in
theorem gX10_which_X10_is : GoodIn wsX10_which (wsV RX10 99 RX10 yX10_is wsX10_is) := goodIn_app (goodIn_of _ (by decide +kernel)) ggX10_which_X10_is
theorem dX10_which_0 : decode cX10_which 0 = .ok (.aload_n 0, 1) := by decide +kernel
theorem dX10_which_1 : decode cX10_which 1 = .ok (.getfield 90, 3) := by decide +kernel
theorem dX10_which_4 : decode cX10_which 4 = .ok (.aload_n 0, 1) := by decide +kernel
theorem dX10_which_5 : decode cX10_which 5 = .ok (.getfield 93, 3) := by decide +kernel
theorem dX10_which_8 : decode cX10_which 8 = .ok (.isub, 1) := by decide +kernel
theorem dX10_which_9 : decode cX10_which 9 = .ok (.istore_n 1, 1) := by decide +kernel
theorem dX10_which_10 : decode cX10_which 10 = .ok (.iload_n 1, 1) := by decide +kernel
theorem dX10_which_11 : decode cX10_which 11 = .ok (.iconst 4, 1) := by decide +kernel
theorem dX10_which_12 : decode cX10_which 12 = .ok (.if_icmp .ne 157, 3) := by decide +kernel
theorem dX10_which_15 : decode cX10_which 15 = .ok (.aload_n 0, 1) := by decide +kernel
theorem dX10_which_16 : decode cX10_which 16 = .ok (.getfield 25, 3) := by decide +kernel
theorem dX10_which_19 : decode cX10_which 19 = .ok (.aload_n 0, 1) := by decide +kernel
theorem dX10_which_20 : decode cX10_which 20 = .ok (.getfield 93, 3) := by decide +kernel
theorem dX10_which_23 : decode cX10_which 23 = .ok (.caload, 1) := by decide +kernel
theorem dX10_which_24 : decode cX10_which 24 = .ok (.bipush 116, 2) := by decide +kernel
theorem dX10_which_26 : decode cX10_which 26 = .ok (.if_icmp .ne 55, 3) := by decide +kernel
theorem dX10_which_29 : decode cX10_which 29 = .ok (.aload_n 0, 1) := by decide +kernel
theorem dX10_which_30 : decode cX10_which 30 = .ok (.getfield 25, 3) := by decide +kernel
theorem dX10_which_33 : decode cX10_which 33 = .ok (.aload_n 0, 1) := by decide +kernel
theorem dX10_which_34 : decode cX10_which 34 = .ok (.getfield 93, 3) := by decide +kernel
theorem dX10_which_37 : decode cX10_which 37 = .ok (.iconst 1, 1) := by decide +kernel
theorem dX10_which_38 : decode cX10_which 38 = .ok (.iadd, 1) := by decide +kernel
theorem dX10_which_39 : decode cX10_which 39 = .ok (.caload, 1) := by decide +kernel
theorem dX10_which_40 : decode cX10_which 40 = .ok (.bipush 114, 2) := by decide +kernel
theorem dX10_which_42 : decode cX10_which 42 = .ok (.if_icmp .ne 39, 3) := by decide +kernel
theorem dX10_which_45 : decode cX10_which 45 = .ok (.aload_n 0, 1) := by decide +kernel
theorem dX10_which_46 : decode cX10_which 46 = .ok (.getfield 25, 3) := by decide +kernel
theorem dX10_which_49 : decode cX10_which 49 = .ok (.aload_n 0, 1) := by decide +kernel
theorem dX10_which_50 : decode cX10_which 50 = .ok (.getfield 93, 3) := by decide +kernel
theorem dX10_which_53 : decode cX10_which 53 = .ok (.iconst 2, 1) := by decide +kernel
theorem dX10_which_54 : decode cX10_which 54 = .ok (.iadd, 1) := by decide +kernel
theorem dX10_which_55 : decode cX10_which 55 = .ok (.caload, 1) := by decide +kernel
theorem dX10_which_56 : decode cX10_which 56 = .ok (.bipush 97, 2) := by decide +kernel
theorem dX10_which_58 : decode cX10_which 58 = .ok (.if_icmp .ne 23, 3) := by decide +kernel
theorem dX10_which_61 : decode cX10_which 61 = .ok (.aload_n 0, 1) := by decide +kernel
theorem dX10_which_62 : decode cX10_which 62 = .ok (.getfield 25, 3) := by decide +kernel
theorem dX10_which_65 : decode cX10_which 65 = .ok (.aload_n 0, 1) := by decide +kernel
theorem dX10_which_66 : decode cX10_which 66 = .ok (.getfield 93, 3) := by decide +kernel
theorem dX10_which_69 : decode cX10_which 69 = .ok (.iconst 3, 1) := by decide +kernel
theorem dX10_which_70 : decode cX10_which 70 = .ok (.iadd, 1) := by decide +kernel
theorem dX10_which_71 : decode cX10_which 71 = .ok (.caload, 1) := by decide +kernel
theorem dX10_which_72 : decode cX10_which 72 = .ok (.bipush 112, 2) := by decide +kernel
theorem dX10_which_74 : decode cX10_which 74 = .ok (.if_icmp .ne 7, 3) := by decide +kernel
theorem dX10_which_77 : decode cX10_which 77 = .ok (.iconst 1, 1) := by decide +kernel
theorem dX10_which_78 : decode cX10_which 78 = .ok (.goto 4, 3) := by decide +kernel
theorem dX10_which_81 : decode cX10_which 81 = .ok (.iconst 0, 1) := by decide +kernel
theorem dX10_which_82 : decode cX10_which 82 = .ok (.istore_n 2, 1) := by decide +kernel
theorem dX10_which_83 : decode cX10_which 83 = .ok (.aload_n 0, 1) := by decide +kernel
theorem dX10_which_84 : decode cX10_which 84 = .ok (.getfield 25, 3) := by decide +kernel
theorem dX10_which_87 : decode cX10_which 87 = .ok (.aload_n 0, 1) := by decide +kernel
theorem dX10_which_88 : decode cX10_which 88 = .ok (.getfield 93, 3) := by decide +kernel
theorem dX10_which_91 : decode cX10_which 91 = .ok (.caload, 1) := by decide +kernel
theorem dX10_which_92 : decode cX10_which 92 = .ok (.bipush 103, 2) := by decide +kernel
theorem dX10_which_94 : decode cX10_which 94 = .ok (.if_icmp .ne 55, 3) := by decide +kernel
theorem dX10_which_97 : decode cX10_which 97 = .ok (.aload_n 0, 1) := by decide +kernel
theorem dX10_which_98 : decode cX10_which 98 = .ok (.getfield 25, 3) := by decide +kernel
theorem dX10_which_101 : decode cX10_which 101 = .ok (.aload_n 0, 1) := by decide +kernel
theorem dX10_which_102 : decode cX10_which 102 = .ok (.getfield 93, 3) := by decide +kernel
theorem dX10_which_105 : decode cX10_which 105 = .ok (.iconst 1, 1) := by decide +kernel
theorem dX10_which_106 : decode cX10_which 106 = .ok (.iadd, 1) := by decide +kernel
theorem dX10_which_107 : decode cX10_which 107 = .ok (.caload, 1) := by decide +kernel
theorem dX10_which_108 : decode cX10_which 108 = .ok (.bipush 97, 2) := by decide +kernel
theorem dX10_which_110 : decode cX10_which 110 = .ok (.if_icmp .ne 39, 3) := by decide +kernel
theorem dX10_which_113 : decode cX10_which 113 = .ok (.aload_n 0, 1) := by decide +kernel
theorem dX10_which_114 : decode cX10_which 114 = .ok (.getfield 25, 3) := by decide +kernel
theorem dX10_which_117 : decode cX10_which 117 = .ok (.aload_n 0, 1) := by decide +kernel
theorem dX10_which_118 : decode cX10_which 118 = .ok (.getfield 93, 3) := by decide +kernel
theorem dX10_which_121 : decode cX10_which 121 = .ok (.iconst 2, 1) := by decide +kernel
theorem dX10_which_122 : decode cX10_which 122 = .ok (.iadd, 1) := by decide +kernel
theorem dX10_which_123 : decode cX10_which 123 = .ok (.caload, 1) := by decide +kernel
theorem dX10_which_124 : decode cX10_which 124 = .ok (.bipush 105, 2) := by decide +kernel
theorem dX10_which_126 : decode cX10_which 126 = .ok (.if_icmp .ne 23, 3) := by decide +kernel
theorem dX10_which_129 : decode cX10_which 129 = .ok (.aload_n 0, 1) := by decide +kernel
theorem dX10_which_130 : decode cX10_which 130 = .ok (.getfield 25, 3) := by decide +kernel
theorem dX10_which_133 : decode cX10_which 133 = .ok (.aload_n 0, 1) := by decide +kernel
theorem dX10_which_134 : decode cX10_which 134 = .ok (.getfield 93, 3) := by decide +kernel
theorem dX10_which_137 : decode cX10_which 137 = .ok (.iconst 3, 1) := by decide +kernel
theorem dX10_which_138 : decode cX10_which 138 = .ok (.iadd, 1) := by decide +kernel
theorem dX10_which_139 : decode cX10_which 139 = .ok (.caload, 1) := by decide +kernel
theorem dX10_which_140 : decode cX10_which 140 = .ok (.bipush 110, 2) := by decide +kernel
theorem dX10_which_142 : decode cX10_which 142 = .ok (.if_icmp .ne 7, 3) := by decide +kernel
theorem dX10_which_145 : decode cX10_which 145 = .ok (.iconst 1, 1) := by decide +kernel
theorem dX10_which_146 : decode cX10_which 146 = .ok (.goto 4, 3) := by decide +kernel
theorem dX10_which_149 : decode cX10_which 149 = .ok (.iconst 0, 1) := by decide +kernel
theorem dX10_which_150 : decode cX10_which 150 = .ok (.istore_n 3, 1) := by decide +kernel
theorem dX10_which_151 : decode cX10_which 151 = .ok (.iload_n 2, 1) := by decide +kernel
theorem dX10_which_152 : decode cX10_which 152 = .ok (.ifCond .eq 7, 3) := by decide +kernel
theorem dX10_which_155 : decode cX10_which 155 = .ok (.iconst 2, 1) := by decide +kernel
theorem dX10_which_156 : decode cX10_which 156 = .ok (.goto 12, 3) := by decide +kernel
theorem dX10_which_159 : decode cX10_which 159 = .ok (.iload_n 3, 1) := by decide +kernel
theorem dX10_which_160 : decode cX10_which 160 = .ok (.ifCond .eq 7, 3) := by decide +kernel
theorem dX10_which_163 : decode cX10_which 163 = .ok (.iconst 3, 1) := by decide +kernel
theorem dX10_which_164 : decode cX10_which 164 = .ok (.goto 4, 3) := by decide +kernel
theorem dX10_which_167 : decode cX10_which 167 = .ok (.iconst (-1), 1) := by decide +kernel
theorem dX10_which_168 : decode cX10_which 168 = .ok (.ireturn, 1) := by decide +kernel
theorem dX10_which_169 : decode cX10_which 169 = .ok (.iload_n 1, 1) := by decide +kernel
theorem dX10_which_170 : decode cX10_which 170 = .ok (.iconst 5, 1) := by decide +kernel
theorem dX10_which_171 : decode cX10_which 171 = .ok (.if_icmp .ne 72, 3) := by decide +kernel
theorem dX10_which_174 : decode cX10_which 174 = .ok (.aload_n 0, 1) := by decide +kernel
theorem dX10_which_175 : decode cX10_which 175 = .ok (.iconst 0, 1) := by decide +kernel
theorem dX10_which_176 : decode cX10_which 176 = .ok (.bipush 98, 2) := by decide +kernel
theorem dX10_which_178 : decode cX10_which 178 = .ok (.bipush 108, 2) := by decide +kernel
theorem dX10_which_180 : decode cX10_which 180 = .ok (.bipush 97, 2) := by decide +kernel
theorem dX10_which_182 : decode cX10_which 182 = .ok (.bipush 99, 2) := by decide +kernel
theorem dX10_which_184 : decode cX10_which 184 = .ok (.bipush 107, 2) := by decide +kernel
theorem dX10_which_186 : decode cX10_which 186 = .ok (.invokevirtual 99, 3) := by decide +kernel
theorem dX10_which_189 : decode cX10_which 189 = .ok (.ifCond .eq 7, 3) := by decide +kernel
theorem dX10_which_192 : decode cX10_which 192 = .ok (.iconst 0, 1) := by decide +kernel
theorem dX10_which_193 : decode cX10_which 193 = .ok (.goto 49, 3) := by decide +kernel
theorem dX10_which_196 : decode cX10_which 196 = .ok (.aload_n 0, 1) := by decide +kernel
theorem dX10_which_197 : decode cX10_which 197 = .ok (.iconst 0, 1) := by decide +kernel
theorem dX10_which_198 : decode cX10_which 198 = .ok (.bipush 108, 2) := by decide +kernel
theorem dX10_which_200 : decode cX10_which 200 = .ok (.bipush 105, 2) := by decide +kernel
theorem dX10_which_202 : decode cX10_which 202 = .ok (.bipush 109, 2) := by decide +kernel
theorem dX10_which_204 : decode cX10_which 204 = .ok (.bipush 105, 2) := by decide +kernel
theorem dX10_which_206 : decode cX10_which 206 = .ok (.bipush 116, 2) := by decide +kernel
theorem dX10_which_208 : decode cX10_which 208 = .ok (.invokevirtual 99, 3) := by decide +kernel
theorem dX10_which_211 : decode cX10_which 211 = .ok (.ifCond .eq 7, 3) := by decide +kernel
theorem dX10_which_214 : decode cX10_which 214 = .ok (.iconst 1, 1) := by decide +kernel
theorem dX10_which_215 : decode cX10_which 215 = .ok (.goto 27, 3) := by decide +kernel
theorem dX10_which_218 : decode cX10_which 218 = .ok (.aload_n 0, 1) := by decide +kernel
theorem dX10_which_219 : decode cX10_which 219 = .ok (.iconst 0, 1) := by decide +kernel
theorem dX10_which_220 : decode cX10_which 220 = .ok (.bipush 100, 2) := by decide +kernel
theorem dX10_which_222 : decode cX10_which 222 = .ok (.bipush 101, 2) := by decide +kernel
theorem dX10_which_224 : decode cX10_which 224 = .ok (.bipush 108, 2) := by decide +kernel
theorem dX10_which_226 : decode cX10_which 226 = .ok (.bipush 97, 2) := by decide +kernel
theorem dX10_which_228 : decode cX10_which 228 = .ok (.bipush 121, 2) := by decide +kernel
theorem dX10_which_230 : decode cX10_which 230 = .ok (.invokevirtual 99, 3) := by decide +kernel
theorem dX10_which_233 : decode cX10_which 233 = .ok (.ifCond .eq 8, 3) := by decide +kernel
theorem dX10_which_236 : decode cX10_which 236 = .ok (.bipush 8, 2) := by decide +kernel
theorem dX10_which_238 : decode cX10_which 238 = .ok (.goto 4, 3) := by decide +kernel
theorem dX10_which_241 : decode cX10_which 241 = .ok (.iconst (-1), 1) := by decide +kernel
theorem dX10_which_242 : decode cX10_which 242 = .ok (.ireturn, 1) := by decide +kernel
theorem dX10_which_243 : decode cX10_which 243 = .ok (.iload_n 1, 1) := by decide +kernel
theorem dX10_which_244 : decode cX10_which 244 = .ok (.bipush 9, 2) := by decide +kernel
theorem dX10_which_246 : decode cX10_which 246 = .ok (.if_icmp .ne 44, 3) := by decide +kernel
theorem dX10_which_249 : decode cX10_which 249 = .ok (.aload_n 0, 1) := by decide +kernel
theorem dX10_which_250 : decode cX10_which 250 = .ok (.iconst 0, 1) := by decide +kernel
theorem dX10_which_251 : decode cX10_which 251 = .ok (.bipush 116, 2) := by decide +kernel
theorem dX10_which_253 : decode cX10_which 253 = .ok (.bipush 111, 2) := by decide +kernel
theorem dX10_which_255 : decode cX10_which 255 = .ok (.bipush 108, 2) := by decide +kernel
theorem dX10_which_257 : decode cX10_which 257 = .ok (.bipush 101, 2) := by decide +kernel
theorem dX10_which_259 : decode cX10_which 259 = .ok (.bipush 114, 2) := by decide +kernel
theorem dX10_which_261 : decode cX10_which 261 = .ok (.invokevirtual 99, 3) := by decide +kernel
theorem dX10_which_264 : decode cX10_which 264 = .ok (.ifCond .eq 26, 3) := by decide +kernel
theorem dX10_which_267 : decode cX10_which 267 = .ok (.aload_n 0, 1) := by decide +kernel
theorem dX10_which_268 : decode cX10_which 268 = .ok (.iconst 4, 1) := by decide +kernel
theorem dX10_which_269 : decode cX10_which 269 = .ok (.bipush 114, 2) := by decide +kernel
theorem dX10_which_271 : decode cX10_which 271 = .ok (.bipush 97, 2) := by decide +kernel
theorem dX10_which_273 : decode cX10_which 273 = .ok (.bipush 110, 2) := by decide +kernel
theorem dX10_which_275 : decode cX10_which 275 = .ok (.bipush 99, 2) := by decide +kernel
theorem dX10_which_277 : decode cX10_which 277 = .ok (.bipush 101, 2) := by decide +kernel
theorem dX10_which_279 : decode cX10_which 279 = .ok (.invokevirtual 99, 3) := by decide +kernel
theorem dX10_which_282 : decode cX10_which 282 = .ok (.ifCond .eq 8, 3) := by decide +kernel
theorem dX10_which_285 : decode cX10_which 285 = .ok (.bipush 7, 2) := by decide +kernel
theorem dX10_which_287 : decode cX10_which 287 = .ok (.goto 4, 3) := by decide +kernel
theorem dX10_which_290 : decode cX10_which 290 = .ok (.iconst (-1), 1) := by decide +kernel
theorem dX10_which_291 : decode cX10_which 291 = .ok (.ireturn, 1) := by decide +kernel
set_option maxRecDepth 20000 in
theorem ggX10_fits_X10_isIn : GoodIn wsX10_fits wsX10_isIn := goodIn_r _ [4] (by decide +kernel) (by decide +kernel)
set_option maxRecDepth 20000 in
theorem gX10_fits_X10_isIn : GoodIn wsX10_fits (va_wsS RX10 76 yX10_isIn wsX10_isIn) := goodIn_app (goodIn_of _ (by decide +kernel)) ggX10_fits_X10_isIn
theorem dX10_fits_0 : decode cX10_fits 0 = .ok (.iload_n 0, 1) := by decide +kernel
theorem dX10_fits_1 : decode cX10_fits 1 = .ok (.tableswitch 88 0 7 #[47, 55, 65, 72, 88, 88, 88, 80], 47) := by decide +kernel
theorem dX10_fits_48 : decode cX10_fits 48 = .ok (.iload_n 1, 1) := by decide +kernel
theorem dX10_fits_49 : decode cX10_fits 49 = .ok (.iconst 0, 1) := by decide +kernel
theorem dX10_fits_50 : decode cX10_fits 50 = .ok (.bipush 100, 2) := by decide +kernel
theorem dX10_fits_52 : decode cX10_fits 52 = .ok (.invokestatic 76, 3) := by decide +kernel
theorem dX10_fits_55 : decode cX10_fits 55 = .ok (.ireturn, 1) := by decide +kernel
theorem dX10_fits_56 : decode cX10_fits 56 = .ok (.iload_n 1, 1) := by decide +kernel
theorem dX10_fits_57 : decode cX10_fits 57 = .ok (.bipush 100, 2) := by decide +kernel
theorem dX10_fits_59 : decode cX10_fits 59 = .ok (.sipush 400, 3) := by decide +kernel
theorem dX10_fits_62 : decode cX10_fits 62 = .ok (.invokestatic 76, 3) := by decide +kernel
theorem dX10_fits_65 : decode cX10_fits 65 = .ok (.ireturn, 1) := by decide +kernel
theorem dX10_fits_66 : decode cX10_fits 66 = .ok (.iload_n 1, 1) := by decide +kernel
theorem dX10_fits_67 : decode cX10_fits 67 = .ok (.iconst 0, 1) := by decide +kernel
theorem dX10_fits_68 : decode cX10_fits 68 = .ok (.iconst 1, 1) := by decide +kernel
theorem dX10_fits_69 : decode cX10_fits 69 = .ok (.invokestatic 76, 3) := by decide +kernel
theorem dX10_fits_72 : decode cX10_fits 72 = .ok (.ireturn, 1) := by decide +kernel
theorem dX10_fits_73 : decode cX10_fits 73 = .ok (.iload_n 1, 1) := by decide +kernel
theorem dX10_fits_74 : decode cX10_fits 74 = .ok (.iconst 0, 1) := by decide +kernel
theorem dX10_fits_75 : decode cX10_fits 75 = .ok (.bipush 40, 2) := by decide +kernel
theorem dX10_fits_77 : decode cX10_fits 77 = .ok (.invokestatic 76, 3) := by decide +kernel
theorem dX10_fits_80 : decode cX10_fits 80 = .ok (.ireturn, 1) := by decide +kernel
theorem dX10_fits_81 : decode cX10_fits 81 = .ok (.iload_n 1, 1) := by decide +kernel
theorem dX10_fits_82 : decode cX10_fits 82 = .ok (.iconst 0, 1) := by decide +kernel
theorem dX10_fits_83 : decode cX10_fits 83 = .ok (.bipush 9, 2) := by decide +kernel
theorem dX10_fits_85 : decode cX10_fits 85 = .ok (.invokestatic 76, 3) := by decide +kernel
theorem dX10_fits_88 : decode cX10_fits 88 = .ok (.ireturn, 1) := by decide +kernel
theorem dX10_fits_89 : decode cX10_fits 89 = .ok (.iload_n 1, 1) := by decide +kernel
theorem dX10_fits_90 : decode cX10_fits 90 = .ok (.iconst 0, 1) := by decide +kernel
theorem dX10_fits_91 : decode cX10_fits 91 = .ok (.bipush 50, 2) := by decide +kernel
theorem dX10_fits_93 : decode cX10_fits 93 = .ok (.invokestatic 76, 3) := by decide +kernel
theorem dX10_fits_96 : decode cX10_fits 96 = .ok (.ireturn, 1) := by decide +kernel
set_option maxRecDepth 20000 in
theorem ggX10_lays_X10_reads : GoodIn wsX10_lays wsX10_reads := goodIn_r _ [6, 7, 8, 9, 10, 11, 25, 26, 27, 28, 29, 30, 31, 32, 33, 34, 35, 36, 37, 38, 39, 40, 41, 42, 43, 44, 45, 46, 47, 48, 49, 50, 51, 52, 53, 54, 55, 56, 57, 58, 59] (by decide +kernel) (by decide +kernel)
set_option maxRecDepth 20000 in
theorem gX10_lays_X10_reads : GoodIn wsX10_lays (wsV RX10 103 RX10 yX10_reads wsX10_reads) := goodIn_app (goodIn_of _ (by decide +kernel)) ggX10_lays_X10_reads
set_option maxRecDepth 20000 in
theorem ggX10_lays_X10_number : GoodIn wsX10_lays wsX10_number := goodIn_r _ [15, 7, 10, 9, 16, 17, 5, 18, 25, 26, 27, 28, 29, 30, 31, 32, 33, 34, 35, 36, 37, 38, 39, 40, 41, 42, 43, 44, 45, 46, 47, 48, 49, 50, 51, 52, 53, 54, 55, 56, 57, 58, 59] (by decide +kernel) (by decide +kernel)
set_option maxRecDepth 20000 in
theorem gX10_lays_X10_number : GoodIn wsX10_lays (wsV RX10 107 RX10 yX10_number wsX10_number) := goodIn_app (goodIn_of _ (by decide +kernel)) ggX10_lays_X10_number
set_option maxRecDepth 20000 in
theorem ggX10_lays_X10_isInk : GoodIn wsX10_lays wsX10_isInk := goodIn_r _ [21, 16, 17, 5, 18] (by decide +kernel) (by decide +kernel)
set_option maxRecDepth 20000 in
theorem gX10_lays_X10_isInk : GoodIn wsX10_lays (va_wsS RX10 111 yX10_isInk wsX10_isInk) := goodIn_app (goodIn_of _ (by decide +kernel)) ggX10_lays_X10_isInk
set_option maxRecDepth 20000 in
theorem ggX10_lays_X10_fits : GoodIn wsX10_lays wsX10_fits := goodIn_r _ [24, 16, 17, 5, 18] (by decide +kernel) (by decide +kernel)
set_option maxRecDepth 20000 in
theorem gX10_lays_X10_fits : GoodIn wsX10_lays (va_wsS RX10 114 yX10_fits wsX10_fits) := goodIn_app (goodIn_of _ (by decide +kernel)) ggX10_lays_X10_fits
theorem dX10_lays_0 : decode cX10_lays 0 = .ok (.iconst 0, 1) := by decide +kernel
theorem dX10_lays_1 : decode cX10_lays 1 = .ok (.istore_n 2, 1) := by decide +kernel
theorem dX10_lays_2 : decode cX10_lays 2 = .ok (.iload_n 1, 1) := by decide +kernel
theorem dX10_lays_3 : decode cX10_lays 3 = .ok (.iconst 3, 1) := by decide +kernel
theorem dX10_lays_4 : decode cX10_lays 4 = .ok (.if_icmp .ne 19, 3) := by decide +kernel
theorem dX10_lays_7 : decode cX10_lays 7 = .ok (.aload_n 0, 1) := by decide +kernel
theorem dX10_lays_8 : decode cX10_lays 8 = .ok (.invokevirtual 103, 3) := by decide +kernel
theorem dX10_lays_11 : decode cX10_lays 11 = .ok (.ifCond .eq 10, 3) := by decide +kernel
theorem dX10_lays_14 : decode cX10_lays 14 = .ok (.aload_n 0, 1) := by decide +kernel
theorem dX10_lays_15 : decode cX10_lays 15 = .ok (.invokevirtual 107, 3) := by decide +kernel
theorem dX10_lays_18 : decode cX10_lays 18 = .ok (.goto 4, 3) := by decide +kernel
theorem dX10_lays_21 : decode cX10_lays 21 = .ok (.iconst (-1), 1) := by decide +kernel
theorem dX10_lays_22 : decode cX10_lays 22 = .ok (.istore_n 2, 1) := by decide +kernel
theorem dX10_lays_23 : decode cX10_lays 23 = .ok (.iload_n 2, 1) := by decide +kernel
theorem dX10_lays_24 : decode cX10_lays 24 = .ok (.invokestatic 111, 3) := by decide +kernel
theorem dX10_lays_27 : decode cX10_lays 27 = .ok (.ifCond .eq 17, 3) := by decide +kernel
theorem dX10_lays_30 : decode cX10_lays 30 = .ok (.aload_n 0, 1) := by decide +kernel
theorem dX10_lays_31 : decode cX10_lays 31 = .ok (.invokevirtual 103, 3) := by decide +kernel
theorem dX10_lays_34 : decode cX10_lays 34 = .ok (.ifCond .eq 10, 3) := by decide +kernel
theorem dX10_lays_37 : decode cX10_lays 37 = .ok (.aload_n 0, 1) := by decide +kernel
theorem dX10_lays_38 : decode cX10_lays 38 = .ok (.invokevirtual 107, 3) := by decide +kernel
theorem dX10_lays_41 : decode cX10_lays 41 = .ok (.goto 4, 3) := by decide +kernel
theorem dX10_lays_44 : decode cX10_lays 44 = .ok (.iconst (-1), 1) := by decide +kernel
theorem dX10_lays_45 : decode cX10_lays 45 = .ok (.istore_n 3, 1) := by decide +kernel
theorem dX10_lays_46 : decode cX10_lays 46 = .ok (.iload_n 3, 1) := by decide +kernel
theorem dX10_lays_47 : decode cX10_lays 47 = .ok (.iconst (-1), 1) := by decide +kernel
theorem dX10_lays_48 : decode cX10_lays 48 = .ok (.if_icmp .eq 15, 3) := by decide +kernel
theorem dX10_lays_51 : decode cX10_lays 51 = .ok (.iload_n 1, 1) := by decide +kernel
theorem dX10_lays_52 : decode cX10_lays 52 = .ok (.iload_n 3, 1) := by decide +kernel
theorem dX10_lays_53 : decode cX10_lays 53 = .ok (.invokestatic 114, 3) := by decide +kernel
theorem dX10_lays_56 : decode cX10_lays 56 = .ok (.ifCond .eq 7, 3) := by decide +kernel
theorem dX10_lays_59 : decode cX10_lays 59 = .ok (.iconst 1, 1) := by decide +kernel
theorem dX10_lays_60 : decode cX10_lays 60 = .ok (.goto 4, 3) := by decide +kernel
theorem dX10_lays_63 : decode cX10_lays 63 = .ok (.iconst 0, 1) := by decide +kernel
theorem dX10_lays_64 : decode cX10_lays 64 = .ok (.istore 4, 2) := by decide +kernel
theorem dX10_lays_66 : decode cX10_lays 66 = .ok (.iload 4, 2) := by decide +kernel
theorem dX10_lays_68 : decode cX10_lays 68 = .ok (.ifCond .eq 12, 3) := by decide +kernel
theorem dX10_lays_71 : decode cX10_lays 71 = .ok (.aload_n 0, 1) := by decide +kernel
theorem dX10_lays_72 : decode cX10_lays 72 = .ok (.getfield 22, 3) := by decide +kernel
theorem dX10_lays_75 : decode cX10_lays 75 = .ok (.iload_n 1, 1) := by decide +kernel
theorem dX10_lays_76 : decode cX10_lays 76 = .ok (.iload_n 2, 1) := by decide +kernel
theorem dX10_lays_77 : decode cX10_lays 77 = .ok (.iadd, 1) := by decide +kernel
theorem dX10_lays_78 : decode cX10_lays 78 = .ok (.iload_n 3, 1) := by decide +kernel
theorem dX10_lays_79 : decode cX10_lays 79 = .ok (.iastore, 1) := by decide +kernel
theorem dX10_lays_80 : decode cX10_lays 80 = .ok (.iload 4, 2) := by decide +kernel
theorem dX10_lays_82 : decode cX10_lays 82 = .ok (.ireturn, 1) := by decide +kernel
set_option maxRecDepth 20000 in
theorem ggX10_apply_X10_reads : GoodIn wsX10_apply wsX10_reads := goodIn_r _ [11, 4, 6, 12, 13, 5, 39, 40, 41, 42, 43, 44, 45, 46, 47, 48, 49, 50, 51, 52, 53, 54, 55, 56, 57, 58, 59, 60, 61, 62, 63, 64, 65, 66, 67, 68, 69, 70, 71, 72, 73] (by decide +kernel) (by decide +kernel)
set_option maxRecDepth 20000 in
theorem gX10_apply_X10_reads : GoodIn wsX10_apply (wsV RX10 103 RX10 yX10_reads wsX10_reads) := goodIn_app (goodIn_of _ (by decide +kernel)) ggX10_apply_X10_reads
set_option maxRecDepth 20000 in
theorem ggX10_apply_X10_which : GoodIn wsX10_apply wsX10_which := goodIn_r _ [17, 4, 13, 12, 18, 19, 20, 10, 21, 39, 40, 41, 42, 43, 44, 45, 46, 47, 48, 49, 50, 51, 52, 53, 54, 55, 56, 57, 58, 59, 60, 61, 62, 63, 64, 65, 66, 67, 68, 69, 70, 71, 72, 73] (by decide +kernel) (by decide +kernel)
set_option maxRecDepth 20000 in
theorem gX10_apply_X10_which : GoodIn wsX10_apply (wsV RX10 118 RX10 yX10_which wsX10_which) := goodIn_app (goodIn_of _ (by decide +kernel)) ggX10_apply_X10_which
set_option maxRecDepth 20000 in
theorem ggX10_apply_X10_lays : GoodIn wsX10_apply wsX10_lays := goodIn_r _ [25, 2, 7, 8, 9, 10, 11, 4, 6, 12, 13, 5, 26, 27, 28, 29, 30, 31, 32, 33, 34, 35, 36, 37, 38, 39, 40, 41, 42, 43, 44, 45, 46, 47, 48, 49, 50, 51, 52, 53, 54, 55, 56, 57, 58, 59, 60, 61, 62, 63, 64, 65, 66, 67, 68, 69, 70, 71, 72, 73] (by decide +kernel) (by decide +kernel)
set_option maxRecDepth 20000 in
theorem gX10_apply_X10_lays : GoodIn wsX10_apply (wsV RX10 121 RX10 yX10_lays wsX10_lays) := goodIn_app (goodIn_of _ (by decide +kernel)) ggX10_apply_X10_lays
theorem dX10_apply_0 : decode cX10_apply 0 = .ok (.aload_n 0, 1) := by decide +kernel
theorem dX10_apply_1 : decode cX10_apply 1 = .ok (.iconst 0, 1) := by decide +kernel
theorem dX10_apply_2 : decode cX10_apply 2 = .ok (.putfield 72, 3) := by decide +kernel
theorem dX10_apply_5 : decode cX10_apply 5 = .ok (.iconst 0, 1) := by decide +kernel
theorem dX10_apply_6 : decode cX10_apply 6 = .ok (.istore_n 1, 1) := by decide +kernel
theorem dX10_apply_7 : decode cX10_apply 7 = .ok (.iload_n 1, 1) := by decide +kernel
theorem dX10_apply_8 : decode cX10_apply 8 = .ok (.bipush 9, 2) := by decide +kernel
theorem dX10_apply_10 : decode cX10_apply 10 = .ok (.if_icmp .ge 21, 3) := by decide +kernel
theorem dX10_apply_13 : decode cX10_apply 13 = .ok (.aload_n 0, 1) := by decide +kernel
theorem dX10_apply_14 : decode cX10_apply 14 = .ok (.getfield 22, 3) := by decide +kernel
theorem dX10_apply_17 : decode cX10_apply 17 = .ok (.iload_n 1, 1) := by decide +kernel
theorem dX10_apply_18 : decode cX10_apply 18 = .ok (.aload_n 0, 1) := by decide +kernel
theorem dX10_apply_19 : decode cX10_apply 19 = .ok (.getfield 19, 3) := by decide +kernel
theorem dX10_apply_22 : decode cX10_apply 22 = .ok (.iload_n 1, 1) := by decide +kernel
theorem dX10_apply_23 : decode cX10_apply 23 = .ok (.iaload, 1) := by decide +kernel
theorem dX10_apply_24 : decode cX10_apply 24 = .ok (.iastore, 1) := by decide +kernel
theorem dX10_apply_25 : decode cX10_apply 25 = .ok (.iinc 1 1, 3) := by decide +kernel
theorem dX10_apply_28 : decode cX10_apply 28 = .ok (.goto (-21), 3) := by decide +kernel
theorem dX10_apply_31 : decode cX10_apply 31 = .ok (.aload_n 0, 1) := by decide +kernel
theorem dX10_apply_32 : decode cX10_apply 32 = .ok (.iconst 0, 1) := by decide +kernel
theorem dX10_apply_33 : decode cX10_apply 33 = .ok (.putfield 90, 3) := by decide +kernel
theorem dX10_apply_36 : decode cX10_apply 36 = .ok (.aload_n 0, 1) := by decide +kernel
theorem dX10_apply_37 : decode cX10_apply 37 = .ok (.iconst 0, 1) := by decide +kernel
theorem dX10_apply_38 : decode cX10_apply 38 = .ok (.putfield 96, 3) := by decide +kernel
theorem dX10_apply_41 : decode cX10_apply 41 = .ok (.iconst 0, 1) := by decide +kernel
theorem dX10_apply_42 : decode cX10_apply 42 = .ok (.istore_n 1, 1) := by decide +kernel
theorem dX10_apply_43 : decode cX10_apply 43 = .ok (.iconst 0, 1) := by decide +kernel
theorem dX10_apply_44 : decode cX10_apply 44 = .ok (.istore_n 2, 1) := by decide +kernel
theorem dX10_apply_45 : decode cX10_apply 45 = .ok (.iload_n 2, 1) := by decide +kernel
theorem dX10_apply_46 : decode cX10_apply 46 = .ok (.ifCond .ne 48, 3) := by decide +kernel
theorem dX10_apply_49 : decode cX10_apply 49 = .ok (.aload_n 0, 1) := by decide +kernel
theorem dX10_apply_50 : decode cX10_apply 50 = .ok (.invokevirtual 103, 3) := by decide +kernel
theorem dX10_apply_53 : decode cX10_apply 53 = .ok (.ifCond .eq 41, 3) := by decide +kernel
theorem dX10_apply_56 : decode cX10_apply 56 = .ok (.aload_n 0, 1) := by decide +kernel
theorem dX10_apply_57 : decode cX10_apply 57 = .ok (.getfield 96, 3) := by decide +kernel
theorem dX10_apply_60 : decode cX10_apply 60 = .ok (.istore_n 3, 1) := by decide +kernel
theorem dX10_apply_61 : decode cX10_apply 61 = .ok (.aload_n 0, 1) := by decide +kernel
theorem dX10_apply_62 : decode cX10_apply 62 = .ok (.invokevirtual 118, 3) := by decide +kernel
theorem dX10_apply_65 : decode cX10_apply 65 = .ok (.istore 4, 2) := by decide +kernel
theorem dX10_apply_67 : decode cX10_apply 67 = .ok (.iload 4, 2) := by decide +kernel
theorem dX10_apply_69 : decode cX10_apply 69 = .ok (.iconst (-1), 1) := by decide +kernel
theorem dX10_apply_70 : decode cX10_apply 70 = .ok (.if_icmp .eq 16, 3) := by decide +kernel
theorem dX10_apply_73 : decode cX10_apply 73 = .ok (.aload_n 0, 1) := by decide +kernel
theorem dX10_apply_74 : decode cX10_apply 74 = .ok (.iload 4, 2) := by decide +kernel
theorem dX10_apply_76 : decode cX10_apply 76 = .ok (.invokevirtual 121, 3) := by decide +kernel
theorem dX10_apply_79 : decode cX10_apply 79 = .ok (.ifCond .eq 7, 3) := by decide +kernel
theorem dX10_apply_82 : decode cX10_apply 82 = .ok (.iconst 0, 1) := by decide +kernel
theorem dX10_apply_83 : decode cX10_apply 83 = .ok (.goto 4, 3) := by decide +kernel
theorem dX10_apply_86 : decode cX10_apply 86 = .ok (.iload_n 3, 1) := by decide +kernel
theorem dX10_apply_87 : decode cX10_apply 87 = .ok (.istore_n 2, 1) := by decide +kernel
theorem dX10_apply_88 : decode cX10_apply 88 = .ok (.iinc 1 1, 3) := by decide +kernel
theorem dX10_apply_91 : decode cX10_apply 91 = .ok (.goto (-46), 3) := by decide +kernel
theorem dX10_apply_94 : decode cX10_apply 94 = .ok (.aload_n 0, 1) := by decide +kernel
theorem dX10_apply_95 : decode cX10_apply 95 = .ok (.iconst 0, 1) := by decide +kernel
theorem dX10_apply_96 : decode cX10_apply 96 = .ok (.putfield 87, 3) := by decide +kernel
theorem dX10_apply_99 : decode cX10_apply 99 = .ok (.iconst 0, 1) := by decide +kernel
theorem dX10_apply_100 : decode cX10_apply 100 = .ok (.istore_n 3, 1) := by decide +kernel
theorem dX10_apply_101 : decode cX10_apply 101 = .ok (.iload_n 3, 1) := by decide +kernel
theorem dX10_apply_102 : decode cX10_apply 102 = .ok (.bipush 9, 2) := by decide +kernel
theorem dX10_apply_104 : decode cX10_apply 104 = .ok (.if_icmp .ge 25, 3) := by decide +kernel
theorem dX10_apply_107 : decode cX10_apply 107 = .ok (.iload_n 2, 1) := by decide +kernel
theorem dX10_apply_108 : decode cX10_apply 108 = .ok (.ifCond .ne 21, 3) := by decide +kernel
theorem dX10_apply_111 : decode cX10_apply 111 = .ok (.aload_n 0, 1) := by decide +kernel
theorem dX10_apply_112 : decode cX10_apply 112 = .ok (.getfield 19, 3) := by decide +kernel
theorem dX10_apply_115 : decode cX10_apply 115 = .ok (.iload_n 3, 1) := by decide +kernel
theorem dX10_apply_116 : decode cX10_apply 116 = .ok (.aload_n 0, 1) := by decide +kernel
theorem dX10_apply_117 : decode cX10_apply 117 = .ok (.getfield 22, 3) := by decide +kernel
theorem dX10_apply_120 : decode cX10_apply 120 = .ok (.iload_n 3, 1) := by decide +kernel
theorem dX10_apply_121 : decode cX10_apply 121 = .ok (.iaload, 1) := by decide +kernel
theorem dX10_apply_122 : decode cX10_apply 122 = .ok (.iastore, 1) := by decide +kernel
theorem dX10_apply_123 : decode cX10_apply 123 = .ok (.iinc 3 1, 3) := by decide +kernel
theorem dX10_apply_126 : decode cX10_apply 126 = .ok (.goto (-25), 3) := by decide +kernel
theorem dX10_apply_129 : decode cX10_apply 129 = .ok (.iload_n 2, 1) := by decide +kernel
theorem dX10_apply_130 : decode cX10_apply 130 = .ok (.ifCond .le 8, 3) := by decide +kernel
theorem dX10_apply_133 : decode cX10_apply 133 = .ok (.iload_n 2, 1) := by decide +kernel
theorem dX10_apply_134 : decode cX10_apply 134 = .ok (.ineg, 1) := by decide +kernel
theorem dX10_apply_135 : decode cX10_apply 135 = .ok (.goto 4, 3) := by decide +kernel
theorem dX10_apply_138 : decode cX10_apply 138 = .ok (.iload_n 1, 1) := by decide +kernel
theorem dX10_apply_139 : decode cX10_apply 139 = .ok (.ireturn, 1) := by decide +kernel
theorem dX10_light_0 : decode cX10_light 0 = .ok (.aload_n 0, 1) := by decide +kernel
theorem dX10_light_1 : decode cX10_light 1 = .ok (.getfield 7, 3) := by decide +kernel
theorem dX10_light_4 : decode cX10_light 4 = .ok (.iload_n 1, 1) := by decide +kernel
theorem dX10_light_5 : decode cX10_light 5 = .ok (.iaload, 1) := by decide +kernel
theorem dX10_light_6 : decode cX10_light 6 = .ok (.aload_n 0, 1) := by decide +kernel
theorem dX10_light_7 : decode cX10_light 7 = .ok (.getfield 13, 3) := by decide +kernel
theorem dX10_light_10 : decode cX10_light 10 = .ok (.iload_n 1, 1) := by decide +kernel
theorem dX10_light_11 : decode cX10_light 11 = .ok (.iaload, 1) := by decide +kernel
theorem dX10_light_12 : decode cX10_light 12 = .ok (.iadd, 1) := by decide +kernel
theorem dX10_light_13 : decode cX10_light 13 = .ok (.aload_n 0, 1) := by decide +kernel
theorem dX10_light_14 : decode cX10_light 14 = .ok (.getfield 16, 3) := by decide +kernel
theorem dX10_light_17 : decode cX10_light 17 = .ok (.iload_n 1, 1) := by decide +kernel
theorem dX10_light_18 : decode cX10_light 18 = .ok (.iaload, 1) := by decide +kernel
theorem dX10_light_19 : decode cX10_light 19 = .ok (.iadd, 1) := by decide +kernel
theorem dX10_light_20 : decode cX10_light 20 = .ok (.ireturn, 1) := by decide +kernel
set_option maxRecDepth 20000 in
theorem ggX10_blackOf_X10_lesser : GoodIn wsX10_blackOf wsX10_lesser := goodIn_r _ [8] (by decide +kernel) (by decide +kernel)
set_option maxRecDepth 20000 in
theorem gX10_blackOf_X10_lesser : GoodIn wsX10_blackOf (va_wsS RX10 124 yX10_lesser wsX10_lesser) := goodIn_app (goodIn_of _ (by decide +kernel)) ggX10_blackOf_X10_lesser
theorem dX10_blackOf_0 : decode cX10_blackOf 0 = .ok (.bipush 100, 2) := by decide +kernel
theorem dX10_blackOf_2 : decode cX10_blackOf 2 = .ok (.aload_n 0, 1) := by decide +kernel
theorem dX10_blackOf_3 : decode cX10_blackOf 3 = .ok (.getfield 7, 3) := by decide +kernel
theorem dX10_blackOf_6 : decode cX10_blackOf 6 = .ok (.iload_n 1, 1) := by decide +kernel
theorem dX10_blackOf_7 : decode cX10_blackOf 7 = .ok (.iaload, 1) := by decide +kernel
theorem dX10_blackOf_8 : decode cX10_blackOf 8 = .ok (.isub, 1) := by decide +kernel
theorem dX10_blackOf_9 : decode cX10_blackOf 9 = .ok (.bipush 100, 2) := by decide +kernel
theorem dX10_blackOf_11 : decode cX10_blackOf 11 = .ok (.aload_n 0, 1) := by decide +kernel
theorem dX10_blackOf_12 : decode cX10_blackOf 12 = .ok (.getfield 13, 3) := by decide +kernel
theorem dX10_blackOf_15 : decode cX10_blackOf 15 = .ok (.iload_n 1, 1) := by decide +kernel
theorem dX10_blackOf_16 : decode cX10_blackOf 16 = .ok (.iaload, 1) := by decide +kernel
theorem dX10_blackOf_17 : decode cX10_blackOf 17 = .ok (.isub, 1) := by decide +kernel
theorem dX10_blackOf_18 : decode cX10_blackOf 18 = .ok (.bipush 100, 2) := by decide +kernel
theorem dX10_blackOf_20 : decode cX10_blackOf 20 = .ok (.aload_n 0, 1) := by decide +kernel
theorem dX10_blackOf_21 : decode cX10_blackOf 21 = .ok (.getfield 16, 3) := by decide +kernel
theorem dX10_blackOf_24 : decode cX10_blackOf 24 = .ok (.iload_n 1, 1) := by decide +kernel
theorem dX10_blackOf_25 : decode cX10_blackOf 25 = .ok (.iaload, 1) := by decide +kernel
theorem dX10_blackOf_26 : decode cX10_blackOf 26 = .ok (.isub, 1) := by decide +kernel
theorem dX10_blackOf_27 : decode cX10_blackOf 27 = .ok (.invokestatic 124, 3) := by decide +kernel
theorem dX10_blackOf_30 : decode cX10_blackOf 30 = .ok (.invokestatic 124, 3) := by decide +kernel
theorem dX10_blackOf_33 : decode cX10_blackOf 33 = .ok (.aload_n 0, 1) := by decide +kernel
theorem dX10_blackOf_34 : decode cX10_blackOf 34 = .ok (.getfield 19, 3) := by decide +kernel
theorem dX10_blackOf_37 : decode cX10_blackOf 37 = .ok (.iconst 0, 1) := by decide +kernel
theorem dX10_blackOf_38 : decode cX10_blackOf 38 = .ok (.iaload, 1) := by decide +kernel
theorem dX10_blackOf_39 : decode cX10_blackOf 39 = .ok (.imul, 1) := by decide +kernel
theorem dX10_blackOf_40 : decode cX10_blackOf 40 = .ok (.bipush 100, 2) := by decide +kernel
theorem dX10_blackOf_42 : decode cX10_blackOf 42 = .ok (.idiv, 1) := by decide +kernel
theorem dX10_blackOf_43 : decode cX10_blackOf 43 = .ok (.ireturn, 1) := by decide +kernel
set_option maxRecDepth 20000 in
theorem ggX10_plain_X10_blackOf : GoodIn wsX10_plain wsX10_blackOf := goodIn_r _ [9, 1, 2, 3, 4, 10, 11, 8, 12, 17, 18, 19, 20, 21, 22, 23, 24, 25, 26, 27, 28, 29, 30, 31, 32, 33, 34, 35, 36, 37, 38, 39, 40, 41, 42, 43, 44, 45, 46, 47, 48, 49, 50, 51] (by decide +kernel) (by decide +kernel)
set_option maxRecDepth 20000 in
theorem gX10_plain_X10_blackOf : GoodIn wsX10_plain (wsV RX10 128 RX10 yX10_blackOf wsX10_blackOf) := goodIn_app (goodIn_of _ (by decide +kernel)) ggX10_plain_X10_blackOf
set_option maxRecDepth 20000 in
theorem ggX10_plain_X10_light : GoodIn wsX10_plain wsX10_light := goodIn_r _ [16, 1, 2, 3, 17, 18, 19, 20, 21, 22, 23, 24, 25, 26, 27, 28, 29, 30, 31, 32, 33, 34, 35, 36, 37, 38, 39, 40, 41, 42, 43, 44, 45, 46, 47, 48, 49, 50, 51] (by decide +kernel) (by decide +kernel)
set_option maxRecDepth 20000 in
theorem gX10_plain_X10_light : GoodIn wsX10_plain (wsV RX10 132 RX10 yX10_light wsX10_light) := goodIn_app (goodIn_of _ (by decide +kernel)) ggX10_plain_X10_light
theorem dX10_plain_0 : decode cX10_plain 0 = .ok (.aload_n 0, 1) := by decide +kernel
theorem dX10_plain_1 : decode cX10_plain 1 = .ok (.iload_n 1, 1) := by decide +kernel
theorem dX10_plain_2 : decode cX10_plain 2 = .ok (.invokevirtual 128, 3) := by decide +kernel
theorem dX10_plain_5 : decode cX10_plain 5 = .ok (.istore_n 3, 1) := by decide +kernel
theorem dX10_plain_6 : decode cX10_plain 6 = .ok (.sipush 300, 3) := by decide +kernel
theorem dX10_plain_9 : decode cX10_plain 9 = .ok (.aload_n 0, 1) := by decide +kernel
theorem dX10_plain_10 : decode cX10_plain 10 = .ok (.iload_n 1, 1) := by decide +kernel
theorem dX10_plain_11 : decode cX10_plain 11 = .ok (.invokevirtual 132, 3) := by decide +kernel
theorem dX10_plain_14 : decode cX10_plain 14 = .ok (.isub, 1) := by decide +kernel
theorem dX10_plain_15 : decode cX10_plain 15 = .ok (.iconst 3, 1) := by decide +kernel
theorem dX10_plain_16 : decode cX10_plain 16 = .ok (.iload_n 3, 1) := by decide +kernel
theorem dX10_plain_17 : decode cX10_plain 17 = .ok (.imul, 1) := by decide +kernel
theorem dX10_plain_18 : decode cX10_plain 18 = .ok (.isub, 1) := by decide +kernel
theorem dX10_plain_19 : decode cX10_plain 19 = .ok (.istore 4, 2) := by decide +kernel
theorem dX10_plain_21 : decode cX10_plain 21 = .ok (.iload_n 2, 1) := by decide +kernel
theorem dX10_plain_22 : decode cX10_plain 22 = .ok (.ifCond .ne 17, 3) := by decide +kernel
theorem dX10_plain_25 : decode cX10_plain 25 = .ok (.bipush 100, 2) := by decide +kernel
theorem dX10_plain_27 : decode cX10_plain 27 = .ok (.aload_n 0, 1) := by decide +kernel
theorem dX10_plain_28 : decode cX10_plain 28 = .ok (.getfield 7, 3) := by decide +kernel
theorem dX10_plain_31 : decode cX10_plain 31 = .ok (.iload_n 1, 1) := by decide +kernel
theorem dX10_plain_32 : decode cX10_plain 32 = .ok (.iaload, 1) := by decide +kernel
theorem dX10_plain_33 : decode cX10_plain 33 = .ok (.isub, 1) := by decide +kernel
theorem dX10_plain_34 : decode cX10_plain 34 = .ok (.iload_n 3, 1) := by decide +kernel
theorem dX10_plain_35 : decode cX10_plain 35 = .ok (.isub, 1) := by decide +kernel
theorem dX10_plain_36 : decode cX10_plain 36 = .ok (.goto 33, 3) := by decide +kernel
theorem dX10_plain_39 : decode cX10_plain 39 = .ok (.iload_n 2, 1) := by decide +kernel
theorem dX10_plain_40 : decode cX10_plain 40 = .ok (.iconst 1, 1) := by decide +kernel
theorem dX10_plain_41 : decode cX10_plain 41 = .ok (.if_icmp .ne 17, 3) := by decide +kernel
theorem dX10_plain_44 : decode cX10_plain 44 = .ok (.bipush 100, 2) := by decide +kernel
theorem dX10_plain_46 : decode cX10_plain 46 = .ok (.aload_n 0, 1) := by decide +kernel
theorem dX10_plain_47 : decode cX10_plain 47 = .ok (.getfield 13, 3) := by decide +kernel
theorem dX10_plain_50 : decode cX10_plain 50 = .ok (.iload_n 1, 1) := by decide +kernel
theorem dX10_plain_51 : decode cX10_plain 51 = .ok (.iaload, 1) := by decide +kernel
theorem dX10_plain_52 : decode cX10_plain 52 = .ok (.isub, 1) := by decide +kernel
theorem dX10_plain_53 : decode cX10_plain 53 = .ok (.iload_n 3, 1) := by decide +kernel
theorem dX10_plain_54 : decode cX10_plain 54 = .ok (.isub, 1) := by decide +kernel
theorem dX10_plain_55 : decode cX10_plain 55 = .ok (.goto 14, 3) := by decide +kernel
theorem dX10_plain_58 : decode cX10_plain 58 = .ok (.bipush 100, 2) := by decide +kernel
theorem dX10_plain_60 : decode cX10_plain 60 = .ok (.aload_n 0, 1) := by decide +kernel
theorem dX10_plain_61 : decode cX10_plain 61 = .ok (.getfield 16, 3) := by decide +kernel
theorem dX10_plain_64 : decode cX10_plain 64 = .ok (.iload_n 1, 1) := by decide +kernel
theorem dX10_plain_65 : decode cX10_plain 65 = .ok (.iaload, 1) := by decide +kernel
theorem dX10_plain_66 : decode cX10_plain 66 = .ok (.isub, 1) := by decide +kernel
theorem dX10_plain_67 : decode cX10_plain 67 = .ok (.iload_n 3, 1) := by decide +kernel
theorem dX10_plain_68 : decode cX10_plain 68 = .ok (.isub, 1) := by decide +kernel
theorem dX10_plain_69 : decode cX10_plain 69 = .ok (.istore 5, 2) := by decide +kernel
theorem dX10_plain_71 : decode cX10_plain 71 = .ok (.iload_n 2, 1) := by decide +kernel
theorem dX10_plain_72 : decode cX10_plain 72 = .ok (.iconst 3, 1) := by decide +kernel
theorem dX10_plain_73 : decode cX10_plain 73 = .ok (.if_icmp .ne 5, 3) := by decide +kernel
theorem dX10_plain_76 : decode cX10_plain 76 = .ok (.iload_n 3, 1) := by decide +kernel
theorem dX10_plain_77 : decode cX10_plain 77 = .ok (.ireturn, 1) := by decide +kernel
theorem dX10_plain_78 : decode cX10_plain 78 = .ok (.iload 4, 2) := by decide +kernel
theorem dX10_plain_80 : decode cX10_plain 80 = .ok (.iload_n 3, 1) := by decide +kernel
theorem dX10_plain_81 : decode cX10_plain 81 = .ok (.iadd, 1) := by decide +kernel
theorem dX10_plain_82 : decode cX10_plain 82 = .ok (.aload_n 0, 1) := by decide +kernel
theorem dX10_plain_83 : decode cX10_plain 83 = .ok (.getfield 19, 3) := by decide +kernel
theorem dX10_plain_86 : decode cX10_plain 86 = .ok (.iconst 1, 1) := by decide +kernel
theorem dX10_plain_87 : decode cX10_plain 87 = .ok (.iaload, 1) := by decide +kernel
theorem dX10_plain_88 : decode cX10_plain 88 = .ok (.if_icmp .le 20, 3) := by decide +kernel
theorem dX10_plain_91 : decode cX10_plain 91 = .ok (.iload 5, 2) := by decide +kernel
theorem dX10_plain_93 : decode cX10_plain 93 = .ok (.aload_n 0, 1) := by decide +kernel
theorem dX10_plain_94 : decode cX10_plain 94 = .ok (.getfield 19, 3) := by decide +kernel
theorem dX10_plain_97 : decode cX10_plain 97 = .ok (.iconst 1, 1) := by decide +kernel
theorem dX10_plain_98 : decode cX10_plain 98 = .ok (.iaload, 1) := by decide +kernel
theorem dX10_plain_99 : decode cX10_plain 99 = .ok (.iload_n 3, 1) := by decide +kernel
theorem dX10_plain_100 : decode cX10_plain 100 = .ok (.isub, 1) := by decide +kernel
theorem dX10_plain_101 : decode cX10_plain 101 = .ok (.imul, 1) := by decide +kernel
theorem dX10_plain_102 : decode cX10_plain 102 = .ok (.iload 4, 2) := by decide +kernel
theorem dX10_plain_104 : decode cX10_plain 104 = .ok (.idiv, 1) := by decide +kernel
theorem dX10_plain_105 : decode cX10_plain 105 = .ok (.goto 5, 3) := by decide +kernel
theorem dX10_plain_108 : decode cX10_plain 108 = .ok (.iload 5, 2) := by decide +kernel
theorem dX10_plain_110 : decode cX10_plain 110 = .ok (.ireturn, 1) := by decide +kernel
set_option maxRecDepth 20000 in
theorem ggX10_greater_X10_light : GoodIn wsX10_greater wsX10_light := goodIn_r _ [5, 6, 7, 8, 21, 22, 23, 24, 25, 26, 27, 28, 29, 30, 31, 32, 33, 34, 35, 36, 37, 38, 39, 40, 41, 42, 43, 44, 45, 46, 47, 48, 49, 50, 51, 52, 53, 54, 55] (by decide +kernel) (by decide +kernel)
set_option maxRecDepth 20000 in
theorem gX10_greater_X10_light : GoodIn wsX10_greater (wsV RX10 132 RX10 yX10_light wsX10_light) := goodIn_app (goodIn_of _ (by decide +kernel)) ggX10_greater_X10_light
set_option maxRecDepth 20000 in
theorem ggX10_greater_X10_plain : GoodIn wsX10_greater wsX10_plain := goodIn_r _ [12, 6, 7, 8, 13, 14, 15, 16, 4, 17, 18, 19, 20, 1, 2, 3, 5, 21, 22, 23, 24, 25, 26, 27, 28, 29, 30, 31, 32, 33, 34, 35, 36, 37, 38, 39, 40, 41, 42, 43, 44, 45, 46, 47, 48, 49, 50, 51, 52, 53, 54, 55] (by decide +kernel) (by decide +kernel)
set_option maxRecDepth 20000 in
theorem gX10_greater_X10_plain : GoodIn wsX10_greater (wsV RX10 135 RX10 yX10_plain wsX10_plain) := goodIn_app (goodIn_of _ (by decide +kernel)) ggX10_greater_X10_plain
theorem dX10_greater_0 : decode cX10_greater 0 = .ok (.aload_n 0, 1) := by decide +kernel
theorem dX10_greater_1 : decode cX10_greater 1 = .ok (.iload_n 2, 1) := by decide +kernel
theorem dX10_greater_2 : decode cX10_greater 2 = .ok (.invokevirtual 132, 3) := by decide +kernel
theorem dX10_greater_5 : decode cX10_greater 5 = .ok (.aload_n 0, 1) := by decide +kernel
theorem dX10_greater_6 : decode cX10_greater 6 = .ok (.iload_n 1, 1) := by decide +kernel
theorem dX10_greater_7 : decode cX10_greater 7 = .ok (.invokevirtual 132, 3) := by decide +kernel
theorem dX10_greater_10 : decode cX10_greater 10 = .ok (.if_icmp .le 12, 3) := by decide +kernel
theorem dX10_greater_13 : decode cX10_greater 13 = .ok (.aload_n 0, 1) := by decide +kernel
theorem dX10_greater_14 : decode cX10_greater 14 = .ok (.iload_n 2, 1) := by decide +kernel
theorem dX10_greater_15 : decode cX10_greater 15 = .ok (.iload_n 3, 1) := by decide +kernel
theorem dX10_greater_16 : decode cX10_greater 16 = .ok (.invokevirtual 135, 3) := by decide +kernel
theorem dX10_greater_19 : decode cX10_greater 19 = .ok (.goto 4, 3) := by decide +kernel
theorem dX10_greater_22 : decode cX10_greater 22 = .ok (.iconst 0, 1) := by decide +kernel
theorem dX10_greater_23 : decode cX10_greater 23 = .ok (.istore 5, 2) := by decide +kernel
theorem dX10_greater_25 : decode cX10_greater 25 = .ok (.iload 5, 2) := by decide +kernel
theorem dX10_greater_27 : decode cX10_greater 27 = .ok (.iload 4, 2) := by decide +kernel
theorem dX10_greater_29 : decode cX10_greater 29 = .ok (.if_icmp .le 8, 3) := by decide +kernel
theorem dX10_greater_32 : decode cX10_greater 32 = .ok (.iload 5, 2) := by decide +kernel
theorem dX10_greater_34 : decode cX10_greater 34 = .ok (.goto 5, 3) := by decide +kernel
theorem dX10_greater_37 : decode cX10_greater 37 = .ok (.iload 4, 2) := by decide +kernel
theorem dX10_greater_39 : decode cX10_greater 39 = .ok (.ireturn, 1) := by decide +kernel
set_option maxRecDepth 20000 in
theorem ggX10_wanted_X10_plain : GoodIn wsX10_wanted wsX10_plain := goodIn_r _ [6, 7, 8, 9, 1, 10, 11, 12, 5, 13, 14, 15, 16, 17, 18, 19, 20, 25, 26, 27, 28, 29, 30, 31, 32, 33, 34, 35, 36, 37, 38, 39, 40, 41, 42, 43, 44, 45, 46, 47, 48, 49, 50, 51, 52, 53, 54, 55, 56, 57, 58, 59] (by decide +kernel) (by decide +kernel)
set_option maxRecDepth 20000 in
theorem gX10_wanted_X10_plain : GoodIn wsX10_wanted (wsV RX10 135 RX10 yX10_plain wsX10_plain) := goodIn_app (goodIn_of _ (by decide +kernel)) ggX10_wanted_X10_plain
set_option maxRecDepth 20000 in
theorem ggX10_wanted_X10_greater : GoodIn wsX10_wanted wsX10_greater := goodIn_r _ [24, 17, 18, 19, 5, 20, 7, 8, 9, 2, 3, 4, 6, 1, 10, 11, 12, 13, 14, 15, 16, 25, 26, 27, 28, 29, 30, 31, 32, 33, 34, 35, 36, 37, 38, 39, 40, 41, 42, 43, 44, 45, 46, 47, 48, 49, 50, 51, 52, 53, 54, 55, 56, 57, 58, 59] (by decide +kernel) (by decide +kernel)
set_option maxRecDepth 20000 in
theorem gX10_wanted_X10_greater : GoodIn wsX10_wanted (wsV RX10 138 RX10 yX10_greater wsX10_greater) := goodIn_app (goodIn_of _ (by decide +kernel)) ggX10_wanted_X10_greater
theorem dX10_wanted_0 : decode cX10_wanted 0 = .ok (.aload_n 0, 1) := by decide +kernel
theorem dX10_wanted_1 : decode cX10_wanted 1 = .ok (.iload_n 1, 1) := by decide +kernel
theorem dX10_wanted_2 : decode cX10_wanted 2 = .ok (.iload_n 2, 1) := by decide +kernel
theorem dX10_wanted_3 : decode cX10_wanted 3 = .ok (.invokevirtual 135, 3) := by decide +kernel
theorem dX10_wanted_6 : decode cX10_wanted 6 = .ok (.istore_n 3, 1) := by decide +kernel
theorem dX10_wanted_7 : decode cX10_wanted 7 = .ok (.aload_n 0, 1) := by decide +kernel
theorem dX10_wanted_8 : decode cX10_wanted 8 = .ok (.getfield 19, 3) := by decide +kernel
theorem dX10_wanted_11 : decode cX10_wanted 11 = .ok (.iconst 2, 1) := by decide +kernel
theorem dX10_wanted_12 : decode cX10_wanted 12 = .ok (.iaload, 1) := by decide +kernel
theorem dX10_wanted_13 : decode cX10_wanted 13 = .ok (.ifCond .eq 8, 3) := by decide +kernel
theorem dX10_wanted_16 : decode cX10_wanted 16 = .ok (.iload_n 2, 1) := by decide +kernel
theorem dX10_wanted_17 : decode cX10_wanted 17 = .ok (.iconst 3, 1) := by decide +kernel
theorem dX10_wanted_18 : decode cX10_wanted 18 = .ok (.if_icmp .ne 5, 3) := by decide +kernel
theorem dX10_wanted_21 : decode cX10_wanted 21 = .ok (.iload_n 3, 1) := by decide +kernel
theorem dX10_wanted_22 : decode cX10_wanted 22 = .ok (.ireturn, 1) := by decide +kernel
theorem dX10_wanted_23 : decode cX10_wanted 23 = .ok (.iload_n 1, 1) := by decide +kernel
theorem dX10_wanted_24 : decode cX10_wanted 24 = .ok (.bipush 8, 2) := by decide +kernel
theorem dX10_wanted_26 : decode cX10_wanted 26 = .ok (.irem, 1) := by decide +kernel
theorem dX10_wanted_27 : decode cX10_wanted 27 = .ok (.ifCond .le 16, 3) := by decide +kernel
theorem dX10_wanted_30 : decode cX10_wanted 30 = .ok (.aload_n 0, 1) := by decide +kernel
theorem dX10_wanted_31 : decode cX10_wanted 31 = .ok (.iload_n 1, 1) := by decide +kernel
theorem dX10_wanted_32 : decode cX10_wanted 32 = .ok (.iload_n 1, 1) := by decide +kernel
theorem dX10_wanted_33 : decode cX10_wanted 33 = .ok (.iconst 1, 1) := by decide +kernel
theorem dX10_wanted_34 : decode cX10_wanted 34 = .ok (.isub, 1) := by decide +kernel
theorem dX10_wanted_35 : decode cX10_wanted 35 = .ok (.iload_n 2, 1) := by decide +kernel
theorem dX10_wanted_36 : decode cX10_wanted 36 = .ok (.iload_n 3, 1) := by decide +kernel
theorem dX10_wanted_37 : decode cX10_wanted 37 = .ok (.invokevirtual 138, 3) := by decide +kernel
theorem dX10_wanted_40 : decode cX10_wanted 40 = .ok (.goto 4, 3) := by decide +kernel
theorem dX10_wanted_43 : decode cX10_wanted 43 = .ok (.iload_n 3, 1) := by decide +kernel
theorem dX10_wanted_44 : decode cX10_wanted 44 = .ok (.istore_n 3, 1) := by decide +kernel
theorem dX10_wanted_45 : decode cX10_wanted 45 = .ok (.iload_n 1, 1) := by decide +kernel
theorem dX10_wanted_46 : decode cX10_wanted 46 = .ok (.bipush 8, 2) := by decide +kernel
theorem dX10_wanted_48 : decode cX10_wanted 48 = .ok (.irem, 1) := by decide +kernel
theorem dX10_wanted_49 : decode cX10_wanted 49 = .ok (.bipush 7, 2) := by decide +kernel
theorem dX10_wanted_51 : decode cX10_wanted 51 = .ok (.if_icmp .ge 16, 3) := by decide +kernel
theorem dX10_wanted_54 : decode cX10_wanted 54 = .ok (.aload_n 0, 1) := by decide +kernel
theorem dX10_wanted_55 : decode cX10_wanted 55 = .ok (.iload_n 1, 1) := by decide +kernel
theorem dX10_wanted_56 : decode cX10_wanted 56 = .ok (.iload_n 1, 1) := by decide +kernel
theorem dX10_wanted_57 : decode cX10_wanted 57 = .ok (.iconst 1, 1) := by decide +kernel
theorem dX10_wanted_58 : decode cX10_wanted 58 = .ok (.iadd, 1) := by decide +kernel
theorem dX10_wanted_59 : decode cX10_wanted 59 = .ok (.iload_n 2, 1) := by decide +kernel
theorem dX10_wanted_60 : decode cX10_wanted 60 = .ok (.iload_n 3, 1) := by decide +kernel
theorem dX10_wanted_61 : decode cX10_wanted 61 = .ok (.invokevirtual 138, 3) := by decide +kernel
theorem dX10_wanted_64 : decode cX10_wanted 64 = .ok (.goto 4, 3) := by decide +kernel
theorem dX10_wanted_67 : decode cX10_wanted 67 = .ok (.iload_n 3, 1) := by decide +kernel
theorem dX10_wanted_68 : decode cX10_wanted 68 = .ok (.istore_n 3, 1) := by decide +kernel
theorem dX10_wanted_69 : decode cX10_wanted 69 = .ok (.iload_n 1, 1) := by decide +kernel
theorem dX10_wanted_70 : decode cX10_wanted 70 = .ok (.bipush 8, 2) := by decide +kernel
theorem dX10_wanted_72 : decode cX10_wanted 72 = .ok (.if_icmp .lt 17, 3) := by decide +kernel
theorem dX10_wanted_75 : decode cX10_wanted 75 = .ok (.aload_n 0, 1) := by decide +kernel
theorem dX10_wanted_76 : decode cX10_wanted 76 = .ok (.iload_n 1, 1) := by decide +kernel
theorem dX10_wanted_77 : decode cX10_wanted 77 = .ok (.iload_n 1, 1) := by decide +kernel
theorem dX10_wanted_78 : decode cX10_wanted 78 = .ok (.bipush 8, 2) := by decide +kernel
theorem dX10_wanted_80 : decode cX10_wanted 80 = .ok (.isub, 1) := by decide +kernel
theorem dX10_wanted_81 : decode cX10_wanted 81 = .ok (.iload_n 2, 1) := by decide +kernel
theorem dX10_wanted_82 : decode cX10_wanted 82 = .ok (.iload_n 3, 1) := by decide +kernel
theorem dX10_wanted_83 : decode cX10_wanted 83 = .ok (.invokevirtual 138, 3) := by decide +kernel
theorem dX10_wanted_86 : decode cX10_wanted 86 = .ok (.goto 4, 3) := by decide +kernel
theorem dX10_wanted_89 : decode cX10_wanted 89 = .ok (.iload_n 3, 1) := by decide +kernel
theorem dX10_wanted_90 : decode cX10_wanted 90 = .ok (.istore_n 3, 1) := by decide +kernel
theorem dX10_wanted_91 : decode cX10_wanted 91 = .ok (.iload_n 1, 1) := by decide +kernel
theorem dX10_wanted_92 : decode cX10_wanted 92 = .ok (.bipush 56, 2) := by decide +kernel
theorem dX10_wanted_94 : decode cX10_wanted 94 = .ok (.if_icmp .ge 17, 3) := by decide +kernel
theorem dX10_wanted_97 : decode cX10_wanted 97 = .ok (.aload_n 0, 1) := by decide +kernel
theorem dX10_wanted_98 : decode cX10_wanted 98 = .ok (.iload_n 1, 1) := by decide +kernel
theorem dX10_wanted_99 : decode cX10_wanted 99 = .ok (.iload_n 1, 1) := by decide +kernel
theorem dX10_wanted_100 : decode cX10_wanted 100 = .ok (.bipush 8, 2) := by decide +kernel
theorem dX10_wanted_102 : decode cX10_wanted 102 = .ok (.iadd, 1) := by decide +kernel
theorem dX10_wanted_103 : decode cX10_wanted 103 = .ok (.iload_n 2, 1) := by decide +kernel
theorem dX10_wanted_104 : decode cX10_wanted 104 = .ok (.iload_n 3, 1) := by decide +kernel
theorem dX10_wanted_105 : decode cX10_wanted 105 = .ok (.invokevirtual 138, 3) := by decide +kernel
theorem dX10_wanted_108 : decode cX10_wanted 108 = .ok (.goto 4, 3) := by decide +kernel
theorem dX10_wanted_111 : decode cX10_wanted 111 = .ok (.iload_n 3, 1) := by decide +kernel
theorem dX10_wanted_112 : decode cX10_wanted 112 = .ok (.ireturn, 1) := by decide +kernel
theorem dX10_prints_0 : decode cX10_prints 0 = .ok (.iload_n 2, 1) := by decide +kernel
theorem dX10_prints_1 : decode cX10_prints 1 = .ok (.aload_n 0, 1) := by decide +kernel
theorem dX10_prints_2 : decode cX10_prints 2 = .ok (.getfield 19, 3) := by decide +kernel
theorem dX10_prints_5 : decode cX10_prints 5 = .ok (.iconst 3, 1) := by decide +kernel
theorem dX10_prints_6 : decode cX10_prints 6 = .ok (.iload_n 1, 1) := by decide +kernel
theorem dX10_prints_7 : decode cX10_prints 7 = .ok (.iadd, 1) := by decide +kernel
theorem dX10_prints_8 : decode cX10_prints 8 = .ok (.iaload, 1) := by decide +kernel
theorem dX10_prints_9 : decode cX10_prints 9 = .ok (.iload_n 2, 1) := by decide +kernel
theorem dX10_prints_10 : decode cX10_prints 10 = .ok (.imul, 1) := by decide +kernel
theorem dX10_prints_11 : decode cX10_prints 11 = .ok (.bipush 100, 2) := by decide +kernel
theorem dX10_prints_13 : decode cX10_prints 13 = .ok (.iload_n 2, 1) := by decide +kernel
theorem dX10_prints_14 : decode cX10_prints 14 = .ok (.isub, 1) := by decide +kernel
theorem dX10_prints_15 : decode cX10_prints 15 = .ok (.imul, 1) := by decide +kernel
theorem dX10_prints_16 : decode cX10_prints 16 = .ok (.sipush 2500, 3) := by decide +kernel
theorem dX10_prints_19 : decode cX10_prints 19 = .ok (.idiv, 1) := by decide +kernel
theorem dX10_prints_20 : decode cX10_prints 20 = .ok (.iadd, 1) := by decide +kernel
theorem dX10_prints_21 : decode cX10_prints 21 = .ok (.ireturn, 1) := by decide +kernel
set_option maxRecDepth 20000 in
theorem ggX10_tint_X10_prints : GoodIn wsX10_tint wsX10_prints := goodIn_r _ [5, 6, 7, 8, 9, 10, 11, 12, 13, 14, 15, 16, 17, 18, 19, 20, 21, 22, 23, 24, 25, 26, 27, 28, 29, 30, 31, 32, 33, 34, 35, 36, 37, 38, 39, 40, 41] (by decide +kernel) (by decide +kernel)
set_option maxRecDepth 20000 in
theorem gX10_tint_X10_prints : GoodIn wsX10_tint (wsV RX10 142 RX10 yX10_prints wsX10_prints) := goodIn_app (goodIn_of _ (by decide +kernel)) ggX10_tint_X10_prints
theorem dX10_tint_0 : decode cX10_tint 0 = .ok (.iconst 0, 1) := by decide +kernel
theorem dX10_tint_1 : decode cX10_tint 1 = .ok (.istore_n 3, 1) := by decide +kernel
theorem dX10_tint_2 : decode cX10_tint 2 = .ok (.aload_n 0, 1) := by decide +kernel
theorem dX10_tint_3 : decode cX10_tint 3 = .ok (.iload_n 1, 1) := by decide +kernel
theorem dX10_tint_4 : decode cX10_tint 4 = .ok (.iload_n 3, 1) := by decide +kernel
theorem dX10_tint_5 : decode cX10_tint 5 = .ok (.invokevirtual 142, 3) := by decide +kernel
theorem dX10_tint_8 : decode cX10_tint 8 = .ok (.iload_n 2, 1) := by decide +kernel
theorem dX10_tint_9 : decode cX10_tint 9 = .ok (.if_icmp .ge 9, 3) := by decide +kernel
theorem dX10_tint_12 : decode cX10_tint 12 = .ok (.iinc 3 1, 3) := by decide +kernel
theorem dX10_tint_15 : decode cX10_tint 15 = .ok (.goto (-13), 3) := by decide +kernel
theorem dX10_tint_18 : decode cX10_tint 18 = .ok (.iload_n 3, 1) := by decide +kernel
theorem dX10_tint_19 : decode cX10_tint 19 = .ok (.ireturn, 1) := by decide +kernel
set_option maxRecDepth 20000 in
theorem ggX10_plates_X10_wanted : GoodIn wsX10_plates wsX10_wanted := goodIn_r _ [7, 8, 9, 10, 11, 6, 12, 13, 14, 15, 16, 17, 18, 19, 20, 21, 22, 23, 24, 25, 26, 27, 28, 29, 30, 39, 40, 41, 42, 43, 44, 45, 46, 47, 48, 49, 50, 51, 52, 53, 54, 55, 56, 57, 58, 59, 60, 61, 62, 63, 64, 65, 66, 67, 68, 69, 70, 71, 72, 73] (by decide +kernel) (by decide +kernel)
set_option maxRecDepth 20000 in
theorem gX10_plates_X10_wanted : GoodIn wsX10_plates (wsV RX10 145 RX10 yX10_wanted wsX10_wanted) := goodIn_app (goodIn_of _ (by decide +kernel)) ggX10_plates_X10_wanted
set_option maxRecDepth 20000 in
theorem ggX10_plates_X10_tint : GoodIn wsX10_plates wsX10_tint := goodIn_r _ [34, 35, 36, 37, 6, 38, 8, 39, 40, 41, 42, 43, 44, 45, 46, 47, 48, 49, 50, 51, 52, 53, 54, 55, 56, 57, 58, 59, 60, 61, 62, 63, 64, 65, 66, 67, 68, 69, 70, 71, 72, 73] (by decide +kernel) (by decide +kernel)
set_option maxRecDepth 20000 in
theorem gX10_plates_X10_tint : GoodIn wsX10_plates (wsV RX10 148 RX10 yX10_tint wsX10_tint) := goodIn_app (goodIn_of _ (by decide +kernel)) ggX10_plates_X10_tint
theorem dX10_plates_0 : decode cX10_plates 0 = .ok (.aload_n 0, 1) := by decide +kernel
theorem dX10_plates_1 : decode cX10_plates 1 = .ok (.iconst 0, 1) := by decide +kernel
theorem dX10_plates_2 : decode cX10_plates 2 = .ok (.putfield 72, 3) := by decide +kernel
theorem dX10_plates_5 : decode cX10_plates 5 = .ok (.iconst 0, 1) := by decide +kernel
theorem dX10_plates_6 : decode cX10_plates 6 = .ok (.istore_n 1, 1) := by decide +kernel
theorem dX10_plates_7 : decode cX10_plates 7 = .ok (.iconst 0, 1) := by decide +kernel
theorem dX10_plates_8 : decode cX10_plates 8 = .ok (.istore_n 2, 1) := by decide +kernel
theorem dX10_plates_9 : decode cX10_plates 9 = .ok (.iload_n 2, 1) := by decide +kernel
theorem dX10_plates_10 : decode cX10_plates 10 = .ok (.sipush 256, 3) := by decide +kernel
theorem dX10_plates_13 : decode cX10_plates 13 = .ok (.if_icmp .ge 52, 3) := by decide +kernel
theorem dX10_plates_16 : decode cX10_plates 16 = .ok (.aload_n 0, 1) := by decide +kernel
theorem dX10_plates_17 : decode cX10_plates 17 = .ok (.iload_n 2, 1) := by decide +kernel
theorem dX10_plates_18 : decode cX10_plates 18 = .ok (.iconst 4, 1) := by decide +kernel
theorem dX10_plates_19 : decode cX10_plates 19 = .ok (.irem, 1) := by decide +kernel
theorem dX10_plates_20 : decode cX10_plates 20 = .ok (.aload_n 0, 1) := by decide +kernel
theorem dX10_plates_21 : decode cX10_plates 21 = .ok (.iload_n 2, 1) := by decide +kernel
theorem dX10_plates_22 : decode cX10_plates 22 = .ok (.iconst 4, 1) := by decide +kernel
theorem dX10_plates_23 : decode cX10_plates 23 = .ok (.idiv, 1) := by decide +kernel
theorem dX10_plates_24 : decode cX10_plates 24 = .ok (.iload_n 2, 1) := by decide +kernel
theorem dX10_plates_25 : decode cX10_plates 25 = .ok (.iconst 4, 1) := by decide +kernel
theorem dX10_plates_26 : decode cX10_plates 26 = .ok (.irem, 1) := by decide +kernel
theorem dX10_plates_27 : decode cX10_plates 27 = .ok (.invokevirtual 145, 3) := by decide +kernel
theorem dX10_plates_30 : decode cX10_plates 30 = .ok (.invokevirtual 148, 3) := by decide +kernel
theorem dX10_plates_33 : decode cX10_plates 33 = .ok (.istore_n 3, 1) := by decide +kernel
theorem dX10_plates_34 : decode cX10_plates 34 = .ok (.iload_n 1, 1) := by decide +kernel
theorem dX10_plates_35 : decode cX10_plates 35 = .ok (.iload_n 3, 1) := by decide +kernel
theorem dX10_plates_36 : decode cX10_plates 36 = .ok (.aload_n 0, 1) := by decide +kernel
theorem dX10_plates_37 : decode cX10_plates 37 = .ok (.getfield 29, 3) := by decide +kernel
theorem dX10_plates_40 : decode cX10_plates 40 = .ok (.iload_n 2, 1) := by decide +kernel
theorem dX10_plates_41 : decode cX10_plates 41 = .ok (.iaload, 1) := by decide +kernel
theorem dX10_plates_42 : decode cX10_plates 42 = .ok (.if_icmp .ne 7, 3) := by decide +kernel
theorem dX10_plates_45 : decode cX10_plates 45 = .ok (.iconst 0, 1) := by decide +kernel
theorem dX10_plates_46 : decode cX10_plates 46 = .ok (.goto 4, 3) := by decide +kernel
theorem dX10_plates_49 : decode cX10_plates 49 = .ok (.iconst 1, 1) := by decide +kernel
theorem dX10_plates_50 : decode cX10_plates 50 = .ok (.iadd, 1) := by decide +kernel
theorem dX10_plates_51 : decode cX10_plates 51 = .ok (.istore_n 1, 1) := by decide +kernel
theorem dX10_plates_52 : decode cX10_plates 52 = .ok (.aload_n 0, 1) := by decide +kernel
theorem dX10_plates_53 : decode cX10_plates 53 = .ok (.getfield 29, 3) := by decide +kernel
theorem dX10_plates_56 : decode cX10_plates 56 = .ok (.iload_n 2, 1) := by decide +kernel
