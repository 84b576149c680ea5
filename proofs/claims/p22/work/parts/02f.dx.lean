theorem dL_copies_0 : decode cL_copies 0 = .ok (.iconst 0, 1) := by decide +kernel
theorem dL_copies_1 : decode cL_copies 1 = .ok (.istore 5, 2) := by decide +kernel
theorem dL_copies_3 : decode cL_copies 3 = .ok (.iconst 0, 1) := by decide +kernel
theorem dL_copies_4 : decode cL_copies 4 = .ok (.istore 6, 2) := by decide +kernel
theorem dL_copies_6 : decode cL_copies 6 = .ok (.iconst 4, 1) := by decide +kernel
theorem dL_copies_7 : decode cL_copies 7 = .ok (.newarray .int, 2) := by decide +kernel
theorem dL_copies_9 : decode cL_copies 9 = .ok (.astore 7, 2) := by decide +kernel
theorem dL_copies_11 : decode cL_copies 11 = .ok (.iconst 4, 1) := by decide +kernel
theorem dL_copies_12 : decode cL_copies 12 = .ok (.newarray .int, 2) := by decide +kernel
theorem dL_copies_14 : decode cL_copies 14 = .ok (.astore 8, 2) := by decide +kernel
theorem dL_copies_16 : decode cL_copies 16 = .ok (.iconst 0, 1) := by decide +kernel
theorem dL_copies_17 : decode cL_copies 17 = .ok (.istore 9, 2) := by decide +kernel
theorem dL_copies_19 : decode cL_copies 19 = .ok (.iload 9, 2) := by decide +kernel
theorem dL_copies_21 : decode cL_copies 21 = .ok (.iconst 4, 1) := by decide +kernel
theorem dL_copies_22 : decode cL_copies 22 = .ok (.if_icmp .ge 165, 3) := by decide +kernel
theorem dL_copies_25 : decode cL_copies 25 = .ok (.aload 7, 2) := by decide +kernel
theorem dL_copies_27 : decode cL_copies 27 = .ok (.iload 9, 2) := by decide +kernel
theorem dL_copies_29 : decode cL_copies 29 = .ok (.aload_n 0, 1) := by decide +kernel
theorem dL_copies_30 : decode cL_copies 30 = .ok (.iload 9, 2) := by decide +kernel
theorem dL_copies_32 : decode cL_copies 32 = .ok (.iconst 0, 1) := by decide +kernel
theorem dL_copies_33 : decode cL_copies 33 = .ok (.invokevirtual 54, 3) := by decide +kernel
theorem dL_copies_36 : decode cL_copies 36 = .ok (.iastore, 1) := by decide +kernel
theorem dL_copies_37 : decode cL_copies 37 = .ok (.aload 8, 2) := by decide +kernel
theorem dL_copies_39 : decode cL_copies 39 = .ok (.iload 9, 2) := by decide +kernel
theorem dL_copies_41 : decode cL_copies 41 = .ok (.aload_n 0, 1) := by decide +kernel
theorem dL_copies_42 : decode cL_copies 42 = .ok (.iload 9, 2) := by decide +kernel
theorem dL_copies_44 : decode cL_copies 44 = .ok (.iconst 1, 1) := by decide +kernel
theorem dL_copies_45 : decode cL_copies 45 = .ok (.invokevirtual 54, 3) := by decide +kernel
theorem dL_copies_48 : decode cL_copies 48 = .ok (.iastore, 1) := by decide +kernel
theorem dL_copies_49 : decode cL_copies 49 = .ok (.aload 7, 2) := by decide +kernel
theorem dL_copies_51 : decode cL_copies 51 = .ok (.iload 9, 2) := by decide +kernel
theorem dL_copies_53 : decode cL_copies 53 = .ok (.iaload, 1) := by decide +kernel
theorem dL_copies_54 : decode cL_copies 54 = .ok (.aload_n 0, 1) := by decide +kernel
theorem dL_copies_55 : decode cL_copies 55 = .ok (.iconst 3, 1) := by decide +kernel
theorem dL_copies_56 : decode cL_copies 56 = .ok (.iconst 0, 1) := by decide +kernel
theorem dL_copies_57 : decode cL_copies 57 = .ok (.invokevirtual 54, 3) := by decide +kernel
theorem dL_copies_60 : decode cL_copies 60 = .ok (.isub, 1) := by decide +kernel
theorem dL_copies_61 : decode cL_copies 61 = .ok (.istore 10, 2) := by decide +kernel
theorem dL_copies_63 : decode cL_copies 63 = .ok (.aload 8, 2) := by decide +kernel
theorem dL_copies_65 : decode cL_copies 65 = .ok (.iload 9, 2) := by decide +kernel
theorem dL_copies_67 : decode cL_copies 67 = .ok (.iaload, 1) := by decide +kernel
theorem dL_copies_68 : decode cL_copies 68 = .ok (.aload_n 0, 1) := by decide +kernel
theorem dL_copies_69 : decode cL_copies 69 = .ok (.iconst 3, 1) := by decide +kernel
theorem dL_copies_70 : decode cL_copies 70 = .ok (.iconst 1, 1) := by decide +kernel
theorem dL_copies_71 : decode cL_copies 71 = .ok (.invokevirtual 54, 3) := by decide +kernel
theorem dL_copies_74 : decode cL_copies 74 = .ok (.isub, 1) := by decide +kernel
theorem dL_copies_75 : decode cL_copies 75 = .ok (.istore 11, 2) := by decide +kernel
theorem dL_copies_77 : decode cL_copies 77 = .ok (.iload 5, 2) := by decide +kernel
theorem dL_copies_79 : decode cL_copies 79 = .ok (.ifCond .ne 41, 3) := by decide +kernel
theorem dL_copies_82 : decode cL_copies 82 = .ok (.iload 10, 2) := by decide +kernel
theorem dL_copies_84 : decode cL_copies 84 = .ok (.aload_n 1, 1) := by decide +kernel
theorem dL_copies_85 : decode cL_copies 85 = .ok (.bipush 7, 2) := by decide +kernel
theorem dL_copies_87 : decode cL_copies 87 = .ok (.iaload, 1) := by decide +kernel
theorem dL_copies_88 : decode cL_copies 88 = .ok (.if_icmp .gt 32, 3) := by decide +kernel
theorem dL_copies_91 : decode cL_copies 91 = .ok (.iload 10, 2) := by decide +kernel
theorem dL_copies_93 : decode cL_copies 93 = .ok (.ineg, 1) := by decide +kernel
theorem dL_copies_94 : decode cL_copies 94 = .ok (.aload_n 1, 1) := by decide +kernel
theorem dL_copies_95 : decode cL_copies 95 = .ok (.bipush 7, 2) := by decide +kernel
theorem dL_copies_97 : decode cL_copies 97 = .ok (.iaload, 1) := by decide +kernel
theorem dL_copies_98 : decode cL_copies 98 = .ok (.if_icmp .gt 22, 3) := by decide +kernel
theorem dL_copies_101 : decode cL_copies 101 = .ok (.iload 11, 2) := by decide +kernel
theorem dL_copies_103 : decode cL_copies 103 = .ok (.aload_n 1, 1) := by decide +kernel
theorem dL_copies_104 : decode cL_copies 104 = .ok (.bipush 7, 2) := by decide +kernel
theorem dL_copies_106 : decode cL_copies 106 = .ok (.iaload, 1) := by decide +kernel
theorem dL_copies_107 : decode cL_copies 107 = .ok (.if_icmp .gt 13, 3) := by decide +kernel
theorem dL_copies_110 : decode cL_copies 110 = .ok (.iload 11, 2) := by decide +kernel
theorem dL_copies_112 : decode cL_copies 112 = .ok (.ineg, 1) := by decide +kernel
theorem dL_copies_113 : decode cL_copies 113 = .ok (.aload_n 1, 1) := by decide +kernel
theorem dL_copies_114 : decode cL_copies 114 = .ok (.bipush 7, 2) := by decide +kernel
theorem dL_copies_116 : decode cL_copies 116 = .ok (.iaload, 1) := by decide +kernel
theorem dL_copies_117 : decode cL_copies 117 = .ok (.if_icmp .le 7, 3) := by decide +kernel
theorem dL_copies_120 : decode cL_copies 120 = .ok (.iconst 1, 1) := by decide +kernel
theorem dL_copies_121 : decode cL_copies 121 = .ok (.goto 4, 3) := by decide +kernel
theorem dL_copies_124 : decode cL_copies 124 = .ok (.iconst 0, 1) := by decide +kernel
theorem dL_copies_125 : decode cL_copies 125 = .ok (.istore 5, 2) := by decide +kernel
theorem dL_copies_127 : decode cL_copies 127 = .ok (.iconst 0, 1) := by decide +kernel
theorem dL_copies_128 : decode cL_copies 128 = .ok (.istore 12, 2) := by decide +kernel
theorem dL_copies_130 : decode cL_copies 130 = .ok (.iload 12, 2) := by decide +kernel
theorem dL_copies_132 : decode cL_copies 132 = .ok (.bipush 8, 2) := by decide +kernel
theorem dL_copies_134 : decode cL_copies 134 = .ok (.if_icmp .ge 47, 3) := by decide +kernel
theorem dL_copies_137 : decode cL_copies 137 = .ok (.aload_n 0, 1) := by decide +kernel
theorem dL_copies_138 : decode cL_copies 138 = .ok (.iload 9, 2) := by decide +kernel
theorem dL_copies_140 : decode cL_copies 140 = .ok (.iconst 2, 1) := by decide +kernel
theorem dL_copies_141 : decode cL_copies 141 = .ok (.iload 12, 2) := by decide +kernel
theorem dL_copies_143 : decode cL_copies 143 = .ok (.iadd, 1) := by decide +kernel
theorem dL_copies_144 : decode cL_copies 144 = .ok (.invokevirtual 54, 3) := by decide +kernel
theorem dL_copies_147 : decode cL_copies 147 = .ok (.istore 13, 2) := by decide +kernel
theorem dL_copies_149 : decode cL_copies 149 = .ok (.iload 6, 2) := by decide +kernel
theorem dL_copies_151 : decode cL_copies 151 = .ok (.ifCond .ne 17, 3) := by decide +kernel
theorem dL_copies_154 : decode cL_copies 154 = .ok (.iload 13, 2) := by decide +kernel
theorem dL_copies_156 : decode cL_copies 156 = .ok (.bipush 90, 2) := by decide +kernel
theorem dL_copies_158 : decode cL_copies 158 = .ok (.if_icmp .lt 10, 3) := by decide +kernel
theorem dL_copies_161 : decode cL_copies 161 = .ok (.iload 13, 2) := by decide +kernel
theorem dL_copies_163 : decode cL_copies 163 = .ok (.bipush 110, 2) := by decide +kernel
theorem dL_copies_165 : decode cL_copies 165 = .ok (.if_icmp .le 7, 3) := by decide +kernel
theorem dL_copies_168 : decode cL_copies 168 = .ok (.iconst 1, 1) := by decide +kernel
theorem dL_copies_169 : decode cL_copies 169 = .ok (.goto 4, 3) := by decide +kernel
theorem dL_copies_172 : decode cL_copies 172 = .ok (.iconst 0, 1) := by decide +kernel
theorem dL_copies_173 : decode cL_copies 173 = .ok (.istore 6, 2) := by decide +kernel
theorem dL_copies_175 : decode cL_copies 175 = .ok (.iinc 12 1, 3) := by decide +kernel
theorem dL_copies_178 : decode cL_copies 178 = .ok (.goto (-48), 3) := by decide +kernel
theorem dL_copies_181 : decode cL_copies 181 = .ok (.iinc 9 1, 3) := by decide +kernel
theorem dL_copies_184 : decode cL_copies 184 = .ok (.goto (-165), 3) := by decide +kernel
theorem dL_copies_187 : decode cL_copies 187 = .ok (.aload_n 3, 1) := by decide +kernel
theorem dL_copies_188 : decode cL_copies 188 = .ok (.iconst 2, 1) := by decide +kernel
theorem dL_copies_189 : decode cL_copies 189 = .ok (.iaload, 1) := by decide +kernel
theorem dL_copies_190 : decode cL_copies 190 = .ok (.ifCond .le 7, 3) := by decide +kernel
theorem dL_copies_193 : decode cL_copies 193 = .ok (.iconst 1, 1) := by decide +kernel
theorem dL_copies_194 : decode cL_copies 194 = .ok (.goto 4, 3) := by decide +kernel
theorem dL_copies_197 : decode cL_copies 197 = .ok (.iconst 0, 1) := by decide +kernel
theorem dL_copies_198 : decode cL_copies 198 = .ok (.istore 9, 2) := by decide +kernel
theorem dL_copies_200 : decode cL_copies 200 = .ok (.iload 9, 2) := by decide +kernel
theorem dL_copies_202 : decode cL_copies 202 = .ok (.ifCond .ne 17, 3) := by decide +kernel
theorem dL_copies_205 : decode cL_copies 205 = .ok (.iload 5, 2) := by decide +kernel
theorem dL_copies_207 : decode cL_copies 207 = .ok (.ifCond .ne 12, 3) := by decide +kernel
theorem dL_copies_210 : decode cL_copies 210 = .ok (.iload 6, 2) := by decide +kernel
theorem dL_copies_212 : decode cL_copies 212 = .ok (.ifCond .ne 7, 3) := by decide +kernel
theorem dL_copies_215 : decode cL_copies 215 = .ok (.iconst 1, 1) := by decide +kernel
theorem dL_copies_216 : decode cL_copies 216 = .ok (.goto 4, 3) := by decide +kernel
theorem dL_copies_219 : decode cL_copies 219 = .ok (.iconst 0, 1) := by decide +kernel
theorem dL_copies_220 : decode cL_copies 220 = .ok (.istore 10, 2) := by decide +kernel
theorem dL_copies_222 : decode cL_copies 222 = .ok (.aload_n 0, 1) := by decide +kernel
theorem dL_copies_223 : decode cL_copies 223 = .ok (.invokevirtual 80, 3) := by decide +kernel
theorem dL_copies_226 : decode cL_copies 226 = .ok (.istore 11, 2) := by decide +kernel
theorem dL_copies_228 : decode cL_copies 228 = .ok (.aload_n 0, 1) := by decide +kernel
theorem dL_copies_229 : decode cL_copies 229 = .ok (.bipush 6, 2) := by decide +kernel
theorem dL_copies_231 : decode cL_copies 231 = .ok (.invokevirtual 73, 3) := by decide +kernel
theorem dL_copies_234 : decode cL_copies 234 = .ok (.istore 12, 2) := by decide +kernel
theorem dL_copies_236 : decode cL_copies 236 = .ok (.aload_n 0, 1) := by decide +kernel
theorem dL_copies_237 : decode cL_copies 237 = .ok (.iconst 1, 1) := by decide +kernel
theorem dL_copies_238 : decode cL_copies 238 = .ok (.invokevirtual 98, 3) := by decide +kernel
theorem dL_copies_241 : decode cL_copies 241 = .ok (.iload 10, 2) := by decide +kernel
theorem dL_copies_243 : decode cL_copies 243 = .ok (.ifCond .eq 7, 3) := by decide +kernel
theorem dL_copies_246 : decode cL_copies 246 = .ok (.iconst 1, 1) := by decide +kernel
theorem dL_copies_247 : decode cL_copies 247 = .ok (.goto 4, 3) := by decide +kernel
theorem dL_copies_250 : decode cL_copies 250 = .ok (.iconst 0, 1) := by decide +kernel
theorem dL_copies_251 : decode cL_copies 251 = .ok (.if_icmp .ne 7, 3) := by decide +kernel
theorem dL_copies_254 : decode cL_copies 254 = .ok (.iconst 1, 1) := by decide +kernel
theorem dL_copies_255 : decode cL_copies 255 = .ok (.goto 4, 3) := by decide +kernel
theorem dL_copies_258 : decode cL_copies 258 = .ok (.iconst 0, 1) := by decide +kernel
theorem dL_copies_259 : decode cL_copies 259 = .ok (.istore 13, 2) := by decide +kernel
theorem dL_copies_261 : decode cL_copies 261 = .ok (.aload_n 3, 1) := by decide +kernel
theorem dL_copies_262 : decode cL_copies 262 = .ok (.iconst 2, 1) := by decide +kernel
theorem dL_copies_263 : decode cL_copies 263 = .ok (.dup2, 1) := by decide +kernel
theorem dL_copies_264 : decode cL_copies 264 = .ok (.iaload, 1) := by decide +kernel
theorem dL_copies_265 : decode cL_copies 265 = .ok (.iload 9, 2) := by decide +kernel
theorem dL_copies_267 : decode cL_copies 267 = .ok (.ifCond .eq 7, 3) := by decide +kernel
theorem dL_copies_270 : decode cL_copies 270 = .ok (.iconst 1, 1) := by decide +kernel
theorem dL_copies_271 : decode cL_copies 271 = .ok (.goto 4, 3) := by decide +kernel
theorem dL_copies_274 : decode cL_copies 274 = .ok (.iconst 0, 1) := by decide +kernel
theorem dL_copies_275 : decode cL_copies 275 = .ok (.isub, 1) := by decide +kernel
theorem dL_copies_276 : decode cL_copies 276 = .ok (.iastore, 1) := by decide +kernel
theorem dL_copies_277 : decode cL_copies 277 = .ok (.aload_n 3, 1) := by decide +kernel
theorem dL_copies_278 : decode cL_copies 278 = .ok (.iconst 3, 1) := by decide +kernel
theorem dL_copies_279 : decode cL_copies 279 = .ok (.dup2, 1) := by decide +kernel
theorem dL_copies_280 : decode cL_copies 280 = .ok (.iaload, 1) := by decide +kernel
theorem dL_copies_281 : decode cL_copies 281 = .ok (.iconst 1, 1) := by decide +kernel
theorem dL_copies_282 : decode cL_copies 282 = .ok (.iadd, 1) := by decide +kernel
theorem dL_copies_283 : decode cL_copies 283 = .ok (.iastore, 1) := by decide +kernel
theorem dL_copies_284 : decode cL_copies 284 = .ok (.aload_n 3, 1) := by decide +kernel
theorem dL_copies_285 : decode cL_copies 285 = .ok (.iconst 4, 1) := by decide +kernel
theorem dL_copies_286 : decode cL_copies 286 = .ok (.dup2, 1) := by decide +kernel
theorem dL_copies_287 : decode cL_copies 287 = .ok (.iaload, 1) := by decide +kernel
theorem dL_copies_288 : decode cL_copies 288 = .ok (.iload 10, 2) := by decide +kernel
theorem dL_copies_290 : decode cL_copies 290 = .ok (.ifCond .eq 7, 3) := by decide +kernel
theorem dL_copies_293 : decode cL_copies 293 = .ok (.iconst 1, 1) := by decide +kernel
theorem dL_copies_294 : decode cL_copies 294 = .ok (.goto 4, 3) := by decide +kernel
theorem dL_copies_297 : decode cL_copies 297 = .ok (.iconst 0, 1) := by decide +kernel
theorem dL_copies_298 : decode cL_copies 298 = .ok (.iadd, 1) := by decide +kernel
theorem dL_copies_299 : decode cL_copies 299 = .ok (.iastore, 1) := by decide +kernel
theorem dL_copies_300 : decode cL_copies 300 = .ok (.aload_n 3, 1) := by decide +kernel
theorem dL_copies_301 : decode cL_copies 301 = .ok (.iconst 5, 1) := by decide +kernel
theorem dL_copies_302 : decode cL_copies 302 = .ok (.dup2, 1) := by decide +kernel
theorem dL_copies_303 : decode cL_copies 303 = .ok (.iaload, 1) := by decide +kernel
theorem dL_copies_304 : decode cL_copies 304 = .ok (.iload 9, 2) := by decide +kernel
theorem dL_copies_306 : decode cL_copies 306 = .ok (.ifCond .ne 12, 3) := by decide +kernel
theorem dL_copies_309 : decode cL_copies 309 = .ok (.iload 5, 2) := by decide +kernel
theorem dL_copies_311 : decode cL_copies 311 = .ok (.ifCond .eq 7, 3) := by decide +kernel
theorem dL_copies_314 : decode cL_copies 314 = .ok (.iconst 1, 1) := by decide +kernel
theorem dL_copies_315 : decode cL_copies 315 = .ok (.goto 4, 3) := by decide +kernel
theorem dL_copies_318 : decode cL_copies 318 = .ok (.iconst 0, 1) := by decide +kernel
theorem dL_copies_319 : decode cL_copies 319 = .ok (.iadd, 1) := by decide +kernel
theorem dL_copies_320 : decode cL_copies 320 = .ok (.iastore, 1) := by decide +kernel
theorem dL_copies_321 : decode cL_copies 321 = .ok (.aload_n 3, 1) := by decide +kernel
theorem dL_copies_322 : decode cL_copies 322 = .ok (.bipush 6, 2) := by decide +kernel
theorem dL_copies_324 : decode cL_copies 324 = .ok (.dup2, 1) := by decide +kernel
theorem dL_copies_325 : decode cL_copies 325 = .ok (.iaload, 1) := by decide +kernel
theorem dL_copies_326 : decode cL_copies 326 = .ok (.iload 9, 2) := by decide +kernel
theorem dL_copies_328 : decode cL_copies 328 = .ok (.ifCond .ne 17, 3) := by decide +kernel
theorem dL_copies_331 : decode cL_copies 331 = .ok (.iload 5, 2) := by decide +kernel
theorem dL_copies_333 : decode cL_copies 333 = .ok (.ifCond .ne 12, 3) := by decide +kernel
theorem dL_copies_336 : decode cL_copies 336 = .ok (.iload 6, 2) := by decide +kernel
theorem dL_copies_338 : decode cL_copies 338 = .ok (.ifCond .eq 7, 3) := by decide +kernel
theorem dL_copies_341 : decode cL_copies 341 = .ok (.iconst 1, 1) := by decide +kernel
theorem dL_copies_342 : decode cL_copies 342 = .ok (.goto 4, 3) := by decide +kernel
theorem dL_copies_345 : decode cL_copies 345 = .ok (.iconst 0, 1) := by decide +kernel
theorem dL_copies_346 : decode cL_copies 346 = .ok (.iadd, 1) := by decide +kernel
theorem dL_copies_347 : decode cL_copies 347 = .ok (.iastore, 1) := by decide +kernel
theorem dL_copies_348 : decode cL_copies 348 = .ok (.iload 11, 2) := by decide +kernel
theorem dL_copies_350 : decode cL_copies 350 = .ok (.ifCond .lt 38, 3) := by decide +kernel
theorem dL_copies_353 : decode cL_copies 353 = .ok (.aload_n 2, 1) := by decide +kernel
theorem dL_copies_354 : decode cL_copies 354 = .ok (.iload 11, 2) := by decide +kernel
theorem dL_copies_356 : decode cL_copies 356 = .ok (.dup2, 1) := by decide +kernel
theorem dL_copies_357 : decode cL_copies 357 = .ok (.iaload, 1) := by decide +kernel
theorem dL_copies_358 : decode cL_copies 358 = .ok (.iload 10, 2) := by decide +kernel
theorem dL_copies_360 : decode cL_copies 360 = .ok (.ifCond .eq 9, 3) := by decide +kernel
theorem dL_copies_363 : decode cL_copies 363 = .ok (.sipush 1001, 3) := by decide +kernel
theorem dL_copies_366 : decode cL_copies 366 = .ok (.goto 4, 3) := by decide +kernel
theorem dL_copies_369 : decode cL_copies 369 = .ok (.iconst 1, 1) := by decide +kernel
theorem dL_copies_370 : decode cL_copies 370 = .ok (.iadd, 1) := by decide +kernel
theorem dL_copies_371 : decode cL_copies 371 = .ok (.iastore, 1) := by decide +kernel
theorem dL_copies_372 : decode cL_copies 372 = .ok (.aload_n 3, 1) := by decide +kernel
theorem dL_copies_373 : decode cL_copies 373 = .ok (.iconst 1, 1) := by decide +kernel
theorem dL_copies_374 : decode cL_copies 374 = .ok (.dup2, 1) := by decide +kernel
theorem dL_copies_375 : decode cL_copies 375 = .ok (.iaload, 1) := by decide +kernel
theorem dL_copies_376 : decode cL_copies 376 = .ok (.iload 10, 2) := by decide +kernel
theorem dL_copies_378 : decode cL_copies 378 = .ok (.ifCond .eq 7, 3) := by decide +kernel
theorem dL_copies_381 : decode cL_copies 381 = .ok (.iconst 1, 1) := by decide +kernel
theorem dL_copies_382 : decode cL_copies 382 = .ok (.goto 4, 3) := by decide +kernel
theorem dL_copies_385 : decode cL_copies 385 = .ok (.iconst 0, 1) := by decide +kernel
theorem dL_copies_386 : decode cL_copies 386 = .ok (.iadd, 1) := by decide +kernel
theorem dL_copies_387 : decode cL_copies 387 = .ok (.iastore, 1) := by decide +kernel
theorem dL_copies_388 : decode cL_copies 388 = .ok (.iconst 0, 1) := by decide +kernel
theorem dL_copies_389 : decode cL_copies 389 = .ok (.istore 14, 2) := by decide +kernel
theorem dL_copies_391 : decode cL_copies 391 = .ok (.iload 14, 2) := by decide +kernel
theorem dL_copies_393 : decode cL_copies 393 = .ok (.iconst 4, 1) := by decide +kernel
theorem dL_copies_394 : decode cL_copies 394 = .ok (.if_icmp .ge 114, 3) := by decide +kernel
theorem dL_copies_397 : decode cL_copies 397 = .ok (.iload 13, 2) := by decide +kernel
theorem dL_copies_399 : decode cL_copies 399 = .ok (.ifCond .eq 109, 3) := by decide +kernel
theorem dL_copies_402 : decode cL_copies 402 = .ok (.aload_n 3, 1) := by decide +kernel
theorem dL_copies_403 : decode cL_copies 403 = .ok (.iconst 3, 1) := by decide +kernel
theorem dL_copies_404 : decode cL_copies 404 = .ok (.iaload, 1) := by decide +kernel
theorem dL_copies_405 : decode cL_copies 405 = .ok (.bipush 10, 2) := by decide +kernel
theorem dL_copies_407 : decode cL_copies 407 = .ok (.irem, 1) := by decide +kernel
theorem dL_copies_408 : decode cL_copies 408 = .ok (.ifCond .ne 7, 3) := by decide +kernel
theorem dL_copies_411 : decode cL_copies 411 = .ok (.iconst 1, 1) := by decide +kernel
theorem dL_copies_412 : decode cL_copies 412 = .ok (.goto 4, 3) := by decide +kernel
theorem dL_copies_415 : decode cL_copies 415 = .ok (.iconst 0, 1) := by decide +kernel
theorem dL_copies_416 : decode cL_copies 416 = .ok (.istore 15, 2) := by decide +kernel
theorem dL_copies_418 : decode cL_copies 418 = .ok (.aload_n 0, 1) := by decide +kernel
theorem dL_copies_419 : decode cL_copies 419 = .ok (.bipush 6, 2) := by decide +kernel
theorem dL_copies_421 : decode cL_copies 421 = .ok (.invokevirtual 73, 3) := by decide +kernel
theorem dL_copies_424 : decode cL_copies 424 = .ok (.iload 12, 2) := by decide +kernel
theorem dL_copies_426 : decode cL_copies 426 = .ok (.if_icmp .lt 69, 3) := by decide +kernel
theorem dL_copies_429 : decode cL_copies 429 = .ok (.aload_n 0, 1) := by decide +kernel
theorem dL_copies_430 : decode cL_copies 430 = .ok (.iload 14, 2) := by decide +kernel
theorem dL_copies_432 : decode cL_copies 432 = .ok (.iconst 0, 1) := by decide +kernel
theorem dL_copies_433 : decode cL_copies 433 = .ok (.invokevirtual 54, 3) := by decide +kernel
theorem dL_copies_436 : decode cL_copies 436 = .ok (.aload 7, 2) := by decide +kernel
theorem dL_copies_438 : decode cL_copies 438 = .ok (.iload 14, 2) := by decide +kernel
theorem dL_copies_440 : decode cL_copies 440 = .ok (.iaload, 1) := by decide +kernel
theorem dL_copies_441 : decode cL_copies 441 = .ok (.iload 15, 2) := by decide +kernel
theorem dL_copies_443 : decode cL_copies 443 = .ok (.ifCond .eq 13, 3) := by decide +kernel
theorem dL_copies_446 : decode cL_copies 446 = .ok (.aload 4, 2) := by decide +kernel
theorem dL_copies_448 : decode cL_copies 448 = .ok (.iconst 2, 1) := by decide +kernel
theorem dL_copies_449 : decode cL_copies 449 = .ok (.iload 14, 2) := by decide +kernel
theorem dL_copies_451 : decode cL_copies 451 = .ok (.imul, 1) := by decide +kernel
theorem dL_copies_452 : decode cL_copies 452 = .ok (.iaload, 1) := by decide +kernel
theorem dL_copies_453 : decode cL_copies 453 = .ok (.goto 4, 3) := by decide +kernel
theorem dL_copies_456 : decode cL_copies 456 = .ok (.iconst 0, 1) := by decide +kernel
theorem dL_copies_457 : decode cL_copies 457 = .ok (.iadd, 1) := by decide +kernel
theorem dL_copies_458 : decode cL_copies 458 = .ok (.if_icmp .ne 41, 3) := by decide +kernel
theorem dL_copies_461 : decode cL_copies 461 = .ok (.aload_n 0, 1) := by decide +kernel
theorem dL_copies_462 : decode cL_copies 462 = .ok (.iload 14, 2) := by decide +kernel
theorem dL_copies_464 : decode cL_copies 464 = .ok (.iconst 1, 1) := by decide +kernel
theorem dL_copies_465 : decode cL_copies 465 = .ok (.invokevirtual 54, 3) := by decide +kernel
theorem dL_copies_468 : decode cL_copies 468 = .ok (.aload 8, 2) := by decide +kernel
theorem dL_copies_470 : decode cL_copies 470 = .ok (.iload 14, 2) := by decide +kernel
theorem dL_copies_472 : decode cL_copies 472 = .ok (.iaload, 1) := by decide +kernel
theorem dL_copies_473 : decode cL_copies 473 = .ok (.iload 15, 2) := by decide +kernel
theorem dL_copies_475 : decode cL_copies 475 = .ok (.ifCond .eq 15, 3) := by decide +kernel
theorem dL_copies_478 : decode cL_copies 478 = .ok (.aload 4, 2) := by decide +kernel
theorem dL_copies_480 : decode cL_copies 480 = .ok (.iconst 2, 1) := by decide +kernel
theorem dL_copies_481 : decode cL_copies 481 = .ok (.iload 14, 2) := by decide +kernel
theorem dL_copies_483 : decode cL_copies 483 = .ok (.imul, 1) := by decide +kernel
theorem dL_copies_484 : decode cL_copies 484 = .ok (.iconst 1, 1) := by decide +kernel
theorem dL_copies_485 : decode cL_copies 485 = .ok (.iadd, 1) := by decide +kernel
theorem dL_copies_486 : decode cL_copies 486 = .ok (.iaload, 1) := by decide +kernel
theorem dL_copies_487 : decode cL_copies 487 = .ok (.goto 4, 3) := by decide +kernel
theorem dL_copies_490 : decode cL_copies 490 = .ok (.iconst 0, 1) := by decide +kernel
theorem dL_copies_491 : decode cL_copies 491 = .ok (.iadd, 1) := by decide +kernel
theorem dL_copies_492 : decode cL_copies 492 = .ok (.if_icmp .ne 7, 3) := by decide +kernel
theorem dL_copies_495 : decode cL_copies 495 = .ok (.iconst 1, 1) := by decide +kernel
theorem dL_copies_496 : decode cL_copies 496 = .ok (.goto 4, 3) := by decide +kernel
theorem dL_copies_499 : decode cL_copies 499 = .ok (.iconst 0, 1) := by decide +kernel
theorem dL_copies_500 : decode cL_copies 500 = .ok (.istore 13, 2) := by decide +kernel
theorem dL_copies_502 : decode cL_copies 502 = .ok (.iinc 14 1, 3) := by decide +kernel
theorem dL_copies_505 : decode cL_copies 505 = .ok (.goto (-114), 3) := by decide +kernel
theorem dL_copies_508 : decode cL_copies 508 = .ok (.iload 13, 2) := by decide +kernel
theorem dL_copies_510 : decode cL_copies 510 = .ok (.ifCond .eq 18, 3) := by decide +kernel
theorem dL_copies_513 : decode cL_copies 513 = .ok (.aload_n 0, 1) := by decide +kernel
theorem dL_copies_514 : decode cL_copies 514 = .ok (.bipush 6, 2) := by decide +kernel
theorem dL_copies_516 : decode cL_copies 516 = .ok (.invokevirtual 73, 3) := by decide +kernel
theorem dL_copies_519 : decode cL_copies 519 = .ok (.iload 12, 2) := by decide +kernel
theorem dL_copies_521 : decode cL_copies 521 = .ok (.if_icmp .gt 7, 3) := by decide +kernel
theorem dL_copies_524 : decode cL_copies 524 = .ok (.iconst 1, 1) := by decide +kernel
theorem dL_copies_525 : decode cL_copies 525 = .ok (.goto 4, 3) := by decide +kernel
theorem dL_copies_528 : decode cL_copies 528 = .ok (.iconst 0, 1) := by decide +kernel
theorem dL_copies_529 : decode cL_copies 529 = .ok (.ireturn, 1) := by decide +kernel
set_option maxRecDepth 20000 in
theorem ggL_others_X9_drift : GoodIn wsL_others wsX9_drift := goodIn_ca (goodIn_ca (goodIn_r _ [6, 7, 8, 9, 5, 10, 11, 12, 13, 14, 15, 16, 17, 18, 19, 20, 21, 22, 23, 24, 286, 287, 288, 289, 290, 291, 292, 293, 294, 295, 296, 297, 298, 299, 300, 301, 302] (by decide +kernel) (by decide +kernel)) (goodIn_sub (fun _ h => List.mem_cons_of_mem _ (List.mem_append_left _ (List.mem_append_left _ (List.mem_append_right _ h)))) (by decide +kernel))) (goodIn_sub (fun _ h => List.mem_cons_of_mem _ (List.mem_append_left _ (List.mem_append_right _ h))) (by decide +kernel))
set_option maxRecDepth 20000 in
theorem gL_others_X9_drift : GoodIn wsL_others (wsV RL 101 RX9 yX9_drift wsX9_drift) := goodIn_app (goodIn_of _ (by decide +kernel)) ggL_others_X9_drift
set_option maxRecDepth 20000 in
theorem ggL_others_X9_unit : GoodIn wsL_others wsX9_unit := goodIn_ca (goodIn_ca (goodIn_r _ [28, 7, 29, 30, 8, 9, 5, 10, 11, 12, 13, 14, 15, 16, 17, 31, 32, 33, 21, 34, 35, 36, 37, 38, 39, 40, 41, 42, 43, 44, 45, 46, 47, 48, 49, 50, 51, 52, 286, 287, 288, 289, 290, 291, 292, 293, 294, 295, 296, 297, 298, 299, 300, 301, 302, 303, 304, 305, 306, 307, 308, 309] (by decide +kernel) (by decide +kernel)) (goodIn_sub (fun _ h => List.mem_cons_of_mem _ (List.mem_append_left _ (List.mem_append_left _ (List.mem_append_right _ h)))) (by decide +kernel))) (goodIn_sub (fun _ h => List.mem_cons_of_mem _ (List.mem_append_left _ (List.mem_append_right _ h))) (by decide +kernel))
set_option maxRecDepth 20000 in
theorem gL_others_X9_unit : GoodIn wsL_others (wsV RL 54 RX9 yX9_unit wsX9_unit) := goodIn_app (goodIn_of _ (by decide +kernel)) ggL_others_X9_unit
set_option maxRecDepth 20000 in
theorem ggL_others_X9_all : GoodIn wsL_others wsX9_all := goodIn_ca (goodIn_r _ [56, 16, 17, 29, 57, 7, 58, 59, 60, 44, 61, 62, 63, 64, 65, 66, 67, 68, 69, 70, 71, 72, 73, 74, 75, 76, 77, 78, 79, 80, 81, 82, 83, 84, 85, 86, 21, 87, 88, 286, 287, 288, 289, 290, 291, 292, 293, 303, 304, 305, 306, 307, 308, 310, 311, 312, 313, 314, 315, 294, 295, 296, 297, 298, 299, 300, 301, 302] (by decide +kernel) (by decide +kernel)) (goodIn_sub (fun _ h => List.mem_cons_of_mem _ (List.mem_append_left _ (List.mem_append_right _ h))) (by decide +kernel))
set_option maxRecDepth 20000 in
theorem gL_others_X9_all : GoodIn wsL_others (wsV RL 73 RX9 yX9_all wsX9_all) := goodIn_app (goodIn_of _ (by decide +kernel)) ggL_others_X9_all
set_option maxRecDepth 20000 in
theorem ggL_others_L_asks : GoodIn wsL_others wsL_asks := goodIn_ca (goodIn_ca (goodIn_ca (goodIn_r _ [92, 93, 94, 95, 96, 97, 1, 98, 99, 91, 100, 101, 102, 103, 5, 104, 105, 106, 57, 13, 14, 15, 16, 17, 78, 79, 80, 81, 82, 83, 107, 108, 109, 110, 111, 112, 113, 114, 115, 116, 117, 118, 119, 7, 120, 29, 8, 9, 10, 11, 12, 84, 85, 86, 21, 87, 88, 121, 122, 123, 124, 125, 126, 127, 128, 129, 130, 35, 40, 58, 59, 60, 44, 61, 62, 131, 132, 133, 134, 135, 136, 137, 138, 139, 140, 141, 142, 143, 144, 145, 146, 147, 148, 149, 150, 151, 152, 153, 154, 155, 156, 157, 158, 159, 160, 161, 162, 163, 30, 164, 165, 166, 167, 168, 169, 170, 171, 172, 173, 174, 175, 176, 177, 178, 179, 180, 181, 182, 183, 184, 185, 50, 186, 52, 187, 188, 189, 190, 191, 192, 193, 194, 195, 196, 197, 198, 199, 200, 201, 202, 203, 204, 205, 206, 207, 208, 209, 210, 211, 212, 213, 214, 215, 216, 217, 218, 219, 220, 221, 222, 223, 224, 225, 226, 227, 228, 229, 230, 231, 232, 233, 234, 235, 236, 237, 238, 239, 240, 241, 242, 243, 244, 245, 246, 247, 248, 286, 287, 288, 289, 290, 291, 292, 293, 310, 311, 312, 313, 314, 315, 294, 295, 296, 297, 298, 299, 300, 301, 302, 316, 317, 318, 319, 320, 321, 303, 304, 305, 306, 307, 308, 322, 323, 309, 324] (by decide +kernel) (by decide +kernel)) (goodIn_sub (fun _ h => List.mem_cons_of_mem _ (List.mem_append_right _ h)) (by decide +kernel))) (goodIn_sub (fun _ h => List.mem_cons_of_mem _ (List.mem_append_left _ (List.mem_append_right _ h))) (by decide +kernel))) (goodIn_sub (fun _ h => List.mem_cons_of_mem _ (List.mem_append_left _ (List.mem_append_left _ (List.mem_append_right _ h)))) (by decide +kernel))
set_option maxRecDepth 20000 in
theorem gL_others_L_asks : GoodIn wsL_others (va_wsS RL 76 yL_asks wsL_asks) := goodIn_app (goodIn_of _ (by decide +kernel)) ggL_others_L_asks
set_option maxRecDepth 20000 in
theorem ggL_others_X9_key : GoodIn wsL_others wsX9_key := goodIn_ca (goodIn_ca (goodIn_r _ [252, 29, 8, 9, 5, 10, 11, 12, 13, 14, 15, 16, 17, 253, 254, 255, 44, 256, 46, 286, 287, 288, 289, 290, 291, 292, 293, 303, 304, 305, 306, 307, 308] (by decide +kernel) (by decide +kernel)) (goodIn_sub (fun _ h => List.mem_cons_of_mem _ (List.mem_append_left _ (List.mem_append_left _ (List.mem_append_right _ h)))) (by decide +kernel))) (goodIn_sub (fun _ h => List.mem_cons_of_mem _ (List.mem_append_left _ (List.mem_append_right _ h))) (by decide +kernel))
set_option maxRecDepth 20000 in
theorem gL_others_X9_key : GoodIn wsL_others (wsV RL 105 RX9 yX9_key wsX9_key) := goodIn_app (goodIn_of _ (by decide +kernel)) ggL_others_X9_key
set_option maxRecDepth 20000 in
theorem ggL_others_X9_tear : GoodIn wsL_others wsX9_tear := goodIn_r _ [260, 29, 261, 262, 263, 44, 264, 265, 286, 287, 288, 289, 290, 291, 292, 293, 303, 304, 305, 306, 307, 308] (by decide +kernel) (by decide +kernel)
set_option maxRecDepth 20000 in
theorem gL_others_X9_tear : GoodIn wsL_others (wsV RL 108 RX9 yX9_tear wsX9_tear) := goodIn_app (goodIn_of _ (by decide +kernel)) ggL_others_X9_tear
set_option maxRecDepth 20000 in
theorem ggL_others_X9_next : GoodIn wsL_others wsX9_next := goodIn_r _ [269, 57, 270, 271, 272, 81, 273, 83, 113, 115, 286, 287, 288, 289, 290, 291, 292, 293, 310, 311, 312, 313, 314, 315] (by decide +kernel) (by decide +kernel)
set_option maxRecDepth 20000 in
theorem gL_others_X9_next : GoodIn wsL_others (wsV RL 80 RX9 yX9_next wsX9_next) := goodIn_app (goodIn_of _ (by decide +kernel)) ggL_others_X9_next
set_option maxRecDepth 20000 in
theorem ggL_others_X9_sign : GoodIn wsL_others wsX9_sign := goodIn_r _ [277, 163, 30, 120, 278, 279, 280, 171, 281, 178, 173, 183, 184, 185, 50, 186, 52, 187, 188, 189, 124, 190, 191, 192, 193, 194, 286, 287, 288, 289, 290, 291, 292, 293, 322, 323, 309, 316, 317, 318, 319, 320, 321] (by decide +kernel) (by decide +kernel)
set_option maxRecDepth 20000 in
theorem gL_others_X9_sign : GoodIn wsL_others (wsV RL 111 RX9 yX9_sign wsX9_sign) := goodIn_app (goodIn_of _ (by decide +kernel)) ggL_others_X9_sign
set_option maxRecDepth 20000 in
theorem ggL_others_X9_ink : GoodIn wsL_others wsX9_ink := goodIn_ca (goodIn_ca (goodIn_r _ [198, 16, 17, 199, 120, 30, 8, 9, 5, 10, 11, 12, 200, 201, 202, 203, 204, 205, 206, 207, 181, 208, 209, 210, 211, 124, 212, 213, 214, 215, 216, 217, 218, 219, 220, 221, 222, 223, 224, 225, 226, 227, 228, 229, 230, 231, 232, 233, 234, 235, 236, 237, 238, 239, 240, 188, 189, 190, 191, 241, 242, 50, 243, 192, 193, 194, 244, 245, 246, 247, 52, 248, 184, 185, 186, 187, 286, 287, 288, 289, 290, 291, 292, 293, 324, 316, 317, 318, 319, 320, 321, 309] (by decide +kernel) (by decide +kernel)) (goodIn_sub (fun _ h => List.mem_cons_of_mem _ (List.mem_append_left _ (List.mem_append_right _ h))) (by decide +kernel))) (goodIn_sub (fun _ h => List.mem_cons_of_mem _ (List.mem_append_left _ (List.mem_append_left _ (List.mem_append_right _ h)))) (by decide +kernel))
set_option maxRecDepth 20000 in
theorem gL_others_X9_ink : GoodIn wsL_others (wsV RL 34 RX9 yX9_ink wsX9_ink) := goodIn_app (goodIn_of _ (by decide +kernel)) ggL_others_X9_ink
set_option maxRecDepth 20000 in
theorem ggL_others_X9_differs : GoodIn wsL_others wsX9_differs := goodIn_ca (goodIn_ca (goodIn_r _ [162, 163, 30, 120, 8, 9, 5, 10, 11, 12, 164, 165, 166, 167, 105, 106, 168, 169, 170, 171, 172, 173, 174, 175, 176, 177, 178, 179, 180, 181, 182, 183, 184, 185, 50, 186, 52, 187, 188, 189, 124, 190, 191, 192, 193, 194, 286, 287, 288, 289, 290, 291, 292, 293, 322, 323, 309, 316, 317, 318, 319, 320, 321] (by decide +kernel) (by decide +kernel)) (goodIn_sub (fun _ h => List.mem_cons_of_mem _ (List.mem_append_left _ (List.mem_append_left _ (List.mem_append_right _ h)))) (by decide +kernel))) (goodIn_sub (fun _ h => List.mem_cons_of_mem _ (List.mem_append_right _ h)) (by decide +kernel))
set_option maxRecDepth 20000 in
theorem gL_others_X9_differs : GoodIn wsL_others (wsV RL 30 RX9 yX9_differs wsX9_differs) := goodIn_app (goodIn_of _ (by decide +kernel)) ggL_others_X9_differs
set_option maxRecDepth 20000 in
theorem ggL_others_X9_claim : GoodIn wsL_others wsX9_claim := goodIn_ca (goodIn_ca (goodIn_r _ [285, 163, 30, 120, 8, 9, 5, 10, 11, 12, 164, 165, 166, 167, 105, 106, 168, 169, 170, 171, 172, 173, 174, 175, 176, 177, 178, 179, 180, 181, 182, 183, 184, 185, 50, 186, 52, 187, 188, 189, 124, 190, 191, 192, 193, 194, 286, 287, 288, 289, 290, 291, 292, 293, 322, 323, 309, 316, 317, 318, 319, 320, 321] (by decide +kernel) (by decide +kernel)) (goodIn_sub (fun _ h => List.mem_cons_of_mem _ (List.mem_append_left _ (List.mem_append_left _ (List.mem_append_right _ h)))) (by decide +kernel))) (goodIn_sub (fun _ h => List.mem_cons_of_mem _ (List.mem_append_right _ h)) (by decide +kernel))
set_option maxRecDepth 20000 in
theorem gL_others_X9_claim : GoodIn wsL_others (wsV RL 114 RX9 yX9_claim wsX9_claim) := goodIn_app (goodIn_of _ (by decide +kernel)) ggL_others_X9_claim
theorem dL_others_0 : decode cL_others 0 = .ok (.iload_n 1, 1) := by decide +kernel
theorem dL_others_1 : decode cL_others 1 = .ok (.bipush 6, 2) := by decide +kernel
theorem dL_others_3 : decode cL_others 3 = .ok (.irem, 1) := by decide +kernel
theorem dL_others_4 : decode cL_others 4 = .ok (.istore 8, 2) := by decide +kernel
theorem dL_others_6 : decode cL_others 6 = .ok (.iload_n 1, 1) := by decide +kernel
theorem dL_others_7 : decode cL_others 7 = .ok (.bipush 6, 2) := by decide +kernel
theorem dL_others_9 : decode cL_others 9 = .ok (.idiv, 1) := by decide +kernel
theorem dL_others_10 : decode cL_others 10 = .ok (.iconst 4, 1) := by decide +kernel
theorem dL_others_11 : decode cL_others 11 = .ok (.irem, 1) := by decide +kernel
theorem dL_others_12 : decode cL_others 12 = .ok (.istore 9, 2) := by decide +kernel
theorem dL_others_14 : decode cL_others 14 = .ok (.iload 8, 2) := by decide +kernel
theorem dL_others_16 : decode cL_others 16 = .ok (.ifCond .ne 57, 3) := by decide +kernel
theorem dL_others_19 : decode cL_others 19 = .ok (.aload_n 0, 1) := by decide +kernel
theorem dL_others_20 : decode cL_others 20 = .ok (.iload 9, 2) := by decide +kernel
theorem dL_others_22 : decode cL_others 22 = .ok (.iload_n 2, 1) := by decide +kernel
theorem dL_others_23 : decode cL_others 23 = .ok (.bipush 11, 2) := by decide +kernel
theorem dL_others_25 : decode cL_others 25 = .ok (.irem, 1) := by decide +kernel
theorem dL_others_26 : decode cL_others 26 = .ok (.iconst 5, 1) := by decide +kernel
theorem dL_others_27 : decode cL_others 27 = .ok (.isub, 1) := by decide +kernel
theorem dL_others_28 : decode cL_others 28 = .ok (.iload_n 2, 1) := by decide +kernel
theorem dL_others_29 : decode cL_others 29 = .ok (.bipush 11, 2) := by decide +kernel
theorem dL_others_31 : decode cL_others 31 = .ok (.idiv, 1) := by decide +kernel
theorem dL_others_32 : decode cL_others 32 = .ok (.bipush 11, 2) := by decide +kernel
theorem dL_others_34 : decode cL_others 34 = .ok (.irem, 1) := by decide +kernel
theorem dL_others_35 : decode cL_others 35 = .ok (.iconst 5, 1) := by decide +kernel
theorem dL_others_36 : decode cL_others 36 = .ok (.isub, 1) := by decide +kernel
theorem dL_others_37 : decode cL_others 37 = .ok (.invokevirtual 101, 3) := by decide +kernel
theorem dL_others_40 : decode cL_others 40 = .ok (.aload 7, 2) := by decide +kernel
theorem dL_others_42 : decode cL_others 42 = .ok (.iconst 2, 1) := by decide +kernel
theorem dL_others_43 : decode cL_others 43 = .ok (.iload 9, 2) := by decide +kernel
theorem dL_others_45 : decode cL_others 45 = .ok (.imul, 1) := by decide +kernel
theorem dL_others_46 : decode cL_others 46 = .ok (.iload_n 2, 1) := by decide +kernel
theorem dL_others_47 : decode cL_others 47 = .ok (.bipush 11, 2) := by decide +kernel
theorem dL_others_49 : decode cL_others 49 = .ok (.irem, 1) := by decide +kernel
theorem dL_others_50 : decode cL_others 50 = .ok (.iconst 5, 1) := by decide +kernel
theorem dL_others_51 : decode cL_others 51 = .ok (.isub, 1) := by decide +kernel
theorem dL_others_52 : decode cL_others 52 = .ok (.iastore, 1) := by decide +kernel
theorem dL_others_53 : decode cL_others 53 = .ok (.aload 7, 2) := by decide +kernel
theorem dL_others_55 : decode cL_others 55 = .ok (.iconst 2, 1) := by decide +kernel
theorem dL_others_56 : decode cL_others 56 = .ok (.iload 9, 2) := by decide +kernel
theorem dL_others_58 : decode cL_others 58 = .ok (.imul, 1) := by decide +kernel
theorem dL_others_59 : decode cL_others 59 = .ok (.iconst 1, 1) := by decide +kernel
theorem dL_others_60 : decode cL_others 60 = .ok (.iadd, 1) := by decide +kernel
theorem dL_others_61 : decode cL_others 61 = .ok (.iload_n 2, 1) := by decide +kernel
theorem dL_others_62 : decode cL_others 62 = .ok (.bipush 11, 2) := by decide +kernel
theorem dL_others_64 : decode cL_others 64 = .ok (.idiv, 1) := by decide +kernel
theorem dL_others_65 : decode cL_others 65 = .ok (.bipush 11, 2) := by decide +kernel
theorem dL_others_67 : decode cL_others 67 = .ok (.irem, 1) := by decide +kernel
theorem dL_others_68 : decode cL_others 68 = .ok (.iconst 5, 1) := by decide +kernel
theorem dL_others_69 : decode cL_others 69 = .ok (.isub, 1) := by decide +kernel
theorem dL_others_70 : decode cL_others 70 = .ok (.iastore, 1) := by decide +kernel
theorem dL_others_71 : decode cL_others 71 = .ok (.iconst 1, 1) := by decide +kernel
theorem dL_others_72 : decode cL_others 72 = .ok (.ireturn, 1) := by decide +kernel
theorem dL_others_73 : decode cL_others 73 = .ok (.iload 8, 2) := by decide +kernel
theorem dL_others_75 : decode cL_others 75 = .ok (.iconst 1, 1) := by decide +kernel
theorem dL_others_76 : decode cL_others 76 = .ok (.if_icmp .ne 132, 3) := by decide +kernel
theorem dL_others_79 : decode cL_others 79 = .ok (.aload_n 0, 1) := by decide +kernel
theorem dL_others_80 : decode cL_others 80 = .ok (.iload 9, 2) := by decide +kernel
theorem dL_others_82 : decode cL_others 82 = .ok (.iconst 0, 1) := by decide +kernel
theorem dL_others_83 : decode cL_others 83 = .ok (.invokevirtual 54, 3) := by decide +kernel
theorem dL_others_86 : decode cL_others 86 = .ok (.istore 10, 2) := by decide +kernel
theorem dL_others_88 : decode cL_others 88 = .ok (.aload_n 0, 1) := by decide +kernel
theorem dL_others_89 : decode cL_others 89 = .ok (.bipush 6, 2) := by decide +kernel
theorem dL_others_91 : decode cL_others 91 = .ok (.invokevirtual 73, 3) := by decide +kernel
theorem dL_others_94 : decode cL_others 94 = .ok (.istore 11, 2) := by decide +kernel
theorem dL_others_96 : decode cL_others 96 = .ok (.aload_n 0, 1) := by decide +kernel
theorem dL_others_97 : decode cL_others 97 = .ok (.iconst 1, 1) := by decide +kernel
theorem dL_others_98 : decode cL_others 98 = .ok (.iload 9, 2) := by decide +kernel
theorem dL_others_100 : decode cL_others 100 = .ok (.iload_n 2, 1) := by decide +kernel
theorem dL_others_101 : decode cL_others 101 = .ok (.bipush 9, 2) := by decide +kernel
theorem dL_others_103 : decode cL_others 103 = .ok (.irem, 1) := by decide +kernel
theorem dL_others_104 : decode cL_others 104 = .ok (.iconst 4, 1) := by decide +kernel
theorem dL_others_105 : decode cL_others 105 = .ok (.isub, 1) := by decide +kernel
theorem dL_others_106 : decode cL_others 106 = .ok (.iload_n 2, 1) := by decide +kernel
theorem dL_others_107 : decode cL_others 107 = .ok (.bipush 9, 2) := by decide +kernel
theorem dL_others_109 : decode cL_others 109 = .ok (.idiv, 1) := by decide +kernel
theorem dL_others_110 : decode cL_others 110 = .ok (.bipush 9, 2) := by decide +kernel
theorem dL_others_112 : decode cL_others 112 = .ok (.irem, 1) := by decide +kernel
theorem dL_others_113 : decode cL_others 113 = .ok (.iconst 4, 1) := by decide +kernel
theorem dL_others_114 : decode cL_others 114 = .ok (.isub, 1) := by decide +kernel
theorem dL_others_115 : decode cL_others 115 = .ok (.invokestatic 76, 3) := by decide +kernel
theorem dL_others_118 : decode cL_others 118 = .ok (.istore 12, 2) := by decide +kernel
theorem dL_others_120 : decode cL_others 120 = .ok (.iload 11, 2) := by decide +kernel
theorem dL_others_122 : decode cL_others 122 = .ok (.bipush 20, 2) := by decide +kernel
theorem dL_others_124 : decode cL_others 124 = .ok (.if_icmp .ne 18, 3) := by decide +kernel
theorem dL_others_127 : decode cL_others 127 = .ok (.iload 12, 2) := by decide +kernel
theorem dL_others_129 : decode cL_others 129 = .ok (.ldc 45, 2) := by decide +kernel
theorem dL_others_131 : decode cL_others 131 = .ok (.if_icmp .ne 7, 3) := by decide +kernel
theorem dL_others_134 : decode cL_others 134 = .ok (.iconst 1, 1) := by decide +kernel
theorem dL_others_135 : decode cL_others 135 = .ok (.goto 72, 3) := by decide +kernel
theorem dL_others_138 : decode cL_others 138 = .ok (.iconst 0, 1) := by decide +kernel
theorem dL_others_139 : decode cL_others 139 = .ok (.goto 68, 3) := by decide +kernel
theorem dL_others_142 : decode cL_others 142 = .ok (.aload_n 3, 1) := by decide +kernel
theorem dL_others_143 : decode cL_others 143 = .ok (.bipush 8, 2) := by decide +kernel
theorem dL_others_145 : decode cL_others 145 = .ok (.iaload, 1) := by decide +kernel
theorem dL_others_146 : decode cL_others 146 = .ok (.ifCond .ne 35, 3) := by decide +kernel
theorem dL_others_149 : decode cL_others 149 = .ok (.iload 12, 2) := by decide +kernel
theorem dL_others_151 : decode cL_others 151 = .ok (.ifCond .ne 26, 3) := by decide +kernel
theorem dL_others_154 : decode cL_others 154 = .ok (.aload_n 0, 1) := by decide +kernel
theorem dL_others_155 : decode cL_others 155 = .ok (.iload 9, 2) := by decide +kernel
theorem dL_others_157 : decode cL_others 157 = .ok (.iconst 0, 1) := by decide +kernel
theorem dL_others_158 : decode cL_others 158 = .ok (.invokevirtual 54, 3) := by decide +kernel
theorem dL_others_161 : decode cL_others 161 = .ok (.iload 10, 2) := by decide +kernel
theorem dL_others_163 : decode cL_others 163 = .ok (.iload_n 2, 1) := by decide +kernel
theorem dL_others_164 : decode cL_others 164 = .ok (.bipush 9, 2) := by decide +kernel
theorem dL_others_166 : decode cL_others 166 = .ok (.irem, 1) := by decide +kernel
theorem dL_others_167 : decode cL_others 167 = .ok (.iadd, 1) := by decide +kernel
theorem dL_others_168 : decode cL_others 168 = .ok (.iconst 4, 1) := by decide +kernel
theorem dL_others_169 : decode cL_others 169 = .ok (.isub, 1) := by decide +kernel
theorem dL_others_170 : decode cL_others 170 = .ok (.if_icmp .ne 7, 3) := by decide +kernel
theorem dL_others_173 : decode cL_others 173 = .ok (.iconst 1, 1) := by decide +kernel
theorem dL_others_174 : decode cL_others 174 = .ok (.goto 33, 3) := by decide +kernel
theorem dL_others_177 : decode cL_others 177 = .ok (.iconst 0, 1) := by decide +kernel
theorem dL_others_178 : decode cL_others 178 = .ok (.goto 29, 3) := by decide +kernel
theorem dL_others_181 : decode cL_others 181 = .ok (.iload 12, 2) := by decide +kernel
theorem dL_others_183 : decode cL_others 183 = .ok (.iload 11, 2) := by decide +kernel
theorem dL_others_185 : decode cL_others 185 = .ok (.iconst 1, 1) := by decide +kernel
theorem dL_others_186 : decode cL_others 186 = .ok (.iadd, 1) := by decide +kernel
theorem dL_others_187 : decode cL_others 187 = .ok (.if_icmp .ne 19, 3) := by decide +kernel
theorem dL_others_190 : decode cL_others 190 = .ok (.aload_n 0, 1) := by decide +kernel
theorem dL_others_191 : decode cL_others 191 = .ok (.iload 9, 2) := by decide +kernel
theorem dL_others_193 : decode cL_others 193 = .ok (.iconst 0, 1) := by decide +kernel
theorem dL_others_194 : decode cL_others 194 = .ok (.invokevirtual 54, 3) := by decide +kernel
theorem dL_others_197 : decode cL_others 197 = .ok (.iload 10, 2) := by decide +kernel
theorem dL_others_199 : decode cL_others 199 = .ok (.if_icmp .ne 7, 3) := by decide +kernel
theorem dL_others_202 : decode cL_others 202 = .ok (.iconst 1, 1) := by decide +kernel
theorem dL_others_203 : decode cL_others 203 = .ok (.goto 4, 3) := by decide +kernel
theorem dL_others_206 : decode cL_others 206 = .ok (.iconst 0, 1) := by decide +kernel
theorem dL_others_207 : decode cL_others 207 = .ok (.ireturn, 1) := by decide +kernel
theorem dL_others_208 : decode cL_others 208 = .ok (.iload 8, 2) := by decide +kernel
theorem dL_others_210 : decode cL_others 210 = .ok (.iconst 2, 1) := by decide +kernel
theorem dL_others_211 : decode cL_others 211 = .ok (.if_icmp .ne 74, 3) := by decide +kernel
theorem dL_others_214 : decode cL_others 214 = .ok (.bipush 8, 2) := by decide +kernel
theorem dL_others_216 : decode cL_others 216 = .ok (.iload 9, 2) := by decide +kernel
theorem dL_others_218 : decode cL_others 218 = .ok (.imul, 1) := by decide +kernel
theorem dL_others_219 : decode cL_others 219 = .ok (.iload_n 2, 1) := by decide +kernel
theorem dL_others_220 : decode cL_others 220 = .ok (.bipush 8, 2) := by decide +kernel
theorem dL_others_222 : decode cL_others 222 = .ok (.irem, 1) := by decide +kernel
theorem dL_others_223 : decode cL_others 223 = .ok (.iadd, 1) := by decide +kernel
theorem dL_others_224 : decode cL_others 224 = .ok (.istore 10, 2) := by decide +kernel
theorem dL_others_226 : decode cL_others 226 = .ok (.aload 4, 2) := by decide +kernel
theorem dL_others_228 : decode cL_others 228 = .ok (.iload 10, 2) := by decide +kernel
theorem dL_others_230 : decode cL_others 230 = .ok (.iaload, 1) := by decide +kernel
theorem dL_others_231 : decode cL_others 231 = .ok (.istore 11, 2) := by decide +kernel
theorem dL_others_233 : decode cL_others 233 = .ok (.aload 4, 2) := by decide +kernel
theorem dL_others_235 : decode cL_others 235 = .ok (.iload 10, 2) := by decide +kernel
theorem dL_others_237 : decode cL_others 237 = .ok (.iload_n 2, 1) := by decide +kernel
theorem dL_others_238 : decode cL_others 238 = .ok (.bipush 8, 2) := by decide +kernel
theorem dL_others_240 : decode cL_others 240 = .ok (.idiv, 1) := by decide +kernel
theorem dL_others_241 : decode cL_others 241 = .ok (.iconst 4, 1) := by decide +kernel
theorem dL_others_242 : decode cL_others 242 = .ok (.irem, 1) := by decide +kernel
theorem dL_others_243 : decode cL_others 243 = .ok (.ifCond .ne 13, 3) := by decide +kernel
theorem dL_others_246 : decode cL_others 246 = .ok (.iload_n 2, 1) := by decide +kernel
theorem dL_others_247 : decode cL_others 247 = .ok (.bipush 32, 2) := by decide +kernel
theorem dL_others_249 : decode cL_others 249 = .ok (.idiv, 1) := by decide +kernel
theorem dL_others_250 : decode cL_others 250 = .ok (.bipush 101, 2) := by decide +kernel
theorem dL_others_252 : decode cL_others 252 = .ok (.irem, 1) := by decide +kernel
theorem dL_others_253 : decode cL_others 253 = .ok (.goto 5, 3) := by decide +kernel
theorem dL_others_256 : decode cL_others 256 = .ok (.bipush 50, 2) := by decide +kernel
theorem dL_others_258 : decode cL_others 258 = .ok (.iastore, 1) := by decide +kernel
theorem dL_others_259 : decode cL_others 259 = .ok (.aload_n 0, 1) := by decide +kernel
theorem dL_others_260 : decode cL_others 260 = .ok (.iload 9, 2) := by decide +kernel
theorem dL_others_262 : decode cL_others 262 = .ok (.iload_n 2, 1) := by decide +kernel
theorem dL_others_263 : decode cL_others 263 = .ok (.bipush 8, 2) := by decide +kernel
theorem dL_others_265 : decode cL_others 265 = .ok (.irem, 1) := by decide +kernel
theorem dL_others_266 : decode cL_others 266 = .ok (.aload 4, 2) := by decide +kernel
theorem dL_others_268 : decode cL_others 268 = .ok (.iload 10, 2) := by decide +kernel
theorem dL_others_270 : decode cL_others 270 = .ok (.iaload, 1) := by decide +kernel
theorem dL_others_271 : decode cL_others 271 = .ok (.invokevirtual 105, 3) := by decide +kernel
theorem dL_others_274 : decode cL_others 274 = .ok (.iload 11, 2) := by decide +kernel
theorem dL_others_276 : decode cL_others 276 = .ok (.if_icmp .ne 7, 3) := by decide +kernel
theorem dL_others_279 : decode cL_others 279 = .ok (.iconst 1, 1) := by decide +kernel
theorem dL_others_280 : decode cL_others 280 = .ok (.goto 4, 3) := by decide +kernel
theorem dL_others_283 : decode cL_others 283 = .ok (.iconst 0, 1) := by decide +kernel
theorem dL_others_284 : decode cL_others 284 = .ok (.ireturn, 1) := by decide +kernel
theorem dL_others_285 : decode cL_others 285 = .ok (.iload 8, 2) := by decide +kernel
theorem dL_others_287 : decode cL_others 287 = .ok (.iconst 3, 1) := by decide +kernel
theorem dL_others_288 : decode cL_others 288 = .ok (.if_icmp .ne 24, 3) := by decide +kernel
theorem dL_others_291 : decode cL_others 291 = .ok (.aload 6, 2) := by decide +kernel
theorem dL_others_293 : decode cL_others 293 = .ok (.iconst 2, 1) := by decide +kernel
theorem dL_others_294 : decode cL_others 294 = .ok (.bipush 20, 2) := by decide +kernel
theorem dL_others_296 : decode cL_others 296 = .ok (.iastore, 1) := by decide +kernel
theorem dL_others_297 : decode cL_others 297 = .ok (.aload_n 0, 1) := by decide +kernel
theorem dL_others_298 : decode cL_others 298 = .ok (.invokevirtual 108, 3) := by decide +kernel
theorem dL_others_301 : decode cL_others 301 = .ok (.bipush 20, 2) := by decide +kernel
theorem dL_others_303 : decode cL_others 303 = .ok (.if_icmp .ne 7, 3) := by decide +kernel
theorem dL_others_306 : decode cL_others 306 = .ok (.iconst 1, 1) := by decide +kernel
theorem dL_others_307 : decode cL_others 307 = .ok (.goto 4, 3) := by decide +kernel
theorem dL_others_310 : decode cL_others 310 = .ok (.iconst 0, 1) := by decide +kernel
theorem dL_others_311 : decode cL_others 311 = .ok (.ireturn, 1) := by decide +kernel
theorem dL_others_312 : decode cL_others 312 = .ok (.iload 8, 2) := by decide +kernel
theorem dL_others_314 : decode cL_others 314 = .ok (.iconst 4, 1) := by decide +kernel
theorem dL_others_315 : decode cL_others 315 = .ok (.if_icmp .ne 97, 3) := by decide +kernel
theorem dL_others_318 : decode cL_others 318 = .ok (.aload_n 0, 1) := by decide +kernel
theorem dL_others_319 : decode cL_others 319 = .ok (.iconst 0, 1) := by decide +kernel
theorem dL_others_320 : decode cL_others 320 = .ok (.iconst 1, 1) := by decide +kernel
theorem dL_others_321 : decode cL_others 321 = .ok (.iload_n 2, 1) := by decide +kernel
theorem dL_others_322 : decode cL_others 322 = .ok (.bipush 40, 2) := by decide +kernel
theorem dL_others_324 : decode cL_others 324 = .ok (.irem, 1) := by decide +kernel
theorem dL_others_325 : decode cL_others 325 = .ok (.iadd, 1) := by decide +kernel
theorem dL_others_326 : decode cL_others 326 = .ok (.iconst 0, 1) := by decide +kernel
theorem dL_others_327 : decode cL_others 327 = .ok (.iconst 0, 1) := by decide +kernel
theorem dL_others_328 : decode cL_others 328 = .ok (.invokestatic 76, 3) := by decide +kernel
theorem dL_others_331 : decode cL_others 331 = .ok (.istore 10, 2) := by decide +kernel
theorem dL_others_333 : decode cL_others 333 = .ok (.aload 6, 2) := by decide +kernel
theorem dL_others_335 : decode cL_others 335 = .ok (.iconst 0, 1) := by decide +kernel
theorem dL_others_336 : decode cL_others 336 = .ok (.iaload, 1) := by decide +kernel
theorem dL_others_337 : decode cL_others 337 = .ok (.aload 6, 2) := by decide +kernel
theorem dL_others_339 : decode cL_others 339 = .ok (.iconst 1, 1) := by decide +kernel
theorem dL_others_340 : decode cL_others 340 = .ok (.iaload, 1) := by decide +kernel
theorem dL_others_341 : decode cL_others 341 = .ok (.if_icmp .le 16, 3) := by decide +kernel
theorem dL_others_344 : decode cL_others 344 = .ok (.iload 10, 2) := by decide +kernel
theorem dL_others_346 : decode cL_others 346 = .ok (.ldc 45, 2) := by decide +kernel
theorem dL_others_348 : decode cL_others 348 = .ok (.if_icmp .ne 7, 3) := by decide +kernel
theorem dL_others_351 : decode cL_others 351 = .ok (.iconst 1, 1) := by decide +kernel
theorem dL_others_352 : decode cL_others 352 = .ok (.goto 4, 3) := by decide +kernel
theorem dL_others_355 : decode cL_others 355 = .ok (.iconst 0, 1) := by decide +kernel
theorem dL_others_356 : decode cL_others 356 = .ok (.ireturn, 1) := by decide +kernel
theorem dL_others_357 : decode cL_others 357 = .ok (.aload 6, 2) := by decide +kernel
theorem dL_others_359 : decode cL_others 359 = .ok (.iconst 0, 1) := by decide +kernel
theorem dL_others_360 : decode cL_others 360 = .ok (.iconst 1, 1) := by decide +kernel
theorem dL_others_361 : decode cL_others 361 = .ok (.iload_n 2, 1) := by decide +kernel
theorem dL_others_362 : decode cL_others 362 = .ok (.bipush 40, 2) := by decide +kernel
theorem dL_others_364 : decode cL_others 364 = .ok (.irem, 1) := by decide +kernel
theorem dL_others_365 : decode cL_others 365 = .ok (.iadd, 1) := by decide +kernel
theorem dL_others_366 : decode cL_others 366 = .ok (.iastore, 1) := by decide +kernel
theorem dL_others_367 : decode cL_others 367 = .ok (.aload 6, 2) := by decide +kernel
theorem dL_others_369 : decode cL_others 369 = .ok (.iconst 1, 1) := by decide +kernel
theorem dL_others_370 : decode cL_others 370 = .ok (.iconst 0, 1) := by decide +kernel
theorem dL_others_371 : decode cL_others 371 = .ok (.iastore, 1) := by decide +kernel
theorem dL_others_372 : decode cL_others 372 = .ok (.iconst 0, 1) := by decide +kernel
theorem dL_others_373 : decode cL_others 373 = .ok (.istore 11, 2) := by decide +kernel
theorem dL_others_375 : decode cL_others 375 = .ok (.iload 11, 2) := by decide +kernel
theorem dL_others_377 : decode cL_others 377 = .ok (.bipush 40, 2) := by decide +kernel
theorem dL_others_379 : decode cL_others 379 = .ok (.if_icmp .ge 15, 3) := by decide +kernel
theorem dL_others_382 : decode cL_others 382 = .ok (.aload 5, 2) := by decide +kernel
theorem dL_others_384 : decode cL_others 384 = .ok (.iload 11, 2) := by decide +kernel
theorem dL_others_386 : decode cL_others 386 = .ok (.iconst 0, 1) := by decide +kernel
theorem dL_others_387 : decode cL_others 387 = .ok (.iastore, 1) := by decide +kernel
theorem dL_others_388 : decode cL_others 388 = .ok (.iinc 11 1, 3) := by decide +kernel
theorem dL_others_391 : decode cL_others 391 = .ok (.goto (-16), 3) := by decide +kernel
theorem dL_others_394 : decode cL_others 394 = .ok (.iload 10, 2) := by decide +kernel
theorem dL_others_396 : decode cL_others 396 = .ok (.ifCond .ne 14, 3) := by decide +kernel
theorem dL_others_399 : decode cL_others 399 = .ok (.aload_n 0, 1) := by decide +kernel
theorem dL_others_400 : decode cL_others 400 = .ok (.invokevirtual 80, 3) := by decide +kernel
theorem dL_others_403 : decode cL_others 403 = .ok (.ifCond .ne 7, 3) := by decide +kernel
theorem dL_others_406 : decode cL_others 406 = .ok (.iconst 1, 1) := by decide +kernel
theorem dL_others_407 : decode cL_others 407 = .ok (.goto 4, 3) := by decide +kernel
theorem dL_others_410 : decode cL_others 410 = .ok (.iconst 0, 1) := by decide +kernel
theorem dL_others_411 : decode cL_others 411 = .ok (.ireturn, 1) := by decide +kernel
theorem dL_others_412 : decode cL_others 412 = .ok (.aload_n 0, 1) := by decide +kernel
theorem dL_others_413 : decode cL_others 413 = .ok (.invokevirtual 111, 3) := by decide +kernel
theorem dL_others_416 : decode cL_others 416 = .ok (.istore 10, 2) := by decide +kernel
theorem dL_others_418 : decode cL_others 418 = .ok (.iconst 0, 1) := by decide +kernel
theorem dL_others_419 : decode cL_others 419 = .ok (.istore 11, 2) := by decide +kernel
theorem dL_others_421 : decode cL_others 421 = .ok (.iconst 0, 1) := by decide +kernel
theorem dL_others_422 : decode cL_others 422 = .ok (.istore 12, 2) := by decide +kernel
theorem dL_others_424 : decode cL_others 424 = .ok (.iload 12, 2) := by decide +kernel
theorem dL_others_426 : decode cL_others 426 = .ok (.bipush 64, 2) := by decide +kernel
theorem dL_others_428 : decode cL_others 428 = .ok (.if_icmp .ge 38, 3) := by decide +kernel
theorem dL_others_431 : decode cL_others 431 = .ok (.iconst 0, 1) := by decide +kernel
theorem dL_others_432 : decode cL_others 432 = .ok (.istore 13, 2) := by decide +kernel
theorem dL_others_434 : decode cL_others 434 = .ok (.iload 13, 2) := by decide +kernel
theorem dL_others_436 : decode cL_others 436 = .ok (.iconst 4, 1) := by decide +kernel
theorem dL_others_437 : decode cL_others 437 = .ok (.if_icmp .ge 23, 3) := by decide +kernel
theorem dL_others_440 : decode cL_others 440 = .ok (.iload 11, 2) := by decide +kernel
theorem dL_others_442 : decode cL_others 442 = .ok (.aload_n 0, 1) := by decide +kernel
theorem dL_others_443 : decode cL_others 443 = .ok (.iload 12, 2) := by decide +kernel
theorem dL_others_445 : decode cL_others 445 = .ok (.iload 13, 2) := by decide +kernel
theorem dL_others_447 : decode cL_others 447 = .ok (.iconst 4, 1) := by decide +kernel
theorem dL_others_448 : decode cL_others 448 = .ok (.invokevirtual 34, 3) := by decide +kernel
theorem dL_others_451 : decode cL_others 451 = .ok (.iadd, 1) := by decide +kernel
theorem dL_others_452 : decode cL_others 452 = .ok (.istore 11, 2) := by decide +kernel
theorem dL_others_454 : decode cL_others 454 = .ok (.iinc 13 1, 3) := by decide +kernel
theorem dL_others_457 : decode cL_others 457 = .ok (.goto (-23), 3) := by decide +kernel
theorem dL_others_460 : decode cL_others 460 = .ok (.iinc 12 1, 3) := by decide +kernel
theorem dL_others_463 : decode cL_others 463 = .ok (.goto (-39), 3) := by decide +kernel
theorem dL_others_466 : decode cL_others 466 = .ok (.iload 10, 2) := by decide +kernel
theorem dL_others_468 : decode cL_others 468 = .ok (.iload 11, 2) := by decide +kernel
theorem dL_others_470 : decode cL_others 470 = .ok (.if_icmp .ne 29, 3) := by decide +kernel
theorem dL_others_473 : decode cL_others 473 = .ok (.aload_n 0, 1) := by decide +kernel
theorem dL_others_474 : decode cL_others 474 = .ok (.iload_n 2, 1) := by decide +kernel
theorem dL_others_475 : decode cL_others 475 = .ok (.bipush 64, 2) := by decide +kernel
theorem dL_others_477 : decode cL_others 477 = .ok (.irem, 1) := by decide +kernel
theorem dL_others_478 : decode cL_others 478 = .ok (.invokevirtual 30, 3) := by decide +kernel
theorem dL_others_481 : decode cL_others 481 = .ok (.ifCond .ne 18, 3) := by decide +kernel
theorem dL_others_484 : decode cL_others 484 = .ok (.aload_n 0, 1) := by decide +kernel
theorem dL_others_485 : decode cL_others 485 = .ok (.iload_n 2, 1) := by decide +kernel
theorem dL_others_486 : decode cL_others 486 = .ok (.bipush 64, 2) := by decide +kernel
theorem dL_others_488 : decode cL_others 488 = .ok (.irem, 1) := by decide +kernel
theorem dL_others_489 : decode cL_others 489 = .ok (.invokevirtual 114, 3) := by decide +kernel
theorem dL_others_492 : decode cL_others 492 = .ok (.ifCond .ne 7, 3) := by decide +kernel
theorem dL_others_495 : decode cL_others 495 = .ok (.iconst 1, 1) := by decide +kernel
theorem dL_others_496 : decode cL_others 496 = .ok (.goto 4, 3) := by decide +kernel
theorem dL_others_499 : decode cL_others 499 = .ok (.iconst 0, 1) := by decide +kernel
theorem dL_others_500 : decode cL_others 500 = .ok (.ireturn, 1) := by decide +kernel
