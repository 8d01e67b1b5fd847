theorem dX6_init_0 : decode cX6_init 0 = .ok (.aload_n 0, 1) := by decide +kernel
theorem dX6_init_1 : decode cX6_init 1 = .ok (.invokespecial 1, 3) := by decide +kernel
theorem dX6_init_4 : decode cX6_init 4 = .ok (.aload_n 0, 1) := by decide +kernel
theorem dX6_init_5 : decode cX6_init 5 = .ok (.bipush 20, 2) := by decide +kernel
theorem dX6_init_7 : decode cX6_init 7 = .ok (.putfield 7, 3) := by decide +kernel
theorem dX6_init_10 : decode cX6_init 10 = .ok (.aload_n 0, 1) := by decide +kernel
theorem dX6_init_11 : decode cX6_init 11 = .ok (.bipush 6, 2) := by decide +kernel
theorem dX6_init_13 : decode cX6_init 13 = .ok (.newarray .int, 2) := by decide +kernel
theorem dX6_init_15 : decode cX6_init 15 = .ok (.putfield 13, 3) := by decide +kernel
theorem dX6_init_18 : decode cX6_init 18 = .ok (.aload_n 0, 1) := by decide +kernel
theorem dX6_init_19 : decode cX6_init 19 = .ok (.bipush 30, 2) := by decide +kernel
theorem dX6_init_21 : decode cX6_init 21 = .ok (.newarray .int, 2) := by decide +kernel
theorem dX6_init_23 : decode cX6_init 23 = .ok (.putfield 17, 3) := by decide +kernel
theorem dX6_init_26 : decode cX6_init 26 = .ok (.aload_n 0, 1) := by decide +kernel
theorem dX6_init_27 : decode cX6_init 27 = .ok (.bipush 30, 2) := by decide +kernel
theorem dX6_init_29 : decode cX6_init 29 = .ok (.newarray .int, 2) := by decide +kernel
theorem dX6_init_31 : decode cX6_init 31 = .ok (.putfield 20, 3) := by decide +kernel
theorem dX6_init_34 : decode cX6_init 34 = .ok (.aload_n 0, 1) := by decide +kernel
theorem dX6_init_35 : decode cX6_init 35 = .ok (.bipush 30, 2) := by decide +kernel
theorem dX6_init_37 : decode cX6_init 37 = .ok (.newarray .int, 2) := by decide +kernel
theorem dX6_init_39 : decode cX6_init 39 = .ok (.putfield 23, 3) := by decide +kernel
theorem dX6_init_42 : decode cX6_init 42 = .ok (.aload_n 0, 1) := by decide +kernel
theorem dX6_init_43 : decode cX6_init 43 = .ok (.bipush 30, 2) := by decide +kernel
theorem dX6_init_45 : decode cX6_init 45 = .ok (.newarray .int, 2) := by decide +kernel
theorem dX6_init_47 : decode cX6_init 47 = .ok (.putfield 26, 3) := by decide +kernel
theorem dX6_init_50 : decode cX6_init 50 = .ok (.aload_n 0, 1) := by decide +kernel
theorem dX6_init_51 : decode cX6_init 51 = .ok (.bipush 30, 2) := by decide +kernel
theorem dX6_init_53 : decode cX6_init 53 = .ok (.newarray .boolean, 2) := by decide +kernel
theorem dX6_init_55 : decode cX6_init 55 = .ok (.putfield 29, 3) := by decide +kernel
theorem dX6_init_58 : decode cX6_init 58 = .ok (.aload_n 0, 1) := by decide +kernel
theorem dX6_init_59 : decode cX6_init 59 = .ok (.bipush 30, 2) := by decide +kernel
theorem dX6_init_61 : decode cX6_init 61 = .ok (.newarray .int, 2) := by decide +kernel
theorem dX6_init_63 : decode cX6_init 63 = .ok (.putfield 33, 3) := by decide +kernel
theorem dX6_init_66 : decode cX6_init 66 = .ok (.aload_n 0, 1) := by decide +kernel
theorem dX6_init_67 : decode cX6_init 67 = .ok (.bipush 30, 2) := by decide +kernel
theorem dX6_init_69 : decode cX6_init 69 = .ok (.newarray .int, 2) := by decide +kernel
theorem dX6_init_71 : decode cX6_init 71 = .ok (.putfield 36, 3) := by decide +kernel
theorem dX6_init_74 : decode cX6_init 74 = .ok (.aload_n 0, 1) := by decide +kernel
theorem dX6_init_75 : decode cX6_init 75 = .ok (.bipush 30, 2) := by decide +kernel
theorem dX6_init_77 : decode cX6_init 77 = .ok (.newarray .boolean, 2) := by decide +kernel
theorem dX6_init_79 : decode cX6_init 79 = .ok (.putfield 39, 3) := by decide +kernel
theorem dX6_init_82 : decode cX6_init 82 = .ok (.aload_n 0, 1) := by decide +kernel
theorem dX6_init_83 : decode cX6_init 83 = .ok (.bipush 30, 2) := by decide +kernel
theorem dX6_init_85 : decode cX6_init 85 = .ok (.newarray .int, 2) := by decide +kernel
theorem dX6_init_87 : decode cX6_init 87 = .ok (.putfield 42, 3) := by decide +kernel
theorem dX6_init_90 : decode cX6_init 90 = .ok (.aload_n 0, 1) := by decide +kernel
theorem dX6_init_91 : decode cX6_init 91 = .ok (.bipush 30, 2) := by decide +kernel
theorem dX6_init_93 : decode cX6_init 93 = .ok (.newarray .boolean, 2) := by decide +kernel
theorem dX6_init_95 : decode cX6_init 95 = .ok (.putfield 45, 3) := by decide +kernel
theorem dX6_init_98 : decode cX6_init 98 = .ok (.aload_n 0, 1) := by decide +kernel
theorem dX6_init_99 : decode cX6_init 99 = .ok (.bipush 30, 2) := by decide +kernel
theorem dX6_init_101 : decode cX6_init 101 = .ok (.newarray .int, 2) := by decide +kernel
theorem dX6_init_103 : decode cX6_init 103 = .ok (.putfield 48, 3) := by decide +kernel
theorem dX6_init_106 : decode cX6_init 106 = .ok (.aload_n 0, 1) := by decide +kernel
theorem dX6_init_107 : decode cX6_init 107 = .ok (.bipush 30, 2) := by decide +kernel
theorem dX6_init_109 : decode cX6_init 109 = .ok (.newarray .int, 2) := by decide +kernel
theorem dX6_init_111 : decode cX6_init 111 = .ok (.putfield 51, 3) := by decide +kernel
theorem dX6_init_114 : decode cX6_init 114 = .ok (.aload_n 0, 1) := by decide +kernel
theorem dX6_init_115 : decode cX6_init 115 = .ok (.bipush 30, 2) := by decide +kernel
theorem dX6_init_117 : decode cX6_init 117 = .ok (.newarray .int, 2) := by decide +kernel
theorem dX6_init_119 : decode cX6_init 119 = .ok (.putfield 54, 3) := by decide +kernel
theorem dX6_init_122 : decode cX6_init 122 = .ok (.aload_n 0, 1) := by decide +kernel
theorem dX6_init_123 : decode cX6_init 123 = .ok (.bipush 6, 2) := by decide +kernel
theorem dX6_init_125 : decode cX6_init 125 = .ok (.newarray .int, 2) := by decide +kernel
theorem dX6_init_127 : decode cX6_init 127 = .ok (.putfield 57, 3) := by decide +kernel
theorem dX6_init_130 : decode cX6_init 130 = .ok (.aload_n 0, 1) := by decide +kernel
theorem dX6_init_131 : decode cX6_init 131 = .ok (.bipush 6, 2) := by decide +kernel
theorem dX6_init_133 : decode cX6_init 133 = .ok (.newarray .int, 2) := by decide +kernel
theorem dX6_init_135 : decode cX6_init 135 = .ok (.putfield 60, 3) := by decide +kernel
theorem dX6_init_138 : decode cX6_init 138 = .ok (.aload_n 0, 1) := by decide +kernel
theorem dX6_init_139 : decode cX6_init 139 = .ok (.bipush 6, 2) := by decide +kernel
theorem dX6_init_141 : decode cX6_init 141 = .ok (.newarray .int, 2) := by decide +kernel
theorem dX6_init_143 : decode cX6_init 143 = .ok (.putfield 63, 3) := by decide +kernel
theorem dX6_init_146 : decode cX6_init 146 = .ok (.aload_n 0, 1) := by decide +kernel
theorem dX6_init_147 : decode cX6_init 147 = .ok (.bipush 6, 2) := by decide +kernel
theorem dX6_init_149 : decode cX6_init 149 = .ok (.newarray .int, 2) := by decide +kernel
theorem dX6_init_151 : decode cX6_init 151 = .ok (.putfield 66, 3) := by decide +kernel
theorem dX6_init_154 : decode cX6_init 154 = .ok (.aload_n 0, 1) := by decide +kernel
theorem dX6_init_155 : decode cX6_init 155 = .ok (.bipush 30, 2) := by decide +kernel
theorem dX6_init_157 : decode cX6_init 157 = .ok (.newarray .int, 2) := by decide +kernel
theorem dX6_init_159 : decode cX6_init 159 = .ok (.putfield 69, 3) := by decide +kernel
theorem dX6_init_162 : decode cX6_init 162 = .ok (.aload_n 0, 1) := by decide +kernel
theorem dX6_init_163 : decode cX6_init 163 = .ok (.bipush 30, 2) := by decide +kernel
theorem dX6_init_165 : decode cX6_init 165 = .ok (.newarray .int, 2) := by decide +kernel
theorem dX6_init_167 : decode cX6_init 167 = .ok (.putfield 72, 3) := by decide +kernel
theorem dX6_init_170 : decode cX6_init 170 = .ok (.aload_n 0, 1) := by decide +kernel
theorem dX6_init_171 : decode cX6_init 171 = .ok (.bipush 30, 2) := by decide +kernel
theorem dX6_init_173 : decode cX6_init 173 = .ok (.newarray .int, 2) := by decide +kernel
theorem dX6_init_175 : decode cX6_init 175 = .ok (.putfield 75, 3) := by decide +kernel
theorem dX6_init_178 : decode cX6_init 178 = .ok (.aload_n 0, 1) := by decide +kernel
theorem dX6_init_179 : decode cX6_init 179 = .ok (.bipush 30, 2) := by decide +kernel
theorem dX6_init_181 : decode cX6_init 181 = .ok (.newarray .boolean, 2) := by decide +kernel
theorem dX6_init_183 : decode cX6_init 183 = .ok (.putfield 78, 3) := by decide +kernel
theorem dX6_init_186 : decode cX6_init 186 = .ok (.aload_n 0, 1) := by decide +kernel
theorem dX6_init_187 : decode cX6_init 187 = .ok (.bipush 6, 2) := by decide +kernel
theorem dX6_init_189 : decode cX6_init 189 = .ok (.newarray .int, 2) := by decide +kernel
theorem dX6_init_191 : decode cX6_init 191 = .ok (.putfield 81, 3) := by decide +kernel
theorem dX6_init_194 : decode cX6_init 194 = .ok (.aload_n 0, 1) := by decide +kernel
theorem dX6_init_195 : decode cX6_init 195 = .ok (.bipush 48, 2) := by decide +kernel
theorem dX6_init_197 : decode cX6_init 197 = .ok (.newarray .int, 2) := by decide +kernel
theorem dX6_init_199 : decode cX6_init 199 = .ok (.putfield 84, 3) := by decide +kernel
theorem dX6_init_202 : decode cX6_init 202 = .ok (.aload_n 0, 1) := by decide +kernel
theorem dX6_init_203 : decode cX6_init 203 = .ok (.bipush 48, 2) := by decide +kernel
theorem dX6_init_205 : decode cX6_init 205 = .ok (.newarray .int, 2) := by decide +kernel
theorem dX6_init_207 : decode cX6_init 207 = .ok (.putfield 87, 3) := by decide +kernel
theorem dX6_init_210 : decode cX6_init 210 = .ok (.aload_n 0, 1) := by decide +kernel
theorem dX6_init_211 : decode cX6_init 211 = .ok (.bipush 48, 2) := by decide +kernel
theorem dX6_init_213 : decode cX6_init 213 = .ok (.newarray .int, 2) := by decide +kernel
theorem dX6_init_215 : decode cX6_init 215 = .ok (.putfield 90, 3) := by decide +kernel
theorem dX6_init_218 : decode cX6_init 218 = .ok (.aload_n 0, 1) := by decide +kernel
theorem dX6_init_219 : decode cX6_init 219 = .ok (.bipush 48, 2) := by decide +kernel
theorem dX6_init_221 : decode cX6_init 221 = .ok (.newarray .int, 2) := by decide +kernel
theorem dX6_init_223 : decode cX6_init 223 = .ok (.putfield 93, 3) := by decide +kernel
theorem dX6_init_226 : decode cX6_init 226 = .ok (.aload_n 0, 1) := by decide +kernel
theorem dX6_init_227 : decode cX6_init 227 = .ok (.bipush 10, 2) := by decide +kernel
theorem dX6_init_229 : decode cX6_init 229 = .ok (.newarray .int, 2) := by decide +kernel
theorem dX6_init_231 : decode cX6_init 231 = .ok (.putfield 96, 3) := by decide +kernel
theorem dX6_init_234 : decode cX6_init 234 = .ok (.aload_n 0, 1) := by decide +kernel
theorem dX6_init_235 : decode cX6_init 235 = .ok (.bipush 10, 2) := by decide +kernel
theorem dX6_init_237 : decode cX6_init 237 = .ok (.newarray .int, 2) := by decide +kernel
theorem dX6_init_239 : decode cX6_init 239 = .ok (.putfield 99, 3) := by decide +kernel
theorem dX6_init_242 : decode cX6_init 242 = .ok (.aload_n 0, 1) := by decide +kernel
theorem dX6_init_243 : decode cX6_init 243 = .ok (.sipush 2400, 3) := by decide +kernel
theorem dX6_init_246 : decode cX6_init 246 = .ok (.newarray .int, 2) := by decide +kernel
theorem dX6_init_248 : decode cX6_init 248 = .ok (.putfield 102, 3) := by decide +kernel
theorem dX6_init_251 : decode cX6_init 251 = .ok (.aload_n 0, 1) := by decide +kernel
theorem dX6_init_252 : decode cX6_init 252 = .ok (.sipush 2400, 3) := by decide +kernel
theorem dX6_init_255 : decode cX6_init 255 = .ok (.newarray .int, 2) := by decide +kernel
theorem dX6_init_257 : decode cX6_init 257 = .ok (.putfield 105, 3) := by decide +kernel
theorem dX6_init_260 : decode cX6_init 260 = .ok (.aload_n 0, 1) := by decide +kernel
theorem dX6_init_261 : decode cX6_init 261 = .ok (.sipush 2400, 3) := by decide +kernel
theorem dX6_init_264 : decode cX6_init 264 = .ok (.newarray .int, 2) := by decide +kernel
theorem dX6_init_266 : decode cX6_init 266 = .ok (.putfield 108, 3) := by decide +kernel
theorem dX6_init_269 : decode cX6_init 269 = .ok (.aload_n 0, 1) := by decide +kernel
theorem dX6_init_270 : decode cX6_init 270 = .ok (.sipush 2400, 3) := by decide +kernel
theorem dX6_init_273 : decode cX6_init 273 = .ok (.newarray .int, 2) := by decide +kernel
theorem dX6_init_275 : decode cX6_init 275 = .ok (.putfield 111, 3) := by decide +kernel
theorem dX6_init_278 : decode cX6_init 278 = .ok (.aload_n 0, 1) := by decide +kernel
theorem dX6_init_279 : decode cX6_init 279 = .ok (.sipush 600, 3) := by decide +kernel
theorem dX6_init_282 : decode cX6_init 282 = .ok (.newarray .int, 2) := by decide +kernel
theorem dX6_init_284 : decode cX6_init 284 = .ok (.putfield 114, 3) := by decide +kernel
theorem dX6_init_287 : decode cX6_init 287 = .ok (.aload_n 0, 1) := by decide +kernel
theorem dX6_init_288 : decode cX6_init 288 = .ok (.bipush 60, 2) := by decide +kernel
theorem dX6_init_290 : decode cX6_init 290 = .ok (.newarray .boolean, 2) := by decide +kernel
theorem dX6_init_292 : decode cX6_init 292 = .ok (.putfield 117, 3) := by decide +kernel
theorem dX6_init_295 : decode cX6_init 295 = .ok (.aload_n 0, 1) := by decide +kernel
theorem dX6_init_296 : decode cX6_init 296 = .ok (.bipush 6, 2) := by decide +kernel
theorem dX6_init_298 : decode cX6_init 298 = .ok (.newarray .int, 2) := by decide +kernel
theorem dX6_init_300 : decode cX6_init 300 = .ok (.putfield 120, 3) := by decide +kernel
theorem dX6_init_303 : decode cX6_init 303 = .ok (.aload_n 0, 1) := by decide +kernel
theorem dX6_init_304 : decode cX6_init 304 = .ok (.bipush 6, 2) := by decide +kernel
theorem dX6_init_306 : decode cX6_init 306 = .ok (.newarray .boolean, 2) := by decide +kernel
theorem dX6_init_308 : decode cX6_init 308 = .ok (.putfield 123, 3) := by decide +kernel
theorem dX6_init_311 : decode cX6_init 311 = .ok (.iconst 0, 1) := by decide +kernel
theorem dX6_init_312 : decode cX6_init 312 = .ok (.istore_n 1, 1) := by decide +kernel
theorem dX6_init_313 : decode cX6_init 313 = .ok (.iload_n 1, 1) := by decide +kernel
theorem dX6_init_314 : decode cX6_init 314 = .ok (.bipush 6, 2) := by decide +kernel
theorem dX6_init_316 : decode cX6_init 316 = .ok (.if_icmp .ge 31, 3) := by decide +kernel
theorem dX6_init_319 : decode cX6_init 319 = .ok (.aload_n 0, 1) := by decide +kernel
theorem dX6_init_320 : decode cX6_init 320 = .ok (.getfield 13, 3) := by decide +kernel
theorem dX6_init_323 : decode cX6_init 323 = .ok (.iload_n 1, 1) := by decide +kernel
theorem dX6_init_324 : decode cX6_init 324 = .ok (.bipush 8, 2) := by decide +kernel
theorem dX6_init_326 : decode cX6_init 326 = .ok (.iastore, 1) := by decide +kernel
theorem dX6_init_327 : decode cX6_init 327 = .ok (.aload_n 0, 1) := by decide +kernel
theorem dX6_init_328 : decode cX6_init 328 = .ok (.getfield 57, 3) := by decide +kernel
theorem dX6_init_331 : decode cX6_init 331 = .ok (.iload_n 1, 1) := by decide +kernel
theorem dX6_init_332 : decode cX6_init 332 = .ok (.iload_n 1, 1) := by decide +kernel
theorem dX6_init_333 : decode cX6_init 333 = .ok (.iastore, 1) := by decide +kernel
theorem dX6_init_334 : decode cX6_init 334 = .ok (.aload_n 0, 1) := by decide +kernel
theorem dX6_init_335 : decode cX6_init 335 = .ok (.getfield 66, 3) := by decide +kernel
theorem dX6_init_338 : decode cX6_init 338 = .ok (.iload_n 1, 1) := by decide +kernel
theorem dX6_init_339 : decode cX6_init 339 = .ok (.iconst (-1), 1) := by decide +kernel
theorem dX6_init_340 : decode cX6_init 340 = .ok (.iastore, 1) := by decide +kernel
theorem dX6_init_341 : decode cX6_init 341 = .ok (.iinc 1 1, 3) := by decide +kernel
theorem dX6_init_344 : decode cX6_init 344 = .ok (.goto (-31), 3) := by decide +kernel
theorem dX6_init_347 : decode cX6_init 347 = .ok (.iconst 0, 1) := by decide +kernel
theorem dX6_init_348 : decode cX6_init 348 = .ok (.istore_n 1, 1) := by decide +kernel
theorem dX6_init_349 : decode cX6_init 349 = .ok (.iload_n 1, 1) := by decide +kernel
theorem dX6_init_350 : decode cX6_init 350 = .ok (.bipush 30, 2) := by decide +kernel
theorem dX6_init_352 : decode cX6_init 352 = .ok (.if_icmp .ge 38, 3) := by decide +kernel
theorem dX6_init_355 : decode cX6_init 355 = .ok (.aload_n 0, 1) := by decide +kernel
theorem dX6_init_356 : decode cX6_init 356 = .ok (.getfield 17, 3) := by decide +kernel
theorem dX6_init_359 : decode cX6_init 359 = .ok (.iload_n 1, 1) := by decide +kernel
theorem dX6_init_360 : decode cX6_init 360 = .ok (.iconst (-1), 1) := by decide +kernel
theorem dX6_init_361 : decode cX6_init 361 = .ok (.iastore, 1) := by decide +kernel
theorem dX6_init_362 : decode cX6_init 362 = .ok (.aload_n 0, 1) := by decide +kernel
theorem dX6_init_363 : decode cX6_init 363 = .ok (.getfield 23, 3) := by decide +kernel
theorem dX6_init_366 : decode cX6_init 366 = .ok (.iload_n 1, 1) := by decide +kernel
theorem dX6_init_367 : decode cX6_init 367 = .ok (.iconst (-1), 1) := by decide +kernel
theorem dX6_init_368 : decode cX6_init 368 = .ok (.iastore, 1) := by decide +kernel
theorem dX6_init_369 : decode cX6_init 369 = .ok (.aload_n 0, 1) := by decide +kernel
theorem dX6_init_370 : decode cX6_init 370 = .ok (.getfield 33, 3) := by decide +kernel
theorem dX6_init_373 : decode cX6_init 373 = .ok (.iload_n 1, 1) := by decide +kernel
theorem dX6_init_374 : decode cX6_init 374 = .ok (.bipush 7, 2) := by decide +kernel
theorem dX6_init_376 : decode cX6_init 376 = .ok (.iastore, 1) := by decide +kernel
theorem dX6_init_377 : decode cX6_init 377 = .ok (.aload_n 0, 1) := by decide +kernel
theorem dX6_init_378 : decode cX6_init 378 = .ok (.getfield 36, 3) := by decide +kernel
theorem dX6_init_381 : decode cX6_init 381 = .ok (.iload_n 1, 1) := by decide +kernel
theorem dX6_init_382 : decode cX6_init 382 = .ok (.iconst 1, 1) := by decide +kernel
theorem dX6_init_383 : decode cX6_init 383 = .ok (.iastore, 1) := by decide +kernel
theorem dX6_init_384 : decode cX6_init 384 = .ok (.iinc 1 1, 3) := by decide +kernel
theorem dX6_init_387 : decode cX6_init 387 = .ok (.goto (-38), 3) := by decide +kernel
theorem dX6_init_390 : decode cX6_init 390 = .ok (.return_, 1) := by decide +kernel
theorem dX6_thrown_0 : decode cX6_thrown 0 = .ok (.aload_n 0, 1) := by decide +kernel
theorem dX6_thrown_1 : decode cX6_thrown 1 = .ok (.getfield 126, 3) := by decide +kernel
theorem dX6_thrown_4 : decode cX6_thrown 4 = .ok (.ireturn, 1) := by decide +kernel
theorem dX6_fails_0 : decode cX6_fails 0 = .ok (.aload_n 0, 1) := by decide +kernel
theorem dX6_fails_1 : decode cX6_fails 1 = .ok (.iload_n 1, 1) := by decide +kernel
theorem dX6_fails_2 : decode cX6_fails 2 = .ok (.putfield 126, 3) := by decide +kernel
theorem dX6_fails_5 : decode cX6_fails 5 = .ok (.iload_n 1, 1) := by decide +kernel
theorem dX6_fails_6 : decode cX6_fails 6 = .ok (.ifCond .le 7, 3) := by decide +kernel
theorem dX6_fails_9 : decode cX6_fails 9 = .ok (.iconst 1, 1) := by decide +kernel
theorem dX6_fails_10 : decode cX6_fails 10 = .ok (.goto 4, 3) := by decide +kernel
theorem dX6_fails_13 : decode cX6_fails 13 = .ok (.iconst 0, 1) := by decide +kernel
theorem dX6_fails_14 : decode cX6_fails 14 = .ok (.ireturn, 1) := by decide +kernel
theorem dX6_isIn_0 : decode cX6_isIn 0 = .ok (.iload_n 0, 1) := by decide +kernel
theorem dX6_isIn_1 : decode cX6_isIn 1 = .ok (.iload_n 1, 1) := by decide +kernel
theorem dX6_isIn_2 : decode cX6_isIn 2 = .ok (.if_icmp .lt 12, 3) := by decide +kernel
theorem dX6_isIn_5 : decode cX6_isIn 5 = .ok (.iload_n 0, 1) := by decide +kernel
theorem dX6_isIn_6 : decode cX6_isIn 6 = .ok (.iload_n 2, 1) := by decide +kernel
theorem dX6_isIn_7 : decode cX6_isIn 7 = .ok (.if_icmp .gt 7, 3) := by decide +kernel
theorem dX6_isIn_10 : decode cX6_isIn 10 = .ok (.iconst 1, 1) := by decide +kernel
theorem dX6_isIn_11 : decode cX6_isIn 11 = .ok (.goto 4, 3) := by decide +kernel
theorem dX6_isIn_14 : decode cX6_isIn 14 = .ok (.iconst 0, 1) := by decide +kernel
theorem dX6_isIn_15 : decode cX6_isIn 15 = .ok (.ireturn, 1) := by decide +kernel
set_option maxRecDepth 20000 in
theorem ggX6_isSwitch_X6_isIn : GoodIn wsX6_isSwitch wsX6_isIn := goodIn_r _ [4] (by decide +kernel) (by decide +kernel)
set_option maxRecDepth 20000 in
theorem gX6_isSwitch_X6_isIn : GoodIn wsX6_isSwitch (va_wsS RX6 129 yX6_isIn wsX6_isIn) := goodIn_app (goodIn_of _ (by decide +kernel)) ggX6_isSwitch_X6_isIn
theorem dX6_isSwitch_0 : decode cX6_isSwitch 0 = .ok (.iload_n 0, 1) := by decide +kernel
theorem dX6_isSwitch_1 : decode cX6_isSwitch 1 = .ok (.iconst 0, 1) := by decide +kernel
theorem dX6_isSwitch_2 : decode cX6_isSwitch 2 = .ok (.iconst 5, 1) := by decide +kernel
theorem dX6_isSwitch_3 : decode cX6_isSwitch 3 = .ok (.invokestatic 129, 3) := by decide +kernel
theorem dX6_isSwitch_6 : decode cX6_isSwitch 6 = .ok (.ireturn, 1) := by decide +kernel
set_option maxRecDepth 20000 in
theorem ggX6_isPort_X6_isSwitch : GoodIn wsX6_isPort wsX6_isSwitch := goodIn_r _ [4, 5, 6, 3, 7] (by decide +kernel) (by decide +kernel)
set_option maxRecDepth 20000 in
theorem gX6_isPort_X6_isSwitch : GoodIn wsX6_isPort (va_wsS RX6 133 yX6_isSwitch wsX6_isSwitch) := goodIn_app (goodIn_of _ (by decide +kernel)) ggX6_isPort_X6_isSwitch
set_option maxRecDepth 20000 in
theorem ggX6_isPort_X6_isIn : GoodIn wsX6_isPort wsX6_isIn := goodIn_r _ [7] (by decide +kernel) (by decide +kernel)
set_option maxRecDepth 20000 in
theorem gX6_isPort_X6_isIn : GoodIn wsX6_isPort (va_wsS RX6 129 yX6_isIn wsX6_isIn) := goodIn_app (goodIn_of _ (by decide +kernel)) ggX6_isPort_X6_isIn
theorem dX6_isPort_0 : decode cX6_isPort 0 = .ok (.iload_n 0, 1) := by decide +kernel
theorem dX6_isPort_1 : decode cX6_isPort 1 = .ok (.invokestatic 133, 3) := by decide +kernel
theorem dX6_isPort_4 : decode cX6_isPort 4 = .ok (.ifCond .eq 16, 3) := by decide +kernel
theorem dX6_isPort_7 : decode cX6_isPort 7 = .ok (.iload_n 1, 1) := by decide +kernel
theorem dX6_isPort_8 : decode cX6_isPort 8 = .ok (.iconst 0, 1) := by decide +kernel
theorem dX6_isPort_9 : decode cX6_isPort 9 = .ok (.iconst 4, 1) := by decide +kernel
theorem dX6_isPort_10 : decode cX6_isPort 10 = .ok (.invokestatic 129, 3) := by decide +kernel
theorem dX6_isPort_13 : decode cX6_isPort 13 = .ok (.ifCond .eq 7, 3) := by decide +kernel
theorem dX6_isPort_16 : decode cX6_isPort 16 = .ok (.iconst 1, 1) := by decide +kernel
theorem dX6_isPort_17 : decode cX6_isPort 17 = .ok (.goto 4, 3) := by decide +kernel
theorem dX6_isPort_20 : decode cX6_isPort 20 = .ok (.iconst 0, 1) := by decide +kernel
theorem dX6_isPort_21 : decode cX6_isPort 21 = .ok (.ireturn, 1) := by decide +kernel
set_option maxRecDepth 20000 in
theorem ggX6_isHouse_X6_isIn : GoodIn wsX6_isHouse wsX6_isIn := goodIn_r _ [4] (by decide +kernel) (by decide +kernel)
set_option maxRecDepth 20000 in
theorem gX6_isHouse_X6_isIn : GoodIn wsX6_isHouse (va_wsS RX6 129 yX6_isIn wsX6_isIn) := goodIn_app (goodIn_of _ (by decide +kernel)) ggX6_isHouse_X6_isIn
theorem dX6_isHouse_0 : decode cX6_isHouse 0 = .ok (.iload_n 0, 1) := by decide +kernel
theorem dX6_isHouse_1 : decode cX6_isHouse 1 = .ok (.iconst 0, 1) := by decide +kernel
theorem dX6_isHouse_2 : decode cX6_isHouse 2 = .ok (.bipush 9, 2) := by decide +kernel
theorem dX6_isHouse_4 : decode cX6_isHouse 4 = .ok (.invokestatic 129, 3) := by decide +kernel
theorem dX6_isHouse_7 : decode cX6_isHouse 7 = .ok (.ireturn, 1) := by decide +kernel
set_option maxRecDepth 20000 in
theorem ggX6_isLane_X6_isIn : GoodIn wsX6_isLane wsX6_isIn := goodIn_r _ [4] (by decide +kernel) (by decide +kernel)
set_option maxRecDepth 20000 in
theorem gX6_isLane_X6_isIn : GoodIn wsX6_isLane (va_wsS RX6 129 yX6_isIn wsX6_isIn) := goodIn_app (goodIn_of _ (by decide +kernel)) ggX6_isLane_X6_isIn
theorem dX6_isLane_0 : decode cX6_isLane 0 = .ok (.iload_n 0, 1) := by decide +kernel
theorem dX6_isLane_1 : decode cX6_isLane 1 = .ok (.iconst 1, 1) := by decide +kernel
theorem dX6_isLane_2 : decode cX6_isLane 2 = .ok (.iconst 3, 1) := by decide +kernel
theorem dX6_isLane_3 : decode cX6_isLane 3 = .ok (.invokestatic 129, 3) := by decide +kernel
theorem dX6_isLane_6 : decode cX6_isLane 6 = .ok (.ireturn, 1) := by decide +kernel
theorem dX6_isBetter_0 : decode cX6_isBetter 0 = .ok (.aload_n 0, 1) := by decide +kernel
theorem dX6_isBetter_1 : decode cX6_isBetter 1 = .ok (.getfield 13, 3) := by decide +kernel
theorem dX6_isBetter_4 : decode cX6_isBetter 4 = .ok (.iload_n 1, 1) := by decide +kernel
theorem dX6_isBetter_5 : decode cX6_isBetter 5 = .ok (.iaload, 1) := by decide +kernel
theorem dX6_isBetter_6 : decode cX6_isBetter 6 = .ok (.aload_n 0, 1) := by decide +kernel
theorem dX6_isBetter_7 : decode cX6_isBetter 7 = .ok (.getfield 13, 3) := by decide +kernel
theorem dX6_isBetter_10 : decode cX6_isBetter 10 = .ok (.iload_n 2, 1) := by decide +kernel
theorem dX6_isBetter_11 : decode cX6_isBetter 11 = .ok (.iaload, 1) := by decide +kernel
theorem dX6_isBetter_12 : decode cX6_isBetter 12 = .ok (.if_icmp .lt 23, 3) := by decide +kernel
theorem dX6_isBetter_15 : decode cX6_isBetter 15 = .ok (.aload_n 0, 1) := by decide +kernel
theorem dX6_isBetter_16 : decode cX6_isBetter 16 = .ok (.getfield 13, 3) := by decide +kernel
theorem dX6_isBetter_19 : decode cX6_isBetter 19 = .ok (.iload_n 1, 1) := by decide +kernel
theorem dX6_isBetter_20 : decode cX6_isBetter 20 = .ok (.iaload, 1) := by decide +kernel
theorem dX6_isBetter_21 : decode cX6_isBetter 21 = .ok (.aload_n 0, 1) := by decide +kernel
theorem dX6_isBetter_22 : decode cX6_isBetter 22 = .ok (.getfield 13, 3) := by decide +kernel
theorem dX6_isBetter_25 : decode cX6_isBetter 25 = .ok (.iload_n 2, 1) := by decide +kernel
theorem dX6_isBetter_26 : decode cX6_isBetter 26 = .ok (.iaload, 1) := by decide +kernel
theorem dX6_isBetter_27 : decode cX6_isBetter 27 = .ok (.if_icmp .ne 12, 3) := by decide +kernel
theorem dX6_isBetter_30 : decode cX6_isBetter 30 = .ok (.iload_n 1, 1) := by decide +kernel
theorem dX6_isBetter_31 : decode cX6_isBetter 31 = .ok (.iload_n 2, 1) := by decide +kernel
theorem dX6_isBetter_32 : decode cX6_isBetter 32 = .ok (.if_icmp .ge 7, 3) := by decide +kernel
theorem dX6_isBetter_35 : decode cX6_isBetter 35 = .ok (.iconst 1, 1) := by decide +kernel
theorem dX6_isBetter_36 : decode cX6_isBetter 36 = .ok (.goto 4, 3) := by decide +kernel
theorem dX6_isBetter_39 : decode cX6_isBetter 39 = .ok (.iconst 0, 1) := by decide +kernel
theorem dX6_isBetter_40 : decode cX6_isBetter 40 = .ok (.ireturn, 1) := by decide +kernel
set_option maxRecDepth 20000 in
theorem ggX6_wire_X6_isPort : GoodIn wsX6_wire wsX6_isPort := goodIn_r _ [6, 7, 8, 5, 9, 10, 11, 12] (by decide +kernel) (by decide +kernel)
set_option maxRecDepth 20000 in
theorem gX6_wire_X6_isPort : GoodIn wsX6_wire (va_wsS RX6 137 yX6_isPort wsX6_isPort) := goodIn_app (goodIn_of _ (by decide +kernel)) ggX6_wire_X6_isPort
set_option maxRecDepth 20000 in
theorem ggX6_wire_X6_isIn : GoodIn wsX6_wire wsX6_isIn := goodIn_r _ [12] (by decide +kernel) (by decide +kernel)
set_option maxRecDepth 20000 in
theorem gX6_wire_X6_isIn : GoodIn wsX6_wire (va_wsS RX6 129 yX6_isIn wsX6_isIn) := goodIn_app (goodIn_of _ (by decide +kernel)) ggX6_wire_X6_isIn
set_option maxRecDepth 20000 in
theorem ggX6_wire_X6_isUsed : GoodIn wsX6_wire wsX6_isUsed := goodIn_r _ [16, 1, 17, 30, 31, 32, 33, 34, 35, 36, 37, 38, 39, 40, 41, 42, 43, 44, 45, 46, 47, 48, 49, 50, 51, 52, 53, 54, 55, 56, 57, 58, 59, 60, 61, 62, 63, 64, 65, 66, 67, 68, 69, 70] (by decide +kernel) (by decide +kernel)
set_option maxRecDepth 20000 in
theorem gX6_wire_X6_isUsed : GoodIn wsX6_wire (wsV RX6 141 RX6 yX6_isUsed wsX6_isUsed) := goodIn_app (goodIn_of _ (by decide +kernel)) ggX6_wire_X6_isUsed
set_option maxRecDepth 20000 in
theorem ggX6_wire_X6_fails : GoodIn wsX6_wire wsX6_fails := goodIn_r _ [21, 22, 30, 31, 32, 33, 34, 35, 36, 37, 38, 39, 40, 41, 42, 43, 44, 45, 46, 47, 48, 49, 50, 51, 52, 53, 54, 55, 56, 57, 58, 59, 60, 61, 62, 63, 64, 65, 66, 67, 68, 69, 70] (by decide +kernel) (by decide +kernel)
set_option maxRecDepth 20000 in
theorem gX6_wire_X6_fails : GoodIn wsX6_wire (wsV RX6 144 RX6 yX6_fails wsX6_fails) := goodIn_app (goodIn_of _ (by decide +kernel)) ggX6_wire_X6_fails
set_option maxRecDepth 20000 in
theorem ggX6_wire_X6_begins : GoodIn wsX6_wire wsX6_begins := goodIn_r _ [26, 27, 28, 29, 30, 31, 32, 33, 34, 35, 36, 37, 38, 39, 40, 41, 42, 43, 44, 45, 46, 47, 48, 49, 50, 51, 52, 53, 54, 55, 56, 57, 58, 59, 60, 61, 62, 63, 64, 65, 66, 67, 68, 69, 70] (by decide +kernel) (by decide +kernel)
set_option maxRecDepth 20000 in
theorem gX6_wire_X6_begins : GoodIn wsX6_wire (wsV RX6 147 RX6 yX6_begins wsX6_begins) := goodIn_app (goodIn_of _ (by decide +kernel)) ggX6_wire_X6_begins
theorem dX6_wire_0 : decode cX6_wire 0 = .ok (.iload_n 1, 1) := by decide +kernel
theorem dX6_wire_1 : decode cX6_wire 1 = .ok (.iload_n 2, 1) := by decide +kernel
theorem dX6_wire_2 : decode cX6_wire 2 = .ok (.invokestatic 137, 3) := by decide +kernel
theorem dX6_wire_5 : decode cX6_wire 5 = .ok (.ifCond .eq 16, 3) := by decide +kernel
theorem dX6_wire_8 : decode cX6_wire 8 = .ok (.iload_n 3, 1) := by decide +kernel
theorem dX6_wire_9 : decode cX6_wire 9 = .ok (.iload 4, 2) := by decide +kernel
theorem dX6_wire_11 : decode cX6_wire 11 = .ok (.invokestatic 137, 3) := by decide +kernel
theorem dX6_wire_14 : decode cX6_wire 14 = .ok (.ifCond .eq 7, 3) := by decide +kernel
theorem dX6_wire_17 : decode cX6_wire 17 = .ok (.iconst 1, 1) := by decide +kernel
theorem dX6_wire_18 : decode cX6_wire 18 = .ok (.goto 4, 3) := by decide +kernel
theorem dX6_wire_21 : decode cX6_wire 21 = .ok (.iconst 0, 1) := by decide +kernel
theorem dX6_wire_22 : decode cX6_wire 22 = .ok (.istore 6, 2) := by decide +kernel
theorem dX6_wire_24 : decode cX6_wire 24 = .ok (.iload_n 1, 1) := by decide +kernel
theorem dX6_wire_25 : decode cX6_wire 25 = .ok (.iload_n 3, 1) := by decide +kernel
theorem dX6_wire_26 : decode cX6_wire 26 = .ok (.if_icmp .eq 18, 3) := by decide +kernel
theorem dX6_wire_29 : decode cX6_wire 29 = .ok (.iload 5, 2) := by decide +kernel
theorem dX6_wire_31 : decode cX6_wire 31 = .ok (.iconst 1, 1) := by decide +kernel
theorem dX6_wire_32 : decode cX6_wire 32 = .ok (.bipush 100, 2) := by decide +kernel
theorem dX6_wire_34 : decode cX6_wire 34 = .ok (.invokestatic 129, 3) := by decide +kernel
theorem dX6_wire_37 : decode cX6_wire 37 = .ok (.ifCond .eq 7, 3) := by decide +kernel
theorem dX6_wire_40 : decode cX6_wire 40 = .ok (.iconst 1, 1) := by decide +kernel
theorem dX6_wire_41 : decode cX6_wire 41 = .ok (.goto 4, 3) := by decide +kernel
theorem dX6_wire_44 : decode cX6_wire 44 = .ok (.iconst 0, 1) := by decide +kernel
theorem dX6_wire_45 : decode cX6_wire 45 = .ok (.istore 7, 2) := by decide +kernel
theorem dX6_wire_47 : decode cX6_wire 47 = .ok (.iconst 5, 1) := by decide +kernel
theorem dX6_wire_48 : decode cX6_wire 48 = .ok (.iload_n 1, 1) := by decide +kernel
theorem dX6_wire_49 : decode cX6_wire 49 = .ok (.imul, 1) := by decide +kernel
theorem dX6_wire_50 : decode cX6_wire 50 = .ok (.iload_n 2, 1) := by decide +kernel
theorem dX6_wire_51 : decode cX6_wire 51 = .ok (.iadd, 1) := by decide +kernel
theorem dX6_wire_52 : decode cX6_wire 52 = .ok (.istore 8, 2) := by decide +kernel
theorem dX6_wire_54 : decode cX6_wire 54 = .ok (.iconst 5, 1) := by decide +kernel
theorem dX6_wire_55 : decode cX6_wire 55 = .ok (.iload_n 3, 1) := by decide +kernel
theorem dX6_wire_56 : decode cX6_wire 56 = .ok (.imul, 1) := by decide +kernel
theorem dX6_wire_57 : decode cX6_wire 57 = .ok (.iload 4, 2) := by decide +kernel
theorem dX6_wire_59 : decode cX6_wire 59 = .ok (.iadd, 1) := by decide +kernel
theorem dX6_wire_60 : decode cX6_wire 60 = .ok (.istore 9, 2) := by decide +kernel
theorem dX6_wire_62 : decode cX6_wire 62 = .ok (.aload_n 0, 1) := by decide +kernel
theorem dX6_wire_63 : decode cX6_wire 63 = .ok (.iload 6, 2) := by decide +kernel
theorem dX6_wire_65 : decode cX6_wire 65 = .ok (.ifCond .ne 7, 3) := by decide +kernel
theorem dX6_wire_68 : decode cX6_wire 68 = .ok (.iconst 1, 1) := by decide +kernel
theorem dX6_wire_69 : decode cX6_wire 69 = .ok (.goto 35, 3) := by decide +kernel
theorem dX6_wire_72 : decode cX6_wire 72 = .ok (.iload 7, 2) := by decide +kernel
theorem dX6_wire_74 : decode cX6_wire 74 = .ok (.ifCond .ne 7, 3) := by decide +kernel
theorem dX6_wire_77 : decode cX6_wire 77 = .ok (.iconst 2, 1) := by decide +kernel
theorem dX6_wire_78 : decode cX6_wire 78 = .ok (.goto 26, 3) := by decide +kernel
theorem dX6_wire_81 : decode cX6_wire 81 = .ok (.aload_n 0, 1) := by decide +kernel
theorem dX6_wire_82 : decode cX6_wire 82 = .ok (.iload 8, 2) := by decide +kernel
theorem dX6_wire_84 : decode cX6_wire 84 = .ok (.invokevirtual 141, 3) := by decide +kernel
theorem dX6_wire_87 : decode cX6_wire 87 = .ok (.ifCond .ne 12, 3) := by decide +kernel
theorem dX6_wire_90 : decode cX6_wire 90 = .ok (.aload_n 0, 1) := by decide +kernel
theorem dX6_wire_91 : decode cX6_wire 91 = .ok (.iload 9, 2) := by decide +kernel
theorem dX6_wire_93 : decode cX6_wire 93 = .ok (.invokevirtual 141, 3) := by decide +kernel
theorem dX6_wire_96 : decode cX6_wire 96 = .ok (.ifCond .eq 7, 3) := by decide +kernel
theorem dX6_wire_99 : decode cX6_wire 99 = .ok (.iconst 3, 1) := by decide +kernel
theorem dX6_wire_100 : decode cX6_wire 100 = .ok (.goto 4, 3) := by decide +kernel
theorem dX6_wire_103 : decode cX6_wire 103 = .ok (.iconst 0, 1) := by decide +kernel
theorem dX6_wire_104 : decode cX6_wire 104 = .ok (.invokevirtual 144, 3) := by decide +kernel
theorem dX6_wire_107 : decode cX6_wire 107 = .ok (.ifCond .eq 5, 3) := by decide +kernel
theorem dX6_wire_110 : decode cX6_wire 110 = .ok (.iconst 0, 1) := by decide +kernel
theorem dX6_wire_111 : decode cX6_wire 111 = .ok (.ireturn, 1) := by decide +kernel
theorem dX6_wire_112 : decode cX6_wire 112 = .ok (.aload_n 0, 1) := by decide +kernel
theorem dX6_wire_113 : decode cX6_wire 113 = .ok (.getfield 17, 3) := by decide +kernel
theorem dX6_wire_116 : decode cX6_wire 116 = .ok (.iload 8, 2) := by decide +kernel
theorem dX6_wire_118 : decode cX6_wire 118 = .ok (.iload 9, 2) := by decide +kernel
theorem dX6_wire_120 : decode cX6_wire 120 = .ok (.iastore, 1) := by decide +kernel
theorem dX6_wire_121 : decode cX6_wire 121 = .ok (.aload_n 0, 1) := by decide +kernel
theorem dX6_wire_122 : decode cX6_wire 122 = .ok (.getfield 17, 3) := by decide +kernel
theorem dX6_wire_125 : decode cX6_wire 125 = .ok (.iload 9, 2) := by decide +kernel
theorem dX6_wire_127 : decode cX6_wire 127 = .ok (.iload 8, 2) := by decide +kernel
theorem dX6_wire_129 : decode cX6_wire 129 = .ok (.iastore, 1) := by decide +kernel
theorem dX6_wire_130 : decode cX6_wire 130 = .ok (.aload_n 0, 1) := by decide +kernel
theorem dX6_wire_131 : decode cX6_wire 131 = .ok (.getfield 20, 3) := by decide +kernel
theorem dX6_wire_134 : decode cX6_wire 134 = .ok (.iload 8, 2) := by decide +kernel
theorem dX6_wire_136 : decode cX6_wire 136 = .ok (.iload 5, 2) := by decide +kernel
theorem dX6_wire_138 : decode cX6_wire 138 = .ok (.iastore, 1) := by decide +kernel
theorem dX6_wire_139 : decode cX6_wire 139 = .ok (.aload_n 0, 1) := by decide +kernel
theorem dX6_wire_140 : decode cX6_wire 140 = .ok (.getfield 20, 3) := by decide +kernel
theorem dX6_wire_143 : decode cX6_wire 143 = .ok (.iload 9, 2) := by decide +kernel
theorem dX6_wire_145 : decode cX6_wire 145 = .ok (.iload 5, 2) := by decide +kernel
theorem dX6_wire_147 : decode cX6_wire 147 = .ok (.iastore, 1) := by decide +kernel
theorem dX6_wire_148 : decode cX6_wire 148 = .ok (.aload_n 0, 1) := by decide +kernel
theorem dX6_wire_149 : decode cX6_wire 149 = .ok (.iload 8, 2) := by decide +kernel
theorem dX6_wire_151 : decode cX6_wire 151 = .ok (.invokevirtual 147, 3) := by decide +kernel
theorem dX6_wire_154 : decode cX6_wire 154 = .ok (.aload_n 0, 1) := by decide +kernel
theorem dX6_wire_155 : decode cX6_wire 155 = .ok (.iload 9, 2) := by decide +kernel
theorem dX6_wire_157 : decode cX6_wire 157 = .ok (.invokevirtual 147, 3) := by decide +kernel
theorem dX6_wire_160 : decode cX6_wire 160 = .ok (.iconst 0, 1) := by decide +kernel
theorem dX6_wire_161 : decode cX6_wire 161 = .ok (.istore 10, 2) := by decide +kernel
theorem dX6_wire_163 : decode cX6_wire 163 = .ok (.iconst 0, 1) := by decide +kernel
theorem dX6_wire_164 : decode cX6_wire 164 = .ok (.istore 11, 2) := by decide +kernel
theorem dX6_wire_166 : decode cX6_wire 166 = .ok (.iload 11, 2) := by decide +kernel
theorem dX6_wire_168 : decode cX6_wire 168 = .ok (.bipush 30, 2) := by decide +kernel
theorem dX6_wire_170 : decode cX6_wire 170 = .ok (.if_icmp .ge 30, 3) := by decide +kernel
theorem dX6_wire_173 : decode cX6_wire 173 = .ok (.iload 10, 2) := by decide +kernel
theorem dX6_wire_175 : decode cX6_wire 175 = .ok (.aload_n 0, 1) := by decide +kernel
theorem dX6_wire_176 : decode cX6_wire 176 = .ok (.getfield 17, 3) := by decide +kernel
theorem dX6_wire_179 : decode cX6_wire 179 = .ok (.iload 11, 2) := by decide +kernel
theorem dX6_wire_181 : decode cX6_wire 181 = .ok (.iaload, 1) := by decide +kernel
theorem dX6_wire_182 : decode cX6_wire 182 = .ok (.iconst (-1), 1) := by decide +kernel
theorem dX6_wire_183 : decode cX6_wire 183 = .ok (.if_icmp .eq 7, 3) := by decide +kernel
theorem dX6_wire_186 : decode cX6_wire 186 = .ok (.iconst 1, 1) := by decide +kernel
theorem dX6_wire_187 : decode cX6_wire 187 = .ok (.goto 4, 3) := by decide +kernel
theorem dX6_wire_190 : decode cX6_wire 190 = .ok (.iconst 0, 1) := by decide +kernel
theorem dX6_wire_191 : decode cX6_wire 191 = .ok (.iadd, 1) := by decide +kernel
theorem dX6_wire_192 : decode cX6_wire 192 = .ok (.istore 10, 2) := by decide +kernel
theorem dX6_wire_194 : decode cX6_wire 194 = .ok (.iinc 11 1, 3) := by decide +kernel
theorem dX6_wire_197 : decode cX6_wire 197 = .ok (.goto (-31), 3) := by decide +kernel
theorem dX6_wire_200 : decode cX6_wire 200 = .ok (.iload 10, 2) := by decide +kernel
theorem dX6_wire_202 : decode cX6_wire 202 = .ok (.iconst 2, 1) := by decide +kernel
theorem dX6_wire_203 : decode cX6_wire 203 = .ok (.idiv, 1) := by decide +kernel
theorem dX6_wire_204 : decode cX6_wire 204 = .ok (.ireturn, 1) := by decide +kernel
theorem dX6_isUsed_0 : decode cX6_isUsed 0 = .ok (.aload_n 0, 1) := by decide +kernel
theorem dX6_isUsed_1 : decode cX6_isUsed 1 = .ok (.getfield 17, 3) := by decide +kernel
theorem dX6_isUsed_4 : decode cX6_isUsed 4 = .ok (.iload_n 1, 1) := by decide +kernel
theorem dX6_isUsed_5 : decode cX6_isUsed 5 = .ok (.iaload, 1) := by decide +kernel
theorem dX6_isUsed_6 : decode cX6_isUsed 6 = .ok (.iconst (-1), 1) := by decide +kernel
theorem dX6_isUsed_7 : decode cX6_isUsed 7 = .ok (.if_icmp .ne 13, 3) := by decide +kernel
theorem dX6_isUsed_10 : decode cX6_isUsed 10 = .ok (.aload_n 0, 1) := by decide +kernel
theorem dX6_isUsed_11 : decode cX6_isUsed 11 = .ok (.getfield 23, 3) := by decide +kernel
theorem dX6_isUsed_14 : decode cX6_isUsed 14 = .ok (.iload_n 1, 1) := by decide +kernel
theorem dX6_isUsed_15 : decode cX6_isUsed 15 = .ok (.iaload, 1) := by decide +kernel
theorem dX6_isUsed_16 : decode cX6_isUsed 16 = .ok (.iconst (-1), 1) := by decide +kernel
theorem dX6_isUsed_17 : decode cX6_isUsed 17 = .ok (.if_icmp .eq 7, 3) := by decide +kernel
theorem dX6_isUsed_20 : decode cX6_isUsed 20 = .ok (.iconst 1, 1) := by decide +kernel
theorem dX6_isUsed_21 : decode cX6_isUsed 21 = .ok (.goto 4, 3) := by decide +kernel
theorem dX6_isUsed_24 : decode cX6_isUsed 24 = .ok (.iconst 0, 1) := by decide +kernel
theorem dX6_isUsed_25 : decode cX6_isUsed 25 = .ok (.ireturn, 1) := by decide +kernel
theorem dX6_begins_0 : decode cX6_begins 0 = .ok (.aload_n 0, 1) := by decide +kernel
theorem dX6_begins_1 : decode cX6_begins 1 = .ok (.getfield 45, 3) := by decide +kernel
theorem dX6_begins_4 : decode cX6_begins 4 = .ok (.iload_n 1, 1) := by decide +kernel
theorem dX6_begins_5 : decode cX6_begins 5 = .ok (.iconst 0, 1) := by decide +kernel
theorem dX6_begins_6 : decode cX6_begins 6 = .ok (.bastore, 1) := by decide +kernel
theorem dX6_begins_7 : decode cX6_begins 7 = .ok (.aload_n 0, 1) := by decide +kernel
theorem dX6_begins_8 : decode cX6_begins 8 = .ok (.getfield 48, 3) := by decide +kernel
theorem dX6_begins_11 : decode cX6_begins 11 = .ok (.iload_n 1, 1) := by decide +kernel
theorem dX6_begins_12 : decode cX6_begins 12 = .ok (.iconst 0, 1) := by decide +kernel
theorem dX6_begins_13 : decode cX6_begins 13 = .ok (.iastore, 1) := by decide +kernel
theorem dX6_begins_14 : decode cX6_begins 14 = .ok (.aload_n 0, 1) := by decide +kernel
theorem dX6_begins_15 : decode cX6_begins 15 = .ok (.getfield 51, 3) := by decide +kernel
theorem dX6_begins_18 : decode cX6_begins 18 = .ok (.iload_n 1, 1) := by decide +kernel
theorem dX6_begins_19 : decode cX6_begins 19 = .ok (.iconst 0, 1) := by decide +kernel
theorem dX6_begins_20 : decode cX6_begins 20 = .ok (.iastore, 1) := by decide +kernel
theorem dX6_begins_21 : decode cX6_begins 21 = .ok (.return_, 1) := by decide +kernel
theorem dX6_drops_0 : decode cX6_drops 0 = .ok (.aload_n 0, 1) := by decide +kernel
theorem dX6_drops_1 : decode cX6_drops 1 = .ok (.getfield 81, 3) := by decide +kernel
theorem dX6_drops_4 : decode cX6_drops 4 = .ok (.iload_n 1, 1) := by decide +kernel
theorem dX6_drops_5 : decode cX6_drops 5 = .ok (.dup2, 1) := by decide +kernel
theorem dX6_drops_6 : decode cX6_drops 6 = .ok (.iaload, 1) := by decide +kernel
theorem dX6_drops_7 : decode cX6_drops 7 = .ok (.iconst 1, 1) := by decide +kernel
theorem dX6_drops_8 : decode cX6_drops 8 = .ok (.isub, 1) := by decide +kernel
theorem dX6_drops_9 : decode cX6_drops 9 = .ok (.iastore, 1) := by decide +kernel
theorem dX6_drops_10 : decode cX6_drops 10 = .ok (.iload_n 2, 1) := by decide +kernel
theorem dX6_drops_11 : decode cX6_drops 11 = .ok (.istore_n 3, 1) := by decide +kernel
theorem dX6_drops_12 : decode cX6_drops 12 = .ok (.iload_n 3, 1) := by decide +kernel
theorem dX6_drops_13 : decode cX6_drops 13 = .ok (.bipush 8, 2) := by decide +kernel
theorem dX6_drops_15 : decode cX6_drops 15 = .ok (.iload_n 1, 1) := by decide +kernel
theorem dX6_drops_16 : decode cX6_drops 16 = .ok (.imul, 1) := by decide +kernel
theorem dX6_drops_17 : decode cX6_drops 17 = .ok (.aload_n 0, 1) := by decide +kernel
theorem dX6_drops_18 : decode cX6_drops 18 = .ok (.getfield 81, 3) := by decide +kernel
theorem dX6_drops_21 : decode cX6_drops 21 = .ok (.iload_n 1, 1) := by decide +kernel
theorem dX6_drops_22 : decode cX6_drops 22 = .ok (.iaload, 1) := by decide +kernel
theorem dX6_drops_23 : decode cX6_drops 23 = .ok (.iadd, 1) := by decide +kernel
theorem dX6_drops_24 : decode cX6_drops 24 = .ok (.if_icmp .ge 65, 3) := by decide +kernel
theorem dX6_drops_27 : decode cX6_drops 27 = .ok (.aload_n 0, 1) := by decide +kernel
theorem dX6_drops_28 : decode cX6_drops 28 = .ok (.getfield 84, 3) := by decide +kernel
theorem dX6_drops_31 : decode cX6_drops 31 = .ok (.iload_n 3, 1) := by decide +kernel
theorem dX6_drops_32 : decode cX6_drops 32 = .ok (.aload_n 0, 1) := by decide +kernel
theorem dX6_drops_33 : decode cX6_drops 33 = .ok (.getfield 84, 3) := by decide +kernel
theorem dX6_drops_36 : decode cX6_drops 36 = .ok (.iload_n 3, 1) := by decide +kernel
theorem dX6_drops_37 : decode cX6_drops 37 = .ok (.iconst 1, 1) := by decide +kernel
theorem dX6_drops_38 : decode cX6_drops 38 = .ok (.iadd, 1) := by decide +kernel
theorem dX6_drops_39 : decode cX6_drops 39 = .ok (.iaload, 1) := by decide +kernel
theorem dX6_drops_40 : decode cX6_drops 40 = .ok (.iastore, 1) := by decide +kernel
theorem dX6_drops_41 : decode cX6_drops 41 = .ok (.aload_n 0, 1) := by decide +kernel
theorem dX6_drops_42 : decode cX6_drops 42 = .ok (.getfield 87, 3) := by decide +kernel
theorem dX6_drops_45 : decode cX6_drops 45 = .ok (.iload_n 3, 1) := by decide +kernel
theorem dX6_drops_46 : decode cX6_drops 46 = .ok (.aload_n 0, 1) := by decide +kernel
theorem dX6_drops_47 : decode cX6_drops 47 = .ok (.getfield 87, 3) := by decide +kernel
theorem dX6_drops_50 : decode cX6_drops 50 = .ok (.iload_n 3, 1) := by decide +kernel
theorem dX6_drops_51 : decode cX6_drops 51 = .ok (.iconst 1, 1) := by decide +kernel
theorem dX6_drops_52 : decode cX6_drops 52 = .ok (.iadd, 1) := by decide +kernel
theorem dX6_drops_53 : decode cX6_drops 53 = .ok (.iaload, 1) := by decide +kernel
theorem dX6_drops_54 : decode cX6_drops 54 = .ok (.iastore, 1) := by decide +kernel
theorem dX6_drops_55 : decode cX6_drops 55 = .ok (.aload_n 0, 1) := by decide +kernel
theorem dX6_drops_56 : decode cX6_drops 56 = .ok (.getfield 90, 3) := by decide +kernel
theorem dX6_drops_59 : decode cX6_drops 59 = .ok (.iload_n 3, 1) := by decide +kernel
theorem dX6_drops_60 : decode cX6_drops 60 = .ok (.aload_n 0, 1) := by decide +kernel
theorem dX6_drops_61 : decode cX6_drops 61 = .ok (.getfield 90, 3) := by decide +kernel
theorem dX6_drops_64 : decode cX6_drops 64 = .ok (.iload_n 3, 1) := by decide +kernel
theorem dX6_drops_65 : decode cX6_drops 65 = .ok (.iconst 1, 1) := by decide +kernel
theorem dX6_drops_66 : decode cX6_drops 66 = .ok (.iadd, 1) := by decide +kernel
theorem dX6_drops_67 : decode cX6_drops 67 = .ok (.iaload, 1) := by decide +kernel
theorem dX6_drops_68 : decode cX6_drops 68 = .ok (.iastore, 1) := by decide +kernel
theorem dX6_drops_69 : decode cX6_drops 69 = .ok (.aload_n 0, 1) := by decide +kernel
theorem dX6_drops_70 : decode cX6_drops 70 = .ok (.getfield 93, 3) := by decide +kernel
theorem dX6_drops_73 : decode cX6_drops 73 = .ok (.iload_n 3, 1) := by decide +kernel
theorem dX6_drops_74 : decode cX6_drops 74 = .ok (.aload_n 0, 1) := by decide +kernel
theorem dX6_drops_75 : decode cX6_drops 75 = .ok (.getfield 93, 3) := by decide +kernel
theorem dX6_drops_78 : decode cX6_drops 78 = .ok (.iload_n 3, 1) := by decide +kernel
theorem dX6_drops_79 : decode cX6_drops 79 = .ok (.iconst 1, 1) := by decide +kernel
theorem dX6_drops_80 : decode cX6_drops 80 = .ok (.iadd, 1) := by decide +kernel
theorem dX6_drops_81 : decode cX6_drops 81 = .ok (.iaload, 1) := by decide +kernel
theorem dX6_drops_82 : decode cX6_drops 82 = .ok (.iastore, 1) := by decide +kernel
theorem dX6_drops_83 : decode cX6_drops 83 = .ok (.iinc 3 1, 3) := by decide +kernel
theorem dX6_drops_86 : decode cX6_drops 86 = .ok (.goto (-74), 3) := by decide +kernel
theorem dX6_drops_89 : decode cX6_drops 89 = .ok (.return_, 1) := by decide +kernel
set_option maxRecDepth 20000 in
theorem ggX6_forgets_X6_drops : GoodIn wsX6_forgets wsX6_drops := goodIn_r _ [7, 1, 8, 9, 2, 10, 11, 12, 13, 14, 15, 16, 17, 18, 19, 20, 21, 22, 23, 24, 25, 26, 27, 28, 29, 30, 31, 32, 33, 34, 35, 36, 37, 38, 39, 40, 41, 42, 43, 44, 45, 46, 47, 48, 49, 50, 51] (by decide +kernel) (by decide +kernel)
set_option maxRecDepth 20000 in
theorem gX6_forgets_X6_drops : GoodIn wsX6_forgets (wsV RX6 151 RX6 yX6_drops wsX6_drops) := goodIn_app (goodIn_of _ (by decide +kernel)) ggX6_forgets_X6_drops
theorem dX6_forgets_0 : decode cX6_forgets 0 = .ok (.iload_n 1, 1) := by decide +kernel
theorem dX6_forgets_1 : decode cX6_forgets 1 = .ok (.iconst 5, 1) := by decide +kernel
theorem dX6_forgets_2 : decode cX6_forgets 2 = .ok (.idiv, 1) := by decide +kernel
theorem dX6_forgets_3 : decode cX6_forgets 3 = .ok (.istore_n 2, 1) := by decide +kernel
theorem dX6_forgets_4 : decode cX6_forgets 4 = .ok (.bipush 8, 2) := by decide +kernel
theorem dX6_forgets_6 : decode cX6_forgets 6 = .ok (.iload_n 2, 1) := by decide +kernel
theorem dX6_forgets_7 : decode cX6_forgets 7 = .ok (.imul, 1) := by decide +kernel
theorem dX6_forgets_8 : decode cX6_forgets 8 = .ok (.aload_n 0, 1) := by decide +kernel
theorem dX6_forgets_9 : decode cX6_forgets 9 = .ok (.getfield 81, 3) := by decide +kernel
theorem dX6_forgets_12 : decode cX6_forgets 12 = .ok (.iload_n 2, 1) := by decide +kernel
theorem dX6_forgets_13 : decode cX6_forgets 13 = .ok (.iaload, 1) := by decide +kernel
theorem dX6_forgets_14 : decode cX6_forgets 14 = .ok (.iadd, 1) := by decide +kernel
theorem dX6_forgets_15 : decode cX6_forgets 15 = .ok (.iconst 1, 1) := by decide +kernel
theorem dX6_forgets_16 : decode cX6_forgets 16 = .ok (.isub, 1) := by decide +kernel
theorem dX6_forgets_17 : decode cX6_forgets 17 = .ok (.istore_n 3, 1) := by decide +kernel
theorem dX6_forgets_18 : decode cX6_forgets 18 = .ok (.iload_n 3, 1) := by decide +kernel
theorem dX6_forgets_19 : decode cX6_forgets 19 = .ok (.bipush 8, 2) := by decide +kernel
theorem dX6_forgets_21 : decode cX6_forgets 21 = .ok (.iload_n 2, 1) := by decide +kernel
theorem dX6_forgets_22 : decode cX6_forgets 22 = .ok (.imul, 1) := by decide +kernel
theorem dX6_forgets_23 : decode cX6_forgets 23 = .ok (.if_icmp .lt 27, 3) := by decide +kernel
theorem dX6_forgets_26 : decode cX6_forgets 26 = .ok (.aload_n 0, 1) := by decide +kernel
theorem dX6_forgets_27 : decode cX6_forgets 27 = .ok (.getfield 90, 3) := by decide +kernel
theorem dX6_forgets_30 : decode cX6_forgets 30 = .ok (.iload_n 3, 1) := by decide +kernel
theorem dX6_forgets_31 : decode cX6_forgets 31 = .ok (.iaload, 1) := by decide +kernel
theorem dX6_forgets_32 : decode cX6_forgets 32 = .ok (.iload_n 1, 1) := by decide +kernel
theorem dX6_forgets_33 : decode cX6_forgets 33 = .ok (.iconst 5, 1) := by decide +kernel
theorem dX6_forgets_34 : decode cX6_forgets 34 = .ok (.irem, 1) := by decide +kernel
theorem dX6_forgets_35 : decode cX6_forgets 35 = .ok (.if_icmp .ne 9, 3) := by decide +kernel
theorem dX6_forgets_38 : decode cX6_forgets 38 = .ok (.aload_n 0, 1) := by decide +kernel
theorem dX6_forgets_39 : decode cX6_forgets 39 = .ok (.iload_n 2, 1) := by decide +kernel
theorem dX6_forgets_40 : decode cX6_forgets 40 = .ok (.iload_n 3, 1) := by decide +kernel
theorem dX6_forgets_41 : decode cX6_forgets 41 = .ok (.invokevirtual 151, 3) := by decide +kernel
theorem dX6_forgets_44 : decode cX6_forgets 44 = .ok (.iinc 3 (-1), 3) := by decide +kernel
theorem dX6_forgets_47 : decode cX6_forgets 47 = .ok (.goto (-29), 3) := by decide +kernel
theorem dX6_forgets_50 : decode cX6_forgets 50 = .ok (.return_, 1) := by decide +kernel
set_option maxRecDepth 20000 in
theorem ggX6_shuts_X6_begins : GoodIn wsX6_shuts wsX6_begins := goodIn_r _ [6, 7, 8, 9, 23, 24, 25, 26, 27, 28, 29, 30, 31, 32, 33, 34, 35, 36, 37, 38, 39, 40, 41, 42, 43, 44, 45, 46, 47, 48, 49, 50, 51, 52, 53, 54, 55, 56, 57, 58, 59, 60, 61, 62, 63] (by decide +kernel) (by decide +kernel)
set_option maxRecDepth 20000 in
theorem gX6_shuts_X6_begins : GoodIn wsX6_shuts (wsV RX6 147 RX6 yX6_begins wsX6_begins) := goodIn_app (goodIn_of _ (by decide +kernel)) ggX6_shuts_X6_begins
set_option maxRecDepth 20000 in
theorem ggX6_shuts_X6_forgets : GoodIn wsX6_shuts wsX6_forgets := goodIn_r _ [13, 14, 15, 16, 17, 18, 5, 19, 20, 21, 22, 23, 24, 25, 26, 27, 28, 29, 30, 31, 32, 33, 34, 35, 36, 37, 38, 39, 40, 41, 42, 43, 44, 45, 46, 47, 48, 49, 50, 51, 52, 53, 54, 55, 56, 57, 58, 59, 60, 61, 62, 63] (by decide +kernel) (by decide +kernel)
set_option maxRecDepth 20000 in
theorem gX6_shuts_X6_forgets : GoodIn wsX6_shuts (wsV RX6 155 RX6 yX6_forgets wsX6_forgets) := goodIn_app (goodIn_of _ (by decide +kernel)) ggX6_shuts_X6_forgets
theorem dX6_shuts_0 : decode cX6_shuts 0 = .ok (.aload_n 0, 1) := by decide +kernel
theorem dX6_shuts_1 : decode cX6_shuts 1 = .ok (.getfield 39, 3) := by decide +kernel
theorem dX6_shuts_4 : decode cX6_shuts 4 = .ok (.iload_n 1, 1) := by decide +kernel
theorem dX6_shuts_5 : decode cX6_shuts 5 = .ok (.iconst 1, 1) := by decide +kernel
theorem dX6_shuts_6 : decode cX6_shuts 6 = .ok (.bastore, 1) := by decide +kernel
theorem dX6_shuts_7 : decode cX6_shuts 7 = .ok (.aload_n 0, 1) := by decide +kernel
theorem dX6_shuts_8 : decode cX6_shuts 8 = .ok (.iload_n 1, 1) := by decide +kernel
theorem dX6_shuts_9 : decode cX6_shuts 9 = .ok (.invokevirtual 147, 3) := by decide +kernel
theorem dX6_shuts_12 : decode cX6_shuts 12 = .ok (.aload_n 0, 1) := by decide +kernel
theorem dX6_shuts_13 : decode cX6_shuts 13 = .ok (.iload_n 1, 1) := by decide +kernel
theorem dX6_shuts_14 : decode cX6_shuts 14 = .ok (.invokevirtual 155, 3) := by decide +kernel
theorem dX6_shuts_17 : decode cX6_shuts 17 = .ok (.return_, 1) := by decide +kernel
theorem dX6_frees_0 : decode cX6_frees 0 = .ok (.aload_n 0, 1) := by decide +kernel
theorem dX6_frees_1 : decode cX6_frees 1 = .ok (.getfield 39, 3) := by decide +kernel
theorem dX6_frees_4 : decode cX6_frees 4 = .ok (.iload_n 1, 1) := by decide +kernel
theorem dX6_frees_5 : decode cX6_frees 5 = .ok (.iconst 0, 1) := by decide +kernel
theorem dX6_frees_6 : decode cX6_frees 6 = .ok (.bastore, 1) := by decide +kernel
theorem dX6_frees_7 : decode cX6_frees 7 = .ok (.aload_n 0, 1) := by decide +kernel
theorem dX6_frees_8 : decode cX6_frees 8 = .ok (.getfield 42, 3) := by decide +kernel
theorem dX6_frees_11 : decode cX6_frees 11 = .ok (.iload_n 1, 1) := by decide +kernel
theorem dX6_frees_12 : decode cX6_frees 12 = .ok (.iconst 0, 1) := by decide +kernel
theorem dX6_frees_13 : decode cX6_frees 13 = .ok (.iastore, 1) := by decide +kernel
theorem dX6_frees_14 : decode cX6_frees 14 = .ok (.aload_n 0, 1) := by decide +kernel
theorem dX6_frees_15 : decode cX6_frees 15 = .ok (.getfield 45, 3) := by decide +kernel
theorem dX6_frees_18 : decode cX6_frees 18 = .ok (.iload_n 1, 1) := by decide +kernel
theorem dX6_frees_19 : decode cX6_frees 19 = .ok (.aload_n 0, 1) := by decide +kernel
theorem dX6_frees_20 : decode cX6_frees 20 = .ok (.getfield 23, 3) := by decide +kernel
theorem dX6_frees_23 : decode cX6_frees 23 = .ok (.iload_n 1, 1) := by decide +kernel
theorem dX6_frees_24 : decode cX6_frees 24 = .ok (.iaload, 1) := by decide +kernel
theorem dX6_frees_25 : decode cX6_frees 25 = .ok (.iconst (-1), 1) := by decide +kernel
theorem dX6_frees_26 : decode cX6_frees 26 = .ok (.if_icmp .eq 7, 3) := by decide +kernel
theorem dX6_frees_29 : decode cX6_frees 29 = .ok (.iconst 1, 1) := by decide +kernel
theorem dX6_frees_30 : decode cX6_frees 30 = .ok (.goto 4, 3) := by decide +kernel
theorem dX6_frees_33 : decode cX6_frees 33 = .ok (.iconst 0, 1) := by decide +kernel
theorem dX6_frees_34 : decode cX6_frees 34 = .ok (.bastore, 1) := by decide +kernel
theorem dX6_frees_35 : decode cX6_frees 35 = .ok (.return_, 1) := by decide +kernel
set_option maxRecDepth 20000 in
theorem ggX6_free_X6_isPort : GoodIn wsX6_free wsX6_isPort := goodIn_r _ [6, 7, 8, 5, 9, 10, 11, 12] (by decide +kernel) (by decide +kernel)
set_option maxRecDepth 20000 in
theorem gX6_free_X6_isPort : GoodIn wsX6_free (va_wsS RX6 137 yX6_isPort wsX6_isPort) := goodIn_app (goodIn_of _ (by decide +kernel)) ggX6_free_X6_isPort
set_option maxRecDepth 20000 in
theorem ggX6_free_X6_isUsed : GoodIn wsX6_free wsX6_isUsed := goodIn_r _ [16, 2, 1, 42, 43, 44, 45, 46, 47, 48, 49, 50, 51, 52, 53, 54, 55, 56, 57, 58, 59, 60, 61, 62, 63, 64, 65, 66, 67, 68, 69, 70, 71, 72, 73, 74, 75, 76, 77, 78, 79, 80, 81, 82] (by decide +kernel) (by decide +kernel)
set_option maxRecDepth 20000 in
theorem gX6_free_X6_isUsed : GoodIn wsX6_free (wsV RX6 141 RX6 yX6_isUsed wsX6_isUsed) := goodIn_app (goodIn_of _ (by decide +kernel)) ggX6_free_X6_isUsed
set_option maxRecDepth 20000 in
theorem ggX6_free_X6_fails : GoodIn wsX6_free wsX6_fails := goodIn_r _ [20, 21, 42, 43, 44, 45, 46, 47, 48, 49, 50, 51, 52, 53, 54, 55, 56, 57, 58, 59, 60, 61, 62, 63, 64, 65, 66, 67, 68, 69, 70, 71, 72, 73, 74, 75, 76, 77, 78, 79, 80, 81, 82] (by decide +kernel) (by decide +kernel)
set_option maxRecDepth 20000 in
theorem gX6_free_X6_fails : GoodIn wsX6_free (wsV RX6 144 RX6 yX6_fails wsX6_fails) := goodIn_app (goodIn_of _ (by decide +kernel)) ggX6_free_X6_fails
set_option maxRecDepth 20000 in
theorem ggX6_free_X6_begins : GoodIn wsX6_free wsX6_begins := goodIn_r _ [25, 26, 27, 28, 42, 43, 44, 45, 46, 47, 48, 49, 50, 51, 52, 53, 54, 55, 56, 57, 58, 59, 60, 61, 62, 63, 64, 65, 66, 67, 68, 69, 70, 71, 72, 73, 74, 75, 76, 77, 78, 79, 80, 81, 82] (by decide +kernel) (by decide +kernel)
set_option maxRecDepth 20000 in
theorem gX6_free_X6_begins : GoodIn wsX6_free (wsV RX6 147 RX6 yX6_begins wsX6_begins) := goodIn_app (goodIn_of _ (by decide +kernel)) ggX6_free_X6_begins
set_option maxRecDepth 20000 in
theorem ggX6_free_X6_forgets : GoodIn wsX6_free wsX6_forgets := goodIn_r _ [32, 33, 34, 35, 36, 37, 5, 38, 39, 40, 41, 42, 43, 44, 45, 46, 47, 48, 49, 50, 51, 52, 53, 54, 55, 56, 57, 58, 59, 60, 61, 62, 63, 64, 65, 66, 67, 68, 69, 70, 71, 72, 73, 74, 75, 76, 77, 78, 79, 80, 81, 82] (by decide +kernel) (by decide +kernel)
set_option maxRecDepth 20000 in
theorem gX6_free_X6_forgets : GoodIn wsX6_free (wsV RX6 155 RX6 yX6_forgets wsX6_forgets) := goodIn_app (goodIn_of _ (by decide +kernel)) ggX6_free_X6_forgets
theorem dX6_free_0 : decode cX6_free 0 = .ok (.iload_n 1, 1) := by decide +kernel
theorem dX6_free_1 : decode cX6_free 1 = .ok (.iload_n 2, 1) := by decide +kernel
theorem dX6_free_2 : decode cX6_free 2 = .ok (.invokestatic 137, 3) := by decide +kernel
theorem dX6_free_5 : decode cX6_free 5 = .ok (.istore_n 3, 1) := by decide +kernel
theorem dX6_free_6 : decode cX6_free 6 = .ok (.iconst 5, 1) := by decide +kernel
theorem dX6_free_7 : decode cX6_free 7 = .ok (.iload_n 1, 1) := by decide +kernel
theorem dX6_free_8 : decode cX6_free 8 = .ok (.imul, 1) := by decide +kernel
theorem dX6_free_9 : decode cX6_free 9 = .ok (.iload_n 2, 1) := by decide +kernel
theorem dX6_free_10 : decode cX6_free 10 = .ok (.iadd, 1) := by decide +kernel
theorem dX6_free_11 : decode cX6_free 11 = .ok (.istore 4, 2) := by decide +kernel
theorem dX6_free_13 : decode cX6_free 13 = .ok (.aload_n 0, 1) := by decide +kernel
theorem dX6_free_14 : decode cX6_free 14 = .ok (.iload_n 3, 1) := by decide +kernel
theorem dX6_free_15 : decode cX6_free 15 = .ok (.ifCond .ne 7, 3) := by decide +kernel
theorem dX6_free_18 : decode cX6_free 18 = .ok (.iconst 1, 1) := by decide +kernel
theorem dX6_free_19 : decode cX6_free 19 = .ok (.goto 17, 3) := by decide +kernel
theorem dX6_free_22 : decode cX6_free 22 = .ok (.aload_n 0, 1) := by decide +kernel
theorem dX6_free_23 : decode cX6_free 23 = .ok (.iload 4, 2) := by decide +kernel
theorem dX6_free_25 : decode cX6_free 25 = .ok (.invokevirtual 141, 3) := by decide +kernel
theorem dX6_free_28 : decode cX6_free 28 = .ok (.ifCond .eq 7, 3) := by decide +kernel
theorem dX6_free_31 : decode cX6_free 31 = .ok (.iconst 0, 1) := by decide +kernel
theorem dX6_free_32 : decode cX6_free 32 = .ok (.goto 4, 3) := by decide +kernel
theorem dX6_free_35 : decode cX6_free 35 = .ok (.iconst 2, 1) := by decide +kernel
theorem dX6_free_36 : decode cX6_free 36 = .ok (.invokevirtual 144, 3) := by decide +kernel
theorem dX6_free_39 : decode cX6_free 39 = .ok (.ifCond .eq 5, 3) := by decide +kernel
theorem dX6_free_42 : decode cX6_free 42 = .ok (.iconst 0, 1) := by decide +kernel
theorem dX6_free_43 : decode cX6_free 43 = .ok (.ireturn, 1) := by decide +kernel
theorem dX6_free_44 : decode cX6_free 44 = .ok (.aload_n 0, 1) := by decide +kernel
theorem dX6_free_45 : decode cX6_free 45 = .ok (.getfield 23, 3) := by decide +kernel
theorem dX6_free_48 : decode cX6_free 48 = .ok (.iload 4, 2) := by decide +kernel
theorem dX6_free_50 : decode cX6_free 50 = .ok (.iaload, 1) := by decide +kernel
theorem dX6_free_51 : decode cX6_free 51 = .ok (.istore 5, 2) := by decide +kernel
theorem dX6_free_53 : decode cX6_free 53 = .ok (.aload_n 0, 1) := by decide +kernel
theorem dX6_free_54 : decode cX6_free 54 = .ok (.getfield 17, 3) := by decide +kernel
theorem dX6_free_57 : decode cX6_free 57 = .ok (.iload 4, 2) := by decide +kernel
theorem dX6_free_59 : decode cX6_free 59 = .ok (.iaload, 1) := by decide +kernel
theorem dX6_free_60 : decode cX6_free 60 = .ok (.istore 6, 2) := by decide +kernel
theorem dX6_free_62 : decode cX6_free 62 = .ok (.aload_n 0, 1) := by decide +kernel
theorem dX6_free_63 : decode cX6_free 63 = .ok (.getfield 23, 3) := by decide +kernel
theorem dX6_free_66 : decode cX6_free 66 = .ok (.iload 4, 2) := by decide +kernel
theorem dX6_free_68 : decode cX6_free 68 = .ok (.iconst (-1), 1) := by decide +kernel
theorem dX6_free_69 : decode cX6_free 69 = .ok (.iastore, 1) := by decide +kernel
theorem dX6_free_70 : decode cX6_free 70 = .ok (.aload_n 0, 1) := by decide +kernel
theorem dX6_free_71 : decode cX6_free 71 = .ok (.getfield 17, 3) := by decide +kernel
theorem dX6_free_74 : decode cX6_free 74 = .ok (.iload 4, 2) := by decide +kernel
theorem dX6_free_76 : decode cX6_free 76 = .ok (.iconst (-1), 1) := by decide +kernel
theorem dX6_free_77 : decode cX6_free 77 = .ok (.iastore, 1) := by decide +kernel
theorem dX6_free_78 : decode cX6_free 78 = .ok (.aload_n 0, 1) := by decide +kernel
theorem dX6_free_79 : decode cX6_free 79 = .ok (.iload 4, 2) := by decide +kernel
theorem dX6_free_81 : decode cX6_free 81 = .ok (.invokevirtual 147, 3) := by decide +kernel
theorem dX6_free_84 : decode cX6_free 84 = .ok (.aload_n 0, 1) := by decide +kernel
theorem dX6_free_85 : decode cX6_free 85 = .ok (.iload 4, 2) := by decide +kernel
theorem dX6_free_87 : decode cX6_free 87 = .ok (.invokevirtual 155, 3) := by decide +kernel
theorem dX6_free_90 : decode cX6_free 90 = .ok (.iload 6, 2) := by decide +kernel
theorem dX6_free_92 : decode cX6_free 92 = .ok (.iconst (-1), 1) := by decide +kernel
theorem dX6_free_93 : decode cX6_free 93 = .ok (.if_icmp .eq 23, 3) := by decide +kernel
theorem dX6_free_96 : decode cX6_free 96 = .ok (.aload_n 0, 1) := by decide +kernel
theorem dX6_free_97 : decode cX6_free 97 = .ok (.getfield 17, 3) := by decide +kernel
theorem dX6_free_100 : decode cX6_free 100 = .ok (.iload 6, 2) := by decide +kernel
theorem dX6_free_102 : decode cX6_free 102 = .ok (.iconst (-1), 1) := by decide +kernel
theorem dX6_free_103 : decode cX6_free 103 = .ok (.iastore, 1) := by decide +kernel
theorem dX6_free_104 : decode cX6_free 104 = .ok (.aload_n 0, 1) := by decide +kernel
theorem dX6_free_105 : decode cX6_free 105 = .ok (.iload 6, 2) := by decide +kernel
theorem dX6_free_107 : decode cX6_free 107 = .ok (.invokevirtual 147, 3) := by decide +kernel
theorem dX6_free_110 : decode cX6_free 110 = .ok (.aload_n 0, 1) := by decide +kernel
theorem dX6_free_111 : decode cX6_free 111 = .ok (.iload 6, 2) := by decide +kernel
theorem dX6_free_113 : decode cX6_free 113 = .ok (.invokevirtual 155, 3) := by decide +kernel
theorem dX6_free_116 : decode cX6_free 116 = .ok (.iload 5, 2) := by decide +kernel
theorem dX6_free_118 : decode cX6_free 118 = .ok (.ireturn, 1) := by decide +kernel
set_option maxRecDepth 20000 in
theorem ggX6_house_X6_isPort : GoodIn wsX6_house wsX6_isPort := goodIn_r _ [7, 8, 9, 6, 10, 11, 12, 13] (by decide +kernel) (by decide +kernel)
set_option maxRecDepth 20000 in
theorem gX6_house_X6_isPort : GoodIn wsX6_house (va_wsS RX6 137 yX6_isPort wsX6_isPort) := goodIn_app (goodIn_of _ (by decide +kernel)) ggX6_house_X6_isPort
set_option maxRecDepth 20000 in
theorem ggX6_house_X6_isHouse : GoodIn wsX6_house wsX6_isHouse := goodIn_r _ [16, 11, 12, 6, 13] (by decide +kernel) (by decide +kernel)
set_option maxRecDepth 20000 in
theorem gX6_house_X6_isHouse : GoodIn wsX6_house (va_wsS RX6 158 yX6_isHouse wsX6_isHouse) := goodIn_app (goodIn_of _ (by decide +kernel)) ggX6_house_X6_isHouse
set_option maxRecDepth 20000 in
theorem ggX6_house_X6_isUsed : GoodIn wsX6_house wsX6_isUsed := goodIn_r _ [20, 21, 1, 33, 34, 35, 36, 37, 38, 39, 40, 41, 42, 43, 44, 45, 46, 47, 48, 49, 50, 51, 52, 53, 54, 55, 56, 57, 58, 59, 60, 61, 62, 63, 64, 65, 66, 67, 68, 69, 70, 71, 72, 73] (by decide +kernel) (by decide +kernel)
set_option maxRecDepth 20000 in
theorem gX6_house_X6_isUsed : GoodIn wsX6_house (wsV RX6 141 RX6 yX6_isUsed wsX6_isUsed) := goodIn_app (goodIn_of _ (by decide +kernel)) ggX6_house_X6_isUsed
set_option maxRecDepth 20000 in
theorem ggX6_house_X6_fails : GoodIn wsX6_house wsX6_fails := goodIn_r _ [25, 26, 33, 34, 35, 36, 37, 38, 39, 40, 41, 42, 43, 44, 45, 46, 47, 48, 49, 50, 51, 52, 53, 54, 55, 56, 57, 58, 59, 60, 61, 62, 63, 64, 65, 66, 67, 68, 69, 70, 71, 72, 73] (by decide +kernel) (by decide +kernel)
set_option maxRecDepth 20000 in
theorem gX6_house_X6_fails : GoodIn wsX6_house (wsV RX6 144 RX6 yX6_fails wsX6_fails) := goodIn_app (goodIn_of _ (by decide +kernel)) ggX6_house_X6_fails
set_option maxRecDepth 20000 in
theorem ggX6_house_X6_begins : GoodIn wsX6_house wsX6_begins := goodIn_r _ [30, 2, 31, 32, 33, 34, 35, 36, 37, 38, 39, 40, 41, 42, 43, 44, 45, 46, 47, 48, 49, 50, 51, 52, 53, 54, 55, 56, 57, 58, 59, 60, 61, 62, 63, 64, 65, 66, 67, 68, 69, 70, 71, 72, 73] (by decide +kernel) (by decide +kernel)
set_option maxRecDepth 20000 in
theorem gX6_house_X6_begins : GoodIn wsX6_house (wsV RX6 147 RX6 yX6_begins wsX6_begins) := goodIn_app (goodIn_of _ (by decide +kernel)) ggX6_house_X6_begins
theorem dX6_house_0 : decode cX6_house 0 = .ok (.iload_n 1, 1) := by decide +kernel
theorem dX6_house_1 : decode cX6_house 1 = .ok (.iload_n 2, 1) := by decide +kernel
theorem dX6_house_2 : decode cX6_house 2 = .ok (.invokestatic 137, 3) := by decide +kernel
theorem dX6_house_5 : decode cX6_house 5 = .ok (.ifCond .eq 14, 3) := by decide +kernel
theorem dX6_house_8 : decode cX6_house 8 = .ok (.iload_n 3, 1) := by decide +kernel
theorem dX6_house_9 : decode cX6_house 9 = .ok (.invokestatic 158, 3) := by decide +kernel
theorem dX6_house_12 : decode cX6_house 12 = .ok (.ifCond .eq 7, 3) := by decide +kernel
theorem dX6_house_15 : decode cX6_house 15 = .ok (.iconst 1, 1) := by decide +kernel
theorem dX6_house_16 : decode cX6_house 16 = .ok (.goto 4, 3) := by decide +kernel
theorem dX6_house_19 : decode cX6_house 19 = .ok (.iconst 0, 1) := by decide +kernel
theorem dX6_house_20 : decode cX6_house 20 = .ok (.istore 4, 2) := by decide +kernel
theorem dX6_house_22 : decode cX6_house 22 = .ok (.iconst 5, 1) := by decide +kernel
theorem dX6_house_23 : decode cX6_house 23 = .ok (.iload_n 1, 1) := by decide +kernel
theorem dX6_house_24 : decode cX6_house 24 = .ok (.imul, 1) := by decide +kernel
theorem dX6_house_25 : decode cX6_house 25 = .ok (.iload_n 2, 1) := by decide +kernel
theorem dX6_house_26 : decode cX6_house 26 = .ok (.iadd, 1) := by decide +kernel
theorem dX6_house_27 : decode cX6_house 27 = .ok (.istore 5, 2) := by decide +kernel
theorem dX6_house_29 : decode cX6_house 29 = .ok (.iconst 0, 1) := by decide +kernel
theorem dX6_house_30 : decode cX6_house 30 = .ok (.istore 6, 2) := by decide +kernel
theorem dX6_house_32 : decode cX6_house 32 = .ok (.iconst 1, 1) := by decide +kernel
theorem dX6_house_33 : decode cX6_house 33 = .ok (.istore 7, 2) := by decide +kernel
theorem dX6_house_35 : decode cX6_house 35 = .ok (.iconst 0, 1) := by decide +kernel
theorem dX6_house_36 : decode cX6_house 36 = .ok (.istore 8, 2) := by decide +kernel
theorem dX6_house_38 : decode cX6_house 38 = .ok (.iload 8, 2) := by decide +kernel
theorem dX6_house_40 : decode cX6_house 40 = .ok (.bipush 30, 2) := by decide +kernel
theorem dX6_house_42 : decode cX6_house 42 = .ok (.if_icmp .ge 53, 3) := by decide +kernel
theorem dX6_house_45 : decode cX6_house 45 = .ok (.iload 6, 2) := by decide +kernel
theorem dX6_house_47 : decode cX6_house 47 = .ok (.ifCond .ne 14, 3) := by decide +kernel
theorem dX6_house_50 : decode cX6_house 50 = .ok (.aload_n 0, 1) := by decide +kernel
theorem dX6_house_51 : decode cX6_house 51 = .ok (.getfield 23, 3) := by decide +kernel
theorem dX6_house_54 : decode cX6_house 54 = .ok (.iload 8, 2) := by decide +kernel
theorem dX6_house_56 : decode cX6_house 56 = .ok (.iaload, 1) := by decide +kernel
theorem dX6_house_57 : decode cX6_house 57 = .ok (.iload_n 3, 1) := by decide +kernel
theorem dX6_house_58 : decode cX6_house 58 = .ok (.if_icmp .ne 7, 3) := by decide +kernel
theorem dX6_house_61 : decode cX6_house 61 = .ok (.iconst 1, 1) := by decide +kernel
theorem dX6_house_62 : decode cX6_house 62 = .ok (.goto 4, 3) := by decide +kernel
theorem dX6_house_65 : decode cX6_house 65 = .ok (.iconst 0, 1) := by decide +kernel
theorem dX6_house_66 : decode cX6_house 66 = .ok (.istore 6, 2) := by decide +kernel
theorem dX6_house_68 : decode cX6_house 68 = .ok (.iload 7, 2) := by decide +kernel
theorem dX6_house_70 : decode cX6_house 70 = .ok (.aload_n 0, 1) := by decide +kernel
theorem dX6_house_71 : decode cX6_house 71 = .ok (.getfield 23, 3) := by decide +kernel
theorem dX6_house_74 : decode cX6_house 74 = .ok (.iload 8, 2) := by decide +kernel
theorem dX6_house_76 : decode cX6_house 76 = .ok (.iaload, 1) := by decide +kernel
theorem dX6_house_77 : decode cX6_house 77 = .ok (.iconst (-1), 1) := by decide +kernel
theorem dX6_house_78 : decode cX6_house 78 = .ok (.if_icmp .eq 7, 3) := by decide +kernel
theorem dX6_house_81 : decode cX6_house 81 = .ok (.iconst 1, 1) := by decide +kernel
theorem dX6_house_82 : decode cX6_house 82 = .ok (.goto 4, 3) := by decide +kernel
theorem dX6_house_85 : decode cX6_house 85 = .ok (.iconst 0, 1) := by decide +kernel
theorem dX6_house_86 : decode cX6_house 86 = .ok (.iadd, 1) := by decide +kernel
theorem dX6_house_87 : decode cX6_house 87 = .ok (.istore 7, 2) := by decide +kernel
theorem dX6_house_89 : decode cX6_house 89 = .ok (.iinc 8 1, 3) := by decide +kernel
theorem dX6_house_92 : decode cX6_house 92 = .ok (.goto (-54), 3) := by decide +kernel
theorem dX6_house_95 : decode cX6_house 95 = .ok (.aload_n 0, 1) := by decide +kernel
theorem dX6_house_96 : decode cX6_house 96 = .ok (.iload 4, 2) := by decide +kernel
theorem dX6_house_98 : decode cX6_house 98 = .ok (.ifCond .ne 7, 3) := by decide +kernel
theorem dX6_house_101 : decode cX6_house 101 = .ok (.iconst 1, 1) := by decide +kernel
theorem dX6_house_102 : decode cX6_house 102 = .ok (.goto 22, 3) := by decide +kernel
theorem dX6_house_105 : decode cX6_house 105 = .ok (.aload_n 0, 1) := by decide +kernel
theorem dX6_house_106 : decode cX6_house 106 = .ok (.iload 5, 2) := by decide +kernel
theorem dX6_house_108 : decode cX6_house 108 = .ok (.invokevirtual 141, 3) := by decide +kernel
theorem dX6_house_111 : decode cX6_house 111 = .ok (.ifCond .ne 8, 3) := by decide +kernel
theorem dX6_house_114 : decode cX6_house 114 = .ok (.iload 6, 2) := by decide +kernel
theorem dX6_house_116 : decode cX6_house 116 = .ok (.ifCond .eq 7, 3) := by decide +kernel
theorem dX6_house_119 : decode cX6_house 119 = .ok (.iconst 2, 1) := by decide +kernel
theorem dX6_house_120 : decode cX6_house 120 = .ok (.goto 4, 3) := by decide +kernel
theorem dX6_house_123 : decode cX6_house 123 = .ok (.iconst 0, 1) := by decide +kernel
theorem dX6_house_124 : decode cX6_house 124 = .ok (.invokevirtual 144, 3) := by decide +kernel
theorem dX6_house_127 : decode cX6_house 127 = .ok (.ifCond .eq 5, 3) := by decide +kernel
theorem dX6_house_130 : decode cX6_house 130 = .ok (.iconst 0, 1) := by decide +kernel
theorem dX6_house_131 : decode cX6_house 131 = .ok (.ireturn, 1) := by decide +kernel
theorem dX6_house_132 : decode cX6_house 132 = .ok (.aload_n 0, 1) := by decide +kernel
theorem dX6_house_133 : decode cX6_house 133 = .ok (.getfield 23, 3) := by decide +kernel
theorem dX6_house_136 : decode cX6_house 136 = .ok (.iload 5, 2) := by decide +kernel
theorem dX6_house_138 : decode cX6_house 138 = .ok (.iload_n 3, 1) := by decide +kernel
theorem dX6_house_139 : decode cX6_house 139 = .ok (.iastore, 1) := by decide +kernel
theorem dX6_house_140 : decode cX6_house 140 = .ok (.aload_n 0, 1) := by decide +kernel
theorem dX6_house_141 : decode cX6_house 141 = .ok (.iload 5, 2) := by decide +kernel
theorem dX6_house_143 : decode cX6_house 143 = .ok (.invokevirtual 147, 3) := by decide +kernel
theorem dX6_house_146 : decode cX6_house 146 = .ok (.aload_n 0, 1) := by decide +kernel
theorem dX6_house_147 : decode cX6_house 147 = .ok (.getfield 45, 3) := by decide +kernel
theorem dX6_house_150 : decode cX6_house 150 = .ok (.iload 5, 2) := by decide +kernel
theorem dX6_house_152 : decode cX6_house 152 = .ok (.aload_n 0, 1) := by decide +kernel
theorem dX6_house_153 : decode cX6_house 153 = .ok (.getfield 39, 3) := by decide +kernel
theorem dX6_house_156 : decode cX6_house 156 = .ok (.iload 5, 2) := by decide +kernel
theorem dX6_house_158 : decode cX6_house 158 = .ok (.baload, 1) := by decide +kernel
theorem dX6_house_159 : decode cX6_house 159 = .ok (.ifCond .ne 7, 3) := by decide +kernel
theorem dX6_house_162 : decode cX6_house 162 = .ok (.iconst 1, 1) := by decide +kernel
theorem dX6_house_163 : decode cX6_house 163 = .ok (.goto 4, 3) := by decide +kernel
theorem dX6_house_166 : decode cX6_house 166 = .ok (.iconst 0, 1) := by decide +kernel
theorem dX6_house_167 : decode cX6_house 167 = .ok (.bastore, 1) := by decide +kernel
theorem dX6_house_168 : decode cX6_house 168 = .ok (.iload 7, 2) := by decide +kernel
theorem dX6_house_170 : decode cX6_house 170 = .ok (.ireturn, 1) := by decide +kernel
set_option maxRecDepth 20000 in
theorem ggX6_rank_X6_isSwitch : GoodIn wsX6_rank wsX6_isSwitch := goodIn_r _ [5, 6, 7, 4, 8] (by decide +kernel) (by decide +kernel)
set_option maxRecDepth 20000 in
theorem gX6_rank_X6_isSwitch : GoodIn wsX6_rank (va_wsS RX6 133 yX6_isSwitch wsX6_isSwitch) := goodIn_app (goodIn_of _ (by decide +kernel)) ggX6_rank_X6_isSwitch
set_option maxRecDepth 20000 in
theorem ggX6_rank_X6_isIn : GoodIn wsX6_rank wsX6_isIn := goodIn_r _ [8] (by decide +kernel) (by decide +kernel)
set_option maxRecDepth 20000 in
theorem gX6_rank_X6_isIn : GoodIn wsX6_rank (va_wsS RX6 129 yX6_isIn wsX6_isIn) := goodIn_app (goodIn_of _ (by decide +kernel)) ggX6_rank_X6_isIn
set_option maxRecDepth 20000 in
theorem ggX6_rank_X6_fails : GoodIn wsX6_rank wsX6_fails := goodIn_r _ [12, 13, 14, 15, 16, 17, 18, 19, 20, 21, 22, 23, 24, 25, 26, 27, 28, 29, 30, 31, 32, 33, 34, 35, 36, 37, 38, 39, 40, 41, 42, 43, 44, 45, 46, 47, 48, 49, 50, 51, 52, 53, 54] (by decide +kernel) (by decide +kernel)
set_option maxRecDepth 20000 in
theorem gX6_rank_X6_fails : GoodIn wsX6_rank (wsV RX6 144 RX6 yX6_fails wsX6_fails) := goodIn_app (goodIn_of _ (by decide +kernel)) ggX6_rank_X6_fails
theorem dX6_rank_0 : decode cX6_rank 0 = .ok (.aload_n 0, 1) := by decide +kernel
theorem dX6_rank_1 : decode cX6_rank 1 = .ok (.iload_n 1, 1) := by decide +kernel
theorem dX6_rank_2 : decode cX6_rank 2 = .ok (.invokestatic 133, 3) := by decide +kernel
theorem dX6_rank_5 : decode cX6_rank 5 = .ok (.ifCond .ne 7, 3) := by decide +kernel
theorem dX6_rank_8 : decode cX6_rank 8 = .ok (.iconst 1, 1) := by decide +kernel
theorem dX6_rank_9 : decode cX6_rank 9 = .ok (.goto 18, 3) := by decide +kernel
theorem dX6_rank_12 : decode cX6_rank 12 = .ok (.iload_n 2, 1) := by decide +kernel
theorem dX6_rank_13 : decode cX6_rank 13 = .ok (.iconst 0, 1) := by decide +kernel
theorem dX6_rank_14 : decode cX6_rank 14 = .ok (.bipush 15, 2) := by decide +kernel
theorem dX6_rank_16 : decode cX6_rank 16 = .ok (.invokestatic 129, 3) := by decide +kernel
theorem dX6_rank_19 : decode cX6_rank 19 = .ok (.ifCond .eq 7, 3) := by decide +kernel
theorem dX6_rank_22 : decode cX6_rank 22 = .ok (.iconst 0, 1) := by decide +kernel
theorem dX6_rank_23 : decode cX6_rank 23 = .ok (.goto 4, 3) := by decide +kernel
theorem dX6_rank_26 : decode cX6_rank 26 = .ok (.iconst 2, 1) := by decide +kernel
theorem dX6_rank_27 : decode cX6_rank 27 = .ok (.invokevirtual 144, 3) := by decide +kernel
theorem dX6_rank_30 : decode cX6_rank 30 = .ok (.ifCond .eq 5, 3) := by decide +kernel
theorem dX6_rank_33 : decode cX6_rank 33 = .ok (.iconst 0, 1) := by decide +kernel
theorem dX6_rank_34 : decode cX6_rank 34 = .ok (.ireturn, 1) := by decide +kernel
theorem dX6_rank_35 : decode cX6_rank 35 = .ok (.aload_n 0, 1) := by decide +kernel
theorem dX6_rank_36 : decode cX6_rank 36 = .ok (.getfield 13, 3) := by decide +kernel
theorem dX6_rank_39 : decode cX6_rank 39 = .ok (.iload_n 1, 1) := by decide +kernel
theorem dX6_rank_40 : decode cX6_rank 40 = .ok (.iaload, 1) := by decide +kernel
theorem dX6_rank_41 : decode cX6_rank 41 = .ok (.istore_n 3, 1) := by decide +kernel
theorem dX6_rank_42 : decode cX6_rank 42 = .ok (.aload_n 0, 1) := by decide +kernel
theorem dX6_rank_43 : decode cX6_rank 43 = .ok (.getfield 13, 3) := by decide +kernel
theorem dX6_rank_46 : decode cX6_rank 46 = .ok (.iload_n 1, 1) := by decide +kernel
theorem dX6_rank_47 : decode cX6_rank 47 = .ok (.iload_n 2, 1) := by decide +kernel
theorem dX6_rank_48 : decode cX6_rank 48 = .ok (.iastore, 1) := by decide +kernel
theorem dX6_rank_49 : decode cX6_rank 49 = .ok (.iload_n 3, 1) := by decide +kernel
theorem dX6_rank_50 : decode cX6_rank 50 = .ok (.ireturn, 1) := by decide +kernel
set_option maxRecDepth 20000 in
theorem ggX6_shut_X6_isPort : GoodIn wsX6_shut wsX6_isPort := goodIn_r _ [5, 6, 7, 4, 8, 9, 10, 11] (by decide +kernel) (by decide +kernel)
set_option maxRecDepth 20000 in
theorem gX6_shut_X6_isPort : GoodIn wsX6_shut (va_wsS RX6 137 yX6_isPort wsX6_isPort) := goodIn_app (goodIn_of _ (by decide +kernel)) ggX6_shut_X6_isPort
set_option maxRecDepth 20000 in
theorem ggX6_shut_X6_fails : GoodIn wsX6_shut wsX6_fails := goodIn_r _ [15, 16, 47, 48, 49, 50, 51, 52, 53, 54, 55, 56, 57, 58, 59, 60, 61, 62, 63, 64, 65, 66, 67, 68, 69, 70, 71, 72, 73, 74, 75, 76, 77, 78, 79, 80, 81, 82, 83, 84, 85, 86, 87] (by decide +kernel) (by decide +kernel)
set_option maxRecDepth 20000 in
theorem gX6_shut_X6_fails : GoodIn wsX6_shut (wsV RX6 144 RX6 yX6_fails wsX6_fails) := goodIn_app (goodIn_of _ (by decide +kernel)) ggX6_shut_X6_fails
set_option maxRecDepth 20000 in
theorem ggX6_shut_X6_frees : GoodIn wsX6_shut wsX6_frees := goodIn_r _ [20, 1, 21, 22, 23, 47, 48, 49, 50, 51, 52, 53, 54, 55, 56, 57, 58, 59, 60, 61, 62, 63, 64, 65, 66, 67, 68, 69, 70, 71, 72, 73, 74, 75, 76, 77, 78, 79, 80, 81, 82, 83, 84, 85, 86, 87] (by decide +kernel) (by decide +kernel)
set_option maxRecDepth 20000 in
theorem gX6_shut_X6_frees : GoodIn wsX6_shut (wsV RX6 161 RX6 yX6_frees wsX6_frees) := goodIn_app (goodIn_of _ (by decide +kernel)) ggX6_shut_X6_frees
set_option maxRecDepth 20000 in
theorem ggX6_shut_X6_shuts : GoodIn wsX6_shut wsX6_shuts := goodIn_r _ [27, 1, 28, 29, 30, 4, 31, 22, 32, 33, 34, 35, 36, 37, 38, 39, 40, 41, 42, 43, 44, 45, 46, 47, 48, 49, 50, 51, 52, 53, 54, 55, 56, 57, 58, 59, 60, 61, 62, 63, 64, 65, 66, 67, 68, 69, 70, 71, 72, 73, 74, 75, 76, 77, 78, 79, 80, 81, 82, 83, 84, 85, 86, 87] (by decide +kernel) (by decide +kernel)
set_option maxRecDepth 20000 in
theorem gX6_shut_X6_shuts : GoodIn wsX6_shut (wsV RX6 164 RX6 yX6_shuts wsX6_shuts) := goodIn_app (goodIn_of _ (by decide +kernel)) ggX6_shut_X6_shuts
theorem dX6_shut_0 : decode cX6_shut 0 = .ok (.aload_n 0, 1) := by decide +kernel
theorem dX6_shut_1 : decode cX6_shut 1 = .ok (.iload_n 1, 1) := by decide +kernel
theorem dX6_shut_2 : decode cX6_shut 2 = .ok (.iload_n 2, 1) := by decide +kernel
theorem dX6_shut_3 : decode cX6_shut 3 = .ok (.invokestatic 137, 3) := by decide +kernel
theorem dX6_shut_6 : decode cX6_shut 6 = .ok (.ifCond .eq 7, 3) := by decide +kernel
theorem dX6_shut_9 : decode cX6_shut 9 = .ok (.iconst 0, 1) := by decide +kernel
theorem dX6_shut_10 : decode cX6_shut 10 = .ok (.goto 4, 3) := by decide +kernel
theorem dX6_shut_13 : decode cX6_shut 13 = .ok (.iconst 1, 1) := by decide +kernel
theorem dX6_shut_14 : decode cX6_shut 14 = .ok (.invokevirtual 144, 3) := by decide +kernel
theorem dX6_shut_17 : decode cX6_shut 17 = .ok (.ifCond .eq 5, 3) := by decide +kernel
theorem dX6_shut_20 : decode cX6_shut 20 = .ok (.iconst 0, 1) := by decide +kernel
theorem dX6_shut_21 : decode cX6_shut 21 = .ok (.ireturn, 1) := by decide +kernel
theorem dX6_shut_22 : decode cX6_shut 22 = .ok (.iconst 5, 1) := by decide +kernel
theorem dX6_shut_23 : decode cX6_shut 23 = .ok (.iload_n 1, 1) := by decide +kernel
theorem dX6_shut_24 : decode cX6_shut 24 = .ok (.imul, 1) := by decide +kernel
theorem dX6_shut_25 : decode cX6_shut 25 = .ok (.iload_n 2, 1) := by decide +kernel
theorem dX6_shut_26 : decode cX6_shut 26 = .ok (.iadd, 1) := by decide +kernel
theorem dX6_shut_27 : decode cX6_shut 27 = .ok (.istore_n 3, 1) := by decide +kernel
theorem dX6_shut_28 : decode cX6_shut 28 = .ok (.aload_n 0, 1) := by decide +kernel
theorem dX6_shut_29 : decode cX6_shut 29 = .ok (.getfield 39, 3) := by decide +kernel
theorem dX6_shut_32 : decode cX6_shut 32 = .ok (.iload_n 3, 1) := by decide +kernel
theorem dX6_shut_33 : decode cX6_shut 33 = .ok (.baload, 1) := by decide +kernel
theorem dX6_shut_34 : decode cX6_shut 34 = .ok (.ifCond .eq 11, 3) := by decide +kernel
theorem dX6_shut_37 : decode cX6_shut 37 = .ok (.aload_n 0, 1) := by decide +kernel
theorem dX6_shut_38 : decode cX6_shut 38 = .ok (.iload_n 3, 1) := by decide +kernel
theorem dX6_shut_39 : decode cX6_shut 39 = .ok (.invokevirtual 161, 3) := by decide +kernel
theorem dX6_shut_42 : decode cX6_shut 42 = .ok (.goto 8, 3) := by decide +kernel
theorem dX6_shut_45 : decode cX6_shut 45 = .ok (.aload_n 0, 1) := by decide +kernel
theorem dX6_shut_46 : decode cX6_shut 46 = .ok (.iload_n 3, 1) := by decide +kernel
theorem dX6_shut_47 : decode cX6_shut 47 = .ok (.invokevirtual 164, 3) := by decide +kernel
theorem dX6_shut_50 : decode cX6_shut 50 = .ok (.aload_n 0, 1) := by decide +kernel
theorem dX6_shut_51 : decode cX6_shut 51 = .ok (.getfield 39, 3) := by decide +kernel
theorem dX6_shut_54 : decode cX6_shut 54 = .ok (.iload_n 3, 1) := by decide +kernel
theorem dX6_shut_55 : decode cX6_shut 55 = .ok (.baload, 1) := by decide +kernel
theorem dX6_shut_56 : decode cX6_shut 56 = .ok (.ireturn, 1) := by decide +kernel
set_option maxRecDepth 20000 in
theorem ggX6_guard_X6_isPort : GoodIn wsX6_guard wsX6_isPort := goodIn_r _ [5, 6, 7, 4, 8, 9, 10, 11] (by decide +kernel) (by decide +kernel)
set_option maxRecDepth 20000 in
theorem gX6_guard_X6_isPort : GoodIn wsX6_guard (va_wsS RX6 137 yX6_isPort wsX6_isPort) := goodIn_app (goodIn_of _ (by decide +kernel)) ggX6_guard_X6_isPort
set_option maxRecDepth 20000 in
theorem ggX6_guard_X6_isIn : GoodIn wsX6_guard wsX6_isIn := goodIn_r _ [11] (by decide +kernel) (by decide +kernel)
set_option maxRecDepth 20000 in
theorem gX6_guard_X6_isIn : GoodIn wsX6_guard (va_wsS RX6 129 yX6_isIn wsX6_isIn) := goodIn_app (goodIn_of _ (by decide +kernel)) ggX6_guard_X6_isIn
set_option maxRecDepth 20000 in
theorem ggX6_guard_X6_fails : GoodIn wsX6_guard wsX6_fails := goodIn_r _ [15, 16, 17, 18, 19, 20, 21, 22, 23, 24, 25, 26, 27, 28, 29, 30, 31, 32, 33, 34, 35, 36, 37, 38, 39, 40, 41, 42, 43, 44, 45, 46, 47, 48, 49, 50, 51, 52, 53, 54, 55, 56, 57] (by decide +kernel) (by decide +kernel)
set_option maxRecDepth 20000 in
theorem gX6_guard_X6_fails : GoodIn wsX6_guard (wsV RX6 144 RX6 yX6_fails wsX6_fails) := goodIn_app (goodIn_of _ (by decide +kernel)) ggX6_guard_X6_fails
theorem dX6_guard_0 : decode cX6_guard 0 = .ok (.aload_n 0, 1) := by decide +kernel
theorem dX6_guard_1 : decode cX6_guard 1 = .ok (.iload_n 1, 1) := by decide +kernel
theorem dX6_guard_2 : decode cX6_guard 2 = .ok (.iload_n 2, 1) := by decide +kernel
theorem dX6_guard_3 : decode cX6_guard 3 = .ok (.invokestatic 137, 3) := by decide +kernel
theorem dX6_guard_6 : decode cX6_guard 6 = .ok (.ifCond .ne 7, 3) := by decide +kernel
theorem dX6_guard_9 : decode cX6_guard 9 = .ok (.iconst 1, 1) := by decide +kernel
theorem dX6_guard_10 : decode cX6_guard 10 = .ok (.goto 17, 3) := by decide +kernel
theorem dX6_guard_13 : decode cX6_guard 13 = .ok (.iload_n 3, 1) := by decide +kernel
theorem dX6_guard_14 : decode cX6_guard 14 = .ok (.iconst 0, 1) := by decide +kernel
theorem dX6_guard_15 : decode cX6_guard 15 = .ok (.iconst 2, 1) := by decide +kernel
theorem dX6_guard_16 : decode cX6_guard 16 = .ok (.invokestatic 129, 3) := by decide +kernel
theorem dX6_guard_19 : decode cX6_guard 19 = .ok (.ifCond .eq 7, 3) := by decide +kernel
theorem dX6_guard_22 : decode cX6_guard 22 = .ok (.iconst 0, 1) := by decide +kernel
theorem dX6_guard_23 : decode cX6_guard 23 = .ok (.goto 4, 3) := by decide +kernel
theorem dX6_guard_26 : decode cX6_guard 26 = .ok (.iconst 2, 1) := by decide +kernel
theorem dX6_guard_27 : decode cX6_guard 27 = .ok (.invokevirtual 144, 3) := by decide +kernel
theorem dX6_guard_30 : decode cX6_guard 30 = .ok (.ifCond .eq 5, 3) := by decide +kernel
theorem dX6_guard_33 : decode cX6_guard 33 = .ok (.iconst 0, 1) := by decide +kernel
theorem dX6_guard_34 : decode cX6_guard 34 = .ok (.ireturn, 1) := by decide +kernel
theorem dX6_guard_35 : decode cX6_guard 35 = .ok (.aload_n 0, 1) := by decide +kernel
theorem dX6_guard_36 : decode cX6_guard 36 = .ok (.getfield 26, 3) := by decide +kernel
theorem dX6_guard_39 : decode cX6_guard 39 = .ok (.iconst 5, 1) := by decide +kernel
theorem dX6_guard_40 : decode cX6_guard 40 = .ok (.iload_n 1, 1) := by decide +kernel
theorem dX6_guard_41 : decode cX6_guard 41 = .ok (.imul, 1) := by decide +kernel
theorem dX6_guard_42 : decode cX6_guard 42 = .ok (.iload_n 2, 1) := by decide +kernel
theorem dX6_guard_43 : decode cX6_guard 43 = .ok (.iadd, 1) := by decide +kernel
theorem dX6_guard_44 : decode cX6_guard 44 = .ok (.iaload, 1) := by decide +kernel
theorem dX6_guard_45 : decode cX6_guard 45 = .ok (.istore 4, 2) := by decide +kernel
theorem dX6_guard_47 : decode cX6_guard 47 = .ok (.aload_n 0, 1) := by decide +kernel
theorem dX6_guard_48 : decode cX6_guard 48 = .ok (.getfield 26, 3) := by decide +kernel
theorem dX6_guard_51 : decode cX6_guard 51 = .ok (.iconst 5, 1) := by decide +kernel
theorem dX6_guard_52 : decode cX6_guard 52 = .ok (.iload_n 1, 1) := by decide +kernel
theorem dX6_guard_53 : decode cX6_guard 53 = .ok (.imul, 1) := by decide +kernel
theorem dX6_guard_54 : decode cX6_guard 54 = .ok (.iload_n 2, 1) := by decide +kernel
theorem dX6_guard_55 : decode cX6_guard 55 = .ok (.iadd, 1) := by decide +kernel
theorem dX6_guard_56 : decode cX6_guard 56 = .ok (.iload_n 3, 1) := by decide +kernel
theorem dX6_guard_57 : decode cX6_guard 57 = .ok (.iastore, 1) := by decide +kernel
theorem dX6_guard_58 : decode cX6_guard 58 = .ok (.iload 4, 2) := by decide +kernel
theorem dX6_guard_60 : decode cX6_guard 60 = .ok (.ireturn, 1) := by decide +kernel
set_option maxRecDepth 20000 in
theorem ggX6_plain_X6_isPort : GoodIn wsX6_plain wsX6_isPort := goodIn_r _ [6, 7, 8, 5, 9, 10, 11, 12] (by decide +kernel) (by decide +kernel)
set_option maxRecDepth 20000 in
theorem gX6_plain_X6_isPort : GoodIn wsX6_plain (va_wsS RX6 137 yX6_isPort wsX6_isPort) := goodIn_app (goodIn_of _ (by decide +kernel)) ggX6_plain_X6_isPort
set_option maxRecDepth 20000 in
theorem ggX6_plain_X6_isLane : GoodIn wsX6_plain wsX6_isLane := goodIn_r _ [15, 10, 11, 5, 12] (by decide +kernel) (by decide +kernel)
set_option maxRecDepth 20000 in
theorem gX6_plain_X6_isLane : GoodIn wsX6_plain (va_wsS RX6 167 yX6_isLane wsX6_isLane) := goodIn_app (goodIn_of _ (by decide +kernel)) ggX6_plain_X6_isLane
set_option maxRecDepth 20000 in
theorem ggX6_plain_X6_fails : GoodIn wsX6_plain wsX6_fails := goodIn_r _ [19, 20, 21, 22, 23, 24, 25, 26, 27, 28, 29, 30, 31, 32, 33, 34, 35, 36, 37, 38, 39, 40, 41, 42, 43, 44, 45, 46, 47, 48, 49, 50, 51, 52, 53, 54, 55, 56, 57, 58, 59, 60, 61] (by decide +kernel) (by decide +kernel)
set_option maxRecDepth 20000 in
theorem gX6_plain_X6_fails : GoodIn wsX6_plain (wsV RX6 144 RX6 yX6_fails wsX6_fails) := goodIn_app (goodIn_of _ (by decide +kernel)) ggX6_plain_X6_fails
theorem dX6_plain_0 : decode cX6_plain 0 = .ok (.aload_n 0, 1) := by decide +kernel
theorem dX6_plain_1 : decode cX6_plain 1 = .ok (.iload_n 1, 1) := by decide +kernel
theorem dX6_plain_2 : decode cX6_plain 2 = .ok (.iload_n 2, 1) := by decide +kernel
theorem dX6_plain_3 : decode cX6_plain 3 = .ok (.invokestatic 137, 3) := by decide +kernel
theorem dX6_plain_6 : decode cX6_plain 6 = .ok (.ifCond .eq 14, 3) := by decide +kernel
theorem dX6_plain_9 : decode cX6_plain 9 = .ok (.iload_n 3, 1) := by decide +kernel
theorem dX6_plain_10 : decode cX6_plain 10 = .ok (.invokestatic 167, 3) := by decide +kernel
theorem dX6_plain_13 : decode cX6_plain 13 = .ok (.ifCond .eq 7, 3) := by decide +kernel
theorem dX6_plain_16 : decode cX6_plain 16 = .ok (.iconst 0, 1) := by decide +kernel
theorem dX6_plain_17 : decode cX6_plain 17 = .ok (.goto 4, 3) := by decide +kernel
theorem dX6_plain_20 : decode cX6_plain 20 = .ok (.iconst 1, 1) := by decide +kernel
theorem dX6_plain_21 : decode cX6_plain 21 = .ok (.invokevirtual 144, 3) := by decide +kernel
theorem dX6_plain_24 : decode cX6_plain 24 = .ok (.ifCond .ne 25, 3) := by decide +kernel
theorem dX6_plain_27 : decode cX6_plain 27 = .ok (.aload_n 0, 1) := by decide +kernel
theorem dX6_plain_28 : decode cX6_plain 28 = .ok (.getfield 29, 3) := by decide +kernel
theorem dX6_plain_31 : decode cX6_plain 31 = .ok (.iconst 5, 1) := by decide +kernel
theorem dX6_plain_32 : decode cX6_plain 32 = .ok (.iload_n 1, 1) := by decide +kernel
theorem dX6_plain_33 : decode cX6_plain 33 = .ok (.imul, 1) := by decide +kernel
theorem dX6_plain_34 : decode cX6_plain 34 = .ok (.iload_n 2, 1) := by decide +kernel
theorem dX6_plain_35 : decode cX6_plain 35 = .ok (.iadd, 1) := by decide +kernel
theorem dX6_plain_36 : decode cX6_plain 36 = .ok (.iconst 0, 1) := by decide +kernel
theorem dX6_plain_37 : decode cX6_plain 37 = .ok (.bastore, 1) := by decide +kernel
theorem dX6_plain_38 : decode cX6_plain 38 = .ok (.aload_n 0, 1) := by decide +kernel
theorem dX6_plain_39 : decode cX6_plain 39 = .ok (.getfield 36, 3) := by decide +kernel
theorem dX6_plain_42 : decode cX6_plain 42 = .ok (.iconst 5, 1) := by decide +kernel
theorem dX6_plain_43 : decode cX6_plain 43 = .ok (.iload_n 1, 1) := by decide +kernel
theorem dX6_plain_44 : decode cX6_plain 44 = .ok (.imul, 1) := by decide +kernel
theorem dX6_plain_45 : decode cX6_plain 45 = .ok (.iload_n 2, 1) := by decide +kernel
theorem dX6_plain_46 : decode cX6_plain 46 = .ok (.iadd, 1) := by decide +kernel
theorem dX6_plain_47 : decode cX6_plain 47 = .ok (.iload_n 3, 1) := by decide +kernel
theorem dX6_plain_48 : decode cX6_plain 48 = .ok (.iastore, 1) := by decide +kernel
theorem dX6_plain_49 : decode cX6_plain 49 = .ok (.return_, 1) := by decide +kernel
set_option maxRecDepth 20000 in
theorem ggX6_trunk_X6_isPort : GoodIn wsX6_trunk wsX6_isPort := goodIn_r _ [7, 8, 9, 6, 10, 11, 12, 13] (by decide +kernel) (by decide +kernel)
set_option maxRecDepth 20000 in
theorem gX6_trunk_X6_isPort : GoodIn wsX6_trunk (va_wsS RX6 137 yX6_isPort wsX6_isPort) := goodIn_app (goodIn_of _ (by decide +kernel)) ggX6_trunk_X6_isPort
set_option maxRecDepth 20000 in
theorem ggX6_trunk_X6_isLane : GoodIn wsX6_trunk wsX6_isLane := goodIn_r _ [16, 11, 12, 6, 13] (by decide +kernel) (by decide +kernel)
set_option maxRecDepth 20000 in
theorem gX6_trunk_X6_isLane : GoodIn wsX6_trunk (va_wsS RX6 167 yX6_isLane wsX6_isLane) := goodIn_app (goodIn_of _ (by decide +kernel)) ggX6_trunk_X6_isLane
set_option maxRecDepth 20000 in
theorem ggX6_trunk_X6_isIn : GoodIn wsX6_trunk wsX6_isIn := goodIn_r _ [13] (by decide +kernel) (by decide +kernel)
set_option maxRecDepth 20000 in
theorem gX6_trunk_X6_isIn : GoodIn wsX6_trunk (va_wsS RX6 129 yX6_isIn wsX6_isIn) := goodIn_app (goodIn_of _ (by decide +kernel)) ggX6_trunk_X6_isIn
set_option maxRecDepth 20000 in
theorem ggX6_trunk_X6_fails : GoodIn wsX6_trunk wsX6_fails := goodIn_r _ [20, 21, 22, 23, 24, 25, 26, 27, 28, 29, 30, 31, 32, 33, 34, 35, 36, 37, 38, 39, 40, 41, 42, 43, 44, 45, 46, 47, 48, 49, 50, 51, 52, 53, 54, 55, 56, 57, 58, 59, 60, 61, 62] (by decide +kernel) (by decide +kernel)
set_option maxRecDepth 20000 in
theorem gX6_trunk_X6_fails : GoodIn wsX6_trunk (wsV RX6 144 RX6 yX6_fails wsX6_fails) := goodIn_app (goodIn_of _ (by decide +kernel)) ggX6_trunk_X6_fails
theorem dX6_trunk_0 : decode cX6_trunk 0 = .ok (.aload_n 0, 1) := by decide +kernel
theorem dX6_trunk_1 : decode cX6_trunk 1 = .ok (.iload_n 1, 1) := by decide +kernel
theorem dX6_trunk_2 : decode cX6_trunk 2 = .ok (.iload_n 2, 1) := by decide +kernel
theorem dX6_trunk_3 : decode cX6_trunk 3 = .ok (.invokestatic 137, 3) := by decide +kernel
theorem dX6_trunk_6 : decode cX6_trunk 6 = .ok (.ifCond .eq 11, 3) := by decide +kernel
theorem dX6_trunk_9 : decode cX6_trunk 9 = .ok (.iload 4, 2) := by decide +kernel
theorem dX6_trunk_11 : decode cX6_trunk 11 = .ok (.invokestatic 167, 3) := by decide +kernel
theorem dX6_trunk_14 : decode cX6_trunk 14 = .ok (.ifCond .ne 7, 3) := by decide +kernel
theorem dX6_trunk_17 : decode cX6_trunk 17 = .ok (.iconst 1, 1) := by decide +kernel
theorem dX6_trunk_18 : decode cX6_trunk 18 = .ok (.goto 18, 3) := by decide +kernel
theorem dX6_trunk_21 : decode cX6_trunk 21 = .ok (.iload_n 3, 1) := by decide +kernel
theorem dX6_trunk_22 : decode cX6_trunk 22 = .ok (.iconst 1, 1) := by decide +kernel
theorem dX6_trunk_23 : decode cX6_trunk 23 = .ok (.bipush 7, 2) := by decide +kernel
theorem dX6_trunk_25 : decode cX6_trunk 25 = .ok (.invokestatic 129, 3) := by decide +kernel
theorem dX6_trunk_28 : decode cX6_trunk 28 = .ok (.ifCond .eq 7, 3) := by decide +kernel
theorem dX6_trunk_31 : decode cX6_trunk 31 = .ok (.iconst 0, 1) := by decide +kernel
theorem dX6_trunk_32 : decode cX6_trunk 32 = .ok (.goto 4, 3) := by decide +kernel
theorem dX6_trunk_35 : decode cX6_trunk 35 = .ok (.iconst 2, 1) := by decide +kernel
theorem dX6_trunk_36 : decode cX6_trunk 36 = .ok (.invokevirtual 144, 3) := by decide +kernel
theorem dX6_trunk_39 : decode cX6_trunk 39 = .ok (.ifCond .ne 37, 3) := by decide +kernel
theorem dX6_trunk_42 : decode cX6_trunk 42 = .ok (.aload_n 0, 1) := by decide +kernel
theorem dX6_trunk_43 : decode cX6_trunk 43 = .ok (.getfield 29, 3) := by decide +kernel
theorem dX6_trunk_46 : decode cX6_trunk 46 = .ok (.iconst 5, 1) := by decide +kernel
theorem dX6_trunk_47 : decode cX6_trunk 47 = .ok (.iload_n 1, 1) := by decide +kernel
theorem dX6_trunk_48 : decode cX6_trunk 48 = .ok (.imul, 1) := by decide +kernel
theorem dX6_trunk_49 : decode cX6_trunk 49 = .ok (.iload_n 2, 1) := by decide +kernel
theorem dX6_trunk_50 : decode cX6_trunk 50 = .ok (.iadd, 1) := by decide +kernel
theorem dX6_trunk_51 : decode cX6_trunk 51 = .ok (.iconst 1, 1) := by decide +kernel
theorem dX6_trunk_52 : decode cX6_trunk 52 = .ok (.bastore, 1) := by decide +kernel
theorem dX6_trunk_53 : decode cX6_trunk 53 = .ok (.aload_n 0, 1) := by decide +kernel
theorem dX6_trunk_54 : decode cX6_trunk 54 = .ok (.getfield 33, 3) := by decide +kernel
theorem dX6_trunk_57 : decode cX6_trunk 57 = .ok (.iconst 5, 1) := by decide +kernel
theorem dX6_trunk_58 : decode cX6_trunk 58 = .ok (.iload_n 1, 1) := by decide +kernel
theorem dX6_trunk_59 : decode cX6_trunk 59 = .ok (.imul, 1) := by decide +kernel
theorem dX6_trunk_60 : decode cX6_trunk 60 = .ok (.iload_n 2, 1) := by decide +kernel
theorem dX6_trunk_61 : decode cX6_trunk 61 = .ok (.iadd, 1) := by decide +kernel
theorem dX6_trunk_62 : decode cX6_trunk 62 = .ok (.iload_n 3, 1) := by decide +kernel
theorem dX6_trunk_63 : decode cX6_trunk 63 = .ok (.iastore, 1) := by decide +kernel
theorem dX6_trunk_64 : decode cX6_trunk 64 = .ok (.aload_n 0, 1) := by decide +kernel
theorem dX6_trunk_65 : decode cX6_trunk 65 = .ok (.getfield 36, 3) := by decide +kernel
theorem dX6_trunk_68 : decode cX6_trunk 68 = .ok (.iconst 5, 1) := by decide +kernel
theorem dX6_trunk_69 : decode cX6_trunk 69 = .ok (.iload_n 1, 1) := by decide +kernel
theorem dX6_trunk_70 : decode cX6_trunk 70 = .ok (.imul, 1) := by decide +kernel
theorem dX6_trunk_71 : decode cX6_trunk 71 = .ok (.iload_n 2, 1) := by decide +kernel
theorem dX6_trunk_72 : decode cX6_trunk 72 = .ok (.iadd, 1) := by decide +kernel
theorem dX6_trunk_73 : decode cX6_trunk 73 = .ok (.iload 4, 2) := by decide +kernel
theorem dX6_trunk_75 : decode cX6_trunk 75 = .ok (.iastore, 1) := by decide +kernel
theorem dX6_trunk_76 : decode cX6_trunk 76 = .ok (.return_, 1) := by decide +kernel
set_option maxRecDepth 20000 in
theorem ggX6_limit_X6_isIn : GoodIn wsX6_limit wsX6_isIn := goodIn_r _ [5] (by decide +kernel) (by decide +kernel)
set_option maxRecDepth 20000 in
theorem gX6_limit_X6_isIn : GoodIn wsX6_limit (va_wsS RX6 129 yX6_isIn wsX6_isIn) := goodIn_app (goodIn_of _ (by decide +kernel)) ggX6_limit_X6_isIn
set_option maxRecDepth 20000 in
theorem ggX6_limit_X6_fails : GoodIn wsX6_limit wsX6_fails := goodIn_r _ [9, 10, 11, 12, 13, 14, 15, 16, 17, 18, 19, 20, 21, 22, 23, 24, 25, 26, 27, 28, 29, 30, 31, 32, 33, 34, 35, 36, 37, 38, 39, 40, 41, 42, 43, 44, 45, 46, 47, 48, 49, 50, 51] (by decide +kernel) (by decide +kernel)
set_option maxRecDepth 20000 in
theorem gX6_limit_X6_fails : GoodIn wsX6_limit (wsV RX6 144 RX6 yX6_fails wsX6_fails) := goodIn_app (goodIn_of _ (by decide +kernel)) ggX6_limit_X6_fails
theorem dX6_limit_0 : decode cX6_limit 0 = .ok (.aload_n 0, 1) := by decide +kernel
theorem dX6_limit_1 : decode cX6_limit 1 = .ok (.iload_n 1, 1) := by decide +kernel
theorem dX6_limit_2 : decode cX6_limit 2 = .ok (.iconst 1, 1) := by decide +kernel
theorem dX6_limit_3 : decode cX6_limit 3 = .ok (.bipush 100, 2) := by decide +kernel
theorem dX6_limit_5 : decode cX6_limit 5 = .ok (.invokestatic 129, 3) := by decide +kernel
theorem dX6_limit_8 : decode cX6_limit 8 = .ok (.ifCond .eq 7, 3) := by decide +kernel
theorem dX6_limit_11 : decode cX6_limit 11 = .ok (.iconst 0, 1) := by decide +kernel
theorem dX6_limit_12 : decode cX6_limit 12 = .ok (.goto 4, 3) := by decide +kernel
theorem dX6_limit_15 : decode cX6_limit 15 = .ok (.iconst 1, 1) := by decide +kernel
theorem dX6_limit_16 : decode cX6_limit 16 = .ok (.invokevirtual 144, 3) := by decide +kernel
theorem dX6_limit_19 : decode cX6_limit 19 = .ok (.ifCond .eq 5, 3) := by decide +kernel
theorem dX6_limit_22 : decode cX6_limit 22 = .ok (.iconst 0, 1) := by decide +kernel
theorem dX6_limit_23 : decode cX6_limit 23 = .ok (.ireturn, 1) := by decide +kernel
theorem dX6_limit_24 : decode cX6_limit 24 = .ok (.aload_n 0, 1) := by decide +kernel
theorem dX6_limit_25 : decode cX6_limit 25 = .ok (.getfield 7, 3) := by decide +kernel
theorem dX6_limit_28 : decode cX6_limit 28 = .ok (.istore_n 2, 1) := by decide +kernel
theorem dX6_limit_29 : decode cX6_limit 29 = .ok (.aload_n 0, 1) := by decide +kernel
theorem dX6_limit_30 : decode cX6_limit 30 = .ok (.iload_n 1, 1) := by decide +kernel
theorem dX6_limit_31 : decode cX6_limit 31 = .ok (.putfield 7, 3) := by decide +kernel
theorem dX6_limit_34 : decode cX6_limit 34 = .ok (.iload_n 2, 1) := by decide +kernel
theorem dX6_limit_35 : decode cX6_limit 35 = .ok (.ireturn, 1) := by decide +kernel
theorem dX6_tells_0 : decode cX6_tells 0 = .ok (.iconst 0, 1) := by decide +kernel
theorem dX6_tells_1 : decode cX6_tells 1 = .ok (.istore_n 1, 1) := by decide +kernel
theorem dX6_tells_2 : decode cX6_tells 2 = .ok (.iload_n 1, 1) := by decide +kernel
theorem dX6_tells_3 : decode cX6_tells 3 = .ok (.bipush 30, 2) := by decide +kernel
theorem dX6_tells_5 : decode cX6_tells 5 = .ok (.if_icmp .ge 111, 3) := by decide +kernel
theorem dX6_tells_8 : decode cX6_tells 8 = .ok (.aload_n 0, 1) := by decide +kernel
theorem dX6_tells_9 : decode cX6_tells 9 = .ok (.getfield 17, 3) := by decide +kernel
theorem dX6_tells_12 : decode cX6_tells 12 = .ok (.iload_n 1, 1) := by decide +kernel
theorem dX6_tells_13 : decode cX6_tells 13 = .ok (.iaload, 1) := by decide +kernel
theorem dX6_tells_14 : decode cX6_tells 14 = .ok (.istore_n 2, 1) := by decide +kernel
theorem dX6_tells_15 : decode cX6_tells 15 = .ok (.iload_n 2, 1) := by decide +kernel
theorem dX6_tells_16 : decode cX6_tells 16 = .ok (.iconst (-1), 1) := by decide +kernel
theorem dX6_tells_17 : decode cX6_tells 17 = .ok (.if_icmp .eq 25, 3) := by decide +kernel
theorem dX6_tells_20 : decode cX6_tells 20 = .ok (.aload_n 0, 1) := by decide +kernel
theorem dX6_tells_21 : decode cX6_tells 21 = .ok (.getfield 39, 3) := by decide +kernel
theorem dX6_tells_24 : decode cX6_tells 24 = .ok (.iload_n 1, 1) := by decide +kernel
theorem dX6_tells_25 : decode cX6_tells 25 = .ok (.baload, 1) := by decide +kernel
theorem dX6_tells_26 : decode cX6_tells 26 = .ok (.ifCond .ne 16, 3) := by decide +kernel
theorem dX6_tells_29 : decode cX6_tells 29 = .ok (.aload_n 0, 1) := by decide +kernel
theorem dX6_tells_30 : decode cX6_tells 30 = .ok (.getfield 39, 3) := by decide +kernel
theorem dX6_tells_33 : decode cX6_tells 33 = .ok (.iload_n 2, 1) := by decide +kernel
theorem dX6_tells_34 : decode cX6_tells 34 = .ok (.baload, 1) := by decide +kernel
theorem dX6_tells_35 : decode cX6_tells 35 = .ok (.ifCond .ne 7, 3) := by decide +kernel
theorem dX6_tells_38 : decode cX6_tells 38 = .ok (.iconst 1, 1) := by decide +kernel
theorem dX6_tells_39 : decode cX6_tells 39 = .ok (.goto 4, 3) := by decide +kernel
theorem dX6_tells_42 : decode cX6_tells 42 = .ok (.iconst 0, 1) := by decide +kernel
theorem dX6_tells_43 : decode cX6_tells 43 = .ok (.istore_n 3, 1) := by decide +kernel
theorem dX6_tells_44 : decode cX6_tells 44 = .ok (.aload_n 0, 1) := by decide +kernel
theorem dX6_tells_45 : decode cX6_tells 45 = .ok (.getfield 69, 3) := by decide +kernel
theorem dX6_tells_48 : decode cX6_tells 48 = .ok (.iload_n 1, 1) := by decide +kernel
theorem dX6_tells_49 : decode cX6_tells 49 = .ok (.iload_n 3, 1) := by decide +kernel
theorem dX6_tells_50 : decode cX6_tells 50 = .ok (.ifCond .eq 14, 3) := by decide +kernel
theorem dX6_tells_53 : decode cX6_tells 53 = .ok (.aload_n 0, 1) := by decide +kernel
theorem dX6_tells_54 : decode cX6_tells 54 = .ok (.getfield 57, 3) := by decide +kernel
theorem dX6_tells_57 : decode cX6_tells 57 = .ok (.iload_n 2, 1) := by decide +kernel
theorem dX6_tells_58 : decode cX6_tells 58 = .ok (.iconst 5, 1) := by decide +kernel
theorem dX6_tells_59 : decode cX6_tells 59 = .ok (.idiv, 1) := by decide +kernel
theorem dX6_tells_60 : decode cX6_tells 60 = .ok (.iaload, 1) := by decide +kernel
theorem dX6_tells_61 : decode cX6_tells 61 = .ok (.goto 4, 3) := by decide +kernel
theorem dX6_tells_64 : decode cX6_tells 64 = .ok (.iconst (-1), 1) := by decide +kernel
theorem dX6_tells_65 : decode cX6_tells 65 = .ok (.iastore, 1) := by decide +kernel
theorem dX6_tells_66 : decode cX6_tells 66 = .ok (.aload_n 0, 1) := by decide +kernel
theorem dX6_tells_67 : decode cX6_tells 67 = .ok (.getfield 72, 3) := by decide +kernel
theorem dX6_tells_70 : decode cX6_tells 70 = .ok (.iload_n 1, 1) := by decide +kernel
theorem dX6_tells_71 : decode cX6_tells 71 = .ok (.iload_n 3, 1) := by decide +kernel
theorem dX6_tells_72 : decode cX6_tells 72 = .ok (.ifCond .eq 14, 3) := by decide +kernel
theorem dX6_tells_75 : decode cX6_tells 75 = .ok (.aload_n 0, 1) := by decide +kernel
theorem dX6_tells_76 : decode cX6_tells 76 = .ok (.getfield 60, 3) := by decide +kernel
theorem dX6_tells_79 : decode cX6_tells 79 = .ok (.iload_n 2, 1) := by decide +kernel
theorem dX6_tells_80 : decode cX6_tells 80 = .ok (.iconst 5, 1) := by decide +kernel
theorem dX6_tells_81 : decode cX6_tells 81 = .ok (.idiv, 1) := by decide +kernel
theorem dX6_tells_82 : decode cX6_tells 82 = .ok (.iaload, 1) := by decide +kernel
theorem dX6_tells_83 : decode cX6_tells 83 = .ok (.goto 4, 3) := by decide +kernel
theorem dX6_tells_86 : decode cX6_tells 86 = .ok (.iconst 0, 1) := by decide +kernel
theorem dX6_tells_87 : decode cX6_tells 87 = .ok (.iastore, 1) := by decide +kernel
theorem dX6_tells_88 : decode cX6_tells 88 = .ok (.aload_n 0, 1) := by decide +kernel
theorem dX6_tells_89 : decode cX6_tells 89 = .ok (.getfield 75, 3) := by decide +kernel
theorem dX6_tells_92 : decode cX6_tells 92 = .ok (.iload_n 1, 1) := by decide +kernel
theorem dX6_tells_93 : decode cX6_tells 93 = .ok (.iload_n 3, 1) := by decide +kernel
theorem dX6_tells_94 : decode cX6_tells 94 = .ok (.ifCond .eq 14, 3) := by decide +kernel
theorem dX6_tells_97 : decode cX6_tells 97 = .ok (.aload_n 0, 1) := by decide +kernel
theorem dX6_tells_98 : decode cX6_tells 98 = .ok (.getfield 63, 3) := by decide +kernel
theorem dX6_tells_101 : decode cX6_tells 101 = .ok (.iload_n 2, 1) := by decide +kernel
theorem dX6_tells_102 : decode cX6_tells 102 = .ok (.iconst 5, 1) := by decide +kernel
theorem dX6_tells_103 : decode cX6_tells 103 = .ok (.idiv, 1) := by decide +kernel
theorem dX6_tells_104 : decode cX6_tells 104 = .ok (.iaload, 1) := by decide +kernel
theorem dX6_tells_105 : decode cX6_tells 105 = .ok (.goto 4, 3) := by decide +kernel
theorem dX6_tells_108 : decode cX6_tells 108 = .ok (.iconst 0, 1) := by decide +kernel
theorem dX6_tells_109 : decode cX6_tells 109 = .ok (.iastore, 1) := by decide +kernel
theorem dX6_tells_110 : decode cX6_tells 110 = .ok (.iinc 1 1, 3) := by decide +kernel
theorem dX6_tells_113 : decode cX6_tells 113 = .ok (.goto (-111), 3) := by decide +kernel
theorem dX6_tells_116 : decode cX6_tells 116 = .ok (.return_, 1) := by decide +kernel
set_option maxRecDepth 20000 in
theorem ggX6_guardsHouses_X6_shuts : GoodIn wsX6_guardsHouses wsX6_shuts := goodIn_r _ [7, 8, 9, 10, 11, 6, 12, 13, 14, 15, 16, 17, 18, 19, 20, 21, 22, 23, 24, 25, 26, 27, 28, 29, 30, 31, 32, 33, 34, 35, 36, 37, 38, 39, 40, 41, 42, 43, 44, 45, 46, 47, 48, 49, 50, 51, 52, 53, 54, 55, 56, 57, 58, 59, 60, 61, 62, 63, 64, 65, 66, 67, 68, 69] (by decide +kernel) (by decide +kernel)
set_option maxRecDepth 20000 in
theorem gX6_guardsHouses_X6_shuts : GoodIn wsX6_guardsHouses (wsV RX6 164 RX6 yX6_shuts wsX6_shuts) := goodIn_app (goodIn_of _ (by decide +kernel)) ggX6_guardsHouses_X6_shuts
theorem dX6_guardsHouses_0 : decode cX6_guardsHouses 0 = .ok (.iconst 0, 1) := by decide +kernel
theorem dX6_guardsHouses_1 : decode cX6_guardsHouses 1 = .ok (.istore_n 1, 1) := by decide +kernel
theorem dX6_guardsHouses_2 : decode cX6_guardsHouses 2 = .ok (.iload_n 1, 1) := by decide +kernel
theorem dX6_guardsHouses_3 : decode cX6_guardsHouses 3 = .ok (.bipush 30, 2) := by decide +kernel
theorem dX6_guardsHouses_5 : decode cX6_guardsHouses 5 = .ok (.if_icmp .ge 41, 3) := by decide +kernel
theorem dX6_guardsHouses_8 : decode cX6_guardsHouses 8 = .ok (.aload_n 0, 1) := by decide +kernel
theorem dX6_guardsHouses_9 : decode cX6_guardsHouses 9 = .ok (.getfield 26, 3) := by decide +kernel
theorem dX6_guardsHouses_12 : decode cX6_guardsHouses 12 = .ok (.iload_n 1, 1) := by decide +kernel
theorem dX6_guardsHouses_13 : decode cX6_guardsHouses 13 = .ok (.iaload, 1) := by decide +kernel
theorem dX6_guardsHouses_14 : decode cX6_guardsHouses 14 = .ok (.iconst 2, 1) := by decide +kernel
theorem dX6_guardsHouses_15 : decode cX6_guardsHouses 15 = .ok (.if_icmp .ne 25, 3) := by decide +kernel
theorem dX6_guardsHouses_18 : decode cX6_guardsHouses 18 = .ok (.aload_n 0, 1) := by decide +kernel
theorem dX6_guardsHouses_19 : decode cX6_guardsHouses 19 = .ok (.getfield 69, 3) := by decide +kernel
theorem dX6_guardsHouses_22 : decode cX6_guardsHouses 22 = .ok (.iload_n 1, 1) := by decide +kernel
theorem dX6_guardsHouses_23 : decode cX6_guardsHouses 23 = .ok (.iaload, 1) := by decide +kernel
theorem dX6_guardsHouses_24 : decode cX6_guardsHouses 24 = .ok (.iconst (-1), 1) := by decide +kernel
theorem dX6_guardsHouses_25 : decode cX6_guardsHouses 25 = .ok (.if_icmp .eq 15, 3) := by decide +kernel
theorem dX6_guardsHouses_28 : decode cX6_guardsHouses 28 = .ok (.aload_n 0, 1) := by decide +kernel
theorem dX6_guardsHouses_29 : decode cX6_guardsHouses 29 = .ok (.getfield 69, 3) := by decide +kernel
theorem dX6_guardsHouses_32 : decode cX6_guardsHouses 32 = .ok (.iload_n 1, 1) := by decide +kernel
theorem dX6_guardsHouses_33 : decode cX6_guardsHouses 33 = .ok (.iconst (-1), 1) := by decide +kernel
theorem dX6_guardsHouses_34 : decode cX6_guardsHouses 34 = .ok (.iastore, 1) := by decide +kernel
theorem dX6_guardsHouses_35 : decode cX6_guardsHouses 35 = .ok (.aload_n 0, 1) := by decide +kernel
theorem dX6_guardsHouses_36 : decode cX6_guardsHouses 36 = .ok (.iload_n 1, 1) := by decide +kernel
theorem dX6_guardsHouses_37 : decode cX6_guardsHouses 37 = .ok (.invokevirtual 164, 3) := by decide +kernel
theorem dX6_guardsHouses_40 : decode cX6_guardsHouses 40 = .ok (.iinc 1 1, 3) := by decide +kernel
theorem dX6_guardsHouses_43 : decode cX6_guardsHouses 43 = .ok (.goto (-41), 3) := by decide +kernel
theorem dX6_guardsHouses_46 : decode cX6_guardsHouses 46 = .ok (.return_, 1) := by decide +kernel
set_option maxRecDepth 20000 in
theorem ggX6_isBetterBy_X6_isBetter : GoodIn wsX6_isBetterBy wsX6_isBetter := goodIn_r _ [9, 10, 11, 12, 13, 14, 15, 16, 17, 18, 19, 20, 21, 22, 23, 24, 25, 26, 27, 28, 29, 30, 31, 32, 33, 34, 35, 36, 37, 38, 39, 40, 41, 42, 43, 44, 45, 46, 47, 48, 49, 50, 51] (by decide +kernel) (by decide +kernel)
set_option maxRecDepth 20000 in
theorem gX6_isBetterBy_X6_isBetter : GoodIn wsX6_isBetterBy (wsV RX6 170 RX6 yX6_isBetter wsX6_isBetter) := goodIn_app (goodIn_of _ (by decide +kernel)) ggX6_isBetterBy_X6_isBetter
theorem dX6_isBetterBy_0 : decode cX6_isBetterBy 0 = .ok (.aload_n 0, 1) := by decide +kernel
theorem dX6_isBetterBy_1 : decode cX6_isBetterBy 1 = .ok (.getfield 69, 3) := by decide +kernel
theorem dX6_isBetterBy_4 : decode cX6_isBetterBy 4 = .ok (.iload_n 2, 1) := by decide +kernel
theorem dX6_isBetterBy_5 : decode cX6_isBetterBy 5 = .ok (.iaload, 1) := by decide +kernel
theorem dX6_isBetterBy_6 : decode cX6_isBetterBy 6 = .ok (.istore 4, 2) := by decide +kernel
theorem dX6_isBetterBy_8 : decode cX6_isBetterBy 8 = .ok (.iload_n 3, 1) := by decide +kernel
theorem dX6_isBetterBy_9 : decode cX6_isBetterBy 9 = .ok (.iconst (-1), 1) := by decide +kernel
theorem dX6_isBetterBy_10 : decode cX6_isBetterBy 10 = .ok (.if_icmp .ne 7, 3) := by decide +kernel
theorem dX6_isBetterBy_13 : decode cX6_isBetterBy 13 = .ok (.iload_n 1, 1) := by decide +kernel
theorem dX6_isBetterBy_14 : decode cX6_isBetterBy 14 = .ok (.goto 9, 3) := by decide +kernel
theorem dX6_isBetterBy_17 : decode cX6_isBetterBy 17 = .ok (.aload_n 0, 1) := by decide +kernel
theorem dX6_isBetterBy_18 : decode cX6_isBetterBy 18 = .ok (.getfield 69, 3) := by decide +kernel
theorem dX6_isBetterBy_21 : decode cX6_isBetterBy 21 = .ok (.iload_n 3, 1) := by decide +kernel
theorem dX6_isBetterBy_22 : decode cX6_isBetterBy 22 = .ok (.iaload, 1) := by decide +kernel
theorem dX6_isBetterBy_23 : decode cX6_isBetterBy 23 = .ok (.istore 5, 2) := by decide +kernel
theorem dX6_isBetterBy_25 : decode cX6_isBetterBy 25 = .ok (.iload 4, 2) := by decide +kernel
theorem dX6_isBetterBy_27 : decode cX6_isBetterBy 27 = .ok (.iload 5, 2) := by decide +kernel
theorem dX6_isBetterBy_29 : decode cX6_isBetterBy 29 = .ok (.if_icmp .eq 12, 3) := by decide +kernel
theorem dX6_isBetterBy_32 : decode cX6_isBetterBy 32 = .ok (.aload_n 0, 1) := by decide +kernel
theorem dX6_isBetterBy_33 : decode cX6_isBetterBy 33 = .ok (.iload 4, 2) := by decide +kernel
theorem dX6_isBetterBy_35 : decode cX6_isBetterBy 35 = .ok (.iload 5, 2) := by decide +kernel
theorem dX6_isBetterBy_37 : decode cX6_isBetterBy 37 = .ok (.invokevirtual 170, 3) := by decide +kernel
theorem dX6_isBetterBy_40 : decode cX6_isBetterBy 40 = .ok (.ireturn, 1) := by decide +kernel
theorem dX6_isBetterBy_41 : decode cX6_isBetterBy 41 = .ok (.aload_n 0, 1) := by decide +kernel
theorem dX6_isBetterBy_42 : decode cX6_isBetterBy 42 = .ok (.getfield 72, 3) := by decide +kernel
theorem dX6_isBetterBy_45 : decode cX6_isBetterBy 45 = .ok (.iload_n 2, 1) := by decide +kernel
theorem dX6_isBetterBy_46 : decode cX6_isBetterBy 46 = .ok (.iaload, 1) := by decide +kernel
theorem dX6_isBetterBy_47 : decode cX6_isBetterBy 47 = .ok (.aload_n 0, 1) := by decide +kernel
theorem dX6_isBetterBy_48 : decode cX6_isBetterBy 48 = .ok (.getfield 20, 3) := by decide +kernel
theorem dX6_isBetterBy_51 : decode cX6_isBetterBy 51 = .ok (.iload_n 2, 1) := by decide +kernel
theorem dX6_isBetterBy_52 : decode cX6_isBetterBy 52 = .ok (.iaload, 1) := by decide +kernel
theorem dX6_isBetterBy_53 : decode cX6_isBetterBy 53 = .ok (.iadd, 1) := by decide +kernel
theorem dX6_isBetterBy_54 : decode cX6_isBetterBy 54 = .ok (.istore 6, 2) := by decide +kernel
theorem dX6_isBetterBy_56 : decode cX6_isBetterBy 56 = .ok (.iload_n 3, 1) := by decide +kernel
theorem dX6_isBetterBy_57 : decode cX6_isBetterBy 57 = .ok (.iconst (-1), 1) := by decide +kernel
theorem dX6_isBetterBy_58 : decode cX6_isBetterBy 58 = .ok (.if_icmp .ne 7, 3) := by decide +kernel
theorem dX6_isBetterBy_61 : decode cX6_isBetterBy 61 = .ok (.iconst 0, 1) := by decide +kernel
theorem dX6_isBetterBy_62 : decode cX6_isBetterBy 62 = .ok (.goto 16, 3) := by decide +kernel
theorem dX6_isBetterBy_65 : decode cX6_isBetterBy 65 = .ok (.aload_n 0, 1) := by decide +kernel
theorem dX6_isBetterBy_66 : decode cX6_isBetterBy 66 = .ok (.getfield 72, 3) := by decide +kernel
theorem dX6_isBetterBy_69 : decode cX6_isBetterBy 69 = .ok (.iload_n 3, 1) := by decide +kernel
theorem dX6_isBetterBy_70 : decode cX6_isBetterBy 70 = .ok (.iaload, 1) := by decide +kernel
theorem dX6_isBetterBy_71 : decode cX6_isBetterBy 71 = .ok (.aload_n 0, 1) := by decide +kernel
theorem dX6_isBetterBy_72 : decode cX6_isBetterBy 72 = .ok (.getfield 20, 3) := by decide +kernel
theorem dX6_isBetterBy_75 : decode cX6_isBetterBy 75 = .ok (.iload_n 3, 1) := by decide +kernel
theorem dX6_isBetterBy_76 : decode cX6_isBetterBy 76 = .ok (.iaload, 1) := by decide +kernel
theorem dX6_isBetterBy_77 : decode cX6_isBetterBy 77 = .ok (.iadd, 1) := by decide +kernel
theorem dX6_isBetterBy_78 : decode cX6_isBetterBy 78 = .ok (.istore 7, 2) := by decide +kernel
theorem dX6_isBetterBy_80 : decode cX6_isBetterBy 80 = .ok (.iload 6, 2) := by decide +kernel
theorem dX6_isBetterBy_82 : decode cX6_isBetterBy 82 = .ok (.iload 7, 2) := by decide +kernel
theorem dX6_isBetterBy_84 : decode cX6_isBetterBy 84 = .ok (.if_icmp .ne 8, 3) := by decide +kernel
theorem dX6_isBetterBy_87 : decode cX6_isBetterBy 87 = .ok (.iload_n 3, 1) := by decide +kernel
theorem dX6_isBetterBy_88 : decode cX6_isBetterBy 88 = .ok (.iconst (-1), 1) := by decide +kernel
theorem dX6_isBetterBy_89 : decode cX6_isBetterBy 89 = .ok (.if_icmp .ne 16, 3) := by decide +kernel
theorem dX6_isBetterBy_92 : decode cX6_isBetterBy 92 = .ok (.iload 6, 2) := by decide +kernel
theorem dX6_isBetterBy_94 : decode cX6_isBetterBy 94 = .ok (.iload 7, 2) := by decide +kernel
theorem dX6_isBetterBy_96 : decode cX6_isBetterBy 96 = .ok (.if_icmp .ge 7, 3) := by decide +kernel
theorem dX6_isBetterBy_99 : decode cX6_isBetterBy 99 = .ok (.iconst 1, 1) := by decide +kernel
theorem dX6_isBetterBy_100 : decode cX6_isBetterBy 100 = .ok (.goto 4, 3) := by decide +kernel
theorem dX6_isBetterBy_103 : decode cX6_isBetterBy 103 = .ok (.iconst 0, 1) := by decide +kernel
theorem dX6_isBetterBy_104 : decode cX6_isBetterBy 104 = .ok (.ireturn, 1) := by decide +kernel
theorem dX6_isBetterBy_105 : decode cX6_isBetterBy 105 = .ok (.aload_n 0, 1) := by decide +kernel
theorem dX6_isBetterBy_106 : decode cX6_isBetterBy 106 = .ok (.getfield 17, 3) := by decide +kernel
theorem dX6_isBetterBy_109 : decode cX6_isBetterBy 109 = .ok (.iload_n 2, 1) := by decide +kernel
theorem dX6_isBetterBy_110 : decode cX6_isBetterBy 110 = .ok (.iaload, 1) := by decide +kernel
theorem dX6_isBetterBy_111 : decode cX6_isBetterBy 111 = .ok (.istore 8, 2) := by decide +kernel
theorem dX6_isBetterBy_113 : decode cX6_isBetterBy 113 = .ok (.aload_n 0, 1) := by decide +kernel
theorem dX6_isBetterBy_114 : decode cX6_isBetterBy 114 = .ok (.getfield 17, 3) := by decide +kernel
theorem dX6_isBetterBy_117 : decode cX6_isBetterBy 117 = .ok (.iload_n 3, 1) := by decide +kernel
theorem dX6_isBetterBy_118 : decode cX6_isBetterBy 118 = .ok (.iaload, 1) := by decide +kernel
theorem dX6_isBetterBy_119 : decode cX6_isBetterBy 119 = .ok (.istore 9, 2) := by decide +kernel
theorem dX6_isBetterBy_121 : decode cX6_isBetterBy 121 = .ok (.iload 8, 2) := by decide +kernel
theorem dX6_isBetterBy_123 : decode cX6_isBetterBy 123 = .ok (.iconst 5, 1) := by decide +kernel
theorem dX6_isBetterBy_124 : decode cX6_isBetterBy 124 = .ok (.idiv, 1) := by decide +kernel
theorem dX6_isBetterBy_125 : decode cX6_isBetterBy 125 = .ok (.iload 9, 2) := by decide +kernel
theorem dX6_isBetterBy_127 : decode cX6_isBetterBy 127 = .ok (.iconst 5, 1) := by decide +kernel
theorem dX6_isBetterBy_128 : decode cX6_isBetterBy 128 = .ok (.idiv, 1) := by decide +kernel
theorem dX6_isBetterBy_129 : decode cX6_isBetterBy 129 = .ok (.if_icmp .eq 18, 3) := by decide +kernel
theorem dX6_isBetterBy_132 : decode cX6_isBetterBy 132 = .ok (.aload_n 0, 1) := by decide +kernel
theorem dX6_isBetterBy_133 : decode cX6_isBetterBy 133 = .ok (.iload 8, 2) := by decide +kernel
theorem dX6_isBetterBy_135 : decode cX6_isBetterBy 135 = .ok (.iconst 5, 1) := by decide +kernel
theorem dX6_isBetterBy_136 : decode cX6_isBetterBy 136 = .ok (.idiv, 1) := by decide +kernel
theorem dX6_isBetterBy_137 : decode cX6_isBetterBy 137 = .ok (.iload 9, 2) := by decide +kernel
theorem dX6_isBetterBy_139 : decode cX6_isBetterBy 139 = .ok (.iconst 5, 1) := by decide +kernel
theorem dX6_isBetterBy_140 : decode cX6_isBetterBy 140 = .ok (.idiv, 1) := by decide +kernel
theorem dX6_isBetterBy_141 : decode cX6_isBetterBy 141 = .ok (.invokevirtual 170, 3) := by decide +kernel
theorem dX6_isBetterBy_144 : decode cX6_isBetterBy 144 = .ok (.goto 15, 3) := by decide +kernel
theorem dX6_isBetterBy_147 : decode cX6_isBetterBy 147 = .ok (.iload 8, 2) := by decide +kernel
theorem dX6_isBetterBy_149 : decode cX6_isBetterBy 149 = .ok (.iload 9, 2) := by decide +kernel
theorem dX6_isBetterBy_151 : decode cX6_isBetterBy 151 = .ok (.if_icmp .ge 7, 3) := by decide +kernel
theorem dX6_isBetterBy_154 : decode cX6_isBetterBy 154 = .ok (.iconst 1, 1) := by decide +kernel
theorem dX6_isBetterBy_155 : decode cX6_isBetterBy 155 = .ok (.goto 4, 3) := by decide +kernel
theorem dX6_isBetterBy_158 : decode cX6_isBetterBy 158 = .ok (.iconst 0, 1) := by decide +kernel
theorem dX6_isBetterBy_159 : decode cX6_isBetterBy 159 = .ok (.ireturn, 1) := by decide +kernel
