theorem dL_areAll_185 : decode cL_areAll 185 = .ok (.iconst 1, 1) := by decide +kernel
theorem dL_areAll_186 : decode cL_areAll 186 = .ok (.if_icmp .eq 9, 3) := by decide +kernel
theorem dL_areAll_189 : decode cL_areAll 189 = .ok (.iload 12, 2) := by decide +kernel
theorem dL_areAll_191 : decode cL_areAll 191 = .ok (.iconst 2, 1) := by decide +kernel
theorem dL_areAll_192 : decode cL_areAll 192 = .ok (.if_icmp .ne 38, 3) := by decide +kernel
theorem dL_areAll_195 : decode cL_areAll 195 = .ok (.aload_n 0, 1) := by decide +kernel
theorem dL_areAll_196 : decode cL_areAll 196 = .ok (.iload 9, 2) := by decide +kernel
theorem dL_areAll_198 : decode cL_areAll 198 = .ok (.iload 8, 2) := by decide +kernel
theorem dL_areAll_200 : decode cL_areAll 200 = .ok (.iconst 5, 1) := by decide +kernel
theorem dL_areAll_201 : decode cL_areAll 201 = .ok (.irem, 1) := by decide +kernel
theorem dL_areAll_202 : decode cL_areAll 202 = .ok (.iconst 3, 1) := by decide +kernel
theorem dL_areAll_203 : decode cL_areAll 203 = .ok (.invokevirtual 56, 3) := by decide +kernel
theorem dL_areAll_206 : decode cL_areAll 206 = .ok (.ifCond .lt 24, 3) := by decide +kernel
theorem dL_areAll_209 : decode cL_areAll 209 = .ok (.aload_n 0, 1) := by decide +kernel
theorem dL_areAll_210 : decode cL_areAll 210 = .ok (.iload 9, 2) := by decide +kernel
theorem dL_areAll_212 : decode cL_areAll 212 = .ok (.iload 8, 2) := by decide +kernel
theorem dL_areAll_214 : decode cL_areAll 214 = .ok (.iconst 5, 1) := by decide +kernel
theorem dL_areAll_215 : decode cL_areAll 215 = .ok (.irem, 1) := by decide +kernel
theorem dL_areAll_216 : decode cL_areAll 216 = .ok (.iconst 3, 1) := by decide +kernel
theorem dL_areAll_217 : decode cL_areAll 217 = .ok (.invokevirtual 56, 3) := by decide +kernel
theorem dL_areAll_220 : decode cL_areAll 220 = .ok (.sipush 200, 3) := by decide +kernel
theorem dL_areAll_223 : decode cL_areAll 223 = .ok (.if_icmp .ge 7, 3) := by decide +kernel
theorem dL_areAll_226 : decode cL_areAll 226 = .ok (.iconst 1, 1) := by decide +kernel
theorem dL_areAll_227 : decode cL_areAll 227 = .ok (.goto 4, 3) := by decide +kernel
theorem dL_areAll_230 : decode cL_areAll 230 = .ok (.iconst 0, 1) := by decide +kernel
theorem dL_areAll_231 : decode cL_areAll 231 = .ok (.istore 6, 2) := by decide +kernel
theorem dL_areAll_233 : decode cL_areAll 233 = .ok (.iinc 8 1, 3) := by decide +kernel
theorem dL_areAll_236 : decode cL_areAll 236 = .ok (.goto (-227), 3) := by decide +kernel
theorem dL_areAll_239 : decode cL_areAll 239 = .ok (.iconst 0, 1) := by decide +kernel
theorem dL_areAll_240 : decode cL_areAll 240 = .ok (.istore 8, 2) := by decide +kernel
theorem dL_areAll_242 : decode cL_areAll 242 = .ok (.iload 8, 2) := by decide +kernel
theorem dL_areAll_244 : decode cL_areAll 244 = .ok (.bipush 6, 2) := by decide +kernel
theorem dL_areAll_246 : decode cL_areAll 246 = .ok (.if_icmp .ge 251, 3) := by decide +kernel
theorem dL_areAll_249 : decode cL_areAll 249 = .ok (.iload 6, 2) := by decide +kernel
theorem dL_areAll_251 : decode cL_areAll 251 = .ok (.ifCond .eq 246, 3) := by decide +kernel
theorem dL_areAll_254 : decode cL_areAll 254 = .ok (.iconst 0, 1) := by decide +kernel
theorem dL_areAll_255 : decode cL_areAll 255 = .ok (.istore 9, 2) := by decide +kernel
theorem dL_areAll_257 : decode cL_areAll 257 = .ok (.iconst 0, 1) := by decide +kernel
theorem dL_areAll_258 : decode cL_areAll 258 = .ok (.istore 10, 2) := by decide +kernel
theorem dL_areAll_260 : decode cL_areAll 260 = .ok (.iload 10, 2) := by decide +kernel
theorem dL_areAll_262 : decode cL_areAll 262 = .ok (.bipush 30, 2) := by decide +kernel
theorem dL_areAll_264 : decode cL_areAll 264 = .ok (.if_icmp .ge 85, 3) := by decide +kernel
theorem dL_areAll_267 : decode cL_areAll 267 = .ok (.iload 6, 2) := by decide +kernel
theorem dL_areAll_269 : decode cL_areAll 269 = .ok (.ifCond .eq 80, 3) := by decide +kernel
theorem dL_areAll_272 : decode cL_areAll 272 = .ok (.aload_n 0, 1) := by decide +kernel
theorem dL_areAll_273 : decode cL_areAll 273 = .ok (.iload 8, 2) := by decide +kernel
theorem dL_areAll_275 : decode cL_areAll 275 = .ok (.iconst 1, 1) := by decide +kernel
theorem dL_areAll_276 : decode cL_areAll 276 = .ok (.iload 10, 2) := by decide +kernel
theorem dL_areAll_278 : decode cL_areAll 278 = .ok (.bipush 10, 2) := by decide +kernel
theorem dL_areAll_280 : decode cL_areAll 280 = .ok (.idiv, 1) := by decide +kernel
theorem dL_areAll_281 : decode cL_areAll 281 = .ok (.iadd, 1) := by decide +kernel
theorem dL_areAll_282 : decode cL_areAll 282 = .ok (.iload 10, 2) := by decide +kernel
theorem dL_areAll_284 : decode cL_areAll 284 = .ok (.bipush 10, 2) := by decide +kernel
theorem dL_areAll_286 : decode cL_areAll 286 = .ok (.irem, 1) := by decide +kernel
theorem dL_areAll_287 : decode cL_areAll 287 = .ok (.invokevirtual 59, 3) := by decide +kernel
theorem dL_areAll_290 : decode cL_areAll 290 = .ok (.istore 11, 2) := by decide +kernel
theorem dL_areAll_292 : decode cL_areAll 292 = .ok (.iload 9, 2) := by decide +kernel
theorem dL_areAll_294 : decode cL_areAll 294 = .ok (.iload 11, 2) := by decide +kernel
theorem dL_areAll_296 : decode cL_areAll 296 = .ok (.ifCond .lt 7, 3) := by decide +kernel
theorem dL_areAll_299 : decode cL_areAll 299 = .ok (.iconst 1, 1) := by decide +kernel
theorem dL_areAll_300 : decode cL_areAll 300 = .ok (.goto 4, 3) := by decide +kernel
theorem dL_areAll_303 : decode cL_areAll 303 = .ok (.iconst 0, 1) := by decide +kernel
theorem dL_areAll_304 : decode cL_areAll 304 = .ok (.iadd, 1) := by decide +kernel
theorem dL_areAll_305 : decode cL_areAll 305 = .ok (.istore 9, 2) := by decide +kernel
theorem dL_areAll_307 : decode cL_areAll 307 = .ok (.iload 11, 2) := by decide +kernel
theorem dL_areAll_309 : decode cL_areAll 309 = .ok (.ifCond .lt 27, 3) := by decide +kernel
theorem dL_areAll_312 : decode cL_areAll 312 = .ok (.aload_n 1, 1) := by decide +kernel
theorem dL_areAll_313 : decode cL_areAll 313 = .ok (.iconst 5, 1) := by decide +kernel
theorem dL_areAll_314 : decode cL_areAll 314 = .ok (.iload 8, 2) := by decide +kernel
theorem dL_areAll_316 : decode cL_areAll 316 = .ok (.imul, 1) := by decide +kernel
theorem dL_areAll_317 : decode cL_areAll 317 = .ok (.iload 11, 2) := by decide +kernel
theorem dL_areAll_319 : decode cL_areAll 319 = .ok (.iadd, 1) := by decide +kernel
theorem dL_areAll_320 : decode cL_areAll 320 = .ok (.iaload, 1) := by decide +kernel
theorem dL_areAll_321 : decode cL_areAll 321 = .ok (.ifCond .lt 19, 3) := by decide +kernel
theorem dL_areAll_324 : decode cL_areAll 324 = .ok (.aload_n 0, 1) := by decide +kernel
theorem dL_areAll_325 : decode cL_areAll 325 = .ok (.iload 8, 2) := by decide +kernel
theorem dL_areAll_327 : decode cL_areAll 327 = .ok (.iload 11, 2) := by decide +kernel
theorem dL_areAll_329 : decode cL_areAll 329 = .ok (.iconst 2, 1) := by decide +kernel
theorem dL_areAll_330 : decode cL_areAll 330 = .ok (.invokevirtual 56, 3) := by decide +kernel
theorem dL_areAll_333 : decode cL_areAll 333 = .ok (.ifCond .ne 7, 3) := by decide +kernel
theorem dL_areAll_336 : decode cL_areAll 336 = .ok (.iconst 1, 1) := by decide +kernel
theorem dL_areAll_337 : decode cL_areAll 337 = .ok (.goto 4, 3) := by decide +kernel
theorem dL_areAll_340 : decode cL_areAll 340 = .ok (.iconst 0, 1) := by decide +kernel
theorem dL_areAll_341 : decode cL_areAll 341 = .ok (.istore 6, 2) := by decide +kernel
theorem dL_areAll_343 : decode cL_areAll 343 = .ok (.iinc 10 1, 3) := by decide +kernel
theorem dL_areAll_346 : decode cL_areAll 346 = .ok (.goto (-86), 3) := by decide +kernel
theorem dL_areAll_349 : decode cL_areAll 349 = .ok (.aload_n 0, 1) := by decide +kernel
theorem dL_areAll_350 : decode cL_areAll 350 = .ok (.iload 8, 2) := by decide +kernel
theorem dL_areAll_352 : decode cL_areAll 352 = .ok (.iconst 0, 1) := by decide +kernel
theorem dL_areAll_353 : decode cL_areAll 353 = .ok (.invokevirtual 53, 3) := by decide +kernel
theorem dL_areAll_356 : decode cL_areAll 356 = .ok (.istore 10, 2) := by decide +kernel
theorem dL_areAll_358 : decode cL_areAll 358 = .ok (.iload 6, 2) := by decide +kernel
theorem dL_areAll_360 : decode cL_areAll 360 = .ok (.ifCond .eq 97, 3) := by decide +kernel
theorem dL_areAll_363 : decode cL_areAll 363 = .ok (.iload 9, 2) := by decide +kernel
theorem dL_areAll_365 : decode cL_areAll 365 = .ok (.aload_n 0, 1) := by decide +kernel
theorem dL_areAll_366 : decode cL_areAll 366 = .ok (.iload 8, 2) := by decide +kernel
theorem dL_areAll_368 : decode cL_areAll 368 = .ok (.iconst 4, 1) := by decide +kernel
theorem dL_areAll_369 : decode cL_areAll 369 = .ok (.invokevirtual 53, 3) := by decide +kernel
theorem dL_areAll_372 : decode cL_areAll 372 = .ok (.if_icmp .ne 85, 3) := by decide +kernel
theorem dL_areAll_375 : decode cL_areAll 375 = .ok (.iload 9, 2) := by decide +kernel
theorem dL_areAll_377 : decode cL_areAll 377 = .ok (.bipush 9, 2) := by decide +kernel
theorem dL_areAll_379 : decode cL_areAll 379 = .ok (.if_icmp .ge 78, 3) := by decide +kernel
theorem dL_areAll_382 : decode cL_areAll 382 = .ok (.iload 10, 2) := by decide +kernel
theorem dL_areAll_384 : decode cL_areAll 384 = .ok (.ifCond .lt 73, 3) := by decide +kernel
theorem dL_areAll_387 : decode cL_areAll 387 = .ok (.iload 10, 2) := by decide +kernel
theorem dL_areAll_389 : decode cL_areAll 389 = .ok (.bipush 6, 2) := by decide +kernel
theorem dL_areAll_391 : decode cL_areAll 391 = .ok (.if_icmp .ge 66, 3) := by decide +kernel
theorem dL_areAll_394 : decode cL_areAll 394 = .ok (.aload_n 0, 1) := by decide +kernel
theorem dL_areAll_395 : decode cL_areAll 395 = .ok (.iload 8, 2) := by decide +kernel
theorem dL_areAll_397 : decode cL_areAll 397 = .ok (.iconst 2, 1) := by decide +kernel
theorem dL_areAll_398 : decode cL_areAll 398 = .ok (.invokevirtual 53, 3) := by decide +kernel
theorem dL_areAll_401 : decode cL_areAll 401 = .ok (.bipush 8, 2) := by decide +kernel
theorem dL_areAll_403 : decode cL_areAll 403 = .ok (.if_icmp .ge 54, 3) := by decide +kernel
theorem dL_areAll_406 : decode cL_areAll 406 = .ok (.aload_n 0, 1) := by decide +kernel
theorem dL_areAll_407 : decode cL_areAll 407 = .ok (.iload 8, 2) := by decide +kernel
theorem dL_areAll_409 : decode cL_areAll 409 = .ok (.iconst 1, 1) := by decide +kernel
theorem dL_areAll_410 : decode cL_areAll 410 = .ok (.invokevirtual 53, 3) := by decide +kernel
theorem dL_areAll_413 : decode cL_areAll 413 = .ok (.ifCond .lt 44, 3) := by decide +kernel
theorem dL_areAll_416 : decode cL_areAll 416 = .ok (.aload_n 0, 1) := by decide +kernel
theorem dL_areAll_417 : decode cL_areAll 417 = .ok (.iload 8, 2) := by decide +kernel
theorem dL_areAll_419 : decode cL_areAll 419 = .ok (.iconst 3, 1) := by decide +kernel
theorem dL_areAll_420 : decode cL_areAll 420 = .ok (.invokevirtual 53, 3) := by decide +kernel
theorem dL_areAll_423 : decode cL_areAll 423 = .ok (.ifCond .ge 30, 3) := by decide +kernel
theorem dL_areAll_426 : decode cL_areAll 426 = .ok (.iload 10, 2) := by decide +kernel
theorem dL_areAll_428 : decode cL_areAll 428 = .ok (.iload 8, 2) := by decide +kernel
theorem dL_areAll_430 : decode cL_areAll 430 = .ok (.if_icmp .ne 27, 3) := by decide +kernel
theorem dL_areAll_433 : decode cL_areAll 433 = .ok (.aload_n 0, 1) := by decide +kernel
theorem dL_areAll_434 : decode cL_areAll 434 = .ok (.iload 8, 2) := by decide +kernel
theorem dL_areAll_436 : decode cL_areAll 436 = .ok (.iconst 1, 1) := by decide +kernel
theorem dL_areAll_437 : decode cL_areAll 437 = .ok (.invokevirtual 53, 3) := by decide +kernel
theorem dL_areAll_440 : decode cL_areAll 440 = .ok (.ifCond .ne 17, 3) := by decide +kernel
theorem dL_areAll_443 : decode cL_areAll 443 = .ok (.aload_n 0, 1) := by decide +kernel
theorem dL_areAll_444 : decode cL_areAll 444 = .ok (.iload 8, 2) := by decide +kernel
theorem dL_areAll_446 : decode cL_areAll 446 = .ok (.iconst 2, 1) := by decide +kernel
theorem dL_areAll_447 : decode cL_areAll 447 = .ok (.invokevirtual 53, 3) := by decide +kernel
theorem dL_areAll_450 : decode cL_areAll 450 = .ok (.ifCond .ne 7, 3) := by decide +kernel
theorem dL_areAll_453 : decode cL_areAll 453 = .ok (.iconst 1, 1) := by decide +kernel
theorem dL_areAll_454 : decode cL_areAll 454 = .ok (.goto 4, 3) := by decide +kernel
theorem dL_areAll_457 : decode cL_areAll 457 = .ok (.iconst 0, 1) := by decide +kernel
theorem dL_areAll_458 : decode cL_areAll 458 = .ok (.istore 6, 2) := by decide +kernel
theorem dL_areAll_460 : decode cL_areAll 460 = .ok (.iload 6, 2) := by decide +kernel
theorem dL_areAll_462 : decode cL_areAll 462 = .ok (.ifCond .eq 26, 3) := by decide +kernel
theorem dL_areAll_465 : decode cL_areAll 465 = .ok (.aload_n 0, 1) := by decide +kernel
theorem dL_areAll_466 : decode cL_areAll 466 = .ok (.iload 8, 2) := by decide +kernel
theorem dL_areAll_468 : decode cL_areAll 468 = .ok (.invokevirtual 66, 3) := by decide +kernel
theorem dL_areAll_471 : decode cL_areAll 471 = .ok (.aload_n 0, 1) := by decide +kernel
theorem dL_areAll_472 : decode cL_areAll 472 = .ok (.aload_n 1, 1) := by decide +kernel
theorem dL_areAll_473 : decode cL_areAll 473 = .ok (.aload_n 2, 1) := by decide +kernel
theorem dL_areAll_474 : decode cL_areAll 474 = .ok (.aload 4, 2) := by decide +kernel
theorem dL_areAll_476 : decode cL_areAll 476 = .ok (.iload 8, 2) := by decide +kernel
theorem dL_areAll_478 : decode cL_areAll 478 = .ok (.invokestatic 95, 3) := by decide +kernel
theorem dL_areAll_481 : decode cL_areAll 481 = .ok (.if_icmp .ne 7, 3) := by decide +kernel
theorem dL_areAll_484 : decode cL_areAll 484 = .ok (.iconst 1, 1) := by decide +kernel
theorem dL_areAll_485 : decode cL_areAll 485 = .ok (.goto 4, 3) := by decide +kernel
theorem dL_areAll_488 : decode cL_areAll 488 = .ok (.iconst 0, 1) := by decide +kernel
theorem dL_areAll_489 : decode cL_areAll 489 = .ok (.istore 6, 2) := by decide +kernel
theorem dL_areAll_491 : decode cL_areAll 491 = .ok (.iinc 8 1, 3) := by decide +kernel
theorem dL_areAll_494 : decode cL_areAll 494 = .ok (.goto (-252), 3) := by decide +kernel
theorem dL_areAll_497 : decode cL_areAll 497 = .ok (.iconst 0, 1) := by decide +kernel
theorem dL_areAll_498 : decode cL_areAll 498 = .ok (.istore 8, 2) := by decide +kernel
theorem dL_areAll_500 : decode cL_areAll 500 = .ok (.iload 8, 2) := by decide +kernel
theorem dL_areAll_502 : decode cL_areAll 502 = .ok (.bipush 10, 2) := by decide +kernel
theorem dL_areAll_504 : decode cL_areAll 504 = .ok (.if_icmp .ge 21, 3) := by decide +kernel
theorem dL_areAll_507 : decode cL_areAll 507 = .ok (.iload 7, 2) := by decide +kernel
theorem dL_areAll_509 : decode cL_areAll 509 = .ok (.aload_n 0, 1) := by decide +kernel
theorem dL_areAll_510 : decode cL_areAll 510 = .ok (.iload 8, 2) := by decide +kernel
theorem dL_areAll_512 : decode cL_areAll 512 = .ok (.iconst 0, 1) := by decide +kernel
theorem dL_areAll_513 : decode cL_areAll 513 = .ok (.invokevirtual 62, 3) := by decide +kernel
theorem dL_areAll_516 : decode cL_areAll 516 = .ok (.iadd, 1) := by decide +kernel
theorem dL_areAll_517 : decode cL_areAll 517 = .ok (.istore 7, 2) := by decide +kernel
theorem dL_areAll_519 : decode cL_areAll 519 = .ok (.iinc 8 1, 3) := by decide +kernel
theorem dL_areAll_522 : decode cL_areAll 522 = .ok (.goto (-22), 3) := by decide +kernel
theorem dL_areAll_525 : decode cL_areAll 525 = .ok (.iload 6, 2) := by decide +kernel
theorem dL_areAll_527 : decode cL_areAll 527 = .ok (.ifCond .eq 16, 3) := by decide +kernel
theorem dL_areAll_530 : decode cL_areAll 530 = .ok (.iload 7, 2) := by decide +kernel
theorem dL_areAll_532 : decode cL_areAll 532 = .ok (.aload 5, 2) := by decide +kernel
theorem dL_areAll_534 : decode cL_areAll 534 = .ok (.iconst 4, 1) := by decide +kernel
theorem dL_areAll_535 : decode cL_areAll 535 = .ok (.iaload, 1) := by decide +kernel
theorem dL_areAll_536 : decode cL_areAll 536 = .ok (.if_icmp .ne 7, 3) := by decide +kernel
theorem dL_areAll_539 : decode cL_areAll 539 = .ok (.iconst 1, 1) := by decide +kernel
theorem dL_areAll_540 : decode cL_areAll 540 = .ok (.goto 4, 3) := by decide +kernel
theorem dL_areAll_543 : decode cL_areAll 543 = .ok (.iconst 0, 1) := by decide +kernel
theorem dL_areAll_544 : decode cL_areAll 544 = .ok (.ireturn, 1) := by decide +kernel
set_option maxRecDepth 20000 in
theorem gL_isPort_L_does : GoodIn wsL_isPort (va_wsS RL 98 yL_does wsL_does) := goodIn_app (goodIn_of _ (by decide +kernel)) ggL_isPort_L_does
set_option maxRecDepth 20000 in
theorem ggL_isPort_X5_port : GoodIn wsL_isPort wsX5_port := goodIn_ca (goodIn_ca (goodIn_r _ [350, 13, 14, 55, 291, 351, 181, 19, 20, 11, 21, 22, 23, 24, 25, 26, 30, 31, 32, 119, 106, 107, 60, 108, 109, 383, 384, 385, 386, 387, 388, 389, 390, 391, 392, 401, 402, 403, 404, 405, 406, 407, 408, 409, 410, 411, 412, 413, 414, 415, 416] (by decide +kernel) (by decide +kernel)) (goodIn_sub (fun _ h => List.mem_cons_of_mem _ (List.mem_append_left _ (List.mem_append_left _ (List.mem_append_right _ h)))) (by decide +kernel))) (goodIn_sub (fun _ h => List.mem_cons_of_mem _ (List.mem_append_right _ h)) (by decide +kernel))
set_option maxRecDepth 20000 in
theorem gL_isPort_X5_port : GoodIn wsL_isPort (wsV RL 56 RX5 yX5_port wsX5_port) := goodIn_app (goodIn_of _ (by decide +kernel)) ggL_isPort_X5_port
theorem dL_isPort_0 : decode cL_isPort 0 = .ok (.iload 7, 2) := by decide +kernel
theorem dL_isPort_2 : decode cL_isPort 2 = .ok (.bipush 30, 2) := by decide +kernel
theorem dL_isPort_4 : decode cL_isPort 4 = .ok (.irem, 1) := by decide +kernel
theorem dL_isPort_5 : decode cL_isPort 5 = .ok (.istore 9, 2) := by decide +kernel
theorem dL_isPort_7 : decode cL_isPort 7 = .ok (.iload 7, 2) := by decide +kernel
theorem dL_isPort_9 : decode cL_isPort 9 = .ok (.bipush 30, 2) := by decide +kernel
theorem dL_isPort_11 : decode cL_isPort 11 = .ok (.idiv, 1) := by decide +kernel
theorem dL_isPort_12 : decode cL_isPort 12 = .ok (.bipush 30, 2) := by decide +kernel
theorem dL_isPort_14 : decode cL_isPort 14 = .ok (.irem, 1) := by decide +kernel
theorem dL_isPort_15 : decode cL_isPort 15 = .ok (.istore 10, 2) := by decide +kernel
theorem dL_isPort_17 : decode cL_isPort 17 = .ok (.iload 6, 2) := by decide +kernel
theorem dL_isPort_19 : decode cL_isPort 19 = .ok (.ifCond .ne 151, 3) := by decide +kernel
theorem dL_isPort_22 : decode cL_isPort 22 = .ok (.iconst 1, 1) := by decide +kernel
theorem dL_isPort_23 : decode cL_isPort 23 = .ok (.iload 8, 2) := by decide +kernel
theorem dL_isPort_25 : decode cL_isPort 25 = .ok (.bipush 20, 2) := by decide +kernel
theorem dL_isPort_27 : decode cL_isPort 27 = .ok (.irem, 1) := by decide +kernel
theorem dL_isPort_28 : decode cL_isPort 28 = .ok (.iadd, 1) := by decide +kernel
theorem dL_isPort_29 : decode cL_isPort 29 = .ok (.istore 11, 2) := by decide +kernel
theorem dL_isPort_31 : decode cL_isPort 31 = .ok (.iload 9, 2) := by decide +kernel
theorem dL_isPort_33 : decode cL_isPort 33 = .ok (.iconst 5, 1) := by decide +kernel
theorem dL_isPort_34 : decode cL_isPort 34 = .ok (.idiv, 1) := by decide +kernel
theorem dL_isPort_35 : decode cL_isPort 35 = .ok (.iload 10, 2) := by decide +kernel
theorem dL_isPort_37 : decode cL_isPort 37 = .ok (.iconst 5, 1) := by decide +kernel
theorem dL_isPort_38 : decode cL_isPort 38 = .ok (.idiv, 1) := by decide +kernel
theorem dL_isPort_39 : decode cL_isPort 39 = .ok (.if_icmp .eq 7, 3) := by decide +kernel
theorem dL_isPort_42 : decode cL_isPort 42 = .ok (.iconst 1, 1) := by decide +kernel
theorem dL_isPort_43 : decode cL_isPort 43 = .ok (.goto 4, 3) := by decide +kernel
theorem dL_isPort_46 : decode cL_isPort 46 = .ok (.iconst 0, 1) := by decide +kernel
theorem dL_isPort_47 : decode cL_isPort 47 = .ok (.istore 12, 2) := by decide +kernel
theorem dL_isPort_49 : decode cL_isPort 49 = .ok (.iload 12, 2) := by decide +kernel
theorem dL_isPort_51 : decode cL_isPort 51 = .ok (.ifCond .eq 21, 3) := by decide +kernel
theorem dL_isPort_54 : decode cL_isPort 54 = .ok (.aload_n 1, 1) := by decide +kernel
theorem dL_isPort_55 : decode cL_isPort 55 = .ok (.iload 9, 2) := by decide +kernel
theorem dL_isPort_57 : decode cL_isPort 57 = .ok (.iaload, 1) := by decide +kernel
theorem dL_isPort_58 : decode cL_isPort 58 = .ok (.ifCond .ge 14, 3) := by decide +kernel
theorem dL_isPort_61 : decode cL_isPort 61 = .ok (.aload_n 1, 1) := by decide +kernel
theorem dL_isPort_62 : decode cL_isPort 62 = .ok (.iload 10, 2) := by decide +kernel
theorem dL_isPort_64 : decode cL_isPort 64 = .ok (.iaload, 1) := by decide +kernel
theorem dL_isPort_65 : decode cL_isPort 65 = .ok (.ifCond .ge 7, 3) := by decide +kernel
theorem dL_isPort_68 : decode cL_isPort 68 = .ok (.iconst 1, 1) := by decide +kernel
theorem dL_isPort_69 : decode cL_isPort 69 = .ok (.goto 4, 3) := by decide +kernel
theorem dL_isPort_72 : decode cL_isPort 72 = .ok (.iconst 0, 1) := by decide +kernel
theorem dL_isPort_73 : decode cL_isPort 73 = .ok (.istore 13, 2) := by decide +kernel
theorem dL_isPort_75 : decode cL_isPort 75 = .ok (.iload 13, 2) := by decide +kernel
theorem dL_isPort_77 : decode cL_isPort 77 = .ok (.ifCond .eq 35, 3) := by decide +kernel
theorem dL_isPort_80 : decode cL_isPort 80 = .ok (.aload_n 1, 1) := by decide +kernel
theorem dL_isPort_81 : decode cL_isPort 81 = .ok (.iload 9, 2) := by decide +kernel
theorem dL_isPort_83 : decode cL_isPort 83 = .ok (.iload 10, 2) := by decide +kernel
theorem dL_isPort_85 : decode cL_isPort 85 = .ok (.iastore, 1) := by decide +kernel
theorem dL_isPort_86 : decode cL_isPort 86 = .ok (.aload_n 1, 1) := by decide +kernel
theorem dL_isPort_87 : decode cL_isPort 87 = .ok (.iload 10, 2) := by decide +kernel
theorem dL_isPort_89 : decode cL_isPort 89 = .ok (.iload 9, 2) := by decide +kernel
theorem dL_isPort_91 : decode cL_isPort 91 = .ok (.iastore, 1) := by decide +kernel
theorem dL_isPort_92 : decode cL_isPort 92 = .ok (.aload_n 2, 1) := by decide +kernel
theorem dL_isPort_93 : decode cL_isPort 93 = .ok (.iload 9, 2) := by decide +kernel
theorem dL_isPort_95 : decode cL_isPort 95 = .ok (.iload 11, 2) := by decide +kernel
theorem dL_isPort_97 : decode cL_isPort 97 = .ok (.iastore, 1) := by decide +kernel
theorem dL_isPort_98 : decode cL_isPort 98 = .ok (.aload_n 2, 1) := by decide +kernel
theorem dL_isPort_99 : decode cL_isPort 99 = .ok (.iload 10, 2) := by decide +kernel
theorem dL_isPort_101 : decode cL_isPort 101 = .ok (.iload 11, 2) := by decide +kernel
theorem dL_isPort_103 : decode cL_isPort 103 = .ok (.iastore, 1) := by decide +kernel
theorem dL_isPort_104 : decode cL_isPort 104 = .ok (.aload 5, 2) := by decide +kernel
theorem dL_isPort_106 : decode cL_isPort 106 = .ok (.iconst 0, 1) := by decide +kernel
theorem dL_isPort_107 : decode cL_isPort 107 = .ok (.dup2, 1) := by decide +kernel
theorem dL_isPort_108 : decode cL_isPort 108 = .ok (.iaload, 1) := by decide +kernel
theorem dL_isPort_109 : decode cL_isPort 109 = .ok (.iconst 1, 1) := by decide +kernel
theorem dL_isPort_110 : decode cL_isPort 110 = .ok (.iadd, 1) := by decide +kernel
theorem dL_isPort_111 : decode cL_isPort 111 = .ok (.iastore, 1) := by decide +kernel
theorem dL_isPort_112 : decode cL_isPort 112 = .ok (.aload_n 0, 1) := by decide +kernel
theorem dL_isPort_113 : decode cL_isPort 113 = .ok (.iconst 0, 1) := by decide +kernel
theorem dL_isPort_114 : decode cL_isPort 114 = .ok (.iload 9, 2) := by decide +kernel
theorem dL_isPort_116 : decode cL_isPort 116 = .ok (.iconst 5, 1) := by decide +kernel
theorem dL_isPort_117 : decode cL_isPort 117 = .ok (.idiv, 1) := by decide +kernel
theorem dL_isPort_118 : decode cL_isPort 118 = .ok (.iload 9, 2) := by decide +kernel
theorem dL_isPort_120 : decode cL_isPort 120 = .ok (.iconst 5, 1) := by decide +kernel
theorem dL_isPort_121 : decode cL_isPort 121 = .ok (.irem, 1) := by decide +kernel
theorem dL_isPort_122 : decode cL_isPort 122 = .ok (.iload 10, 2) := by decide +kernel
theorem dL_isPort_124 : decode cL_isPort 124 = .ok (.iconst 5, 1) := by decide +kernel
theorem dL_isPort_125 : decode cL_isPort 125 = .ok (.idiv, 1) := by decide +kernel
theorem dL_isPort_126 : decode cL_isPort 126 = .ok (.iload 10, 2) := by decide +kernel
theorem dL_isPort_128 : decode cL_isPort 128 = .ok (.iconst 5, 1) := by decide +kernel
theorem dL_isPort_129 : decode cL_isPort 129 = .ok (.irem, 1) := by decide +kernel
theorem dL_isPort_130 : decode cL_isPort 130 = .ok (.iload 11, 2) := by decide +kernel
theorem dL_isPort_132 : decode cL_isPort 132 = .ok (.invokestatic 98, 3) := by decide +kernel
theorem dL_isPort_135 : decode cL_isPort 135 = .ok (.iload 12, 2) := by decide +kernel
theorem dL_isPort_137 : decode cL_isPort 137 = .ok (.ifCond .ne 9, 3) := by decide +kernel
theorem dL_isPort_140 : decode cL_isPort 140 = .ok (.sipush (-2000), 3) := by decide +kernel
theorem dL_isPort_143 : decode cL_isPort 143 = .ok (.goto 18, 3) := by decide +kernel
theorem dL_isPort_146 : decode cL_isPort 146 = .ok (.iload 13, 2) := by decide +kernel
theorem dL_isPort_148 : decode cL_isPort 148 = .ok (.ifCond .eq 10, 3) := by decide +kernel
theorem dL_isPort_151 : decode cL_isPort 151 = .ok (.aload 5, 2) := by decide +kernel
theorem dL_isPort_153 : decode cL_isPort 153 = .ok (.iconst 0, 1) := by decide +kernel
theorem dL_isPort_154 : decode cL_isPort 154 = .ok (.iaload, 1) := by decide +kernel
theorem dL_isPort_155 : decode cL_isPort 155 = .ok (.goto 6, 3) := by decide +kernel
theorem dL_isPort_158 : decode cL_isPort 158 = .ok (.sipush (-1000), 3) := by decide +kernel
theorem dL_isPort_161 : decode cL_isPort 161 = .ok (.if_icmp .ne 7, 3) := by decide +kernel
theorem dL_isPort_164 : decode cL_isPort 164 = .ok (.iconst 1, 1) := by decide +kernel
theorem dL_isPort_165 : decode cL_isPort 165 = .ok (.goto 4, 3) := by decide +kernel
theorem dL_isPort_168 : decode cL_isPort 168 = .ok (.iconst 0, 1) := by decide +kernel
theorem dL_isPort_169 : decode cL_isPort 169 = .ok (.ireturn, 1) := by decide +kernel
theorem dL_isPort_170 : decode cL_isPort 170 = .ok (.iload 6, 2) := by decide +kernel
theorem dL_isPort_172 : decode cL_isPort 172 = .ok (.iconst 1, 1) := by decide +kernel
theorem dL_isPort_173 : decode cL_isPort 173 = .ok (.if_icmp .ne 100, 3) := by decide +kernel
theorem dL_isPort_176 : decode cL_isPort 176 = .ok (.iload 8, 2) := by decide +kernel
theorem dL_isPort_178 : decode cL_isPort 178 = .ok (.bipush 10, 2) := by decide +kernel
theorem dL_isPort_180 : decode cL_isPort 180 = .ok (.irem, 1) := by decide +kernel
theorem dL_isPort_181 : decode cL_isPort 181 = .ok (.istore 11, 2) := by decide +kernel
theorem dL_isPort_183 : decode cL_isPort 183 = .ok (.aload_n 1, 1) := by decide +kernel
theorem dL_isPort_184 : decode cL_isPort 184 = .ok (.iload 9, 2) := by decide +kernel
theorem dL_isPort_186 : decode cL_isPort 186 = .ok (.iaload, 1) := by decide +kernel
theorem dL_isPort_187 : decode cL_isPort 187 = .ok (.ifCond .ge 14, 3) := by decide +kernel
theorem dL_isPort_190 : decode cL_isPort 190 = .ok (.aload_n 3, 1) := by decide +kernel
theorem dL_isPort_191 : decode cL_isPort 191 = .ok (.iload 11, 2) := by decide +kernel
theorem dL_isPort_193 : decode cL_isPort 193 = .ok (.iaload, 1) := by decide +kernel
theorem dL_isPort_194 : decode cL_isPort 194 = .ok (.ifCond .ge 7, 3) := by decide +kernel
theorem dL_isPort_197 : decode cL_isPort 197 = .ok (.iconst 1, 1) := by decide +kernel
theorem dL_isPort_198 : decode cL_isPort 198 = .ok (.goto 4, 3) := by decide +kernel
theorem dL_isPort_201 : decode cL_isPort 201 = .ok (.iconst 0, 1) := by decide +kernel
theorem dL_isPort_202 : decode cL_isPort 202 = .ok (.istore 12, 2) := by decide +kernel
theorem dL_isPort_204 : decode cL_isPort 204 = .ok (.iload 12, 2) := by decide +kernel
theorem dL_isPort_206 : decode cL_isPort 206 = .ok (.ifCond .eq 26, 3) := by decide +kernel
theorem dL_isPort_209 : decode cL_isPort 209 = .ok (.aload_n 1, 1) := by decide +kernel
theorem dL_isPort_210 : decode cL_isPort 210 = .ok (.iload 9, 2) := by decide +kernel
theorem dL_isPort_212 : decode cL_isPort 212 = .ok (.bipush 100, 2) := by decide +kernel
theorem dL_isPort_214 : decode cL_isPort 214 = .ok (.iload 11, 2) := by decide +kernel
theorem dL_isPort_216 : decode cL_isPort 216 = .ok (.iadd, 1) := by decide +kernel
theorem dL_isPort_217 : decode cL_isPort 217 = .ok (.iastore, 1) := by decide +kernel
theorem dL_isPort_218 : decode cL_isPort 218 = .ok (.aload_n 3, 1) := by decide +kernel
theorem dL_isPort_219 : decode cL_isPort 219 = .ok (.iload 11, 2) := by decide +kernel
theorem dL_isPort_221 : decode cL_isPort 221 = .ok (.iload 9, 2) := by decide +kernel
theorem dL_isPort_223 : decode cL_isPort 223 = .ok (.iastore, 1) := by decide +kernel
theorem dL_isPort_224 : decode cL_isPort 224 = .ok (.aload 5, 2) := by decide +kernel
theorem dL_isPort_226 : decode cL_isPort 226 = .ok (.iconst 1, 1) := by decide +kernel
theorem dL_isPort_227 : decode cL_isPort 227 = .ok (.dup2, 1) := by decide +kernel
theorem dL_isPort_228 : decode cL_isPort 228 = .ok (.iaload, 1) := by decide +kernel
theorem dL_isPort_229 : decode cL_isPort 229 = .ok (.iconst 1, 1) := by decide +kernel
theorem dL_isPort_230 : decode cL_isPort 230 = .ok (.iadd, 1) := by decide +kernel
theorem dL_isPort_231 : decode cL_isPort 231 = .ok (.iastore, 1) := by decide +kernel
theorem dL_isPort_232 : decode cL_isPort 232 = .ok (.aload_n 0, 1) := by decide +kernel
theorem dL_isPort_233 : decode cL_isPort 233 = .ok (.iconst 2, 1) := by decide +kernel
theorem dL_isPort_234 : decode cL_isPort 234 = .ok (.iload 9, 2) := by decide +kernel
theorem dL_isPort_236 : decode cL_isPort 236 = .ok (.iconst 5, 1) := by decide +kernel
theorem dL_isPort_237 : decode cL_isPort 237 = .ok (.idiv, 1) := by decide +kernel
theorem dL_isPort_238 : decode cL_isPort 238 = .ok (.iload 9, 2) := by decide +kernel
theorem dL_isPort_240 : decode cL_isPort 240 = .ok (.iconst 5, 1) := by decide +kernel
theorem dL_isPort_241 : decode cL_isPort 241 = .ok (.irem, 1) := by decide +kernel
theorem dL_isPort_242 : decode cL_isPort 242 = .ok (.iload 11, 2) := by decide +kernel
theorem dL_isPort_244 : decode cL_isPort 244 = .ok (.iconst 0, 1) := by decide +kernel
theorem dL_isPort_245 : decode cL_isPort 245 = .ok (.iconst 0, 1) := by decide +kernel
theorem dL_isPort_246 : decode cL_isPort 246 = .ok (.invokestatic 98, 3) := by decide +kernel
theorem dL_isPort_249 : decode cL_isPort 249 = .ok (.iload 12, 2) := by decide +kernel
theorem dL_isPort_251 : decode cL_isPort 251 = .ok (.ifCond .eq 10, 3) := by decide +kernel
theorem dL_isPort_254 : decode cL_isPort 254 = .ok (.aload 5, 2) := by decide +kernel
theorem dL_isPort_256 : decode cL_isPort 256 = .ok (.iconst 1, 1) := by decide +kernel
theorem dL_isPort_257 : decode cL_isPort 257 = .ok (.iaload, 1) := by decide +kernel
theorem dL_isPort_258 : decode cL_isPort 258 = .ok (.goto 6, 3) := by decide +kernel
theorem dL_isPort_261 : decode cL_isPort 261 = .ok (.sipush (-1000), 3) := by decide +kernel
theorem dL_isPort_264 : decode cL_isPort 264 = .ok (.if_icmp .ne 7, 3) := by decide +kernel
theorem dL_isPort_267 : decode cL_isPort 267 = .ok (.iconst 1, 1) := by decide +kernel
theorem dL_isPort_268 : decode cL_isPort 268 = .ok (.goto 4, 3) := by decide +kernel
theorem dL_isPort_271 : decode cL_isPort 271 = .ok (.iconst 0, 1) := by decide +kernel
theorem dL_isPort_272 : decode cL_isPort 272 = .ok (.ireturn, 1) := by decide +kernel
theorem dL_isPort_273 : decode cL_isPort 273 = .ok (.iload 6, 2) := by decide +kernel
theorem dL_isPort_275 : decode cL_isPort 275 = .ok (.iconst 2, 1) := by decide +kernel
theorem dL_isPort_276 : decode cL_isPort 276 = .ok (.if_icmp .ne 114, 3) := by decide +kernel
theorem dL_isPort_279 : decode cL_isPort 279 = .ok (.aload_n 1, 1) := by decide +kernel
theorem dL_isPort_280 : decode cL_isPort 280 = .ok (.iload 9, 2) := by decide +kernel
theorem dL_isPort_282 : decode cL_isPort 282 = .ok (.iaload, 1) := by decide +kernel
theorem dL_isPort_283 : decode cL_isPort 283 = .ok (.istore 11, 2) := by decide +kernel
theorem dL_isPort_285 : decode cL_isPort 285 = .ok (.iload 11, 2) := by decide +kernel
theorem dL_isPort_287 : decode cL_isPort 287 = .ok (.ifCond .ge 9, 3) := by decide +kernel
theorem dL_isPort_290 : decode cL_isPort 290 = .ok (.sipush (-1000), 3) := by decide +kernel
theorem dL_isPort_293 : decode cL_isPort 293 = .ok (.goto 19, 3) := by decide +kernel
theorem dL_isPort_296 : decode cL_isPort 296 = .ok (.iload 11, 2) := by decide +kernel
theorem dL_isPort_298 : decode cL_isPort 298 = .ok (.bipush 100, 2) := by decide +kernel
theorem dL_isPort_300 : decode cL_isPort 300 = .ok (.if_icmp .ge 7, 3) := by decide +kernel
theorem dL_isPort_303 : decode cL_isPort 303 = .ok (.iconst (-1), 1) := by decide +kernel
theorem dL_isPort_304 : decode cL_isPort 304 = .ok (.goto 8, 3) := by decide +kernel
theorem dL_isPort_307 : decode cL_isPort 307 = .ok (.iload 11, 2) := by decide +kernel
theorem dL_isPort_309 : decode cL_isPort 309 = .ok (.bipush 100, 2) := by decide +kernel
theorem dL_isPort_311 : decode cL_isPort 311 = .ok (.isub, 1) := by decide +kernel
theorem dL_isPort_312 : decode cL_isPort 312 = .ok (.istore 12, 2) := by decide +kernel
theorem dL_isPort_314 : decode cL_isPort 314 = .ok (.iload 11, 2) := by decide +kernel
theorem dL_isPort_316 : decode cL_isPort 316 = .ok (.bipush 100, 2) := by decide +kernel
theorem dL_isPort_318 : decode cL_isPort 318 = .ok (.if_icmp .lt 22, 3) := by decide +kernel
theorem dL_isPort_321 : decode cL_isPort 321 = .ok (.aload_n 3, 1) := by decide +kernel
theorem dL_isPort_322 : decode cL_isPort 322 = .ok (.iload 11, 2) := by decide +kernel
theorem dL_isPort_324 : decode cL_isPort 324 = .ok (.bipush 100, 2) := by decide +kernel
theorem dL_isPort_326 : decode cL_isPort 326 = .ok (.isub, 1) := by decide +kernel
theorem dL_isPort_327 : decode cL_isPort 327 = .ok (.iconst (-1), 1) := by decide +kernel
theorem dL_isPort_328 : decode cL_isPort 328 = .ok (.iastore, 1) := by decide +kernel
theorem dL_isPort_329 : decode cL_isPort 329 = .ok (.aload 5, 2) := by decide +kernel
theorem dL_isPort_331 : decode cL_isPort 331 = .ok (.iconst 1, 1) := by decide +kernel
theorem dL_isPort_332 : decode cL_isPort 332 = .ok (.dup2, 1) := by decide +kernel
theorem dL_isPort_333 : decode cL_isPort 333 = .ok (.iaload, 1) := by decide +kernel
theorem dL_isPort_334 : decode cL_isPort 334 = .ok (.iconst 1, 1) := by decide +kernel
theorem dL_isPort_335 : decode cL_isPort 335 = .ok (.isub, 1) := by decide +kernel
theorem dL_isPort_336 : decode cL_isPort 336 = .ok (.iastore, 1) := by decide +kernel
theorem dL_isPort_337 : decode cL_isPort 337 = .ok (.goto 21, 3) := by decide +kernel
theorem dL_isPort_340 : decode cL_isPort 340 = .ok (.iload 11, 2) := by decide +kernel
theorem dL_isPort_342 : decode cL_isPort 342 = .ok (.ifCond .lt 16, 3) := by decide +kernel
theorem dL_isPort_345 : decode cL_isPort 345 = .ok (.aload_n 1, 1) := by decide +kernel
theorem dL_isPort_346 : decode cL_isPort 346 = .ok (.iload 11, 2) := by decide +kernel
theorem dL_isPort_348 : decode cL_isPort 348 = .ok (.iconst (-1), 1) := by decide +kernel
theorem dL_isPort_349 : decode cL_isPort 349 = .ok (.iastore, 1) := by decide +kernel
theorem dL_isPort_350 : decode cL_isPort 350 = .ok (.aload 5, 2) := by decide +kernel
theorem dL_isPort_352 : decode cL_isPort 352 = .ok (.iconst 0, 1) := by decide +kernel
theorem dL_isPort_353 : decode cL_isPort 353 = .ok (.dup2, 1) := by decide +kernel
theorem dL_isPort_354 : decode cL_isPort 354 = .ok (.iaload, 1) := by decide +kernel
theorem dL_isPort_355 : decode cL_isPort 355 = .ok (.iconst 1, 1) := by decide +kernel
theorem dL_isPort_356 : decode cL_isPort 356 = .ok (.isub, 1) := by decide +kernel
theorem dL_isPort_357 : decode cL_isPort 357 = .ok (.iastore, 1) := by decide +kernel
theorem dL_isPort_358 : decode cL_isPort 358 = .ok (.aload_n 1, 1) := by decide +kernel
theorem dL_isPort_359 : decode cL_isPort 359 = .ok (.iload 9, 2) := by decide +kernel
theorem dL_isPort_361 : decode cL_isPort 361 = .ok (.iconst (-1), 1) := by decide +kernel
theorem dL_isPort_362 : decode cL_isPort 362 = .ok (.iastore, 1) := by decide +kernel
theorem dL_isPort_363 : decode cL_isPort 363 = .ok (.aload_n 0, 1) := by decide +kernel
theorem dL_isPort_364 : decode cL_isPort 364 = .ok (.iconst 1, 1) := by decide +kernel
theorem dL_isPort_365 : decode cL_isPort 365 = .ok (.iload 9, 2) := by decide +kernel
theorem dL_isPort_367 : decode cL_isPort 367 = .ok (.iconst 5, 1) := by decide +kernel
theorem dL_isPort_368 : decode cL_isPort 368 = .ok (.idiv, 1) := by decide +kernel
theorem dL_isPort_369 : decode cL_isPort 369 = .ok (.iload 9, 2) := by decide +kernel
theorem dL_isPort_371 : decode cL_isPort 371 = .ok (.iconst 5, 1) := by decide +kernel
theorem dL_isPort_372 : decode cL_isPort 372 = .ok (.irem, 1) := by decide +kernel
theorem dL_isPort_373 : decode cL_isPort 373 = .ok (.iconst 0, 1) := by decide +kernel
theorem dL_isPort_374 : decode cL_isPort 374 = .ok (.iconst 0, 1) := by decide +kernel
theorem dL_isPort_375 : decode cL_isPort 375 = .ok (.iconst 0, 1) := by decide +kernel
theorem dL_isPort_376 : decode cL_isPort 376 = .ok (.invokestatic 98, 3) := by decide +kernel
theorem dL_isPort_379 : decode cL_isPort 379 = .ok (.iload 12, 2) := by decide +kernel
theorem dL_isPort_381 : decode cL_isPort 381 = .ok (.if_icmp .ne 7, 3) := by decide +kernel
theorem dL_isPort_384 : decode cL_isPort 384 = .ok (.iconst 1, 1) := by decide +kernel
theorem dL_isPort_385 : decode cL_isPort 385 = .ok (.goto 4, 3) := by decide +kernel
theorem dL_isPort_388 : decode cL_isPort 388 = .ok (.iconst 0, 1) := by decide +kernel
theorem dL_isPort_389 : decode cL_isPort 389 = .ok (.ireturn, 1) := by decide +kernel
theorem dL_isPort_390 : decode cL_isPort 390 = .ok (.iload 6, 2) := by decide +kernel
theorem dL_isPort_392 : decode cL_isPort 392 = .ok (.iconst 3, 1) := by decide +kernel
theorem dL_isPort_393 : decode cL_isPort 393 = .ok (.if_icmp .ne 52, 3) := by decide +kernel
theorem dL_isPort_396 : decode cL_isPort 396 = .ok (.aload 4, 2) := by decide +kernel
theorem dL_isPort_398 : decode cL_isPort 398 = .ok (.iload 9, 2) := by decide +kernel
theorem dL_isPort_400 : decode cL_isPort 400 = .ok (.iconst 5, 1) := by decide +kernel
theorem dL_isPort_401 : decode cL_isPort 401 = .ok (.idiv, 1) := by decide +kernel
theorem dL_isPort_402 : decode cL_isPort 402 = .ok (.iaload, 1) := by decide +kernel
theorem dL_isPort_403 : decode cL_isPort 403 = .ok (.istore 11, 2) := by decide +kernel
theorem dL_isPort_405 : decode cL_isPort 405 = .ok (.aload 4, 2) := by decide +kernel
theorem dL_isPort_407 : decode cL_isPort 407 = .ok (.iload 9, 2) := by decide +kernel
theorem dL_isPort_409 : decode cL_isPort 409 = .ok (.iconst 5, 1) := by decide +kernel
theorem dL_isPort_410 : decode cL_isPort 410 = .ok (.idiv, 1) := by decide +kernel
theorem dL_isPort_411 : decode cL_isPort 411 = .ok (.iload 8, 2) := by decide +kernel
theorem dL_isPort_413 : decode cL_isPort 413 = .ok (.bipush 16, 2) := by decide +kernel
theorem dL_isPort_415 : decode cL_isPort 415 = .ok (.irem, 1) := by decide +kernel
theorem dL_isPort_416 : decode cL_isPort 416 = .ok (.iastore, 1) := by decide +kernel
theorem dL_isPort_417 : decode cL_isPort 417 = .ok (.aload_n 0, 1) := by decide +kernel
theorem dL_isPort_418 : decode cL_isPort 418 = .ok (.iconst 3, 1) := by decide +kernel
theorem dL_isPort_419 : decode cL_isPort 419 = .ok (.iload 9, 2) := by decide +kernel
theorem dL_isPort_421 : decode cL_isPort 421 = .ok (.iconst 5, 1) := by decide +kernel
theorem dL_isPort_422 : decode cL_isPort 422 = .ok (.idiv, 1) := by decide +kernel
theorem dL_isPort_423 : decode cL_isPort 423 = .ok (.iload 8, 2) := by decide +kernel
theorem dL_isPort_425 : decode cL_isPort 425 = .ok (.bipush 16, 2) := by decide +kernel
theorem dL_isPort_427 : decode cL_isPort 427 = .ok (.irem, 1) := by decide +kernel
theorem dL_isPort_428 : decode cL_isPort 428 = .ok (.iconst 0, 1) := by decide +kernel
theorem dL_isPort_429 : decode cL_isPort 429 = .ok (.iconst 0, 1) := by decide +kernel
theorem dL_isPort_430 : decode cL_isPort 430 = .ok (.iconst 0, 1) := by decide +kernel
theorem dL_isPort_431 : decode cL_isPort 431 = .ok (.invokestatic 98, 3) := by decide +kernel
theorem dL_isPort_434 : decode cL_isPort 434 = .ok (.iload 11, 2) := by decide +kernel
theorem dL_isPort_436 : decode cL_isPort 436 = .ok (.if_icmp .ne 7, 3) := by decide +kernel
theorem dL_isPort_439 : decode cL_isPort 439 = .ok (.iconst 1, 1) := by decide +kernel
theorem dL_isPort_440 : decode cL_isPort 440 = .ok (.goto 4, 3) := by decide +kernel
theorem dL_isPort_443 : decode cL_isPort 443 = .ok (.iconst 0, 1) := by decide +kernel
theorem dL_isPort_444 : decode cL_isPort 444 = .ok (.ireturn, 1) := by decide +kernel
theorem dL_isPort_445 : decode cL_isPort 445 = .ok (.iload 6, 2) := by decide +kernel
theorem dL_isPort_447 : decode cL_isPort 447 = .ok (.iconst 4, 1) := by decide +kernel
theorem dL_isPort_448 : decode cL_isPort 448 = .ok (.if_icmp .ne 67, 3) := by decide +kernel
theorem dL_isPort_451 : decode cL_isPort 451 = .ok (.aload_n 0, 1) := by decide +kernel
theorem dL_isPort_452 : decode cL_isPort 452 = .ok (.iload 9, 2) := by decide +kernel
theorem dL_isPort_454 : decode cL_isPort 454 = .ok (.iconst 5, 1) := by decide +kernel
theorem dL_isPort_455 : decode cL_isPort 455 = .ok (.idiv, 1) := by decide +kernel
theorem dL_isPort_456 : decode cL_isPort 456 = .ok (.iload 9, 2) := by decide +kernel
theorem dL_isPort_458 : decode cL_isPort 458 = .ok (.iconst 5, 1) := by decide +kernel
theorem dL_isPort_459 : decode cL_isPort 459 = .ok (.irem, 1) := by decide +kernel
theorem dL_isPort_460 : decode cL_isPort 460 = .ok (.iconst 2, 1) := by decide +kernel
theorem dL_isPort_461 : decode cL_isPort 461 = .ok (.invokevirtual 56, 3) := by decide +kernel
theorem dL_isPort_464 : decode cL_isPort 464 = .ok (.istore 11, 2) := by decide +kernel
theorem dL_isPort_466 : decode cL_isPort 466 = .ok (.aload_n 0, 1) := by decide +kernel
theorem dL_isPort_467 : decode cL_isPort 467 = .ok (.iconst 4, 1) := by decide +kernel
theorem dL_isPort_468 : decode cL_isPort 468 = .ok (.iload 9, 2) := by decide +kernel
theorem dL_isPort_470 : decode cL_isPort 470 = .ok (.iconst 5, 1) := by decide +kernel
theorem dL_isPort_471 : decode cL_isPort 471 = .ok (.idiv, 1) := by decide +kernel
theorem dL_isPort_472 : decode cL_isPort 472 = .ok (.iload 9, 2) := by decide +kernel
theorem dL_isPort_474 : decode cL_isPort 474 = .ok (.iconst 5, 1) := by decide +kernel
theorem dL_isPort_475 : decode cL_isPort 475 = .ok (.irem, 1) := by decide +kernel
theorem dL_isPort_476 : decode cL_isPort 476 = .ok (.iconst 0, 1) := by decide +kernel
theorem dL_isPort_477 : decode cL_isPort 477 = .ok (.iconst 0, 1) := by decide +kernel
theorem dL_isPort_478 : decode cL_isPort 478 = .ok (.iconst 0, 1) := by decide +kernel
theorem dL_isPort_479 : decode cL_isPort 479 = .ok (.invokestatic 98, 3) := by decide +kernel
theorem dL_isPort_482 : decode cL_isPort 482 = .ok (.iconst 1, 1) := by decide +kernel
theorem dL_isPort_483 : decode cL_isPort 483 = .ok (.iload 11, 2) := by decide +kernel
theorem dL_isPort_485 : decode cL_isPort 485 = .ok (.isub, 1) := by decide +kernel
theorem dL_isPort_486 : decode cL_isPort 486 = .ok (.if_icmp .ne 27, 3) := by decide +kernel
theorem dL_isPort_489 : decode cL_isPort 489 = .ok (.aload_n 0, 1) := by decide +kernel
theorem dL_isPort_490 : decode cL_isPort 490 = .ok (.iload 9, 2) := by decide +kernel
theorem dL_isPort_492 : decode cL_isPort 492 = .ok (.iconst 5, 1) := by decide +kernel
theorem dL_isPort_493 : decode cL_isPort 493 = .ok (.idiv, 1) := by decide +kernel
theorem dL_isPort_494 : decode cL_isPort 494 = .ok (.iload 9, 2) := by decide +kernel
theorem dL_isPort_496 : decode cL_isPort 496 = .ok (.iconst 5, 1) := by decide +kernel
theorem dL_isPort_497 : decode cL_isPort 497 = .ok (.irem, 1) := by decide +kernel
theorem dL_isPort_498 : decode cL_isPort 498 = .ok (.iconst 2, 1) := by decide +kernel
theorem dL_isPort_499 : decode cL_isPort 499 = .ok (.invokevirtual 56, 3) := by decide +kernel
theorem dL_isPort_502 : decode cL_isPort 502 = .ok (.iconst 1, 1) := by decide +kernel
theorem dL_isPort_503 : decode cL_isPort 503 = .ok (.iload 11, 2) := by decide +kernel
theorem dL_isPort_505 : decode cL_isPort 505 = .ok (.isub, 1) := by decide +kernel
theorem dL_isPort_506 : decode cL_isPort 506 = .ok (.if_icmp .ne 7, 3) := by decide +kernel
theorem dL_isPort_509 : decode cL_isPort 509 = .ok (.iconst 1, 1) := by decide +kernel
theorem dL_isPort_510 : decode cL_isPort 510 = .ok (.goto 4, 3) := by decide +kernel
theorem dL_isPort_513 : decode cL_isPort 513 = .ok (.iconst 0, 1) := by decide +kernel
theorem dL_isPort_514 : decode cL_isPort 514 = .ok (.ireturn, 1) := by decide +kernel
theorem dL_isPort_515 : decode cL_isPort 515 = .ok (.iload 6, 2) := by decide +kernel
theorem dL_isPort_517 : decode cL_isPort 517 = .ok (.iconst 5, 1) := by decide +kernel
theorem dL_isPort_518 : decode cL_isPort 518 = .ok (.if_icmp .ne 90, 3) := by decide +kernel
theorem dL_isPort_521 : decode cL_isPort 521 = .ok (.iload 8, 2) := by decide +kernel
theorem dL_isPort_523 : decode cL_isPort 523 = .ok (.iconst 4, 1) := by decide +kernel
theorem dL_isPort_524 : decode cL_isPort 524 = .ok (.irem, 1) := by decide +kernel
theorem dL_isPort_525 : decode cL_isPort 525 = .ok (.istore 11, 2) := by decide +kernel
theorem dL_isPort_527 : decode cL_isPort 527 = .ok (.aload 5, 2) := by decide +kernel
theorem dL_isPort_529 : decode cL_isPort 529 = .ok (.iconst 3, 1) := by decide +kernel
theorem dL_isPort_530 : decode cL_isPort 530 = .ok (.iload 11, 2) := by decide +kernel
theorem dL_isPort_532 : decode cL_isPort 532 = .ok (.ifCond .le 13, 3) := by decide +kernel
theorem dL_isPort_535 : decode cL_isPort 535 = .ok (.iload 11, 2) := by decide +kernel
theorem dL_isPort_537 : decode cL_isPort 537 = .ok (.iconst 3, 1) := by decide +kernel
theorem dL_isPort_538 : decode cL_isPort 538 = .ok (.if_icmp .ge 7, 3) := by decide +kernel
theorem dL_isPort_541 : decode cL_isPort 541 = .ok (.iconst 0, 1) := by decide +kernel
theorem dL_isPort_542 : decode cL_isPort 542 = .ok (.goto 7, 3) := by decide +kernel
theorem dL_isPort_545 : decode cL_isPort 545 = .ok (.aload 5, 2) := by decide +kernel
theorem dL_isPort_547 : decode cL_isPort 547 = .ok (.iconst 3, 1) := by decide +kernel
theorem dL_isPort_548 : decode cL_isPort 548 = .ok (.iaload, 1) := by decide +kernel
theorem dL_isPort_549 : decode cL_isPort 549 = .ok (.iastore, 1) := by decide +kernel
theorem dL_isPort_550 : decode cL_isPort 550 = .ok (.aload_n 0, 1) := by decide +kernel
theorem dL_isPort_551 : decode cL_isPort 551 = .ok (.iconst 5, 1) := by decide +kernel
theorem dL_isPort_552 : decode cL_isPort 552 = .ok (.iload 9, 2) := by decide +kernel
theorem dL_isPort_554 : decode cL_isPort 554 = .ok (.iconst 5, 1) := by decide +kernel
theorem dL_isPort_555 : decode cL_isPort 555 = .ok (.idiv, 1) := by decide +kernel
theorem dL_isPort_556 : decode cL_isPort 556 = .ok (.iload 9, 2) := by decide +kernel
theorem dL_isPort_558 : decode cL_isPort 558 = .ok (.iconst 5, 1) := by decide +kernel
theorem dL_isPort_559 : decode cL_isPort 559 = .ok (.irem, 1) := by decide +kernel
theorem dL_isPort_560 : decode cL_isPort 560 = .ok (.iload 11, 2) := by decide +kernel
theorem dL_isPort_562 : decode cL_isPort 562 = .ok (.iconst 0, 1) := by decide +kernel
theorem dL_isPort_563 : decode cL_isPort 563 = .ok (.iconst 0, 1) := by decide +kernel
theorem dL_isPort_564 : decode cL_isPort 564 = .ok (.invokestatic 98, 3) := by decide +kernel
theorem dL_isPort_567 : decode cL_isPort 567 = .ok (.istore 12, 2) := by decide +kernel
theorem dL_isPort_569 : decode cL_isPort 569 = .ok (.iload 11, 2) := by decide +kernel
theorem dL_isPort_571 : decode cL_isPort 571 = .ok (.iconst 3, 1) := by decide +kernel
theorem dL_isPort_572 : decode cL_isPort 572 = .ok (.if_icmp .ne 19, 3) := by decide +kernel
theorem dL_isPort_575 : decode cL_isPort 575 = .ok (.iload 12, 2) := by decide +kernel
theorem dL_isPort_577 : decode cL_isPort 577 = .ok (.sipush (-2000), 3) := by decide +kernel
theorem dL_isPort_580 : decode cL_isPort 580 = .ok (.if_icmp .ne 7, 3) := by decide +kernel
theorem dL_isPort_583 : decode cL_isPort 583 = .ok (.iconst 1, 1) := by decide +kernel
theorem dL_isPort_584 : decode cL_isPort 584 = .ok (.goto 23, 3) := by decide +kernel
theorem dL_isPort_587 : decode cL_isPort 587 = .ok (.iconst 0, 1) := by decide +kernel
theorem dL_isPort_588 : decode cL_isPort 588 = .ok (.goto 19, 3) := by decide +kernel
theorem dL_isPort_591 : decode cL_isPort 591 = .ok (.iload 12, 2) := by decide +kernel
theorem dL_isPort_593 : decode cL_isPort 593 = .ok (.ifCond .lt 13, 3) := by decide +kernel
theorem dL_isPort_596 : decode cL_isPort 596 = .ok (.iload 12, 2) := by decide +kernel
theorem dL_isPort_598 : decode cL_isPort 598 = .ok (.iconst 3, 1) := by decide +kernel
theorem dL_isPort_599 : decode cL_isPort 599 = .ok (.if_icmp .ge 7, 3) := by decide +kernel
theorem dL_isPort_602 : decode cL_isPort 602 = .ok (.iconst 1, 1) := by decide +kernel
theorem dL_isPort_603 : decode cL_isPort 603 = .ok (.goto 4, 3) := by decide +kernel
theorem dL_isPort_606 : decode cL_isPort 606 = .ok (.iconst 0, 1) := by decide +kernel
theorem dL_isPort_607 : decode cL_isPort 607 = .ok (.ireturn, 1) := by decide +kernel
theorem dL_isPort_608 : decode cL_isPort 608 = .ok (.iload 6, 2) := by decide +kernel
theorem dL_isPort_610 : decode cL_isPort 610 = .ok (.bipush 6, 2) := by decide +kernel
theorem dL_isPort_612 : decode cL_isPort 612 = .ok (.if_icmp .ne 46, 3) := by decide +kernel
theorem dL_isPort_615 : decode cL_isPort 615 = .ok (.aload_n 0, 1) := by decide +kernel
theorem dL_isPort_616 : decode cL_isPort 616 = .ok (.bipush 6, 2) := by decide +kernel
theorem dL_isPort_618 : decode cL_isPort 618 = .ok (.iload 9, 2) := by decide +kernel
theorem dL_isPort_620 : decode cL_isPort 620 = .ok (.iconst 5, 1) := by decide +kernel
theorem dL_isPort_621 : decode cL_isPort 621 = .ok (.idiv, 1) := by decide +kernel
theorem dL_isPort_622 : decode cL_isPort 622 = .ok (.iload 9, 2) := by decide +kernel
theorem dL_isPort_624 : decode cL_isPort 624 = .ok (.iconst 5, 1) := by decide +kernel
theorem dL_isPort_625 : decode cL_isPort 625 = .ok (.irem, 1) := by decide +kernel
theorem dL_isPort_626 : decode cL_isPort 626 = .ok (.iload 8, 2) := by decide +kernel
theorem dL_isPort_628 : decode cL_isPort 628 = .ok (.iconst 4, 1) := by decide +kernel
theorem dL_isPort_629 : decode cL_isPort 629 = .ok (.irem, 1) := by decide +kernel
theorem dL_isPort_630 : decode cL_isPort 630 = .ok (.iconst 0, 1) := by decide +kernel
theorem dL_isPort_631 : decode cL_isPort 631 = .ok (.iconst 0, 1) := by decide +kernel
theorem dL_isPort_632 : decode cL_isPort 632 = .ok (.invokestatic 98, 3) := by decide +kernel
theorem dL_isPort_635 : decode cL_isPort 635 = .ok (.iload 8, 2) := by decide +kernel
theorem dL_isPort_637 : decode cL_isPort 637 = .ok (.iconst 4, 1) := by decide +kernel
theorem dL_isPort_638 : decode cL_isPort 638 = .ok (.irem, 1) := by decide +kernel
theorem dL_isPort_639 : decode cL_isPort 639 = .ok (.ifCond .ne 9, 3) := by decide +kernel
theorem dL_isPort_642 : decode cL_isPort 642 = .ok (.sipush (-3000), 3) := by decide +kernel
theorem dL_isPort_645 : decode cL_isPort 645 = .ok (.goto 4, 3) := by decide +kernel
theorem dL_isPort_648 : decode cL_isPort 648 = .ok (.iconst 0, 1) := by decide +kernel
theorem dL_isPort_649 : decode cL_isPort 649 = .ok (.if_icmp .ne 7, 3) := by decide +kernel
theorem dL_isPort_652 : decode cL_isPort 652 = .ok (.iconst 1, 1) := by decide +kernel
theorem dL_isPort_653 : decode cL_isPort 653 = .ok (.goto 4, 3) := by decide +kernel
theorem dL_isPort_656 : decode cL_isPort 656 = .ok (.iconst 0, 1) := by decide +kernel
theorem dL_isPort_657 : decode cL_isPort 657 = .ok (.ireturn, 1) := by decide +kernel
theorem dL_isPort_658 : decode cL_isPort 658 = .ok (.aload_n 0, 1) := by decide +kernel
theorem dL_isPort_659 : decode cL_isPort 659 = .ok (.bipush 7, 2) := by decide +kernel
theorem dL_isPort_661 : decode cL_isPort 661 = .ok (.iload 9, 2) := by decide +kernel
theorem dL_isPort_663 : decode cL_isPort 663 = .ok (.iconst 5, 1) := by decide +kernel
theorem dL_isPort_664 : decode cL_isPort 664 = .ok (.idiv, 1) := by decide +kernel
theorem dL_isPort_665 : decode cL_isPort 665 = .ok (.iload 9, 2) := by decide +kernel
theorem dL_isPort_667 : decode cL_isPort 667 = .ok (.iconst 5, 1) := by decide +kernel
theorem dL_isPort_668 : decode cL_isPort 668 = .ok (.irem, 1) := by decide +kernel
theorem dL_isPort_669 : decode cL_isPort 669 = .ok (.iload 8, 2) := by decide +kernel
theorem dL_isPort_671 : decode cL_isPort 671 = .ok (.bipush 9, 2) := by decide +kernel
theorem dL_isPort_673 : decode cL_isPort 673 = .ok (.irem, 1) := by decide +kernel
theorem dL_isPort_674 : decode cL_isPort 674 = .ok (.iload 8, 2) := by decide +kernel
theorem dL_isPort_676 : decode cL_isPort 676 = .ok (.bipush 9, 2) := by decide +kernel
theorem dL_isPort_678 : decode cL_isPort 678 = .ok (.idiv, 1) := by decide +kernel
theorem dL_isPort_679 : decode cL_isPort 679 = .ok (.iconst 4, 1) := by decide +kernel
theorem dL_isPort_680 : decode cL_isPort 680 = .ok (.irem, 1) := by decide +kernel
theorem dL_isPort_681 : decode cL_isPort 681 = .ok (.iconst 0, 1) := by decide +kernel
theorem dL_isPort_682 : decode cL_isPort 682 = .ok (.invokestatic 98, 3) := by decide +kernel
theorem dL_isPort_685 : decode cL_isPort 685 = .ok (.iload 8, 2) := by decide +kernel
theorem dL_isPort_687 : decode cL_isPort 687 = .ok (.bipush 9, 2) := by decide +kernel
theorem dL_isPort_689 : decode cL_isPort 689 = .ok (.idiv, 1) := by decide +kernel
theorem dL_isPort_690 : decode cL_isPort 690 = .ok (.iconst 4, 1) := by decide +kernel
theorem dL_isPort_691 : decode cL_isPort 691 = .ok (.irem, 1) := by decide +kernel
theorem dL_isPort_692 : decode cL_isPort 692 = .ok (.ifCond .ne 9, 3) := by decide +kernel
theorem dL_isPort_695 : decode cL_isPort 695 = .ok (.sipush (-3000), 3) := by decide +kernel
theorem dL_isPort_698 : decode cL_isPort 698 = .ok (.goto 28, 3) := by decide +kernel
theorem dL_isPort_701 : decode cL_isPort 701 = .ok (.iload 8, 2) := by decide +kernel
theorem dL_isPort_703 : decode cL_isPort 703 = .ok (.bipush 9, 2) := by decide +kernel
theorem dL_isPort_705 : decode cL_isPort 705 = .ok (.irem, 1) := by decide +kernel
theorem dL_isPort_706 : decode cL_isPort 706 = .ok (.ifCond .eq 13, 3) := by decide +kernel
theorem dL_isPort_709 : decode cL_isPort 709 = .ok (.iload 8, 2) := by decide +kernel
theorem dL_isPort_711 : decode cL_isPort 711 = .ok (.bipush 9, 2) := by decide +kernel
theorem dL_isPort_713 : decode cL_isPort 713 = .ok (.irem, 1) := by decide +kernel
theorem dL_isPort_714 : decode cL_isPort 714 = .ok (.bipush 8, 2) := by decide +kernel
theorem dL_isPort_716 : decode cL_isPort 716 = .ok (.if_icmp .ne 9, 3) := by decide +kernel
theorem dL_isPort_719 : decode cL_isPort 719 = .ok (.sipush (-2000), 3) := by decide +kernel
theorem dL_isPort_722 : decode cL_isPort 722 = .ok (.goto 4, 3) := by decide +kernel
theorem dL_isPort_725 : decode cL_isPort 725 = .ok (.iconst 0, 1) := by decide +kernel
theorem dL_isPort_726 : decode cL_isPort 726 = .ok (.if_icmp .ne 7, 3) := by decide +kernel
theorem dL_isPort_729 : decode cL_isPort 729 = .ok (.iconst 1, 1) := by decide +kernel
theorem dL_isPort_730 : decode cL_isPort 730 = .ok (.goto 4, 3) := by decide +kernel
theorem dL_isPort_733 : decode cL_isPort 733 = .ok (.iconst 0, 1) := by decide +kernel
theorem dL_isPort_734 : decode cL_isPort 734 = .ok (.ireturn, 1) := by decide +kernel
set_option maxRecDepth 20000 in
theorem gL_isSent_L_does : GoodIn wsL_isSent (va_wsS RL 98 yL_does wsL_does) := goodIn_app (goodIn_of _ (by decide +kernel)) ggL_isSent_L_does
theorem dL_isSent_0 : decode cL_isSent 0 = .ok (.iload 4, 2) := by decide +kernel
theorem dL_isSent_2 : decode cL_isSent 2 = .ok (.bipush 10, 2) := by decide +kernel
theorem dL_isSent_4 : decode cL_isSent 4 = .ok (.irem, 1) := by decide +kernel
theorem dL_isSent_5 : decode cL_isSent 5 = .ok (.istore 6, 2) := by decide +kernel
theorem dL_isSent_7 : decode cL_isSent 7 = .ok (.iload 4, 2) := by decide +kernel
theorem dL_isSent_9 : decode cL_isSent 9 = .ok (.bipush 10, 2) := by decide +kernel
theorem dL_isSent_11 : decode cL_isSent 11 = .ok (.idiv, 1) := by decide +kernel
theorem dL_isSent_12 : decode cL_isSent 12 = .ok (.bipush 12, 2) := by decide +kernel
theorem dL_isSent_14 : decode cL_isSent 14 = .ok (.irem, 1) := by decide +kernel
theorem dL_isSent_15 : decode cL_isSent 15 = .ok (.istore 7, 2) := by decide +kernel
theorem dL_isSent_17 : decode cL_isSent 17 = .ok (.iload 5, 2) := by decide +kernel
theorem dL_isSent_19 : decode cL_isSent 19 = .ok (.iconst 5, 1) := by decide +kernel
theorem dL_isSent_20 : decode cL_isSent 20 = .ok (.irem, 1) := by decide +kernel
theorem dL_isSent_21 : decode cL_isSent 21 = .ok (.ifCond .ne 12, 3) := by decide +kernel
theorem dL_isSent_24 : decode cL_isSent 24 = .ok (.iload 5, 2) := by decide +kernel
theorem dL_isSent_26 : decode cL_isSent 26 = .ok (.iconst 5, 1) := by decide +kernel
theorem dL_isSent_27 : decode cL_isSent 27 = .ok (.idiv, 1) := by decide +kernel
theorem dL_isSent_28 : decode cL_isSent 28 = .ok (.iconst 5, 1) := by decide +kernel
theorem dL_isSent_29 : decode cL_isSent 29 = .ok (.irem, 1) := by decide +kernel
theorem dL_isSent_30 : decode cL_isSent 30 = .ok (.goto 4, 3) := by decide +kernel
theorem dL_isSent_33 : decode cL_isSent 33 = .ok (.iconst 0, 1) := by decide +kernel
theorem dL_isSent_34 : decode cL_isSent 34 = .ok (.istore 8, 2) := by decide +kernel
theorem dL_isSent_36 : decode cL_isSent 36 = .ok (.iload 5, 2) := by decide +kernel
theorem dL_isSent_38 : decode cL_isSent 38 = .ok (.bipush 25, 2) := by decide +kernel
theorem dL_isSent_40 : decode cL_isSent 40 = .ok (.idiv, 1) := by decide +kernel
theorem dL_isSent_41 : decode cL_isSent 41 = .ok (.iconst 4, 1) := by decide +kernel
theorem dL_isSent_42 : decode cL_isSent 42 = .ok (.irem, 1) := by decide +kernel
theorem dL_isSent_43 : decode cL_isSent 43 = .ok (.ifCond .ne 13, 3) := by decide +kernel
theorem dL_isSent_46 : decode cL_isSent 46 = .ok (.iload 5, 2) := by decide +kernel
theorem dL_isSent_48 : decode cL_isSent 48 = .ok (.bipush 100, 2) := by decide +kernel
theorem dL_isSent_50 : decode cL_isSent 50 = .ok (.idiv, 1) := by decide +kernel
theorem dL_isSent_51 : decode cL_isSent 51 = .ok (.iconst 4, 1) := by decide +kernel
theorem dL_isSent_52 : decode cL_isSent 52 = .ok (.irem, 1) := by decide +kernel
theorem dL_isSent_53 : decode cL_isSent 53 = .ok (.goto 4, 3) := by decide +kernel
theorem dL_isSent_56 : decode cL_isSent 56 = .ok (.iconst 0, 1) := by decide +kernel
theorem dL_isSent_57 : decode cL_isSent 57 = .ok (.istore 9, 2) := by decide +kernel
theorem dL_isSent_59 : decode cL_isSent 59 = .ok (.aload_n 0, 1) := by decide +kernel
theorem dL_isSent_60 : decode cL_isSent 60 = .ok (.bipush 10, 2) := by decide +kernel
theorem dL_isSent_62 : decode cL_isSent 62 = .ok (.iload 6, 2) := by decide +kernel
theorem dL_isSent_64 : decode cL_isSent 64 = .ok (.iload 7, 2) := by decide +kernel
theorem dL_isSent_66 : decode cL_isSent 66 = .ok (.iload 8, 2) := by decide +kernel
theorem dL_isSent_68 : decode cL_isSent 68 = .ok (.iload 9, 2) := by decide +kernel
theorem dL_isSent_70 : decode cL_isSent 70 = .ok (.iconst 0, 1) := by decide +kernel
theorem dL_isSent_71 : decode cL_isSent 71 = .ok (.invokestatic 98, 3) := by decide +kernel
theorem dL_isSent_74 : decode cL_isSent 74 = .ok (.istore 10, 2) := by decide +kernel
theorem dL_isSent_76 : decode cL_isSent 76 = .ok (.iload 7, 2) := by decide +kernel
theorem dL_isSent_78 : decode cL_isSent 78 = .ok (.bipush 11, 2) := by decide +kernel
theorem dL_isSent_80 : decode cL_isSent 80 = .ok (.if_icmp .ne 9, 3) := by decide +kernel
theorem dL_isSent_83 : decode cL_isSent 83 = .ok (.sipush (-3000), 3) := by decide +kernel
theorem dL_isSent_86 : decode cL_isSent 86 = .ok (.goto 46, 3) := by decide +kernel
theorem dL_isSent_89 : decode cL_isSent 89 = .ok (.iload 6, 2) := by decide +kernel
theorem dL_isSent_91 : decode cL_isSent 91 = .ok (.iload 7, 2) := by decide +kernel
theorem dL_isSent_93 : decode cL_isSent 93 = .ok (.if_icmp .eq 19, 3) := by decide +kernel
theorem dL_isSent_96 : decode cL_isSent 96 = .ok (.iload 8, 2) := by decide +kernel
theorem dL_isSent_98 : decode cL_isSent 98 = .ok (.iconst 4, 1) := by decide +kernel
theorem dL_isSent_99 : decode cL_isSent 99 = .ok (.if_icmp .eq 13, 3) := by decide +kernel
theorem dL_isSent_102 : decode cL_isSent 102 = .ok (.iload 8, 2) := by decide +kernel
theorem dL_isSent_104 : decode cL_isSent 104 = .ok (.ifCond .ne 14, 3) := by decide +kernel
theorem dL_isSent_107 : decode cL_isSent 107 = .ok (.iload 9, 2) := by decide +kernel
theorem dL_isSent_109 : decode cL_isSent 109 = .ok (.ifCond .le 9, 3) := by decide +kernel
theorem dL_isSent_112 : decode cL_isSent 112 = .ok (.sipush (-2000), 3) := by decide +kernel
theorem dL_isSent_115 : decode cL_isSent 115 = .ok (.goto 17, 3) := by decide +kernel
theorem dL_isSent_118 : decode cL_isSent 118 = .ok (.aload_n 2, 1) := by decide +kernel
theorem dL_isSent_119 : decode cL_isSent 119 = .ok (.iload 6, 2) := by decide +kernel
theorem dL_isSent_121 : decode cL_isSent 121 = .ok (.iaload, 1) := by decide +kernel
theorem dL_isSent_122 : decode cL_isSent 122 = .ok (.ifCond .ge 9, 3) := by decide +kernel
theorem dL_isSent_125 : decode cL_isSent 125 = .ok (.sipush (-1000), 3) := by decide +kernel
theorem dL_isSent_128 : decode cL_isSent 128 = .ok (.goto 4, 3) := by decide +kernel
theorem dL_isSent_131 : decode cL_isSent 131 = .ok (.iconst 0, 1) := by decide +kernel
theorem dL_isSent_132 : decode cL_isSent 132 = .ok (.istore 11, 2) := by decide +kernel
theorem dL_isSent_134 : decode cL_isSent 134 = .ok (.iload 11, 2) := by decide +kernel
theorem dL_isSent_136 : decode cL_isSent 136 = .ok (.ifCond .ge 16, 3) := by decide +kernel
theorem dL_isSent_139 : decode cL_isSent 139 = .ok (.iload 10, 2) := by decide +kernel
theorem dL_isSent_141 : decode cL_isSent 141 = .ok (.iload 11, 2) := by decide +kernel
theorem dL_isSent_143 : decode cL_isSent 143 = .ok (.if_icmp .ne 7, 3) := by decide +kernel
theorem dL_isSent_146 : decode cL_isSent 146 = .ok (.iconst 1, 1) := by decide +kernel
theorem dL_isSent_147 : decode cL_isSent 147 = .ok (.goto 4, 3) := by decide +kernel
theorem dL_isSent_150 : decode cL_isSent 150 = .ok (.iconst 0, 1) := by decide +kernel
theorem dL_isSent_151 : decode cL_isSent 151 = .ok (.ireturn, 1) := by decide +kernel
theorem dL_isSent_152 : decode cL_isSent 152 = .ok (.aload_n 3, 1) := by decide +kernel
theorem dL_isSent_153 : decode cL_isSent 153 = .ok (.iconst 4, 1) := by decide +kernel
theorem dL_isSent_154 : decode cL_isSent 154 = .ok (.dup2, 1) := by decide +kernel
theorem dL_isSent_155 : decode cL_isSent 155 = .ok (.iaload, 1) := by decide +kernel
theorem dL_isSent_156 : decode cL_isSent 156 = .ok (.iload 10, 2) := by decide +kernel
theorem dL_isSent_158 : decode cL_isSent 158 = .ok (.iadd, 1) := by decide +kernel
theorem dL_isSent_159 : decode cL_isSent 159 = .ok (.iastore, 1) := by decide +kernel
theorem dL_isSent_160 : decode cL_isSent 160 = .ok (.aload_n 0, 1) := by decide +kernel
theorem dL_isSent_161 : decode cL_isSent 161 = .ok (.bipush 16, 2) := by decide +kernel
theorem dL_isSent_163 : decode cL_isSent 163 = .ok (.iload 6, 2) := by decide +kernel
theorem dL_isSent_165 : decode cL_isSent 165 = .ok (.iload 7, 2) := by decide +kernel
theorem dL_isSent_167 : decode cL_isSent 167 = .ok (.bipush 10, 2) := by decide +kernel
theorem dL_isSent_169 : decode cL_isSent 169 = .ok (.if_icmp .ne 7, 3) := by decide +kernel
theorem dL_isSent_172 : decode cL_isSent 172 = .ok (.iconst 0, 1) := by decide +kernel
theorem dL_isSent_173 : decode cL_isSent 173 = .ok (.goto 5, 3) := by decide +kernel
theorem dL_isSent_176 : decode cL_isSent 176 = .ok (.iload 7, 2) := by decide +kernel
theorem dL_isSent_178 : decode cL_isSent 178 = .ok (.iconst 0, 1) := by decide +kernel
theorem dL_isSent_179 : decode cL_isSent 179 = .ok (.iconst 0, 1) := by decide +kernel
theorem dL_isSent_180 : decode cL_isSent 180 = .ok (.iconst 0, 1) := by decide +kernel
theorem dL_isSent_181 : decode cL_isSent 181 = .ok (.invokestatic 98, 3) := by decide +kernel
theorem dL_isSent_184 : decode cL_isSent 184 = .ok (.istore 12, 2) := by decide +kernel
theorem dL_isSent_186 : decode cL_isSent 186 = .ok (.iload 10, 2) := by decide +kernel
theorem dL_isSent_188 : decode cL_isSent 188 = .ok (.ifCond .lt 51, 3) := by decide +kernel
theorem dL_isSent_191 : decode cL_isSent 191 = .ok (.iload 10, 2) := by decide +kernel
theorem dL_isSent_193 : decode cL_isSent 193 = .ok (.sipush 2000, 3) := by decide +kernel
theorem dL_isSent_196 : decode cL_isSent 196 = .ok (.if_icmp .ge 43, 3) := by decide +kernel
theorem dL_isSent_199 : decode cL_isSent 199 = .ok (.iload 7, 2) := by decide +kernel
theorem dL_isSent_201 : decode cL_isSent 201 = .ok (.bipush 10, 2) := by decide +kernel
theorem dL_isSent_203 : decode cL_isSent 203 = .ok (.if_icmp .eq 32, 3) := by decide +kernel
theorem dL_isSent_206 : decode cL_isSent 206 = .ok (.iload 12, 2) := by decide +kernel
theorem dL_isSent_208 : decode cL_isSent 208 = .ok (.sipush (-1000), 3) := by decide +kernel
theorem dL_isSent_211 : decode cL_isSent 211 = .ok (.if_icmp .eq 24, 3) := by decide +kernel
theorem dL_isSent_214 : decode cL_isSent 214 = .ok (.iload 12, 2) := by decide +kernel
theorem dL_isSent_216 : decode cL_isSent 216 = .ok (.sipush (-2000), 3) := by decide +kernel
theorem dL_isSent_219 : decode cL_isSent 219 = .ok (.if_icmp .eq 16, 3) := by decide +kernel
theorem dL_isSent_222 : decode cL_isSent 222 = .ok (.iload 12, 2) := by decide +kernel
theorem dL_isSent_224 : decode cL_isSent 224 = .ok (.iconst (-1), 1) := by decide +kernel
theorem dL_isSent_225 : decode cL_isSent 225 = .ok (.if_icmp .lt 14, 3) := by decide +kernel
theorem dL_isSent_228 : decode cL_isSent 228 = .ok (.iload 12, 2) := by decide +kernel
theorem dL_isSent_230 : decode cL_isSent 230 = .ok (.bipush 13, 2) := by decide +kernel
theorem dL_isSent_232 : decode cL_isSent 232 = .ok (.if_icmp .ge 7, 3) := by decide +kernel
theorem dL_isSent_235 : decode cL_isSent 235 = .ok (.iconst 1, 1) := by decide +kernel
theorem dL_isSent_236 : decode cL_isSent 236 = .ok (.goto 4, 3) := by decide +kernel
theorem dL_isSent_239 : decode cL_isSent 239 = .ok (.iconst 0, 1) := by decide +kernel
theorem dL_isSent_240 : decode cL_isSent 240 = .ok (.ireturn, 1) := by decide +kernel
set_option maxRecDepth 20000 in
theorem ggL_law_X5_init : GoodIn wsL_law wsX5_init := goodIn_r _ [8, 9, 10, 11, 12, 13, 14, 15, 16, 17, 18, 19, 20, 21, 22, 23, 24, 25, 26, 27, 28, 29, 30, 31, 32, 3, 33, 34, 35, 36, 37, 38, 39, 40, 41, 42, 43, 44, 45, 46, 47, 48, 49, 50, 51, 52, 53, 54, 55, 56, 57, 58, 59, 60, 61, 62, 63, 64, 65, 66, 67, 68, 69, 70, 71, 72, 73, 74, 75, 76, 77, 78, 79, 80, 81, 82, 83, 84, 85, 86, 477, 478, 479, 480, 481, 482, 483, 484, 467, 468, 469, 470, 471, 472, 473, 474, 475, 476, 485, 486, 487, 488, 489, 490, 491, 492, 493, 494, 495, 496, 497, 498, 499, 500, 501, 502, 503, 504, 505, 506, 507, 508, 509, 510] (by decide +kernel) (by decide +kernel)
set_option maxRecDepth 20000 in
theorem gL_law_X5_init : GoodIn wsL_law (wsX5_init) := ggL_law_X5_init
set_option maxRecDepth 20000 in
theorem ggL_law_X5_isAtRest : GoodIn wsL_law wsX5_isAtRest := goodIn_r _ [90, 20, 19, 91, 92, 93, 18, 94, 51, 52, 53, 54, 55, 57, 58, 59, 95, 96, 97, 98, 99, 64, 100, 101, 102, 103, 60, 66, 104, 61, 62, 105, 106, 107, 108, 109, 110, 111, 112, 113, 114, 115, 116, 63, 117, 118, 119, 120, 121, 122, 123, 124, 125, 126, 127, 128, 129, 130, 2, 131, 132, 133, 134, 135, 136, 137, 138, 139, 140, 141, 142, 143, 14, 144, 46, 145, 146, 147, 148, 149, 150, 151, 152, 153, 154, 155, 156, 157, 158, 159, 160, 161, 162, 163, 164, 165, 166, 167, 168, 169, 170, 171, 172, 173, 174, 175, 176, 177, 178, 179, 180, 181, 182, 183, 184, 185, 467, 468, 469, 470, 471, 472, 473, 474, 475, 476, 485, 486, 487, 488, 489, 490, 491, 492, 493, 494, 495, 496, 497, 498, 499, 500, 477, 478, 479, 480, 481, 482, 483, 484] (by decide +kernel) (by decide +kernel)
set_option maxRecDepth 20000 in
theorem gL_law_X5_isAtRest : GoodIn wsL_law (wsV RL 103 RX5 yX5_isAtRest wsX5_isAtRest) := goodIn_app (goodIn_of _ (by decide +kernel)) ggL_law_X5_isAtRest
set_option maxRecDepth 20000 in
theorem ggL_law_L_does : GoodIn wsL_law wsL_does := fun w h => ⟨(ggL_law_L_isPort w (ggL_isPort_L_does w h).1).1, (ggL_isPort_L_does w h).2⟩
set_option maxRecDepth 20000 in
theorem gL_law_L_does : GoodIn wsL_law (va_wsS RL 98 yL_does wsL_does) := goodIn_app (goodIn_of _ (by decide +kernel)) ggL_law_L_does
set_option maxRecDepth 20000 in
theorem ggL_law_L_part : GoodIn wsL_law wsL_part := goodIn_r _ [443, 444] (by decide +kernel) (by decide +kernel)
set_option maxRecDepth 20000 in
theorem gL_law_L_part : GoodIn wsL_law (va_wsS RL 107 yL_part wsL_part) := goodIn_app (goodIn_of _ (by decide +kernel)) ggL_law_L_part
set_option maxRecDepth 20000 in
theorem gL_law_L_isPort : GoodIn wsL_law (va_wsS RL 113 yL_isPort wsL_isPort) := goodIn_app (goodIn_of _ (by decide +kernel)) ggL_law_L_isPort
set_option maxRecDepth 20000 in
theorem ggL_law_X5_limit : GoodIn wsL_law wsX5_limit := goodIn_ca (goodIn_r _ [312, 36, 210, 211, 2, 212, 197, 198, 467, 468, 469, 470, 471, 472, 473, 474, 475, 476] (by decide +kernel) (by decide +kernel)) (goodIn_sub (fun _ h => List.mem_append_left _ (List.mem_append_left _ (List.mem_append_right _ h))) (by decide +kernel))
set_option maxRecDepth 20000 in
theorem gL_law_X5_limit : GoodIn wsL_law (wsV RL 42 RX5 yX5_limit wsX5_limit) := goodIn_app (goodIn_of _ (by decide +kernel)) ggL_law_X5_limit
set_option maxRecDepth 20000 in
theorem gL_law_L_isSent : GoodIn wsL_law (va_wsS RL 117 yL_isSent wsL_isSent) := goodIn_app (goodIn_of _ (by decide +kernel)) ggL_law_L_isSent
set_option maxRecDepth 20000 in
theorem ggL_law_X5_beat : GoodIn wsL_law wsX5_beat := goodIn_ca (goodIn_r _ [316, 19, 317, 210, 211, 2, 212, 197, 198, 318, 319, 320, 321, 33, 322, 28, 323, 96, 97, 98, 18, 99, 95, 64, 100, 101, 102, 103, 60, 66, 104, 51, 61, 52, 62, 53, 105, 106, 107, 108, 109, 110, 111, 112, 55, 113, 114, 115, 116, 63, 117, 118, 119, 120, 121, 122, 123, 124, 125, 57, 58, 59, 126, 127, 128, 129, 54, 130, 131, 132, 133, 134, 135, 136, 137, 138, 139, 140, 141, 142, 143, 14, 144, 46, 145, 146, 147, 148, 149, 150, 151, 152, 153, 154, 155, 156, 157, 158, 159, 160, 161, 162, 163, 164, 165, 166, 167, 168, 169, 170, 171, 172, 173, 174, 175, 176, 177, 233, 234, 235, 27, 236, 77, 237, 238, 239, 240, 79, 324, 325, 326, 327, 328, 329, 330, 331, 78, 467, 468, 469, 470, 471, 472, 473, 474, 475, 476, 485, 486, 487, 488, 489, 490, 491, 492, 493, 494, 495, 496, 497, 498, 499, 500, 477, 478, 479, 480, 481, 482, 483, 484, 503, 504, 505] (by decide +kernel) (by decide +kernel)) (goodIn_sub (fun _ h => List.mem_append_left _ (List.mem_append_left _ (List.mem_append_right _ h))) (by decide +kernel))
set_option maxRecDepth 20000 in
theorem gL_law_X5_beat : GoodIn wsL_law (wsV RL 46 RX5 yX5_beat wsX5_beat) := goodIn_app (goodIn_of _ (by decide +kernel)) ggL_law_X5_beat
set_option maxRecDepth 20000 in
theorem gL_law_L_areAll : GoodIn wsL_law (va_wsS RL 121 yL_areAll wsL_areAll) := goodIn_app (goodIn_of _ (by decide +kernel)) ggL_law_L_areAll
set_option maxRecDepth 20000 in
theorem gL_law_L_isTree : GoodIn wsL_law (va_wsS RL 125 yL_isTree wsL_isTree) := goodIn_app (goodIn_of _ (by decide +kernel)) ggL_law_L_isTree
theorem dL_law_0 : decode cL_law 0 = .ok (.new 9, 3) := by decide +kernel
theorem dL_law_3 : decode cL_law 3 = .ok (.dup, 1) := by decide +kernel
theorem dL_law_4 : decode cL_law 4 = .ok (.invokespecial 102, 3) := by decide +kernel
theorem dL_law_7 : decode cL_law 7 = .ok (.astore_n 1, 1) := by decide +kernel
theorem dL_law_8 : decode cL_law 8 = .ok (.bipush 30, 2) := by decide +kernel
theorem dL_law_10 : decode cL_law 10 = .ok (.newarray .int, 2) := by decide +kernel
theorem dL_law_12 : decode cL_law 12 = .ok (.astore_n 2, 1) := by decide +kernel
theorem dL_law_13 : decode cL_law 13 = .ok (.bipush 30, 2) := by decide +kernel
theorem dL_law_15 : decode cL_law 15 = .ok (.newarray .int, 2) := by decide +kernel
theorem dL_law_17 : decode cL_law 17 = .ok (.astore_n 3, 1) := by decide +kernel
theorem dL_law_18 : decode cL_law 18 = .ok (.bipush 10, 2) := by decide +kernel
theorem dL_law_20 : decode cL_law 20 = .ok (.newarray .int, 2) := by decide +kernel
theorem dL_law_22 : decode cL_law 22 = .ok (.astore 4, 2) := by decide +kernel
theorem dL_law_24 : decode cL_law 24 = .ok (.bipush 6, 2) := by decide +kernel
theorem dL_law_26 : decode cL_law 26 = .ok (.newarray .int, 2) := by decide +kernel
theorem dL_law_28 : decode cL_law 28 = .ok (.astore 5, 2) := by decide +kernel
theorem dL_law_30 : decode cL_law 30 = .ok (.bipush 6, 2) := by decide +kernel
theorem dL_law_32 : decode cL_law 32 = .ok (.newarray .int, 2) := by decide +kernel
theorem dL_law_34 : decode cL_law 34 = .ok (.astore 6, 2) := by decide +kernel
theorem dL_law_36 : decode cL_law 36 = .ok (.iconst 0, 1) := by decide +kernel
theorem dL_law_37 : decode cL_law 37 = .ok (.istore 7, 2) := by decide +kernel
theorem dL_law_39 : decode cL_law 39 = .ok (.iload 7, 2) := by decide +kernel
theorem dL_law_41 : decode cL_law 41 = .ok (.bipush 30, 2) := by decide +kernel
theorem dL_law_43 : decode cL_law 43 = .ok (.if_icmp .ge 14, 3) := by decide +kernel
theorem dL_law_46 : decode cL_law 46 = .ok (.aload_n 2, 1) := by decide +kernel
theorem dL_law_47 : decode cL_law 47 = .ok (.iload 7, 2) := by decide +kernel
theorem dL_law_49 : decode cL_law 49 = .ok (.iconst (-1), 1) := by decide +kernel
theorem dL_law_50 : decode cL_law 50 = .ok (.iastore, 1) := by decide +kernel
theorem dL_law_51 : decode cL_law 51 = .ok (.iinc 7 1, 3) := by decide +kernel
theorem dL_law_54 : decode cL_law 54 = .ok (.goto (-15), 3) := by decide +kernel
theorem dL_law_57 : decode cL_law 57 = .ok (.iconst 0, 1) := by decide +kernel
theorem dL_law_58 : decode cL_law 58 = .ok (.istore 7, 2) := by decide +kernel
theorem dL_law_60 : decode cL_law 60 = .ok (.iload 7, 2) := by decide +kernel
theorem dL_law_62 : decode cL_law 62 = .ok (.bipush 10, 2) := by decide +kernel
theorem dL_law_64 : decode cL_law 64 = .ok (.if_icmp .ge 15, 3) := by decide +kernel
theorem dL_law_67 : decode cL_law 67 = .ok (.aload 4, 2) := by decide +kernel
theorem dL_law_69 : decode cL_law 69 = .ok (.iload 7, 2) := by decide +kernel
theorem dL_law_71 : decode cL_law 71 = .ok (.iconst (-1), 1) := by decide +kernel
theorem dL_law_72 : decode cL_law 72 = .ok (.iastore, 1) := by decide +kernel
theorem dL_law_73 : decode cL_law 73 = .ok (.iinc 7 1, 3) := by decide +kernel
theorem dL_law_76 : decode cL_law 76 = .ok (.goto (-16), 3) := by decide +kernel
theorem dL_law_79 : decode cL_law 79 = .ok (.iconst 0, 1) := by decide +kernel
theorem dL_law_80 : decode cL_law 80 = .ok (.istore 7, 2) := by decide +kernel
theorem dL_law_82 : decode cL_law 82 = .ok (.iload 7, 2) := by decide +kernel
theorem dL_law_84 : decode cL_law 84 = .ok (.bipush 6, 2) := by decide +kernel
theorem dL_law_86 : decode cL_law 86 = .ok (.if_icmp .ge 16, 3) := by decide +kernel
theorem dL_law_89 : decode cL_law 89 = .ok (.aload 5, 2) := by decide +kernel
theorem dL_law_91 : decode cL_law 91 = .ok (.iload 7, 2) := by decide +kernel
theorem dL_law_93 : decode cL_law 93 = .ok (.bipush 8, 2) := by decide +kernel
theorem dL_law_95 : decode cL_law 95 = .ok (.iastore, 1) := by decide +kernel
theorem dL_law_96 : decode cL_law 96 = .ok (.iinc 7 1, 3) := by decide +kernel
theorem dL_law_99 : decode cL_law 99 = .ok (.goto (-17), 3) := by decide +kernel
theorem dL_law_102 : decode cL_law 102 = .ok (.aload 6, 2) := by decide +kernel
theorem dL_law_104 : decode cL_law 104 = .ok (.iconst 3, 1) := by decide +kernel
theorem dL_law_105 : decode cL_law 105 = .ok (.iconst 1, 1) := by decide +kernel
theorem dL_law_106 : decode cL_law 106 = .ok (.iastore, 1) := by decide +kernel
theorem dL_law_107 : decode cL_law 107 = .ok (.aload 6, 2) := by decide +kernel
theorem dL_law_109 : decode cL_law 109 = .ok (.iconst 5, 1) := by decide +kernel
theorem dL_law_110 : decode cL_law 110 = .ok (.bipush 20, 2) := by decide +kernel
theorem dL_law_112 : decode cL_law 112 = .ok (.iastore, 1) := by decide +kernel
theorem dL_law_113 : decode cL_law 113 = .ok (.aload_n 1, 1) := by decide +kernel
theorem dL_law_114 : decode cL_law 114 = .ok (.invokevirtual 103, 3) := by decide +kernel
theorem dL_law_117 : decode cL_law 117 = .ok (.ifCond .eq 145, 3) := by decide +kernel
theorem dL_law_120 : decode cL_law 120 = .ok (.aload_n 1, 1) := by decide +kernel
theorem dL_law_121 : decode cL_law 121 = .ok (.bipush 11, 2) := by decide +kernel
theorem dL_law_123 : decode cL_law 123 = .ok (.bipush 6, 2) := by decide +kernel
theorem dL_law_125 : decode cL_law 125 = .ok (.iconst 0, 1) := by decide +kernel
theorem dL_law_126 : decode cL_law 126 = .ok (.iconst 0, 1) := by decide +kernel
theorem dL_law_127 : decode cL_law 127 = .ok (.iconst 0, 1) := by decide +kernel
theorem dL_law_128 : decode cL_law 128 = .ok (.iconst 0, 1) := by decide +kernel
theorem dL_law_129 : decode cL_law 129 = .ok (.invokestatic 98, 3) := by decide +kernel
theorem dL_law_132 : decode cL_law 132 = .ok (.sipush (-3000), 3) := by decide +kernel
theorem dL_law_135 : decode cL_law 135 = .ok (.if_icmp .ne 127, 3) := by decide +kernel
theorem dL_law_138 : decode cL_law 138 = .ok (.aload_n 1, 1) := by decide +kernel
theorem dL_law_139 : decode cL_law 139 = .ok (.bipush 11, 2) := by decide +kernel
theorem dL_law_141 : decode cL_law 141 = .ok (.iconst 0, 1) := by decide +kernel
theorem dL_law_142 : decode cL_law 142 = .ok (.iconst 5, 1) := by decide +kernel
theorem dL_law_143 : decode cL_law 143 = .ok (.iconst 0, 1) := by decide +kernel
theorem dL_law_144 : decode cL_law 144 = .ok (.iconst 0, 1) := by decide +kernel
theorem dL_law_145 : decode cL_law 145 = .ok (.iconst 0, 1) := by decide +kernel
theorem dL_law_146 : decode cL_law 146 = .ok (.invokestatic 98, 3) := by decide +kernel
theorem dL_law_149 : decode cL_law 149 = .ok (.sipush (-2000), 3) := by decide +kernel
theorem dL_law_152 : decode cL_law 152 = .ok (.if_icmp .ne 110, 3) := by decide +kernel
theorem dL_law_155 : decode cL_law 155 = .ok (.aload_n 1, 1) := by decide +kernel
theorem dL_law_156 : decode cL_law 156 = .ok (.bipush 12, 2) := by decide +kernel
theorem dL_law_158 : decode cL_law 158 = .ok (.iconst 0, 1) := by decide +kernel
theorem dL_law_159 : decode cL_law 159 = .ok (.iconst 5, 1) := by decide +kernel
theorem dL_law_160 : decode cL_law 160 = .ok (.iconst 0, 1) := by decide +kernel
theorem dL_law_161 : decode cL_law 161 = .ok (.iconst 0, 1) := by decide +kernel
theorem dL_law_162 : decode cL_law 162 = .ok (.iconst 0, 1) := by decide +kernel
theorem dL_law_163 : decode cL_law 163 = .ok (.invokestatic 98, 3) := by decide +kernel
theorem dL_law_166 : decode cL_law 166 = .ok (.sipush (-3000), 3) := by decide +kernel
theorem dL_law_169 : decode cL_law 169 = .ok (.if_icmp .ne 93, 3) := by decide +kernel
theorem dL_law_172 : decode cL_law 172 = .ok (.aload_n 1, 1) := by decide +kernel
theorem dL_law_173 : decode cL_law 173 = .ok (.bipush 12, 2) := by decide +kernel
theorem dL_law_175 : decode cL_law 175 = .ok (.iconst 0, 1) := by decide +kernel
theorem dL_law_176 : decode cL_law 176 = .ok (.iconst 0, 1) := by decide +kernel
theorem dL_law_177 : decode cL_law 177 = .ok (.iconst 4, 1) := by decide +kernel
theorem dL_law_178 : decode cL_law 178 = .ok (.iconst 0, 1) := by decide +kernel
theorem dL_law_179 : decode cL_law 179 = .ok (.iconst 0, 1) := by decide +kernel
theorem dL_law_180 : decode cL_law 180 = .ok (.invokestatic 98, 3) := by decide +kernel
theorem dL_law_183 : decode cL_law 183 = .ok (.sipush (-2000), 3) := by decide +kernel
theorem dL_law_186 : decode cL_law 186 = .ok (.if_icmp .ne 76, 3) := by decide +kernel
theorem dL_law_189 : decode cL_law 189 = .ok (.aload_n 1, 1) := by decide +kernel
theorem dL_law_190 : decode cL_law 190 = .ok (.bipush 13, 2) := by decide +kernel
theorem dL_law_192 : decode cL_law 192 = .ok (.iconst 0, 1) := by decide +kernel
theorem dL_law_193 : decode cL_law 193 = .ok (.iconst 4, 1) := by decide +kernel
theorem dL_law_194 : decode cL_law 194 = .ok (.iconst 0, 1) := by decide +kernel
theorem dL_law_195 : decode cL_law 195 = .ok (.iconst 0, 1) := by decide +kernel
theorem dL_law_196 : decode cL_law 196 = .ok (.iconst 0, 1) := by decide +kernel
theorem dL_law_197 : decode cL_law 197 = .ok (.invokestatic 98, 3) := by decide +kernel
theorem dL_law_200 : decode cL_law 200 = .ok (.sipush (-3000), 3) := by decide +kernel
theorem dL_law_203 : decode cL_law 203 = .ok (.if_icmp .ne 59, 3) := by decide +kernel
theorem dL_law_206 : decode cL_law 206 = .ok (.aload_n 1, 1) := by decide +kernel
theorem dL_law_207 : decode cL_law 207 = .ok (.bipush 14, 2) := by decide +kernel
theorem dL_law_209 : decode cL_law 209 = .ok (.bipush 10, 2) := by decide +kernel
theorem dL_law_211 : decode cL_law 211 = .ok (.iconst 0, 1) := by decide +kernel
theorem dL_law_212 : decode cL_law 212 = .ok (.iconst 0, 1) := by decide +kernel
theorem dL_law_213 : decode cL_law 213 = .ok (.iconst 0, 1) := by decide +kernel
theorem dL_law_214 : decode cL_law 214 = .ok (.iconst 0, 1) := by decide +kernel
theorem dL_law_215 : decode cL_law 215 = .ok (.invokestatic 98, 3) := by decide +kernel
theorem dL_law_218 : decode cL_law 218 = .ok (.sipush (-3000), 3) := by decide +kernel
theorem dL_law_221 : decode cL_law 221 = .ok (.if_icmp .ne 41, 3) := by decide +kernel
theorem dL_law_224 : decode cL_law 224 = .ok (.aload_n 1, 1) := by decide +kernel
theorem dL_law_225 : decode cL_law 225 = .ok (.bipush 8, 2) := by decide +kernel
theorem dL_law_227 : decode cL_law 227 = .ok (.iconst 0, 1) := by decide +kernel
theorem dL_law_228 : decode cL_law 228 = .ok (.iconst 0, 1) := by decide +kernel
theorem dL_law_229 : decode cL_law 229 = .ok (.iconst 0, 1) := by decide +kernel
theorem dL_law_230 : decode cL_law 230 = .ok (.iconst 0, 1) := by decide +kernel
theorem dL_law_231 : decode cL_law 231 = .ok (.iconst 0, 1) := by decide +kernel
theorem dL_law_232 : decode cL_law 232 = .ok (.invokestatic 98, 3) := by decide +kernel
theorem dL_law_235 : decode cL_law 235 = .ok (.sipush (-2000), 3) := by decide +kernel
theorem dL_law_238 : decode cL_law 238 = .ok (.if_icmp .ne 24, 3) := by decide +kernel
theorem dL_law_241 : decode cL_law 241 = .ok (.aload_n 1, 1) := by decide +kernel
theorem dL_law_242 : decode cL_law 242 = .ok (.bipush 9, 2) := by decide +kernel
theorem dL_law_244 : decode cL_law 244 = .ok (.iconst 0, 1) := by decide +kernel
theorem dL_law_245 : decode cL_law 245 = .ok (.iconst 0, 1) := by decide +kernel
theorem dL_law_246 : decode cL_law 246 = .ok (.iconst 0, 1) := by decide +kernel
theorem dL_law_247 : decode cL_law 247 = .ok (.iconst 0, 1) := by decide +kernel
theorem dL_law_248 : decode cL_law 248 = .ok (.iconst 0, 1) := by decide +kernel
theorem dL_law_249 : decode cL_law 249 = .ok (.invokestatic 98, 3) := by decide +kernel
theorem dL_law_252 : decode cL_law 252 = .ok (.sipush (-2000), 3) := by decide +kernel
theorem dL_law_255 : decode cL_law 255 = .ok (.if_icmp .ne 7, 3) := by decide +kernel
theorem dL_law_258 : decode cL_law 258 = .ok (.iconst 1, 1) := by decide +kernel
theorem dL_law_259 : decode cL_law 259 = .ok (.goto 4, 3) := by decide +kernel
theorem dL_law_262 : decode cL_law 262 = .ok (.iconst 0, 1) := by decide +kernel
theorem dL_law_263 : decode cL_law 263 = .ok (.istore 7, 2) := by decide +kernel
theorem dL_law_265 : decode cL_law 265 = .ok (.iconst 0, 1) := by decide +kernel
theorem dL_law_266 : decode cL_law 266 = .ok (.istore 8, 2) := by decide +kernel
theorem dL_law_268 : decode cL_law 268 = .ok (.iload 8, 2) := by decide +kernel
theorem dL_law_270 : decode cL_law 270 = .ok (.bipush 64, 2) := by decide +kernel
theorem dL_law_272 : decode cL_law 272 = .ok (.if_icmp .ge 358, 3) := by decide +kernel
theorem dL_law_275 : decode cL_law 275 = .ok (.iload 7, 2) := by decide +kernel
theorem dL_law_277 : decode cL_law 277 = .ok (.ifCond .eq 353, 3) := by decide +kernel
theorem dL_law_280 : decode cL_law 280 = .ok (.iload 8, 2) := by decide +kernel
theorem dL_law_282 : decode cL_law 282 = .ok (.bipush 8, 2) := by decide +kernel
theorem dL_law_284 : decode cL_law 284 = .ok (.if_icmp .ge 7, 3) := by decide +kernel
theorem dL_law_287 : decode cL_law 287 = .ok (.iconst 0, 1) := by decide +kernel
theorem dL_law_288 : decode cL_law 288 = .ok (.goto 13, 3) := by decide +kernel
theorem dL_law_291 : decode cL_law 291 = .ok (.aload_n 0, 1) := by decide +kernel
theorem dL_law_292 : decode cL_law 292 = .ok (.iconst 3, 1) := by decide +kernel
theorem dL_law_293 : decode cL_law 293 = .ok (.iload 8, 2) := by decide +kernel
theorem dL_law_295 : decode cL_law 295 = .ok (.imul, 1) := by decide +kernel
theorem dL_law_296 : decode cL_law 296 = .ok (.bipush 30, 2) := by decide +kernel
theorem dL_law_298 : decode cL_law 298 = .ok (.invokestatic 107, 3) := by decide +kernel
theorem dL_law_301 : decode cL_law 301 = .ok (.istore 9, 2) := by decide +kernel
theorem dL_law_303 : decode cL_law 303 = .ok (.aload_n 0, 1) := by decide +kernel
theorem dL_law_304 : decode cL_law 304 = .ok (.iconst 3, 1) := by decide +kernel
theorem dL_law_305 : decode cL_law 305 = .ok (.iload 8, 2) := by decide +kernel
theorem dL_law_307 : decode cL_law 307 = .ok (.imul, 1) := by decide +kernel
theorem dL_law_308 : decode cL_law 308 = .ok (.iconst 1, 1) := by decide +kernel
theorem dL_law_309 : decode cL_law 309 = .ok (.iadd, 1) := by decide +kernel
theorem dL_law_310 : decode cL_law 310 = .ok (.ldc 111, 2) := by decide +kernel
theorem dL_law_312 : decode cL_law 312 = .ok (.invokestatic 107, 3) := by decide +kernel
theorem dL_law_315 : decode cL_law 315 = .ok (.istore 10, 2) := by decide +kernel
theorem dL_law_317 : decode cL_law 317 = .ok (.aload_n 0, 1) := by decide +kernel
theorem dL_law_318 : decode cL_law 318 = .ok (.iconst 3, 1) := by decide +kernel
theorem dL_law_319 : decode cL_law 319 = .ok (.iload 8, 2) := by decide +kernel
theorem dL_law_321 : decode cL_law 321 = .ok (.imul, 1) := by decide +kernel
theorem dL_law_322 : decode cL_law 322 = .ok (.iconst 2, 1) := by decide +kernel
theorem dL_law_323 : decode cL_law 323 = .ok (.iadd, 1) := by decide +kernel
theorem dL_law_324 : decode cL_law 324 = .ok (.ldc 112, 2) := by decide +kernel
theorem dL_law_326 : decode cL_law 326 = .ok (.invokestatic 107, 3) := by decide +kernel
theorem dL_law_329 : decode cL_law 329 = .ok (.istore 11, 2) := by decide +kernel
theorem dL_law_331 : decode cL_law 331 = .ok (.iload 9, 2) := by decide +kernel
theorem dL_law_333 : decode cL_law 333 = .ok (.iconst 5, 1) := by decide +kernel
theorem dL_law_334 : decode cL_law 334 = .ok (.if_icmp .ge 25, 3) := by decide +kernel
theorem dL_law_337 : decode cL_law 337 = .ok (.aload_n 1, 1) := by decide +kernel
theorem dL_law_338 : decode cL_law 338 = .ok (.aload_n 2, 1) := by decide +kernel
theorem dL_law_339 : decode cL_law 339 = .ok (.aload_n 3, 1) := by decide +kernel
theorem dL_law_340 : decode cL_law 340 = .ok (.aload 4, 2) := by decide +kernel
theorem dL_law_342 : decode cL_law 342 = .ok (.aload 5, 2) := by decide +kernel
theorem dL_law_344 : decode cL_law 344 = .ok (.aload 6, 2) := by decide +kernel
theorem dL_law_346 : decode cL_law 346 = .ok (.iconst 0, 1) := by decide +kernel
theorem dL_law_347 : decode cL_law 347 = .ok (.iload 10, 2) := by decide +kernel
theorem dL_law_349 : decode cL_law 349 = .ok (.iload 11, 2) := by decide +kernel
theorem dL_law_351 : decode cL_law 351 = .ok (.invokestatic 113, 3) := by decide +kernel
theorem dL_law_354 : decode cL_law 354 = .ok (.istore 7, 2) := by decide +kernel
theorem dL_law_356 : decode cL_law 356 = .ok (.goto 216, 3) := by decide +kernel
theorem dL_law_359 : decode cL_law 359 = .ok (.iload 9, 2) := by decide +kernel
theorem dL_law_361 : decode cL_law 361 = .ok (.bipush 9, 2) := by decide +kernel
theorem dL_law_363 : decode cL_law 363 = .ok (.if_icmp .ge 25, 3) := by decide +kernel
theorem dL_law_366 : decode cL_law 366 = .ok (.aload_n 1, 1) := by decide +kernel
theorem dL_law_367 : decode cL_law 367 = .ok (.aload_n 2, 1) := by decide +kernel
theorem dL_law_368 : decode cL_law 368 = .ok (.aload_n 3, 1) := by decide +kernel
theorem dL_law_369 : decode cL_law 369 = .ok (.aload 4, 2) := by decide +kernel
theorem dL_law_371 : decode cL_law 371 = .ok (.aload 5, 2) := by decide +kernel
theorem dL_law_373 : decode cL_law 373 = .ok (.aload 6, 2) := by decide +kernel
theorem dL_law_375 : decode cL_law 375 = .ok (.iconst 1, 1) := by decide +kernel
theorem dL_law_376 : decode cL_law 376 = .ok (.iload 10, 2) := by decide +kernel
theorem dL_law_378 : decode cL_law 378 = .ok (.iload 11, 2) := by decide +kernel
theorem dL_law_380 : decode cL_law 380 = .ok (.invokestatic 113, 3) := by decide +kernel
theorem dL_law_383 : decode cL_law 383 = .ok (.istore 7, 2) := by decide +kernel
theorem dL_law_385 : decode cL_law 385 = .ok (.goto 187, 3) := by decide +kernel
theorem dL_law_388 : decode cL_law 388 = .ok (.iload 9, 2) := by decide +kernel
theorem dL_law_390 : decode cL_law 390 = .ok (.bipush 16, 2) := by decide +kernel
theorem dL_law_392 : decode cL_law 392 = .ok (.if_icmp .ge 61, 3) := by decide +kernel
theorem dL_law_395 : decode cL_law 395 = .ok (.iload 9, 2) := by decide +kernel
theorem dL_law_397 : decode cL_law 397 = .ok (.bipush 7, 2) := by decide +kernel
theorem dL_law_399 : decode cL_law 399 = .ok (.isub, 1) := by decide +kernel
theorem dL_law_400 : decode cL_law 400 = .ok (.istore 12, 2) := by decide +kernel
theorem dL_law_402 : decode cL_law 402 = .ok (.aload_n 1, 1) := by decide +kernel
theorem dL_law_403 : decode cL_law 403 = .ok (.aload_n 2, 1) := by decide +kernel
theorem dL_law_404 : decode cL_law 404 = .ok (.aload_n 3, 1) := by decide +kernel
theorem dL_law_405 : decode cL_law 405 = .ok (.aload 4, 2) := by decide +kernel
theorem dL_law_407 : decode cL_law 407 = .ok (.aload 5, 2) := by decide +kernel
theorem dL_law_409 : decode cL_law 409 = .ok (.aload 6, 2) := by decide +kernel
theorem dL_law_411 : decode cL_law 411 = .ok (.iload 12, 2) := by decide +kernel
theorem dL_law_413 : decode cL_law 413 = .ok (.bipush 7, 2) := by decide +kernel
theorem dL_law_415 : decode cL_law 415 = .ok (.if_icmp .le 7, 3) := by decide +kernel
theorem dL_law_418 : decode cL_law 418 = .ok (.iconst 3, 1) := by decide +kernel
theorem dL_law_419 : decode cL_law 419 = .ok (.goto 22, 3) := by decide +kernel
theorem dL_law_422 : decode cL_law 422 = .ok (.iload 12, 2) := by decide +kernel
theorem dL_law_424 : decode cL_law 424 = .ok (.iconst 5, 1) := by decide +kernel
theorem dL_law_425 : decode cL_law 425 = .ok (.if_icmp .ne 14, 3) := by decide +kernel
theorem dL_law_428 : decode cL_law 428 = .ok (.iload 11, 2) := by decide +kernel
theorem dL_law_430 : decode cL_law 430 = .ok (.iconst 3, 1) := by decide +kernel
theorem dL_law_431 : decode cL_law 431 = .ok (.irem, 1) := by decide +kernel
theorem dL_law_432 : decode cL_law 432 = .ok (.ifCond .le 7, 3) := by decide +kernel
theorem dL_law_435 : decode cL_law 435 = .ok (.iconst 4, 1) := by decide +kernel
theorem dL_law_436 : decode cL_law 436 = .ok (.goto 5, 3) := by decide +kernel
theorem dL_law_439 : decode cL_law 439 = .ok (.iload 12, 2) := by decide +kernel
theorem dL_law_441 : decode cL_law 441 = .ok (.iload 10, 2) := by decide +kernel
theorem dL_law_443 : decode cL_law 443 = .ok (.iload 11, 2) := by decide +kernel
theorem dL_law_445 : decode cL_law 445 = .ok (.invokestatic 113, 3) := by decide +kernel
theorem dL_law_448 : decode cL_law 448 = .ok (.istore 7, 2) := by decide +kernel
theorem dL_law_450 : decode cL_law 450 = .ok (.goto 122, 3) := by decide +kernel
theorem dL_law_453 : decode cL_law 453 = .ok (.iload 9, 2) := by decide +kernel
theorem dL_law_455 : decode cL_law 455 = .ok (.bipush 16, 2) := by decide +kernel
theorem dL_law_457 : decode cL_law 457 = .ok (.if_icmp .ne 41, 3) := by decide +kernel
theorem dL_law_460 : decode cL_law 460 = .ok (.iconst 1, 1) := by decide +kernel
theorem dL_law_461 : decode cL_law 461 = .ok (.iload 10, 2) := by decide +kernel
theorem dL_law_463 : decode cL_law 463 = .ok (.bipush 100, 2) := by decide +kernel
theorem dL_law_465 : decode cL_law 465 = .ok (.irem, 1) := by decide +kernel
theorem dL_law_466 : decode cL_law 466 = .ok (.iadd, 1) := by decide +kernel
theorem dL_law_467 : decode cL_law 467 = .ok (.istore 12, 2) := by decide +kernel
theorem dL_law_469 : decode cL_law 469 = .ok (.aload_n 1, 1) := by decide +kernel
theorem dL_law_470 : decode cL_law 470 = .ok (.iload 12, 2) := by decide +kernel
theorem dL_law_472 : decode cL_law 472 = .ok (.invokevirtual 42, 3) := by decide +kernel
theorem dL_law_475 : decode cL_law 475 = .ok (.aload 6, 2) := by decide +kernel
theorem dL_law_477 : decode cL_law 477 = .ok (.iconst 5, 1) := by decide +kernel
theorem dL_law_478 : decode cL_law 478 = .ok (.iaload, 1) := by decide +kernel
theorem dL_law_479 : decode cL_law 479 = .ok (.if_icmp .ne 7, 3) := by decide +kernel
theorem dL_law_482 : decode cL_law 482 = .ok (.iconst 1, 1) := by decide +kernel
theorem dL_law_483 : decode cL_law 483 = .ok (.goto 4, 3) := by decide +kernel
theorem dL_law_486 : decode cL_law 486 = .ok (.iconst 0, 1) := by decide +kernel
theorem dL_law_487 : decode cL_law 487 = .ok (.istore 7, 2) := by decide +kernel
theorem dL_law_489 : decode cL_law 489 = .ok (.aload 6, 2) := by decide +kernel
theorem dL_law_491 : decode cL_law 491 = .ok (.iconst 5, 1) := by decide +kernel
theorem dL_law_492 : decode cL_law 492 = .ok (.iload 12, 2) := by decide +kernel
theorem dL_law_494 : decode cL_law 494 = .ok (.iastore, 1) := by decide +kernel
theorem dL_law_495 : decode cL_law 495 = .ok (.goto 77, 3) := by decide +kernel
theorem dL_law_498 : decode cL_law 498 = .ok (.iload 9, 2) := by decide +kernel
theorem dL_law_500 : decode cL_law 500 = .ok (.bipush 23, 2) := by decide +kernel
theorem dL_law_502 : decode cL_law 502 = .ok (.if_icmp .ge 21, 3) := by decide +kernel
theorem dL_law_505 : decode cL_law 505 = .ok (.aload_n 1, 1) := by decide +kernel
theorem dL_law_506 : decode cL_law 506 = .ok (.aload_n 2, 1) := by decide +kernel
theorem dL_law_507 : decode cL_law 507 = .ok (.aload 4, 2) := by decide +kernel
theorem dL_law_509 : decode cL_law 509 = .ok (.aload 6, 2) := by decide +kernel
theorem dL_law_511 : decode cL_law 511 = .ok (.iload 10, 2) := by decide +kernel
theorem dL_law_513 : decode cL_law 513 = .ok (.iload 11, 2) := by decide +kernel
theorem dL_law_515 : decode cL_law 515 = .ok (.invokestatic 117, 3) := by decide +kernel
theorem dL_law_518 : decode cL_law 518 = .ok (.istore 7, 2) := by decide +kernel
theorem dL_law_520 : decode cL_law 520 = .ok (.goto 52, 3) := by decide +kernel
theorem dL_law_523 : decode cL_law 523 = .ok (.iload 10, 2) := by decide +kernel
theorem dL_law_525 : decode cL_law 525 = .ok (.iconst 4, 1) := by decide +kernel
theorem dL_law_526 : decode cL_law 526 = .ok (.irem, 1) := by decide +kernel
theorem dL_law_527 : decode cL_law 527 = .ok (.ifCond .ne 8, 3) := by decide +kernel
theorem dL_law_530 : decode cL_law 530 = .ok (.bipush 20, 2) := by decide +kernel
theorem dL_law_532 : decode cL_law 532 = .ok (.goto 9, 3) := by decide +kernel
theorem dL_law_535 : decode cL_law 535 = .ok (.iconst 1, 1) := by decide +kernel
theorem dL_law_536 : decode cL_law 536 = .ok (.iload 10, 2) := by decide +kernel
