theorem dX3_perform_311 : decode cX3_perform 311 = .ok (.lconst 0, 1) := by decide +kernel
theorem dX3_perform_312 : decode cX3_perform 312 = .ok (.invokevirtual 124, 3) := by decide +kernel
theorem dX3_perform_315 : decode cX3_perform 315 = .ok (.ireturn, 1) := by decide +kernel
theorem dX3_perform_316 : decode cX3_perform 316 = .ok (.aload_n 0, 1) := by decide +kernel
theorem dX3_perform_317 : decode cX3_perform 317 = .ok (.iload_n 2, 1) := by decide +kernel
theorem dX3_perform_318 : decode cX3_perform 318 = .ok (.aload_n 0, 1) := by decide +kernel
theorem dX3_perform_319 : decode cX3_perform 319 = .ok (.aload_n 0, 1) := by decide +kernel
theorem dX3_perform_320 : decode cX3_perform 320 = .ok (.getfield 28, 3) := by decide +kernel
theorem dX3_perform_323 : decode cX3_perform 323 = .ok (.iload_n 3, 1) := by decide +kernel
theorem dX3_perform_324 : decode cX3_perform 324 = .ok (.iaload, 1) := by decide +kernel
theorem dX3_perform_325 : decode cX3_perform 325 = .ok (.aload_n 0, 1) := by decide +kernel
theorem dX3_perform_326 : decode cX3_perform 326 = .ok (.getfield 28, 3) := by decide +kernel
theorem dX3_perform_329 : decode cX3_perform 329 = .ok (.iload 4, 2) := by decide +kernel
theorem dX3_perform_331 : decode cX3_perform 331 = .ok (.iaload, 1) := by decide +kernel
theorem dX3_perform_332 : decode cX3_perform 332 = .ok (.invokevirtual 156, 3) := by decide +kernel
theorem dX3_perform_335 : decode cX3_perform 335 = .ok (.ifCond .eq 7, 3) := by decide +kernel
theorem dX3_perform_338 : decode cX3_perform 338 = .ok (.lconst 1, 1) := by decide +kernel
theorem dX3_perform_339 : decode cX3_perform 339 = .ok (.goto 4, 3) := by decide +kernel
theorem dX3_perform_342 : decode cX3_perform 342 = .ok (.lconst 0, 1) := by decide +kernel
theorem dX3_perform_343 : decode cX3_perform 343 = .ok (.invokevirtual 124, 3) := by decide +kernel
theorem dX3_perform_346 : decode cX3_perform 346 = .ok (.ireturn, 1) := by decide +kernel
theorem dX3_perform_347 : decode cX3_perform 347 = .ok (.aload_n 0, 1) := by decide +kernel
theorem dX3_perform_348 : decode cX3_perform 348 = .ok (.iload_n 3, 1) := by decide +kernel
theorem dX3_perform_349 : decode cX3_perform 349 = .ok (.invokevirtual 160, 3) := by decide +kernel
theorem dX3_perform_352 : decode cX3_perform 352 = .ok (.ireturn, 1) := by decide +kernel
theorem dX3_perform_353 : decode cX3_perform 353 = .ok (.aload_n 0, 1) := by decide +kernel
theorem dX3_perform_354 : decode cX3_perform 354 = .ok (.getfield 32, 3) := by decide +kernel
theorem dX3_perform_357 : decode cX3_perform 357 = .ok (.iload_n 2, 1) := by decide +kernel
theorem dX3_perform_358 : decode cX3_perform 358 = .ok (.laload, 1) := by decide +kernel
theorem dX3_perform_359 : decode cX3_perform 359 = .ok (.lconst 0, 1) := by decide +kernel
theorem dX3_perform_360 : decode cX3_perform 360 = .ok (.lcmp, 1) := by decide +kernel
theorem dX3_perform_361 : decode cX3_perform 361 = .ok (.ifCond .le 11, 3) := by decide +kernel
theorem dX3_perform_364 : decode cX3_perform 364 = .ok (.aload_n 0, 1) := by decide +kernel
theorem dX3_perform_365 : decode cX3_perform 365 = .ok (.iload_n 3, 1) := by decide +kernel
theorem dX3_perform_366 : decode cX3_perform 366 = .ok (.invokevirtual 160, 3) := by decide +kernel
theorem dX3_perform_369 : decode cX3_perform 369 = .ok (.goto 4, 3) := by decide +kernel
theorem dX3_perform_372 : decode cX3_perform 372 = .ok (.iconst 0, 1) := by decide +kernel
theorem dX3_perform_373 : decode cX3_perform 373 = .ok (.ireturn, 1) := by decide +kernel
theorem dX3_perform_374 : decode cX3_perform 374 = .ok (.aload_n 0, 1) := by decide +kernel
theorem dX3_perform_375 : decode cX3_perform 375 = .ok (.aload_n 0, 1) := by decide +kernel
theorem dX3_perform_376 : decode cX3_perform 376 = .ok (.getfield 32, 3) := by decide +kernel
theorem dX3_perform_379 : decode cX3_perform 379 = .ok (.iload_n 2, 1) := by decide +kernel
theorem dX3_perform_380 : decode cX3_perform 380 = .ok (.laload, 1) := by decide +kernel
theorem dX3_perform_381 : decode cX3_perform 381 = .ok (.invokevirtual 164, 3) := by decide +kernel
theorem dX3_perform_384 : decode cX3_perform 384 = .ok (.ireturn, 1) := by decide +kernel
theorem dX3_perform_385 : decode cX3_perform 385 = .ok (.bipush 6, 2) := by decide +kernel
theorem dX3_perform_387 : decode cX3_perform 387 = .ok (.ireturn, 1) := by decide +kernel
theorem dX3_setValue_0 : decode cX3_setValue 0 = .ok (.aload_n 0, 1) := by decide +kernel
theorem dX3_setValue_1 : decode cX3_setValue 1 = .ok (.getfield 32, 3) := by decide +kernel
theorem dX3_setValue_4 : decode cX3_setValue 4 = .ok (.iload_n 1, 1) := by decide +kernel
theorem dX3_setValue_5 : decode cX3_setValue 5 = .ok (.lload_n 2, 1) := by decide +kernel
theorem dX3_setValue_6 : decode cX3_setValue 6 = .ok (.lastore, 1) := by decide +kernel
theorem dX3_setValue_7 : decode cX3_setValue 7 = .ok (.iconst 0, 1) := by decide +kernel
theorem dX3_setValue_8 : decode cX3_setValue 8 = .ok (.ireturn, 1) := by decide +kernel
theorem dX3_goOnAt_0 : decode cX3_goOnAt 0 = .ok (.aload_n 0, 1) := by decide +kernel
theorem dX3_goOnAt_1 : decode cX3_goOnAt 1 = .ok (.iload_n 1, 1) := by decide +kernel
theorem dX3_goOnAt_2 : decode cX3_goOnAt 2 = .ok (.putfield 78, 3) := by decide +kernel
theorem dX3_goOnAt_5 : decode cX3_goOnAt 5 = .ok (.iconst 0, 1) := by decide +kernel
theorem dX3_goOnAt_6 : decode cX3_goOnAt 6 = .ok (.ireturn, 1) := by decide +kernel
set_option maxRecDepth 20000 in
theorem ggX3_end_X3_goOnAt : GoodIn wsX3_end wsX3_goOnAt := goodIn_r _ [6, 7, 8, 9, 10, 11, 12, 13, 14, 15, 16, 17, 18] (by decide +kernel) (by decide +kernel)
set_option maxRecDepth 20000 in
theorem gX3_end_X3_goOnAt : GoodIn wsX3_end (wsV RX3 160 RX3 yX3_goOnAt wsX3_goOnAt) := goodIn_app (goodIn_of _ (by decide +kernel)) ggX3_end_X3_goOnAt
theorem dX3_end_0 : decode cX3_end 0 = .ok (.aload_n 0, 1) := by decide +kernel
theorem dX3_end_1 : decode cX3_end 1 = .ok (.lload_n 1, 1) := by decide +kernel
theorem dX3_end_2 : decode cX3_end 2 = .ok (.putfield 48, 3) := by decide +kernel
theorem dX3_end_5 : decode cX3_end 5 = .ok (.aload_n 0, 1) := by decide +kernel
theorem dX3_end_6 : decode cX3_end 6 = .ok (.bipush 32, 2) := by decide +kernel
theorem dX3_end_8 : decode cX3_end 8 = .ok (.invokevirtual 160, 3) := by decide +kernel
theorem dX3_end_11 : decode cX3_end 11 = .ok (.ireturn, 1) := by decide +kernel
set_option maxRecDepth 20000 in
theorem ggX3_ask_X3_load : GoodIn wsX3_ask wsX3_load := goodIn_r _ [7, 8, 2, 9, 10, 11, 12, 13, 14, 15, 16, 17, 18, 19, 20, 21, 22, 23, 24, 25, 26, 27, 28, 29, 30, 31, 32, 33, 34, 35, 36, 37, 42, 43, 44, 45, 46, 47, 48, 49, 50, 51, 52, 53, 54, 55, 56, 57] (by decide +kernel) (by decide +kernel)
set_option maxRecDepth 20000 in
theorem gX3_ask_X3_load : GoodIn wsX3_ask (wsV RX3 64 RX3 yX3_load wsX3_load) := goodIn_app (goodIn_of _ (by decide +kernel)) ggX3_ask_X3_load
set_option maxRecDepth 20000 in
theorem ggX3_ask_X2_sortOf : GoodIn wsX3_ask wsX2_sortOf := goodIn_r _ [41, 28, 27, 53, 54, 55, 56, 57] (by decide +kernel) (by decide +kernel)
set_option maxRecDepth 20000 in
theorem gX3_ask_X2_sortOf : GoodIn wsX3_ask (wsV RX3 168 RX2 yX2_sortOf wsX2_sortOf) := goodIn_app (goodIn_of _ (by decide +kernel)) ggX3_ask_X2_sortOf
theorem dX3_ask_0 : decode cX3_ask 0 = .ok (.aload_n 0, 1) := by decide +kernel
theorem dX3_ask_1 : decode cX3_ask 1 = .ok (.getfield 28, 3) := by decide +kernel
theorem dX3_ask_4 : decode cX3_ask 4 = .ok (.iload_n 1, 1) := by decide +kernel
theorem dX3_ask_5 : decode cX3_ask 5 = .ok (.iaload, 1) := by decide +kernel
theorem dX3_ask_6 : decode cX3_ask 6 = .ok (.istore 4, 2) := by decide +kernel
theorem dX3_ask_8 : decode cX3_ask 8 = .ok (.iload 4, 2) := by decide +kernel
theorem dX3_ask_10 : decode cX3_ask 10 = .ok (.bipush (-3), 2) := by decide +kernel
theorem dX3_ask_12 : decode cX3_ask 12 = .ok (.if_icmp .ne 5, 3) := by decide +kernel
theorem dX3_ask_15 : decode cX3_ask 15 = .ok (.iconst 1, 1) := by decide +kernel
theorem dX3_ask_16 : decode cX3_ask 16 = .ok (.ireturn, 1) := by decide +kernel
theorem dX3_ask_17 : decode cX3_ask 17 = .ok (.aload_n 0, 1) := by decide +kernel
theorem dX3_ask_18 : decode cX3_ask 18 = .ok (.iload 4, 2) := by decide +kernel
theorem dX3_ask_20 : decode cX3_ask 20 = .ok (.invokevirtual 64, 3) := by decide +kernel
theorem dX3_ask_23 : decode cX3_ask 23 = .ok (.aload_n 0, 1) := by decide +kernel
theorem dX3_ask_24 : decode cX3_ask 24 = .ok (.getfield 24, 3) := by decide +kernel
theorem dX3_ask_27 : decode cX3_ask 27 = .ok (.iload 4, 2) := by decide +kernel
theorem dX3_ask_29 : decode cX3_ask 29 = .ok (.aaload, 1) := by decide +kernel
theorem dX3_ask_30 : decode cX3_ask 30 = .ok (.iload_n 2, 1) := by decide +kernel
theorem dX3_ask_31 : decode cX3_ask 31 = .ok (.invokevirtual 168, 3) := by decide +kernel
theorem dX3_ask_34 : decode cX3_ask 34 = .ok (.istore 5, 2) := by decide +kernel
theorem dX3_ask_36 : decode cX3_ask 36 = .ok (.iload 5, 2) := by decide +kernel
theorem dX3_ask_38 : decode cX3_ask 38 = .ok (.ifCond .ne 5, 3) := by decide +kernel
theorem dX3_ask_41 : decode cX3_ask 41 = .ok (.iconst 3, 1) := by decide +kernel
theorem dX3_ask_42 : decode cX3_ask 42 = .ok (.ireturn, 1) := by decide +kernel
theorem dX3_ask_43 : decode cX3_ask 43 = .ok (.iload 5, 2) := by decide +kernel
theorem dX3_ask_45 : decode cX3_ask 45 = .ok (.iload_n 3, 1) := by decide +kernel
theorem dX3_ask_46 : decode cX3_ask 46 = .ok (.if_icmp .ne 7, 3) := by decide +kernel
theorem dX3_ask_49 : decode cX3_ask 49 = .ok (.iconst 0, 1) := by decide +kernel
theorem dX3_ask_50 : decode cX3_ask 50 = .ok (.goto 4, 3) := by decide +kernel
theorem dX3_ask_53 : decode cX3_ask 53 = .ok (.iconst 2, 1) := by decide +kernel
theorem dX3_ask_54 : decode cX3_ask 54 = .ok (.ireturn, 1) := by decide +kernel
set_option maxRecDepth 20000 in
theorem ggX3_read_X4_noteRead : GoodIn wsX3_read wsX4_noteRead := goodIn_r _ [8, 9, 10, 11, 23, 24, 25, 26, 27] (by decide +kernel) (by decide +kernel)
set_option maxRecDepth 20000 in
theorem gX3_read_X4_noteRead : GoodIn wsX3_read (wsV RX3 171 RX4 yX4_noteRead wsX4_noteRead) := goodIn_app (goodIn_of _ (by decide +kernel)) ggX3_read_X4_noteRead
theorem dX3_read_0 : decode cX3_read 0 = .ok (.aload_n 0, 1) := by decide +kernel
theorem dX3_read_1 : decode cX3_read 1 = .ok (.getfield 12, 3) := by decide +kernel
theorem dX3_read_4 : decode cX3_read 4 = .ok (.aload_n 0, 1) := by decide +kernel
theorem dX3_read_5 : decode cX3_read 5 = .ok (.getfield 28, 3) := by decide +kernel
theorem dX3_read_8 : decode cX3_read 8 = .ok (.iload_n 1, 1) := by decide +kernel
theorem dX3_read_9 : decode cX3_read 9 = .ok (.iaload, 1) := by decide +kernel
theorem dX3_read_10 : decode cX3_read 10 = .ok (.iload_n 2, 1) := by decide +kernel
theorem dX3_read_11 : decode cX3_read 11 = .ok (.invokevirtual 171, 3) := by decide +kernel
theorem dX3_read_14 : decode cX3_read 14 = .ok (.aload_n 0, 1) := by decide +kernel
theorem dX3_read_15 : decode cX3_read 15 = .ok (.getfield 24, 3) := by decide +kernel
theorem dX3_read_18 : decode cX3_read 18 = .ok (.aload_n 0, 1) := by decide +kernel
theorem dX3_read_19 : decode cX3_read 19 = .ok (.getfield 28, 3) := by decide +kernel
theorem dX3_read_22 : decode cX3_read 22 = .ok (.iload_n 1, 1) := by decide +kernel
theorem dX3_read_23 : decode cX3_read 23 = .ok (.iaload, 1) := by decide +kernel
theorem dX3_read_24 : decode cX3_read 24 = .ok (.aaload, 1) := by decide +kernel
theorem dX3_read_25 : decode cX3_read 25 = .ok (.areturn, 1) := by decide +kernel
set_option maxRecDepth 20000 in
theorem ggX3_change_X4_noteChanged : GoodIn wsX3_change wsX4_noteChanged := goodIn_r _ [8, 9, 10, 11, 12, 24, 25, 26, 27, 28] (by decide +kernel) (by decide +kernel)
set_option maxRecDepth 20000 in
theorem gX3_change_X4_noteChanged : GoodIn wsX3_change (wsV RX3 174 RX4 yX4_noteChanged wsX4_noteChanged) := goodIn_app (goodIn_of _ (by decide +kernel)) ggX3_change_X4_noteChanged
theorem dX3_change_0 : decode cX3_change 0 = .ok (.aload_n 0, 1) := by decide +kernel
theorem dX3_change_1 : decode cX3_change 1 = .ok (.getfield 12, 3) := by decide +kernel
theorem dX3_change_4 : decode cX3_change 4 = .ok (.aload_n 0, 1) := by decide +kernel
theorem dX3_change_5 : decode cX3_change 5 = .ok (.getfield 28, 3) := by decide +kernel
theorem dX3_change_8 : decode cX3_change 8 = .ok (.iload_n 1, 1) := by decide +kernel
theorem dX3_change_9 : decode cX3_change 9 = .ok (.iaload, 1) := by decide +kernel
theorem dX3_change_10 : decode cX3_change 10 = .ok (.iload_n 2, 1) := by decide +kernel
theorem dX3_change_11 : decode cX3_change 11 = .ok (.invokevirtual 174, 3) := by decide +kernel
theorem dX3_change_14 : decode cX3_change 14 = .ok (.aload_n 0, 1) := by decide +kernel
theorem dX3_change_15 : decode cX3_change 15 = .ok (.getfield 24, 3) := by decide +kernel
theorem dX3_change_18 : decode cX3_change 18 = .ok (.aload_n 0, 1) := by decide +kernel
theorem dX3_change_19 : decode cX3_change 19 = .ok (.getfield 28, 3) := by decide +kernel
theorem dX3_change_22 : decode cX3_change 22 = .ok (.iload_n 1, 1) := by decide +kernel
theorem dX3_change_23 : decode cX3_change 23 = .ok (.iaload, 1) := by decide +kernel
theorem dX3_change_24 : decode cX3_change 24 = .ok (.aaload, 1) := by decide +kernel
theorem dX3_change_25 : decode cX3_change 25 = .ok (.areturn, 1) := by decide +kernel
set_option maxRecDepth 20000 in
theorem ggX3_get_X3_ask : GoodIn wsX3_get wsX3_ask := goodIn_r _ [6, 7, 8, 9, 10, 11, 5, 12, 13, 14, 15, 16, 17, 18, 19, 20, 21, 22, 23, 24, 25, 26, 27, 28, 29, 30, 31, 32, 33, 34, 35, 36, 37, 38, 39, 40, 41, 42, 43, 44, 45, 46, 70, 71, 72, 73, 74, 75, 76, 77, 78, 79, 80, 65, 66, 67, 68, 69] (by decide +kernel) (by decide +kernel)
set_option maxRecDepth 20000 in
theorem gX3_get_X3_ask : GoodIn wsX3_get (wsV RX3 177 RX3 yX3_ask wsX3_ask) := goodIn_app (goodIn_of _ (by decide +kernel)) ggX3_get_X3_ask
set_option maxRecDepth 20000 in
theorem ggX3_get_X3_read : GoodIn wsX3_get wsX3_read := goodIn_r _ [50, 51, 7, 8, 52, 53, 54, 55, 56, 57, 58, 59, 70, 71, 72, 73, 74, 75, 76, 77, 78, 79, 80, 81, 82, 83, 84, 85] (by decide +kernel) (by decide +kernel)
set_option maxRecDepth 20000 in
theorem gX3_get_X3_read : GoodIn wsX3_get (wsV RX3 180 RX3 yX3_read wsX3_read) := goodIn_app (goodIn_of _ (by decide +kernel)) ggX3_get_X3_read
set_option maxRecDepth 20000 in
theorem ggX3_get_X3_setValue : GoodIn wsX3_get wsX3_setValue := goodIn_r _ [63, 64, 70, 71, 72, 73, 74, 75, 76, 77, 78, 79, 80] (by decide +kernel) (by decide +kernel)
set_option maxRecDepth 20000 in
theorem gX3_get_X3_setValue : GoodIn wsX3_get (wsV RX3 124 RX3 yX3_setValue wsX3_setValue) := goodIn_app (goodIn_of _ (by decide +kernel)) ggX3_get_X3_setValue
theorem dX3_get_0 : decode cX3_get 0 = .ok (.aload_n 0, 1) := by decide +kernel
theorem dX3_get_1 : decode cX3_get 1 = .ok (.iload_n 2, 1) := by decide +kernel
theorem dX3_get_2 : decode cX3_get 2 = .ok (.iload_n 3, 1) := by decide +kernel
theorem dX3_get_3 : decode cX3_get 3 = .ok (.iconst 1, 1) := by decide +kernel
theorem dX3_get_4 : decode cX3_get 4 = .ok (.invokevirtual 177, 3) := by decide +kernel
theorem dX3_get_7 : decode cX3_get 7 = .ok (.istore 4, 2) := by decide +kernel
theorem dX3_get_9 : decode cX3_get 9 = .ok (.iload 4, 2) := by decide +kernel
theorem dX3_get_11 : decode cX3_get 11 = .ok (.ifCond .eq 8, 3) := by decide +kernel
theorem dX3_get_14 : decode cX3_get 14 = .ok (.iload 4, 2) := by decide +kernel
theorem dX3_get_16 : decode cX3_get 16 = .ok (.goto 19, 3) := by decide +kernel
theorem dX3_get_19 : decode cX3_get 19 = .ok (.aload_n 0, 1) := by decide +kernel
theorem dX3_get_20 : decode cX3_get 20 = .ok (.iload_n 1, 1) := by decide +kernel
theorem dX3_get_21 : decode cX3_get 21 = .ok (.aload_n 0, 1) := by decide +kernel
theorem dX3_get_22 : decode cX3_get 22 = .ok (.iload_n 2, 1) := by decide +kernel
theorem dX3_get_23 : decode cX3_get 23 = .ok (.iload_n 3, 1) := by decide +kernel
theorem dX3_get_24 : decode cX3_get 24 = .ok (.invokevirtual 180, 3) := by decide +kernel
theorem dX3_get_27 : decode cX3_get 27 = .ok (.getfield 184, 3) := by decide +kernel
theorem dX3_get_30 : decode cX3_get 30 = .ok (.iload_n 3, 1) := by decide +kernel
theorem dX3_get_31 : decode cX3_get 31 = .ok (.laload, 1) := by decide +kernel
theorem dX3_get_32 : decode cX3_get 32 = .ok (.invokevirtual 124, 3) := by decide +kernel
theorem dX3_get_35 : decode cX3_get 35 = .ok (.ireturn, 1) := by decide +kernel
set_option maxRecDepth 20000 in
theorem ggX3_follow_X3_ask : GoodIn wsX3_follow wsX3_ask := goodIn_r _ [7, 1, 8, 9, 10, 11, 6, 12, 13, 14, 15, 16, 17, 18, 19, 20, 21, 22, 23, 24, 25, 26, 27, 28, 29, 30, 31, 32, 33, 34, 35, 36, 37, 38, 39, 40, 41, 42, 43, 44, 45, 46, 60, 61, 62, 63, 64, 65, 66, 67, 68, 69, 70, 71, 72, 73, 74, 75] (by decide +kernel) (by decide +kernel)
set_option maxRecDepth 20000 in
theorem gX3_follow_X3_ask : GoodIn wsX3_follow (wsV RX3 177 RX3 yX3_ask wsX3_ask) := goodIn_app (goodIn_of _ (by decide +kernel)) ggX3_follow_X3_ask
set_option maxRecDepth 20000 in
theorem ggX3_follow_X3_read : GoodIn wsX3_follow wsX3_read := goodIn_r _ [50, 51, 1, 8, 52, 53, 54, 55, 56, 57, 58, 59, 60, 61, 62, 63, 64, 65, 66, 67, 68, 69, 70, 76, 77, 78, 79, 80] (by decide +kernel) (by decide +kernel)
set_option maxRecDepth 20000 in
theorem gX3_follow_X3_read : GoodIn wsX3_follow (wsV RX3 180 RX3 yX3_read wsX3_read) := goodIn_app (goodIn_of _ (by decide +kernel)) ggX3_follow_X3_read
theorem dX3_follow_0 : decode cX3_follow 0 = .ok (.aload_n 0, 1) := by decide +kernel
theorem dX3_follow_1 : decode cX3_follow 1 = .ok (.iload_n 2, 1) := by decide +kernel
theorem dX3_follow_2 : decode cX3_follow 2 = .ok (.iload_n 3, 1) := by decide +kernel
theorem dX3_follow_3 : decode cX3_follow 3 = .ok (.iconst 2, 1) := by decide +kernel
theorem dX3_follow_4 : decode cX3_follow 4 = .ok (.invokevirtual 177, 3) := by decide +kernel
theorem dX3_follow_7 : decode cX3_follow 7 = .ok (.istore 4, 2) := by decide +kernel
theorem dX3_follow_9 : decode cX3_follow 9 = .ok (.iload 4, 2) := by decide +kernel
theorem dX3_follow_11 : decode cX3_follow 11 = .ok (.ifCond .ne 21, 3) := by decide +kernel
theorem dX3_follow_14 : decode cX3_follow 14 = .ok (.aload_n 0, 1) := by decide +kernel
theorem dX3_follow_15 : decode cX3_follow 15 = .ok (.getfield 28, 3) := by decide +kernel
theorem dX3_follow_18 : decode cX3_follow 18 = .ok (.iload_n 1, 1) := by decide +kernel
theorem dX3_follow_19 : decode cX3_follow 19 = .ok (.aload_n 0, 1) := by decide +kernel
theorem dX3_follow_20 : decode cX3_follow 20 = .ok (.iload_n 2, 1) := by decide +kernel
theorem dX3_follow_21 : decode cX3_follow 21 = .ok (.iload_n 3, 1) := by decide +kernel
theorem dX3_follow_22 : decode cX3_follow 22 = .ok (.invokevirtual 180, 3) := by decide +kernel
theorem dX3_follow_25 : decode cX3_follow 25 = .ok (.getfield 184, 3) := by decide +kernel
theorem dX3_follow_28 : decode cX3_follow 28 = .ok (.iload_n 3, 1) := by decide +kernel
theorem dX3_follow_29 : decode cX3_follow 29 = .ok (.laload, 1) := by decide +kernel
theorem dX3_follow_30 : decode cX3_follow 30 = .ok (.l2i, 1) := by decide +kernel
theorem dX3_follow_31 : decode cX3_follow 31 = .ok (.iastore, 1) := by decide +kernel
theorem dX3_follow_32 : decode cX3_follow 32 = .ok (.iload 4, 2) := by decide +kernel
theorem dX3_follow_34 : decode cX3_follow 34 = .ok (.ireturn, 1) := by decide +kernel
set_option maxRecDepth 20000 in
theorem ggX3_put_X3_ask : GoodIn wsX3_put wsX3_ask := goodIn_r _ [6, 7, 8, 9, 10, 11, 5, 12, 13, 14, 15, 16, 17, 18, 19, 20, 21, 22, 23, 24, 25, 26, 27, 28, 29, 30, 31, 32, 33, 34, 35, 36, 37, 38, 39, 40, 41, 42, 43, 44, 45, 46, 66, 67, 68, 69, 70, 71, 72, 73, 74, 75, 76, 61, 62, 63, 64, 65] (by decide +kernel) (by decide +kernel)
set_option maxRecDepth 20000 in
theorem gX3_put_X3_ask : GoodIn wsX3_put (wsV RX3 177 RX3 yX3_ask wsX3_ask) := goodIn_app (goodIn_of _ (by decide +kernel)) ggX3_put_X3_ask
set_option maxRecDepth 20000 in
theorem ggX3_put_X3_change : GoodIn wsX3_put wsX3_change := goodIn_r _ [50, 51, 7, 8, 52, 53, 54, 55, 56, 57, 58, 59, 60, 66, 67, 68, 69, 70, 71, 72, 73, 74, 75, 76, 77, 78, 79, 80, 81] (by decide +kernel) (by decide +kernel)
set_option maxRecDepth 20000 in
theorem gX3_put_X3_change : GoodIn wsX3_put (wsV RX3 187 RX3 yX3_change wsX3_change) := goodIn_app (goodIn_of _ (by decide +kernel)) ggX3_put_X3_change
theorem dX3_put_0 : decode cX3_put 0 = .ok (.aload_n 0, 1) := by decide +kernel
theorem dX3_put_1 : decode cX3_put 1 = .ok (.iload_n 1, 1) := by decide +kernel
theorem dX3_put_2 : decode cX3_put 2 = .ok (.iload_n 2, 1) := by decide +kernel
theorem dX3_put_3 : decode cX3_put 3 = .ok (.iload_n 3, 1) := by decide +kernel
theorem dX3_put_4 : decode cX3_put 4 = .ok (.invokevirtual 177, 3) := by decide +kernel
theorem dX3_put_7 : decode cX3_put 7 = .ok (.istore 6, 2) := by decide +kernel
theorem dX3_put_9 : decode cX3_put 9 = .ok (.iload 6, 2) := by decide +kernel
theorem dX3_put_11 : decode cX3_put 11 = .ok (.ifCond .ne 16, 3) := by decide +kernel
theorem dX3_put_14 : decode cX3_put 14 = .ok (.aload_n 0, 1) := by decide +kernel
theorem dX3_put_15 : decode cX3_put 15 = .ok (.iload_n 1, 1) := by decide +kernel
theorem dX3_put_16 : decode cX3_put 16 = .ok (.iload_n 2, 1) := by decide +kernel
theorem dX3_put_17 : decode cX3_put 17 = .ok (.invokevirtual 187, 3) := by decide +kernel
theorem dX3_put_20 : decode cX3_put 20 = .ok (.getfield 184, 3) := by decide +kernel
theorem dX3_put_23 : decode cX3_put 23 = .ok (.iload_n 2, 1) := by decide +kernel
theorem dX3_put_24 : decode cX3_put 24 = .ok (.lload 4, 2) := by decide +kernel
theorem dX3_put_26 : decode cX3_put 26 = .ok (.lastore, 1) := by decide +kernel
theorem dX3_put_27 : decode cX3_put 27 = .ok (.iload 6, 2) := by decide +kernel
theorem dX3_put_29 : decode cX3_put 29 = .ok (.ireturn, 1) := by decide +kernel
set_option maxRecDepth 20000 in
theorem ggX3_getItem_X3_ask : GoodIn wsX3_getItem wsX3_ask := goodIn_r _ [7, 8, 9, 10, 11, 12, 6, 13, 14, 15, 16, 17, 18, 19, 20, 21, 22, 23, 24, 25, 26, 27, 28, 29, 30, 31, 32, 33, 34, 35, 36, 37, 38, 39, 40, 41, 42, 43, 44, 45, 46, 47, 77, 78, 79, 80, 81, 82, 83, 84, 85, 86, 87, 88, 89, 90, 91, 92] (by decide +kernel) (by decide +kernel)
set_option maxRecDepth 20000 in
theorem gX3_getItem_X3_ask : GoodIn wsX3_getItem (wsV RX3 177 RX3 yX3_ask wsX3_ask) := goodIn_app (goodIn_of _ (by decide +kernel)) ggX3_getItem_X3_ask
set_option maxRecDepth 20000 in
theorem ggX3_getItem_X3_read : GoodIn wsX3_getItem wsX3_read := goodIn_r _ [51, 52, 8, 9, 53, 54, 55, 56, 57, 58, 59, 60, 77, 78, 79, 80, 81, 82, 83, 84, 85, 86, 87, 93, 94, 95, 96, 97] (by decide +kernel) (by decide +kernel)
set_option maxRecDepth 20000 in
theorem gX3_getItem_X3_read : GoodIn wsX3_getItem (wsV RX3 180 RX3 yX3_read wsX3_read) := goodIn_app (goodIn_of _ (by decide +kernel)) ggX3_getItem_X3_read
set_option maxRecDepth 20000 in
theorem ggX3_getItem_X3_itemRefusal : GoodIn wsX3_getItem wsX3_itemRefusal := goodIn_r _ [63, 64, 65, 66, 67, 68, 17, 69, 30, 88, 89, 90, 91, 92] (by decide +kernel) (by decide +kernel)
set_option maxRecDepth 20000 in
theorem gX3_getItem_X3_itemRefusal : GoodIn wsX3_getItem (va_wsS RX3 190 yX3_itemRefusal wsX3_itemRefusal) := goodIn_app (goodIn_of _ (by decide +kernel)) ggX3_getItem_X3_itemRefusal
set_option maxRecDepth 20000 in
theorem ggX3_getItem_X2_itemPlace : GoodIn wsX3_getItem wsX2_itemPlace := goodIn_r _ [72] (by decide +kernel) (by decide +kernel)
set_option maxRecDepth 20000 in
theorem gX3_getItem_X2_itemPlace : GoodIn wsX3_getItem (va_wsS RX3 197 yX2_itemPlace wsX2_itemPlace) := goodIn_app (goodIn_of _ (by decide +kernel)) ggX3_getItem_X2_itemPlace
set_option maxRecDepth 20000 in
theorem ggX3_getItem_X3_setValue : GoodIn wsX3_getItem wsX3_setValue := goodIn_r _ [76, 1, 77, 78, 79, 80, 81, 82, 83, 84, 85, 86, 87] (by decide +kernel) (by decide +kernel)
set_option maxRecDepth 20000 in
theorem gX3_getItem_X3_setValue : GoodIn wsX3_getItem (wsV RX3 124 RX3 yX3_setValue wsX3_setValue) := goodIn_app (goodIn_of _ (by decide +kernel)) ggX3_getItem_X3_setValue
theorem dX3_getItem_0 : decode cX3_getItem 0 = .ok (.aload_n 0, 1) := by decide +kernel
theorem dX3_getItem_1 : decode cX3_getItem 1 = .ok (.iload_n 2, 1) := by decide +kernel
theorem dX3_getItem_2 : decode cX3_getItem 2 = .ok (.iload_n 3, 1) := by decide +kernel
theorem dX3_getItem_3 : decode cX3_getItem 3 = .ok (.iconst 3, 1) := by decide +kernel
theorem dX3_getItem_4 : decode cX3_getItem 4 = .ok (.invokevirtual 177, 3) := by decide +kernel
theorem dX3_getItem_7 : decode cX3_getItem 7 = .ok (.istore 5, 2) := by decide +kernel
theorem dX3_getItem_9 : decode cX3_getItem 9 = .ok (.iload 5, 2) := by decide +kernel
theorem dX3_getItem_11 : decode cX3_getItem 11 = .ok (.ifCond .eq 6, 3) := by decide +kernel
theorem dX3_getItem_14 : decode cX3_getItem 14 = .ok (.iload 5, 2) := by decide +kernel
theorem dX3_getItem_16 : decode cX3_getItem 16 = .ok (.ireturn, 1) := by decide +kernel
theorem dX3_getItem_17 : decode cX3_getItem 17 = .ok (.aload_n 0, 1) := by decide +kernel
theorem dX3_getItem_18 : decode cX3_getItem 18 = .ok (.iload_n 2, 1) := by decide +kernel
theorem dX3_getItem_19 : decode cX3_getItem 19 = .ok (.iload_n 3, 1) := by decide +kernel
theorem dX3_getItem_20 : decode cX3_getItem 20 = .ok (.invokevirtual 180, 3) := by decide +kernel
theorem dX3_getItem_23 : decode cX3_getItem 23 = .ok (.astore 6, 2) := by decide +kernel
theorem dX3_getItem_25 : decode cX3_getItem 25 = .ok (.aload 6, 2) := by decide +kernel
theorem dX3_getItem_27 : decode cX3_getItem 27 = .ok (.iload_n 3, 1) := by decide +kernel
theorem dX3_getItem_28 : decode cX3_getItem 28 = .ok (.aload_n 0, 1) := by decide +kernel
theorem dX3_getItem_29 : decode cX3_getItem 29 = .ok (.getfield 32, 3) := by decide +kernel
theorem dX3_getItem_32 : decode cX3_getItem 32 = .ok (.iload 4, 2) := by decide +kernel
theorem dX3_getItem_34 : decode cX3_getItem 34 = .ok (.laload, 1) := by decide +kernel
theorem dX3_getItem_35 : decode cX3_getItem 35 = .ok (.invokestatic 190, 3) := by decide +kernel
theorem dX3_getItem_38 : decode cX3_getItem 38 = .ok (.istore 5, 2) := by decide +kernel
theorem dX3_getItem_40 : decode cX3_getItem 40 = .ok (.iload 5, 2) := by decide +kernel
theorem dX3_getItem_42 : decode cX3_getItem 42 = .ok (.ifCond .eq 8, 3) := by decide +kernel
theorem dX3_getItem_45 : decode cX3_getItem 45 = .ok (.iload 5, 2) := by decide +kernel
theorem dX3_getItem_47 : decode cX3_getItem 47 = .ok (.goto 27, 3) := by decide +kernel
theorem dX3_getItem_50 : decode cX3_getItem 50 = .ok (.aload_n 0, 1) := by decide +kernel
theorem dX3_getItem_51 : decode cX3_getItem 51 = .ok (.iload_n 1, 1) := by decide +kernel
theorem dX3_getItem_52 : decode cX3_getItem 52 = .ok (.aload 6, 2) := by decide +kernel
theorem dX3_getItem_54 : decode cX3_getItem 54 = .ok (.getfield 194, 3) := by decide +kernel
theorem dX3_getItem_57 : decode cX3_getItem 57 = .ok (.iload_n 3, 1) := by decide +kernel
theorem dX3_getItem_58 : decode cX3_getItem 58 = .ok (.aload_n 0, 1) := by decide +kernel
theorem dX3_getItem_59 : decode cX3_getItem 59 = .ok (.getfield 32, 3) := by decide +kernel
theorem dX3_getItem_62 : decode cX3_getItem 62 = .ok (.iload 4, 2) := by decide +kernel
theorem dX3_getItem_64 : decode cX3_getItem 64 = .ok (.laload, 1) := by decide +kernel
theorem dX3_getItem_65 : decode cX3_getItem 65 = .ok (.l2i, 1) := by decide +kernel
theorem dX3_getItem_66 : decode cX3_getItem 66 = .ok (.invokestatic 197, 3) := by decide +kernel
theorem dX3_getItem_69 : decode cX3_getItem 69 = .ok (.iaload, 1) := by decide +kernel
theorem dX3_getItem_70 : decode cX3_getItem 70 = .ok (.i2l, 1) := by decide +kernel
theorem dX3_getItem_71 : decode cX3_getItem 71 = .ok (.invokevirtual 124, 3) := by decide +kernel
theorem dX3_getItem_74 : decode cX3_getItem 74 = .ok (.ireturn, 1) := by decide +kernel
set_option maxRecDepth 20000 in
theorem ggX3_lay_X3_ask : GoodIn wsX3_lay wsX3_ask := goodIn_r _ [7, 8, 9, 10, 11, 12, 6, 13, 14, 15, 16, 17, 18, 19, 20, 21, 22, 23, 24, 25, 26, 27, 28, 29, 30, 31, 32, 33, 34, 35, 36, 37, 38, 39, 40, 41, 42, 43, 44, 45, 46, 47, 83, 84, 85, 86, 87, 88, 89, 90, 91, 92, 93, 94, 95, 96, 97, 98] (by decide +kernel) (by decide +kernel)
set_option maxRecDepth 20000 in
theorem gX3_lay_X3_ask : GoodIn wsX3_lay (wsV RX3 177 RX3 yX3_ask wsX3_ask) := goodIn_app (goodIn_of _ (by decide +kernel)) ggX3_lay_X3_ask
set_option maxRecDepth 20000 in
theorem ggX3_lay_X3_read : GoodIn wsX3_lay wsX3_read := goodIn_r _ [51, 52, 8, 9, 53, 54, 55, 56, 57, 58, 59, 60, 83, 84, 85, 86, 87, 88, 89, 90, 91, 92, 93, 99, 100, 101, 102, 103] (by decide +kernel) (by decide +kernel)
set_option maxRecDepth 20000 in
theorem gX3_lay_X3_read : GoodIn wsX3_lay (wsV RX3 180 RX3 yX3_read wsX3_read) := goodIn_app (goodIn_of _ (by decide +kernel)) ggX3_lay_X3_read
set_option maxRecDepth 20000 in
theorem ggX3_lay_X3_itemRefusal : GoodIn wsX3_lay wsX3_itemRefusal := goodIn_r _ [63, 64, 65, 66, 67, 68, 17, 69, 30, 94, 95, 96, 97, 98] (by decide +kernel) (by decide +kernel)
set_option maxRecDepth 20000 in
theorem gX3_lay_X3_itemRefusal : GoodIn wsX3_lay (va_wsS RX3 190 yX3_itemRefusal wsX3_itemRefusal) := goodIn_app (goodIn_of _ (by decide +kernel)) ggX3_lay_X3_itemRefusal
set_option maxRecDepth 20000 in
theorem ggX3_lay_X3_change : GoodIn wsX3_lay wsX3_change := goodIn_r _ [73, 52, 8, 9, 74, 75, 76, 56, 77, 78, 59, 60, 79, 83, 84, 85, 86, 87, 88, 89, 90, 91, 92, 93, 99, 100, 101, 102, 103] (by decide +kernel) (by decide +kernel)
set_option maxRecDepth 20000 in
theorem gX3_lay_X3_change : GoodIn wsX3_lay (wsV RX3 187 RX3 yX3_change wsX3_change) := goodIn_app (goodIn_of _ (by decide +kernel)) ggX3_lay_X3_change
set_option maxRecDepth 20000 in
theorem ggX3_lay_X2_itemPlace : GoodIn wsX3_lay wsX2_itemPlace := goodIn_r _ [82] (by decide +kernel) (by decide +kernel)
set_option maxRecDepth 20000 in
theorem gX3_lay_X2_itemPlace : GoodIn wsX3_lay (va_wsS RX3 197 yX2_itemPlace wsX2_itemPlace) := goodIn_app (goodIn_of _ (by decide +kernel)) ggX3_lay_X2_itemPlace
theorem dX3_lay_0 : decode cX3_lay 0 = .ok (.aload_n 0, 1) := by decide +kernel
theorem dX3_lay_1 : decode cX3_lay 1 = .ok (.iload_n 1, 1) := by decide +kernel
theorem dX3_lay_2 : decode cX3_lay 2 = .ok (.iload_n 2, 1) := by decide +kernel
theorem dX3_lay_3 : decode cX3_lay 3 = .ok (.iconst 3, 1) := by decide +kernel
theorem dX3_lay_4 : decode cX3_lay 4 = .ok (.invokevirtual 177, 3) := by decide +kernel
theorem dX3_lay_7 : decode cX3_lay 7 = .ok (.istore 5, 2) := by decide +kernel
theorem dX3_lay_9 : decode cX3_lay 9 = .ok (.iload 5, 2) := by decide +kernel
theorem dX3_lay_11 : decode cX3_lay 11 = .ok (.ifCond .eq 6, 3) := by decide +kernel
theorem dX3_lay_14 : decode cX3_lay 14 = .ok (.iload 5, 2) := by decide +kernel
theorem dX3_lay_16 : decode cX3_lay 16 = .ok (.ireturn, 1) := by decide +kernel
theorem dX3_lay_17 : decode cX3_lay 17 = .ok (.aload_n 0, 1) := by decide +kernel
theorem dX3_lay_18 : decode cX3_lay 18 = .ok (.iload_n 1, 1) := by decide +kernel
theorem dX3_lay_19 : decode cX3_lay 19 = .ok (.iload_n 2, 1) := by decide +kernel
theorem dX3_lay_20 : decode cX3_lay 20 = .ok (.invokevirtual 180, 3) := by decide +kernel
theorem dX3_lay_23 : decode cX3_lay 23 = .ok (.iload_n 2, 1) := by decide +kernel
theorem dX3_lay_24 : decode cX3_lay 24 = .ok (.aload_n 0, 1) := by decide +kernel
theorem dX3_lay_25 : decode cX3_lay 25 = .ok (.getfield 32, 3) := by decide +kernel
theorem dX3_lay_28 : decode cX3_lay 28 = .ok (.iload_n 3, 1) := by decide +kernel
theorem dX3_lay_29 : decode cX3_lay 29 = .ok (.laload, 1) := by decide +kernel
theorem dX3_lay_30 : decode cX3_lay 30 = .ok (.invokestatic 190, 3) := by decide +kernel
theorem dX3_lay_33 : decode cX3_lay 33 = .ok (.istore 5, 2) := by decide +kernel
theorem dX3_lay_35 : decode cX3_lay 35 = .ok (.iload 5, 2) := by decide +kernel
theorem dX3_lay_37 : decode cX3_lay 37 = .ok (.ifCond .ne 32, 3) := by decide +kernel
theorem dX3_lay_40 : decode cX3_lay 40 = .ok (.aload_n 0, 1) := by decide +kernel
theorem dX3_lay_41 : decode cX3_lay 41 = .ok (.iload_n 1, 1) := by decide +kernel
theorem dX3_lay_42 : decode cX3_lay 42 = .ok (.iload_n 2, 1) := by decide +kernel
theorem dX3_lay_43 : decode cX3_lay 43 = .ok (.invokevirtual 187, 3) := by decide +kernel
theorem dX3_lay_46 : decode cX3_lay 46 = .ok (.getfield 194, 3) := by decide +kernel
theorem dX3_lay_49 : decode cX3_lay 49 = .ok (.iload_n 2, 1) := by decide +kernel
theorem dX3_lay_50 : decode cX3_lay 50 = .ok (.aload_n 0, 1) := by decide +kernel
theorem dX3_lay_51 : decode cX3_lay 51 = .ok (.getfield 32, 3) := by decide +kernel
theorem dX3_lay_54 : decode cX3_lay 54 = .ok (.iload_n 3, 1) := by decide +kernel
theorem dX3_lay_55 : decode cX3_lay 55 = .ok (.laload, 1) := by decide +kernel
theorem dX3_lay_56 : decode cX3_lay 56 = .ok (.l2i, 1) := by decide +kernel
theorem dX3_lay_57 : decode cX3_lay 57 = .ok (.invokestatic 197, 3) := by decide +kernel
theorem dX3_lay_60 : decode cX3_lay 60 = .ok (.aload_n 0, 1) := by decide +kernel
theorem dX3_lay_61 : decode cX3_lay 61 = .ok (.getfield 32, 3) := by decide +kernel
theorem dX3_lay_64 : decode cX3_lay 64 = .ok (.iload 4, 2) := by decide +kernel
theorem dX3_lay_66 : decode cX3_lay 66 = .ok (.laload, 1) := by decide +kernel
theorem dX3_lay_67 : decode cX3_lay 67 = .ok (.l2i, 1) := by decide +kernel
theorem dX3_lay_68 : decode cX3_lay 68 = .ok (.iastore, 1) := by decide +kernel
theorem dX3_lay_69 : decode cX3_lay 69 = .ok (.iload 5, 2) := by decide +kernel
theorem dX3_lay_71 : decode cX3_lay 71 = .ok (.ireturn, 1) := by decide +kernel
set_option maxRecDepth 20000 in
theorem ggX3_itemRefusal_X2_hasItem : GoodIn wsX3_itemRefusal wsX2_hasItem := goodIn_r _ [7, 8, 9, 10, 11, 12, 13] (by decide +kernel) (by decide +kernel)
set_option maxRecDepth 20000 in
theorem gX3_itemRefusal_X2_hasItem : GoodIn wsX3_itemRefusal (wsV RX3 202 RX2 yX2_hasItem wsX2_hasItem) := goodIn_app (goodIn_of _ (by decide +kernel)) ggX3_itemRefusal_X2_hasItem
theorem dX3_itemRefusal_0 : decode cX3_itemRefusal 0 = .ok (.aload_n 0, 1) := by decide +kernel
theorem dX3_itemRefusal_1 : decode cX3_itemRefusal 1 = .ok (.getfield 184, 3) := by decide +kernel
theorem dX3_itemRefusal_4 : decode cX3_itemRefusal 4 = .ok (.iload_n 1, 1) := by decide +kernel
theorem dX3_itemRefusal_5 : decode cX3_itemRefusal 5 = .ok (.laload, 1) := by decide +kernel
theorem dX3_itemRefusal_6 : decode cX3_itemRefusal 6 = .ok (.ldc2_w 200, 3) := by decide +kernel
theorem dX3_itemRefusal_9 : decode cX3_itemRefusal 9 = .ok (.lcmp, 1) := by decide +kernel
theorem dX3_itemRefusal_10 : decode cX3_itemRefusal 10 = .ok (.ifCond .ne 5, 3) := by decide +kernel
theorem dX3_itemRefusal_13 : decode cX3_itemRefusal 13 = .ok (.iconst 1, 1) := by decide +kernel
theorem dX3_itemRefusal_14 : decode cX3_itemRefusal 14 = .ok (.ireturn, 1) := by decide +kernel
theorem dX3_itemRefusal_15 : decode cX3_itemRefusal 15 = .ok (.aload_n 0, 1) := by decide +kernel
theorem dX3_itemRefusal_16 : decode cX3_itemRefusal 16 = .ok (.iload_n 1, 1) := by decide +kernel
theorem dX3_itemRefusal_17 : decode cX3_itemRefusal 17 = .ok (.lload_n 2, 1) := by decide +kernel
theorem dX3_itemRefusal_18 : decode cX3_itemRefusal 18 = .ok (.invokevirtual 202, 3) := by decide +kernel
theorem dX3_itemRefusal_21 : decode cX3_itemRefusal 21 = .ok (.ifCond .eq 7, 3) := by decide +kernel
theorem dX3_itemRefusal_24 : decode cX3_itemRefusal 24 = .ok (.iconst 0, 1) := by decide +kernel
theorem dX3_itemRefusal_25 : decode cX3_itemRefusal 25 = .ok (.goto 4, 3) := by decide +kernel
theorem dX3_itemRefusal_28 : decode cX3_itemRefusal 28 = .ok (.iconst 3, 1) := by decide +kernel
theorem dX3_itemRefusal_29 : decode cX3_itemRefusal 29 = .ok (.ireturn, 1) := by decide +kernel
set_option maxRecDepth 20000 in
theorem ggX3_renew_X3_ask : GoodIn wsX3_renew wsX3_ask := goodIn_r _ [6, 7, 8, 9, 10, 11, 5, 12, 13, 14, 15, 16, 17, 18, 19, 20, 21, 22, 23, 24, 25, 26, 27, 28, 29, 30, 31, 32, 33, 34, 35, 36, 37, 38, 39, 40, 41, 42, 43, 44, 45, 46, 68, 69, 70, 71, 72, 73, 74, 75, 76, 77, 78, 79, 80, 81, 82, 83] (by decide +kernel) (by decide +kernel)
set_option maxRecDepth 20000 in
theorem gX3_renew_X3_ask : GoodIn wsX3_renew (wsV RX3 177 RX3 yX3_ask wsX3_ask) := goodIn_app (goodIn_of _ (by decide +kernel)) ggX3_renew_X3_ask
set_option maxRecDepth 20000 in
theorem ggX3_renew_X3_change : GoodIn wsX3_renew wsX3_change := goodIn_r _ [50, 51, 7, 8, 52, 53, 54, 55, 56, 57, 58, 59, 60, 68, 69, 70, 71, 72, 73, 74, 75, 76, 77, 78, 84, 85, 86, 87, 88] (by decide +kernel) (by decide +kernel)
set_option maxRecDepth 20000 in
theorem gX3_renew_X3_change : GoodIn wsX3_renew (wsV RX3 187 RX3 yX3_change wsX3_change) := goodIn_app (goodIn_of _ (by decide +kernel)) ggX3_renew_X3_change
set_option maxRecDepth 20000 in
theorem ggX3_renew_X2_renewRow : GoodIn wsX3_renew wsX2_renewRow := goodIn_r _ [64, 29, 31, 65, 66, 16, 67, 79, 80, 81, 82, 83] (by decide +kernel) (by decide +kernel)
set_option maxRecDepth 20000 in
theorem gX3_renew_X2_renewRow : GoodIn wsX3_renew (wsV RX3 208 RX2 yX2_renewRow wsX2_renewRow) := goodIn_app (goodIn_of _ (by decide +kernel)) ggX3_renew_X2_renewRow
theorem dX3_renew_0 : decode cX3_renew 0 = .ok (.aload_n 0, 1) := by decide +kernel
theorem dX3_renew_1 : decode cX3_renew 1 = .ok (.iload_n 1, 1) := by decide +kernel
theorem dX3_renew_2 : decode cX3_renew 2 = .ok (.iload_n 2, 1) := by decide +kernel
theorem dX3_renew_3 : decode cX3_renew 3 = .ok (.iconst 3, 1) := by decide +kernel
theorem dX3_renew_4 : decode cX3_renew 4 = .ok (.invokevirtual 177, 3) := by decide +kernel
theorem dX3_renew_7 : decode cX3_renew 7 = .ok (.istore 5, 2) := by decide +kernel
theorem dX3_renew_9 : decode cX3_renew 9 = .ok (.iload 5, 2) := by decide +kernel
theorem dX3_renew_11 : decode cX3_renew 11 = .ok (.ifCond .eq 6, 3) := by decide +kernel
theorem dX3_renew_14 : decode cX3_renew 14 = .ok (.iload 5, 2) := by decide +kernel
theorem dX3_renew_16 : decode cX3_renew 16 = .ok (.ireturn, 1) := by decide +kernel
theorem dX3_renew_17 : decode cX3_renew 17 = .ok (.lload_n 3, 1) := by decide +kernel
theorem dX3_renew_18 : decode cX3_renew 18 = .ok (.lconst 0, 1) := by decide +kernel
theorem dX3_renew_19 : decode cX3_renew 19 = .ok (.lcmp, 1) := by decide +kernel
theorem dX3_renew_20 : decode cX3_renew 20 = .ok (.ifCond .ge 5, 3) := by decide +kernel
theorem dX3_renew_23 : decode cX3_renew 23 = .ok (.iconst 4, 1) := by decide +kernel
theorem dX3_renew_24 : decode cX3_renew 24 = .ok (.ireturn, 1) := by decide +kernel
theorem dX3_renew_25 : decode cX3_renew 25 = .ok (.lload_n 3, 1) := by decide +kernel
theorem dX3_renew_26 : decode cX3_renew 26 = .ok (.ldc2_w 206, 3) := by decide +kernel
theorem dX3_renew_29 : decode cX3_renew 29 = .ok (.lcmp, 1) := by decide +kernel
theorem dX3_renew_30 : decode cX3_renew 30 = .ok (.ifCond .le 6, 3) := by decide +kernel
theorem dX3_renew_33 : decode cX3_renew 33 = .ok (.bipush 8, 2) := by decide +kernel
theorem dX3_renew_35 : decode cX3_renew 35 = .ok (.ireturn, 1) := by decide +kernel
theorem dX3_renew_36 : decode cX3_renew 36 = .ok (.aload_n 0, 1) := by decide +kernel
theorem dX3_renew_37 : decode cX3_renew 37 = .ok (.iload_n 1, 1) := by decide +kernel
theorem dX3_renew_38 : decode cX3_renew 38 = .ok (.iload_n 2, 1) := by decide +kernel
theorem dX3_renew_39 : decode cX3_renew 39 = .ok (.invokevirtual 187, 3) := by decide +kernel
theorem dX3_renew_42 : decode cX3_renew 42 = .ok (.iload_n 2, 1) := by decide +kernel
theorem dX3_renew_43 : decode cX3_renew 43 = .ok (.lload_n 3, 1) := by decide +kernel
theorem dX3_renew_44 : decode cX3_renew 44 = .ok (.l2i, 1) := by decide +kernel
theorem dX3_renew_45 : decode cX3_renew 45 = .ok (.invokevirtual 208, 3) := by decide +kernel
theorem dX3_renew_48 : decode cX3_renew 48 = .ok (.iconst 0, 1) := by decide +kernel
theorem dX3_renew_49 : decode cX3_renew 49 = .ok (.ireturn, 1) := by decide +kernel
set_option maxRecDepth 20000 in
theorem ggX3_shift_X3_ask : GoodIn wsX3_shift wsX3_ask := goodIn_r _ [18, 19, 20, 21, 22, 23, 17, 24, 25, 26, 27, 28, 29, 30, 31, 32, 33, 34, 35, 36, 37, 38, 39, 40, 41, 42, 43, 44, 45, 46, 47, 48, 49, 50, 51, 11, 12, 13, 52, 53, 54, 55, 93, 94, 95, 96, 97, 98, 99, 100, 101, 102, 103, 88, 89, 90, 91, 92] (by decide +kernel) (by decide +kernel)
set_option maxRecDepth 20000 in
theorem gX3_shift_X3_ask : GoodIn wsX3_shift (wsV RX3 177 RX3 yX3_ask wsX3_ask) := goodIn_app (goodIn_of _ (by decide +kernel)) ggX3_shift_X3_ask
set_option maxRecDepth 20000 in
theorem ggX3_shift_X3_read : GoodIn wsX3_shift wsX3_read := goodIn_r _ [59, 60, 19, 20, 61, 62, 63, 64, 65, 66, 67, 68, 93, 94, 95, 96, 97, 98, 99, 100, 101, 102, 103, 104, 105, 106, 107, 108] (by decide +kernel) (by decide +kernel)
set_option maxRecDepth 20000 in
theorem gX3_shift_X3_read : GoodIn wsX3_shift (wsV RX3 180 RX3 yX3_read wsX3_read) := goodIn_app (goodIn_of _ (by decide +kernel)) ggX3_shift_X3_read
set_option maxRecDepth 20000 in
theorem ggX3_shift_X3_change : GoodIn wsX3_shift wsX3_change := goodIn_r _ [72, 60, 19, 20, 73, 74, 75, 64, 76, 77, 67, 68, 78, 93, 94, 95, 96, 97, 98, 99, 100, 101, 102, 103, 104, 105, 106, 107, 108] (by decide +kernel) (by decide +kernel)
set_option maxRecDepth 20000 in
theorem gX3_shift_X3_change : GoodIn wsX3_shift (wsV RX3 187 RX3 yX3_change wsX3_change) := goodIn_app (goodIn_of _ (by decide +kernel)) ggX3_shift_X3_change
set_option maxRecDepth 20000 in
theorem ggX3_shift_X2_itemPlace : GoodIn wsX3_shift wsX2_itemPlace := goodIn_r _ [81] (by decide +kernel) (by decide +kernel)
set_option maxRecDepth 20000 in
theorem gX3_shift_X2_itemPlace : GoodIn wsX3_shift (va_wsS RX3 197 yX2_itemPlace wsX2_itemPlace) := goodIn_app (goodIn_of _ (by decide +kernel)) ggX3_shift_X2_itemPlace
theorem dX3_shift_0 : decode cX3_shift 0 = .ok (.aload_n 1, 1) := by decide +kernel
theorem dX3_shift_1 : decode cX3_shift 1 = .ok (.getfield 115, 3) := by decide +kernel
theorem dX3_shift_4 : decode cX3_shift 4 = .ok (.l2i, 1) := by decide +kernel
theorem dX3_shift_5 : decode cX3_shift 5 = .ok (.istore_n 2, 1) := by decide +kernel
theorem dX3_shift_6 : decode cX3_shift 6 = .ok (.aload_n 0, 1) := by decide +kernel
theorem dX3_shift_7 : decode cX3_shift 7 = .ok (.aload_n 1, 1) := by decide +kernel
theorem dX3_shift_8 : decode cX3_shift 8 = .ok (.getfield 110, 3) := by decide +kernel
theorem dX3_shift_11 : decode cX3_shift 11 = .ok (.iload_n 2, 1) := by decide +kernel
theorem dX3_shift_12 : decode cX3_shift 12 = .ok (.iconst 3, 1) := by decide +kernel
theorem dX3_shift_13 : decode cX3_shift 13 = .ok (.invokevirtual 177, 3) := by decide +kernel
theorem dX3_shift_16 : decode cX3_shift 16 = .ok (.istore_n 3, 1) := by decide +kernel
theorem dX3_shift_17 : decode cX3_shift 17 = .ok (.iload_n 3, 1) := by decide +kernel
theorem dX3_shift_18 : decode cX3_shift 18 = .ok (.ifCond .eq 5, 3) := by decide +kernel
theorem dX3_shift_21 : decode cX3_shift 21 = .ok (.iload_n 3, 1) := by decide +kernel
theorem dX3_shift_22 : decode cX3_shift 22 = .ok (.ireturn, 1) := by decide +kernel
theorem dX3_shift_23 : decode cX3_shift 23 = .ok (.aload_n 0, 1) := by decide +kernel
theorem dX3_shift_24 : decode cX3_shift 24 = .ok (.aload_n 1, 1) := by decide +kernel
theorem dX3_shift_25 : decode cX3_shift 25 = .ok (.getfield 110, 3) := by decide +kernel
theorem dX3_shift_28 : decode cX3_shift 28 = .ok (.iload_n 2, 1) := by decide +kernel
theorem dX3_shift_29 : decode cX3_shift 29 = .ok (.invokevirtual 180, 3) := by decide +kernel
theorem dX3_shift_32 : decode cX3_shift 32 = .ok (.astore 4, 2) := by decide +kernel
theorem dX3_shift_34 : decode cX3_shift 34 = .ok (.aload_n 1, 1) := by decide +kernel
theorem dX3_shift_35 : decode cX3_shift 35 = .ok (.getfield 139, 3) := by decide +kernel
theorem dX3_shift_38 : decode cX3_shift 38 = .ok (.istore 5, 2) := by decide +kernel
theorem dX3_shift_40 : decode cX3_shift 40 = .ok (.aload_n 0, 1) := by decide +kernel
theorem dX3_shift_41 : decode cX3_shift 41 = .ok (.aload_n 1, 1) := by decide +kernel
theorem dX3_shift_42 : decode cX3_shift 42 = .ok (.getfield 118, 3) := by decide +kernel
theorem dX3_shift_45 : decode cX3_shift 45 = .ok (.iload 5, 2) := by decide +kernel
theorem dX3_shift_47 : decode cX3_shift 47 = .ok (.iconst 3, 1) := by decide +kernel
theorem dX3_shift_48 : decode cX3_shift 48 = .ok (.invokevirtual 177, 3) := by decide +kernel
theorem dX3_shift_51 : decode cX3_shift 51 = .ok (.istore_n 3, 1) := by decide +kernel
theorem dX3_shift_52 : decode cX3_shift 52 = .ok (.iload_n 3, 1) := by decide +kernel
theorem dX3_shift_53 : decode cX3_shift 53 = .ok (.ifCond .eq 5, 3) := by decide +kernel
theorem dX3_shift_56 : decode cX3_shift 56 = .ok (.iload_n 3, 1) := by decide +kernel
theorem dX3_shift_57 : decode cX3_shift 57 = .ok (.ireturn, 1) := by decide +kernel
theorem dX3_shift_58 : decode cX3_shift 58 = .ok (.aload_n 0, 1) := by decide +kernel
theorem dX3_shift_59 : decode cX3_shift 59 = .ok (.aload_n 1, 1) := by decide +kernel
theorem dX3_shift_60 : decode cX3_shift 60 = .ok (.getfield 118, 3) := by decide +kernel
theorem dX3_shift_63 : decode cX3_shift 63 = .ok (.iload 5, 2) := by decide +kernel
theorem dX3_shift_65 : decode cX3_shift 65 = .ok (.invokevirtual 180, 3) := by decide +kernel
theorem dX3_shift_68 : decode cX3_shift 68 = .ok (.astore 6, 2) := by decide +kernel
theorem dX3_shift_70 : decode cX3_shift 70 = .ok (.aload 4, 2) := by decide +kernel
theorem dX3_shift_72 : decode cX3_shift 72 = .ok (.getfield 184, 3) := by decide +kernel
theorem dX3_shift_75 : decode cX3_shift 75 = .ok (.iload_n 2, 1) := by decide +kernel
theorem dX3_shift_76 : decode cX3_shift 76 = .ok (.laload, 1) := by decide +kernel
theorem dX3_shift_77 : decode cX3_shift 77 = .ok (.ldc2_w 200, 3) := by decide +kernel
theorem dX3_shift_80 : decode cX3_shift 80 = .ok (.lcmp, 1) := by decide +kernel
theorem dX3_shift_81 : decode cX3_shift 81 = .ok (.ifCond .eq 18, 3) := by decide +kernel
theorem dX3_shift_84 : decode cX3_shift 84 = .ok (.aload 6, 2) := by decide +kernel
theorem dX3_shift_86 : decode cX3_shift 86 = .ok (.getfield 184, 3) := by decide +kernel
theorem dX3_shift_89 : decode cX3_shift 89 = .ok (.iload 5, 2) := by decide +kernel
theorem dX3_shift_91 : decode cX3_shift 91 = .ok (.laload, 1) := by decide +kernel
theorem dX3_shift_92 : decode cX3_shift 92 = .ok (.ldc2_w 200, 3) := by decide +kernel
theorem dX3_shift_95 : decode cX3_shift 95 = .ok (.lcmp, 1) := by decide +kernel
theorem dX3_shift_96 : decode cX3_shift 96 = .ok (.ifCond .ne 5, 3) := by decide +kernel
theorem dX3_shift_99 : decode cX3_shift 99 = .ok (.iconst 1, 1) := by decide +kernel
theorem dX3_shift_100 : decode cX3_shift 100 = .ok (.ireturn, 1) := by decide +kernel
theorem dX3_shift_101 : decode cX3_shift 101 = .ok (.aload_n 0, 1) := by decide +kernel
theorem dX3_shift_102 : decode cX3_shift 102 = .ok (.getfield 32, 3) := by decide +kernel
theorem dX3_shift_105 : decode cX3_shift 105 = .ok (.aload_n 1, 1) := by decide +kernel
theorem dX3_shift_106 : decode cX3_shift 106 = .ok (.getfield 211, 3) := by decide +kernel
theorem dX3_shift_109 : decode cX3_shift 109 = .ok (.laload, 1) := by decide +kernel
theorem dX3_shift_110 : decode cX3_shift 110 = .ok (.lstore 7, 2) := by decide +kernel
theorem dX3_shift_112 : decode cX3_shift 112 = .ok (.lload 7, 2) := by decide +kernel
theorem dX3_shift_114 : decode cX3_shift 114 = .ok (.lconst 0, 1) := by decide +kernel
theorem dX3_shift_115 : decode cX3_shift 115 = .ok (.lcmp, 1) := by decide +kernel
theorem dX3_shift_116 : decode cX3_shift 116 = .ok (.ifCond .lt 30, 3) := by decide +kernel
theorem dX3_shift_119 : decode cX3_shift 119 = .ok (.lload 7, 2) := by decide +kernel
theorem dX3_shift_121 : decode cX3_shift 121 = .ok (.aload 4, 2) := by decide +kernel
theorem dX3_shift_123 : decode cX3_shift 123 = .ok (.getfield 184, 3) := by decide +kernel
theorem dX3_shift_126 : decode cX3_shift 126 = .ok (.iload_n 2, 1) := by decide +kernel
theorem dX3_shift_127 : decode cX3_shift 127 = .ok (.laload, 1) := by decide +kernel
theorem dX3_shift_128 : decode cX3_shift 128 = .ok (.lcmp, 1) := by decide +kernel
theorem dX3_shift_129 : decode cX3_shift 129 = .ok (.ifCond .gt 17, 3) := by decide +kernel
theorem dX3_shift_132 : decode cX3_shift 132 = .ok (.lload 7, 2) := by decide +kernel
theorem dX3_shift_134 : decode cX3_shift 134 = .ok (.aload 6, 2) := by decide +kernel
theorem dX3_shift_136 : decode cX3_shift 136 = .ok (.getfield 184, 3) := by decide +kernel
theorem dX3_shift_139 : decode cX3_shift 139 = .ok (.iload 5, 2) := by decide +kernel
theorem dX3_shift_141 : decode cX3_shift 141 = .ok (.laload, 1) := by decide +kernel
theorem dX3_shift_142 : decode cX3_shift 142 = .ok (.lcmp, 1) := by decide +kernel
theorem dX3_shift_143 : decode cX3_shift 143 = .ok (.ifCond .le 5, 3) := by decide +kernel
theorem dX3_shift_146 : decode cX3_shift 146 = .ok (.iconst 3, 1) := by decide +kernel
theorem dX3_shift_147 : decode cX3_shift 147 = .ok (.ireturn, 1) := by decide +kernel
theorem dX3_shift_148 : decode cX3_shift 148 = .ok (.aload_n 0, 1) := by decide +kernel
theorem dX3_shift_149 : decode cX3_shift 149 = .ok (.aload_n 1, 1) := by decide +kernel
theorem dX3_shift_150 : decode cX3_shift 150 = .ok (.getfield 118, 3) := by decide +kernel
theorem dX3_shift_153 : decode cX3_shift 153 = .ok (.iload 5, 2) := by decide +kernel
theorem dX3_shift_155 : decode cX3_shift 155 = .ok (.invokevirtual 187, 3) := by decide +kernel
theorem dX3_shift_158 : decode cX3_shift 158 = .ok (.pop, 1) := by decide +kernel
theorem dX3_shift_159 : decode cX3_shift 159 = .ok (.aload 4, 2) := by decide +kernel
theorem dX3_shift_161 : decode cX3_shift 161 = .ok (.getfield 194, 3) := by decide +kernel
theorem dX3_shift_164 : decode cX3_shift 164 = .ok (.iload_n 2, 1) := by decide +kernel
theorem dX3_shift_165 : decode cX3_shift 165 = .ok (.iconst 0, 1) := by decide +kernel
theorem dX3_shift_166 : decode cX3_shift 166 = .ok (.invokestatic 197, 3) := by decide +kernel
theorem dX3_shift_169 : decode cX3_shift 169 = .ok (.aload 6, 2) := by decide +kernel
theorem dX3_shift_171 : decode cX3_shift 171 = .ok (.getfield 194, 3) := by decide +kernel
theorem dX3_shift_174 : decode cX3_shift 174 = .ok (.iload 5, 2) := by decide +kernel
theorem dX3_shift_176 : decode cX3_shift 176 = .ok (.iconst 0, 1) := by decide +kernel
theorem dX3_shift_177 : decode cX3_shift 177 = .ok (.invokestatic 197, 3) := by decide +kernel
theorem dX3_shift_180 : decode cX3_shift 180 = .ok (.lload 7, 2) := by decide +kernel
theorem dX3_shift_182 : decode cX3_shift 182 = .ok (.l2i, 1) := by decide +kernel
theorem dX3_shift_183 : decode cX3_shift 183 = .ok (.invokestatic 214, 3) := by decide +kernel
theorem dX3_shift_186 : decode cX3_shift 186 = .ok (.iconst 0, 1) := by decide +kernel
theorem dX3_shift_187 : decode cX3_shift 187 = .ok (.ireturn, 1) := by decide +kernel
set_option maxRecDepth 20000 in
theorem ggX3_areAlike_X3_load : GoodIn wsX3_areAlike wsX3_load := goodIn_r _ [9, 10, 3, 11, 12, 13, 1, 2, 14, 15, 16, 17, 18, 19, 20, 21, 22, 23, 24, 25, 26, 27, 28, 29, 30, 31, 32, 33, 34, 35, 36, 37, 62, 63, 64, 65, 66, 67, 68, 69, 70, 71, 72, 73, 74, 75, 76, 77] (by decide +kernel) (by decide +kernel)
set_option maxRecDepth 20000 in
theorem gX3_areAlike_X3_load : GoodIn wsX3_areAlike (wsV RX3 64 RX3 yX3_load wsX3_load) := goodIn_app (goodIn_of _ (by decide +kernel)) ggX3_areAlike_X3_load
set_option maxRecDepth 20000 in
theorem ggX3_areAlike_X2_sortOf : GoodIn wsX3_areAlike wsX2_sortOf := goodIn_r _ [41, 28, 27, 73, 74, 75, 76, 77] (by decide +kernel) (by decide +kernel)
set_option maxRecDepth 20000 in
theorem gX3_areAlike_X2_sortOf : GoodIn wsX3_areAlike (wsV RX3 168 RX2 yX2_sortOf wsX2_sortOf) := goodIn_app (goodIn_of _ (by decide +kernel)) ggX3_areAlike_X2_sortOf
set_option maxRecDepth 20000 in
theorem ggX3_areAlike_X4_noteRead : GoodIn wsX3_areAlike wsX4_noteRead := goodIn_r _ [46, 47, 48, 49, 78, 79, 80, 81, 82] (by decide +kernel) (by decide +kernel)
set_option maxRecDepth 20000 in
theorem gX3_areAlike_X4_noteRead : GoodIn wsX3_areAlike (wsV RX3 171 RX4 yX4_noteRead wsX4_noteRead) := goodIn_app (goodIn_of _ (by decide +kernel)) ggX3_areAlike_X4_noteRead
set_option maxRecDepth 20000 in
theorem ggX3_areAlike_X2_hasSameField : GoodIn wsX3_areAlike wsX2_hasSameField := goodIn_r _ [53, 24, 54, 39, 40, 13, 41, 28, 27, 55, 56, 57, 58, 26, 59, 60, 61, 73, 74, 75, 76, 77] (by decide +kernel) (by decide +kernel)
set_option maxRecDepth 20000 in
theorem gX3_areAlike_X2_hasSameField : GoodIn wsX3_areAlike (wsV RX3 93 RX2 yX2_hasSameField wsX2_hasSameField) := goodIn_app (goodIn_of _ (by decide +kernel)) ggX3_areAlike_X2_hasSameField
theorem dX3_areAlike_0 : decode cX3_areAlike 0 = .ok (.iload_n 1, 1) := by decide +kernel
theorem dX3_areAlike_1 : decode cX3_areAlike 1 = .ok (.iload_n 2, 1) := by decide +kernel
theorem dX3_areAlike_2 : decode cX3_areAlike 2 = .ok (.if_icmp .ne 5, 3) := by decide +kernel
theorem dX3_areAlike_5 : decode cX3_areAlike 5 = .ok (.iconst 1, 1) := by decide +kernel
theorem dX3_areAlike_6 : decode cX3_areAlike 6 = .ok (.ireturn, 1) := by decide +kernel
theorem dX3_areAlike_7 : decode cX3_areAlike 7 = .ok (.iload_n 1, 1) := by decide +kernel
theorem dX3_areAlike_8 : decode cX3_areAlike 8 = .ok (.bipush (-3), 2) := by decide +kernel
theorem dX3_areAlike_10 : decode cX3_areAlike 10 = .ok (.if_icmp .eq 30, 3) := by decide +kernel
theorem dX3_areAlike_13 : decode cX3_areAlike 13 = .ok (.iload_n 2, 1) := by decide +kernel
theorem dX3_areAlike_14 : decode cX3_areAlike 14 = .ok (.bipush (-3), 2) := by decide +kernel
theorem dX3_areAlike_16 : decode cX3_areAlike 16 = .ok (.if_icmp .eq 24, 3) := by decide +kernel
theorem dX3_areAlike_19 : decode cX3_areAlike 19 = .ok (.aload_n 0, 1) := by decide +kernel
theorem dX3_areAlike_20 : decode cX3_areAlike 20 = .ok (.getfield 36, 3) := by decide +kernel
theorem dX3_areAlike_23 : decode cX3_areAlike 23 = .ok (.iload_n 1, 1) := by decide +kernel
theorem dX3_areAlike_24 : decode cX3_areAlike 24 = .ok (.aaload, 1) := by decide +kernel
theorem dX3_areAlike_25 : decode cX3_areAlike 25 = .ok (.getfield 101, 3) := by decide +kernel
theorem dX3_areAlike_28 : decode cX3_areAlike 28 = .ok (.aload_n 0, 1) := by decide +kernel
theorem dX3_areAlike_29 : decode cX3_areAlike 29 = .ok (.getfield 36, 3) := by decide +kernel
theorem dX3_areAlike_32 : decode cX3_areAlike 32 = .ok (.iload_n 2, 1) := by decide +kernel
theorem dX3_areAlike_33 : decode cX3_areAlike 33 = .ok (.aaload, 1) := by decide +kernel
theorem dX3_areAlike_34 : decode cX3_areAlike 34 = .ok (.getfield 101, 3) := by decide +kernel
theorem dX3_areAlike_37 : decode cX3_areAlike 37 = .ok (.if_icmp .eq 5, 3) := by decide +kernel
theorem dX3_areAlike_40 : decode cX3_areAlike 40 = .ok (.iconst 0, 1) := by decide +kernel
theorem dX3_areAlike_41 : decode cX3_areAlike 41 = .ok (.ireturn, 1) := by decide +kernel
theorem dX3_areAlike_42 : decode cX3_areAlike 42 = .ok (.aload_n 0, 1) := by decide +kernel
theorem dX3_areAlike_43 : decode cX3_areAlike 43 = .ok (.iload_n 1, 1) := by decide +kernel
theorem dX3_areAlike_44 : decode cX3_areAlike 44 = .ok (.invokevirtual 64, 3) := by decide +kernel
theorem dX3_areAlike_47 : decode cX3_areAlike 47 = .ok (.aload_n 0, 1) := by decide +kernel
theorem dX3_areAlike_48 : decode cX3_areAlike 48 = .ok (.iload_n 2, 1) := by decide +kernel
theorem dX3_areAlike_49 : decode cX3_areAlike 49 = .ok (.invokevirtual 64, 3) := by decide +kernel
theorem dX3_areAlike_52 : decode cX3_areAlike 52 = .ok (.iconst 0, 1) := by decide +kernel
theorem dX3_areAlike_53 : decode cX3_areAlike 53 = .ok (.istore_n 3, 1) := by decide +kernel
theorem dX3_areAlike_54 : decode cX3_areAlike 54 = .ok (.iload_n 3, 1) := by decide +kernel
theorem dX3_areAlike_55 : decode cX3_areAlike 55 = .ok (.bipush 8, 2) := by decide +kernel
theorem dX3_areAlike_57 : decode cX3_areAlike 57 = .ok (.if_icmp .ge 61, 3) := by decide +kernel
theorem dX3_areAlike_60 : decode cX3_areAlike 60 = .ok (.aload_n 0, 1) := by decide +kernel
theorem dX3_areAlike_61 : decode cX3_areAlike 61 = .ok (.getfield 24, 3) := by decide +kernel
theorem dX3_areAlike_64 : decode cX3_areAlike 64 = .ok (.iload_n 1, 1) := by decide +kernel
theorem dX3_areAlike_65 : decode cX3_areAlike 65 = .ok (.aaload, 1) := by decide +kernel
theorem dX3_areAlike_66 : decode cX3_areAlike 66 = .ok (.iload_n 3, 1) := by decide +kernel
theorem dX3_areAlike_67 : decode cX3_areAlike 67 = .ok (.invokevirtual 168, 3) := by decide +kernel
theorem dX3_areAlike_70 : decode cX3_areAlike 70 = .ok (.ifCond .eq 48, 3) := by decide +kernel
theorem dX3_areAlike_73 : decode cX3_areAlike 73 = .ok (.aload_n 0, 1) := by decide +kernel
theorem dX3_areAlike_74 : decode cX3_areAlike 74 = .ok (.getfield 12, 3) := by decide +kernel
theorem dX3_areAlike_77 : decode cX3_areAlike 77 = .ok (.iload_n 1, 1) := by decide +kernel
theorem dX3_areAlike_78 : decode cX3_areAlike 78 = .ok (.iload_n 3, 1) := by decide +kernel
theorem dX3_areAlike_79 : decode cX3_areAlike 79 = .ok (.invokevirtual 171, 3) := by decide +kernel
theorem dX3_areAlike_82 : decode cX3_areAlike 82 = .ok (.aload_n 0, 1) := by decide +kernel
theorem dX3_areAlike_83 : decode cX3_areAlike 83 = .ok (.getfield 12, 3) := by decide +kernel
theorem dX3_areAlike_86 : decode cX3_areAlike 86 = .ok (.iload_n 2, 1) := by decide +kernel
theorem dX3_areAlike_87 : decode cX3_areAlike 87 = .ok (.iload_n 3, 1) := by decide +kernel
theorem dX3_areAlike_88 : decode cX3_areAlike 88 = .ok (.invokevirtual 171, 3) := by decide +kernel
theorem dX3_areAlike_91 : decode cX3_areAlike 91 = .ok (.aload_n 0, 1) := by decide +kernel
theorem dX3_areAlike_92 : decode cX3_areAlike 92 = .ok (.getfield 24, 3) := by decide +kernel
theorem dX3_areAlike_95 : decode cX3_areAlike 95 = .ok (.iload_n 1, 1) := by decide +kernel
theorem dX3_areAlike_96 : decode cX3_areAlike 96 = .ok (.aaload, 1) := by decide +kernel
theorem dX3_areAlike_97 : decode cX3_areAlike 97 = .ok (.aload_n 0, 1) := by decide +kernel
theorem dX3_areAlike_98 : decode cX3_areAlike 98 = .ok (.getfield 24, 3) := by decide +kernel
theorem dX3_areAlike_101 : decode cX3_areAlike 101 = .ok (.iload_n 2, 1) := by decide +kernel
theorem dX3_areAlike_102 : decode cX3_areAlike 102 = .ok (.aaload, 1) := by decide +kernel
theorem dX3_areAlike_103 : decode cX3_areAlike 103 = .ok (.iload_n 3, 1) := by decide +kernel
theorem dX3_areAlike_104 : decode cX3_areAlike 104 = .ok (.invokevirtual 93, 3) := by decide +kernel
theorem dX3_areAlike_107 : decode cX3_areAlike 107 = .ok (.ifCond .ne 5, 3) := by decide +kernel
theorem dX3_areAlike_110 : decode cX3_areAlike 110 = .ok (.iconst 0, 1) := by decide +kernel
theorem dX3_areAlike_111 : decode cX3_areAlike 111 = .ok (.ireturn, 1) := by decide +kernel
theorem dX3_areAlike_112 : decode cX3_areAlike 112 = .ok (.iinc 3 1, 3) := by decide +kernel
theorem dX3_areAlike_115 : decode cX3_areAlike 115 = .ok (.goto (-61), 3) := by decide +kernel
theorem dX3_areAlike_118 : decode cX3_areAlike 118 = .ok (.iconst 1, 1) := by decide +kernel
theorem dX3_areAlike_119 : decode cX3_areAlike 119 = .ok (.ireturn, 1) := by decide +kernel
theorem dX4_init_0 : decode cX4_init 0 = .ok (.aload_n 0, 1) := by decide +kernel
theorem dX4_init_1 : decode cX4_init 1 = .ok (.invokespecial 3, 3) := by decide +kernel
theorem dX4_init_4 : decode cX4_init 4 = .ok (.aload_n 0, 1) := by decide +kernel
theorem dX4_init_5 : decode cX4_init 5 = .ok (.sipush 384, 3) := by decide +kernel
theorem dX4_init_8 : decode cX4_init 8 = .ok (.newarray .int, 2) := by decide +kernel
theorem dX4_init_10 : decode cX4_init 10 = .ok (.putfield 9, 3) := by decide +kernel
theorem dX4_init_13 : decode cX4_init 13 = .ok (.aload_n 0, 1) := by decide +kernel
theorem dX4_init_14 : decode cX4_init 14 = .ok (.bipush 24, 2) := by decide +kernel
theorem dX4_init_16 : decode cX4_init 16 = .ok (.newarray .int, 2) := by decide +kernel
theorem dX4_init_18 : decode cX4_init 18 = .ok (.putfield 15, 3) := by decide +kernel
theorem dX4_init_21 : decode cX4_init 21 = .ok (.aload_n 0, 1) := by decide +kernel
theorem dX4_init_22 : decode cX4_init 22 = .ok (.bipush 24, 2) := by decide +kernel
theorem dX4_init_24 : decode cX4_init 24 = .ok (.newarray .int, 2) := by decide +kernel
theorem dX4_init_26 : decode cX4_init 26 = .ok (.putfield 18, 3) := by decide +kernel
theorem dX4_init_29 : decode cX4_init 29 = .ok (.return_, 1) := by decide +kernel
set_option maxRecDepth 20000 in
theorem ggX4_restart_J7_fill_53178 : GoodIn wsX4_restart wsJ7_fill_53178 := goodIn_r _ [8] (by decide +kernel) (by decide +kernel)
set_option maxRecDepth 20000 in
theorem gX4_restart_J7_fill_53178 : GoodIn wsX4_restart (va_wsS RX4 28 yJ7_fill_53178 wsJ7_fill_53178) := goodIn_app (goodIn_of _ (by decide +kernel)) ggX4_restart_J7_fill_53178
theorem dX4_restart_0 : decode cX4_restart 0 = .ok (.aload_n 0, 1) := by decide +kernel
theorem dX4_restart_1 : decode cX4_restart 1 = .ok (.iconst 0, 1) := by decide +kernel
theorem dX4_restart_2 : decode cX4_restart 2 = .ok (.putfield 21, 3) := by decide +kernel
theorem dX4_restart_5 : decode cX4_restart 5 = .ok (.aload_n 0, 1) := by decide +kernel
theorem dX4_restart_6 : decode cX4_restart 6 = .ok (.iconst 0, 1) := by decide +kernel
theorem dX4_restart_7 : decode cX4_restart 7 = .ok (.putfield 25, 3) := by decide +kernel
theorem dX4_restart_10 : decode cX4_restart 10 = .ok (.aload_n 0, 1) := by decide +kernel
theorem dX4_restart_11 : decode cX4_restart 11 = .ok (.getfield 15, 3) := by decide +kernel
theorem dX4_restart_14 : decode cX4_restart 14 = .ok (.iconst 0, 1) := by decide +kernel
theorem dX4_restart_15 : decode cX4_restart 15 = .ok (.invokestatic 28, 3) := by decide +kernel
theorem dX4_restart_18 : decode cX4_restart 18 = .ok (.aload_n 0, 1) := by decide +kernel
theorem dX4_restart_19 : decode cX4_restart 19 = .ok (.getfield 18, 3) := by decide +kernel
theorem dX4_restart_22 : decode cX4_restart 22 = .ok (.iconst 0, 1) := by decide +kernel
theorem dX4_restart_23 : decode cX4_restart 23 = .ok (.invokestatic 28, 3) := by decide +kernel
theorem dX4_restart_26 : decode cX4_restart 26 = .ok (.return_, 1) := by decide +kernel
theorem dX4_noteRead_0 : decode cX4_noteRead 0 = .ok (.aload_n 0, 1) := by decide +kernel
theorem dX4_noteRead_1 : decode cX4_noteRead 1 = .ok (.getfield 15, 3) := by decide +kernel
theorem dX4_noteRead_4 : decode cX4_noteRead 4 = .ok (.iload_n 1, 1) := by decide +kernel
theorem dX4_noteRead_5 : decode cX4_noteRead 5 = .ok (.iaload, 1) := by decide +kernel
theorem dX4_noteRead_6 : decode cX4_noteRead 6 = .ok (.iconst 1, 1) := by decide +kernel
theorem dX4_noteRead_7 : decode cX4_noteRead 7 = .ok (.iload_n 2, 1) := by decide +kernel
theorem dX4_noteRead_8 : decode cX4_noteRead 8 = .ok (.ishl, 1) := by decide +kernel
theorem dX4_noteRead_9 : decode cX4_noteRead 9 = .ok (.iand, 1) := by decide +kernel
theorem dX4_noteRead_10 : decode cX4_noteRead 10 = .ok (.ifCond .ne 42, 3) := by decide +kernel
theorem dX4_noteRead_13 : decode cX4_noteRead 13 = .ok (.aload_n 0, 1) := by decide +kernel
theorem dX4_noteRead_14 : decode cX4_noteRead 14 = .ok (.getfield 15, 3) := by decide +kernel
theorem dX4_noteRead_17 : decode cX4_noteRead 17 = .ok (.iload_n 1, 1) := by decide +kernel
theorem dX4_noteRead_18 : decode cX4_noteRead 18 = .ok (.dup2, 1) := by decide +kernel
theorem dX4_noteRead_19 : decode cX4_noteRead 19 = .ok (.iaload, 1) := by decide +kernel
theorem dX4_noteRead_20 : decode cX4_noteRead 20 = .ok (.iconst 1, 1) := by decide +kernel
theorem dX4_noteRead_21 : decode cX4_noteRead 21 = .ok (.iload_n 2, 1) := by decide +kernel
theorem dX4_noteRead_22 : decode cX4_noteRead 22 = .ok (.ishl, 1) := by decide +kernel
theorem dX4_noteRead_23 : decode cX4_noteRead 23 = .ok (.ior, 1) := by decide +kernel
theorem dX4_noteRead_24 : decode cX4_noteRead 24 = .ok (.iastore, 1) := by decide +kernel
theorem dX4_noteRead_25 : decode cX4_noteRead 25 = .ok (.aload_n 0, 1) := by decide +kernel
theorem dX4_noteRead_26 : decode cX4_noteRead 26 = .ok (.getfield 9, 3) := by decide +kernel
theorem dX4_noteRead_29 : decode cX4_noteRead 29 = .ok (.aload_n 0, 1) := by decide +kernel
theorem dX4_noteRead_30 : decode cX4_noteRead 30 = .ok (.getfield 21, 3) := by decide +kernel
theorem dX4_noteRead_33 : decode cX4_noteRead 33 = .ok (.iconst 2, 1) := by decide +kernel
theorem dX4_noteRead_34 : decode cX4_noteRead 34 = .ok (.bipush 8, 2) := by decide +kernel
theorem dX4_noteRead_36 : decode cX4_noteRead 36 = .ok (.iload_n 1, 1) := by decide +kernel
theorem dX4_noteRead_37 : decode cX4_noteRead 37 = .ok (.imul, 1) := by decide +kernel
theorem dX4_noteRead_38 : decode cX4_noteRead 38 = .ok (.iload_n 2, 1) := by decide +kernel
theorem dX4_noteRead_39 : decode cX4_noteRead 39 = .ok (.iadd, 1) := by decide +kernel
theorem dX4_noteRead_40 : decode cX4_noteRead 40 = .ok (.imul, 1) := by decide +kernel
theorem dX4_noteRead_41 : decode cX4_noteRead 41 = .ok (.iastore, 1) := by decide +kernel
theorem dX4_noteRead_42 : decode cX4_noteRead 42 = .ok (.aload_n 0, 1) := by decide +kernel
theorem dX4_noteRead_43 : decode cX4_noteRead 43 = .ok (.dup, 1) := by decide +kernel
theorem dX4_noteRead_44 : decode cX4_noteRead 44 = .ok (.getfield 21, 3) := by decide +kernel
theorem dX4_noteRead_47 : decode cX4_noteRead 47 = .ok (.iconst 1, 1) := by decide +kernel
theorem dX4_noteRead_48 : decode cX4_noteRead 48 = .ok (.iadd, 1) := by decide +kernel
theorem dX4_noteRead_49 : decode cX4_noteRead 49 = .ok (.putfield 21, 3) := by decide +kernel
theorem dX4_noteRead_52 : decode cX4_noteRead 52 = .ok (.return_, 1) := by decide +kernel
theorem dX4_noteChanged_0 : decode cX4_noteChanged 0 = .ok (.aload_n 0, 1) := by decide +kernel
theorem dX4_noteChanged_1 : decode cX4_noteChanged 1 = .ok (.getfield 18, 3) := by decide +kernel
theorem dX4_noteChanged_4 : decode cX4_noteChanged 4 = .ok (.iload_n 1, 1) := by decide +kernel
theorem dX4_noteChanged_5 : decode cX4_noteChanged 5 = .ok (.iaload, 1) := by decide +kernel
theorem dX4_noteChanged_6 : decode cX4_noteChanged 6 = .ok (.iconst 1, 1) := by decide +kernel
theorem dX4_noteChanged_7 : decode cX4_noteChanged 7 = .ok (.iload_n 2, 1) := by decide +kernel
theorem dX4_noteChanged_8 : decode cX4_noteChanged 8 = .ok (.ishl, 1) := by decide +kernel
theorem dX4_noteChanged_9 : decode cX4_noteChanged 9 = .ok (.iand, 1) := by decide +kernel
theorem dX4_noteChanged_10 : decode cX4_noteChanged 10 = .ok (.ifCond .ne 54, 3) := by decide +kernel
theorem dX4_noteChanged_13 : decode cX4_noteChanged 13 = .ok (.aload_n 0, 1) := by decide +kernel
theorem dX4_noteChanged_14 : decode cX4_noteChanged 14 = .ok (.getfield 18, 3) := by decide +kernel
theorem dX4_noteChanged_17 : decode cX4_noteChanged 17 = .ok (.iload_n 1, 1) := by decide +kernel
theorem dX4_noteChanged_18 : decode cX4_noteChanged 18 = .ok (.dup2, 1) := by decide +kernel
theorem dX4_noteChanged_19 : decode cX4_noteChanged 19 = .ok (.iaload, 1) := by decide +kernel
theorem dX4_noteChanged_20 : decode cX4_noteChanged 20 = .ok (.iconst 1, 1) := by decide +kernel
theorem dX4_noteChanged_21 : decode cX4_noteChanged 21 = .ok (.iload_n 2, 1) := by decide +kernel
theorem dX4_noteChanged_22 : decode cX4_noteChanged 22 = .ok (.ishl, 1) := by decide +kernel
theorem dX4_noteChanged_23 : decode cX4_noteChanged 23 = .ok (.ior, 1) := by decide +kernel
theorem dX4_noteChanged_24 : decode cX4_noteChanged 24 = .ok (.iastore, 1) := by decide +kernel
theorem dX4_noteChanged_25 : decode cX4_noteChanged 25 = .ok (.aload_n 0, 1) := by decide +kernel
theorem dX4_noteChanged_26 : decode cX4_noteChanged 26 = .ok (.getfield 9, 3) := by decide +kernel
theorem dX4_noteChanged_29 : decode cX4_noteChanged 29 = .ok (.aload_n 0, 1) := by decide +kernel
theorem dX4_noteChanged_30 : decode cX4_noteChanged 30 = .ok (.getfield 21, 3) := by decide +kernel
theorem dX4_noteChanged_33 : decode cX4_noteChanged 33 = .ok (.iconst 2, 1) := by decide +kernel
theorem dX4_noteChanged_34 : decode cX4_noteChanged 34 = .ok (.bipush 8, 2) := by decide +kernel
theorem dX4_noteChanged_36 : decode cX4_noteChanged 36 = .ok (.iload_n 1, 1) := by decide +kernel
theorem dX4_noteChanged_37 : decode cX4_noteChanged 37 = .ok (.imul, 1) := by decide +kernel
theorem dX4_noteChanged_38 : decode cX4_noteChanged 38 = .ok (.iload_n 2, 1) := by decide +kernel
theorem dX4_noteChanged_39 : decode cX4_noteChanged 39 = .ok (.iadd, 1) := by decide +kernel
theorem dX4_noteChanged_40 : decode cX4_noteChanged 40 = .ok (.imul, 1) := by decide +kernel
theorem dX4_noteChanged_41 : decode cX4_noteChanged 41 = .ok (.iconst 1, 1) := by decide +kernel
theorem dX4_noteChanged_42 : decode cX4_noteChanged 42 = .ok (.iadd, 1) := by decide +kernel
theorem dX4_noteChanged_43 : decode cX4_noteChanged 43 = .ok (.iastore, 1) := by decide +kernel
theorem dX4_noteChanged_44 : decode cX4_noteChanged 44 = .ok (.aload_n 0, 1) := by decide +kernel
theorem dX4_noteChanged_45 : decode cX4_noteChanged 45 = .ok (.dup, 1) := by decide +kernel
theorem dX4_noteChanged_46 : decode cX4_noteChanged 46 = .ok (.getfield 21, 3) := by decide +kernel
theorem dX4_noteChanged_49 : decode cX4_noteChanged 49 = .ok (.iconst 1, 1) := by decide +kernel
theorem dX4_noteChanged_50 : decode cX4_noteChanged 50 = .ok (.iadd, 1) := by decide +kernel
theorem dX4_noteChanged_51 : decode cX4_noteChanged 51 = .ok (.putfield 21, 3) := by decide +kernel
theorem dX4_noteChanged_54 : decode cX4_noteChanged 54 = .ok (.aload_n 0, 1) := by decide +kernel
theorem dX4_noteChanged_55 : decode cX4_noteChanged 55 = .ok (.dup, 1) := by decide +kernel
theorem dX4_noteChanged_56 : decode cX4_noteChanged 56 = .ok (.getfield 25, 3) := by decide +kernel
theorem dX4_noteChanged_59 : decode cX4_noteChanged 59 = .ok (.iconst 1, 1) := by decide +kernel
theorem dX4_noteChanged_60 : decode cX4_noteChanged 60 = .ok (.iadd, 1) := by decide +kernel
theorem dX4_noteChanged_61 : decode cX4_noteChanged 61 = .ok (.putfield 25, 3) := by decide +kernel
theorem dX4_noteChanged_64 : decode cX4_noteChanged 64 = .ok (.return_, 1) := by decide +kernel
theorem dX4_isSameAs_0 : decode cX4_isSameAs 0 = .ok (.aload_n 0, 1) := by decide +kernel
theorem dX4_isSameAs_1 : decode cX4_isSameAs 1 = .ok (.getfield 21, 3) := by decide +kernel
theorem dX4_isSameAs_4 : decode cX4_isSameAs 4 = .ok (.aload_n 1, 1) := by decide +kernel
theorem dX4_isSameAs_5 : decode cX4_isSameAs 5 = .ok (.getfield 21, 3) := by decide +kernel
theorem dX4_isSameAs_8 : decode cX4_isSameAs 8 = .ok (.if_icmp .eq 5, 3) := by decide +kernel
theorem dX4_isSameAs_11 : decode cX4_isSameAs 11 = .ok (.iconst 0, 1) := by decide +kernel
theorem dX4_isSameAs_12 : decode cX4_isSameAs 12 = .ok (.ireturn, 1) := by decide +kernel
theorem dX4_isSameAs_13 : decode cX4_isSameAs 13 = .ok (.iconst 0, 1) := by decide +kernel
theorem dX4_isSameAs_14 : decode cX4_isSameAs 14 = .ok (.istore_n 2, 1) := by decide +kernel
theorem dX4_isSameAs_15 : decode cX4_isSameAs 15 = .ok (.iload_n 2, 1) := by decide +kernel
theorem dX4_isSameAs_16 : decode cX4_isSameAs 16 = .ok (.aload_n 0, 1) := by decide +kernel
theorem dX4_isSameAs_17 : decode cX4_isSameAs 17 = .ok (.getfield 21, 3) := by decide +kernel
theorem dX4_isSameAs_20 : decode cX4_isSameAs 20 = .ok (.if_icmp .ge 26, 3) := by decide +kernel
theorem dX4_isSameAs_23 : decode cX4_isSameAs 23 = .ok (.aload_n 0, 1) := by decide +kernel
theorem dX4_isSameAs_24 : decode cX4_isSameAs 24 = .ok (.getfield 9, 3) := by decide +kernel
theorem dX4_isSameAs_27 : decode cX4_isSameAs 27 = .ok (.iload_n 2, 1) := by decide +kernel
theorem dX4_isSameAs_28 : decode cX4_isSameAs 28 = .ok (.iaload, 1) := by decide +kernel
theorem dX4_isSameAs_29 : decode cX4_isSameAs 29 = .ok (.aload_n 1, 1) := by decide +kernel
theorem dX4_isSameAs_30 : decode cX4_isSameAs 30 = .ok (.getfield 9, 3) := by decide +kernel
theorem dX4_isSameAs_33 : decode cX4_isSameAs 33 = .ok (.iload_n 2, 1) := by decide +kernel
theorem dX4_isSameAs_34 : decode cX4_isSameAs 34 = .ok (.iaload, 1) := by decide +kernel
theorem dX4_isSameAs_35 : decode cX4_isSameAs 35 = .ok (.if_icmp .eq 5, 3) := by decide +kernel
theorem dX4_isSameAs_38 : decode cX4_isSameAs 38 = .ok (.iconst 0, 1) := by decide +kernel
theorem dX4_isSameAs_39 : decode cX4_isSameAs 39 = .ok (.ireturn, 1) := by decide +kernel
theorem dX4_isSameAs_40 : decode cX4_isSameAs 40 = .ok (.iinc 2 1, 3) := by decide +kernel
theorem dX4_isSameAs_43 : decode cX4_isSameAs 43 = .ok (.goto (-28), 3) := by decide +kernel
theorem dX4_isSameAs_46 : decode cX4_isSameAs 46 = .ok (.iconst 1, 1) := by decide +kernel
theorem dX4_isSameAs_47 : decode cX4_isSameAs 47 = .ok (.ireturn, 1) := by decide +kernel
set_option maxRecDepth 20000 in
theorem ggX5_init_X3_init : GoodIn wsX5_init wsX3_init := goodIn_r _ [21, 22, 2, 3, 23, 24, 25, 26, 27, 28, 29, 14, 30, 31, 32, 33, 34, 35, 36, 37, 38, 71, 72, 73, 74, 75, 58, 59, 60, 61, 62, 63, 64, 65, 66, 67, 68] (by decide +kernel) (by decide +kernel)
set_option maxRecDepth 20000 in
theorem gX5_init_X3_init_n23 : GoodIn wsX5_init (wsX3_init) := ggX5_init_X3_init
set_option maxRecDepth 20000 in
theorem ggX5_init_X1_init : GoodIn wsX5_init wsX1_init := goodIn_r _ [40, 41, 2, 3, 42, 43, 69, 70] (by decide +kernel) (by decide +kernel)
set_option maxRecDepth 20000 in
theorem gX5_init_X1_init_n45 : GoodIn wsX5_init (wsX1_init) := ggX5_init_X1_init
theorem dX5_init_0 : decode cX5_init 0 = .ok (.aload_n 0, 1) := by decide +kernel
theorem dX5_init_1 : decode cX5_init 1 = .ok (.invokespecial 3, 3) := by decide +kernel
theorem dX5_init_4 : decode cX5_init 4 = .ok (.aload_n 0, 1) := by decide +kernel
theorem dX5_init_5 : decode cX5_init 5 = .ok (.bipush 24, 2) := by decide +kernel
theorem dX5_init_7 : decode cX5_init 7 = .ok (.anewarray 9, 3) := by decide +kernel
theorem dX5_init_10 : decode cX5_init 10 = .ok (.putfield 11, 3) := by decide +kernel
theorem dX5_init_13 : decode cX5_init 13 = .ok (.aload_n 0, 1) := by decide +kernel
theorem dX5_init_14 : decode cX5_init 14 = .ok (.bipush 6, 2) := by decide +kernel
theorem dX5_init_16 : decode cX5_init 16 = .ok (.anewarray 15, 3) := by decide +kernel
theorem dX5_init_19 : decode cX5_init 19 = .ok (.putfield 17, 3) := by decide +kernel
theorem dX5_init_22 : decode cX5_init 22 = .ok (.aload_n 0, 1) := by decide +kernel
theorem dX5_init_23 : decode cX5_init 23 = .ok (.new 21, 3) := by decide +kernel
theorem dX5_init_26 : decode cX5_init 26 = .ok (.dup, 1) := by decide +kernel
theorem dX5_init_27 : decode cX5_init 27 = .ok (.invokespecial 23, 3) := by decide +kernel
theorem dX5_init_30 : decode cX5_init 30 = .ok (.putfield 24, 3) := by decide +kernel
theorem dX5_init_33 : decode cX5_init 33 = .ok (.aload_n 0, 1) := by decide +kernel
theorem dX5_init_34 : decode cX5_init 34 = .ok (.new 21, 3) := by decide +kernel
theorem dX5_init_37 : decode cX5_init 37 = .ok (.dup, 1) := by decide +kernel
theorem dX5_init_38 : decode cX5_init 38 = .ok (.invokespecial 23, 3) := by decide +kernel
theorem dX5_init_41 : decode cX5_init 41 = .ok (.putfield 28, 3) := by decide +kernel
theorem dX5_init_44 : decode cX5_init 44 = .ok (.aload_n 0, 1) := by decide +kernel
theorem dX5_init_45 : decode cX5_init 45 = .ok (.new 21, 3) := by decide +kernel
theorem dX5_init_48 : decode cX5_init 48 = .ok (.dup, 1) := by decide +kernel
theorem dX5_init_49 : decode cX5_init 49 = .ok (.invokespecial 23, 3) := by decide +kernel
theorem dX5_init_52 : decode cX5_init 52 = .ok (.putfield 31, 3) := by decide +kernel
theorem dX5_init_55 : decode cX5_init 55 = .ok (.aload_n 0, 1) := by decide +kernel
theorem dX5_init_56 : decode cX5_init 56 = .ok (.sipush 192, 3) := by decide +kernel
theorem dX5_init_59 : decode cX5_init 59 = .ok (.newarray .int, 2) := by decide +kernel
theorem dX5_init_61 : decode cX5_init 61 = .ok (.putfield 34, 3) := by decide +kernel
theorem dX5_init_64 : decode cX5_init 64 = .ok (.aload_n 0, 1) := by decide +kernel
theorem dX5_init_65 : decode cX5_init 65 = .ok (.sipush 192, 3) := by decide +kernel
theorem dX5_init_68 : decode cX5_init 68 = .ok (.newarray .int, 2) := by decide +kernel
theorem dX5_init_70 : decode cX5_init 70 = .ok (.putfield 38, 3) := by decide +kernel
theorem dX5_init_73 : decode cX5_init 73 = .ok (.aload_n 0, 1) := by decide +kernel
theorem dX5_init_74 : decode cX5_init 74 = .ok (.iconst (-1), 1) := by decide +kernel
theorem dX5_init_75 : decode cX5_init 75 = .ok (.putfield 41, 3) := by decide +kernel
theorem dX5_init_78 : decode cX5_init 78 = .ok (.iconst 0, 1) := by decide +kernel
theorem dX5_init_79 : decode cX5_init 79 = .ok (.istore_n 1, 1) := by decide +kernel
theorem dX5_init_80 : decode cX5_init 80 = .ok (.iload_n 1, 1) := by decide +kernel
theorem dX5_init_81 : decode cX5_init 81 = .ok (.bipush 6, 2) := by decide +kernel
theorem dX5_init_83 : decode cX5_init 83 = .ok (.if_icmp .ge 22, 3) := by decide +kernel
theorem dX5_init_86 : decode cX5_init 86 = .ok (.aload_n 0, 1) := by decide +kernel
theorem dX5_init_87 : decode cX5_init 87 = .ok (.getfield 17, 3) := by decide +kernel
theorem dX5_init_90 : decode cX5_init 90 = .ok (.iload_n 1, 1) := by decide +kernel
theorem dX5_init_91 : decode cX5_init 91 = .ok (.new 15, 3) := by decide +kernel
theorem dX5_init_94 : decode cX5_init 94 = .ok (.dup, 1) := by decide +kernel
theorem dX5_init_95 : decode cX5_init 95 = .ok (.invokespecial 45, 3) := by decide +kernel
theorem dX5_init_98 : decode cX5_init 98 = .ok (.aastore, 1) := by decide +kernel
theorem dX5_init_99 : decode cX5_init 99 = .ok (.iinc 1 1, 3) := by decide +kernel
theorem dX5_init_102 : decode cX5_init 102 = .ok (.goto (-22), 3) := by decide +kernel
theorem dX5_init_105 : decode cX5_init 105 = .ok (.return_, 1) := by decide +kernel
set_option maxRecDepth 20000 in
theorem ggX5_object_X2_init : GoodIn wsX5_object wsX2_init := goodIn_r _ [8, 9, 10, 11, 12, 13, 14, 15, 16, 17, 18, 33, 34, 35, 36, 37] (by decide +kernel) (by decide +kernel)
set_option maxRecDepth 20000 in
theorem gX5_object_X2_init : GoodIn wsX5_object (wsX2_init) := ggX5_object_X2_init
theorem dX5_object_0 : decode cX5_object 0 = .ok (.iload_n 1, 1) := by decide +kernel
theorem dX5_object_1 : decode cX5_object 1 = .ok (.ifCond .lt 8, 3) := by decide +kernel
theorem dX5_object_4 : decode cX5_object 4 = .ok (.iload_n 1, 1) := by decide +kernel
theorem dX5_object_5 : decode cX5_object 5 = .ok (.iconst 3, 1) := by decide +kernel
theorem dX5_object_6 : decode cX5_object 6 = .ok (.if_icmp .lt 5, 3) := by decide +kernel
theorem dX5_object_9 : decode cX5_object 9 = .ok (.iconst (-1), 1) := by decide +kernel
theorem dX5_object_10 : decode cX5_object 10 = .ok (.ireturn, 1) := by decide +kernel
theorem dX5_object_11 : decode cX5_object 11 = .ok (.aload_n 0, 1) := by decide +kernel
theorem dX5_object_12 : decode cX5_object 12 = .ok (.getfield 46, 3) := by decide +kernel
theorem dX5_object_15 : decode cX5_object 15 = .ok (.bipush 24, 2) := by decide +kernel
theorem dX5_object_17 : decode cX5_object 17 = .ok (.if_icmp .lt 6, 3) := by decide +kernel
theorem dX5_object_20 : decode cX5_object 20 = .ok (.bipush (-2), 2) := by decide +kernel
theorem dX5_object_22 : decode cX5_object 22 = .ok (.ireturn, 1) := by decide +kernel
theorem dX5_object_23 : decode cX5_object 23 = .ok (.aload_n 0, 1) := by decide +kernel
theorem dX5_object_24 : decode cX5_object 24 = .ok (.getfield 11, 3) := by decide +kernel
theorem dX5_object_27 : decode cX5_object 27 = .ok (.aload_n 0, 1) := by decide +kernel
theorem dX5_object_28 : decode cX5_object 28 = .ok (.getfield 46, 3) := by decide +kernel
theorem dX5_object_31 : decode cX5_object 31 = .ok (.new 9, 3) := by decide +kernel
theorem dX5_object_34 : decode cX5_object 34 = .ok (.dup, 1) := by decide +kernel
theorem dX5_object_35 : decode cX5_object 35 = .ok (.iload_n 1, 1) := by decide +kernel
theorem dX5_object_36 : decode cX5_object 36 = .ok (.invokespecial 49, 3) := by decide +kernel
theorem dX5_object_39 : decode cX5_object 39 = .ok (.aastore, 1) := by decide +kernel
theorem dX5_object_40 : decode cX5_object 40 = .ok (.aload_n 0, 1) := by decide +kernel
theorem dX5_object_41 : decode cX5_object 41 = .ok (.dup, 1) := by decide +kernel
theorem dX5_object_42 : decode cX5_object 42 = .ok (.getfield 46, 3) := by decide +kernel
theorem dX5_object_45 : decode cX5_object 45 = .ok (.iconst 1, 1) := by decide +kernel
theorem dX5_object_46 : decode cX5_object 46 = .ok (.iadd, 1) := by decide +kernel
theorem dX5_object_47 : decode cX5_object 47 = .ok (.putfield 46, 3) := by decide +kernel
theorem dX5_object_50 : decode cX5_object 50 = .ok (.aload_n 0, 1) := by decide +kernel
theorem dX5_object_51 : decode cX5_object 51 = .ok (.getfield 46, 3) := by decide +kernel
theorem dX5_object_54 : decode cX5_object 54 = .ok (.iconst 1, 1) := by decide +kernel
theorem dX5_object_55 : decode cX5_object 55 = .ok (.isub, 1) := by decide +kernel
theorem dX5_object_56 : decode cX5_object 56 = .ok (.ireturn, 1) := by decide +kernel
