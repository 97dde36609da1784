theorem dMo_one_320 : decode cMo_one 320 = .ok (.invokevirtual 176, 3) := by decide +kernel
theorem dMo_one_323 : decode cMo_one 323 = .ok (.goto 4, 3) := by decide +kernel
theorem dMo_one_326 : decode cMo_one 326 = .ok (.iload_n 2, 1) := by decide +kernel
theorem dMo_one_327 : decode cMo_one 327 = .ok (.istore_n 2, 1) := by decide +kernel
theorem dMo_one_328 : decode cMo_one 328 = .ok (.goto 49, 3) := by decide +kernel
theorem dMo_one_331 : decode cMo_one 331 = .ok (.iload_n 1, 1) := by decide +kernel
theorem dMo_one_332 : decode cMo_one 332 = .ok (.ldc 93, 2) := by decide +kernel
theorem dMo_one_334 : decode cMo_one 334 = .ok (.if_icmp .lt 24, 3) := by decide +kernel
theorem dMo_one_337 : decode cMo_one 337 = .ok (.iload_n 1, 1) := by decide +kernel
theorem dMo_one_338 : decode cMo_one 338 = .ok (.ldc 179, 2) := by decide +kernel
theorem dMo_one_340 : decode cMo_one 340 = .ok (.if_icmp .ge 18, 3) := by decide +kernel
theorem dMo_one_343 : decode cMo_one 343 = .ok (.aload_n 0, 1) := by decide +kernel
theorem dMo_one_344 : decode cMo_one 344 = .ok (.iload_n 1, 1) := by decide +kernel
theorem dMo_one_345 : decode cMo_one 345 = .ok (.ldc 93, 2) := by decide +kernel
theorem dMo_one_347 : decode cMo_one 347 = .ok (.isub, 1) := by decide +kernel
theorem dMo_one_348 : decode cMo_one 348 = .ok (.sipush 2048, 3) := by decide +kernel
theorem dMo_one_351 : decode cMo_one 351 = .ok (.invokevirtual 176, 3) := by decide +kernel
theorem dMo_one_354 : decode cMo_one 354 = .ok (.istore_n 2, 1) := by decide +kernel
theorem dMo_one_355 : decode cMo_one 355 = .ok (.goto 22, 3) := by decide +kernel
theorem dMo_one_358 : decode cMo_one 358 = .ok (.iload_n 1, 1) := by decide +kernel
theorem dMo_one_359 : decode cMo_one 359 = .ok (.sipush 18112, 3) := by decide +kernel
theorem dMo_one_362 : decode cMo_one 362 = .ok (.if_icmp .eq 9, 3) := by decide +kernel
theorem dMo_one_365 : decode cMo_one 365 = .ok (.iload_n 1, 1) := by decide +kernel
theorem dMo_one_366 : decode cMo_one 366 = .ok (.ldc 107, 2) := by decide +kernel
theorem dMo_one_368 : decode cMo_one 368 = .ok (.if_icmp .ne 7, 3) := by decide +kernel
theorem dMo_one_371 : decode cMo_one 371 = .ok (.iconst 1, 1) := by decide +kernel
theorem dMo_one_372 : decode cMo_one 372 = .ok (.goto 4, 3) := by decide +kernel
theorem dMo_one_375 : decode cMo_one 375 = .ok (.iconst 0, 1) := by decide +kernel
theorem dMo_one_376 : decode cMo_one 376 = .ok (.istore_n 3, 1) := by decide +kernel
theorem dMo_one_377 : decode cMo_one 377 = .ok (.iload_n 1, 1) := by decide +kernel
theorem dMo_one_378 : decode cMo_one 378 = .ok (.ldc 107, 2) := by decide +kernel
theorem dMo_one_380 : decode cMo_one 380 = .ok (.if_icmp .ne 8, 3) := by decide +kernel
theorem dMo_one_383 : decode cMo_one 383 = .ok (.aload_n 0, 1) := by decide +kernel
theorem dMo_one_384 : decode cMo_one 384 = .ok (.iconst 1, 1) := by decide +kernel
theorem dMo_one_385 : decode cMo_one 385 = .ok (.putfield 142, 3) := by decide +kernel
theorem dMo_one_388 : decode cMo_one 388 = .ok (.aload_n 0, 1) := by decide +kernel
theorem dMo_one_389 : decode cMo_one 389 = .ok (.iload_n 3, 1) := by decide +kernel
theorem dMo_one_390 : decode cMo_one 390 = .ok (.ifCond .eq 13, 3) := by decide +kernel
theorem dMo_one_393 : decode cMo_one 393 = .ok (.iload_n 1, 1) := by decide +kernel
theorem dMo_one_394 : decode cMo_one 394 = .ok (.ldc 107, 2) := by decide +kernel
theorem dMo_one_396 : decode cMo_one 396 = .ok (.if_icmp .eq 7, 3) := by decide +kernel
theorem dMo_one_399 : decode cMo_one 399 = .ok (.iload_n 2, 1) := by decide +kernel
theorem dMo_one_400 : decode cMo_one 400 = .ok (.goto 7, 3) := by decide +kernel
theorem dMo_one_403 : decode cMo_one 403 = .ok (.aload_n 0, 1) := by decide +kernel
theorem dMo_one_404 : decode cMo_one 404 = .ok (.getfield 140, 3) := by decide +kernel
theorem dMo_one_407 : decode cMo_one 407 = .ok (.putfield 140, 3) := by decide +kernel
theorem dMo_one_410 : decode cMo_one 410 = .ok (.iload_n 3, 1) := by decide +kernel
theorem dMo_one_411 : decode cMo_one 411 = .ok (.ireturn, 1) := by decide +kernel
theorem dMo_small_0 : decode cMo_small 0 = .ok (.iload_n 1, 1) := by decide +kernel
theorem dMo_small_1 : decode cMo_small 1 = .ok (.sipush 2048, 3) := by decide +kernel
theorem dMo_small_4 : decode cMo_small 4 = .ok (.idiv, 1) := by decide +kernel
theorem dMo_small_5 : decode cMo_small 5 = .ok (.istore_n 2, 1) := by decide +kernel
theorem dMo_small_6 : decode cMo_small 6 = .ok (.iload_n 1, 1) := by decide +kernel
theorem dMo_small_7 : decode cMo_small 7 = .ok (.sipush 256, 3) := by decide +kernel
theorem dMo_small_10 : decode cMo_small 10 = .ok (.idiv, 1) := by decide +kernel
theorem dMo_small_11 : decode cMo_small 11 = .ok (.bipush 8, 2) := by decide +kernel
theorem dMo_small_13 : decode cMo_small 13 = .ok (.irem, 1) := by decide +kernel
theorem dMo_small_14 : decode cMo_small 14 = .ok (.istore_n 3, 1) := by decide +kernel
theorem dMo_small_15 : decode cMo_small 15 = .ok (.iload_n 1, 1) := by decide +kernel
theorem dMo_small_16 : decode cMo_small 16 = .ok (.sipush 256, 3) := by decide +kernel
theorem dMo_small_19 : decode cMo_small 19 = .ok (.irem, 1) := by decide +kernel
theorem dMo_small_20 : decode cMo_small 20 = .ok (.istore 4, 2) := by decide +kernel
theorem dMo_small_22 : decode cMo_small 22 = .ok (.iload_n 2, 1) := by decide +kernel
theorem dMo_small_23 : decode cMo_small 23 = .ok (.ifCond .ne 12, 3) := by decide +kernel
theorem dMo_small_26 : decode cMo_small 26 = .ok (.aload_n 0, 1) := by decide +kernel
theorem dMo_small_27 : decode cMo_small 27 = .ok (.iload 4, 2) := by decide +kernel
theorem dMo_small_29 : decode cMo_small 29 = .ok (.invokevirtual 151, 3) := by decide +kernel
theorem dMo_small_32 : decode cMo_small 32 = .ok (.goto 35, 3) := by decide +kernel
theorem dMo_small_35 : decode cMo_small 35 = .ok (.iload_n 2, 1) := by decide +kernel
theorem dMo_small_36 : decode cMo_small 36 = .ok (.iconst 2, 1) := by decide +kernel
theorem dMo_small_37 : decode cMo_small 37 = .ok (.if_icmp .ne 18, 3) := by decide +kernel
theorem dMo_small_40 : decode cMo_small 40 = .ok (.aload_n 0, 1) := by decide +kernel
theorem dMo_small_41 : decode cMo_small 41 = .ok (.aload_n 0, 1) := by decide +kernel
theorem dMo_small_42 : decode cMo_small 42 = .ok (.getfield 44, 3) := by decide +kernel
theorem dMo_small_45 : decode cMo_small 45 = .ok (.iload_n 3, 1) := by decide +kernel
theorem dMo_small_46 : decode cMo_small 46 = .ok (.iaload, 1) := by decide +kernel
theorem dMo_small_47 : decode cMo_small 47 = .ok (.iload 4, 2) := by decide +kernel
theorem dMo_small_49 : decode cMo_small 49 = .ok (.invokevirtual 154, 3) := by decide +kernel
theorem dMo_small_52 : decode cMo_small 52 = .ok (.goto 15, 3) := by decide +kernel
theorem dMo_small_55 : decode cMo_small 55 = .ok (.aload_n 0, 1) := by decide +kernel
theorem dMo_small_56 : decode cMo_small 56 = .ok (.aload_n 0, 1) := by decide +kernel
theorem dMo_small_57 : decode cMo_small 57 = .ok (.getfield 44, 3) := by decide +kernel
theorem dMo_small_60 : decode cMo_small 60 = .ok (.iload_n 3, 1) := by decide +kernel
theorem dMo_small_61 : decode cMo_small 61 = .ok (.iaload, 1) := by decide +kernel
theorem dMo_small_62 : decode cMo_small 62 = .ok (.iload 4, 2) := by decide +kernel
theorem dMo_small_64 : decode cMo_small 64 = .ok (.invokevirtual 158, 3) := by decide +kernel
theorem dMo_small_67 : decode cMo_small 67 = .ok (.istore 5, 2) := by decide +kernel
theorem dMo_small_69 : decode cMo_small 69 = .ok (.iload_n 2, 1) := by decide +kernel
theorem dMo_small_70 : decode cMo_small 70 = .ok (.iconst 1, 1) := by decide +kernel
theorem dMo_small_71 : decode cMo_small 71 = .ok (.if_icmp .eq 11, 3) := by decide +kernel
theorem dMo_small_74 : decode cMo_small 74 = .ok (.aload_n 0, 1) := by decide +kernel
theorem dMo_small_75 : decode cMo_small 75 = .ok (.getfield 44, 3) := by decide +kernel
theorem dMo_small_78 : decode cMo_small 78 = .ok (.iload_n 3, 1) := by decide +kernel
theorem dMo_small_79 : decode cMo_small 79 = .ok (.iload 5, 2) := by decide +kernel
theorem dMo_small_81 : decode cMo_small 81 = .ok (.iastore, 1) := by decide +kernel
theorem dMo_small_82 : decode cMo_small 82 = .ok (.return_, 1) := by decide +kernel
theorem dMo_result_0 : decode cMo_result 0 = .ok (.aload_n 0, 1) := by decide +kernel
theorem dMo_result_1 : decode cMo_result 1 = .ok (.iload_n 1, 1) := by decide +kernel
theorem dMo_result_2 : decode cMo_result 2 = .ok (.ifCond .ge 7, 3) := by decide +kernel
theorem dMo_result_5 : decode cMo_result 5 = .ok (.iconst 1, 1) := by decide +kernel
theorem dMo_result_6 : decode cMo_result 6 = .ok (.goto 4, 3) := by decide +kernel
theorem dMo_result_9 : decode cMo_result 9 = .ok (.iconst 0, 1) := by decide +kernel
theorem dMo_result_10 : decode cMo_result 10 = .ok (.putfield 127, 3) := by decide +kernel
theorem dMo_result_13 : decode cMo_result 13 = .ok (.aload_n 0, 1) := by decide +kernel
theorem dMo_result_14 : decode cMo_result 14 = .ok (.iload_n 1, 1) := by decide +kernel
theorem dMo_result_15 : decode cMo_result 15 = .ok (.ifCond .ne 7, 3) := by decide +kernel
theorem dMo_result_18 : decode cMo_result 18 = .ok (.iconst 1, 1) := by decide +kernel
theorem dMo_result_19 : decode cMo_result 19 = .ok (.goto 4, 3) := by decide +kernel
theorem dMo_result_22 : decode cMo_result 22 = .ok (.iconst 0, 1) := by decide +kernel
theorem dMo_result_23 : decode cMo_result 23 = .ok (.putfield 131, 3) := by decide +kernel
theorem dMo_result_26 : decode cMo_result 26 = .ok (.iload_n 1, 1) := by decide +kernel
theorem dMo_result_27 : decode cMo_result 27 = .ok (.ireturn, 1) := by decide +kernel
theorem dMo_sum_0 : decode cMo_sum 0 = .ok (.aload_n 0, 1) := by decide +kernel
theorem dMo_sum_1 : decode cMo_sum 1 = .ok (.iload_n 1, 1) := by decide +kernel
theorem dMo_sum_2 : decode cMo_sum 2 = .ok (.invokestatic 147, 3) := by decide +kernel
theorem dMo_sum_5 : decode cMo_sum 5 = .ok (.iload_n 2, 1) := by decide +kernel
theorem dMo_sum_6 : decode cMo_sum 6 = .ok (.invokestatic 147, 3) := by decide +kernel
theorem dMo_sum_9 : decode cMo_sum 9 = .ok (.ladd, 1) := by decide +kernel
theorem dMo_sum_10 : decode cMo_sum 10 = .ok (.ldc2_w 145, 3) := by decide +kernel
theorem dMo_sum_13 : decode cMo_sum 13 = .ok (.lcmp, 1) := by decide +kernel
theorem dMo_sum_14 : decode cMo_sum 14 = .ok (.ifCond .le 7, 3) := by decide +kernel
theorem dMo_sum_17 : decode cMo_sum 17 = .ok (.iconst 1, 1) := by decide +kernel
theorem dMo_sum_18 : decode cMo_sum 18 = .ok (.goto 4, 3) := by decide +kernel
theorem dMo_sum_21 : decode cMo_sum 21 = .ok (.iconst 0, 1) := by decide +kernel
theorem dMo_sum_22 : decode cMo_sum 22 = .ok (.putfield 134, 3) := by decide +kernel
theorem dMo_sum_25 : decode cMo_sum 25 = .ok (.aload_n 0, 1) := by decide +kernel
theorem dMo_sum_26 : decode cMo_sum 26 = .ok (.iload_n 1, 1) := by decide +kernel
theorem dMo_sum_27 : decode cMo_sum 27 = .ok (.i2l, 1) := by decide +kernel
theorem dMo_sum_28 : decode cMo_sum 28 = .ok (.iload_n 2, 1) := by decide +kernel
theorem dMo_sum_29 : decode cMo_sum 29 = .ok (.i2l, 1) := by decide +kernel
theorem dMo_sum_30 : decode cMo_sum 30 = .ok (.ladd, 1) := by decide +kernel
theorem dMo_sum_31 : decode cMo_sum 31 = .ok (.iload_n 1, 1) := by decide +kernel
theorem dMo_sum_32 : decode cMo_sum 32 = .ok (.iload_n 2, 1) := by decide +kernel
theorem dMo_sum_33 : decode cMo_sum 33 = .ok (.iadd, 1) := by decide +kernel
theorem dMo_sum_34 : decode cMo_sum 34 = .ok (.i2l, 1) := by decide +kernel
theorem dMo_sum_35 : decode cMo_sum 35 = .ok (.lcmp, 1) := by decide +kernel
theorem dMo_sum_36 : decode cMo_sum 36 = .ok (.ifCond .eq 7, 3) := by decide +kernel
theorem dMo_sum_39 : decode cMo_sum 39 = .ok (.iconst 1, 1) := by decide +kernel
theorem dMo_sum_40 : decode cMo_sum 40 = .ok (.goto 4, 3) := by decide +kernel
theorem dMo_sum_43 : decode cMo_sum 43 = .ok (.iconst 0, 1) := by decide +kernel
theorem dMo_sum_44 : decode cMo_sum 44 = .ok (.putfield 137, 3) := by decide +kernel
theorem dMo_sum_47 : decode cMo_sum 47 = .ok (.aload_n 0, 1) := by decide +kernel
theorem dMo_sum_48 : decode cMo_sum 48 = .ok (.iload_n 1, 1) := by decide +kernel
theorem dMo_sum_49 : decode cMo_sum 49 = .ok (.iload_n 2, 1) := by decide +kernel
theorem dMo_sum_50 : decode cMo_sum 50 = .ok (.iadd, 1) := by decide +kernel
theorem dMo_sum_51 : decode cMo_sum 51 = .ok (.invokevirtual 151, 3) := by decide +kernel
theorem dMo_sum_54 : decode cMo_sum 54 = .ok (.ireturn, 1) := by decide +kernel
theorem dMo_plain_0 : decode cMo_plain 0 = .ok (.iload_n 0, 1) := by decide +kernel
theorem dMo_plain_1 : decode cMo_plain 1 = .ok (.i2l, 1) := by decide +kernel
theorem dMo_plain_2 : decode cMo_plain 2 = .ok (.ldc2_w 145, 3) := by decide +kernel
theorem dMo_plain_5 : decode cMo_plain 5 = .ok (.land, 1) := by decide +kernel
theorem dMo_plain_6 : decode cMo_plain 6 = .ok (.lreturn, 1) := by decide +kernel
theorem dMo_difference_0 : decode cMo_difference 0 = .ok (.aload_n 0, 1) := by decide +kernel
theorem dMo_difference_1 : decode cMo_difference 1 = .ok (.iload_n 1, 1) := by decide +kernel
theorem dMo_difference_2 : decode cMo_difference 2 = .ok (.invokestatic 147, 3) := by decide +kernel
theorem dMo_difference_5 : decode cMo_difference 5 = .ok (.iload_n 2, 1) := by decide +kernel
theorem dMo_difference_6 : decode cMo_difference 6 = .ok (.invokestatic 147, 3) := by decide +kernel
theorem dMo_difference_9 : decode cMo_difference 9 = .ok (.lcmp, 1) := by decide +kernel
theorem dMo_difference_10 : decode cMo_difference 10 = .ok (.ifCond .lt 7, 3) := by decide +kernel
theorem dMo_difference_13 : decode cMo_difference 13 = .ok (.iconst 1, 1) := by decide +kernel
theorem dMo_difference_14 : decode cMo_difference 14 = .ok (.goto 4, 3) := by decide +kernel
theorem dMo_difference_17 : decode cMo_difference 17 = .ok (.iconst 0, 1) := by decide +kernel
theorem dMo_difference_18 : decode cMo_difference 18 = .ok (.putfield 134, 3) := by decide +kernel
theorem dMo_difference_21 : decode cMo_difference 21 = .ok (.aload_n 0, 1) := by decide +kernel
theorem dMo_difference_22 : decode cMo_difference 22 = .ok (.iload_n 1, 1) := by decide +kernel
theorem dMo_difference_23 : decode cMo_difference 23 = .ok (.i2l, 1) := by decide +kernel
theorem dMo_difference_24 : decode cMo_difference 24 = .ok (.iload_n 2, 1) := by decide +kernel
theorem dMo_difference_25 : decode cMo_difference 25 = .ok (.i2l, 1) := by decide +kernel
theorem dMo_difference_26 : decode cMo_difference 26 = .ok (.lsub, 1) := by decide +kernel
theorem dMo_difference_27 : decode cMo_difference 27 = .ok (.iload_n 1, 1) := by decide +kernel
theorem dMo_difference_28 : decode cMo_difference 28 = .ok (.iload_n 2, 1) := by decide +kernel
theorem dMo_difference_29 : decode cMo_difference 29 = .ok (.isub, 1) := by decide +kernel
theorem dMo_difference_30 : decode cMo_difference 30 = .ok (.i2l, 1) := by decide +kernel
theorem dMo_difference_31 : decode cMo_difference 31 = .ok (.lcmp, 1) := by decide +kernel
theorem dMo_difference_32 : decode cMo_difference 32 = .ok (.ifCond .eq 7, 3) := by decide +kernel
theorem dMo_difference_35 : decode cMo_difference 35 = .ok (.iconst 1, 1) := by decide +kernel
theorem dMo_difference_36 : decode cMo_difference 36 = .ok (.goto 4, 3) := by decide +kernel
theorem dMo_difference_39 : decode cMo_difference 39 = .ok (.iconst 0, 1) := by decide +kernel
theorem dMo_difference_40 : decode cMo_difference 40 = .ok (.putfield 137, 3) := by decide +kernel
theorem dMo_difference_43 : decode cMo_difference 43 = .ok (.aload_n 0, 1) := by decide +kernel
theorem dMo_difference_44 : decode cMo_difference 44 = .ok (.iload_n 1, 1) := by decide +kernel
theorem dMo_difference_45 : decode cMo_difference 45 = .ok (.iload_n 2, 1) := by decide +kernel
theorem dMo_difference_46 : decode cMo_difference 46 = .ok (.isub, 1) := by decide +kernel
theorem dMo_difference_47 : decode cMo_difference 47 = .ok (.invokevirtual 151, 3) := by decide +kernel
theorem dMo_difference_50 : decode cMo_difference 50 = .ok (.ireturn, 1) := by decide +kernel
theorem dMo_deed_0 : decode cMo_deed 0 = .ok (.iload_n 1, 1) := by decide +kernel
theorem dMo_deed_1 : decode cMo_deed 1 = .ok (.bipush 8, 2) := by decide +kernel
theorem dMo_deed_3 : decode cMo_deed 3 = .ok (.irem, 1) := by decide +kernel
theorem dMo_deed_4 : decode cMo_deed 4 = .ok (.istore_n 2, 1) := by decide +kernel
theorem dMo_deed_5 : decode cMo_deed 5 = .ok (.aload_n 0, 1) := by decide +kernel
theorem dMo_deed_6 : decode cMo_deed 6 = .ok (.getfield 44, 3) := by decide +kernel
theorem dMo_deed_9 : decode cMo_deed 9 = .ok (.iload_n 2, 1) := by decide +kernel
theorem dMo_deed_10 : decode cMo_deed 10 = .ok (.iaload, 1) := by decide +kernel
theorem dMo_deed_11 : decode cMo_deed 11 = .ok (.istore_n 3, 1) := by decide +kernel
theorem dMo_deed_12 : decode cMo_deed 12 = .ok (.aload_n 0, 1) := by decide +kernel
theorem dMo_deed_13 : decode cMo_deed 13 = .ok (.getfield 44, 3) := by decide +kernel
theorem dMo_deed_16 : decode cMo_deed 16 = .ok (.iload_n 1, 1) := by decide +kernel
theorem dMo_deed_17 : decode cMo_deed 17 = .ok (.bipush 8, 2) := by decide +kernel
theorem dMo_deed_19 : decode cMo_deed 19 = .ok (.idiv, 1) := by decide +kernel
theorem dMo_deed_20 : decode cMo_deed 20 = .ok (.bipush 8, 2) := by decide +kernel
theorem dMo_deed_22 : decode cMo_deed 22 = .ok (.irem, 1) := by decide +kernel
theorem dMo_deed_23 : decode cMo_deed 23 = .ok (.iaload, 1) := by decide +kernel
theorem dMo_deed_24 : decode cMo_deed 24 = .ok (.istore 4, 2) := by decide +kernel
theorem dMo_deed_26 : decode cMo_deed 26 = .ok (.iload_n 1, 1) := by decide +kernel
theorem dMo_deed_27 : decode cMo_deed 27 = .ok (.bipush 64, 2) := by decide +kernel
theorem dMo_deed_29 : decode cMo_deed 29 = .ok (.idiv, 1) := by decide +kernel
theorem dMo_deed_30 : decode cMo_deed 30 = .ok (.istore 5, 2) := by decide +kernel
theorem dMo_deed_32 : decode cMo_deed 32 = .ok (.iload 5, 2) := by decide +kernel
theorem dMo_deed_34 : decode cMo_deed 34 = .ok (.ifCond .ne 10, 3) := by decide +kernel
theorem dMo_deed_37 : decode cMo_deed 37 = .ok (.iload_n 3, 1) := by decide +kernel
theorem dMo_deed_38 : decode cMo_deed 38 = .ok (.iload 4, 2) := by decide +kernel
theorem dMo_deed_40 : decode cMo_deed 40 = .ok (.iand, 1) := by decide +kernel
theorem dMo_deed_41 : decode cMo_deed 41 = .ok (.goto 64, 3) := by decide +kernel
theorem dMo_deed_44 : decode cMo_deed 44 = .ok (.iload 5, 2) := by decide +kernel
theorem dMo_deed_46 : decode cMo_deed 46 = .ok (.iconst 1, 1) := by decide +kernel
theorem dMo_deed_47 : decode cMo_deed 47 = .ok (.if_icmp .ne 10, 3) := by decide +kernel
theorem dMo_deed_50 : decode cMo_deed 50 = .ok (.iload_n 3, 1) := by decide +kernel
theorem dMo_deed_51 : decode cMo_deed 51 = .ok (.iload 4, 2) := by decide +kernel
theorem dMo_deed_53 : decode cMo_deed 53 = .ok (.ixor, 1) := by decide +kernel
theorem dMo_deed_54 : decode cMo_deed 54 = .ok (.goto 51, 3) := by decide +kernel
theorem dMo_deed_57 : decode cMo_deed 57 = .ok (.iload 5, 2) := by decide +kernel
theorem dMo_deed_59 : decode cMo_deed 59 = .ok (.bipush 12, 2) := by decide +kernel
theorem dMo_deed_61 : decode cMo_deed 61 = .ok (.if_icmp .ne 10, 3) := by decide +kernel
theorem dMo_deed_64 : decode cMo_deed 64 = .ok (.iload_n 3, 1) := by decide +kernel
theorem dMo_deed_65 : decode cMo_deed 65 = .ok (.iload 4, 2) := by decide +kernel
theorem dMo_deed_67 : decode cMo_deed 67 = .ok (.ior, 1) := by decide +kernel
theorem dMo_deed_68 : decode cMo_deed 68 = .ok (.goto 37, 3) := by decide +kernel
theorem dMo_deed_71 : decode cMo_deed 71 = .ok (.iload 5, 2) := by decide +kernel
theorem dMo_deed_73 : decode cMo_deed 73 = .ok (.bipush 13, 2) := by decide +kernel
theorem dMo_deed_75 : decode cMo_deed 75 = .ok (.if_icmp .ne 10, 3) := by decide +kernel
theorem dMo_deed_78 : decode cMo_deed 78 = .ok (.iload_n 3, 1) := by decide +kernel
theorem dMo_deed_79 : decode cMo_deed 79 = .ok (.iload 4, 2) := by decide +kernel
theorem dMo_deed_81 : decode cMo_deed 81 = .ok (.imul, 1) := by decide +kernel
theorem dMo_deed_82 : decode cMo_deed 82 = .ok (.goto 23, 3) := by decide +kernel
theorem dMo_deed_85 : decode cMo_deed 85 = .ok (.iload 5, 2) := by decide +kernel
theorem dMo_deed_87 : decode cMo_deed 87 = .ok (.bipush 14, 2) := by decide +kernel
theorem dMo_deed_89 : decode cMo_deed 89 = .ok (.if_icmp .ne 12, 3) := by decide +kernel
theorem dMo_deed_92 : decode cMo_deed 92 = .ok (.iload_n 3, 1) := by decide +kernel
theorem dMo_deed_93 : decode cMo_deed 93 = .ok (.iload_n 3, 1) := by decide +kernel
theorem dMo_deed_94 : decode cMo_deed 94 = .ok (.iload 4, 2) := by decide +kernel
theorem dMo_deed_96 : decode cMo_deed 96 = .ok (.iand, 1) := by decide +kernel
theorem dMo_deed_97 : decode cMo_deed 97 = .ok (.isub, 1) := by decide +kernel
theorem dMo_deed_98 : decode cMo_deed 98 = .ok (.goto 7, 3) := by decide +kernel
theorem dMo_deed_101 : decode cMo_deed 101 = .ok (.iconst (-1), 1) := by decide +kernel
theorem dMo_deed_102 : decode cMo_deed 102 = .ok (.iload 4, 2) := by decide +kernel
theorem dMo_deed_104 : decode cMo_deed 104 = .ok (.isub, 1) := by decide +kernel
theorem dMo_deed_105 : decode cMo_deed 105 = .ok (.istore 6, 2) := by decide +kernel
theorem dMo_deed_107 : decode cMo_deed 107 = .ok (.iload 5, 2) := by decide +kernel
theorem dMo_deed_109 : decode cMo_deed 109 = .ok (.bipush 10, 2) := by decide +kernel
theorem dMo_deed_111 : decode cMo_deed 111 = .ok (.if_icmp .ne 14, 3) := by decide +kernel
theorem dMo_deed_114 : decode cMo_deed 114 = .ok (.aload_n 0, 1) := by decide +kernel
theorem dMo_deed_115 : decode cMo_deed 115 = .ok (.iload_n 3, 1) := by decide +kernel
theorem dMo_deed_116 : decode cMo_deed 116 = .ok (.iload 4, 2) := by decide +kernel
theorem dMo_deed_118 : decode cMo_deed 118 = .ok (.invokevirtual 158, 3) := by decide +kernel
theorem dMo_deed_121 : decode cMo_deed 121 = .ok (.pop, 1) := by decide +kernel
theorem dMo_deed_122 : decode cMo_deed 122 = .ok (.goto 15, 3) := by decide +kernel
theorem dMo_deed_125 : decode cMo_deed 125 = .ok (.aload_n 0, 1) := by decide +kernel
theorem dMo_deed_126 : decode cMo_deed 126 = .ok (.getfield 44, 3) := by decide +kernel
theorem dMo_deed_129 : decode cMo_deed 129 = .ok (.iload_n 2, 1) := by decide +kernel
theorem dMo_deed_130 : decode cMo_deed 130 = .ok (.aload_n 0, 1) := by decide +kernel
theorem dMo_deed_131 : decode cMo_deed 131 = .ok (.iload 6, 2) := by decide +kernel
theorem dMo_deed_133 : decode cMo_deed 133 = .ok (.invokevirtual 151, 3) := by decide +kernel
theorem dMo_deed_136 : decode cMo_deed 136 = .ok (.iastore, 1) := by decide +kernel
theorem dMo_deed_137 : decode cMo_deed 137 = .ok (.return_, 1) := by decide +kernel
theorem dMo_constantTo_0 : decode cMo_constantTo 0 = .ok (.aload_n 0, 1) := by decide +kernel
theorem dMo_constantTo_1 : decode cMo_constantTo 1 = .ok (.getfield 140, 3) := by decide +kernel
theorem dMo_constantTo_4 : decode cMo_constantTo 4 = .ok (.invokestatic 97, 3) := by decide +kernel
theorem dMo_constantTo_7 : decode cMo_constantTo 7 = .ok (.iconst 2, 1) := by decide +kernel
theorem dMo_constantTo_8 : decode cMo_constantTo 8 = .ok (.idiv, 1) := by decide +kernel
theorem dMo_constantTo_9 : decode cMo_constantTo 9 = .ok (.iconst 2, 1) := by decide +kernel
theorem dMo_constantTo_10 : decode cMo_constantTo 10 = .ok (.iload_n 1, 1) := by decide +kernel
theorem dMo_constantTo_11 : decode cMo_constantTo 11 = .ok (.sipush 256, 3) := by decide +kernel
theorem dMo_constantTo_14 : decode cMo_constantTo 14 = .ok (.irem, 1) := by decide +kernel
theorem dMo_constantTo_15 : decode cMo_constantTo 15 = .ok (.imul, 1) := by decide +kernel
theorem dMo_constantTo_16 : decode cMo_constantTo 16 = .ok (.iadd, 1) := by decide +kernel
theorem dMo_constantTo_17 : decode cMo_constantTo 17 = .ok (.istore_n 2, 1) := by decide +kernel
theorem dMo_constantTo_18 : decode cMo_constantTo 18 = .ok (.iload_n 2, 1) := by decide +kernel
theorem dMo_constantTo_19 : decode cMo_constantTo 19 = .ok (.iconst 1, 1) := by decide +kernel
theorem dMo_constantTo_20 : decode cMo_constantTo 20 = .ok (.iadd, 1) := by decide +kernel
theorem dMo_constantTo_21 : decode cMo_constantTo 21 = .ok (.aload_n 0, 1) := by decide +kernel
theorem dMo_constantTo_22 : decode cMo_constantTo 22 = .ok (.getfield 118, 3) := by decide +kernel
theorem dMo_constantTo_25 : decode cMo_constantTo 25 = .ok (.if_icmp .lt 5, 3) := by decide +kernel
theorem dMo_constantTo_28 : decode cMo_constantTo 28 = .ok (.iconst 0, 1) := by decide +kernel
theorem dMo_constantTo_29 : decode cMo_constantTo 29 = .ok (.ireturn, 1) := by decide +kernel
theorem dMo_constantTo_30 : decode cMo_constantTo 30 = .ok (.aload_n 0, 1) := by decide +kernel
theorem dMo_constantTo_31 : decode cMo_constantTo 31 = .ok (.getfield 44, 3) := by decide +kernel
theorem dMo_constantTo_34 : decode cMo_constantTo 34 = .ok (.iload_n 1, 1) := by decide +kernel
theorem dMo_constantTo_35 : decode cMo_constantTo 35 = .ok (.sipush 256, 3) := by decide +kernel
theorem dMo_constantTo_38 : decode cMo_constantTo 38 = .ok (.idiv, 1) := by decide +kernel
theorem dMo_constantTo_39 : decode cMo_constantTo 39 = .ok (.aload_n 0, 1) := by decide +kernel
theorem dMo_constantTo_40 : decode cMo_constantTo 40 = .ok (.getfield 41, 3) := by decide +kernel
theorem dMo_constantTo_43 : decode cMo_constantTo 43 = .ok (.iload_n 2, 1) := by decide +kernel
theorem dMo_constantTo_44 : decode cMo_constantTo 44 = .ok (.iaload, 1) := by decide +kernel
theorem dMo_constantTo_45 : decode cMo_constantTo 45 = .ok (.aload_n 0, 1) := by decide +kernel
theorem dMo_constantTo_46 : decode cMo_constantTo 46 = .ok (.getfield 41, 3) := by decide +kernel
theorem dMo_constantTo_49 : decode cMo_constantTo 49 = .ok (.iload_n 2, 1) := by decide +kernel
theorem dMo_constantTo_50 : decode cMo_constantTo 50 = .ok (.iconst 1, 1) := by decide +kernel
theorem dMo_constantTo_51 : decode cMo_constantTo 51 = .ok (.iadd, 1) := by decide +kernel
theorem dMo_constantTo_52 : decode cMo_constantTo 52 = .ok (.iaload, 1) := by decide +kernel
theorem dMo_constantTo_53 : decode cMo_constantTo 53 = .ok (.bipush 16, 2) := by decide +kernel
theorem dMo_constantTo_55 : decode cMo_constantTo 55 = .ok (.ishl, 1) := by decide +kernel
theorem dMo_constantTo_56 : decode cMo_constantTo 56 = .ok (.iadd, 1) := by decide +kernel
theorem dMo_constantTo_57 : decode cMo_constantTo 57 = .ok (.iastore, 1) := by decide +kernel
theorem dMo_constantTo_58 : decode cMo_constantTo 58 = .ok (.iconst 1, 1) := by decide +kernel
theorem dMo_constantTo_59 : decode cMo_constantTo 59 = .ok (.ireturn, 1) := by decide +kernel
theorem dMo_memory_0 : decode cMo_memory 0 = .ok (.aload_n 0, 1) := by decide +kernel
theorem dMo_memory_1 : decode cMo_memory 1 = .ok (.getfield 44, 3) := by decide +kernel
theorem dMo_memory_4 : decode cMo_memory 4 = .ok (.iload_n 1, 1) := by decide +kernel
theorem dMo_memory_5 : decode cMo_memory 5 = .ok (.bipush 8, 2) := by decide +kernel
theorem dMo_memory_7 : decode cMo_memory 7 = .ok (.idiv, 1) := by decide +kernel
theorem dMo_memory_8 : decode cMo_memory 8 = .ok (.bipush 8, 2) := by decide +kernel
theorem dMo_memory_10 : decode cMo_memory 10 = .ok (.irem, 1) := by decide +kernel
theorem dMo_memory_11 : decode cMo_memory 11 = .ok (.iaload, 1) := by decide +kernel
theorem dMo_memory_12 : decode cMo_memory 12 = .ok (.iconst 4, 1) := by decide +kernel
theorem dMo_memory_13 : decode cMo_memory 13 = .ok (.iload_n 1, 1) := by decide +kernel
theorem dMo_memory_14 : decode cMo_memory 14 = .ok (.bipush 64, 2) := by decide +kernel
theorem dMo_memory_16 : decode cMo_memory 16 = .ok (.idiv, 1) := by decide +kernel
theorem dMo_memory_17 : decode cMo_memory 17 = .ok (.bipush 32, 2) := by decide +kernel
theorem dMo_memory_19 : decode cMo_memory 19 = .ok (.irem, 1) := by decide +kernel
theorem dMo_memory_20 : decode cMo_memory 20 = .ok (.imul, 1) := by decide +kernel
theorem dMo_memory_21 : decode cMo_memory 21 = .ok (.iadd, 1) := by decide +kernel
theorem dMo_memory_22 : decode cMo_memory 22 = .ok (.istore_n 2, 1) := by decide +kernel
theorem dMo_memory_23 : decode cMo_memory 23 = .ok (.iload_n 2, 1) := by decide +kernel
theorem dMo_memory_24 : decode cMo_memory 24 = .ok (.sipush 4096, 3) := by decide +kernel
theorem dMo_memory_27 : decode cMo_memory 27 = .ok (.sipush 4220, 3) := by decide +kernel
theorem dMo_memory_30 : decode cMo_memory 30 = .ok (.invokestatic 53, 3) := by decide +kernel
theorem dMo_memory_33 : decode cMo_memory 33 = .ok (.ifCond .ne 9, 3) := by decide +kernel
theorem dMo_memory_36 : decode cMo_memory 36 = .ok (.iload_n 2, 1) := by decide +kernel
theorem dMo_memory_37 : decode cMo_memory 37 = .ok (.iconst 4, 1) := by decide +kernel
theorem dMo_memory_38 : decode cMo_memory 38 = .ok (.irem, 1) := by decide +kernel
theorem dMo_memory_39 : decode cMo_memory 39 = .ok (.ifCond .eq 5, 3) := by decide +kernel
theorem dMo_memory_42 : decode cMo_memory 42 = .ok (.iconst 0, 1) := by decide +kernel
theorem dMo_memory_43 : decode cMo_memory 43 = .ok (.ireturn, 1) := by decide +kernel
theorem dMo_memory_44 : decode cMo_memory 44 = .ok (.iload_n 1, 1) := by decide +kernel
theorem dMo_memory_45 : decode cMo_memory 45 = .ok (.sipush 2048, 3) := by decide +kernel
theorem dMo_memory_48 : decode cMo_memory 48 = .ok (.if_icmp .ge 27, 3) := by decide +kernel
theorem dMo_memory_51 : decode cMo_memory 51 = .ok (.aload_n 0, 1) := by decide +kernel
theorem dMo_memory_52 : decode cMo_memory 52 = .ok (.getfield 47, 3) := by decide +kernel
theorem dMo_memory_55 : decode cMo_memory 55 = .ok (.iload_n 2, 1) := by decide +kernel
theorem dMo_memory_56 : decode cMo_memory 56 = .ok (.iconst 4, 1) := by decide +kernel
theorem dMo_memory_57 : decode cMo_memory 57 = .ok (.idiv, 1) := by decide +kernel
theorem dMo_memory_58 : decode cMo_memory 58 = .ok (.sipush 1024, 3) := by decide +kernel
theorem dMo_memory_61 : decode cMo_memory 61 = .ok (.isub, 1) := by decide +kernel
theorem dMo_memory_62 : decode cMo_memory 62 = .ok (.aload_n 0, 1) := by decide +kernel
theorem dMo_memory_63 : decode cMo_memory 63 = .ok (.getfield 44, 3) := by decide +kernel
theorem dMo_memory_66 : decode cMo_memory 66 = .ok (.iload_n 1, 1) := by decide +kernel
theorem dMo_memory_67 : decode cMo_memory 67 = .ok (.bipush 8, 2) := by decide +kernel
theorem dMo_memory_69 : decode cMo_memory 69 = .ok (.irem, 1) := by decide +kernel
theorem dMo_memory_70 : decode cMo_memory 70 = .ok (.iaload, 1) := by decide +kernel
theorem dMo_memory_71 : decode cMo_memory 71 = .ok (.iastore, 1) := by decide +kernel
theorem dMo_memory_72 : decode cMo_memory 72 = .ok (.goto 24, 3) := by decide +kernel
theorem dMo_memory_75 : decode cMo_memory 75 = .ok (.aload_n 0, 1) := by decide +kernel
theorem dMo_memory_76 : decode cMo_memory 76 = .ok (.getfield 44, 3) := by decide +kernel
theorem dMo_memory_79 : decode cMo_memory 79 = .ok (.iload_n 1, 1) := by decide +kernel
theorem dMo_memory_80 : decode cMo_memory 80 = .ok (.bipush 8, 2) := by decide +kernel
theorem dMo_memory_82 : decode cMo_memory 82 = .ok (.irem, 1) := by decide +kernel
theorem dMo_memory_83 : decode cMo_memory 83 = .ok (.aload_n 0, 1) := by decide +kernel
theorem dMo_memory_84 : decode cMo_memory 84 = .ok (.getfield 47, 3) := by decide +kernel
theorem dMo_memory_87 : decode cMo_memory 87 = .ok (.iload_n 2, 1) := by decide +kernel
theorem dMo_memory_88 : decode cMo_memory 88 = .ok (.iconst 4, 1) := by decide +kernel
theorem dMo_memory_89 : decode cMo_memory 89 = .ok (.idiv, 1) := by decide +kernel
theorem dMo_memory_90 : decode cMo_memory 90 = .ok (.sipush 1024, 3) := by decide +kernel
theorem dMo_memory_93 : decode cMo_memory 93 = .ok (.isub, 1) := by decide +kernel
theorem dMo_memory_94 : decode cMo_memory 94 = .ok (.iaload, 1) := by decide +kernel
theorem dMo_memory_95 : decode cMo_memory 95 = .ok (.iastore, 1) := by decide +kernel
theorem dMo_memory_96 : decode cMo_memory 96 = .ok (.iconst 1, 1) := by decide +kernel
theorem dMo_memory_97 : decode cMo_memory 97 = .ok (.ireturn, 1) := by decide +kernel
theorem dMo_holds_0 : decode cMo_holds 0 = .ok (.aload_n 0, 1) := by decide +kernel
theorem dMo_holds_1 : decode cMo_holds 1 = .ok (.getfield 127, 3) := by decide +kernel
theorem dMo_holds_4 : decode cMo_holds 4 = .ok (.aload_n 0, 1) := by decide +kernel
theorem dMo_holds_5 : decode cMo_holds 5 = .ok (.getfield 137, 3) := by decide +kernel
theorem dMo_holds_8 : decode cMo_holds 8 = .ok (.if_icmp .eq 7, 3) := by decide +kernel
theorem dMo_holds_11 : decode cMo_holds 11 = .ok (.iconst 1, 1) := by decide +kernel
theorem dMo_holds_12 : decode cMo_holds 12 = .ok (.goto 4, 3) := by decide +kernel
theorem dMo_holds_15 : decode cMo_holds 15 = .ok (.iconst 0, 1) := by decide +kernel
theorem dMo_holds_16 : decode cMo_holds 16 = .ok (.istore_n 2, 1) := by decide +kernel
theorem dMo_holds_17 : decode cMo_holds 17 = .ok (.iload_n 1, 1) := by decide +kernel
theorem dMo_holds_18 : decode cMo_holds 18 = .ok (.tableswitch 149 0 12 #[66, 71, 84, 89, 102, 107, 149, 149, 149, 149, 120, 130, 132], 66) := by decide +kernel
theorem dMo_holds_84 : decode cMo_holds 84 = .ok (.aload_n 0, 1) := by decide +kernel
theorem dMo_holds_85 : decode cMo_holds 85 = .ok (.getfield 131, 3) := by decide +kernel
theorem dMo_holds_88 : decode cMo_holds 88 = .ok (.ireturn, 1) := by decide +kernel
theorem dMo_holds_89 : decode cMo_holds 89 = .ok (.aload_n 0, 1) := by decide +kernel
theorem dMo_holds_90 : decode cMo_holds 90 = .ok (.getfield 131, 3) := by decide +kernel
theorem dMo_holds_93 : decode cMo_holds 93 = .ok (.ifCond .ne 7, 3) := by decide +kernel
theorem dMo_holds_96 : decode cMo_holds 96 = .ok (.iconst 1, 1) := by decide +kernel
theorem dMo_holds_97 : decode cMo_holds 97 = .ok (.goto 4, 3) := by decide +kernel
theorem dMo_holds_100 : decode cMo_holds 100 = .ok (.iconst 0, 1) := by decide +kernel
theorem dMo_holds_101 : decode cMo_holds 101 = .ok (.ireturn, 1) := by decide +kernel
theorem dMo_holds_102 : decode cMo_holds 102 = .ok (.aload_n 0, 1) := by decide +kernel
theorem dMo_holds_103 : decode cMo_holds 103 = .ok (.getfield 134, 3) := by decide +kernel
theorem dMo_holds_106 : decode cMo_holds 106 = .ok (.ireturn, 1) := by decide +kernel
theorem dMo_holds_107 : decode cMo_holds 107 = .ok (.aload_n 0, 1) := by decide +kernel
theorem dMo_holds_108 : decode cMo_holds 108 = .ok (.getfield 134, 3) := by decide +kernel
theorem dMo_holds_111 : decode cMo_holds 111 = .ok (.ifCond .ne 7, 3) := by decide +kernel
theorem dMo_holds_114 : decode cMo_holds 114 = .ok (.iconst 1, 1) := by decide +kernel
theorem dMo_holds_115 : decode cMo_holds 115 = .ok (.goto 4, 3) := by decide +kernel
theorem dMo_holds_118 : decode cMo_holds 118 = .ok (.iconst 0, 1) := by decide +kernel
theorem dMo_holds_119 : decode cMo_holds 119 = .ok (.ireturn, 1) := by decide +kernel
theorem dMo_holds_120 : decode cMo_holds 120 = .ok (.aload_n 0, 1) := by decide +kernel
theorem dMo_holds_121 : decode cMo_holds 121 = .ok (.getfield 127, 3) := by decide +kernel
theorem dMo_holds_124 : decode cMo_holds 124 = .ok (.ireturn, 1) := by decide +kernel
theorem dMo_holds_125 : decode cMo_holds 125 = .ok (.aload_n 0, 1) := by decide +kernel
theorem dMo_holds_126 : decode cMo_holds 126 = .ok (.getfield 127, 3) := by decide +kernel
theorem dMo_holds_129 : decode cMo_holds 129 = .ok (.ifCond .ne 7, 3) := by decide +kernel
theorem dMo_holds_132 : decode cMo_holds 132 = .ok (.iconst 1, 1) := by decide +kernel
theorem dMo_holds_133 : decode cMo_holds 133 = .ok (.goto 4, 3) := by decide +kernel
theorem dMo_holds_136 : decode cMo_holds 136 = .ok (.iconst 0, 1) := by decide +kernel
theorem dMo_holds_137 : decode cMo_holds 137 = .ok (.ireturn, 1) := by decide +kernel
theorem dMo_holds_138 : decode cMo_holds 138 = .ok (.iload_n 2, 1) := by decide +kernel
theorem dMo_holds_139 : decode cMo_holds 139 = .ok (.ifCond .ne 7, 3) := by decide +kernel
theorem dMo_holds_142 : decode cMo_holds 142 = .ok (.iconst 1, 1) := by decide +kernel
theorem dMo_holds_143 : decode cMo_holds 143 = .ok (.goto 4, 3) := by decide +kernel
theorem dMo_holds_146 : decode cMo_holds 146 = .ok (.iconst 0, 1) := by decide +kernel
theorem dMo_holds_147 : decode cMo_holds 147 = .ok (.ireturn, 1) := by decide +kernel
theorem dMo_holds_148 : decode cMo_holds 148 = .ok (.iload_n 2, 1) := by decide +kernel
theorem dMo_holds_149 : decode cMo_holds 149 = .ok (.ireturn, 1) := by decide +kernel
theorem dMo_holds_150 : decode cMo_holds 150 = .ok (.aload_n 0, 1) := by decide +kernel
theorem dMo_holds_151 : decode cMo_holds 151 = .ok (.getfield 131, 3) := by decide +kernel
theorem dMo_holds_154 : decode cMo_holds 154 = .ok (.ifCond .ne 11, 3) := by decide +kernel
theorem dMo_holds_157 : decode cMo_holds 157 = .ok (.iload_n 2, 1) := by decide +kernel
theorem dMo_holds_158 : decode cMo_holds 158 = .ok (.ifCond .ne 7, 3) := by decide +kernel
theorem dMo_holds_161 : decode cMo_holds 161 = .ok (.iconst 1, 1) := by decide +kernel
theorem dMo_holds_162 : decode cMo_holds 162 = .ok (.goto 4, 3) := by decide +kernel
theorem dMo_holds_165 : decode cMo_holds 165 = .ok (.iconst 0, 1) := by decide +kernel
theorem dMo_holds_166 : decode cMo_holds 166 = .ok (.ireturn, 1) := by decide +kernel
theorem dMo_holds_167 : decode cMo_holds 167 = .ok (.aload_n 0, 1) := by decide +kernel
theorem dMo_holds_168 : decode cMo_holds 168 = .ok (.getfield 131, 3) := by decide +kernel
theorem dMo_holds_171 : decode cMo_holds 171 = .ok (.ifCond .ne 7, 3) := by decide +kernel
theorem dMo_holds_174 : decode cMo_holds 174 = .ok (.iload_n 2, 1) := by decide +kernel
theorem dMo_holds_175 : decode cMo_holds 175 = .ok (.ifCond .eq 7, 3) := by decide +kernel
theorem dMo_holds_178 : decode cMo_holds 178 = .ok (.iconst 1, 1) := by decide +kernel
theorem dMo_holds_179 : decode cMo_holds 179 = .ok (.goto 4, 3) := by decide +kernel
theorem dMo_holds_182 : decode cMo_holds 182 = .ok (.iconst 0, 1) := by decide +kernel
theorem dMo_holds_183 : decode cMo_holds 183 = .ok (.ireturn, 1) := by decide +kernel
theorem dMo_goal_0 : decode cMo_goal 0 = .ok (.aload_n 0, 1) := by decide +kernel
theorem dMo_goal_1 : decode cMo_goal 1 = .ok (.getfield 140, 3) := by decide +kernel
theorem dMo_goal_4 : decode cMo_goal 4 = .ok (.iconst 4, 1) := by decide +kernel
theorem dMo_goal_5 : decode cMo_goal 5 = .ok (.iadd, 1) := by decide +kernel
theorem dMo_goal_6 : decode cMo_goal 6 = .ok (.iconst 2, 1) := by decide +kernel
theorem dMo_goal_7 : decode cMo_goal 7 = .ok (.iload_n 1, 1) := by decide +kernel
theorem dMo_goal_8 : decode cMo_goal 8 = .ok (.iload_n 2, 1) := by decide +kernel
theorem dMo_goal_9 : decode cMo_goal 9 = .ok (.iconst 2, 1) := by decide +kernel
theorem dMo_goal_10 : decode cMo_goal 10 = .ok (.idiv, 1) := by decide +kernel
theorem dMo_goal_11 : decode cMo_goal 11 = .ok (.if_icmp .ge 7, 3) := by decide +kernel
theorem dMo_goal_14 : decode cMo_goal 14 = .ok (.iload_n 1, 1) := by decide +kernel
theorem dMo_goal_15 : decode cMo_goal 15 = .ok (.goto 6, 3) := by decide +kernel
theorem dMo_goal_18 : decode cMo_goal 18 = .ok (.iload_n 1, 1) := by decide +kernel
theorem dMo_goal_19 : decode cMo_goal 19 = .ok (.iload_n 2, 1) := by decide +kernel
theorem dMo_goal_20 : decode cMo_goal 20 = .ok (.isub, 1) := by decide +kernel
theorem dMo_goal_21 : decode cMo_goal 21 = .ok (.imul, 1) := by decide +kernel
theorem dMo_goal_22 : decode cMo_goal 22 = .ok (.iadd, 1) := by decide +kernel
theorem dMo_goal_23 : decode cMo_goal 23 = .ok (.ireturn, 1) := by decide +kernel
theorem dMo_restart_0 : decode cMo_restart 0 = .ok (.aload_n 0, 1) := by decide +kernel
theorem dMo_restart_1 : decode cMo_restart 1 = .ok (.iconst 0, 1) := by decide +kernel
theorem dMo_restart_2 : decode cMo_restart 2 = .ok (.putfield 50, 3) := by decide +kernel
theorem dMo_restart_5 : decode cMo_restart 5 = .ok (.aload_n 0, 1) := by decide +kernel
theorem dMo_restart_6 : decode cMo_restart 6 = .ok (.invokevirtual 124, 3) := by decide +kernel
theorem dMo_restart_9 : decode cMo_restart 9 = .ok (.return_, 1) := by decide +kernel
theorem dMo_register_0 : decode cMo_register 0 = .ok (.iload_n 1, 1) := by decide +kernel
theorem dMo_register_1 : decode cMo_register 1 = .ok (.iconst 0, 1) := by decide +kernel
theorem dMo_register_2 : decode cMo_register 2 = .ok (.bipush 9, 2) := by decide +kernel
theorem dMo_register_4 : decode cMo_register 4 = .ok (.invokestatic 53, 3) := by decide +kernel
theorem dMo_register_7 : decode cMo_register 7 = .ok (.ifCond .eq 9, 3) := by decide +kernel
theorem dMo_register_10 : decode cMo_register 10 = .ok (.aload_n 0, 1) := by decide +kernel
theorem dMo_register_11 : decode cMo_register 11 = .ok (.iconst 1, 1) := by decide +kernel
theorem dMo_register_12 : decode cMo_register 12 = .ok (.invokevirtual 180, 3) := by decide +kernel
theorem dMo_register_15 : decode cMo_register 15 = .ok (.ireturn, 1) := by decide +kernel
theorem dMo_register_16 : decode cMo_register 16 = .ok (.aload_n 0, 1) := by decide +kernel
theorem dMo_register_17 : decode cMo_register 17 = .ok (.iconst 0, 1) := by decide +kernel
theorem dMo_register_18 : decode cMo_register 18 = .ok (.putfield 50, 3) := by decide +kernel
theorem dMo_register_21 : decode cMo_register 21 = .ok (.iload_n 1, 1) := by decide +kernel
theorem dMo_register_22 : decode cMo_register 22 = .ok (.bipush 8, 2) := by decide +kernel
theorem dMo_register_24 : decode cMo_register 24 = .ok (.if_icmp .ge 12, 3) := by decide +kernel
theorem dMo_register_27 : decode cMo_register 27 = .ok (.aload_n 0, 1) := by decide +kernel
theorem dMo_register_28 : decode cMo_register 28 = .ok (.getfield 44, 3) := by decide +kernel
theorem dMo_register_31 : decode cMo_register 31 = .ok (.iload_n 1, 1) := by decide +kernel
theorem dMo_register_32 : decode cMo_register 32 = .ok (.iaload, 1) := by decide +kernel
theorem dMo_register_33 : decode cMo_register 33 = .ok (.goto 68, 3) := by decide +kernel
theorem dMo_register_36 : decode cMo_register 36 = .ok (.iload_n 1, 1) := by decide +kernel
theorem dMo_register_37 : decode cMo_register 37 = .ok (.bipush 8, 2) := by decide +kernel
theorem dMo_register_39 : decode cMo_register 39 = .ok (.if_icmp .ne 10, 3) := by decide +kernel
theorem dMo_register_42 : decode cMo_register 42 = .ok (.aload_n 0, 1) := by decide +kernel
theorem dMo_register_43 : decode cMo_register 43 = .ok (.getfield 140, 3) := by decide +kernel
theorem dMo_register_46 : decode cMo_register 46 = .ok (.goto 55, 3) := by decide +kernel
theorem dMo_register_49 : decode cMo_register 49 = .ok (.aload_n 0, 1) := by decide +kernel
theorem dMo_register_50 : decode cMo_register 50 = .ok (.getfield 127, 3) := by decide +kernel
theorem dMo_register_53 : decode cMo_register 53 = .ok (.ifCond .eq 8, 3) := by decide +kernel
theorem dMo_register_56 : decode cMo_register 56 = .ok (.bipush 8, 2) := by decide +kernel
theorem dMo_register_58 : decode cMo_register 58 = .ok (.goto 4, 3) := by decide +kernel
theorem dMo_register_61 : decode cMo_register 61 = .ok (.iconst 0, 1) := by decide +kernel
theorem dMo_register_62 : decode cMo_register 62 = .ok (.aload_n 0, 1) := by decide +kernel
theorem dMo_register_63 : decode cMo_register 63 = .ok (.getfield 131, 3) := by decide +kernel
theorem dMo_register_66 : decode cMo_register 66 = .ok (.ifCond .eq 7, 3) := by decide +kernel
theorem dMo_register_69 : decode cMo_register 69 = .ok (.iconst 4, 1) := by decide +kernel
theorem dMo_register_70 : decode cMo_register 70 = .ok (.goto 4, 3) := by decide +kernel
theorem dMo_register_73 : decode cMo_register 73 = .ok (.iconst 0, 1) := by decide +kernel
theorem dMo_register_74 : decode cMo_register 74 = .ok (.iadd, 1) := by decide +kernel
theorem dMo_register_75 : decode cMo_register 75 = .ok (.aload_n 0, 1) := by decide +kernel
theorem dMo_register_76 : decode cMo_register 76 = .ok (.getfield 134, 3) := by decide +kernel
theorem dMo_register_79 : decode cMo_register 79 = .ok (.ifCond .eq 7, 3) := by decide +kernel
theorem dMo_register_82 : decode cMo_register 82 = .ok (.iconst 2, 1) := by decide +kernel
theorem dMo_register_83 : decode cMo_register 83 = .ok (.goto 4, 3) := by decide +kernel
theorem dMo_register_86 : decode cMo_register 86 = .ok (.iconst 0, 1) := by decide +kernel
theorem dMo_register_87 : decode cMo_register 87 = .ok (.iadd, 1) := by decide +kernel
theorem dMo_register_88 : decode cMo_register 88 = .ok (.aload_n 0, 1) := by decide +kernel
theorem dMo_register_89 : decode cMo_register 89 = .ok (.getfield 137, 3) := by decide +kernel
theorem dMo_register_92 : decode cMo_register 92 = .ok (.ifCond .eq 7, 3) := by decide +kernel
theorem dMo_register_95 : decode cMo_register 95 = .ok (.iconst 1, 1) := by decide +kernel
theorem dMo_register_96 : decode cMo_register 96 = .ok (.goto 4, 3) := by decide +kernel
theorem dMo_register_99 : decode cMo_register 99 = .ok (.iconst 0, 1) := by decide +kernel
theorem dMo_register_100 : decode cMo_register 100 = .ok (.iadd, 1) := by decide +kernel
theorem dMo_register_101 : decode cMo_register 101 = .ok (.ireturn, 1) := by decide +kernel
theorem dMo_data_0 : decode cMo_data 0 = .ok (.aload_n 0, 1) := by decide +kernel
theorem dMo_data_1 : decode cMo_data 1 = .ok (.iconst 0, 1) := by decide +kernel
theorem dMo_data_2 : decode cMo_data 2 = .ok (.putfield 50, 3) := by decide +kernel
theorem dMo_data_5 : decode cMo_data 5 = .ok (.iload_n 1, 1) := by decide +kernel
theorem dMo_data_6 : decode cMo_data 6 = .ok (.iconst 0, 1) := by decide +kernel
theorem dMo_data_7 : decode cMo_data 7 = .ok (.bipush 31, 2) := by decide +kernel
theorem dMo_data_9 : decode cMo_data 9 = .ok (.invokestatic 53, 3) := by decide +kernel
theorem dMo_data_12 : decode cMo_data 12 = .ok (.ifCond .eq 7, 3) := by decide +kernel
theorem dMo_data_15 : decode cMo_data 15 = .ok (.iconst 0, 1) := by decide +kernel
theorem dMo_data_16 : decode cMo_data 16 = .ok (.goto 9, 3) := by decide +kernel
theorem dMo_data_19 : decode cMo_data 19 = .ok (.aload_n 0, 1) := by decide +kernel
theorem dMo_data_20 : decode cMo_data 20 = .ok (.getfield 47, 3) := by decide +kernel
theorem dMo_data_23 : decode cMo_data 23 = .ok (.iload_n 1, 1) := by decide +kernel
theorem dMo_data_24 : decode cMo_data 24 = .ok (.iaload, 1) := by decide +kernel
theorem dMo_data_25 : decode cMo_data 25 = .ok (.ireturn, 1) := by decide +kernel
