theorem dIm_init_0 : decode cIm_init 0 = .ok (.aload_n 0, 1) := by decide +kernel
theorem dIm_init_1 : decode cIm_init 1 = .ok (.invokespecial 3, 3) := by decide +kernel
theorem dIm_init_4 : decode cIm_init 4 = .ok (.aload_n 0, 1) := by decide +kernel
theorem dIm_init_5 : decode cIm_init 5 = .ok (.sipush 6400, 3) := by decide +kernel
theorem dIm_init_8 : decode cIm_init 8 = .ok (.newarray .short, 2) := by decide +kernel
theorem dIm_init_10 : decode cIm_init 10 = .ok (.putfield 9, 3) := by decide +kernel
theorem dIm_init_13 : decode cIm_init 13 = .ok (.return_, 1) := by decide +kernel
theorem dIm_at_0 : decode cIm_at 0 = .ok (.iload_n 1, 1) := by decide +kernel
theorem dIm_at_1 : decode cIm_at 1 = .ok (.ifCond .lt 20, 3) := by decide +kernel
theorem dIm_at_4 : decode cIm_at 4 = .ok (.iload_n 1, 1) := by decide +kernel
theorem dIm_at_5 : decode cIm_at 5 = .ok (.aload_n 0, 1) := by decide +kernel
theorem dIm_at_6 : decode cIm_at 6 = .ok (.getfield 15, 3) := by decide +kernel
theorem dIm_at_9 : decode cIm_at 9 = .ok (.if_icmp .ge 12, 3) := by decide +kernel
theorem dIm_at_12 : decode cIm_at 12 = .ok (.aload_n 0, 1) := by decide +kernel
theorem dIm_at_13 : decode cIm_at 13 = .ok (.getfield 9, 3) := by decide +kernel
theorem dIm_at_16 : decode cIm_at 16 = .ok (.iload_n 1, 1) := by decide +kernel
theorem dIm_at_17 : decode cIm_at 17 = .ok (.saload, 1) := by decide +kernel
theorem dIm_at_18 : decode cIm_at 18 = .ok (.goto 4, 3) := by decide +kernel
theorem dIm_at_21 : decode cIm_at 21 = .ok (.iconst 0, 1) := by decide +kernel
theorem dIm_at_22 : decode cIm_at 22 = .ok (.ireturn, 1) := by decide +kernel
theorem dIm_put_0 : decode cIm_put 0 = .ok (.iload_n 1, 1) := by decide +kernel
theorem dIm_put_1 : decode cIm_put 1 = .ok (.ifCond .lt 18, 3) := by decide +kernel
theorem dIm_put_4 : decode cIm_put 4 = .ok (.iload_n 1, 1) := by decide +kernel
theorem dIm_put_5 : decode cIm_put 5 = .ok (.sipush 6400, 3) := by decide +kernel
theorem dIm_put_8 : decode cIm_put 8 = .ok (.if_icmp .ge 11, 3) := by decide +kernel
theorem dIm_put_11 : decode cIm_put 11 = .ok (.aload_n 0, 1) := by decide +kernel
theorem dIm_put_12 : decode cIm_put 12 = .ok (.getfield 9, 3) := by decide +kernel
theorem dIm_put_15 : decode cIm_put 15 = .ok (.iload_n 1, 1) := by decide +kernel
theorem dIm_put_16 : decode cIm_put 16 = .ok (.iload_n 2, 1) := by decide +kernel
theorem dIm_put_17 : decode cIm_put 17 = .ok (.i2s, 1) := by decide +kernel
theorem dIm_put_18 : decode cIm_put 18 = .ok (.sastore, 1) := by decide +kernel
theorem dIm_put_19 : decode cIm_put 19 = .ok (.return_, 1) := by decide +kernel
theorem dIm_holds_0 : decode cIm_holds 0 = .ok (.iload_n 1, 1) := by decide +kernel
theorem dIm_holds_1 : decode cIm_holds 1 = .ok (.ifCond .lt 17, 3) := by decide +kernel
theorem dIm_holds_4 : decode cIm_holds 4 = .ok (.iload_n 1, 1) := by decide +kernel
theorem dIm_holds_5 : decode cIm_holds 5 = .ok (.iconst 2, 1) := by decide +kernel
theorem dIm_holds_6 : decode cIm_holds 6 = .ok (.aload_n 0, 1) := by decide +kernel
theorem dIm_holds_7 : decode cIm_holds 7 = .ok (.getfield 15, 3) := by decide +kernel
theorem dIm_holds_10 : decode cIm_holds 10 = .ok (.imul, 1) := by decide +kernel
theorem dIm_holds_11 : decode cIm_holds 11 = .ok (.if_icmp .ge 7, 3) := by decide +kernel
theorem dIm_holds_14 : decode cIm_holds 14 = .ok (.iconst 1, 1) := by decide +kernel
theorem dIm_holds_15 : decode cIm_holds 15 = .ok (.goto 4, 3) := by decide +kernel
theorem dIm_holds_18 : decode cIm_holds 18 = .ok (.iconst 0, 1) := by decide +kernel
theorem dIm_holds_19 : decode cIm_holds 19 = .ok (.ireturn, 1) := by decide +kernel
theorem dIm_wordAt_0 : decode cIm_wordAt 0 = .ok (.iload_n 1, 1) := by decide +kernel
theorem dIm_wordAt_1 : decode cIm_wordAt 1 = .ok (.iconst 2, 1) := by decide +kernel
theorem dIm_wordAt_2 : decode cIm_wordAt 2 = .ok (.idiv, 1) := by decide +kernel
theorem dIm_wordAt_3 : decode cIm_wordAt 3 = .ok (.istore_n 2, 1) := by decide +kernel
theorem dIm_wordAt_4 : decode cIm_wordAt 4 = .ok (.aload_n 0, 1) := by decide +kernel
theorem dIm_wordAt_5 : decode cIm_wordAt 5 = .ok (.iload_n 2, 1) := by decide +kernel
theorem dIm_wordAt_6 : decode cIm_wordAt 6 = .ok (.invokevirtual 19, 3) := by decide +kernel
theorem dIm_wordAt_9 : decode cIm_wordAt 9 = .ok (.ldc 23, 2) := by decide +kernel
theorem dIm_wordAt_11 : decode cIm_wordAt 11 = .ok (.iand, 1) := by decide +kernel
theorem dIm_wordAt_12 : decode cIm_wordAt 12 = .ok (.aload_n 0, 1) := by decide +kernel
theorem dIm_wordAt_13 : decode cIm_wordAt 13 = .ok (.iload_n 2, 1) := by decide +kernel
theorem dIm_wordAt_14 : decode cIm_wordAt 14 = .ok (.iconst 1, 1) := by decide +kernel
theorem dIm_wordAt_15 : decode cIm_wordAt 15 = .ok (.iadd, 1) := by decide +kernel
theorem dIm_wordAt_16 : decode cIm_wordAt 16 = .ok (.invokevirtual 19, 3) := by decide +kernel
theorem dIm_wordAt_19 : decode cIm_wordAt 19 = .ok (.bipush 16, 2) := by decide +kernel
theorem dIm_wordAt_21 : decode cIm_wordAt 21 = .ok (.ishl, 1) := by decide +kernel
theorem dIm_wordAt_22 : decode cIm_wordAt 22 = .ok (.ior, 1) := by decide +kernel
theorem dIm_wordAt_23 : decode cIm_wordAt 23 = .ok (.ireturn, 1) := by decide +kernel
