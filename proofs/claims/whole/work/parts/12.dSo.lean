theorem dSo_init_0 : decode cSo_init 0 = .ok (.aload_n 0, 1) := by decide +kernel
theorem dSo_init_1 : decode cSo_init 1 = .ok (.invokespecial 3, 3) := by decide +kernel
theorem dSo_init_4 : decode cSo_init 4 = .ok (.aload_n 0, 1) := by decide +kernel
theorem dSo_init_5 : decode cSo_init 5 = .ok (.sipush 160, 3) := by decide +kernel
theorem dSo_init_8 : decode cSo_init 8 = .ok (.newarray .int, 2) := by decide +kernel
theorem dSo_init_10 : decode cSo_init 10 = .ok (.putfield 9, 3) := by decide +kernel
theorem dSo_init_13 : decode cSo_init 13 = .ok (.aload_n 0, 1) := by decide +kernel
theorem dSo_init_14 : decode cSo_init 14 = .ok (.sipush 160, 3) := by decide +kernel
theorem dSo_init_17 : decode cSo_init 17 = .ok (.newarray .int, 2) := by decide +kernel
theorem dSo_init_19 : decode cSo_init 19 = .ok (.putfield 15, 3) := by decide +kernel
theorem dSo_init_22 : decode cSo_init 22 = .ok (.aload_n 0, 1) := by decide +kernel
theorem dSo_init_23 : decode cSo_init 23 = .ok (.sipush 160, 3) := by decide +kernel
theorem dSo_init_26 : decode cSo_init 26 = .ok (.newarray .int, 2) := by decide +kernel
theorem dSo_init_28 : decode cSo_init 28 = .ok (.putfield 18, 3) := by decide +kernel
theorem dSo_init_31 : decode cSo_init 31 = .ok (.aload_n 0, 1) := by decide +kernel
theorem dSo_init_32 : decode cSo_init 32 = .ok (.sipush 160, 3) := by decide +kernel
theorem dSo_init_35 : decode cSo_init 35 = .ok (.newarray .int, 2) := by decide +kernel
theorem dSo_init_37 : decode cSo_init 37 = .ok (.putfield 21, 3) := by decide +kernel
theorem dSo_init_40 : decode cSo_init 40 = .ok (.aload_n 0, 1) := by decide +kernel
theorem dSo_init_41 : decode cSo_init 41 = .ok (.bipush 16, 2) := by decide +kernel
theorem dSo_init_43 : decode cSo_init 43 = .ok (.newarray .int, 2) := by decide +kernel
theorem dSo_init_45 : decode cSo_init 45 = .ok (.putfield 24, 3) := by decide +kernel
theorem dSo_init_48 : decode cSo_init 48 = .ok (.aload_n 0, 1) := by decide +kernel
theorem dSo_init_49 : decode cSo_init 49 = .ok (.invokevirtual 27, 3) := by decide +kernel
theorem dSo_init_52 : decode cSo_init 52 = .ok (.return_, 1) := by decide +kernel
theorem dSo_forget_0 : decode cSo_forget 0 = .ok (.aload_n 0, 1) := by decide +kernel
theorem dSo_forget_1 : decode cSo_forget 1 = .ok (.iconst 0, 1) := by decide +kernel
theorem dSo_forget_2 : decode cSo_forget 2 = .ok (.putfield 30, 3) := by decide +kernel
theorem dSo_forget_5 : decode cSo_forget 5 = .ok (.aload_n 0, 1) := by decide +kernel
theorem dSo_forget_6 : decode cSo_forget 6 = .ok (.getfield 24, 3) := by decide +kernel
theorem dSo_forget_9 : decode cSo_forget 9 = .ok (.iconst (-1), 1) := by decide +kernel
theorem dSo_forget_10 : decode cSo_forget 10 = .ok (.invokestatic 34, 3) := by decide +kernel
theorem dSo_forget_13 : decode cSo_forget 13 = .ok (.return_, 1) := by decide +kernel
theorem dSo_hasRoom_0 : decode cSo_hasRoom 0 = .ok (.aload_n 0, 1) := by decide +kernel
theorem dSo_hasRoom_1 : decode cSo_hasRoom 1 = .ok (.getfield 30, 3) := by decide +kernel
theorem dSo_hasRoom_4 : decode cSo_hasRoom 4 = .ok (.sipush 160, 3) := by decide +kernel
theorem dSo_hasRoom_7 : decode cSo_hasRoom 7 = .ok (.if_icmp .ge 7, 3) := by decide +kernel
theorem dSo_hasRoom_10 : decode cSo_hasRoom 10 = .ok (.iconst 1, 1) := by decide +kernel
theorem dSo_hasRoom_11 : decode cSo_hasRoom 11 = .ok (.goto 4, 3) := by decide +kernel
theorem dSo_hasRoom_14 : decode cSo_hasRoom 14 = .ok (.iconst 0, 1) := by decide +kernel
theorem dSo_hasRoom_15 : decode cSo_hasRoom 15 = .ok (.ireturn, 1) := by decide +kernel
theorem dSo_lineOfLabel_0 : decode cSo_lineOfLabel 0 = .ok (.iload_n 1, 1) := by decide +kernel
theorem dSo_lineOfLabel_1 : decode cSo_lineOfLabel 1 = .ok (.ifCond .lt 18, 3) := by decide +kernel
theorem dSo_lineOfLabel_4 : decode cSo_lineOfLabel 4 = .ok (.iload_n 1, 1) := by decide +kernel
theorem dSo_lineOfLabel_5 : decode cSo_lineOfLabel 5 = .ok (.bipush 16, 2) := by decide +kernel
theorem dSo_lineOfLabel_7 : decode cSo_lineOfLabel 7 = .ok (.if_icmp .ge 12, 3) := by decide +kernel
theorem dSo_lineOfLabel_10 : decode cSo_lineOfLabel 10 = .ok (.aload_n 0, 1) := by decide +kernel
theorem dSo_lineOfLabel_11 : decode cSo_lineOfLabel 11 = .ok (.getfield 24, 3) := by decide +kernel
theorem dSo_lineOfLabel_14 : decode cSo_lineOfLabel 14 = .ok (.iload_n 1, 1) := by decide +kernel
theorem dSo_lineOfLabel_15 : decode cSo_lineOfLabel 15 = .ok (.iaload, 1) := by decide +kernel
theorem dSo_lineOfLabel_16 : decode cSo_lineOfLabel 16 = .ok (.goto 4, 3) := by decide +kernel
theorem dSo_lineOfLabel_19 : decode cSo_lineOfLabel 19 = .ok (.iconst (-1), 1) := by decide +kernel
theorem dSo_lineOfLabel_20 : decode cSo_lineOfLabel 20 = .ok (.ireturn, 1) := by decide +kernel
theorem dSo_append_0 : decode cSo_append 0 = .ok (.aload_n 0, 1) := by decide +kernel
theorem dSo_append_1 : decode cSo_append 1 = .ok (.getfield 30, 3) := by decide +kernel
theorem dSo_append_4 : decode cSo_append 4 = .ok (.istore 5, 2) := by decide +kernel
theorem dSo_append_6 : decode cSo_append 6 = .ok (.aload_n 0, 1) := by decide +kernel
theorem dSo_append_7 : decode cSo_append 7 = .ok (.getfield 9, 3) := by decide +kernel
theorem dSo_append_10 : decode cSo_append 10 = .ok (.iload 5, 2) := by decide +kernel
theorem dSo_append_12 : decode cSo_append 12 = .ok (.iload_n 1, 1) := by decide +kernel
theorem dSo_append_13 : decode cSo_append 13 = .ok (.iastore, 1) := by decide +kernel
theorem dSo_append_14 : decode cSo_append 14 = .ok (.aload_n 0, 1) := by decide +kernel
theorem dSo_append_15 : decode cSo_append 15 = .ok (.getfield 15, 3) := by decide +kernel
theorem dSo_append_18 : decode cSo_append 18 = .ok (.iload 5, 2) := by decide +kernel
theorem dSo_append_20 : decode cSo_append 20 = .ok (.iload_n 2, 1) := by decide +kernel
theorem dSo_append_21 : decode cSo_append 21 = .ok (.iastore, 1) := by decide +kernel
theorem dSo_append_22 : decode cSo_append 22 = .ok (.aload_n 0, 1) := by decide +kernel
theorem dSo_append_23 : decode cSo_append 23 = .ok (.getfield 18, 3) := by decide +kernel
theorem dSo_append_26 : decode cSo_append 26 = .ok (.iload 5, 2) := by decide +kernel
theorem dSo_append_28 : decode cSo_append 28 = .ok (.iload_n 3, 1) := by decide +kernel
theorem dSo_append_29 : decode cSo_append 29 = .ok (.iastore, 1) := by decide +kernel
theorem dSo_append_30 : decode cSo_append 30 = .ok (.aload_n 0, 1) := by decide +kernel
theorem dSo_append_31 : decode cSo_append 31 = .ok (.getfield 21, 3) := by decide +kernel
theorem dSo_append_34 : decode cSo_append 34 = .ok (.iload 5, 2) := by decide +kernel
theorem dSo_append_36 : decode cSo_append 36 = .ok (.iload 4, 2) := by decide +kernel
theorem dSo_append_38 : decode cSo_append 38 = .ok (.iastore, 1) := by decide +kernel
theorem dSo_append_39 : decode cSo_append 39 = .ok (.iload_n 1, 1) := by decide +kernel
theorem dSo_append_40 : decode cSo_append 40 = .ok (.ifCond .ne 11, 3) := by decide +kernel
theorem dSo_append_43 : decode cSo_append 43 = .ok (.aload_n 0, 1) := by decide +kernel
theorem dSo_append_44 : decode cSo_append 44 = .ok (.getfield 24, 3) := by decide +kernel
theorem dSo_append_47 : decode cSo_append 47 = .ok (.iload_n 2, 1) := by decide +kernel
theorem dSo_append_48 : decode cSo_append 48 = .ok (.iload 5, 2) := by decide +kernel
theorem dSo_append_50 : decode cSo_append 50 = .ok (.iastore, 1) := by decide +kernel
theorem dSo_append_51 : decode cSo_append 51 = .ok (.aload_n 0, 1) := by decide +kernel
theorem dSo_append_52 : decode cSo_append 52 = .ok (.iload 5, 2) := by decide +kernel
theorem dSo_append_54 : decode cSo_append 54 = .ok (.iconst 1, 1) := by decide +kernel
theorem dSo_append_55 : decode cSo_append 55 = .ok (.iadd, 1) := by decide +kernel
theorem dSo_append_56 : decode cSo_append 56 = .ok (.putfield 30, 3) := by decide +kernel
theorem dSo_append_59 : decode cSo_append 59 = .ok (.iload 5, 2) := by decide +kernel
theorem dSo_append_61 : decode cSo_append 61 = .ok (.ireturn, 1) := by decide +kernel
theorem dSo_halvesOf_0 : decode cSo_halvesOf 0 = .ok (.aload_n 0, 1) := by decide +kernel
theorem dSo_halvesOf_1 : decode cSo_halvesOf 1 = .ok (.getfield 9, 3) := by decide +kernel
theorem dSo_halvesOf_4 : decode cSo_halvesOf 4 = .ok (.iload_n 1, 1) := by decide +kernel
theorem dSo_halvesOf_5 : decode cSo_halvesOf 5 = .ok (.iaload, 1) := by decide +kernel
theorem dSo_halvesOf_6 : decode cSo_halvesOf 6 = .ok (.lookupswitch 43 #[(0, 34), (13, 36), (14, 34)], 34) := by decide +kernel
theorem dSo_halvesOf_40 : decode cSo_halvesOf 40 = .ok (.iconst 0, 1) := by decide +kernel
theorem dSo_halvesOf_41 : decode cSo_halvesOf 41 = .ok (.ireturn, 1) := by decide +kernel
theorem dSo_halvesOf_42 : decode cSo_halvesOf 42 = .ok (.aload_n 0, 1) := by decide +kernel
theorem dSo_halvesOf_43 : decode cSo_halvesOf 43 = .ok (.getfield 15, 3) := by decide +kernel
theorem dSo_halvesOf_46 : decode cSo_halvesOf 46 = .ok (.iload_n 1, 1) := by decide +kernel
theorem dSo_halvesOf_47 : decode cSo_halvesOf 47 = .ok (.iaload, 1) := by decide +kernel
theorem dSo_halvesOf_48 : decode cSo_halvesOf 48 = .ok (.ireturn, 1) := by decide +kernel
theorem dSo_halvesOf_49 : decode cSo_halvesOf 49 = .ok (.iconst 1, 1) := by decide +kernel
theorem dSo_halvesOf_50 : decode cSo_halvesOf 50 = .ok (.ireturn, 1) := by decide +kernel
