theorem dLa_init_0 : decode cLa_init 0 = .ok (.aload_n 0, 1) := by decide +kernel
theorem dLa_init_1 : decode cLa_init 1 = .ok (.invokespecial 3, 3) := by decide +kernel
theorem dLa_init_4 : decode cLa_init 4 = .ok (.aload_n 0, 1) := by decide +kernel
theorem dLa_init_5 : decode cLa_init 5 = .ok (.sipush 160, 3) := by decide +kernel
theorem dLa_init_8 : decode cLa_init 8 = .ok (.newarray .int, 2) := by decide +kernel
theorem dLa_init_10 : decode cLa_init 10 = .ok (.putfield 9, 3) := by decide +kernel
theorem dLa_init_13 : decode cLa_init 13 = .ok (.aload_n 0, 1) := by decide +kernel
theorem dLa_init_14 : decode cLa_init 14 = .ok (.sipush 160, 3) := by decide +kernel
theorem dLa_init_17 : decode cLa_init 17 = .ok (.newarray .int, 2) := by decide +kernel
theorem dLa_init_19 : decode cLa_init 19 = .ok (.putfield 15, 3) := by decide +kernel
theorem dLa_init_22 : decode cLa_init 22 = .ok (.aload_n 0, 1) := by decide +kernel
theorem dLa_init_23 : decode cLa_init 23 = .ok (.sipush 160, 3) := by decide +kernel
theorem dLa_init_26 : decode cLa_init 26 = .ok (.newarray .int, 2) := by decide +kernel
theorem dLa_init_28 : decode cLa_init 28 = .ok (.putfield 18, 3) := by decide +kernel
theorem dLa_init_31 : decode cLa_init 31 = .ok (.aload_n 0, 1) := by decide +kernel
theorem dLa_init_32 : decode cLa_init 32 = .ok (.sipush 160, 3) := by decide +kernel
theorem dLa_init_35 : decode cLa_init 35 = .ok (.newarray .int, 2) := by decide +kernel
theorem dLa_init_37 : decode cLa_init 37 = .ok (.putfield 21, 3) := by decide +kernel
theorem dLa_init_40 : decode cLa_init 40 = .ok (.aload_n 0, 1) := by decide +kernel
theorem dLa_init_41 : decode cLa_init 41 = .ok (.aload_n 1, 1) := by decide +kernel
theorem dLa_init_42 : decode cLa_init 42 = .ok (.putfield 24, 3) := by decide +kernel
theorem dLa_init_45 : decode cLa_init 45 = .ok (.aload_n 0, 1) := by decide +kernel
theorem dLa_init_46 : decode cLa_init 46 = .ok (.aload_n 2, 1) := by decide +kernel
theorem dLa_init_47 : decode cLa_init 47 = .ok (.putfield 28, 3) := by decide +kernel
theorem dLa_init_50 : decode cLa_init 50 = .ok (.return_, 1) := by decide +kernel
theorem dLa_measure_0 : decode cLa_measure 0 = .ok (.aload_n 0, 1) := by decide +kernel
theorem dLa_measure_1 : decode cLa_measure 1 = .ok (.iconst 0, 1) := by decide +kernel
theorem dLa_measure_2 : decode cLa_measure 2 = .ok (.putfield 32, 3) := by decide +kernel
theorem dLa_measure_5 : decode cLa_measure 5 = .ok (.aload_n 0, 1) := by decide +kernel
theorem dLa_measure_6 : decode cLa_measure 6 = .ok (.invokevirtual 36, 3) := by decide +kernel
theorem dLa_measure_9 : decode cLa_measure 9 = .ok (.aload_n 0, 1) := by decide +kernel
theorem dLa_measure_10 : decode cLa_measure 10 = .ok (.invokevirtual 39, 3) := by decide +kernel
theorem dLa_measure_13 : decode cLa_measure 13 = .ok (.return_, 1) := by decide +kernel
theorem dLa_layAll_0 : decode cLa_layAll 0 = .ok (.aload_n 0, 1) := by decide +kernel
theorem dLa_layAll_1 : decode cLa_layAll 1 = .ok (.iconst 0, 1) := by decide +kernel
theorem dLa_layAll_2 : decode cLa_layAll 2 = .ok (.putfield 42, 3) := by decide +kernel
theorem dLa_layAll_5 : decode cLa_layAll 5 = .ok (.aload_n 0, 1) := by decide +kernel
theorem dLa_layAll_6 : decode cLa_layAll 6 = .ok (.iconst 0, 1) := by decide +kernel
theorem dLa_layAll_7 : decode cLa_layAll 7 = .ok (.putfield 51, 3) := by decide +kernel
theorem dLa_layAll_10 : decode cLa_layAll 10 = .ok (.aload_n 0, 1) := by decide +kernel
theorem dLa_layAll_11 : decode cLa_layAll 11 = .ok (.iconst 0, 1) := by decide +kernel
theorem dLa_layAll_12 : decode cLa_layAll 12 = .ok (.putfield 55, 3) := by decide +kernel
theorem dLa_layAll_15 : decode cLa_layAll 15 = .ok (.aload_n 0, 1) := by decide +kernel
theorem dLa_layAll_16 : decode cLa_layAll 16 = .ok (.iconst (-1), 1) := by decide +kernel
theorem dLa_layAll_17 : decode cLa_layAll 17 = .ok (.putfield 58, 3) := by decide +kernel
theorem dLa_layAll_20 : decode cLa_layAll 20 = .ok (.iconst 0, 1) := by decide +kernel
theorem dLa_layAll_21 : decode cLa_layAll 21 = .ok (.istore_n 1, 1) := by decide +kernel
theorem dLa_layAll_22 : decode cLa_layAll 22 = .ok (.iload_n 1, 1) := by decide +kernel
theorem dLa_layAll_23 : decode cLa_layAll 23 = .ok (.aload_n 0, 1) := by decide +kernel
theorem dLa_layAll_24 : decode cLa_layAll 24 = .ok (.getfield 24, 3) := by decide +kernel
theorem dLa_layAll_27 : decode cLa_layAll 27 = .ok (.getfield 61, 3) := by decide +kernel
theorem dLa_layAll_30 : decode cLa_layAll 30 = .ok (.if_icmp .ge 14, 3) := by decide +kernel
theorem dLa_layAll_33 : decode cLa_layAll 33 = .ok (.aload_n 0, 1) := by decide +kernel
theorem dLa_layAll_34 : decode cLa_layAll 34 = .ok (.iload_n 1, 1) := by decide +kernel
theorem dLa_layAll_35 : decode cLa_layAll 35 = .ok (.invokevirtual 64, 3) := by decide +kernel
theorem dLa_layAll_38 : decode cLa_layAll 38 = .ok (.iinc 1 1, 3) := by decide +kernel
theorem dLa_layAll_41 : decode cLa_layAll 41 = .ok (.goto (-19), 3) := by decide +kernel
theorem dLa_layAll_44 : decode cLa_layAll 44 = .ok (.aload_n 0, 1) := by decide +kernel
theorem dLa_layAll_45 : decode cLa_layAll 45 = .ok (.aload_n 0, 1) := by decide +kernel
theorem dLa_layAll_46 : decode cLa_layAll 46 = .ok (.getfield 24, 3) := by decide +kernel
theorem dLa_layAll_49 : decode cLa_layAll 49 = .ok (.getfield 61, 3) := by decide +kernel
theorem dLa_layAll_52 : decode cLa_layAll 52 = .ok (.invokevirtual 68, 3) := by decide +kernel
theorem dLa_layAll_55 : decode cLa_layAll 55 = .ok (.return_, 1) := by decide +kernel
theorem dLa_layLine_0 : decode cLa_layLine 0 = .ok (.aload_n 0, 1) := by decide +kernel
theorem dLa_layLine_1 : decode cLa_layLine 1 = .ok (.getfield 24, 3) := by decide +kernel
theorem dLa_layLine_4 : decode cLa_layLine 4 = .ok (.getfield 71, 3) := by decide +kernel
theorem dLa_layLine_7 : decode cLa_layLine 7 = .ok (.iload_n 1, 1) := by decide +kernel
theorem dLa_layLine_8 : decode cLa_layLine 8 = .ok (.iaload, 1) := by decide +kernel
theorem dLa_layLine_9 : decode cLa_layLine 9 = .ok (.istore_n 2, 1) := by decide +kernel
theorem dLa_layLine_10 : decode cLa_layLine 10 = .ok (.aload_n 0, 1) := by decide +kernel
theorem dLa_layLine_11 : decode cLa_layLine 11 = .ok (.getfield 24, 3) := by decide +kernel
theorem dLa_layLine_14 : decode cLa_layLine 14 = .ok (.iload_n 1, 1) := by decide +kernel
theorem dLa_layLine_15 : decode cLa_layLine 15 = .ok (.invokevirtual 74, 3) := by decide +kernel
theorem dLa_layLine_18 : decode cLa_layLine 18 = .ok (.istore_n 3, 1) := by decide +kernel
theorem dLa_layLine_19 : decode cLa_layLine 19 = .ok (.iconst 0, 1) := by decide +kernel
theorem dLa_layLine_20 : decode cLa_layLine 20 = .ok (.istore 4, 2) := by decide +kernel
theorem dLa_layLine_22 : decode cLa_layLine 22 = .ok (.iload 4, 2) := by decide +kernel
theorem dLa_layLine_24 : decode cLa_layLine 24 = .ok (.iload_n 3, 1) := by decide +kernel
theorem dLa_layLine_25 : decode cLa_layLine 25 = .ok (.if_icmp .ge 61, 3) := by decide +kernel
theorem dLa_layLine_28 : decode cLa_layLine 28 = .ok (.aload_n 0, 1) := by decide +kernel
theorem dLa_layLine_29 : decode cLa_layLine 29 = .ok (.invokevirtual 78, 3) := by decide +kernel
theorem dLa_layLine_32 : decode cLa_layLine 32 = .ok (.ifCond .eq 8, 3) := by decide +kernel
theorem dLa_layLine_35 : decode cLa_layLine 35 = .ok (.aload_n 0, 1) := by decide +kernel
theorem dLa_layLine_36 : decode cLa_layLine 36 = .ok (.iload_n 1, 1) := by decide +kernel
theorem dLa_layLine_37 : decode cLa_layLine 37 = .ok (.invokevirtual 68, 3) := by decide +kernel
theorem dLa_layLine_40 : decode cLa_layLine 40 = .ok (.iload 4, 2) := by decide +kernel
theorem dLa_layLine_42 : decode cLa_layLine 42 = .ok (.ifCond .ne 13, 3) := by decide +kernel
theorem dLa_layLine_45 : decode cLa_layLine 45 = .ok (.aload_n 0, 1) := by decide +kernel
theorem dLa_layLine_46 : decode cLa_layLine 46 = .ok (.getfield 9, 3) := by decide +kernel
theorem dLa_layLine_49 : decode cLa_layLine 49 = .ok (.iload_n 1, 1) := by decide +kernel
theorem dLa_layLine_50 : decode cLa_layLine 50 = .ok (.aload_n 0, 1) := by decide +kernel
theorem dLa_layLine_51 : decode cLa_layLine 51 = .ok (.getfield 42, 3) := by decide +kernel
theorem dLa_layLine_54 : decode cLa_layLine 54 = .ok (.iastore, 1) := by decide +kernel
theorem dLa_layLine_55 : decode cLa_layLine 55 = .ok (.aload_n 0, 1) := by decide +kernel
theorem dLa_layLine_56 : decode cLa_layLine 56 = .ok (.aload_n 0, 1) := by decide +kernel
theorem dLa_layLine_57 : decode cLa_layLine 57 = .ok (.getfield 32, 3) := by decide +kernel
theorem dLa_layLine_60 : decode cLa_layLine 60 = .ok (.ifCond .eq 11, 3) := by decide +kernel
theorem dLa_layLine_63 : decode cLa_layLine 63 = .ok (.aload_n 0, 1) := by decide +kernel
theorem dLa_layLine_64 : decode cLa_layLine 64 = .ok (.iload_n 1, 1) := by decide +kernel
theorem dLa_layLine_65 : decode cLa_layLine 65 = .ok (.invokevirtual 82, 3) := by decide +kernel
theorem dLa_layLine_68 : decode cLa_layLine 68 = .ok (.goto 4, 3) := by decide +kernel
theorem dLa_layLine_71 : decode cLa_layLine 71 = .ok (.iconst 0, 1) := by decide +kernel
theorem dLa_layLine_72 : decode cLa_layLine 72 = .ok (.invokevirtual 85, 3) := by decide +kernel
theorem dLa_layLine_75 : decode cLa_layLine 75 = .ok (.aload_n 0, 1) := by decide +kernel
theorem dLa_layLine_76 : decode cLa_layLine 76 = .ok (.iload_n 2, 1) := by decide +kernel
theorem dLa_layLine_77 : decode cLa_layLine 77 = .ok (.putfield 58, 3) := by decide +kernel
theorem dLa_layLine_80 : decode cLa_layLine 80 = .ok (.iinc 4 1, 3) := by decide +kernel
theorem dLa_layLine_83 : decode cLa_layLine 83 = .ok (.goto (-61), 3) := by decide +kernel
theorem dLa_layLine_86 : decode cLa_layLine 86 = .ok (.iload_n 2, 1) := by decide +kernel
theorem dLa_layLine_87 : decode cLa_layLine 87 = .ok (.bipush 10, 2) := by decide +kernel
theorem dLa_layLine_89 : decode cLa_layLine 89 = .ok (.if_icmp .ne 11, 3) := by decide +kernel
theorem dLa_layLine_92 : decode cLa_layLine 92 = .ok (.aload_n 0, 1) := by decide +kernel
theorem dLa_layLine_93 : decode cLa_layLine 93 = .ok (.iload_n 1, 1) := by decide +kernel
theorem dLa_layLine_94 : decode cLa_layLine 94 = .ok (.invokevirtual 88, 3) := by decide +kernel
theorem dLa_layLine_97 : decode cLa_layLine 97 = .ok (.goto 14, 3) := by decide +kernel
theorem dLa_layLine_100 : decode cLa_layLine 100 = .ok (.iload_n 2, 1) := by decide +kernel
theorem dLa_layLine_101 : decode cLa_layLine 101 = .ok (.bipush 14, 2) := by decide +kernel
theorem dLa_layLine_103 : decode cLa_layLine 103 = .ok (.if_icmp .ne 8, 3) := by decide +kernel
theorem dLa_layLine_106 : decode cLa_layLine 106 = .ok (.aload_n 0, 1) := by decide +kernel
theorem dLa_layLine_107 : decode cLa_layLine 107 = .ok (.iload_n 1, 1) := by decide +kernel
theorem dLa_layLine_108 : decode cLa_layLine 108 = .ok (.invokevirtual 68, 3) := by decide +kernel
theorem dLa_layLine_111 : decode cLa_layLine 111 = .ok (.return_, 1) := by decide +kernel
theorem dLa_isPoolDue_0 : decode cLa_isPoolDue 0 = .ok (.aload_n 0, 1) := by decide +kernel
theorem dLa_isPoolDue_1 : decode cLa_isPoolDue 1 = .ok (.getfield 55, 3) := by decide +kernel
theorem dLa_isPoolDue_4 : decode cLa_isPoolDue 4 = .ok (.ifCond .le 35, 3) := by decide +kernel
theorem dLa_isPoolDue_7 : decode cLa_isPoolDue 7 = .ok (.aload_n 0, 1) := by decide +kernel
theorem dLa_isPoolDue_8 : decode cLa_isPoolDue 8 = .ok (.getfield 42, 3) := by decide +kernel
theorem dLa_isPoolDue_11 : decode cLa_isPoolDue 11 = .ok (.iconst 4, 1) := by decide +kernel
theorem dLa_isPoolDue_12 : decode cLa_isPoolDue 12 = .ok (.iadd, 1) := by decide +kernel
theorem dLa_isPoolDue_13 : decode cLa_isPoolDue 13 = .ok (.invokestatic 97, 3) := by decide +kernel
theorem dLa_isPoolDue_16 : decode cLa_isPoolDue 16 = .ok (.aload_n 0, 1) := by decide +kernel
theorem dLa_isPoolDue_17 : decode cLa_isPoolDue 17 = .ok (.getfield 9, 3) := by decide +kernel
theorem dLa_isPoolDue_20 : decode cLa_isPoolDue 20 = .ok (.aload_n 0, 1) := by decide +kernel
theorem dLa_isPoolDue_21 : decode cLa_isPoolDue 21 = .ok (.getfield 91, 3) := by decide +kernel
theorem dLa_isPoolDue_24 : decode cLa_isPoolDue 24 = .ok (.iaload, 1) := by decide +kernel
theorem dLa_isPoolDue_25 : decode cLa_isPoolDue 25 = .ok (.invokestatic 102, 3) := by decide +kernel
theorem dLa_isPoolDue_28 : decode cLa_isPoolDue 28 = .ok (.isub, 1) := by decide +kernel
theorem dLa_isPoolDue_29 : decode cLa_isPoolDue 29 = .ok (.sipush 1020, 3) := by decide +kernel
theorem dLa_isPoolDue_32 : decode cLa_isPoolDue 32 = .ok (.if_icmp .le 7, 3) := by decide +kernel
theorem dLa_isPoolDue_35 : decode cLa_isPoolDue 35 = .ok (.iconst 1, 1) := by decide +kernel
theorem dLa_isPoolDue_36 : decode cLa_isPoolDue 36 = .ok (.goto 4, 3) := by decide +kernel
theorem dLa_isPoolDue_39 : decode cLa_isPoolDue 39 = .ok (.iconst 0, 1) := by decide +kernel
theorem dLa_isPoolDue_40 : decode cLa_isPoolDue 40 = .ok (.ireturn, 1) := by decide +kernel
theorem dLa_putPool_0 : decode cLa_putPool 0 = .ok (.aload_n 0, 1) := by decide +kernel
theorem dLa_putPool_1 : decode cLa_putPool 1 = .ok (.getfield 55, 3) := by decide +kernel
theorem dLa_putPool_4 : decode cLa_putPool 4 = .ok (.ifCond .ne 4, 3) := by decide +kernel
theorem dLa_putPool_7 : decode cLa_putPool 7 = .ok (.return_, 1) := by decide +kernel
theorem dLa_putPool_8 : decode cLa_putPool 8 = .ok (.aload_n 0, 1) := by decide +kernel
theorem dLa_putPool_9 : decode cLa_putPool 9 = .ok (.getfield 58, 3) := by decide +kernel
theorem dLa_putPool_12 : decode cLa_putPool 12 = .ok (.bipush 11, 2) := by decide +kernel
theorem dLa_putPool_14 : decode cLa_putPool 14 = .ok (.if_icmp .eq 48, 3) := by decide +kernel
theorem dLa_putPool_17 : decode cLa_putPool 17 = .ok (.aload_n 0, 1) := by decide +kernel
theorem dLa_putPool_18 : decode cLa_putPool 18 = .ok (.getfield 58, 3) := by decide +kernel
theorem dLa_putPool_21 : decode cLa_putPool 21 = .ok (.bipush 15, 2) := by decide +kernel
theorem dLa_putPool_23 : decode cLa_putPool 23 = .ok (.if_icmp .eq 39, 3) := by decide +kernel
theorem dLa_putPool_26 : decode cLa_putPool 26 = .ok (.aload_n 0, 1) := by decide +kernel
theorem dLa_putPool_27 : decode cLa_putPool 27 = .ok (.getfield 42, 3) := by decide +kernel
theorem dLa_putPool_30 : decode cLa_putPool 30 = .ok (.iconst 2, 1) := by decide +kernel
theorem dLa_putPool_31 : decode cLa_putPool 31 = .ok (.iadd, 1) := by decide +kernel
theorem dLa_putPool_32 : decode cLa_putPool 32 = .ok (.invokestatic 97, 3) := by decide +kernel
theorem dLa_putPool_35 : decode cLa_putPool 35 = .ok (.iconst 4, 1) := by decide +kernel
theorem dLa_putPool_36 : decode cLa_putPool 36 = .ok (.aload_n 0, 1) := by decide +kernel
theorem dLa_putPool_37 : decode cLa_putPool 37 = .ok (.getfield 55, 3) := by decide +kernel
theorem dLa_putPool_40 : decode cLa_putPool 40 = .ok (.imul, 1) := by decide +kernel
theorem dLa_putPool_41 : decode cLa_putPool 41 = .ok (.iadd, 1) := by decide +kernel
theorem dLa_putPool_42 : decode cLa_putPool 42 = .ok (.istore_n 2, 1) := by decide +kernel
theorem dLa_putPool_43 : decode cLa_putPool 43 = .ok (.aload_n 0, 1) := by decide +kernel
theorem dLa_putPool_44 : decode cLa_putPool 44 = .ok (.ldc 105, 2) := by decide +kernel
theorem dLa_putPool_46 : decode cLa_putPool 46 = .ok (.aload_n 0, 1) := by decide +kernel
theorem dLa_putPool_47 : decode cLa_putPool 47 = .ok (.getfield 42, 3) := by decide +kernel
theorem dLa_putPool_50 : decode cLa_putPool 50 = .ok (.iload_n 2, 1) := by decide +kernel
theorem dLa_putPool_51 : decode cLa_putPool 51 = .ok (.invokestatic 106, 3) := by decide +kernel
theorem dLa_putPool_54 : decode cLa_putPool 54 = .ok (.sipush 2047, 3) := by decide +kernel
theorem dLa_putPool_57 : decode cLa_putPool 57 = .ok (.iand, 1) := by decide +kernel
theorem dLa_putPool_58 : decode cLa_putPool 58 = .ok (.iadd, 1) := by decide +kernel
theorem dLa_putPool_59 : decode cLa_putPool 59 = .ok (.invokevirtual 85, 3) := by decide +kernel
theorem dLa_putPool_62 : decode cLa_putPool 62 = .ok (.aload_n 0, 1) := by decide +kernel
theorem dLa_putPool_63 : decode cLa_putPool 63 = .ok (.getfield 42, 3) := by decide +kernel
theorem dLa_putPool_66 : decode cLa_putPool 66 = .ok (.iconst 4, 1) := by decide +kernel
theorem dLa_putPool_67 : decode cLa_putPool 67 = .ok (.irem, 1) := by decide +kernel
theorem dLa_putPool_68 : decode cLa_putPool 68 = .ok (.ifCond .eq 10, 3) := by decide +kernel
theorem dLa_putPool_71 : decode cLa_putPool 71 = .ok (.aload_n 0, 1) := by decide +kernel
theorem dLa_putPool_72 : decode cLa_putPool 72 = .ok (.sipush 18112, 3) := by decide +kernel
theorem dLa_putPool_75 : decode cLa_putPool 75 = .ok (.invokevirtual 85, 3) := by decide +kernel
theorem dLa_putPool_78 : decode cLa_putPool 78 = .ok (.aload_n 0, 1) := by decide +kernel
theorem dLa_putPool_79 : decode cLa_putPool 79 = .ok (.getfield 91, 3) := by decide +kernel
theorem dLa_putPool_82 : decode cLa_putPool 82 = .ok (.istore_n 2, 1) := by decide +kernel
theorem dLa_putPool_83 : decode cLa_putPool 83 = .ok (.iload_n 2, 1) := by decide +kernel
theorem dLa_putPool_84 : decode cLa_putPool 84 = .ok (.iload_n 1, 1) := by decide +kernel
theorem dLa_putPool_85 : decode cLa_putPool 85 = .ok (.if_icmp .ge 42, 3) := by decide +kernel
theorem dLa_putPool_88 : decode cLa_putPool 88 = .ok (.aload_n 0, 1) := by decide +kernel
theorem dLa_putPool_89 : decode cLa_putPool 89 = .ok (.getfield 24, 3) := by decide +kernel
theorem dLa_putPool_92 : decode cLa_putPool 92 = .ok (.getfield 71, 3) := by decide +kernel
theorem dLa_putPool_95 : decode cLa_putPool 95 = .ok (.iload_n 2, 1) := by decide +kernel
theorem dLa_putPool_96 : decode cLa_putPool 96 = .ok (.iaload, 1) := by decide +kernel
theorem dLa_putPool_97 : decode cLa_putPool 97 = .ok (.bipush 10, 2) := by decide +kernel
theorem dLa_putPool_99 : decode cLa_putPool 99 = .ok (.if_icmp .ne 22, 3) := by decide +kernel
theorem dLa_putPool_102 : decode cLa_putPool 102 = .ok (.aload_n 0, 1) := by decide +kernel
theorem dLa_putPool_103 : decode cLa_putPool 103 = .ok (.getfield 15, 3) := by decide +kernel
theorem dLa_putPool_106 : decode cLa_putPool 106 = .ok (.iload_n 2, 1) := by decide +kernel
theorem dLa_putPool_107 : decode cLa_putPool 107 = .ok (.aload_n 0, 1) := by decide +kernel
theorem dLa_putPool_108 : decode cLa_putPool 108 = .ok (.getfield 42, 3) := by decide +kernel
theorem dLa_putPool_111 : decode cLa_putPool 111 = .ok (.iconst 4, 1) := by decide +kernel
theorem dLa_putPool_112 : decode cLa_putPool 112 = .ok (.aload_n 0, 1) := by decide +kernel
theorem dLa_putPool_113 : decode cLa_putPool 113 = .ok (.getfield 18, 3) := by decide +kernel
theorem dLa_putPool_116 : decode cLa_putPool 116 = .ok (.iload_n 2, 1) := by decide +kernel
theorem dLa_putPool_117 : decode cLa_putPool 117 = .ok (.iaload, 1) := by decide +kernel
theorem dLa_putPool_118 : decode cLa_putPool 118 = .ok (.imul, 1) := by decide +kernel
theorem dLa_putPool_119 : decode cLa_putPool 119 = .ok (.iadd, 1) := by decide +kernel
theorem dLa_putPool_120 : decode cLa_putPool 120 = .ok (.iastore, 1) := by decide +kernel
theorem dLa_putPool_121 : decode cLa_putPool 121 = .ok (.iinc 2 1, 3) := by decide +kernel
theorem dLa_putPool_124 : decode cLa_putPool 124 = .ok (.goto (-41), 3) := by decide +kernel
theorem dLa_putPool_127 : decode cLa_putPool 127 = .ok (.iconst 0, 1) := by decide +kernel
theorem dLa_putPool_128 : decode cLa_putPool 128 = .ok (.istore_n 2, 1) := by decide +kernel
theorem dLa_putPool_129 : decode cLa_putPool 129 = .ok (.iload_n 2, 1) := by decide +kernel
theorem dLa_putPool_130 : decode cLa_putPool 130 = .ok (.aload_n 0, 1) := by decide +kernel
theorem dLa_putPool_131 : decode cLa_putPool 131 = .ok (.getfield 55, 3) := by decide +kernel
theorem dLa_putPool_134 : decode cLa_putPool 134 = .ok (.if_icmp .ge 32, 3) := by decide +kernel
theorem dLa_putPool_137 : decode cLa_putPool 137 = .ok (.aload_n 0, 1) := by decide +kernel
theorem dLa_putPool_138 : decode cLa_putPool 138 = .ok (.aload_n 0, 1) := by decide +kernel
theorem dLa_putPool_139 : decode cLa_putPool 139 = .ok (.getfield 21, 3) := by decide +kernel
theorem dLa_putPool_142 : decode cLa_putPool 142 = .ok (.iload_n 2, 1) := by decide +kernel
theorem dLa_putPool_143 : decode cLa_putPool 143 = .ok (.iaload, 1) := by decide +kernel
theorem dLa_putPool_144 : decode cLa_putPool 144 = .ok (.invokevirtual 85, 3) := by decide +kernel
theorem dLa_putPool_147 : decode cLa_putPool 147 = .ok (.aload_n 0, 1) := by decide +kernel
theorem dLa_putPool_148 : decode cLa_putPool 148 = .ok (.aload_n 0, 1) := by decide +kernel
theorem dLa_putPool_149 : decode cLa_putPool 149 = .ok (.getfield 21, 3) := by decide +kernel
theorem dLa_putPool_152 : decode cLa_putPool 152 = .ok (.iload_n 2, 1) := by decide +kernel
theorem dLa_putPool_153 : decode cLa_putPool 153 = .ok (.iaload, 1) := by decide +kernel
theorem dLa_putPool_154 : decode cLa_putPool 154 = .ok (.bipush 16, 2) := by decide +kernel
theorem dLa_putPool_156 : decode cLa_putPool 156 = .ok (.ishr, 1) := by decide +kernel
theorem dLa_putPool_157 : decode cLa_putPool 157 = .ok (.invokevirtual 85, 3) := by decide +kernel
theorem dLa_putPool_160 : decode cLa_putPool 160 = .ok (.iinc 2 1, 3) := by decide +kernel
theorem dLa_putPool_163 : decode cLa_putPool 163 = .ok (.goto (-34), 3) := by decide +kernel
theorem dLa_putPool_166 : decode cLa_putPool 166 = .ok (.aload_n 0, 1) := by decide +kernel
theorem dLa_putPool_167 : decode cLa_putPool 167 = .ok (.iconst 0, 1) := by decide +kernel
theorem dLa_putPool_168 : decode cLa_putPool 168 = .ok (.putfield 55, 3) := by decide +kernel
theorem dLa_putPool_171 : decode cLa_putPool 171 = .ok (.aload_n 0, 1) := by decide +kernel
theorem dLa_putPool_172 : decode cLa_putPool 172 = .ok (.dup, 1) := by decide +kernel
theorem dLa_putPool_173 : decode cLa_putPool 173 = .ok (.getfield 51, 3) := by decide +kernel
theorem dLa_putPool_176 : decode cLa_putPool 176 = .ok (.iconst 1, 1) := by decide +kernel
theorem dLa_putPool_177 : decode cLa_putPool 177 = .ok (.iadd, 1) := by decide +kernel
theorem dLa_putPool_178 : decode cLa_putPool 178 = .ok (.putfield 51, 3) := by decide +kernel
theorem dLa_putPool_181 : decode cLa_putPool 181 = .ok (.return_, 1) := by decide +kernel
theorem dLa_stepsFrom_0 : decode cLa_stepsFrom 0 = .ok (.iload_n 1, 1) := by decide +kernel
theorem dLa_stepsFrom_1 : decode cLa_stepsFrom 1 = .ok (.iload_n 0, 1) := by decide +kernel
theorem dLa_stepsFrom_2 : decode cLa_stepsFrom 2 = .ok (.isub, 1) := by decide +kernel
theorem dLa_stepsFrom_3 : decode cLa_stepsFrom 3 = .ok (.iconst 4, 1) := by decide +kernel
theorem dLa_stepsFrom_4 : decode cLa_stepsFrom 4 = .ok (.isub, 1) := by decide +kernel
theorem dLa_stepsFrom_5 : decode cLa_stepsFrom 5 = .ok (.iconst 2, 1) := by decide +kernel
theorem dLa_stepsFrom_6 : decode cLa_stepsFrom 6 = .ok (.idiv, 1) := by decide +kernel
theorem dLa_stepsFrom_7 : decode cLa_stepsFrom 7 = .ok (.ireturn, 1) := by decide +kernel
theorem dLa_putHalf_0 : decode cLa_putHalf 0 = .ok (.aload_n 0, 1) := by decide +kernel
theorem dLa_putHalf_1 : decode cLa_putHalf 1 = .ok (.getfield 32, 3) := by decide +kernel
theorem dLa_putHalf_4 : decode cLa_putHalf 4 = .ok (.ifCond .eq 17, 3) := by decide +kernel
theorem dLa_putHalf_7 : decode cLa_putHalf 7 = .ok (.aload_n 0, 1) := by decide +kernel
theorem dLa_putHalf_8 : decode cLa_putHalf 8 = .ok (.getfield 28, 3) := by decide +kernel
theorem dLa_putHalf_11 : decode cLa_putHalf 11 = .ok (.aload_n 0, 1) := by decide +kernel
theorem dLa_putHalf_12 : decode cLa_putHalf 12 = .ok (.getfield 42, 3) := by decide +kernel
theorem dLa_putHalf_15 : decode cLa_putHalf 15 = .ok (.iconst 2, 1) := by decide +kernel
theorem dLa_putHalf_16 : decode cLa_putHalf 16 = .ok (.idiv, 1) := by decide +kernel
theorem dLa_putHalf_17 : decode cLa_putHalf 17 = .ok (.iload_n 1, 1) := by decide +kernel
theorem dLa_putHalf_18 : decode cLa_putHalf 18 = .ok (.invokevirtual 110, 3) := by decide +kernel
theorem dLa_putHalf_21 : decode cLa_putHalf 21 = .ok (.aload_n 0, 1) := by decide +kernel
theorem dLa_putHalf_22 : decode cLa_putHalf 22 = .ok (.dup, 1) := by decide +kernel
theorem dLa_putHalf_23 : decode cLa_putHalf 23 = .ok (.getfield 42, 3) := by decide +kernel
theorem dLa_putHalf_26 : decode cLa_putHalf 26 = .ok (.iconst 2, 1) := by decide +kernel
theorem dLa_putHalf_27 : decode cLa_putHalf 27 = .ok (.iadd, 1) := by decide +kernel
theorem dLa_putHalf_28 : decode cLa_putHalf 28 = .ok (.putfield 42, 3) := by decide +kernel
theorem dLa_putHalf_31 : decode cLa_putHalf 31 = .ok (.return_, 1) := by decide +kernel
theorem dLa_halfOf_0 : decode cLa_halfOf 0 = .ok (.aload_n 0, 1) := by decide +kernel
theorem dLa_halfOf_1 : decode cLa_halfOf 1 = .ok (.getfield 24, 3) := by decide +kernel
theorem dLa_halfOf_4 : decode cLa_halfOf 4 = .ok (.getfield 71, 3) := by decide +kernel
theorem dLa_halfOf_7 : decode cLa_halfOf 7 = .ok (.iload_n 1, 1) := by decide +kernel
theorem dLa_halfOf_8 : decode cLa_halfOf 8 = .ok (.iaload, 1) := by decide +kernel
theorem dLa_halfOf_9 : decode cLa_halfOf 9 = .ok (.istore_n 2, 1) := by decide +kernel
theorem dLa_halfOf_10 : decode cLa_halfOf 10 = .ok (.aload_n 0, 1) := by decide +kernel
theorem dLa_halfOf_11 : decode cLa_halfOf 11 = .ok (.getfield 24, 3) := by decide +kernel
theorem dLa_halfOf_14 : decode cLa_halfOf 14 = .ok (.getfield 127, 3) := by decide +kernel
theorem dLa_halfOf_17 : decode cLa_halfOf 17 = .ok (.iload_n 1, 1) := by decide +kernel
theorem dLa_halfOf_18 : decode cLa_halfOf 18 = .ok (.iaload, 1) := by decide +kernel
theorem dLa_halfOf_19 : decode cLa_halfOf 19 = .ok (.istore_n 3, 1) := by decide +kernel
theorem dLa_halfOf_20 : decode cLa_halfOf 20 = .ok (.aload_n 0, 1) := by decide +kernel
theorem dLa_halfOf_21 : decode cLa_halfOf 21 = .ok (.getfield 24, 3) := by decide +kernel
theorem dLa_halfOf_24 : decode cLa_halfOf 24 = .ok (.getfield 94, 3) := by decide +kernel
theorem dLa_halfOf_27 : decode cLa_halfOf 27 = .ok (.iload_n 1, 1) := by decide +kernel
theorem dLa_halfOf_28 : decode cLa_halfOf 28 = .ok (.iaload, 1) := by decide +kernel
theorem dLa_halfOf_29 : decode cLa_halfOf 29 = .ok (.istore 4, 2) := by decide +kernel
theorem dLa_halfOf_31 : decode cLa_halfOf 31 = .ok (.aload_n 0, 1) := by decide +kernel
theorem dLa_halfOf_32 : decode cLa_halfOf 32 = .ok (.getfield 24, 3) := by decide +kernel
theorem dLa_halfOf_35 : decode cLa_halfOf 35 = .ok (.getfield 133, 3) := by decide +kernel
theorem dLa_halfOf_38 : decode cLa_halfOf 38 = .ok (.iload_n 1, 1) := by decide +kernel
theorem dLa_halfOf_39 : decode cLa_halfOf 39 = .ok (.iaload, 1) := by decide +kernel
theorem dLa_halfOf_40 : decode cLa_halfOf 40 = .ok (.istore 5, 2) := by decide +kernel
theorem dLa_halfOf_42 : decode cLa_halfOf 42 = .ok (.iload_n 2, 1) := by decide +kernel
theorem dLa_halfOf_43 : decode cLa_halfOf 43 = .ok (.tableswitch 236 1 15 #[73, 73, 73, 73, 94, 112, 130, 148, 166, 184, 200, 213, 236, 236, 233], 73) := by decide +kernel
theorem dLa_halfOf_116 : decode cLa_halfOf 116 = .ok (.sipush 8192, 3) := by decide +kernel
theorem dLa_halfOf_119 : decode cLa_halfOf 119 = .ok (.sipush 2048, 3) := by decide +kernel
theorem dLa_halfOf_122 : decode cLa_halfOf 122 = .ok (.iload_n 2, 1) := by decide +kernel
theorem dLa_halfOf_123 : decode cLa_halfOf 123 = .ok (.iconst 1, 1) := by decide +kernel
theorem dLa_halfOf_124 : decode cLa_halfOf 124 = .ok (.isub, 1) := by decide +kernel
theorem dLa_halfOf_125 : decode cLa_halfOf 125 = .ok (.imul, 1) := by decide +kernel
theorem dLa_halfOf_126 : decode cLa_halfOf 126 = .ok (.iadd, 1) := by decide +kernel
theorem dLa_halfOf_127 : decode cLa_halfOf 127 = .ok (.sipush 256, 3) := by decide +kernel
theorem dLa_halfOf_130 : decode cLa_halfOf 130 = .ok (.iload_n 3, 1) := by decide +kernel
theorem dLa_halfOf_131 : decode cLa_halfOf 131 = .ok (.imul, 1) := by decide +kernel
theorem dLa_halfOf_132 : decode cLa_halfOf 132 = .ok (.iadd, 1) := by decide +kernel
theorem dLa_halfOf_133 : decode cLa_halfOf 133 = .ok (.iload 4, 2) := by decide +kernel
theorem dLa_halfOf_135 : decode cLa_halfOf 135 = .ok (.iadd, 1) := by decide +kernel
theorem dLa_halfOf_136 : decode cLa_halfOf 136 = .ok (.ireturn, 1) := by decide +kernel
theorem dLa_halfOf_137 : decode cLa_halfOf 137 = .ok (.sipush 6144, 3) := by decide +kernel
theorem dLa_halfOf_140 : decode cLa_halfOf 140 = .ok (.bipush 64, 2) := by decide +kernel
theorem dLa_halfOf_142 : decode cLa_halfOf 142 = .ok (.iload 5, 2) := by decide +kernel
theorem dLa_halfOf_144 : decode cLa_halfOf 144 = .ok (.imul, 1) := by decide +kernel
theorem dLa_halfOf_145 : decode cLa_halfOf 145 = .ok (.iadd, 1) := by decide +kernel
theorem dLa_halfOf_146 : decode cLa_halfOf 146 = .ok (.bipush 8, 2) := by decide +kernel
theorem dLa_halfOf_148 : decode cLa_halfOf 148 = .ok (.iload 4, 2) := by decide +kernel
theorem dLa_halfOf_150 : decode cLa_halfOf 150 = .ok (.imul, 1) := by decide +kernel
theorem dLa_halfOf_151 : decode cLa_halfOf 151 = .ok (.iadd, 1) := by decide +kernel
theorem dLa_halfOf_152 : decode cLa_halfOf 152 = .ok (.iload_n 3, 1) := by decide +kernel
theorem dLa_halfOf_153 : decode cLa_halfOf 153 = .ok (.iadd, 1) := by decide +kernel
theorem dLa_halfOf_154 : decode cLa_halfOf 154 = .ok (.ireturn, 1) := by decide +kernel
theorem dLa_halfOf_155 : decode cLa_halfOf 155 = .ok (.sipush 6656, 3) := by decide +kernel
theorem dLa_halfOf_158 : decode cLa_halfOf 158 = .ok (.bipush 64, 2) := by decide +kernel
theorem dLa_halfOf_160 : decode cLa_halfOf 160 = .ok (.iload 5, 2) := by decide +kernel
theorem dLa_halfOf_162 : decode cLa_halfOf 162 = .ok (.imul, 1) := by decide +kernel
theorem dLa_halfOf_163 : decode cLa_halfOf 163 = .ok (.iadd, 1) := by decide +kernel
theorem dLa_halfOf_164 : decode cLa_halfOf 164 = .ok (.bipush 8, 2) := by decide +kernel
theorem dLa_halfOf_166 : decode cLa_halfOf 166 = .ok (.iload 4, 2) := by decide +kernel
theorem dLa_halfOf_168 : decode cLa_halfOf 168 = .ok (.imul, 1) := by decide +kernel
theorem dLa_halfOf_169 : decode cLa_halfOf 169 = .ok (.iadd, 1) := by decide +kernel
theorem dLa_halfOf_170 : decode cLa_halfOf 170 = .ok (.iload_n 3, 1) := by decide +kernel
theorem dLa_halfOf_171 : decode cLa_halfOf 171 = .ok (.iadd, 1) := by decide +kernel
theorem dLa_halfOf_172 : decode cLa_halfOf 172 = .ok (.ireturn, 1) := by decide +kernel
theorem dLa_halfOf_173 : decode cLa_halfOf 173 = .ok (.sipush 16384, 3) := by decide +kernel
theorem dLa_halfOf_176 : decode cLa_halfOf 176 = .ok (.bipush 64, 2) := by decide +kernel
theorem dLa_halfOf_178 : decode cLa_halfOf 178 = .ok (.iload 5, 2) := by decide +kernel
theorem dLa_halfOf_180 : decode cLa_halfOf 180 = .ok (.imul, 1) := by decide +kernel
theorem dLa_halfOf_181 : decode cLa_halfOf 181 = .ok (.iadd, 1) := by decide +kernel
theorem dLa_halfOf_182 : decode cLa_halfOf 182 = .ok (.bipush 8, 2) := by decide +kernel
theorem dLa_halfOf_184 : decode cLa_halfOf 184 = .ok (.iload 4, 2) := by decide +kernel
theorem dLa_halfOf_186 : decode cLa_halfOf 186 = .ok (.imul, 1) := by decide +kernel
theorem dLa_halfOf_187 : decode cLa_halfOf 187 = .ok (.iadd, 1) := by decide +kernel
theorem dLa_halfOf_188 : decode cLa_halfOf 188 = .ok (.iload_n 3, 1) := by decide +kernel
theorem dLa_halfOf_189 : decode cLa_halfOf 189 = .ok (.iadd, 1) := by decide +kernel
theorem dLa_halfOf_190 : decode cLa_halfOf 190 = .ok (.ireturn, 1) := by decide +kernel
theorem dLa_halfOf_191 : decode cLa_halfOf 191 = .ok (.sipush 24576, 3) := by decide +kernel
theorem dLa_halfOf_194 : decode cLa_halfOf 194 = .ok (.bipush 64, 2) := by decide +kernel
theorem dLa_halfOf_196 : decode cLa_halfOf 196 = .ok (.iload 5, 2) := by decide +kernel
theorem dLa_halfOf_198 : decode cLa_halfOf 198 = .ok (.imul, 1) := by decide +kernel
theorem dLa_halfOf_199 : decode cLa_halfOf 199 = .ok (.iadd, 1) := by decide +kernel
theorem dLa_halfOf_200 : decode cLa_halfOf 200 = .ok (.bipush 8, 2) := by decide +kernel
theorem dLa_halfOf_202 : decode cLa_halfOf 202 = .ok (.iload 4, 2) := by decide +kernel
theorem dLa_halfOf_204 : decode cLa_halfOf 204 = .ok (.imul, 1) := by decide +kernel
theorem dLa_halfOf_205 : decode cLa_halfOf 205 = .ok (.iadd, 1) := by decide +kernel
theorem dLa_halfOf_206 : decode cLa_halfOf 206 = .ok (.iload_n 3, 1) := by decide +kernel
theorem dLa_halfOf_207 : decode cLa_halfOf 207 = .ok (.iadd, 1) := by decide +kernel
theorem dLa_halfOf_208 : decode cLa_halfOf 208 = .ok (.ireturn, 1) := by decide +kernel
theorem dLa_halfOf_209 : decode cLa_halfOf 209 = .ok (.sipush 26624, 3) := by decide +kernel
theorem dLa_halfOf_212 : decode cLa_halfOf 212 = .ok (.bipush 64, 2) := by decide +kernel
theorem dLa_halfOf_214 : decode cLa_halfOf 214 = .ok (.iload 5, 2) := by decide +kernel
theorem dLa_halfOf_216 : decode cLa_halfOf 216 = .ok (.imul, 1) := by decide +kernel
theorem dLa_halfOf_217 : decode cLa_halfOf 217 = .ok (.iadd, 1) := by decide +kernel
theorem dLa_halfOf_218 : decode cLa_halfOf 218 = .ok (.bipush 8, 2) := by decide +kernel
theorem dLa_halfOf_220 : decode cLa_halfOf 220 = .ok (.iload 4, 2) := by decide +kernel
theorem dLa_halfOf_222 : decode cLa_halfOf 222 = .ok (.imul, 1) := by decide +kernel
theorem dLa_halfOf_223 : decode cLa_halfOf 223 = .ok (.iadd, 1) := by decide +kernel
theorem dLa_halfOf_224 : decode cLa_halfOf 224 = .ok (.iload_n 3, 1) := by decide +kernel
theorem dLa_halfOf_225 : decode cLa_halfOf 225 = .ok (.iadd, 1) := by decide +kernel
theorem dLa_halfOf_226 : decode cLa_halfOf 226 = .ok (.ireturn, 1) := by decide +kernel
theorem dLa_halfOf_227 : decode cLa_halfOf 227 = .ok (.sipush 18432, 3) := by decide +kernel
theorem dLa_halfOf_230 : decode cLa_halfOf 230 = .ok (.sipush 256, 3) := by decide +kernel
theorem dLa_halfOf_233 : decode cLa_halfOf 233 = .ok (.iload_n 3, 1) := by decide +kernel
theorem dLa_halfOf_234 : decode cLa_halfOf 234 = .ok (.imul, 1) := by decide +kernel
theorem dLa_halfOf_235 : decode cLa_halfOf 235 = .ok (.iadd, 1) := by decide +kernel
theorem dLa_halfOf_236 : decode cLa_halfOf 236 = .ok (.aload_n 0, 1) := by decide +kernel
theorem dLa_halfOf_237 : decode cLa_halfOf 237 = .ok (.iload_n 1, 1) := by decide +kernel
theorem dLa_halfOf_238 : decode cLa_halfOf 238 = .ok (.invokevirtual 118, 3) := by decide +kernel
theorem dLa_halfOf_241 : decode cLa_halfOf 241 = .ok (.iadd, 1) := by decide +kernel
theorem dLa_halfOf_242 : decode cLa_halfOf 242 = .ok (.ireturn, 1) := by decide +kernel
theorem dLa_halfOf_243 : decode cLa_halfOf 243 = .ok (.ldc 105, 2) := by decide +kernel
theorem dLa_halfOf_245 : decode cLa_halfOf 245 = .ok (.aload_n 0, 1) := by decide +kernel
theorem dLa_halfOf_246 : decode cLa_halfOf 246 = .ok (.iload_n 1, 1) := by decide +kernel
theorem dLa_halfOf_247 : decode cLa_halfOf 247 = .ok (.invokevirtual 124, 3) := by decide +kernel
theorem dLa_halfOf_250 : decode cLa_halfOf 250 = .ok (.sipush 2047, 3) := by decide +kernel
theorem dLa_halfOf_253 : decode cLa_halfOf 253 = .ok (.iand, 1) := by decide +kernel
theorem dLa_halfOf_254 : decode cLa_halfOf 254 = .ok (.iadd, 1) := by decide +kernel
theorem dLa_halfOf_255 : decode cLa_halfOf 255 = .ok (.ireturn, 1) := by decide +kernel
theorem dLa_halfOf_256 : decode cLa_halfOf 256 = .ok (.ldc 136, 2) := by decide +kernel
theorem dLa_halfOf_258 : decode cLa_halfOf 258 = .ok (.sipush 256, 3) := by decide +kernel
theorem dLa_halfOf_261 : decode cLa_halfOf 261 = .ok (.iload 5, 2) := by decide +kernel
theorem dLa_halfOf_263 : decode cLa_halfOf 263 = .ok (.imul, 1) := by decide +kernel
theorem dLa_halfOf_264 : decode cLa_halfOf 264 = .ok (.iadd, 1) := by decide +kernel
theorem dLa_halfOf_265 : decode cLa_halfOf 265 = .ok (.aload_n 0, 1) := by decide +kernel
theorem dLa_halfOf_266 : decode cLa_halfOf 266 = .ok (.iload_n 1, 1) := by decide +kernel
theorem dLa_halfOf_267 : decode cLa_halfOf 267 = .ok (.invokevirtual 124, 3) := by decide +kernel
theorem dLa_halfOf_270 : decode cLa_halfOf 270 = .ok (.sipush 255, 3) := by decide +kernel
theorem dLa_halfOf_273 : decode cLa_halfOf 273 = .ok (.iand, 1) := by decide +kernel
theorem dLa_halfOf_274 : decode cLa_halfOf 274 = .ok (.iadd, 1) := by decide +kernel
theorem dLa_halfOf_275 : decode cLa_halfOf 275 = .ok (.ireturn, 1) := by decide +kernel
theorem dLa_halfOf_276 : decode cLa_halfOf 276 = .ok (.ldc 137, 2) := by decide +kernel
theorem dLa_halfOf_278 : decode cLa_halfOf 278 = .ok (.ireturn, 1) := by decide +kernel
theorem dLa_halfOf_279 : decode cLa_halfOf 279 = .ok (.sipush 18112, 3) := by decide +kernel
theorem dLa_halfOf_282 : decode cLa_halfOf 282 = .ok (.ireturn, 1) := by decide +kernel
theorem dLa_wordsToConstant_0 : decode cLa_wordsToConstant 0 = .ok (.aload_n 0, 1) := by decide +kernel
theorem dLa_wordsToConstant_1 : decode cLa_wordsToConstant 1 = .ok (.getfield 15, 3) := by decide +kernel
theorem dLa_wordsToConstant_4 : decode cLa_wordsToConstant 4 = .ok (.iload_n 1, 1) := by decide +kernel
theorem dLa_wordsToConstant_5 : decode cLa_wordsToConstant 5 = .ok (.iaload, 1) := by decide +kernel
theorem dLa_wordsToConstant_6 : decode cLa_wordsToConstant 6 = .ok (.aload_n 0, 1) := by decide +kernel
theorem dLa_wordsToConstant_7 : decode cLa_wordsToConstant 7 = .ok (.getfield 9, 3) := by decide +kernel
theorem dLa_wordsToConstant_10 : decode cLa_wordsToConstant 10 = .ok (.iload_n 1, 1) := by decide +kernel
theorem dLa_wordsToConstant_11 : decode cLa_wordsToConstant 11 = .ok (.iaload, 1) := by decide +kernel
theorem dLa_wordsToConstant_12 : decode cLa_wordsToConstant 12 = .ok (.invokestatic 102, 3) := by decide +kernel
theorem dLa_wordsToConstant_15 : decode cLa_wordsToConstant 15 = .ok (.isub, 1) := by decide +kernel
theorem dLa_wordsToConstant_16 : decode cLa_wordsToConstant 16 = .ok (.iconst 4, 1) := by decide +kernel
theorem dLa_wordsToConstant_17 : decode cLa_wordsToConstant 17 = .ok (.idiv, 1) := by decide +kernel
theorem dLa_wordsToConstant_18 : decode cLa_wordsToConstant 18 = .ok (.ireturn, 1) := by decide +kernel
theorem dLa_stepsToLabel_0 : decode cLa_stepsToLabel 0 = .ok (.aload_n 0, 1) := by decide +kernel
theorem dLa_stepsToLabel_1 : decode cLa_stepsToLabel 1 = .ok (.getfield 24, 3) := by decide +kernel
theorem dLa_stepsToLabel_4 : decode cLa_stepsToLabel 4 = .ok (.aload_n 0, 1) := by decide +kernel
theorem dLa_stepsToLabel_5 : decode cLa_stepsToLabel 5 = .ok (.getfield 24, 3) := by decide +kernel
theorem dLa_stepsToLabel_8 : decode cLa_stepsToLabel 8 = .ok (.getfield 127, 3) := by decide +kernel
theorem dLa_stepsToLabel_11 : decode cLa_stepsToLabel 11 = .ok (.iload_n 1, 1) := by decide +kernel
theorem dLa_stepsToLabel_12 : decode cLa_stepsToLabel 12 = .ok (.iaload, 1) := by decide +kernel
theorem dLa_stepsToLabel_13 : decode cLa_stepsToLabel 13 = .ok (.invokevirtual 130, 3) := by decide +kernel
theorem dLa_stepsToLabel_16 : decode cLa_stepsToLabel 16 = .ok (.istore_n 2, 1) := by decide +kernel
theorem dLa_stepsToLabel_17 : decode cLa_stepsToLabel 17 = .ok (.iload_n 2, 1) := by decide +kernel
theorem dLa_stepsToLabel_18 : decode cLa_stepsToLabel 18 = .ok (.iconst (-1), 1) := by decide +kernel
theorem dLa_stepsToLabel_19 : decode cLa_stepsToLabel 19 = .ok (.if_icmp .ne 7, 3) := by decide +kernel
theorem dLa_stepsToLabel_22 : decode cLa_stepsToLabel 22 = .ok (.iconst 0, 1) := by decide +kernel
theorem dLa_stepsToLabel_23 : decode cLa_stepsToLabel 23 = .ok (.goto 18, 3) := by decide +kernel
theorem dLa_stepsToLabel_26 : decode cLa_stepsToLabel 26 = .ok (.aload_n 0, 1) := by decide +kernel
theorem dLa_stepsToLabel_27 : decode cLa_stepsToLabel 27 = .ok (.getfield 9, 3) := by decide +kernel
theorem dLa_stepsToLabel_30 : decode cLa_stepsToLabel 30 = .ok (.iload_n 1, 1) := by decide +kernel
theorem dLa_stepsToLabel_31 : decode cLa_stepsToLabel 31 = .ok (.iaload, 1) := by decide +kernel
theorem dLa_stepsToLabel_32 : decode cLa_stepsToLabel 32 = .ok (.aload_n 0, 1) := by decide +kernel
theorem dLa_stepsToLabel_33 : decode cLa_stepsToLabel 33 = .ok (.getfield 9, 3) := by decide +kernel
theorem dLa_stepsToLabel_36 : decode cLa_stepsToLabel 36 = .ok (.iload_n 2, 1) := by decide +kernel
theorem dLa_stepsToLabel_37 : decode cLa_stepsToLabel 37 = .ok (.iaload, 1) := by decide +kernel
theorem dLa_stepsToLabel_38 : decode cLa_stepsToLabel 38 = .ok (.invokestatic 106, 3) := by decide +kernel
theorem dLa_stepsToLabel_41 : decode cLa_stepsToLabel 41 = .ok (.ireturn, 1) := by decide +kernel
theorem dLa_letWait_0 : decode cLa_letWait 0 = .ok (.aload_n 0, 1) := by decide +kernel
theorem dLa_letWait_1 : decode cLa_letWait 1 = .ok (.getfield 55, 3) := by decide +kernel
theorem dLa_letWait_4 : decode cLa_letWait 4 = .ok (.ifCond .ne 8, 3) := by decide +kernel
theorem dLa_letWait_7 : decode cLa_letWait 7 = .ok (.aload_n 0, 1) := by decide +kernel
theorem dLa_letWait_8 : decode cLa_letWait 8 = .ok (.iload_n 1, 1) := by decide +kernel
theorem dLa_letWait_9 : decode cLa_letWait 9 = .ok (.putfield 91, 3) := by decide +kernel
theorem dLa_letWait_12 : decode cLa_letWait 12 = .ok (.aload_n 0, 1) := by decide +kernel
theorem dLa_letWait_13 : decode cLa_letWait 13 = .ok (.getfield 24, 3) := by decide +kernel
theorem dLa_letWait_16 : decode cLa_letWait 16 = .ok (.getfield 94, 3) := by decide +kernel
theorem dLa_letWait_19 : decode cLa_letWait 19 = .ok (.iload_n 1, 1) := by decide +kernel
theorem dLa_letWait_20 : decode cLa_letWait 20 = .ok (.iaload, 1) := by decide +kernel
theorem dLa_letWait_21 : decode cLa_letWait 21 = .ok (.istore_n 2, 1) := by decide +kernel
theorem dLa_letWait_22 : decode cLa_letWait 22 = .ok (.iconst 0, 1) := by decide +kernel
theorem dLa_letWait_23 : decode cLa_letWait 23 = .ok (.istore_n 3, 1) := by decide +kernel
theorem dLa_letWait_24 : decode cLa_letWait 24 = .ok (.iload_n 3, 1) := by decide +kernel
theorem dLa_letWait_25 : decode cLa_letWait 25 = .ok (.aload_n 0, 1) := by decide +kernel
theorem dLa_letWait_26 : decode cLa_letWait 26 = .ok (.getfield 55, 3) := by decide +kernel
theorem dLa_letWait_29 : decode cLa_letWait 29 = .ok (.if_icmp .ge 19, 3) := by decide +kernel
theorem dLa_letWait_32 : decode cLa_letWait 32 = .ok (.aload_n 0, 1) := by decide +kernel
theorem dLa_letWait_33 : decode cLa_letWait 33 = .ok (.getfield 21, 3) := by decide +kernel
theorem dLa_letWait_36 : decode cLa_letWait 36 = .ok (.iload_n 3, 1) := by decide +kernel
theorem dLa_letWait_37 : decode cLa_letWait 37 = .ok (.iaload, 1) := by decide +kernel
theorem dLa_letWait_38 : decode cLa_letWait 38 = .ok (.iload_n 2, 1) := by decide +kernel
theorem dLa_letWait_39 : decode cLa_letWait 39 = .ok (.if_icmp .eq 9, 3) := by decide +kernel
theorem dLa_letWait_42 : decode cLa_letWait 42 = .ok (.iinc 3 1, 3) := by decide +kernel
theorem dLa_letWait_45 : decode cLa_letWait 45 = .ok (.goto (-21), 3) := by decide +kernel
theorem dLa_letWait_48 : decode cLa_letWait 48 = .ok (.aload_n 0, 1) := by decide +kernel
theorem dLa_letWait_49 : decode cLa_letWait 49 = .ok (.getfield 18, 3) := by decide +kernel
theorem dLa_letWait_52 : decode cLa_letWait 52 = .ok (.iload_n 1, 1) := by decide +kernel
theorem dLa_letWait_53 : decode cLa_letWait 53 = .ok (.iload_n 3, 1) := by decide +kernel
theorem dLa_letWait_54 : decode cLa_letWait 54 = .ok (.iastore, 1) := by decide +kernel
theorem dLa_letWait_55 : decode cLa_letWait 55 = .ok (.iload_n 3, 1) := by decide +kernel
theorem dLa_letWait_56 : decode cLa_letWait 56 = .ok (.aload_n 0, 1) := by decide +kernel
theorem dLa_letWait_57 : decode cLa_letWait 57 = .ok (.getfield 55, 3) := by decide +kernel
theorem dLa_letWait_60 : decode cLa_letWait 60 = .ok (.if_icmp .ne 30, 3) := by decide +kernel
theorem dLa_letWait_63 : decode cLa_letWait 63 = .ok (.aload_n 0, 1) := by decide +kernel
theorem dLa_letWait_64 : decode cLa_letWait 64 = .ok (.getfield 55, 3) := by decide +kernel
theorem dLa_letWait_67 : decode cLa_letWait 67 = .ok (.sipush 160, 3) := by decide +kernel
theorem dLa_letWait_70 : decode cLa_letWait 70 = .ok (.if_icmp .ge 20, 3) := by decide +kernel
theorem dLa_letWait_73 : decode cLa_letWait 73 = .ok (.aload_n 0, 1) := by decide +kernel
theorem dLa_letWait_74 : decode cLa_letWait 74 = .ok (.getfield 21, 3) := by decide +kernel
theorem dLa_letWait_77 : decode cLa_letWait 77 = .ok (.iload_n 3, 1) := by decide +kernel
theorem dLa_letWait_78 : decode cLa_letWait 78 = .ok (.iload_n 2, 1) := by decide +kernel
theorem dLa_letWait_79 : decode cLa_letWait 79 = .ok (.iastore, 1) := by decide +kernel
theorem dLa_letWait_80 : decode cLa_letWait 80 = .ok (.aload_n 0, 1) := by decide +kernel
theorem dLa_letWait_81 : decode cLa_letWait 81 = .ok (.dup, 1) := by decide +kernel
theorem dLa_letWait_82 : decode cLa_letWait 82 = .ok (.getfield 55, 3) := by decide +kernel
theorem dLa_letWait_85 : decode cLa_letWait 85 = .ok (.iconst 1, 1) := by decide +kernel
theorem dLa_letWait_86 : decode cLa_letWait 86 = .ok (.iadd, 1) := by decide +kernel
theorem dLa_letWait_87 : decode cLa_letWait 87 = .ok (.putfield 55, 3) := by decide +kernel
theorem dLa_letWait_90 : decode cLa_letWait 90 = .ok (.return_, 1) := by decide +kernel
theorem dLa_settleLabels_0 : decode cLa_settleLabels 0 = .ok (.aload_n 0, 1) := by decide +kernel
theorem dLa_settleLabels_1 : decode cLa_settleLabels 1 = .ok (.getfield 42, 3) := by decide +kernel
theorem dLa_settleLabels_4 : decode cLa_settleLabels 4 = .ok (.istore_n 1, 1) := by decide +kernel
theorem dLa_settleLabels_5 : decode cLa_settleLabels 5 = .ok (.aload_n 0, 1) := by decide +kernel
theorem dLa_settleLabels_6 : decode cLa_settleLabels 6 = .ok (.getfield 24, 3) := by decide +kernel
theorem dLa_settleLabels_9 : decode cLa_settleLabels 9 = .ok (.getfield 61, 3) := by decide +kernel
theorem dLa_settleLabels_12 : decode cLa_settleLabels 12 = .ok (.iconst 1, 1) := by decide +kernel
theorem dLa_settleLabels_13 : decode cLa_settleLabels 13 = .ok (.isub, 1) := by decide +kernel
theorem dLa_settleLabels_14 : decode cLa_settleLabels 14 = .ok (.istore_n 2, 1) := by decide +kernel
theorem dLa_settleLabels_15 : decode cLa_settleLabels 15 = .ok (.iload_n 2, 1) := by decide +kernel
theorem dLa_settleLabels_16 : decode cLa_settleLabels 16 = .ok (.ifCond .lt 37, 3) := by decide +kernel
theorem dLa_settleLabels_19 : decode cLa_settleLabels 19 = .ok (.aload_n 0, 1) := by decide +kernel
theorem dLa_settleLabels_20 : decode cLa_settleLabels 20 = .ok (.getfield 24, 3) := by decide +kernel
theorem dLa_settleLabels_23 : decode cLa_settleLabels 23 = .ok (.iload_n 2, 1) := by decide +kernel
theorem dLa_settleLabels_24 : decode cLa_settleLabels 24 = .ok (.invokevirtual 74, 3) := by decide +kernel
theorem dLa_settleLabels_27 : decode cLa_settleLabels 27 = .ok (.ifCond .le 13, 3) := by decide +kernel
theorem dLa_settleLabels_30 : decode cLa_settleLabels 30 = .ok (.aload_n 0, 1) := by decide +kernel
theorem dLa_settleLabels_31 : decode cLa_settleLabels 31 = .ok (.getfield 9, 3) := by decide +kernel
theorem dLa_settleLabels_34 : decode cLa_settleLabels 34 = .ok (.iload_n 2, 1) := by decide +kernel
theorem dLa_settleLabels_35 : decode cLa_settleLabels 35 = .ok (.iaload, 1) := by decide +kernel
theorem dLa_settleLabels_36 : decode cLa_settleLabels 36 = .ok (.istore_n 1, 1) := by decide +kernel
theorem dLa_settleLabels_37 : decode cLa_settleLabels 37 = .ok (.goto 10, 3) := by decide +kernel
theorem dLa_settleLabels_40 : decode cLa_settleLabels 40 = .ok (.aload_n 0, 1) := by decide +kernel
theorem dLa_settleLabels_41 : decode cLa_settleLabels 41 = .ok (.getfield 9, 3) := by decide +kernel
theorem dLa_settleLabels_44 : decode cLa_settleLabels 44 = .ok (.iload_n 2, 1) := by decide +kernel
theorem dLa_settleLabels_45 : decode cLa_settleLabels 45 = .ok (.iload_n 1, 1) := by decide +kernel
theorem dLa_settleLabels_46 : decode cLa_settleLabels 46 = .ok (.iastore, 1) := by decide +kernel
theorem dLa_settleLabels_47 : decode cLa_settleLabels 47 = .ok (.iinc 2 (-1), 3) := by decide +kernel
theorem dLa_settleLabels_50 : decode cLa_settleLabels 50 = .ok (.goto (-35), 3) := by decide +kernel
theorem dLa_settleLabels_53 : decode cLa_settleLabels 53 = .ok (.return_, 1) := by decide +kernel
theorem dLa_firstOutOfReach_0 : decode cLa_firstOutOfReach 0 = .ok (.iconst 0, 1) := by decide +kernel
theorem dLa_firstOutOfReach_1 : decode cLa_firstOutOfReach 1 = .ok (.istore_n 1, 1) := by decide +kernel
theorem dLa_firstOutOfReach_2 : decode cLa_firstOutOfReach 2 = .ok (.iload_n 1, 1) := by decide +kernel
theorem dLa_firstOutOfReach_3 : decode cLa_firstOutOfReach 3 = .ok (.aload_n 0, 1) := by decide +kernel
theorem dLa_firstOutOfReach_4 : decode cLa_firstOutOfReach 4 = .ok (.getfield 24, 3) := by decide +kernel
theorem dLa_firstOutOfReach_7 : decode cLa_firstOutOfReach 7 = .ok (.getfield 61, 3) := by decide +kernel
theorem dLa_firstOutOfReach_10 : decode cLa_firstOutOfReach 10 = .ok (.if_icmp .ge 19, 3) := by decide +kernel
theorem dLa_firstOutOfReach_13 : decode cLa_firstOutOfReach 13 = .ok (.aload_n 0, 1) := by decide +kernel
theorem dLa_firstOutOfReach_14 : decode cLa_firstOutOfReach 14 = .ok (.iload_n 1, 1) := by decide +kernel
theorem dLa_firstOutOfReach_15 : decode cLa_firstOutOfReach 15 = .ok (.invokevirtual 114, 3) := by decide +kernel
theorem dLa_firstOutOfReach_18 : decode cLa_firstOutOfReach 18 = .ok (.ifCond .ne 5, 3) := by decide +kernel
theorem dLa_firstOutOfReach_21 : decode cLa_firstOutOfReach 21 = .ok (.iload_n 1, 1) := by decide +kernel
theorem dLa_firstOutOfReach_22 : decode cLa_firstOutOfReach 22 = .ok (.ireturn, 1) := by decide +kernel
theorem dLa_firstOutOfReach_23 : decode cLa_firstOutOfReach 23 = .ok (.iinc 1 1, 3) := by decide +kernel
theorem dLa_firstOutOfReach_26 : decode cLa_firstOutOfReach 26 = .ok (.goto (-24), 3) := by decide +kernel
theorem dLa_firstOutOfReach_29 : decode cLa_firstOutOfReach 29 = .ok (.iconst (-1), 1) := by decide +kernel
theorem dLa_firstOutOfReach_30 : decode cLa_firstOutOfReach 30 = .ok (.ireturn, 1) := by decide +kernel
theorem dLa_isInReach_0 : decode cLa_isInReach 0 = .ok (.aload_n 0, 1) := by decide +kernel
theorem dLa_isInReach_1 : decode cLa_isInReach 1 = .ok (.getfield 24, 3) := by decide +kernel
theorem dLa_isInReach_4 : decode cLa_isInReach 4 = .ok (.getfield 71, 3) := by decide +kernel
theorem dLa_isInReach_7 : decode cLa_isInReach 7 = .ok (.iload_n 1, 1) := by decide +kernel
theorem dLa_isInReach_8 : decode cLa_isInReach 8 = .ok (.iaload, 1) := by decide +kernel
theorem dLa_isInReach_9 : decode cLa_isInReach 9 = .ok (.tableswitch 122 10 12 #[27, 52, 88], 27) := by decide +kernel
theorem dLa_isInReach_36 : decode cLa_isInReach 36 = .ok (.aload_n 0, 1) := by decide +kernel
theorem dLa_isInReach_37 : decode cLa_isInReach 37 = .ok (.iload_n 1, 1) := by decide +kernel
theorem dLa_isInReach_38 : decode cLa_isInReach 38 = .ok (.invokevirtual 118, 3) := by decide +kernel
theorem dLa_isInReach_41 : decode cLa_isInReach 41 = .ok (.ifCond .lt 18, 3) := by decide +kernel
theorem dLa_isInReach_44 : decode cLa_isInReach 44 = .ok (.aload_n 0, 1) := by decide +kernel
theorem dLa_isInReach_45 : decode cLa_isInReach 45 = .ok (.iload_n 1, 1) := by decide +kernel
theorem dLa_isInReach_46 : decode cLa_isInReach 46 = .ok (.invokevirtual 118, 3) := by decide +kernel
theorem dLa_isInReach_49 : decode cLa_isInReach 49 = .ok (.sipush 255, 3) := by decide +kernel
theorem dLa_isInReach_52 : decode cLa_isInReach 52 = .ok (.if_icmp .gt 7, 3) := by decide +kernel
theorem dLa_isInReach_55 : decode cLa_isInReach 55 = .ok (.iconst 1, 1) := by decide +kernel
theorem dLa_isInReach_56 : decode cLa_isInReach 56 = .ok (.goto 4, 3) := by decide +kernel
theorem dLa_isInReach_59 : decode cLa_isInReach 59 = .ok (.iconst 0, 1) := by decide +kernel
theorem dLa_isInReach_60 : decode cLa_isInReach 60 = .ok (.ireturn, 1) := by decide +kernel
theorem dLa_isInReach_61 : decode cLa_isInReach 61 = .ok (.aload_n 0, 1) := by decide +kernel
theorem dLa_isInReach_62 : decode cLa_isInReach 62 = .ok (.iload_n 1, 1) := by decide +kernel
theorem dLa_isInReach_63 : decode cLa_isInReach 63 = .ok (.invokevirtual 121, 3) := by decide +kernel
theorem dLa_isInReach_66 : decode cLa_isInReach 66 = .ok (.ifCond .eq 29, 3) := by decide +kernel
theorem dLa_isInReach_69 : decode cLa_isInReach 69 = .ok (.aload_n 0, 1) := by decide +kernel
theorem dLa_isInReach_70 : decode cLa_isInReach 70 = .ok (.iload_n 1, 1) := by decide +kernel
theorem dLa_isInReach_71 : decode cLa_isInReach 71 = .ok (.invokevirtual 124, 3) := by decide +kernel
theorem dLa_isInReach_74 : decode cLa_isInReach 74 = .ok (.sipush (-1024), 3) := by decide +kernel
theorem dLa_isInReach_77 : decode cLa_isInReach 77 = .ok (.if_icmp .lt 18, 3) := by decide +kernel
theorem dLa_isInReach_80 : decode cLa_isInReach 80 = .ok (.aload_n 0, 1) := by decide +kernel
theorem dLa_isInReach_81 : decode cLa_isInReach 81 = .ok (.iload_n 1, 1) := by decide +kernel
theorem dLa_isInReach_82 : decode cLa_isInReach 82 = .ok (.invokevirtual 124, 3) := by decide +kernel
theorem dLa_isInReach_85 : decode cLa_isInReach 85 = .ok (.sipush 1023, 3) := by decide +kernel
theorem dLa_isInReach_88 : decode cLa_isInReach 88 = .ok (.if_icmp .gt 7, 3) := by decide +kernel
theorem dLa_isInReach_91 : decode cLa_isInReach 91 = .ok (.iconst 1, 1) := by decide +kernel
theorem dLa_isInReach_92 : decode cLa_isInReach 92 = .ok (.goto 4, 3) := by decide +kernel
theorem dLa_isInReach_95 : decode cLa_isInReach 95 = .ok (.iconst 0, 1) := by decide +kernel
theorem dLa_isInReach_96 : decode cLa_isInReach 96 = .ok (.ireturn, 1) := by decide +kernel
theorem dLa_isInReach_97 : decode cLa_isInReach 97 = .ok (.aload_n 0, 1) := by decide +kernel
theorem dLa_isInReach_98 : decode cLa_isInReach 98 = .ok (.iload_n 1, 1) := by decide +kernel
theorem dLa_isInReach_99 : decode cLa_isInReach 99 = .ok (.invokevirtual 121, 3) := by decide +kernel
theorem dLa_isInReach_102 : decode cLa_isInReach 102 = .ok (.ifCond .eq 27, 3) := by decide +kernel
theorem dLa_isInReach_105 : decode cLa_isInReach 105 = .ok (.aload_n 0, 1) := by decide +kernel
theorem dLa_isInReach_106 : decode cLa_isInReach 106 = .ok (.iload_n 1, 1) := by decide +kernel
theorem dLa_isInReach_107 : decode cLa_isInReach 107 = .ok (.invokevirtual 124, 3) := by decide +kernel
theorem dLa_isInReach_110 : decode cLa_isInReach 110 = .ok (.bipush (-128), 2) := by decide +kernel
theorem dLa_isInReach_112 : decode cLa_isInReach 112 = .ok (.if_icmp .lt 17, 3) := by decide +kernel
theorem dLa_isInReach_115 : decode cLa_isInReach 115 = .ok (.aload_n 0, 1) := by decide +kernel
theorem dLa_isInReach_116 : decode cLa_isInReach 116 = .ok (.iload_n 1, 1) := by decide +kernel
theorem dLa_isInReach_117 : decode cLa_isInReach 117 = .ok (.invokevirtual 124, 3) := by decide +kernel
theorem dLa_isInReach_120 : decode cLa_isInReach 120 = .ok (.bipush 127, 2) := by decide +kernel
theorem dLa_isInReach_122 : decode cLa_isInReach 122 = .ok (.if_icmp .gt 7, 3) := by decide +kernel
theorem dLa_isInReach_125 : decode cLa_isInReach 125 = .ok (.iconst 1, 1) := by decide +kernel
theorem dLa_isInReach_126 : decode cLa_isInReach 126 = .ok (.goto 4, 3) := by decide +kernel
theorem dLa_isInReach_129 : decode cLa_isInReach 129 = .ok (.iconst 0, 1) := by decide +kernel
theorem dLa_isInReach_130 : decode cLa_isInReach 130 = .ok (.ireturn, 1) := by decide +kernel
theorem dLa_isInReach_131 : decode cLa_isInReach 131 = .ok (.iconst 1, 1) := by decide +kernel
theorem dLa_isInReach_132 : decode cLa_isInReach 132 = .ok (.ireturn, 1) := by decide +kernel
theorem dLa_hasTarget_0 : decode cLa_hasTarget 0 = .ok (.aload_n 0, 1) := by decide +kernel
theorem dLa_hasTarget_1 : decode cLa_hasTarget 1 = .ok (.getfield 24, 3) := by decide +kernel
theorem dLa_hasTarget_4 : decode cLa_hasTarget 4 = .ok (.aload_n 0, 1) := by decide +kernel
theorem dLa_hasTarget_5 : decode cLa_hasTarget 5 = .ok (.getfield 24, 3) := by decide +kernel
theorem dLa_hasTarget_8 : decode cLa_hasTarget 8 = .ok (.getfield 127, 3) := by decide +kernel
theorem dLa_hasTarget_11 : decode cLa_hasTarget 11 = .ok (.iload_n 1, 1) := by decide +kernel
theorem dLa_hasTarget_12 : decode cLa_hasTarget 12 = .ok (.iaload, 1) := by decide +kernel
theorem dLa_hasTarget_13 : decode cLa_hasTarget 13 = .ok (.invokevirtual 130, 3) := by decide +kernel
theorem dLa_hasTarget_16 : decode cLa_hasTarget 16 = .ok (.iconst (-1), 1) := by decide +kernel
theorem dLa_hasTarget_17 : decode cLa_hasTarget 17 = .ok (.if_icmp .eq 7, 3) := by decide +kernel
theorem dLa_hasTarget_20 : decode cLa_hasTarget 20 = .ok (.iconst 1, 1) := by decide +kernel
theorem dLa_hasTarget_21 : decode cLa_hasTarget 21 = .ok (.goto 4, 3) := by decide +kernel
theorem dLa_hasTarget_24 : decode cLa_hasTarget 24 = .ok (.iconst 0, 1) := by decide +kernel
theorem dLa_hasTarget_25 : decode cLa_hasTarget 25 = .ok (.ireturn, 1) := by decide +kernel
theorem dLa_write_0 : decode cLa_write 0 = .ok (.aload_n 0, 1) := by decide +kernel
theorem dLa_write_1 : decode cLa_write 1 = .ok (.iconst 1, 1) := by decide +kernel
theorem dLa_write_2 : decode cLa_write 2 = .ok (.putfield 32, 3) := by decide +kernel
theorem dLa_write_5 : decode cLa_write 5 = .ok (.aload_n 0, 1) := by decide +kernel
theorem dLa_write_6 : decode cLa_write 6 = .ok (.invokevirtual 36, 3) := by decide +kernel
theorem dLa_write_9 : decode cLa_write 9 = .ok (.aload_n 0, 1) := by decide +kernel
theorem dLa_write_10 : decode cLa_write 10 = .ok (.getfield 28, 3) := by decide +kernel
theorem dLa_write_13 : decode cLa_write 13 = .ok (.aload_n 0, 1) := by decide +kernel
theorem dLa_write_14 : decode cLa_write 14 = .ok (.getfield 42, 3) := by decide +kernel
theorem dLa_write_17 : decode cLa_write 17 = .ok (.iconst 2, 1) := by decide +kernel
theorem dLa_write_18 : decode cLa_write 18 = .ok (.idiv, 1) := by decide +kernel
theorem dLa_write_19 : decode cLa_write 19 = .ok (.putfield 46, 3) := by decide +kernel
theorem dLa_write_22 : decode cLa_write 22 = .ok (.aload_n 0, 1) := by decide +kernel
theorem dLa_write_23 : decode cLa_write 23 = .ok (.getfield 28, 3) := by decide +kernel
theorem dLa_write_26 : decode cLa_write 26 = .ok (.aload_n 0, 1) := by decide +kernel
theorem dLa_write_27 : decode cLa_write 27 = .ok (.getfield 51, 3) := by decide +kernel
theorem dLa_write_30 : decode cLa_write 30 = .ok (.putfield 54, 3) := by decide +kernel
theorem dLa_write_33 : decode cLa_write 33 = .ok (.return_, 1) := by decide +kernel
