theorem dPo_init_0 : decode cPo_init 0 = .ok (.aload_n 0, 1) := by decide +kernel
theorem dPo_init_1 : decode cPo_init 1 = .ok (.invokespecial 3, 3) := by decide +kernel
theorem dPo_init_4 : decode cPo_init 4 = .ok (.aload_n 0, 1) := by decide +kernel
theorem dPo_init_5 : decode cPo_init 5 = .ok (.new 9, 3) := by decide +kernel
theorem dPo_init_8 : decode cPo_init 8 = .ok (.dup, 1) := by decide +kernel
theorem dPo_init_9 : decode cPo_init 9 = .ok (.invokespecial 11, 3) := by decide +kernel
theorem dPo_init_12 : decode cPo_init 12 = .ok (.putfield 12, 3) := by decide +kernel
theorem dPo_init_15 : decode cPo_init 15 = .ok (.aload_n 0, 1) := by decide +kernel
theorem dPo_init_16 : decode cPo_init 16 = .ok (.new 16, 3) := by decide +kernel
theorem dPo_init_19 : decode cPo_init 19 = .ok (.dup, 1) := by decide +kernel
theorem dPo_init_20 : decode cPo_init 20 = .ok (.invokespecial 18, 3) := by decide +kernel
theorem dPo_init_23 : decode cPo_init 23 = .ok (.putfield 19, 3) := by decide +kernel
theorem dPo_init_26 : decode cPo_init 26 = .ok (.aload_n 0, 1) := by decide +kernel
theorem dPo_init_27 : decode cPo_init 27 = .ok (.new 23, 3) := by decide +kernel
theorem dPo_init_30 : decode cPo_init 30 = .ok (.dup, 1) := by decide +kernel
theorem dPo_init_31 : decode cPo_init 31 = .ok (.aload_n 0, 1) := by decide +kernel
theorem dPo_init_32 : decode cPo_init 32 = .ok (.getfield 12, 3) := by decide +kernel
theorem dPo_init_35 : decode cPo_init 35 = .ok (.aload_n 0, 1) := by decide +kernel
theorem dPo_init_36 : decode cPo_init 36 = .ok (.getfield 19, 3) := by decide +kernel
theorem dPo_init_39 : decode cPo_init 39 = .ok (.invokespecial 25, 3) := by decide +kernel
theorem dPo_init_42 : decode cPo_init 42 = .ok (.putfield 28, 3) := by decide +kernel
theorem dPo_init_45 : decode cPo_init 45 = .ok (.aload_n 0, 1) := by decide +kernel
theorem dPo_init_46 : decode cPo_init 46 = .ok (.new 32, 3) := by decide +kernel
theorem dPo_init_49 : decode cPo_init 49 = .ok (.dup, 1) := by decide +kernel
theorem dPo_init_50 : decode cPo_init 50 = .ok (.aload_n 0, 1) := by decide +kernel
theorem dPo_init_51 : decode cPo_init 51 = .ok (.getfield 19, 3) := by decide +kernel
theorem dPo_init_54 : decode cPo_init 54 = .ok (.invokespecial 34, 3) := by decide +kernel
theorem dPo_init_57 : decode cPo_init 57 = .ok (.putfield 37, 3) := by decide +kernel
theorem dPo_init_60 : decode cPo_init 60 = .ok (.aload_n 0, 1) := by decide +kernel
theorem dPo_init_61 : decode cPo_init 61 = .ok (.iconst (-1), 1) := by decide +kernel
theorem dPo_init_62 : decode cPo_init 62 = .ok (.putfield 41, 3) := by decide +kernel
theorem dPo_init_65 : decode cPo_init 65 = .ok (.return_, 1) := by decide +kernel
theorem dPo_clear_0 : decode cPo_clear 0 = .ok (.aload_n 0, 1) := by decide +kernel
theorem dPo_clear_1 : decode cPo_clear 1 = .ok (.getfield 12, 3) := by decide +kernel
theorem dPo_clear_4 : decode cPo_clear 4 = .ok (.invokevirtual 77, 3) := by decide +kernel
theorem dPo_clear_7 : decode cPo_clear 7 = .ok (.return_, 1) := by decide +kernel
theorem dPo_refused_0 : decode cPo_refused 0 = .ok (.aload_n 0, 1) := by decide +kernel
theorem dPo_refused_1 : decode cPo_refused 1 = .ok (.getfield 41, 3) := by decide +kernel
theorem dPo_refused_4 : decode cPo_refused 4 = .ok (.ireturn, 1) := by decide +kernel
theorem dPo_half_0 : decode cPo_half 0 = .ok (.aload_n 0, 1) := by decide +kernel
theorem dPo_half_1 : decode cPo_half 1 = .ok (.getfield 19, 3) := by decide +kernel
theorem dPo_half_4 : decode cPo_half 4 = .ok (.iload_n 1, 1) := by decide +kernel
theorem dPo_half_5 : decode cPo_half 5 = .ok (.invokevirtual 101, 3) := by decide +kernel
theorem dPo_half_8 : decode cPo_half 8 = .ok (.ireturn, 1) := by decide +kernel
theorem dPo_size_0 : decode cPo_size 0 = .ok (.aload_n 0, 1) := by decide +kernel
theorem dPo_size_1 : decode cPo_size 1 = .ok (.getfield 19, 3) := by decide +kernel
theorem dPo_size_4 : decode cPo_size 4 = .ok (.getfield 98, 3) := by decide +kernel
theorem dPo_size_7 : decode cPo_size 7 = .ok (.ireturn, 1) := by decide +kernel
theorem dPo_pools_0 : decode cPo_pools 0 = .ok (.aload_n 0, 1) := by decide +kernel
theorem dPo_pools_1 : decode cPo_pools 1 = .ok (.getfield 19, 3) := by decide +kernel
theorem dPo_pools_4 : decode cPo_pools 4 = .ok (.getfield 105, 3) := by decide +kernel
theorem dPo_pools_7 : decode cPo_pools 7 = .ok (.ireturn, 1) := by decide +kernel
theorem dPo_restart_0 : decode cPo_restart 0 = .ok (.aload_n 0, 1) := by decide +kernel
theorem dPo_restart_1 : decode cPo_restart 1 = .ok (.getfield 37, 3) := by decide +kernel
theorem dPo_restart_4 : decode cPo_restart 4 = .ok (.invokevirtual 95, 3) := by decide +kernel
theorem dPo_restart_7 : decode cPo_restart 7 = .ok (.return_, 1) := by decide +kernel
theorem dPo_data_0 : decode cPo_data 0 = .ok (.iload_n 1, 1) := by decide +kernel
theorem dPo_data_1 : decode cPo_data 1 = .ok (.ifCond .lt 21, 3) := by decide +kernel
theorem dPo_data_4 : decode cPo_data 4 = .ok (.iload_n 1, 1) := by decide +kernel
theorem dPo_data_5 : decode cPo_data 5 = .ok (.bipush 32, 2) := by decide +kernel
theorem dPo_data_7 : decode cPo_data 7 = .ok (.if_icmp .ge 15, 3) := by decide +kernel
theorem dPo_data_10 : decode cPo_data 10 = .ok (.aload_n 0, 1) := by decide +kernel
theorem dPo_data_11 : decode cPo_data 11 = .ok (.getfield 37, 3) := by decide +kernel
theorem dPo_data_14 : decode cPo_data 14 = .ok (.getfield 125, 3) := by decide +kernel
theorem dPo_data_17 : decode cPo_data 17 = .ok (.iload_n 1, 1) := by decide +kernel
theorem dPo_data_18 : decode cPo_data 18 = .ok (.iaload, 1) := by decide +kernel
theorem dPo_data_19 : decode cPo_data 19 = .ok (.goto 4, 3) := by decide +kernel
theorem dPo_data_22 : decode cPo_data 22 = .ok (.iconst 0, 1) := by decide +kernel
theorem dPo_data_23 : decode cPo_data 23 = .ok (.ireturn, 1) := by decide +kernel
theorem dPo_line_0 : decode cPo_line 0 = .ok (.iload_n 1, 1) := by decide +kernel
theorem dPo_line_1 : decode cPo_line 1 = .ok (.iload_n 2, 1) := by decide +kernel
theorem dPo_line_2 : decode cPo_line 2 = .ok (.iload_n 3, 1) := by decide +kernel
theorem dPo_line_3 : decode cPo_line 3 = .ok (.iload 4, 2) := by decide +kernel
theorem dPo_line_5 : decode cPo_line 5 = .ok (.invokestatic 45, 3) := by decide +kernel
theorem dPo_line_8 : decode cPo_line 8 = .ok (.ifCond .ne 13, 3) := by decide +kernel
theorem dPo_line_11 : decode cPo_line 11 = .ok (.new 51, 3) := by decide +kernel
theorem dPo_line_14 : decode cPo_line 14 = .ok (.dup, 1) := by decide +kernel
theorem dPo_line_15 : decode cPo_line 15 = .ok (.ldc 53, 2) := by decide +kernel
theorem dPo_line_17 : decode cPo_line 17 = .ok (.invokespecial 55, 3) := by decide +kernel
theorem dPo_line_20 : decode cPo_line 20 = .ok (.athrow, 1) := by decide +kernel
theorem dPo_line_21 : decode cPo_line 21 = .ok (.aload_n 0, 1) := by decide +kernel
theorem dPo_line_22 : decode cPo_line 22 = .ok (.getfield 12, 3) := by decide +kernel
theorem dPo_line_25 : decode cPo_line 25 = .ok (.invokevirtual 58, 3) := by decide +kernel
theorem dPo_line_28 : decode cPo_line 28 = .ok (.ifCond .ne 13, 3) := by decide +kernel
theorem dPo_line_31 : decode cPo_line 31 = .ok (.new 62, 3) := by decide +kernel
theorem dPo_line_34 : decode cPo_line 34 = .ok (.dup, 1) := by decide +kernel
theorem dPo_line_35 : decode cPo_line 35 = .ok (.ldc 64, 2) := by decide +kernel
theorem dPo_line_37 : decode cPo_line 37 = .ok (.invokespecial 66, 3) := by decide +kernel
theorem dPo_line_40 : decode cPo_line 40 = .ok (.athrow, 1) := by decide +kernel
theorem dPo_line_41 : decode cPo_line 41 = .ok (.iload_n 1, 1) := by decide +kernel
theorem dPo_line_42 : decode cPo_line 42 = .ok (.ifCond .ne 25, 3) := by decide +kernel
theorem dPo_line_45 : decode cPo_line 45 = .ok (.aload_n 0, 1) := by decide +kernel
theorem dPo_line_46 : decode cPo_line 46 = .ok (.getfield 12, 3) := by decide +kernel
theorem dPo_line_49 : decode cPo_line 49 = .ok (.iload_n 2, 1) := by decide +kernel
theorem dPo_line_50 : decode cPo_line 50 = .ok (.invokevirtual 67, 3) := by decide +kernel
theorem dPo_line_53 : decode cPo_line 53 = .ok (.iconst (-1), 1) := by decide +kernel
theorem dPo_line_54 : decode cPo_line 54 = .ok (.if_icmp .eq 13, 3) := by decide +kernel
theorem dPo_line_57 : decode cPo_line 57 = .ok (.new 62, 3) := by decide +kernel
theorem dPo_line_60 : decode cPo_line 60 = .ok (.dup, 1) := by decide +kernel
theorem dPo_line_61 : decode cPo_line 61 = .ok (.ldc 71, 2) := by decide +kernel
theorem dPo_line_63 : decode cPo_line 63 = .ok (.invokespecial 66, 3) := by decide +kernel
theorem dPo_line_66 : decode cPo_line 66 = .ok (.athrow, 1) := by decide +kernel
theorem dPo_line_67 : decode cPo_line 67 = .ok (.aload_n 0, 1) := by decide +kernel
theorem dPo_line_68 : decode cPo_line 68 = .ok (.getfield 12, 3) := by decide +kernel
theorem dPo_line_71 : decode cPo_line 71 = .ok (.iload_n 1, 1) := by decide +kernel
theorem dPo_line_72 : decode cPo_line 72 = .ok (.iload_n 2, 1) := by decide +kernel
theorem dPo_line_73 : decode cPo_line 73 = .ok (.iload_n 3, 1) := by decide +kernel
theorem dPo_line_74 : decode cPo_line 74 = .ok (.iload 4, 2) := by decide +kernel
theorem dPo_line_76 : decode cPo_line 76 = .ok (.invokevirtual 73, 3) := by decide +kernel
theorem dPo_line_79 : decode cPo_line 79 = .ok (.ireturn, 1) := by decide +kernel
theorem dPo_assemble_0 : decode cPo_assemble 0 = .ok (.aload_n 0, 1) := by decide +kernel
theorem dPo_assemble_1 : decode cPo_assemble 1 = .ok (.getfield 28, 3) := by decide +kernel
theorem dPo_assemble_4 : decode cPo_assemble 4 = .ok (.invokevirtual 80, 3) := by decide +kernel
theorem dPo_assemble_7 : decode cPo_assemble 7 = .ok (.aload_n 0, 1) := by decide +kernel
theorem dPo_assemble_8 : decode cPo_assemble 8 = .ok (.aload_n 0, 1) := by decide +kernel
theorem dPo_assemble_9 : decode cPo_assemble 9 = .ok (.getfield 28, 3) := by decide +kernel
theorem dPo_assemble_12 : decode cPo_assemble 12 = .ok (.invokevirtual 83, 3) := by decide +kernel
theorem dPo_assemble_15 : decode cPo_assemble 15 = .ok (.putfield 41, 3) := by decide +kernel
theorem dPo_assemble_18 : decode cPo_assemble 18 = .ok (.aload_n 0, 1) := by decide +kernel
theorem dPo_assemble_19 : decode cPo_assemble 19 = .ok (.getfield 41, 3) := by decide +kernel
theorem dPo_assemble_22 : decode cPo_assemble 22 = .ok (.iconst (-1), 1) := by decide +kernel
theorem dPo_assemble_23 : decode cPo_assemble 23 = .ok (.if_icmp .eq 13, 3) := by decide +kernel
theorem dPo_assemble_26 : decode cPo_assemble 26 = .ok (.new 87, 3) := by decide +kernel
theorem dPo_assemble_29 : decode cPo_assemble 29 = .ok (.dup, 1) := by decide +kernel
theorem dPo_assemble_30 : decode cPo_assemble 30 = .ok (.ldc 89, 2) := by decide +kernel
theorem dPo_assemble_32 : decode cPo_assemble 32 = .ok (.invokespecial 91, 3) := by decide +kernel
theorem dPo_assemble_35 : decode cPo_assemble 35 = .ok (.athrow, 1) := by decide +kernel
theorem dPo_assemble_36 : decode cPo_assemble 36 = .ok (.aload_n 0, 1) := by decide +kernel
theorem dPo_assemble_37 : decode cPo_assemble 37 = .ok (.getfield 28, 3) := by decide +kernel
theorem dPo_assemble_40 : decode cPo_assemble 40 = .ok (.invokevirtual 92, 3) := by decide +kernel
theorem dPo_assemble_43 : decode cPo_assemble 43 = .ok (.aload_n 0, 1) := by decide +kernel
theorem dPo_assemble_44 : decode cPo_assemble 44 = .ok (.getfield 37, 3) := by decide +kernel
theorem dPo_assemble_47 : decode cPo_assemble 47 = .ok (.invokevirtual 95, 3) := by decide +kernel
theorem dPo_assemble_50 : decode cPo_assemble 50 = .ok (.aload_n 0, 1) := by decide +kernel
theorem dPo_assemble_51 : decode cPo_assemble 51 = .ok (.getfield 19, 3) := by decide +kernel
theorem dPo_assemble_54 : decode cPo_assemble 54 = .ok (.getfield 98, 3) := by decide +kernel
theorem dPo_assemble_57 : decode cPo_assemble 57 = .ok (.ireturn, 1) := by decide +kernel
theorem dPo_run_0 : decode cPo_run 0 = .ok (.iload_n 1, 1) := by decide +kernel
theorem dPo_run_1 : decode cPo_run 1 = .ok (.iconst 1, 1) := by decide +kernel
theorem dPo_run_2 : decode cPo_run 2 = .ok (.if_icmp .lt 10, 3) := by decide +kernel
theorem dPo_run_5 : decode cPo_run 5 = .ok (.iload_n 1, 1) := by decide +kernel
theorem dPo_run_6 : decode cPo_run 6 = .ok (.sipush 5000, 3) := by decide +kernel
theorem dPo_run_9 : decode cPo_run 9 = .ok (.if_icmp .le 13, 3) := by decide +kernel
theorem dPo_run_12 : decode cPo_run 12 = .ok (.new 51, 3) := by decide +kernel
theorem dPo_run_15 : decode cPo_run 15 = .ok (.dup, 1) := by decide +kernel
theorem dPo_run_16 : decode cPo_run 16 = .ok (.ldc 108, 2) := by decide +kernel
theorem dPo_run_18 : decode cPo_run 18 = .ok (.invokespecial 55, 3) := by decide +kernel
theorem dPo_run_21 : decode cPo_run 21 = .ok (.athrow, 1) := by decide +kernel
theorem dPo_run_22 : decode cPo_run 22 = .ok (.aload_n 0, 1) := by decide +kernel
theorem dPo_run_23 : decode cPo_run 23 = .ok (.getfield 37, 3) := by decide +kernel
theorem dPo_run_26 : decode cPo_run 26 = .ok (.iload_n 1, 1) := by decide +kernel
theorem dPo_run_27 : decode cPo_run 27 = .ok (.invokevirtual 110, 3) := by decide +kernel
theorem dPo_run_30 : decode cPo_run 30 = .ok (.ireturn, 1) := by decide +kernel
theorem dPo_register_0 : decode cPo_register 0 = .ok (.iload_n 1, 1) := by decide +kernel
theorem dPo_register_1 : decode cPo_register 1 = .ok (.ifCond .lt 9, 3) := by decide +kernel
theorem dPo_register_4 : decode cPo_register 4 = .ok (.iload_n 1, 1) := by decide +kernel
theorem dPo_register_5 : decode cPo_register 5 = .ok (.bipush 9, 2) := by decide +kernel
theorem dPo_register_7 : decode cPo_register 7 = .ok (.if_icmp .le 13, 3) := by decide +kernel
theorem dPo_register_10 : decode cPo_register 10 = .ok (.new 51, 3) := by decide +kernel
theorem dPo_register_13 : decode cPo_register 13 = .ok (.dup, 1) := by decide +kernel
theorem dPo_register_14 : decode cPo_register 14 = .ok (.ldc 113, 2) := by decide +kernel
theorem dPo_register_16 : decode cPo_register 16 = .ok (.invokespecial 55, 3) := by decide +kernel
theorem dPo_register_19 : decode cPo_register 19 = .ok (.athrow, 1) := by decide +kernel
theorem dPo_register_20 : decode cPo_register 20 = .ok (.iload_n 1, 1) := by decide +kernel
theorem dPo_register_21 : decode cPo_register 21 = .ok (.bipush 8, 2) := by decide +kernel
theorem dPo_register_23 : decode cPo_register 23 = .ok (.if_icmp .ne 11, 3) := by decide +kernel
theorem dPo_register_26 : decode cPo_register 26 = .ok (.aload_n 0, 1) := by decide +kernel
theorem dPo_register_27 : decode cPo_register 27 = .ok (.getfield 37, 3) := by decide +kernel
theorem dPo_register_30 : decode cPo_register 30 = .ok (.getfield 115, 3) := by decide +kernel
theorem dPo_register_33 : decode cPo_register 33 = .ok (.ireturn, 1) := by decide +kernel
theorem dPo_register_34 : decode cPo_register 34 = .ok (.iload_n 1, 1) := by decide +kernel
theorem dPo_register_35 : decode cPo_register 35 = .ok (.bipush 8, 2) := by decide +kernel
theorem dPo_register_37 : decode cPo_register 37 = .ok (.if_icmp .ge 15, 3) := by decide +kernel
theorem dPo_register_40 : decode cPo_register 40 = .ok (.aload_n 0, 1) := by decide +kernel
theorem dPo_register_41 : decode cPo_register 41 = .ok (.getfield 37, 3) := by decide +kernel
theorem dPo_register_44 : decode cPo_register 44 = .ok (.getfield 118, 3) := by decide +kernel
theorem dPo_register_47 : decode cPo_register 47 = .ok (.iload_n 1, 1) := by decide +kernel
theorem dPo_register_48 : decode cPo_register 48 = .ok (.iaload, 1) := by decide +kernel
theorem dPo_register_49 : decode cPo_register 49 = .ok (.goto 10, 3) := by decide +kernel
theorem dPo_register_52 : decode cPo_register 52 = .ok (.aload_n 0, 1) := by decide +kernel
theorem dPo_register_53 : decode cPo_register 53 = .ok (.getfield 37, 3) := by decide +kernel
theorem dPo_register_56 : decode cPo_register 56 = .ok (.invokevirtual 122, 3) := by decide +kernel
theorem dPo_register_59 : decode cPo_register 59 = .ok (.ireturn, 1) := by decide +kernel
