theorem dPr_init_0 : decode cPr_init 0 = .ok (.aload_n 0, 1) := by decide +kernel
theorem dPr_init_1 : decode cPr_init 1 = .ok (.invokespecial 3, 3) := by decide +kernel
theorem dPr_init_4 : decode cPr_init 4 = .ok (.aload_n 0, 1) := by decide +kernel
theorem dPr_init_5 : decode cPr_init 5 = .ok (.bipush 8, 2) := by decide +kernel
theorem dPr_init_7 : decode cPr_init 7 = .ok (.newarray .int, 2) := by decide +kernel
theorem dPr_init_9 : decode cPr_init 9 = .ok (.putfield 9, 3) := by decide +kernel
theorem dPr_init_12 : decode cPr_init 12 = .ok (.aload_n 0, 1) := by decide +kernel
theorem dPr_init_13 : decode cPr_init 13 = .ok (.bipush 32, 2) := by decide +kernel
theorem dPr_init_15 : decode cPr_init 15 = .ok (.newarray .int, 2) := by decide +kernel
theorem dPr_init_17 : decode cPr_init 17 = .ok (.putfield 15, 3) := by decide +kernel
theorem dPr_init_20 : decode cPr_init 20 = .ok (.aload_n 0, 1) := by decide +kernel
theorem dPr_init_21 : decode cPr_init 21 = .ok (.aload_n 1, 1) := by decide +kernel
theorem dPr_init_22 : decode cPr_init 22 = .ok (.putfield 18, 3) := by decide +kernel
theorem dPr_init_25 : decode cPr_init 25 = .ok (.return_, 1) := by decide +kernel
theorem dPr_begin_0 : decode cPr_begin 0 = .ok (.aload_n 0, 1) := by decide +kernel
theorem dPr_begin_1 : decode cPr_begin 1 = .ok (.getfield 9, 3) := by decide +kernel
theorem dPr_begin_4 : decode cPr_begin 4 = .ok (.iconst 0, 1) := by decide +kernel
theorem dPr_begin_5 : decode cPr_begin 5 = .ok (.invokestatic 22, 3) := by decide +kernel
theorem dPr_begin_8 : decode cPr_begin 8 = .ok (.aload_n 0, 1) := by decide +kernel
theorem dPr_begin_9 : decode cPr_begin 9 = .ok (.getfield 15, 3) := by decide +kernel
theorem dPr_begin_12 : decode cPr_begin 12 = .ok (.iconst 0, 1) := by decide +kernel
theorem dPr_begin_13 : decode cPr_begin 13 = .ok (.invokestatic 22, 3) := by decide +kernel
theorem dPr_begin_16 : decode cPr_begin 16 = .ok (.aload_n 0, 1) := by decide +kernel
theorem dPr_begin_17 : decode cPr_begin 17 = .ok (.iconst 0, 1) := by decide +kernel
theorem dPr_begin_18 : decode cPr_begin 18 = .ok (.putfield 28, 3) := by decide +kernel
theorem dPr_begin_21 : decode cPr_begin 21 = .ok (.aload_n 0, 1) := by decide +kernel
theorem dPr_begin_22 : decode cPr_begin 22 = .ok (.iconst 0, 1) := by decide +kernel
theorem dPr_begin_23 : decode cPr_begin 23 = .ok (.putfield 32, 3) := by decide +kernel
theorem dPr_begin_26 : decode cPr_begin 26 = .ok (.aload_n 0, 1) := by decide +kernel
theorem dPr_begin_27 : decode cPr_begin 27 = .ok (.iconst 0, 1) := by decide +kernel
theorem dPr_begin_28 : decode cPr_begin 28 = .ok (.putfield 35, 3) := by decide +kernel
theorem dPr_begin_31 : decode cPr_begin 31 = .ok (.aload_n 0, 1) := by decide +kernel
theorem dPr_begin_32 : decode cPr_begin 32 = .ok (.iconst 0, 1) := by decide +kernel
theorem dPr_begin_33 : decode cPr_begin 33 = .ok (.putfield 39, 3) := by decide +kernel
theorem dPr_begin_36 : decode cPr_begin 36 = .ok (.aload_n 0, 1) := by decide +kernel
theorem dPr_begin_37 : decode cPr_begin 37 = .ok (.iconst 0, 1) := by decide +kernel
theorem dPr_begin_38 : decode cPr_begin 38 = .ok (.putfield 42, 3) := by decide +kernel
theorem dPr_begin_41 : decode cPr_begin 41 = .ok (.aload_n 0, 1) := by decide +kernel
theorem dPr_begin_42 : decode cPr_begin 42 = .ok (.iconst 0, 1) := by decide +kernel
theorem dPr_begin_43 : decode cPr_begin 43 = .ok (.putfield 45, 3) := by decide +kernel
theorem dPr_begin_46 : decode cPr_begin 46 = .ok (.return_, 1) := by decide +kernel
theorem dPr_goOn_0 : decode cPr_goOn 0 = .ok (.iconst 0, 1) := by decide +kernel
theorem dPr_goOn_1 : decode cPr_goOn 1 = .ok (.istore_n 2, 1) := by decide +kernel
theorem dPr_goOn_2 : decode cPr_goOn 2 = .ok (.iload_n 2, 1) := by decide +kernel
theorem dPr_goOn_3 : decode cPr_goOn 3 = .ok (.iload_n 1, 1) := by decide +kernel
theorem dPr_goOn_4 : decode cPr_goOn 4 = .ok (.if_icmp .ge 58, 3) := by decide +kernel
theorem dPr_goOn_7 : decode cPr_goOn 7 = .ok (.aload_n 0, 1) := by decide +kernel
theorem dPr_goOn_8 : decode cPr_goOn 8 = .ok (.getfield 32, 3) := by decide +kernel
theorem dPr_goOn_11 : decode cPr_goOn 11 = .ok (.ifCond .ne 51, 3) := by decide +kernel
theorem dPr_goOn_14 : decode cPr_goOn 14 = .ok (.aload_n 0, 1) := by decide +kernel
theorem dPr_goOn_15 : decode cPr_goOn 15 = .ok (.aload_n 0, 1) := by decide +kernel
theorem dPr_goOn_16 : decode cPr_goOn 16 = .ok (.getfield 18, 3) := by decide +kernel
theorem dPr_goOn_19 : decode cPr_goOn 19 = .ok (.aload_n 0, 1) := by decide +kernel
theorem dPr_goOn_20 : decode cPr_goOn 20 = .ok (.getfield 28, 3) := by decide +kernel
theorem dPr_goOn_23 : decode cPr_goOn 23 = .ok (.invokevirtual 48, 3) := by decide +kernel
theorem dPr_goOn_26 : decode cPr_goOn 26 = .ok (.ifCond .eq 26, 3) := by decide +kernel
theorem dPr_goOn_29 : decode cPr_goOn 29 = .ok (.aload_n 0, 1) := by decide +kernel
theorem dPr_goOn_30 : decode cPr_goOn 30 = .ok (.aload_n 0, 1) := by decide +kernel
theorem dPr_goOn_31 : decode cPr_goOn 31 = .ok (.getfield 18, 3) := by decide +kernel
theorem dPr_goOn_34 : decode cPr_goOn 34 = .ok (.aload_n 0, 1) := by decide +kernel
theorem dPr_goOn_35 : decode cPr_goOn 35 = .ok (.getfield 28, 3) := by decide +kernel
theorem dPr_goOn_38 : decode cPr_goOn 38 = .ok (.iconst 2, 1) := by decide +kernel
theorem dPr_goOn_39 : decode cPr_goOn 39 = .ok (.idiv, 1) := by decide +kernel
theorem dPr_goOn_40 : decode cPr_goOn 40 = .ok (.invokevirtual 54, 3) := by decide +kernel
theorem dPr_goOn_43 : decode cPr_goOn 43 = .ok (.ldc 58, 2) := by decide +kernel
theorem dPr_goOn_45 : decode cPr_goOn 45 = .ok (.iand, 1) := by decide +kernel
theorem dPr_goOn_46 : decode cPr_goOn 46 = .ok (.invokevirtual 59, 3) := by decide +kernel
theorem dPr_goOn_49 : decode cPr_goOn 49 = .ok (.goto 4, 3) := by decide +kernel
theorem dPr_goOn_52 : decode cPr_goOn 52 = .ok (.iconst 2, 1) := by decide +kernel
theorem dPr_goOn_53 : decode cPr_goOn 53 = .ok (.putfield 32, 3) := by decide +kernel
theorem dPr_goOn_56 : decode cPr_goOn 56 = .ok (.iinc 2 1, 3) := by decide +kernel
theorem dPr_goOn_59 : decode cPr_goOn 59 = .ok (.goto (-57), 3) := by decide +kernel
theorem dPr_goOn_62 : decode cPr_goOn 62 = .ok (.aload_n 0, 1) := by decide +kernel
theorem dPr_goOn_63 : decode cPr_goOn 63 = .ok (.getfield 32, 3) := by decide +kernel
theorem dPr_goOn_66 : decode cPr_goOn 66 = .ok (.ireturn, 1) := by decide +kernel
theorem dPr_perform_0 : decode cPr_perform 0 = .ok (.iload_n 1, 1) := by decide +kernel
theorem dPr_perform_1 : decode cPr_perform 1 = .ok (.bipush 11, 2) := by decide +kernel
theorem dPr_perform_3 : decode cPr_perform 3 = .ok (.ishr, 1) := by decide +kernel
theorem dPr_perform_4 : decode cPr_perform 4 = .ok (.tableswitch 194 3 28 #[120, 126, 126, 126, 126, 132, 152, 194, 194, 158, 158, 194, 194, 194, 194, 194, 194, 194, 194, 194, 164, 194, 194, 176, 176, 182], 120) := by decide +kernel
theorem dPr_perform_124 : decode cPr_perform 124 = .ok (.aload_n 0, 1) := by decide +kernel
theorem dPr_perform_125 : decode cPr_perform 125 = .ok (.iload_n 1, 1) := by decide +kernel
theorem dPr_perform_126 : decode cPr_perform 126 = .ok (.invokevirtual 63, 3) := by decide +kernel
theorem dPr_perform_129 : decode cPr_perform 129 = .ok (.ireturn, 1) := by decide +kernel
theorem dPr_perform_130 : decode cPr_perform 130 = .ok (.aload_n 0, 1) := by decide +kernel
theorem dPr_perform_131 : decode cPr_perform 131 = .ok (.iload_n 1, 1) := by decide +kernel
theorem dPr_perform_132 : decode cPr_perform 132 = .ok (.invokevirtual 66, 3) := by decide +kernel
theorem dPr_perform_135 : decode cPr_perform 135 = .ok (.ireturn, 1) := by decide +kernel
theorem dPr_perform_136 : decode cPr_perform 136 = .ok (.iload_n 1, 1) := by decide +kernel
theorem dPr_perform_137 : decode cPr_perform 137 = .ok (.sipush 18112, 3) := by decide +kernel
theorem dPr_perform_140 : decode cPr_perform 140 = .ok (.if_icmp .ne 10, 3) := by decide +kernel
theorem dPr_perform_143 : decode cPr_perform 143 = .ok (.aload_n 0, 1) := by decide +kernel
theorem dPr_perform_144 : decode cPr_perform 144 = .ok (.invokevirtual 69, 3) := by decide +kernel
theorem dPr_perform_147 : decode cPr_perform 147 = .ok (.goto 8, 3) := by decide +kernel
theorem dPr_perform_150 : decode cPr_perform 150 = .ok (.aload_n 0, 1) := by decide +kernel
theorem dPr_perform_151 : decode cPr_perform 151 = .ok (.iload_n 1, 1) := by decide +kernel
theorem dPr_perform_152 : decode cPr_perform 152 = .ok (.invokevirtual 73, 3) := by decide +kernel
theorem dPr_perform_155 : decode cPr_perform 155 = .ok (.ireturn, 1) := by decide +kernel
theorem dPr_perform_156 : decode cPr_perform 156 = .ok (.aload_n 0, 1) := by decide +kernel
theorem dPr_perform_157 : decode cPr_perform 157 = .ok (.iload_n 1, 1) := by decide +kernel
theorem dPr_perform_158 : decode cPr_perform 158 = .ok (.invokevirtual 76, 3) := by decide +kernel
theorem dPr_perform_161 : decode cPr_perform 161 = .ok (.ireturn, 1) := by decide +kernel
theorem dPr_perform_162 : decode cPr_perform 162 = .ok (.aload_n 0, 1) := by decide +kernel
theorem dPr_perform_163 : decode cPr_perform 163 = .ok (.iload_n 1, 1) := by decide +kernel
theorem dPr_perform_164 : decode cPr_perform 164 = .ok (.invokevirtual 79, 3) := by decide +kernel
theorem dPr_perform_167 : decode cPr_perform 167 = .ok (.ireturn, 1) := by decide +kernel
theorem dPr_perform_168 : decode cPr_perform 168 = .ok (.iload_n 1, 1) := by decide +kernel
theorem dPr_perform_169 : decode cPr_perform 169 = .ok (.ldc 82, 2) := by decide +kernel
theorem dPr_perform_171 : decode cPr_perform 171 = .ok (.if_icmp .ne 7, 3) := by decide +kernel
theorem dPr_perform_174 : decode cPr_perform 174 = .ok (.iconst 1, 1) := by decide +kernel
theorem dPr_perform_175 : decode cPr_perform 175 = .ok (.goto 4, 3) := by decide +kernel
theorem dPr_perform_178 : decode cPr_perform 178 = .ok (.iconst 2, 1) := by decide +kernel
theorem dPr_perform_179 : decode cPr_perform 179 = .ok (.ireturn, 1) := by decide +kernel
theorem dPr_perform_180 : decode cPr_perform 180 = .ok (.aload_n 0, 1) := by decide +kernel
theorem dPr_perform_181 : decode cPr_perform 181 = .ok (.iload_n 1, 1) := by decide +kernel
theorem dPr_perform_182 : decode cPr_perform 182 = .ok (.invokevirtual 83, 3) := by decide +kernel
theorem dPr_perform_185 : decode cPr_perform 185 = .ok (.ireturn, 1) := by decide +kernel
theorem dPr_perform_186 : decode cPr_perform 186 = .ok (.aload_n 0, 1) := by decide +kernel
theorem dPr_perform_187 : decode cPr_perform 187 = .ok (.iload_n 1, 1) := by decide +kernel
theorem dPr_perform_188 : decode cPr_perform 188 = .ok (.bipush 21, 2) := by decide +kernel
theorem dPr_perform_190 : decode cPr_perform 190 = .ok (.ishl, 1) := by decide +kernel
theorem dPr_perform_191 : decode cPr_perform 191 = .ok (.bipush 21, 2) := by decide +kernel
theorem dPr_perform_193 : decode cPr_perform 193 = .ok (.ishr, 1) := by decide +kernel
theorem dPr_perform_194 : decode cPr_perform 194 = .ok (.invokevirtual 86, 3) := by decide +kernel
theorem dPr_perform_197 : decode cPr_perform 197 = .ok (.ireturn, 1) := by decide +kernel
theorem dPr_perform_198 : decode cPr_perform 198 = .ok (.iconst 2, 1) := by decide +kernel
theorem dPr_perform_199 : decode cPr_perform 199 = .ok (.ireturn, 1) := by decide +kernel
theorem dPr_addOrTake_0 : decode cPr_addOrTake 0 = .ok (.iload_n 1, 1) := by decide +kernel
theorem dPr_addOrTake_1 : decode cPr_addOrTake 1 = .ok (.sipush 7168, 3) := by decide +kernel
theorem dPr_addOrTake_4 : decode cPr_addOrTake 4 = .ok (.if_icmp .lt 5, 3) := by decide +kernel
theorem dPr_addOrTake_7 : decode cPr_addOrTake 7 = .ok (.iconst 2, 1) := by decide +kernel
theorem dPr_addOrTake_8 : decode cPr_addOrTake 8 = .ok (.ireturn, 1) := by decide +kernel
theorem dPr_addOrTake_9 : decode cPr_addOrTake 9 = .ok (.aload_n 0, 1) := by decide +kernel
theorem dPr_addOrTake_10 : decode cPr_addOrTake 10 = .ok (.getfield 9, 3) := by decide +kernel
theorem dPr_addOrTake_13 : decode cPr_addOrTake 13 = .ok (.iload_n 1, 1) := by decide +kernel
theorem dPr_addOrTake_14 : decode cPr_addOrTake 14 = .ok (.iconst 3, 1) := by decide +kernel
theorem dPr_addOrTake_15 : decode cPr_addOrTake 15 = .ok (.ishr, 1) := by decide +kernel
theorem dPr_addOrTake_16 : decode cPr_addOrTake 16 = .ok (.bipush 7, 2) := by decide +kernel
theorem dPr_addOrTake_18 : decode cPr_addOrTake 18 = .ok (.iand, 1) := by decide +kernel
theorem dPr_addOrTake_19 : decode cPr_addOrTake 19 = .ok (.iaload, 1) := by decide +kernel
theorem dPr_addOrTake_20 : decode cPr_addOrTake 20 = .ok (.istore_n 2, 1) := by decide +kernel
theorem dPr_addOrTake_21 : decode cPr_addOrTake 21 = .ok (.aload_n 0, 1) := by decide +kernel
theorem dPr_addOrTake_22 : decode cPr_addOrTake 22 = .ok (.getfield 9, 3) := by decide +kernel
theorem dPr_addOrTake_25 : decode cPr_addOrTake 25 = .ok (.iload_n 1, 1) := by decide +kernel
theorem dPr_addOrTake_26 : decode cPr_addOrTake 26 = .ok (.bipush 6, 2) := by decide +kernel
theorem dPr_addOrTake_28 : decode cPr_addOrTake 28 = .ok (.ishr, 1) := by decide +kernel
theorem dPr_addOrTake_29 : decode cPr_addOrTake 29 = .ok (.bipush 7, 2) := by decide +kernel
theorem dPr_addOrTake_31 : decode cPr_addOrTake 31 = .ok (.iand, 1) := by decide +kernel
theorem dPr_addOrTake_32 : decode cPr_addOrTake 32 = .ok (.iaload, 1) := by decide +kernel
theorem dPr_addOrTake_33 : decode cPr_addOrTake 33 = .ok (.istore_n 3, 1) := by decide +kernel
theorem dPr_addOrTake_34 : decode cPr_addOrTake 34 = .ok (.aload_n 0, 1) := by decide +kernel
theorem dPr_addOrTake_35 : decode cPr_addOrTake 35 = .ok (.getfield 9, 3) := by decide +kernel
theorem dPr_addOrTake_38 : decode cPr_addOrTake 38 = .ok (.iload_n 1, 1) := by decide +kernel
theorem dPr_addOrTake_39 : decode cPr_addOrTake 39 = .ok (.bipush 7, 2) := by decide +kernel
theorem dPr_addOrTake_41 : decode cPr_addOrTake 41 = .ok (.iand, 1) := by decide +kernel
theorem dPr_addOrTake_42 : decode cPr_addOrTake 42 = .ok (.iload_n 1, 1) := by decide +kernel
theorem dPr_addOrTake_43 : decode cPr_addOrTake 43 = .ok (.sipush 6656, 3) := by decide +kernel
theorem dPr_addOrTake_46 : decode cPr_addOrTake 46 = .ok (.if_icmp .ge 12, 3) := by decide +kernel
theorem dPr_addOrTake_49 : decode cPr_addOrTake 49 = .ok (.aload_n 0, 1) := by decide +kernel
theorem dPr_addOrTake_50 : decode cPr_addOrTake 50 = .ok (.iload_n 2, 1) := by decide +kernel
theorem dPr_addOrTake_51 : decode cPr_addOrTake 51 = .ok (.iload_n 3, 1) := by decide +kernel
theorem dPr_addOrTake_52 : decode cPr_addOrTake 52 = .ok (.invokevirtual 95, 3) := by decide +kernel
theorem dPr_addOrTake_55 : decode cPr_addOrTake 55 = .ok (.goto 9, 3) := by decide +kernel
theorem dPr_addOrTake_58 : decode cPr_addOrTake 58 = .ok (.aload_n 0, 1) := by decide +kernel
theorem dPr_addOrTake_59 : decode cPr_addOrTake 59 = .ok (.iload_n 2, 1) := by decide +kernel
theorem dPr_addOrTake_60 : decode cPr_addOrTake 60 = .ok (.iload_n 3, 1) := by decide +kernel
theorem dPr_addOrTake_61 : decode cPr_addOrTake 61 = .ok (.invokevirtual 99, 3) := by decide +kernel
theorem dPr_addOrTake_64 : decode cPr_addOrTake 64 = .ok (.iastore, 1) := by decide +kernel
theorem dPr_addOrTake_65 : decode cPr_addOrTake 65 = .ok (.aload_n 0, 1) := by decide +kernel
theorem dPr_addOrTake_66 : decode cPr_addOrTake 66 = .ok (.invokevirtual 69, 3) := by decide +kernel
theorem dPr_addOrTake_69 : decode cPr_addOrTake 69 = .ok (.ireturn, 1) := by decide +kernel
theorem dPr_sum_0 : decode cPr_sum 0 = .ok (.iload_n 1, 1) := by decide +kernel
theorem dPr_sum_1 : decode cPr_sum 1 = .ok (.iload_n 2, 1) := by decide +kernel
theorem dPr_sum_2 : decode cPr_sum 2 = .ok (.iadd, 1) := by decide +kernel
theorem dPr_sum_3 : decode cPr_sum 3 = .ok (.istore_n 3, 1) := by decide +kernel
theorem dPr_sum_4 : decode cPr_sum 4 = .ok (.aload_n 0, 1) := by decide +kernel
theorem dPr_sum_5 : decode cPr_sum 5 = .ok (.iload_n 1, 1) := by decide +kernel
theorem dPr_sum_6 : decode cPr_sum 6 = .ok (.i2l, 1) := by decide +kernel
theorem dPr_sum_7 : decode cPr_sum 7 = .ok (.ldc2_w 105, 3) := by decide +kernel
theorem dPr_sum_10 : decode cPr_sum 10 = .ok (.land, 1) := by decide +kernel
theorem dPr_sum_11 : decode cPr_sum 11 = .ok (.iload_n 2, 1) := by decide +kernel
theorem dPr_sum_12 : decode cPr_sum 12 = .ok (.i2l, 1) := by decide +kernel
theorem dPr_sum_13 : decode cPr_sum 13 = .ok (.ldc2_w 105, 3) := by decide +kernel
theorem dPr_sum_16 : decode cPr_sum 16 = .ok (.land, 1) := by decide +kernel
theorem dPr_sum_17 : decode cPr_sum 17 = .ok (.ladd, 1) := by decide +kernel
theorem dPr_sum_18 : decode cPr_sum 18 = .ok (.ldc2_w 105, 3) := by decide +kernel
theorem dPr_sum_21 : decode cPr_sum 21 = .ok (.lcmp, 1) := by decide +kernel
theorem dPr_sum_22 : decode cPr_sum 22 = .ok (.ifCond .le 7, 3) := by decide +kernel
theorem dPr_sum_25 : decode cPr_sum 25 = .ok (.iconst 1, 1) := by decide +kernel
theorem dPr_sum_26 : decode cPr_sum 26 = .ok (.goto 4, 3) := by decide +kernel
theorem dPr_sum_29 : decode cPr_sum 29 = .ok (.iconst 0, 1) := by decide +kernel
theorem dPr_sum_30 : decode cPr_sum 30 = .ok (.putfield 42, 3) := by decide +kernel
theorem dPr_sum_33 : decode cPr_sum 33 = .ok (.aload_n 0, 1) := by decide +kernel
theorem dPr_sum_34 : decode cPr_sum 34 = .ok (.iload_n 1, 1) := by decide +kernel
theorem dPr_sum_35 : decode cPr_sum 35 = .ok (.iload_n 3, 1) := by decide +kernel
theorem dPr_sum_36 : decode cPr_sum 36 = .ok (.ixor, 1) := by decide +kernel
theorem dPr_sum_37 : decode cPr_sum 37 = .ok (.iload_n 2, 1) := by decide +kernel
theorem dPr_sum_38 : decode cPr_sum 38 = .ok (.iload_n 3, 1) := by decide +kernel
theorem dPr_sum_39 : decode cPr_sum 39 = .ok (.ixor, 1) := by decide +kernel
theorem dPr_sum_40 : decode cPr_sum 40 = .ok (.iand, 1) := by decide +kernel
theorem dPr_sum_41 : decode cPr_sum 41 = .ok (.ifCond .ge 7, 3) := by decide +kernel
theorem dPr_sum_44 : decode cPr_sum 44 = .ok (.iconst 1, 1) := by decide +kernel
theorem dPr_sum_45 : decode cPr_sum 45 = .ok (.goto 4, 3) := by decide +kernel
theorem dPr_sum_48 : decode cPr_sum 48 = .ok (.iconst 0, 1) := by decide +kernel
theorem dPr_sum_49 : decode cPr_sum 49 = .ok (.putfield 45, 3) := by decide +kernel
theorem dPr_sum_52 : decode cPr_sum 52 = .ok (.aload_n 0, 1) := by decide +kernel
theorem dPr_sum_53 : decode cPr_sum 53 = .ok (.iload_n 3, 1) := by decide +kernel
theorem dPr_sum_54 : decode cPr_sum 54 = .ok (.invokevirtual 102, 3) := by decide +kernel
theorem dPr_sum_57 : decode cPr_sum 57 = .ok (.ireturn, 1) := by decide +kernel
theorem dPr_noted_0 : decode cPr_noted 0 = .ok (.aload_n 0, 1) := by decide +kernel
theorem dPr_noted_1 : decode cPr_noted 1 = .ok (.iload_n 1, 1) := by decide +kernel
theorem dPr_noted_2 : decode cPr_noted 2 = .ok (.ifCond .ge 7, 3) := by decide +kernel
theorem dPr_noted_5 : decode cPr_noted 5 = .ok (.iconst 1, 1) := by decide +kernel
theorem dPr_noted_6 : decode cPr_noted 6 = .ok (.goto 4, 3) := by decide +kernel
theorem dPr_noted_9 : decode cPr_noted 9 = .ok (.iconst 0, 1) := by decide +kernel
theorem dPr_noted_10 : decode cPr_noted 10 = .ok (.putfield 35, 3) := by decide +kernel
theorem dPr_noted_13 : decode cPr_noted 13 = .ok (.aload_n 0, 1) := by decide +kernel
theorem dPr_noted_14 : decode cPr_noted 14 = .ok (.iload_n 1, 1) := by decide +kernel
theorem dPr_noted_15 : decode cPr_noted 15 = .ok (.ifCond .ne 7, 3) := by decide +kernel
theorem dPr_noted_18 : decode cPr_noted 18 = .ok (.iconst 1, 1) := by decide +kernel
theorem dPr_noted_19 : decode cPr_noted 19 = .ok (.goto 4, 3) := by decide +kernel
theorem dPr_noted_22 : decode cPr_noted 22 = .ok (.iconst 0, 1) := by decide +kernel
theorem dPr_noted_23 : decode cPr_noted 23 = .ok (.putfield 39, 3) := by decide +kernel
theorem dPr_noted_26 : decode cPr_noted 26 = .ok (.iload_n 1, 1) := by decide +kernel
theorem dPr_noted_27 : decode cPr_noted 27 = .ok (.ireturn, 1) := by decide +kernel
theorem dPr_difference_0 : decode cPr_difference 0 = .ok (.iload_n 1, 1) := by decide +kernel
theorem dPr_difference_1 : decode cPr_difference 1 = .ok (.iload_n 2, 1) := by decide +kernel
theorem dPr_difference_2 : decode cPr_difference 2 = .ok (.isub, 1) := by decide +kernel
theorem dPr_difference_3 : decode cPr_difference 3 = .ok (.istore_n 3, 1) := by decide +kernel
theorem dPr_difference_4 : decode cPr_difference 4 = .ok (.aload_n 0, 1) := by decide +kernel
theorem dPr_difference_5 : decode cPr_difference 5 = .ok (.iload_n 1, 1) := by decide +kernel
theorem dPr_difference_6 : decode cPr_difference 6 = .ok (.i2l, 1) := by decide +kernel
theorem dPr_difference_7 : decode cPr_difference 7 = .ok (.ldc2_w 105, 3) := by decide +kernel
theorem dPr_difference_10 : decode cPr_difference 10 = .ok (.land, 1) := by decide +kernel
theorem dPr_difference_11 : decode cPr_difference 11 = .ok (.iload_n 2, 1) := by decide +kernel
theorem dPr_difference_12 : decode cPr_difference 12 = .ok (.i2l, 1) := by decide +kernel
theorem dPr_difference_13 : decode cPr_difference 13 = .ok (.ldc2_w 105, 3) := by decide +kernel
theorem dPr_difference_16 : decode cPr_difference 16 = .ok (.land, 1) := by decide +kernel
theorem dPr_difference_17 : decode cPr_difference 17 = .ok (.lcmp, 1) := by decide +kernel
theorem dPr_difference_18 : decode cPr_difference 18 = .ok (.ifCond .lt 7, 3) := by decide +kernel
theorem dPr_difference_21 : decode cPr_difference 21 = .ok (.iconst 1, 1) := by decide +kernel
theorem dPr_difference_22 : decode cPr_difference 22 = .ok (.goto 4, 3) := by decide +kernel
theorem dPr_difference_25 : decode cPr_difference 25 = .ok (.iconst 0, 1) := by decide +kernel
theorem dPr_difference_26 : decode cPr_difference 26 = .ok (.putfield 42, 3) := by decide +kernel
theorem dPr_difference_29 : decode cPr_difference 29 = .ok (.aload_n 0, 1) := by decide +kernel
theorem dPr_difference_30 : decode cPr_difference 30 = .ok (.iload_n 1, 1) := by decide +kernel
theorem dPr_difference_31 : decode cPr_difference 31 = .ok (.iload_n 2, 1) := by decide +kernel
theorem dPr_difference_32 : decode cPr_difference 32 = .ok (.ixor, 1) := by decide +kernel
theorem dPr_difference_33 : decode cPr_difference 33 = .ok (.iload_n 1, 1) := by decide +kernel
theorem dPr_difference_34 : decode cPr_difference 34 = .ok (.iload_n 3, 1) := by decide +kernel
theorem dPr_difference_35 : decode cPr_difference 35 = .ok (.ixor, 1) := by decide +kernel
theorem dPr_difference_36 : decode cPr_difference 36 = .ok (.iand, 1) := by decide +kernel
theorem dPr_difference_37 : decode cPr_difference 37 = .ok (.ifCond .ge 7, 3) := by decide +kernel
theorem dPr_difference_40 : decode cPr_difference 40 = .ok (.iconst 1, 1) := by decide +kernel
theorem dPr_difference_41 : decode cPr_difference 41 = .ok (.goto 4, 3) := by decide +kernel
theorem dPr_difference_44 : decode cPr_difference 44 = .ok (.iconst 0, 1) := by decide +kernel
theorem dPr_difference_45 : decode cPr_difference 45 = .ok (.putfield 45, 3) := by decide +kernel
theorem dPr_difference_48 : decode cPr_difference 48 = .ok (.aload_n 0, 1) := by decide +kernel
theorem dPr_difference_49 : decode cPr_difference 49 = .ok (.iload_n 3, 1) := by decide +kernel
theorem dPr_difference_50 : decode cPr_difference 50 = .ok (.invokevirtual 102, 3) := by decide +kernel
theorem dPr_difference_53 : decode cPr_difference 53 = .ok (.ireturn, 1) := by decide +kernel
theorem dPr_next_0 : decode cPr_next 0 = .ok (.aload_n 0, 1) := by decide +kernel
theorem dPr_next_1 : decode cPr_next 1 = .ok (.dup, 1) := by decide +kernel
theorem dPr_next_2 : decode cPr_next 2 = .ok (.getfield 28, 3) := by decide +kernel
theorem dPr_next_5 : decode cPr_next 5 = .ok (.iconst 2, 1) := by decide +kernel
theorem dPr_next_6 : decode cPr_next 6 = .ok (.iadd, 1) := by decide +kernel
theorem dPr_next_7 : decode cPr_next 7 = .ok (.putfield 28, 3) := by decide +kernel
theorem dPr_next_10 : decode cPr_next 10 = .ok (.iconst 0, 1) := by decide +kernel
theorem dPr_next_11 : decode cPr_next 11 = .ok (.ireturn, 1) := by decide +kernel
theorem dPr_workWithSmall_0 : decode cPr_workWithSmall 0 = .ok (.iload_n 1, 1) := by decide +kernel
theorem dPr_workWithSmall_1 : decode cPr_workWithSmall 1 = .ok (.bipush 8, 2) := by decide +kernel
theorem dPr_workWithSmall_3 : decode cPr_workWithSmall 3 = .ok (.ishr, 1) := by decide +kernel
theorem dPr_workWithSmall_4 : decode cPr_workWithSmall 4 = .ok (.bipush 7, 2) := by decide +kernel
theorem dPr_workWithSmall_6 : decode cPr_workWithSmall 6 = .ok (.iand, 1) := by decide +kernel
theorem dPr_workWithSmall_7 : decode cPr_workWithSmall 7 = .ok (.istore_n 2, 1) := by decide +kernel
theorem dPr_workWithSmall_8 : decode cPr_workWithSmall 8 = .ok (.iload_n 1, 1) := by decide +kernel
theorem dPr_workWithSmall_9 : decode cPr_workWithSmall 9 = .ok (.sipush 255, 3) := by decide +kernel
theorem dPr_workWithSmall_12 : decode cPr_workWithSmall 12 = .ok (.iand, 1) := by decide +kernel
theorem dPr_workWithSmall_13 : decode cPr_workWithSmall 13 = .ok (.istore_n 3, 1) := by decide +kernel
theorem dPr_workWithSmall_14 : decode cPr_workWithSmall 14 = .ok (.iconst 1, 1) := by decide +kernel
theorem dPr_workWithSmall_15 : decode cPr_workWithSmall 15 = .ok (.iload_n 1, 1) := by decide +kernel
theorem dPr_workWithSmall_16 : decode cPr_workWithSmall 16 = .ok (.sipush 8192, 3) := by decide +kernel
theorem dPr_workWithSmall_19 : decode cPr_workWithSmall 19 = .ok (.isub, 1) := by decide +kernel
theorem dPr_workWithSmall_20 : decode cPr_workWithSmall 20 = .ok (.bipush 11, 2) := by decide +kernel
theorem dPr_workWithSmall_22 : decode cPr_workWithSmall 22 = .ok (.ishr, 1) := by decide +kernel
theorem dPr_workWithSmall_23 : decode cPr_workWithSmall 23 = .ok (.iadd, 1) := by decide +kernel
theorem dPr_workWithSmall_24 : decode cPr_workWithSmall 24 = .ok (.tableswitch 77 1 3 #[28, 42, 57], 28) := by decide +kernel
theorem dPr_workWithSmall_52 : decode cPr_workWithSmall 52 = .ok (.aload_n 0, 1) := by decide +kernel
theorem dPr_workWithSmall_53 : decode cPr_workWithSmall 53 = .ok (.getfield 9, 3) := by decide +kernel
theorem dPr_workWithSmall_56 : decode cPr_workWithSmall 56 = .ok (.iload_n 2, 1) := by decide +kernel
theorem dPr_workWithSmall_57 : decode cPr_workWithSmall 57 = .ok (.aload_n 0, 1) := by decide +kernel
theorem dPr_workWithSmall_58 : decode cPr_workWithSmall 58 = .ok (.iload_n 3, 1) := by decide +kernel
theorem dPr_workWithSmall_59 : decode cPr_workWithSmall 59 = .ok (.invokevirtual 102, 3) := by decide +kernel
theorem dPr_workWithSmall_62 : decode cPr_workWithSmall 62 = .ok (.iastore, 1) := by decide +kernel
theorem dPr_workWithSmall_63 : decode cPr_workWithSmall 63 = .ok (.goto 55, 3) := by decide +kernel
theorem dPr_workWithSmall_66 : decode cPr_workWithSmall 66 = .ok (.aload_n 0, 1) := by decide +kernel
theorem dPr_workWithSmall_67 : decode cPr_workWithSmall 67 = .ok (.aload_n 0, 1) := by decide +kernel
theorem dPr_workWithSmall_68 : decode cPr_workWithSmall 68 = .ok (.getfield 9, 3) := by decide +kernel
theorem dPr_workWithSmall_71 : decode cPr_workWithSmall 71 = .ok (.iload_n 2, 1) := by decide +kernel
theorem dPr_workWithSmall_72 : decode cPr_workWithSmall 72 = .ok (.iaload, 1) := by decide +kernel
theorem dPr_workWithSmall_73 : decode cPr_workWithSmall 73 = .ok (.iload_n 3, 1) := by decide +kernel
theorem dPr_workWithSmall_74 : decode cPr_workWithSmall 74 = .ok (.invokevirtual 99, 3) := by decide +kernel
theorem dPr_workWithSmall_77 : decode cPr_workWithSmall 77 = .ok (.pop, 1) := by decide +kernel
theorem dPr_workWithSmall_78 : decode cPr_workWithSmall 78 = .ok (.goto 40, 3) := by decide +kernel
theorem dPr_workWithSmall_81 : decode cPr_workWithSmall 81 = .ok (.aload_n 0, 1) := by decide +kernel
theorem dPr_workWithSmall_82 : decode cPr_workWithSmall 82 = .ok (.getfield 9, 3) := by decide +kernel
theorem dPr_workWithSmall_85 : decode cPr_workWithSmall 85 = .ok (.iload_n 2, 1) := by decide +kernel
theorem dPr_workWithSmall_86 : decode cPr_workWithSmall 86 = .ok (.aload_n 0, 1) := by decide +kernel
theorem dPr_workWithSmall_87 : decode cPr_workWithSmall 87 = .ok (.aload_n 0, 1) := by decide +kernel
theorem dPr_workWithSmall_88 : decode cPr_workWithSmall 88 = .ok (.getfield 9, 3) := by decide +kernel
theorem dPr_workWithSmall_91 : decode cPr_workWithSmall 91 = .ok (.iload_n 2, 1) := by decide +kernel
theorem dPr_workWithSmall_92 : decode cPr_workWithSmall 92 = .ok (.iaload, 1) := by decide +kernel
theorem dPr_workWithSmall_93 : decode cPr_workWithSmall 93 = .ok (.iload_n 3, 1) := by decide +kernel
theorem dPr_workWithSmall_94 : decode cPr_workWithSmall 94 = .ok (.invokevirtual 95, 3) := by decide +kernel
theorem dPr_workWithSmall_97 : decode cPr_workWithSmall 97 = .ok (.iastore, 1) := by decide +kernel
theorem dPr_workWithSmall_98 : decode cPr_workWithSmall 98 = .ok (.goto 20, 3) := by decide +kernel
theorem dPr_workWithSmall_101 : decode cPr_workWithSmall 101 = .ok (.aload_n 0, 1) := by decide +kernel
theorem dPr_workWithSmall_102 : decode cPr_workWithSmall 102 = .ok (.getfield 9, 3) := by decide +kernel
theorem dPr_workWithSmall_105 : decode cPr_workWithSmall 105 = .ok (.iload_n 2, 1) := by decide +kernel
theorem dPr_workWithSmall_106 : decode cPr_workWithSmall 106 = .ok (.aload_n 0, 1) := by decide +kernel
theorem dPr_workWithSmall_107 : decode cPr_workWithSmall 107 = .ok (.aload_n 0, 1) := by decide +kernel
theorem dPr_workWithSmall_108 : decode cPr_workWithSmall 108 = .ok (.getfield 9, 3) := by decide +kernel
theorem dPr_workWithSmall_111 : decode cPr_workWithSmall 111 = .ok (.iload_n 2, 1) := by decide +kernel
theorem dPr_workWithSmall_112 : decode cPr_workWithSmall 112 = .ok (.iaload, 1) := by decide +kernel
theorem dPr_workWithSmall_113 : decode cPr_workWithSmall 113 = .ok (.iload_n 3, 1) := by decide +kernel
theorem dPr_workWithSmall_114 : decode cPr_workWithSmall 114 = .ok (.invokevirtual 99, 3) := by decide +kernel
theorem dPr_workWithSmall_117 : decode cPr_workWithSmall 117 = .ok (.iastore, 1) := by decide +kernel
theorem dPr_workWithSmall_118 : decode cPr_workWithSmall 118 = .ok (.aload_n 0, 1) := by decide +kernel
theorem dPr_workWithSmall_119 : decode cPr_workWithSmall 119 = .ok (.invokevirtual 69, 3) := by decide +kernel
theorem dPr_workWithSmall_122 : decode cPr_workWithSmall 122 = .ok (.ireturn, 1) := by decide +kernel
theorem dPr_work_0 : decode cPr_work 0 = .ok (.iload_n 1, 1) := by decide +kernel
theorem dPr_work_1 : decode cPr_work 1 = .ok (.bipush 7, 2) := by decide +kernel
theorem dPr_work_3 : decode cPr_work 3 = .ok (.iand, 1) := by decide +kernel
theorem dPr_work_4 : decode cPr_work 4 = .ok (.istore_n 2, 1) := by decide +kernel
theorem dPr_work_5 : decode cPr_work 5 = .ok (.aload_n 0, 1) := by decide +kernel
theorem dPr_work_6 : decode cPr_work 6 = .ok (.getfield 9, 3) := by decide +kernel
theorem dPr_work_9 : decode cPr_work 9 = .ok (.iload_n 2, 1) := by decide +kernel
theorem dPr_work_10 : decode cPr_work 10 = .ok (.iaload, 1) := by decide +kernel
theorem dPr_work_11 : decode cPr_work 11 = .ok (.istore_n 3, 1) := by decide +kernel
theorem dPr_work_12 : decode cPr_work 12 = .ok (.aload_n 0, 1) := by decide +kernel
theorem dPr_work_13 : decode cPr_work 13 = .ok (.getfield 9, 3) := by decide +kernel
theorem dPr_work_16 : decode cPr_work 16 = .ok (.iload_n 1, 1) := by decide +kernel
theorem dPr_work_17 : decode cPr_work 17 = .ok (.iconst 3, 1) := by decide +kernel
theorem dPr_work_18 : decode cPr_work 18 = .ok (.ishr, 1) := by decide +kernel
theorem dPr_work_19 : decode cPr_work 19 = .ok (.bipush 7, 2) := by decide +kernel
theorem dPr_work_21 : decode cPr_work 21 = .ok (.iand, 1) := by decide +kernel
theorem dPr_work_22 : decode cPr_work 22 = .ok (.iaload, 1) := by decide +kernel
theorem dPr_work_23 : decode cPr_work 23 = .ok (.istore 4, 2) := by decide +kernel
theorem dPr_work_25 : decode cPr_work 25 = .ok (.iload_n 1, 1) := by decide +kernel
theorem dPr_work_26 : decode cPr_work 26 = .ok (.sipush 16384, 3) := by decide +kernel
theorem dPr_work_29 : decode cPr_work 29 = .ok (.isub, 1) := by decide +kernel
theorem dPr_work_30 : decode cPr_work 30 = .ok (.bipush 6, 2) := by decide +kernel
theorem dPr_work_32 : decode cPr_work 32 = .ok (.ishr, 1) := by decide +kernel
theorem dPr_work_33 : decode cPr_work 33 = .ok (.tableswitch 194 0 15 #[79, 96, 194, 194, 194, 194, 194, 194, 194, 194, 113, 194, 124, 141, 158, 177], 79) := by decide +kernel
theorem dPr_work_112 : decode cPr_work 112 = .ok (.aload_n 0, 1) := by decide +kernel
theorem dPr_work_113 : decode cPr_work 113 = .ok (.getfield 9, 3) := by decide +kernel
theorem dPr_work_116 : decode cPr_work 116 = .ok (.iload_n 2, 1) := by decide +kernel
theorem dPr_work_117 : decode cPr_work 117 = .ok (.aload_n 0, 1) := by decide +kernel
theorem dPr_work_118 : decode cPr_work 118 = .ok (.iload_n 3, 1) := by decide +kernel
theorem dPr_work_119 : decode cPr_work 119 = .ok (.iload 4, 2) := by decide +kernel
theorem dPr_work_121 : decode cPr_work 121 = .ok (.iand, 1) := by decide +kernel
theorem dPr_work_122 : decode cPr_work 122 = .ok (.invokevirtual 102, 3) := by decide +kernel
theorem dPr_work_125 : decode cPr_work 125 = .ok (.iastore, 1) := by decide +kernel
theorem dPr_work_126 : decode cPr_work 126 = .ok (.goto 103, 3) := by decide +kernel
theorem dPr_work_129 : decode cPr_work 129 = .ok (.aload_n 0, 1) := by decide +kernel
theorem dPr_work_130 : decode cPr_work 130 = .ok (.getfield 9, 3) := by decide +kernel
theorem dPr_work_133 : decode cPr_work 133 = .ok (.iload_n 2, 1) := by decide +kernel
theorem dPr_work_134 : decode cPr_work 134 = .ok (.aload_n 0, 1) := by decide +kernel
theorem dPr_work_135 : decode cPr_work 135 = .ok (.iload_n 3, 1) := by decide +kernel
theorem dPr_work_136 : decode cPr_work 136 = .ok (.iload 4, 2) := by decide +kernel
theorem dPr_work_138 : decode cPr_work 138 = .ok (.ixor, 1) := by decide +kernel
theorem dPr_work_139 : decode cPr_work 139 = .ok (.invokevirtual 102, 3) := by decide +kernel
theorem dPr_work_142 : decode cPr_work 142 = .ok (.iastore, 1) := by decide +kernel
theorem dPr_work_143 : decode cPr_work 143 = .ok (.goto 86, 3) := by decide +kernel
theorem dPr_work_146 : decode cPr_work 146 = .ok (.aload_n 0, 1) := by decide +kernel
theorem dPr_work_147 : decode cPr_work 147 = .ok (.iload_n 3, 1) := by decide +kernel
theorem dPr_work_148 : decode cPr_work 148 = .ok (.iload 4, 2) := by decide +kernel
theorem dPr_work_150 : decode cPr_work 150 = .ok (.invokevirtual 99, 3) := by decide +kernel
theorem dPr_work_153 : decode cPr_work 153 = .ok (.pop, 1) := by decide +kernel
theorem dPr_work_154 : decode cPr_work 154 = .ok (.goto 75, 3) := by decide +kernel
theorem dPr_work_157 : decode cPr_work 157 = .ok (.aload_n 0, 1) := by decide +kernel
theorem dPr_work_158 : decode cPr_work 158 = .ok (.getfield 9, 3) := by decide +kernel
theorem dPr_work_161 : decode cPr_work 161 = .ok (.iload_n 2, 1) := by decide +kernel
theorem dPr_work_162 : decode cPr_work 162 = .ok (.aload_n 0, 1) := by decide +kernel
theorem dPr_work_163 : decode cPr_work 163 = .ok (.iload_n 3, 1) := by decide +kernel
theorem dPr_work_164 : decode cPr_work 164 = .ok (.iload 4, 2) := by decide +kernel
theorem dPr_work_166 : decode cPr_work 166 = .ok (.ior, 1) := by decide +kernel
theorem dPr_work_167 : decode cPr_work 167 = .ok (.invokevirtual 102, 3) := by decide +kernel
theorem dPr_work_170 : decode cPr_work 170 = .ok (.iastore, 1) := by decide +kernel
theorem dPr_work_171 : decode cPr_work 171 = .ok (.goto 58, 3) := by decide +kernel
theorem dPr_work_174 : decode cPr_work 174 = .ok (.aload_n 0, 1) := by decide +kernel
theorem dPr_work_175 : decode cPr_work 175 = .ok (.getfield 9, 3) := by decide +kernel
theorem dPr_work_178 : decode cPr_work 178 = .ok (.iload_n 2, 1) := by decide +kernel
theorem dPr_work_179 : decode cPr_work 179 = .ok (.aload_n 0, 1) := by decide +kernel
theorem dPr_work_180 : decode cPr_work 180 = .ok (.iload_n 3, 1) := by decide +kernel
theorem dPr_work_181 : decode cPr_work 181 = .ok (.iload 4, 2) := by decide +kernel
theorem dPr_work_183 : decode cPr_work 183 = .ok (.imul, 1) := by decide +kernel
theorem dPr_work_184 : decode cPr_work 184 = .ok (.invokevirtual 102, 3) := by decide +kernel
theorem dPr_work_187 : decode cPr_work 187 = .ok (.iastore, 1) := by decide +kernel
theorem dPr_work_188 : decode cPr_work 188 = .ok (.goto 41, 3) := by decide +kernel
theorem dPr_work_191 : decode cPr_work 191 = .ok (.aload_n 0, 1) := by decide +kernel
theorem dPr_work_192 : decode cPr_work 192 = .ok (.getfield 9, 3) := by decide +kernel
theorem dPr_work_195 : decode cPr_work 195 = .ok (.iload_n 2, 1) := by decide +kernel
theorem dPr_work_196 : decode cPr_work 196 = .ok (.aload_n 0, 1) := by decide +kernel
theorem dPr_work_197 : decode cPr_work 197 = .ok (.iload_n 3, 1) := by decide +kernel
theorem dPr_work_198 : decode cPr_work 198 = .ok (.iload 4, 2) := by decide +kernel
theorem dPr_work_200 : decode cPr_work 200 = .ok (.iconst (-1), 1) := by decide +kernel
theorem dPr_work_201 : decode cPr_work 201 = .ok (.ixor, 1) := by decide +kernel
theorem dPr_work_202 : decode cPr_work 202 = .ok (.iand, 1) := by decide +kernel
theorem dPr_work_203 : decode cPr_work 203 = .ok (.invokevirtual 102, 3) := by decide +kernel
theorem dPr_work_206 : decode cPr_work 206 = .ok (.iastore, 1) := by decide +kernel
theorem dPr_work_207 : decode cPr_work 207 = .ok (.goto 22, 3) := by decide +kernel
theorem dPr_work_210 : decode cPr_work 210 = .ok (.aload_n 0, 1) := by decide +kernel
theorem dPr_work_211 : decode cPr_work 211 = .ok (.getfield 9, 3) := by decide +kernel
theorem dPr_work_214 : decode cPr_work 214 = .ok (.iload_n 2, 1) := by decide +kernel
theorem dPr_work_215 : decode cPr_work 215 = .ok (.aload_n 0, 1) := by decide +kernel
theorem dPr_work_216 : decode cPr_work 216 = .ok (.iload 4, 2) := by decide +kernel
theorem dPr_work_218 : decode cPr_work 218 = .ok (.iconst (-1), 1) := by decide +kernel
theorem dPr_work_219 : decode cPr_work 219 = .ok (.ixor, 1) := by decide +kernel
theorem dPr_work_220 : decode cPr_work 220 = .ok (.invokevirtual 102, 3) := by decide +kernel
theorem dPr_work_223 : decode cPr_work 223 = .ok (.iastore, 1) := by decide +kernel
theorem dPr_work_224 : decode cPr_work 224 = .ok (.goto 5, 3) := by decide +kernel
theorem dPr_work_227 : decode cPr_work 227 = .ok (.iconst 2, 1) := by decide +kernel
theorem dPr_work_228 : decode cPr_work 228 = .ok (.ireturn, 1) := by decide +kernel
theorem dPr_work_229 : decode cPr_work 229 = .ok (.aload_n 0, 1) := by decide +kernel
theorem dPr_work_230 : decode cPr_work 230 = .ok (.invokevirtual 69, 3) := by decide +kernel
theorem dPr_work_233 : decode cPr_work 233 = .ok (.ireturn, 1) := by decide +kernel
theorem dPr_loadConstant_0 : decode cPr_loadConstant 0 = .ok (.aload_n 0, 1) := by decide +kernel
theorem dPr_loadConstant_1 : decode cPr_loadConstant 1 = .ok (.getfield 28, 3) := by decide +kernel
theorem dPr_loadConstant_4 : decode cPr_loadConstant 4 = .ok (.invokestatic 107, 3) := by decide +kernel
theorem dPr_loadConstant_7 : decode cPr_loadConstant 7 = .ok (.iconst 4, 1) := by decide +kernel
theorem dPr_loadConstant_8 : decode cPr_loadConstant 8 = .ok (.iload_n 1, 1) := by decide +kernel
theorem dPr_loadConstant_9 : decode cPr_loadConstant 9 = .ok (.sipush 255, 3) := by decide +kernel
theorem dPr_loadConstant_12 : decode cPr_loadConstant 12 = .ok (.iand, 1) := by decide +kernel
theorem dPr_loadConstant_13 : decode cPr_loadConstant 13 = .ok (.imul, 1) := by decide +kernel
theorem dPr_loadConstant_14 : decode cPr_loadConstant 14 = .ok (.iadd, 1) := by decide +kernel
theorem dPr_loadConstant_15 : decode cPr_loadConstant 15 = .ok (.istore_n 2, 1) := by decide +kernel
theorem dPr_loadConstant_16 : decode cPr_loadConstant 16 = .ok (.aload_n 0, 1) := by decide +kernel
theorem dPr_loadConstant_17 : decode cPr_loadConstant 17 = .ok (.getfield 18, 3) := by decide +kernel
theorem dPr_loadConstant_20 : decode cPr_loadConstant 20 = .ok (.iload_n 2, 1) := by decide +kernel
theorem dPr_loadConstant_21 : decode cPr_loadConstant 21 = .ok (.invokevirtual 48, 3) := by decide +kernel
theorem dPr_loadConstant_24 : decode cPr_loadConstant 24 = .ok (.ifCond .eq 16, 3) := by decide +kernel
theorem dPr_loadConstant_27 : decode cPr_loadConstant 27 = .ok (.aload_n 0, 1) := by decide +kernel
theorem dPr_loadConstant_28 : decode cPr_loadConstant 28 = .ok (.getfield 18, 3) := by decide +kernel
theorem dPr_loadConstant_31 : decode cPr_loadConstant 31 = .ok (.iload_n 2, 1) := by decide +kernel
theorem dPr_loadConstant_32 : decode cPr_loadConstant 32 = .ok (.iconst 2, 1) := by decide +kernel
theorem dPr_loadConstant_33 : decode cPr_loadConstant 33 = .ok (.iadd, 1) := by decide +kernel
theorem dPr_loadConstant_34 : decode cPr_loadConstant 34 = .ok (.invokevirtual 48, 3) := by decide +kernel
theorem dPr_loadConstant_37 : decode cPr_loadConstant 37 = .ok (.ifCond .ne 5, 3) := by decide +kernel
theorem dPr_loadConstant_40 : decode cPr_loadConstant 40 = .ok (.iconst 2, 1) := by decide +kernel
theorem dPr_loadConstant_41 : decode cPr_loadConstant 41 = .ok (.ireturn, 1) := by decide +kernel
theorem dPr_loadConstant_42 : decode cPr_loadConstant 42 = .ok (.aload_n 0, 1) := by decide +kernel
theorem dPr_loadConstant_43 : decode cPr_loadConstant 43 = .ok (.getfield 9, 3) := by decide +kernel
theorem dPr_loadConstant_46 : decode cPr_loadConstant 46 = .ok (.iload_n 1, 1) := by decide +kernel
theorem dPr_loadConstant_47 : decode cPr_loadConstant 47 = .ok (.bipush 8, 2) := by decide +kernel
theorem dPr_loadConstant_49 : decode cPr_loadConstant 49 = .ok (.ishr, 1) := by decide +kernel
theorem dPr_loadConstant_50 : decode cPr_loadConstant 50 = .ok (.bipush 7, 2) := by decide +kernel
theorem dPr_loadConstant_52 : decode cPr_loadConstant 52 = .ok (.iand, 1) := by decide +kernel
theorem dPr_loadConstant_53 : decode cPr_loadConstant 53 = .ok (.aload_n 0, 1) := by decide +kernel
theorem dPr_loadConstant_54 : decode cPr_loadConstant 54 = .ok (.getfield 18, 3) := by decide +kernel
theorem dPr_loadConstant_57 : decode cPr_loadConstant 57 = .ok (.iload_n 2, 1) := by decide +kernel
theorem dPr_loadConstant_58 : decode cPr_loadConstant 58 = .ok (.invokevirtual 110, 3) := by decide +kernel
theorem dPr_loadConstant_61 : decode cPr_loadConstant 61 = .ok (.iastore, 1) := by decide +kernel
theorem dPr_loadConstant_62 : decode cPr_loadConstant 62 = .ok (.aload_n 0, 1) := by decide +kernel
theorem dPr_loadConstant_63 : decode cPr_loadConstant 63 = .ok (.invokevirtual 69, 3) := by decide +kernel
theorem dPr_loadConstant_66 : decode cPr_loadConstant 66 = .ok (.ireturn, 1) := by decide +kernel
theorem dPr_storeOrLoad_0 : decode cPr_storeOrLoad 0 = .ok (.aload_n 0, 1) := by decide +kernel
theorem dPr_storeOrLoad_1 : decode cPr_storeOrLoad 1 = .ok (.getfield 9, 3) := by decide +kernel
theorem dPr_storeOrLoad_4 : decode cPr_storeOrLoad 4 = .ok (.iload_n 1, 1) := by decide +kernel
theorem dPr_storeOrLoad_5 : decode cPr_storeOrLoad 5 = .ok (.iconst 3, 1) := by decide +kernel
theorem dPr_storeOrLoad_6 : decode cPr_storeOrLoad 6 = .ok (.ishr, 1) := by decide +kernel
theorem dPr_storeOrLoad_7 : decode cPr_storeOrLoad 7 = .ok (.bipush 7, 2) := by decide +kernel
theorem dPr_storeOrLoad_9 : decode cPr_storeOrLoad 9 = .ok (.iand, 1) := by decide +kernel
theorem dPr_storeOrLoad_10 : decode cPr_storeOrLoad 10 = .ok (.iaload, 1) := by decide +kernel
theorem dPr_storeOrLoad_11 : decode cPr_storeOrLoad 11 = .ok (.iconst 4, 1) := by decide +kernel
theorem dPr_storeOrLoad_12 : decode cPr_storeOrLoad 12 = .ok (.iload_n 1, 1) := by decide +kernel
theorem dPr_storeOrLoad_13 : decode cPr_storeOrLoad 13 = .ok (.bipush 6, 2) := by decide +kernel
theorem dPr_storeOrLoad_15 : decode cPr_storeOrLoad 15 = .ok (.ishr, 1) := by decide +kernel
theorem dPr_storeOrLoad_16 : decode cPr_storeOrLoad 16 = .ok (.bipush 31, 2) := by decide +kernel
theorem dPr_storeOrLoad_18 : decode cPr_storeOrLoad 18 = .ok (.iand, 1) := by decide +kernel
theorem dPr_storeOrLoad_19 : decode cPr_storeOrLoad 19 = .ok (.imul, 1) := by decide +kernel
theorem dPr_storeOrLoad_20 : decode cPr_storeOrLoad 20 = .ok (.iadd, 1) := by decide +kernel
theorem dPr_storeOrLoad_21 : decode cPr_storeOrLoad 21 = .ok (.sipush 4096, 3) := by decide +kernel
theorem dPr_storeOrLoad_24 : decode cPr_storeOrLoad 24 = .ok (.isub, 1) := by decide +kernel
theorem dPr_storeOrLoad_25 : decode cPr_storeOrLoad 25 = .ok (.istore_n 2, 1) := by decide +kernel
theorem dPr_storeOrLoad_26 : decode cPr_storeOrLoad 26 = .ok (.iload_n 2, 1) := by decide +kernel
theorem dPr_storeOrLoad_27 : decode cPr_storeOrLoad 27 = .ok (.iconst 4, 1) := by decide +kernel
theorem dPr_storeOrLoad_28 : decode cPr_storeOrLoad 28 = .ok (.irem, 1) := by decide +kernel
theorem dPr_storeOrLoad_29 : decode cPr_storeOrLoad 29 = .ok (.ifCond .ne 14, 3) := by decide +kernel
theorem dPr_storeOrLoad_32 : decode cPr_storeOrLoad 32 = .ok (.iload_n 2, 1) := by decide +kernel
theorem dPr_storeOrLoad_33 : decode cPr_storeOrLoad 33 = .ok (.ifCond .lt 10, 3) := by decide +kernel
theorem dPr_storeOrLoad_36 : decode cPr_storeOrLoad 36 = .ok (.iload_n 2, 1) := by decide +kernel
theorem dPr_storeOrLoad_37 : decode cPr_storeOrLoad 37 = .ok (.sipush 128, 3) := by decide +kernel
theorem dPr_storeOrLoad_40 : decode cPr_storeOrLoad 40 = .ok (.if_icmp .lt 5, 3) := by decide +kernel
theorem dPr_storeOrLoad_43 : decode cPr_storeOrLoad 43 = .ok (.iconst 2, 1) := by decide +kernel
theorem dPr_storeOrLoad_44 : decode cPr_storeOrLoad 44 = .ok (.ireturn, 1) := by decide +kernel
theorem dPr_storeOrLoad_45 : decode cPr_storeOrLoad 45 = .ok (.iload_n 1, 1) := by decide +kernel
theorem dPr_storeOrLoad_46 : decode cPr_storeOrLoad 46 = .ok (.sipush 26624, 3) := by decide +kernel
theorem dPr_storeOrLoad_49 : decode cPr_storeOrLoad 49 = .ok (.if_icmp .ge 23, 3) := by decide +kernel
theorem dPr_storeOrLoad_52 : decode cPr_storeOrLoad 52 = .ok (.aload_n 0, 1) := by decide +kernel
theorem dPr_storeOrLoad_53 : decode cPr_storeOrLoad 53 = .ok (.getfield 15, 3) := by decide +kernel
theorem dPr_storeOrLoad_56 : decode cPr_storeOrLoad 56 = .ok (.iload_n 2, 1) := by decide +kernel
theorem dPr_storeOrLoad_57 : decode cPr_storeOrLoad 57 = .ok (.iconst 4, 1) := by decide +kernel
theorem dPr_storeOrLoad_58 : decode cPr_storeOrLoad 58 = .ok (.idiv, 1) := by decide +kernel
theorem dPr_storeOrLoad_59 : decode cPr_storeOrLoad 59 = .ok (.aload_n 0, 1) := by decide +kernel
theorem dPr_storeOrLoad_60 : decode cPr_storeOrLoad 60 = .ok (.getfield 9, 3) := by decide +kernel
theorem dPr_storeOrLoad_63 : decode cPr_storeOrLoad 63 = .ok (.iload_n 1, 1) := by decide +kernel
theorem dPr_storeOrLoad_64 : decode cPr_storeOrLoad 64 = .ok (.bipush 7, 2) := by decide +kernel
theorem dPr_storeOrLoad_66 : decode cPr_storeOrLoad 66 = .ok (.iand, 1) := by decide +kernel
theorem dPr_storeOrLoad_67 : decode cPr_storeOrLoad 67 = .ok (.iaload, 1) := by decide +kernel
theorem dPr_storeOrLoad_68 : decode cPr_storeOrLoad 68 = .ok (.iastore, 1) := by decide +kernel
theorem dPr_storeOrLoad_69 : decode cPr_storeOrLoad 69 = .ok (.goto 20, 3) := by decide +kernel
theorem dPr_storeOrLoad_72 : decode cPr_storeOrLoad 72 = .ok (.aload_n 0, 1) := by decide +kernel
theorem dPr_storeOrLoad_73 : decode cPr_storeOrLoad 73 = .ok (.getfield 9, 3) := by decide +kernel
theorem dPr_storeOrLoad_76 : decode cPr_storeOrLoad 76 = .ok (.iload_n 1, 1) := by decide +kernel
theorem dPr_storeOrLoad_77 : decode cPr_storeOrLoad 77 = .ok (.bipush 7, 2) := by decide +kernel
theorem dPr_storeOrLoad_79 : decode cPr_storeOrLoad 79 = .ok (.iand, 1) := by decide +kernel
theorem dPr_storeOrLoad_80 : decode cPr_storeOrLoad 80 = .ok (.aload_n 0, 1) := by decide +kernel
theorem dPr_storeOrLoad_81 : decode cPr_storeOrLoad 81 = .ok (.getfield 15, 3) := by decide +kernel
theorem dPr_storeOrLoad_84 : decode cPr_storeOrLoad 84 = .ok (.iload_n 2, 1) := by decide +kernel
theorem dPr_storeOrLoad_85 : decode cPr_storeOrLoad 85 = .ok (.iconst 4, 1) := by decide +kernel
theorem dPr_storeOrLoad_86 : decode cPr_storeOrLoad 86 = .ok (.idiv, 1) := by decide +kernel
theorem dPr_storeOrLoad_87 : decode cPr_storeOrLoad 87 = .ok (.iaload, 1) := by decide +kernel
theorem dPr_storeOrLoad_88 : decode cPr_storeOrLoad 88 = .ok (.iastore, 1) := by decide +kernel
theorem dPr_storeOrLoad_89 : decode cPr_storeOrLoad 89 = .ok (.aload_n 0, 1) := by decide +kernel
theorem dPr_storeOrLoad_90 : decode cPr_storeOrLoad 90 = .ok (.invokevirtual 69, 3) := by decide +kernel
theorem dPr_storeOrLoad_93 : decode cPr_storeOrLoad 93 = .ok (.ireturn, 1) := by decide +kernel
theorem dPr_branchIf_0 : decode cPr_branchIf 0 = .ok (.iload_n 1, 1) := by decide +kernel
theorem dPr_branchIf_1 : decode cPr_branchIf 1 = .ok (.bipush 8, 2) := by decide +kernel
theorem dPr_branchIf_3 : decode cPr_branchIf 3 = .ok (.ishr, 1) := by decide +kernel
theorem dPr_branchIf_4 : decode cPr_branchIf 4 = .ok (.bipush 15, 2) := by decide +kernel
theorem dPr_branchIf_6 : decode cPr_branchIf 6 = .ok (.iand, 1) := by decide +kernel
theorem dPr_branchIf_7 : decode cPr_branchIf 7 = .ok (.istore_n 2, 1) := by decide +kernel
theorem dPr_branchIf_8 : decode cPr_branchIf 8 = .ok (.iload_n 2, 1) := by decide +kernel
theorem dPr_branchIf_9 : decode cPr_branchIf 9 = .ok (.invokestatic 89, 3) := by decide +kernel
theorem dPr_branchIf_12 : decode cPr_branchIf 12 = .ok (.ifCond .ne 5, 3) := by decide +kernel
theorem dPr_branchIf_15 : decode cPr_branchIf 15 = .ok (.iconst 2, 1) := by decide +kernel
theorem dPr_branchIf_16 : decode cPr_branchIf 16 = .ok (.ireturn, 1) := by decide +kernel
theorem dPr_branchIf_17 : decode cPr_branchIf 17 = .ok (.aload_n 0, 1) := by decide +kernel
theorem dPr_branchIf_18 : decode cPr_branchIf 18 = .ok (.iload_n 2, 1) := by decide +kernel
theorem dPr_branchIf_19 : decode cPr_branchIf 19 = .ok (.invokevirtual 94, 3) := by decide +kernel
theorem dPr_branchIf_22 : decode cPr_branchIf 22 = .ok (.ifCond .eq 12, 3) := by decide +kernel
theorem dPr_branchIf_25 : decode cPr_branchIf 25 = .ok (.aload_n 0, 1) := by decide +kernel
theorem dPr_branchIf_26 : decode cPr_branchIf 26 = .ok (.iload_n 1, 1) := by decide +kernel
theorem dPr_branchIf_27 : decode cPr_branchIf 27 = .ok (.i2b, 1) := by decide +kernel
theorem dPr_branchIf_28 : decode cPr_branchIf 28 = .ok (.invokevirtual 86, 3) := by decide +kernel
theorem dPr_branchIf_31 : decode cPr_branchIf 31 = .ok (.goto 7, 3) := by decide +kernel
theorem dPr_branchIf_34 : decode cPr_branchIf 34 = .ok (.aload_n 0, 1) := by decide +kernel
theorem dPr_branchIf_35 : decode cPr_branchIf 35 = .ok (.invokevirtual 69, 3) := by decide +kernel
theorem dPr_branchIf_38 : decode cPr_branchIf 38 = .ok (.ireturn, 1) := by decide +kernel
theorem dPr_holds_0 : decode cPr_holds 0 = .ok (.iload_n 1, 1) := by decide +kernel
theorem dPr_holds_1 : decode cPr_holds 1 = .ok (.iconst 2, 1) := by decide +kernel
theorem dPr_holds_2 : decode cPr_holds 2 = .ok (.irem, 1) := by decide +kernel
theorem dPr_holds_3 : decode cPr_holds 3 = .ok (.iconst 1, 1) := by decide +kernel
theorem dPr_holds_4 : decode cPr_holds 4 = .ok (.if_icmp .ne 7, 3) := by decide +kernel
theorem dPr_holds_7 : decode cPr_holds 7 = .ok (.iconst 1, 1) := by decide +kernel
theorem dPr_holds_8 : decode cPr_holds 8 = .ok (.goto 4, 3) := by decide +kernel
theorem dPr_holds_11 : decode cPr_holds 11 = .ok (.iconst 0, 1) := by decide +kernel
theorem dPr_holds_12 : decode cPr_holds 12 = .ok (.istore_n 2, 1) := by decide +kernel
theorem dPr_holds_13 : decode cPr_holds 13 = .ok (.iload_n 1, 1) := by decide +kernel
theorem dPr_holds_14 : decode cPr_holds 14 = .ok (.iconst 2, 1) := by decide +kernel
theorem dPr_holds_15 : decode cPr_holds 15 = .ok (.idiv, 1) := by decide +kernel
theorem dPr_holds_16 : decode cPr_holds 16 = .ok (.tableswitch 108 0 5 #[40, 54, 68, 108, 108, 82], 40) := by decide +kernel
theorem dPr_holds_56 : decode cPr_holds 56 = .ok (.aload_n 0, 1) := by decide +kernel
theorem dPr_holds_57 : decode cPr_holds 57 = .ok (.getfield 39, 3) := by decide +kernel
theorem dPr_holds_60 : decode cPr_holds 60 = .ok (.iload_n 2, 1) := by decide +kernel
theorem dPr_holds_61 : decode cPr_holds 61 = .ok (.if_icmp .eq 7, 3) := by decide +kernel
theorem dPr_holds_64 : decode cPr_holds 64 = .ok (.iconst 1, 1) := by decide +kernel
theorem dPr_holds_65 : decode cPr_holds 65 = .ok (.goto 4, 3) := by decide +kernel
theorem dPr_holds_68 : decode cPr_holds 68 = .ok (.iconst 0, 1) := by decide +kernel
theorem dPr_holds_69 : decode cPr_holds 69 = .ok (.ireturn, 1) := by decide +kernel
theorem dPr_holds_70 : decode cPr_holds 70 = .ok (.aload_n 0, 1) := by decide +kernel
theorem dPr_holds_71 : decode cPr_holds 71 = .ok (.getfield 42, 3) := by decide +kernel
theorem dPr_holds_74 : decode cPr_holds 74 = .ok (.iload_n 2, 1) := by decide +kernel
theorem dPr_holds_75 : decode cPr_holds 75 = .ok (.if_icmp .eq 7, 3) := by decide +kernel
theorem dPr_holds_78 : decode cPr_holds 78 = .ok (.iconst 1, 1) := by decide +kernel
theorem dPr_holds_79 : decode cPr_holds 79 = .ok (.goto 4, 3) := by decide +kernel
theorem dPr_holds_82 : decode cPr_holds 82 = .ok (.iconst 0, 1) := by decide +kernel
theorem dPr_holds_83 : decode cPr_holds 83 = .ok (.ireturn, 1) := by decide +kernel
theorem dPr_holds_84 : decode cPr_holds 84 = .ok (.aload_n 0, 1) := by decide +kernel
theorem dPr_holds_85 : decode cPr_holds 85 = .ok (.getfield 35, 3) := by decide +kernel
theorem dPr_holds_88 : decode cPr_holds 88 = .ok (.iload_n 2, 1) := by decide +kernel
theorem dPr_holds_89 : decode cPr_holds 89 = .ok (.if_icmp .eq 7, 3) := by decide +kernel
theorem dPr_holds_92 : decode cPr_holds 92 = .ok (.iconst 1, 1) := by decide +kernel
theorem dPr_holds_93 : decode cPr_holds 93 = .ok (.goto 4, 3) := by decide +kernel
theorem dPr_holds_96 : decode cPr_holds 96 = .ok (.iconst 0, 1) := by decide +kernel
theorem dPr_holds_97 : decode cPr_holds 97 = .ok (.ireturn, 1) := by decide +kernel
theorem dPr_holds_98 : decode cPr_holds 98 = .ok (.aload_n 0, 1) := by decide +kernel
theorem dPr_holds_99 : decode cPr_holds 99 = .ok (.getfield 35, 3) := by decide +kernel
theorem dPr_holds_102 : decode cPr_holds 102 = .ok (.aload_n 0, 1) := by decide +kernel
theorem dPr_holds_103 : decode cPr_holds 103 = .ok (.getfield 45, 3) := by decide +kernel
theorem dPr_holds_106 : decode cPr_holds 106 = .ok (.if_icmp .ne 7, 3) := by decide +kernel
theorem dPr_holds_109 : decode cPr_holds 109 = .ok (.iconst 1, 1) := by decide +kernel
theorem dPr_holds_110 : decode cPr_holds 110 = .ok (.goto 4, 3) := by decide +kernel
theorem dPr_holds_113 : decode cPr_holds 113 = .ok (.iconst 0, 1) := by decide +kernel
theorem dPr_holds_114 : decode cPr_holds 114 = .ok (.iload_n 2, 1) := by decide +kernel
theorem dPr_holds_115 : decode cPr_holds 115 = .ok (.if_icmp .eq 7, 3) := by decide +kernel
theorem dPr_holds_118 : decode cPr_holds 118 = .ok (.iconst 1, 1) := by decide +kernel
theorem dPr_holds_119 : decode cPr_holds 119 = .ok (.goto 4, 3) := by decide +kernel
theorem dPr_holds_122 : decode cPr_holds 122 = .ok (.iconst 0, 1) := by decide +kernel
theorem dPr_holds_123 : decode cPr_holds 123 = .ok (.ireturn, 1) := by decide +kernel
theorem dPr_holds_124 : decode cPr_holds 124 = .ok (.aload_n 0, 1) := by decide +kernel
theorem dPr_holds_125 : decode cPr_holds 125 = .ok (.getfield 39, 3) := by decide +kernel
theorem dPr_holds_128 : decode cPr_holds 128 = .ok (.ifCond .ne 18, 3) := by decide +kernel
theorem dPr_holds_131 : decode cPr_holds 131 = .ok (.aload_n 0, 1) := by decide +kernel
theorem dPr_holds_132 : decode cPr_holds 132 = .ok (.getfield 35, 3) := by decide +kernel
theorem dPr_holds_135 : decode cPr_holds 135 = .ok (.aload_n 0, 1) := by decide +kernel
theorem dPr_holds_136 : decode cPr_holds 136 = .ok (.getfield 45, 3) := by decide +kernel
theorem dPr_holds_139 : decode cPr_holds 139 = .ok (.if_icmp .ne 7, 3) := by decide +kernel
theorem dPr_holds_142 : decode cPr_holds 142 = .ok (.iconst 1, 1) := by decide +kernel
theorem dPr_holds_143 : decode cPr_holds 143 = .ok (.goto 4, 3) := by decide +kernel
theorem dPr_holds_146 : decode cPr_holds 146 = .ok (.iconst 0, 1) := by decide +kernel
theorem dPr_holds_147 : decode cPr_holds 147 = .ok (.iload_n 2, 1) := by decide +kernel
theorem dPr_holds_148 : decode cPr_holds 148 = .ok (.if_icmp .eq 7, 3) := by decide +kernel
theorem dPr_holds_151 : decode cPr_holds 151 = .ok (.iconst 1, 1) := by decide +kernel
theorem dPr_holds_152 : decode cPr_holds 152 = .ok (.goto 4, 3) := by decide +kernel
theorem dPr_holds_155 : decode cPr_holds 155 = .ok (.iconst 0, 1) := by decide +kernel
theorem dPr_holds_156 : decode cPr_holds 156 = .ok (.ireturn, 1) := by decide +kernel
theorem dPr_branch_0 : decode cPr_branch 0 = .ok (.aload_n 0, 1) := by decide +kernel
theorem dPr_branch_1 : decode cPr_branch 1 = .ok (.dup, 1) := by decide +kernel
theorem dPr_branch_2 : decode cPr_branch 2 = .ok (.getfield 28, 3) := by decide +kernel
theorem dPr_branch_5 : decode cPr_branch 5 = .ok (.iconst 4, 1) := by decide +kernel
theorem dPr_branch_6 : decode cPr_branch 6 = .ok (.iconst 2, 1) := by decide +kernel
theorem dPr_branch_7 : decode cPr_branch 7 = .ok (.iload_n 1, 1) := by decide +kernel
theorem dPr_branch_8 : decode cPr_branch 8 = .ok (.imul, 1) := by decide +kernel
theorem dPr_branch_9 : decode cPr_branch 9 = .ok (.iadd, 1) := by decide +kernel
theorem dPr_branch_10 : decode cPr_branch 10 = .ok (.iadd, 1) := by decide +kernel
theorem dPr_branch_11 : decode cPr_branch 11 = .ok (.putfield 28, 3) := by decide +kernel
theorem dPr_branch_14 : decode cPr_branch 14 = .ok (.iconst 0, 1) := by decide +kernel
theorem dPr_branch_15 : decode cPr_branch 15 = .ok (.ireturn, 1) := by decide +kernel
theorem dPr_flags_0 : decode cPr_flags 0 = .ok (.aload_n 0, 1) := by decide +kernel
theorem dPr_flags_1 : decode cPr_flags 1 = .ok (.getfield 35, 3) := by decide +kernel
theorem dPr_flags_4 : decode cPr_flags 4 = .ok (.ifCond .eq 8, 3) := by decide +kernel
theorem dPr_flags_7 : decode cPr_flags 7 = .ok (.bipush 8, 2) := by decide +kernel
theorem dPr_flags_9 : decode cPr_flags 9 = .ok (.goto 4, 3) := by decide +kernel
theorem dPr_flags_12 : decode cPr_flags 12 = .ok (.iconst 0, 1) := by decide +kernel
theorem dPr_flags_13 : decode cPr_flags 13 = .ok (.aload_n 0, 1) := by decide +kernel
theorem dPr_flags_14 : decode cPr_flags 14 = .ok (.getfield 39, 3) := by decide +kernel
theorem dPr_flags_17 : decode cPr_flags 17 = .ok (.ifCond .eq 7, 3) := by decide +kernel
theorem dPr_flags_20 : decode cPr_flags 20 = .ok (.iconst 4, 1) := by decide +kernel
theorem dPr_flags_21 : decode cPr_flags 21 = .ok (.goto 4, 3) := by decide +kernel
theorem dPr_flags_24 : decode cPr_flags 24 = .ok (.iconst 0, 1) := by decide +kernel
theorem dPr_flags_25 : decode cPr_flags 25 = .ok (.iadd, 1) := by decide +kernel
theorem dPr_flags_26 : decode cPr_flags 26 = .ok (.aload_n 0, 1) := by decide +kernel
theorem dPr_flags_27 : decode cPr_flags 27 = .ok (.getfield 42, 3) := by decide +kernel
theorem dPr_flags_30 : decode cPr_flags 30 = .ok (.ifCond .eq 7, 3) := by decide +kernel
theorem dPr_flags_33 : decode cPr_flags 33 = .ok (.iconst 2, 1) := by decide +kernel
theorem dPr_flags_34 : decode cPr_flags 34 = .ok (.goto 4, 3) := by decide +kernel
theorem dPr_flags_37 : decode cPr_flags 37 = .ok (.iconst 0, 1) := by decide +kernel
theorem dPr_flags_38 : decode cPr_flags 38 = .ok (.iadd, 1) := by decide +kernel
theorem dPr_flags_39 : decode cPr_flags 39 = .ok (.aload_n 0, 1) := by decide +kernel
theorem dPr_flags_40 : decode cPr_flags 40 = .ok (.getfield 45, 3) := by decide +kernel
theorem dPr_flags_43 : decode cPr_flags 43 = .ok (.ifCond .eq 7, 3) := by decide +kernel
theorem dPr_flags_46 : decode cPr_flags 46 = .ok (.iconst 1, 1) := by decide +kernel
theorem dPr_flags_47 : decode cPr_flags 47 = .ok (.goto 4, 3) := by decide +kernel
theorem dPr_flags_50 : decode cPr_flags 50 = .ok (.iconst 0, 1) := by decide +kernel
theorem dPr_flags_51 : decode cPr_flags 51 = .ok (.iadd, 1) := by decide +kernel
theorem dPr_flags_52 : decode cPr_flags 52 = .ok (.ireturn, 1) := by decide +kernel
