theorem dMo_init_0 : decode cMo_init 0 = .ok (.aload_n 0, 1) := by decide +kernel
theorem dMo_init_1 : decode cMo_init 1 = .ok (.invokespecial 1, 3) := by decide +kernel
theorem dMo_init_4 : decode cMo_init 4 = .ok (.aload_n 0, 1) := by decide +kernel
theorem dMo_init_5 : decode cMo_init 5 = .ok (.sipush 160, 3) := by decide +kernel
theorem dMo_init_8 : decode cMo_init 8 = .ok (.newarray .int, 2) := by decide +kernel
theorem dMo_init_10 : decode cMo_init 10 = .ok (.putfield 7, 3) := by decide +kernel
theorem dMo_init_13 : decode cMo_init 13 = .ok (.aload_n 0, 1) := by decide +kernel
theorem dMo_init_14 : decode cMo_init 14 = .ok (.sipush 160, 3) := by decide +kernel
theorem dMo_init_17 : decode cMo_init 17 = .ok (.newarray .int, 2) := by decide +kernel
theorem dMo_init_19 : decode cMo_init 19 = .ok (.putfield 13, 3) := by decide +kernel
theorem dMo_init_22 : decode cMo_init 22 = .ok (.aload_n 0, 1) := by decide +kernel
theorem dMo_init_23 : decode cMo_init 23 = .ok (.sipush 160, 3) := by decide +kernel
theorem dMo_init_26 : decode cMo_init 26 = .ok (.newarray .int, 2) := by decide +kernel
theorem dMo_init_28 : decode cMo_init 28 = .ok (.putfield 16, 3) := by decide +kernel
theorem dMo_init_31 : decode cMo_init 31 = .ok (.aload_n 0, 1) := by decide +kernel
theorem dMo_init_32 : decode cMo_init 32 = .ok (.sipush 160, 3) := by decide +kernel
theorem dMo_init_35 : decode cMo_init 35 = .ok (.newarray .int, 2) := by decide +kernel
theorem dMo_init_37 : decode cMo_init 37 = .ok (.putfield 19, 3) := by decide +kernel
theorem dMo_init_40 : decode cMo_init 40 = .ok (.aload_n 0, 1) := by decide +kernel
theorem dMo_init_41 : decode cMo_init 41 = .ok (.sipush 160, 3) := by decide +kernel
theorem dMo_init_44 : decode cMo_init 44 = .ok (.newarray .int, 2) := by decide +kernel
theorem dMo_init_46 : decode cMo_init 46 = .ok (.putfield 22, 3) := by decide +kernel
theorem dMo_init_49 : decode cMo_init 49 = .ok (.aload_n 0, 1) := by decide +kernel
theorem dMo_init_50 : decode cMo_init 50 = .ok (.sipush 160, 3) := by decide +kernel
theorem dMo_init_53 : decode cMo_init 53 = .ok (.newarray .int, 2) := by decide +kernel
theorem dMo_init_55 : decode cMo_init 55 = .ok (.putfield 25, 3) := by decide +kernel
theorem dMo_init_58 : decode cMo_init 58 = .ok (.aload_n 0, 1) := by decide +kernel
theorem dMo_init_59 : decode cMo_init 59 = .ok (.sipush 160, 3) := by decide +kernel
theorem dMo_init_62 : decode cMo_init 62 = .ok (.newarray .int, 2) := by decide +kernel
theorem dMo_init_64 : decode cMo_init 64 = .ok (.putfield 28, 3) := by decide +kernel
theorem dMo_init_67 : decode cMo_init 67 = .ok (.aload_n 0, 1) := by decide +kernel
theorem dMo_init_68 : decode cMo_init 68 = .ok (.bipush 16, 2) := by decide +kernel
theorem dMo_init_70 : decode cMo_init 70 = .ok (.newarray .int, 2) := by decide +kernel
theorem dMo_init_72 : decode cMo_init 72 = .ok (.dup, 1) := by decide +kernel
theorem dMo_init_73 : decode cMo_init 73 = .ok (.iconst 0, 1) := by decide +kernel
theorem dMo_init_74 : decode cMo_init 74 = .ok (.iconst (-1), 1) := by decide +kernel
theorem dMo_init_75 : decode cMo_init 75 = .ok (.iastore, 1) := by decide +kernel
theorem dMo_init_76 : decode cMo_init 76 = .ok (.dup, 1) := by decide +kernel
theorem dMo_init_77 : decode cMo_init 77 = .ok (.iconst 1, 1) := by decide +kernel
theorem dMo_init_78 : decode cMo_init 78 = .ok (.iconst (-1), 1) := by decide +kernel
theorem dMo_init_79 : decode cMo_init 79 = .ok (.iastore, 1) := by decide +kernel
theorem dMo_init_80 : decode cMo_init 80 = .ok (.dup, 1) := by decide +kernel
theorem dMo_init_81 : decode cMo_init 81 = .ok (.iconst 2, 1) := by decide +kernel
theorem dMo_init_82 : decode cMo_init 82 = .ok (.iconst (-1), 1) := by decide +kernel
theorem dMo_init_83 : decode cMo_init 83 = .ok (.iastore, 1) := by decide +kernel
theorem dMo_init_84 : decode cMo_init 84 = .ok (.dup, 1) := by decide +kernel
theorem dMo_init_85 : decode cMo_init 85 = .ok (.iconst 3, 1) := by decide +kernel
theorem dMo_init_86 : decode cMo_init 86 = .ok (.iconst (-1), 1) := by decide +kernel
theorem dMo_init_87 : decode cMo_init 87 = .ok (.iastore, 1) := by decide +kernel
theorem dMo_init_88 : decode cMo_init 88 = .ok (.dup, 1) := by decide +kernel
theorem dMo_init_89 : decode cMo_init 89 = .ok (.iconst 4, 1) := by decide +kernel
theorem dMo_init_90 : decode cMo_init 90 = .ok (.iconst (-1), 1) := by decide +kernel
theorem dMo_init_91 : decode cMo_init 91 = .ok (.iastore, 1) := by decide +kernel
theorem dMo_init_92 : decode cMo_init 92 = .ok (.dup, 1) := by decide +kernel
theorem dMo_init_93 : decode cMo_init 93 = .ok (.iconst 5, 1) := by decide +kernel
theorem dMo_init_94 : decode cMo_init 94 = .ok (.iconst (-1), 1) := by decide +kernel
theorem dMo_init_95 : decode cMo_init 95 = .ok (.iastore, 1) := by decide +kernel
theorem dMo_init_96 : decode cMo_init 96 = .ok (.dup, 1) := by decide +kernel
theorem dMo_init_97 : decode cMo_init 97 = .ok (.bipush 6, 2) := by decide +kernel
theorem dMo_init_99 : decode cMo_init 99 = .ok (.iconst (-1), 1) := by decide +kernel
theorem dMo_init_100 : decode cMo_init 100 = .ok (.iastore, 1) := by decide +kernel
theorem dMo_init_101 : decode cMo_init 101 = .ok (.dup, 1) := by decide +kernel
theorem dMo_init_102 : decode cMo_init 102 = .ok (.bipush 7, 2) := by decide +kernel
theorem dMo_init_104 : decode cMo_init 104 = .ok (.iconst (-1), 1) := by decide +kernel
theorem dMo_init_105 : decode cMo_init 105 = .ok (.iastore, 1) := by decide +kernel
theorem dMo_init_106 : decode cMo_init 106 = .ok (.dup, 1) := by decide +kernel
theorem dMo_init_107 : decode cMo_init 107 = .ok (.bipush 8, 2) := by decide +kernel
theorem dMo_init_109 : decode cMo_init 109 = .ok (.iconst (-1), 1) := by decide +kernel
theorem dMo_init_110 : decode cMo_init 110 = .ok (.iastore, 1) := by decide +kernel
theorem dMo_init_111 : decode cMo_init 111 = .ok (.dup, 1) := by decide +kernel
theorem dMo_init_112 : decode cMo_init 112 = .ok (.bipush 9, 2) := by decide +kernel
theorem dMo_init_114 : decode cMo_init 114 = .ok (.iconst (-1), 1) := by decide +kernel
theorem dMo_init_115 : decode cMo_init 115 = .ok (.iastore, 1) := by decide +kernel
theorem dMo_init_116 : decode cMo_init 116 = .ok (.dup, 1) := by decide +kernel
theorem dMo_init_117 : decode cMo_init 117 = .ok (.bipush 10, 2) := by decide +kernel
theorem dMo_init_119 : decode cMo_init 119 = .ok (.iconst (-1), 1) := by decide +kernel
theorem dMo_init_120 : decode cMo_init 120 = .ok (.iastore, 1) := by decide +kernel
theorem dMo_init_121 : decode cMo_init 121 = .ok (.dup, 1) := by decide +kernel
theorem dMo_init_122 : decode cMo_init 122 = .ok (.bipush 11, 2) := by decide +kernel
theorem dMo_init_124 : decode cMo_init 124 = .ok (.iconst (-1), 1) := by decide +kernel
theorem dMo_init_125 : decode cMo_init 125 = .ok (.iastore, 1) := by decide +kernel
theorem dMo_init_126 : decode cMo_init 126 = .ok (.dup, 1) := by decide +kernel
theorem dMo_init_127 : decode cMo_init 127 = .ok (.bipush 12, 2) := by decide +kernel
theorem dMo_init_129 : decode cMo_init 129 = .ok (.iconst (-1), 1) := by decide +kernel
theorem dMo_init_130 : decode cMo_init 130 = .ok (.iastore, 1) := by decide +kernel
theorem dMo_init_131 : decode cMo_init 131 = .ok (.dup, 1) := by decide +kernel
theorem dMo_init_132 : decode cMo_init 132 = .ok (.bipush 13, 2) := by decide +kernel
theorem dMo_init_134 : decode cMo_init 134 = .ok (.iconst (-1), 1) := by decide +kernel
theorem dMo_init_135 : decode cMo_init 135 = .ok (.iastore, 1) := by decide +kernel
theorem dMo_init_136 : decode cMo_init 136 = .ok (.dup, 1) := by decide +kernel
theorem dMo_init_137 : decode cMo_init 137 = .ok (.bipush 14, 2) := by decide +kernel
theorem dMo_init_139 : decode cMo_init 139 = .ok (.iconst (-1), 1) := by decide +kernel
theorem dMo_init_140 : decode cMo_init 140 = .ok (.iastore, 1) := by decide +kernel
theorem dMo_init_141 : decode cMo_init 141 = .ok (.dup, 1) := by decide +kernel
theorem dMo_init_142 : decode cMo_init 142 = .ok (.bipush 15, 2) := by decide +kernel
theorem dMo_init_144 : decode cMo_init 144 = .ok (.iconst (-1), 1) := by decide +kernel
theorem dMo_init_145 : decode cMo_init 145 = .ok (.iastore, 1) := by decide +kernel
theorem dMo_init_146 : decode cMo_init 146 = .ok (.putfield 31, 3) := by decide +kernel
theorem dMo_init_149 : decode cMo_init 149 = .ok (.aload_n 0, 1) := by decide +kernel
theorem dMo_init_150 : decode cMo_init 150 = .ok (.iconst (-1), 1) := by decide +kernel
theorem dMo_init_151 : decode cMo_init 151 = .ok (.putfield 34, 3) := by decide +kernel
theorem dMo_init_154 : decode cMo_init 154 = .ok (.aload_n 0, 1) := by decide +kernel
theorem dMo_init_155 : decode cMo_init 155 = .ok (.sipush 7200, 3) := by decide +kernel
theorem dMo_init_158 : decode cMo_init 158 = .ok (.newarray .int, 2) := by decide +kernel
theorem dMo_init_160 : decode cMo_init 160 = .ok (.putfield 38, 3) := by decide +kernel
theorem dMo_init_163 : decode cMo_init 163 = .ok (.aload_n 0, 1) := by decide +kernel
theorem dMo_init_164 : decode cMo_init 164 = .ok (.sipush 7200, 3) := by decide +kernel
theorem dMo_init_167 : decode cMo_init 167 = .ok (.newarray .int, 2) := by decide +kernel
theorem dMo_init_169 : decode cMo_init 169 = .ok (.putfield 41, 3) := by decide +kernel
theorem dMo_init_172 : decode cMo_init 172 = .ok (.aload_n 0, 1) := by decide +kernel
theorem dMo_init_173 : decode cMo_init 173 = .ok (.bipush 8, 2) := by decide +kernel
theorem dMo_init_175 : decode cMo_init 175 = .ok (.newarray .int, 2) := by decide +kernel
theorem dMo_init_177 : decode cMo_init 177 = .ok (.putfield 44, 3) := by decide +kernel
theorem dMo_init_180 : decode cMo_init 180 = .ok (.aload_n 0, 1) := by decide +kernel
theorem dMo_init_181 : decode cMo_init 181 = .ok (.bipush 32, 2) := by decide +kernel
theorem dMo_init_183 : decode cMo_init 183 = .ok (.newarray .int, 2) := by decide +kernel
theorem dMo_init_185 : decode cMo_init 185 = .ok (.putfield 47, 3) := by decide +kernel
theorem dMo_init_188 : decode cMo_init 188 = .ok (.return_, 1) := by decide +kernel
theorem dMo_thrown_0 : decode cMo_thrown 0 = .ok (.aload_n 0, 1) := by decide +kernel
theorem dMo_thrown_1 : decode cMo_thrown 1 = .ok (.getfield 50, 3) := by decide +kernel
theorem dMo_thrown_4 : decode cMo_thrown 4 = .ok (.ireturn, 1) := by decide +kernel
theorem dMo_line_0 : decode cMo_line 0 = .ok (.aload_n 0, 1) := by decide +kernel
theorem dMo_line_1 : decode cMo_line 1 = .ok (.iload_n 1, 1) := by decide +kernel
theorem dMo_line_2 : decode cMo_line 2 = .ok (.iload_n 2, 1) := by decide +kernel
theorem dMo_line_3 : decode cMo_line 3 = .ok (.iload_n 3, 1) := by decide +kernel
theorem dMo_line_4 : decode cMo_line 4 = .ok (.iload 4, 2) := by decide +kernel
theorem dMo_line_6 : decode cMo_line 6 = .ok (.invokestatic 64, 3) := by decide +kernel
theorem dMo_line_9 : decode cMo_line 9 = .ok (.ifCond .ne 7, 3) := by decide +kernel
theorem dMo_line_12 : decode cMo_line 12 = .ok (.iconst 1, 1) := by decide +kernel
theorem dMo_line_13 : decode cMo_line 13 = .ok (.goto 32, 3) := by decide +kernel
theorem dMo_line_16 : decode cMo_line 16 = .ok (.aload_n 0, 1) := by decide +kernel
theorem dMo_line_17 : decode cMo_line 17 = .ok (.getfield 68, 3) := by decide +kernel
theorem dMo_line_20 : decode cMo_line 20 = .ok (.sipush 160, 3) := by decide +kernel
theorem dMo_line_23 : decode cMo_line 23 = .ok (.if_icmp .eq 17, 3) := by decide +kernel
theorem dMo_line_26 : decode cMo_line 26 = .ok (.iload_n 1, 1) := by decide +kernel
theorem dMo_line_27 : decode cMo_line 27 = .ok (.ifCond .ne 17, 3) := by decide +kernel
theorem dMo_line_30 : decode cMo_line 30 = .ok (.aload_n 0, 1) := by decide +kernel
theorem dMo_line_31 : decode cMo_line 31 = .ok (.getfield 31, 3) := by decide +kernel
theorem dMo_line_34 : decode cMo_line 34 = .ok (.iload_n 2, 1) := by decide +kernel
theorem dMo_line_35 : decode cMo_line 35 = .ok (.iaload, 1) := by decide +kernel
theorem dMo_line_36 : decode cMo_line 36 = .ok (.iconst (-1), 1) := by decide +kernel
theorem dMo_line_37 : decode cMo_line 37 = .ok (.if_icmp .eq 7, 3) := by decide +kernel
theorem dMo_line_40 : decode cMo_line 40 = .ok (.iconst 2, 1) := by decide +kernel
theorem dMo_line_41 : decode cMo_line 41 = .ok (.goto 4, 3) := by decide +kernel
theorem dMo_line_44 : decode cMo_line 44 = .ok (.iconst 0, 1) := by decide +kernel
theorem dMo_line_45 : decode cMo_line 45 = .ok (.putfield 50, 3) := by decide +kernel
theorem dMo_line_48 : decode cMo_line 48 = .ok (.aload_n 0, 1) := by decide +kernel
theorem dMo_line_49 : decode cMo_line 49 = .ok (.getfield 50, 3) := by decide +kernel
theorem dMo_line_52 : decode cMo_line 52 = .ok (.ifCond .le 5, 3) := by decide +kernel
theorem dMo_line_55 : decode cMo_line 55 = .ok (.iconst 0, 1) := by decide +kernel
theorem dMo_line_56 : decode cMo_line 56 = .ok (.ireturn, 1) := by decide +kernel
theorem dMo_line_57 : decode cMo_line 57 = .ok (.aload_n 0, 1) := by decide +kernel
theorem dMo_line_58 : decode cMo_line 58 = .ok (.getfield 7, 3) := by decide +kernel
theorem dMo_line_61 : decode cMo_line 61 = .ok (.aload_n 0, 1) := by decide +kernel
theorem dMo_line_62 : decode cMo_line 62 = .ok (.getfield 68, 3) := by decide +kernel
theorem dMo_line_65 : decode cMo_line 65 = .ok (.iload_n 1, 1) := by decide +kernel
theorem dMo_line_66 : decode cMo_line 66 = .ok (.iastore, 1) := by decide +kernel
theorem dMo_line_67 : decode cMo_line 67 = .ok (.aload_n 0, 1) := by decide +kernel
theorem dMo_line_68 : decode cMo_line 68 = .ok (.getfield 13, 3) := by decide +kernel
theorem dMo_line_71 : decode cMo_line 71 = .ok (.aload_n 0, 1) := by decide +kernel
theorem dMo_line_72 : decode cMo_line 72 = .ok (.getfield 68, 3) := by decide +kernel
theorem dMo_line_75 : decode cMo_line 75 = .ok (.iload_n 2, 1) := by decide +kernel
theorem dMo_line_76 : decode cMo_line 76 = .ok (.iastore, 1) := by decide +kernel
theorem dMo_line_77 : decode cMo_line 77 = .ok (.aload_n 0, 1) := by decide +kernel
theorem dMo_line_78 : decode cMo_line 78 = .ok (.getfield 16, 3) := by decide +kernel
theorem dMo_line_81 : decode cMo_line 81 = .ok (.aload_n 0, 1) := by decide +kernel
theorem dMo_line_82 : decode cMo_line 82 = .ok (.getfield 68, 3) := by decide +kernel
theorem dMo_line_85 : decode cMo_line 85 = .ok (.iload_n 3, 1) := by decide +kernel
theorem dMo_line_86 : decode cMo_line 86 = .ok (.iastore, 1) := by decide +kernel
theorem dMo_line_87 : decode cMo_line 87 = .ok (.aload_n 0, 1) := by decide +kernel
theorem dMo_line_88 : decode cMo_line 88 = .ok (.getfield 19, 3) := by decide +kernel
theorem dMo_line_91 : decode cMo_line 91 = .ok (.aload_n 0, 1) := by decide +kernel
theorem dMo_line_92 : decode cMo_line 92 = .ok (.getfield 68, 3) := by decide +kernel
theorem dMo_line_95 : decode cMo_line 95 = .ok (.iload 4, 2) := by decide +kernel
theorem dMo_line_97 : decode cMo_line 97 = .ok (.iastore, 1) := by decide +kernel
theorem dMo_line_98 : decode cMo_line 98 = .ok (.iload_n 1, 1) := by decide +kernel
theorem dMo_line_99 : decode cMo_line 99 = .ok (.ifCond .ne 13, 3) := by decide +kernel
theorem dMo_line_102 : decode cMo_line 102 = .ok (.aload_n 0, 1) := by decide +kernel
theorem dMo_line_103 : decode cMo_line 103 = .ok (.getfield 31, 3) := by decide +kernel
theorem dMo_line_106 : decode cMo_line 106 = .ok (.iload_n 2, 1) := by decide +kernel
theorem dMo_line_107 : decode cMo_line 107 = .ok (.aload_n 0, 1) := by decide +kernel
theorem dMo_line_108 : decode cMo_line 108 = .ok (.getfield 68, 3) := by decide +kernel
theorem dMo_line_111 : decode cMo_line 111 = .ok (.iastore, 1) := by decide +kernel
theorem dMo_line_112 : decode cMo_line 112 = .ok (.aload_n 0, 1) := by decide +kernel
theorem dMo_line_113 : decode cMo_line 113 = .ok (.dup, 1) := by decide +kernel
theorem dMo_line_114 : decode cMo_line 114 = .ok (.getfield 68, 3) := by decide +kernel
theorem dMo_line_117 : decode cMo_line 117 = .ok (.iconst 1, 1) := by decide +kernel
theorem dMo_line_118 : decode cMo_line 118 = .ok (.iadd, 1) := by decide +kernel
theorem dMo_line_119 : decode cMo_line 119 = .ok (.putfield 68, 3) := by decide +kernel
theorem dMo_line_122 : decode cMo_line 122 = .ok (.aload_n 0, 1) := by decide +kernel
theorem dMo_line_123 : decode cMo_line 123 = .ok (.getfield 68, 3) := by decide +kernel
theorem dMo_line_126 : decode cMo_line 126 = .ok (.iconst 1, 1) := by decide +kernel
theorem dMo_line_127 : decode cMo_line 127 = .ok (.isub, 1) := by decide +kernel
theorem dMo_line_128 : decode cMo_line 128 = .ok (.ireturn, 1) := by decide +kernel
theorem dMo_fits_0 : decode cMo_fits 0 = .ok (.iload_n 1, 1) := by decide +kernel
theorem dMo_fits_1 : decode cMo_fits 1 = .ok (.iconst 0, 1) := by decide +kernel
theorem dMo_fits_2 : decode cMo_fits 2 = .ok (.bipush 7, 2) := by decide +kernel
theorem dMo_fits_4 : decode cMo_fits 4 = .ok (.invokestatic 53, 3) := by decide +kernel
theorem dMo_fits_7 : decode cMo_fits 7 = .ok (.ifCond .ne 7, 3) := by decide +kernel
theorem dMo_fits_10 : decode cMo_fits 10 = .ok (.iconst 1, 1) := by decide +kernel
theorem dMo_fits_11 : decode cMo_fits 11 = .ok (.goto 4, 3) := by decide +kernel
theorem dMo_fits_14 : decode cMo_fits 14 = .ok (.iconst 0, 1) := by decide +kernel
theorem dMo_fits_15 : decode cMo_fits 15 = .ok (.istore 4, 2) := by decide +kernel
theorem dMo_fits_17 : decode cMo_fits 17 = .ok (.iload_n 2, 1) := by decide +kernel
theorem dMo_fits_18 : decode cMo_fits 18 = .ok (.iconst 0, 1) := by decide +kernel
theorem dMo_fits_19 : decode cMo_fits 19 = .ok (.bipush 7, 2) := by decide +kernel
theorem dMo_fits_21 : decode cMo_fits 21 = .ok (.invokestatic 53, 3) := by decide +kernel
theorem dMo_fits_24 : decode cMo_fits 24 = .ok (.ifCond .ne 7, 3) := by decide +kernel
theorem dMo_fits_27 : decode cMo_fits 27 = .ok (.iconst 1, 1) := by decide +kernel
theorem dMo_fits_28 : decode cMo_fits 28 = .ok (.goto 4, 3) := by decide +kernel
theorem dMo_fits_31 : decode cMo_fits 31 = .ok (.iconst 0, 1) := by decide +kernel
theorem dMo_fits_32 : decode cMo_fits 32 = .ok (.istore 5, 2) := by decide +kernel
theorem dMo_fits_34 : decode cMo_fits 34 = .ok (.iload_n 0, 1) := by decide +kernel
theorem dMo_fits_35 : decode cMo_fits 35 = .ok (.ifCond .eq 9, 3) := by decide +kernel
theorem dMo_fits_38 : decode cMo_fits 38 = .ok (.iload_n 0, 1) := by decide +kernel
theorem dMo_fits_39 : decode cMo_fits 39 = .ok (.bipush 11, 2) := by decide +kernel
theorem dMo_fits_41 : decode cMo_fits 41 = .ok (.if_icmp .ne 19, 3) := by decide +kernel
theorem dMo_fits_44 : decode cMo_fits 44 = .ok (.iload_n 1, 1) := by decide +kernel
theorem dMo_fits_45 : decode cMo_fits 45 = .ok (.iconst 0, 1) := by decide +kernel
theorem dMo_fits_46 : decode cMo_fits 46 = .ok (.bipush 15, 2) := by decide +kernel
theorem dMo_fits_48 : decode cMo_fits 48 = .ok (.invokestatic 53, 3) := by decide +kernel
theorem dMo_fits_51 : decode cMo_fits 51 = .ok (.ifCond .ne 7, 3) := by decide +kernel
theorem dMo_fits_54 : decode cMo_fits 54 = .ok (.iconst 1, 1) := by decide +kernel
theorem dMo_fits_55 : decode cMo_fits 55 = .ok (.goto 4, 3) := by decide +kernel
theorem dMo_fits_58 : decode cMo_fits 58 = .ok (.iconst 0, 1) := by decide +kernel
theorem dMo_fits_59 : decode cMo_fits 59 = .ok (.ireturn, 1) := by decide +kernel
theorem dMo_fits_60 : decode cMo_fits 60 = .ok (.iload_n 0, 1) := by decide +kernel
theorem dMo_fits_61 : decode cMo_fits 61 = .ok (.iconst 1, 1) := by decide +kernel
theorem dMo_fits_62 : decode cMo_fits 62 = .ok (.if_icmp .lt 30, 3) := by decide +kernel
theorem dMo_fits_65 : decode cMo_fits 65 = .ok (.iload_n 0, 1) := by decide +kernel
theorem dMo_fits_66 : decode cMo_fits 66 = .ok (.iconst 4, 1) := by decide +kernel
theorem dMo_fits_67 : decode cMo_fits 67 = .ok (.if_icmp .gt 25, 3) := by decide +kernel
theorem dMo_fits_70 : decode cMo_fits 70 = .ok (.iload 4, 2) := by decide +kernel
theorem dMo_fits_72 : decode cMo_fits 72 = .ok (.ifCond .eq 18, 3) := by decide +kernel
theorem dMo_fits_75 : decode cMo_fits 75 = .ok (.iload_n 2, 1) := by decide +kernel
theorem dMo_fits_76 : decode cMo_fits 76 = .ok (.iconst 0, 1) := by decide +kernel
theorem dMo_fits_77 : decode cMo_fits 77 = .ok (.sipush 255, 3) := by decide +kernel
theorem dMo_fits_80 : decode cMo_fits 80 = .ok (.invokestatic 53, 3) := by decide +kernel
theorem dMo_fits_83 : decode cMo_fits 83 = .ok (.ifCond .ne 7, 3) := by decide +kernel
theorem dMo_fits_86 : decode cMo_fits 86 = .ok (.iconst 1, 1) := by decide +kernel
theorem dMo_fits_87 : decode cMo_fits 87 = .ok (.goto 4, 3) := by decide +kernel
theorem dMo_fits_90 : decode cMo_fits 90 = .ok (.iconst 0, 1) := by decide +kernel
theorem dMo_fits_91 : decode cMo_fits 91 = .ok (.ireturn, 1) := by decide +kernel
theorem dMo_fits_92 : decode cMo_fits 92 = .ok (.iload_n 0, 1) := by decide +kernel
theorem dMo_fits_93 : decode cMo_fits 93 = .ok (.iconst 5, 1) := by decide +kernel
theorem dMo_fits_94 : decode cMo_fits 94 = .ok (.if_icmp .eq 9, 3) := by decide +kernel
theorem dMo_fits_97 : decode cMo_fits 97 = .ok (.iload_n 0, 1) := by decide +kernel
theorem dMo_fits_98 : decode cMo_fits 98 = .ok (.bipush 6, 2) := by decide +kernel
theorem dMo_fits_100 : decode cMo_fits 100 = .ok (.if_icmp .ne 29, 3) := by decide +kernel
theorem dMo_fits_103 : decode cMo_fits 103 = .ok (.iload 4, 2) := by decide +kernel
theorem dMo_fits_105 : decode cMo_fits 105 = .ok (.ifCond .eq 22, 3) := by decide +kernel
theorem dMo_fits_108 : decode cMo_fits 108 = .ok (.iload 5, 2) := by decide +kernel
theorem dMo_fits_110 : decode cMo_fits 110 = .ok (.ifCond .eq 17, 3) := by decide +kernel
theorem dMo_fits_113 : decode cMo_fits 113 = .ok (.iload_n 3, 1) := by decide +kernel
theorem dMo_fits_114 : decode cMo_fits 114 = .ok (.iconst 0, 1) := by decide +kernel
theorem dMo_fits_115 : decode cMo_fits 115 = .ok (.bipush 7, 2) := by decide +kernel
theorem dMo_fits_117 : decode cMo_fits 117 = .ok (.invokestatic 53, 3) := by decide +kernel
theorem dMo_fits_120 : decode cMo_fits 120 = .ok (.ifCond .ne 7, 3) := by decide +kernel
theorem dMo_fits_123 : decode cMo_fits 123 = .ok (.iconst 1, 1) := by decide +kernel
theorem dMo_fits_124 : decode cMo_fits 124 = .ok (.goto 4, 3) := by decide +kernel
theorem dMo_fits_127 : decode cMo_fits 127 = .ok (.iconst 0, 1) := by decide +kernel
theorem dMo_fits_128 : decode cMo_fits 128 = .ok (.ireturn, 1) := by decide +kernel
theorem dMo_fits_129 : decode cMo_fits 129 = .ok (.iload_n 0, 1) := by decide +kernel
theorem dMo_fits_130 : decode cMo_fits 130 = .ok (.bipush 7, 2) := by decide +kernel
theorem dMo_fits_132 : decode cMo_fits 132 = .ok (.if_icmp .ne 26, 3) := by decide +kernel
theorem dMo_fits_135 : decode cMo_fits 135 = .ok (.iload 4, 2) := by decide +kernel
theorem dMo_fits_137 : decode cMo_fits 137 = .ok (.ifCond .eq 19, 3) := by decide +kernel
theorem dMo_fits_140 : decode cMo_fits 140 = .ok (.iload 5, 2) := by decide +kernel
theorem dMo_fits_142 : decode cMo_fits 142 = .ok (.ifCond .eq 14, 3) := by decide +kernel
theorem dMo_fits_145 : decode cMo_fits 145 = .ok (.iload_n 3, 1) := by decide +kernel
theorem dMo_fits_146 : decode cMo_fits 146 = .ok (.invokestatic 57, 3) := by decide +kernel
theorem dMo_fits_149 : decode cMo_fits 149 = .ok (.ifCond .eq 7, 3) := by decide +kernel
theorem dMo_fits_152 : decode cMo_fits 152 = .ok (.iconst 1, 1) := by decide +kernel
theorem dMo_fits_153 : decode cMo_fits 153 = .ok (.goto 4, 3) := by decide +kernel
theorem dMo_fits_156 : decode cMo_fits 156 = .ok (.iconst 0, 1) := by decide +kernel
theorem dMo_fits_157 : decode cMo_fits 157 = .ok (.ireturn, 1) := by decide +kernel
theorem dMo_fits_158 : decode cMo_fits 158 = .ok (.iload_n 0, 1) := by decide +kernel
theorem dMo_fits_159 : decode cMo_fits 159 = .ok (.bipush 8, 2) := by decide +kernel
theorem dMo_fits_161 : decode cMo_fits 161 = .ok (.if_icmp .eq 9, 3) := by decide +kernel
theorem dMo_fits_164 : decode cMo_fits 164 = .ok (.iload_n 0, 1) := by decide +kernel
theorem dMo_fits_165 : decode cMo_fits 165 = .ok (.bipush 9, 2) := by decide +kernel
theorem dMo_fits_167 : decode cMo_fits 167 = .ok (.if_icmp .ne 29, 3) := by decide +kernel
theorem dMo_fits_170 : decode cMo_fits 170 = .ok (.iload 4, 2) := by decide +kernel
theorem dMo_fits_172 : decode cMo_fits 172 = .ok (.ifCond .eq 22, 3) := by decide +kernel
theorem dMo_fits_175 : decode cMo_fits 175 = .ok (.iload 5, 2) := by decide +kernel
theorem dMo_fits_177 : decode cMo_fits 177 = .ok (.ifCond .eq 17, 3) := by decide +kernel
theorem dMo_fits_180 : decode cMo_fits 180 = .ok (.iload_n 3, 1) := by decide +kernel
theorem dMo_fits_181 : decode cMo_fits 181 = .ok (.iconst 0, 1) := by decide +kernel
theorem dMo_fits_182 : decode cMo_fits 182 = .ok (.bipush 31, 2) := by decide +kernel
theorem dMo_fits_184 : decode cMo_fits 184 = .ok (.invokestatic 53, 3) := by decide +kernel
theorem dMo_fits_187 : decode cMo_fits 187 = .ok (.ifCond .ne 7, 3) := by decide +kernel
theorem dMo_fits_190 : decode cMo_fits 190 = .ok (.iconst 1, 1) := by decide +kernel
theorem dMo_fits_191 : decode cMo_fits 191 = .ok (.goto 4, 3) := by decide +kernel
theorem dMo_fits_194 : decode cMo_fits 194 = .ok (.iconst 0, 1) := by decide +kernel
theorem dMo_fits_195 : decode cMo_fits 195 = .ok (.ireturn, 1) := by decide +kernel
theorem dMo_fits_196 : decode cMo_fits 196 = .ok (.iload_n 0, 1) := by decide +kernel
theorem dMo_fits_197 : decode cMo_fits 197 = .ok (.bipush 10, 2) := by decide +kernel
theorem dMo_fits_199 : decode cMo_fits 199 = .ok (.if_icmp .ne 6, 3) := by decide +kernel
theorem dMo_fits_202 : decode cMo_fits 202 = .ok (.iload 4, 2) := by decide +kernel
theorem dMo_fits_204 : decode cMo_fits 204 = .ok (.ireturn, 1) := by decide +kernel
theorem dMo_fits_205 : decode cMo_fits 205 = .ok (.iload_n 0, 1) := by decide +kernel
theorem dMo_fits_206 : decode cMo_fits 206 = .ok (.bipush 12, 2) := by decide +kernel
theorem dMo_fits_208 : decode cMo_fits 208 = .ok (.if_icmp .ne 26, 3) := by decide +kernel
theorem dMo_fits_211 : decode cMo_fits 211 = .ok (.iload_n 1, 1) := by decide +kernel
theorem dMo_fits_212 : decode cMo_fits 212 = .ok (.iconst 0, 1) := by decide +kernel
theorem dMo_fits_213 : decode cMo_fits 213 = .ok (.bipush 15, 2) := by decide +kernel
theorem dMo_fits_215 : decode cMo_fits 215 = .ok (.invokestatic 53, 3) := by decide +kernel
theorem dMo_fits_218 : decode cMo_fits 218 = .ok (.ifCond .ne 14, 3) := by decide +kernel
theorem dMo_fits_221 : decode cMo_fits 221 = .ok (.iload_n 3, 1) := by decide +kernel
theorem dMo_fits_222 : decode cMo_fits 222 = .ok (.invokestatic 61, 3) := by decide +kernel
theorem dMo_fits_225 : decode cMo_fits 225 = .ok (.ifCond .eq 7, 3) := by decide +kernel
theorem dMo_fits_228 : decode cMo_fits 228 = .ok (.iconst 1, 1) := by decide +kernel
theorem dMo_fits_229 : decode cMo_fits 229 = .ok (.goto 4, 3) := by decide +kernel
theorem dMo_fits_232 : decode cMo_fits 232 = .ok (.iconst 0, 1) := by decide +kernel
theorem dMo_fits_233 : decode cMo_fits 233 = .ok (.ireturn, 1) := by decide +kernel
theorem dMo_fits_234 : decode cMo_fits 234 = .ok (.iload_n 0, 1) := by decide +kernel
theorem dMo_fits_235 : decode cMo_fits 235 = .ok (.bipush 13, 2) := by decide +kernel
theorem dMo_fits_237 : decode cMo_fits 237 = .ok (.if_icmp .ne 19, 3) := by decide +kernel
theorem dMo_fits_240 : decode cMo_fits 240 = .ok (.iload_n 1, 1) := by decide +kernel
theorem dMo_fits_241 : decode cMo_fits 241 = .ok (.iconst 1, 1) := by decide +kernel
theorem dMo_fits_242 : decode cMo_fits 242 = .ok (.bipush 40, 2) := by decide +kernel
theorem dMo_fits_244 : decode cMo_fits 244 = .ok (.invokestatic 53, 3) := by decide +kernel
theorem dMo_fits_247 : decode cMo_fits 247 = .ok (.ifCond .ne 7, 3) := by decide +kernel
theorem dMo_fits_250 : decode cMo_fits 250 = .ok (.iconst 1, 1) := by decide +kernel
theorem dMo_fits_251 : decode cMo_fits 251 = .ok (.goto 4, 3) := by decide +kernel
theorem dMo_fits_254 : decode cMo_fits 254 = .ok (.iconst 0, 1) := by decide +kernel
theorem dMo_fits_255 : decode cMo_fits 255 = .ok (.ireturn, 1) := by decide +kernel
theorem dMo_fits_256 : decode cMo_fits 256 = .ok (.iload_n 0, 1) := by decide +kernel
theorem dMo_fits_257 : decode cMo_fits 257 = .ok (.bipush 14, 2) := by decide +kernel
theorem dMo_fits_259 : decode cMo_fits 259 = .ok (.if_icmp .eq 9, 3) := by decide +kernel
theorem dMo_fits_262 : decode cMo_fits 262 = .ok (.iload_n 0, 1) := by decide +kernel
theorem dMo_fits_263 : decode cMo_fits 263 = .ok (.bipush 15, 2) := by decide +kernel
theorem dMo_fits_265 : decode cMo_fits 265 = .ok (.if_icmp .ne 7, 3) := by decide +kernel
theorem dMo_fits_268 : decode cMo_fits 268 = .ok (.iconst 1, 1) := by decide +kernel
theorem dMo_fits_269 : decode cMo_fits 269 = .ok (.goto 4, 3) := by decide +kernel
theorem dMo_fits_272 : decode cMo_fits 272 = .ok (.iconst 0, 1) := by decide +kernel
theorem dMo_fits_273 : decode cMo_fits 273 = .ok (.ireturn, 1) := by decide +kernel
theorem dMo_outside_0 : decode cMo_outside 0 = .ok (.iload_n 0, 1) := by decide +kernel
theorem dMo_outside_1 : decode cMo_outside 1 = .ok (.iload_n 1, 1) := by decide +kernel
theorem dMo_outside_2 : decode cMo_outside 2 = .ok (.if_icmp .lt 8, 3) := by decide +kernel
theorem dMo_outside_5 : decode cMo_outside 5 = .ok (.iload_n 0, 1) := by decide +kernel
theorem dMo_outside_6 : decode cMo_outside 6 = .ok (.iload_n 2, 1) := by decide +kernel
theorem dMo_outside_7 : decode cMo_outside 7 = .ok (.if_icmp .le 7, 3) := by decide +kernel
theorem dMo_outside_10 : decode cMo_outside 10 = .ok (.iconst 1, 1) := by decide +kernel
theorem dMo_outside_11 : decode cMo_outside 11 = .ok (.goto 4, 3) := by decide +kernel
theorem dMo_outside_14 : decode cMo_outside 14 = .ok (.iconst 0, 1) := by decide +kernel
theorem dMo_outside_15 : decode cMo_outside 15 = .ok (.ireturn, 1) := by decide +kernel
theorem dMo_isDeed_0 : decode cMo_isDeed 0 = .ok (.iload_n 0, 1) := by decide +kernel
theorem dMo_isDeed_1 : decode cMo_isDeed 1 = .ok (.ifCond .eq 26, 3) := by decide +kernel
theorem dMo_isDeed_4 : decode cMo_isDeed 4 = .ok (.iload_n 0, 1) := by decide +kernel
theorem dMo_isDeed_5 : decode cMo_isDeed 5 = .ok (.iconst 1, 1) := by decide +kernel
theorem dMo_isDeed_6 : decode cMo_isDeed 6 = .ok (.if_icmp .eq 21, 3) := by decide +kernel
theorem dMo_isDeed_9 : decode cMo_isDeed 9 = .ok (.iload_n 0, 1) := by decide +kernel
theorem dMo_isDeed_10 : decode cMo_isDeed 10 = .ok (.bipush 10, 2) := by decide +kernel
theorem dMo_isDeed_12 : decode cMo_isDeed 12 = .ok (.if_icmp .eq 15, 3) := by decide +kernel
theorem dMo_isDeed_15 : decode cMo_isDeed 15 = .ok (.iload_n 0, 1) := by decide +kernel
theorem dMo_isDeed_16 : decode cMo_isDeed 16 = .ok (.bipush 11, 2) := by decide +kernel
theorem dMo_isDeed_18 : decode cMo_isDeed 18 = .ok (.if_icmp .le 13, 3) := by decide +kernel
theorem dMo_isDeed_21 : decode cMo_isDeed 21 = .ok (.iload_n 0, 1) := by decide +kernel
theorem dMo_isDeed_22 : decode cMo_isDeed 22 = .ok (.bipush 16, 2) := by decide +kernel
theorem dMo_isDeed_24 : decode cMo_isDeed 24 = .ok (.if_icmp .ge 7, 3) := by decide +kernel
theorem dMo_isDeed_27 : decode cMo_isDeed 27 = .ok (.iconst 1, 1) := by decide +kernel
theorem dMo_isDeed_28 : decode cMo_isDeed 28 = .ok (.goto 4, 3) := by decide +kernel
theorem dMo_isDeed_31 : decode cMo_isDeed 31 = .ok (.iconst 0, 1) := by decide +kernel
theorem dMo_isDeed_32 : decode cMo_isDeed 32 = .ok (.ireturn, 1) := by decide +kernel
theorem dMo_isCondition_0 : decode cMo_isCondition 0 = .ok (.iload_n 0, 1) := by decide +kernel
theorem dMo_isCondition_1 : decode cMo_isCondition 1 = .ok (.ifCond .lt 9, 3) := by decide +kernel
theorem dMo_isCondition_4 : decode cMo_isCondition 4 = .ok (.iload_n 0, 1) := by decide +kernel
theorem dMo_isCondition_5 : decode cMo_isCondition 5 = .ok (.bipush 6, 2) := by decide +kernel
theorem dMo_isCondition_7 : decode cMo_isCondition 7 = .ok (.if_icmp .lt 15, 3) := by decide +kernel
theorem dMo_isCondition_10 : decode cMo_isCondition 10 = .ok (.iload_n 0, 1) := by decide +kernel
theorem dMo_isCondition_11 : decode cMo_isCondition 11 = .ok (.bipush 9, 2) := by decide +kernel
theorem dMo_isCondition_13 : decode cMo_isCondition 13 = .ok (.if_icmp .le 13, 3) := by decide +kernel
theorem dMo_isCondition_16 : decode cMo_isCondition 16 = .ok (.iload_n 0, 1) := by decide +kernel
theorem dMo_isCondition_17 : decode cMo_isCondition 17 = .ok (.bipush 14, 2) := by decide +kernel
theorem dMo_isCondition_19 : decode cMo_isCondition 19 = .ok (.if_icmp .ge 7, 3) := by decide +kernel
theorem dMo_isCondition_22 : decode cMo_isCondition 22 = .ok (.iconst 1, 1) := by decide +kernel
theorem dMo_isCondition_23 : decode cMo_isCondition 23 = .ok (.goto 4, 3) := by decide +kernel
theorem dMo_isCondition_26 : decode cMo_isCondition 26 = .ok (.iconst 0, 1) := by decide +kernel
theorem dMo_isCondition_27 : decode cMo_isCondition 27 = .ok (.ireturn, 1) := by decide +kernel
theorem dMo_clear_0 : decode cMo_clear 0 = .ok (.aload_n 0, 1) := by decide +kernel
theorem dMo_clear_1 : decode cMo_clear 1 = .ok (.iconst 0, 1) := by decide +kernel
theorem dMo_clear_2 : decode cMo_clear 2 = .ok (.putfield 50, 3) := by decide +kernel
theorem dMo_clear_5 : decode cMo_clear 5 = .ok (.aload_n 0, 1) := by decide +kernel
theorem dMo_clear_6 : decode cMo_clear 6 = .ok (.iconst 0, 1) := by decide +kernel
theorem dMo_clear_7 : decode cMo_clear 7 = .ok (.putfield 68, 3) := by decide +kernel
theorem dMo_clear_10 : decode cMo_clear 10 = .ok (.iconst 0, 1) := by decide +kernel
theorem dMo_clear_11 : decode cMo_clear 11 = .ok (.istore_n 1, 1) := by decide +kernel
theorem dMo_clear_12 : decode cMo_clear 12 = .ok (.iload_n 1, 1) := by decide +kernel
theorem dMo_clear_13 : decode cMo_clear 13 = .ok (.bipush 16, 2) := by decide +kernel
theorem dMo_clear_15 : decode cMo_clear 15 = .ok (.if_icmp .ge 16, 3) := by decide +kernel
theorem dMo_clear_18 : decode cMo_clear 18 = .ok (.aload_n 0, 1) := by decide +kernel
theorem dMo_clear_19 : decode cMo_clear 19 = .ok (.getfield 31, 3) := by decide +kernel
theorem dMo_clear_22 : decode cMo_clear 22 = .ok (.iload_n 1, 1) := by decide +kernel
theorem dMo_clear_23 : decode cMo_clear 23 = .ok (.iconst (-1), 1) := by decide +kernel
theorem dMo_clear_24 : decode cMo_clear 24 = .ok (.iastore, 1) := by decide +kernel
theorem dMo_clear_25 : decode cMo_clear 25 = .ok (.iinc 1 1, 3) := by decide +kernel
theorem dMo_clear_28 : decode cMo_clear 28 = .ok (.goto (-16), 3) := by decide +kernel
theorem dMo_clear_31 : decode cMo_clear 31 = .ok (.return_, 1) := by decide +kernel
theorem dMo_assemble_0 : decode cMo_assemble 0 = .ok (.aload_n 0, 1) := by decide +kernel
theorem dMo_assemble_1 : decode cMo_assemble 1 = .ok (.invokevirtual 112, 3) := by decide +kernel
theorem dMo_assemble_4 : decode cMo_assemble 4 = .ok (.aload_n 0, 1) := by decide +kernel
theorem dMo_assemble_5 : decode cMo_assemble 5 = .ok (.iconst (-1), 1) := by decide +kernel
theorem dMo_assemble_6 : decode cMo_assemble 6 = .ok (.putfield 34, 3) := by decide +kernel
theorem dMo_assemble_9 : decode cMo_assemble 9 = .ok (.iconst 0, 1) := by decide +kernel
theorem dMo_assemble_10 : decode cMo_assemble 10 = .ok (.istore_n 1, 1) := by decide +kernel
theorem dMo_assemble_11 : decode cMo_assemble 11 = .ok (.iload_n 1, 1) := by decide +kernel
theorem dMo_assemble_12 : decode cMo_assemble 12 = .ok (.aload_n 0, 1) := by decide +kernel
theorem dMo_assemble_13 : decode cMo_assemble 13 = .ok (.getfield 68, 3) := by decide +kernel
theorem dMo_assemble_16 : decode cMo_assemble 16 = .ok (.if_icmp .ge 95, 3) := by decide +kernel
theorem dMo_assemble_19 : decode cMo_assemble 19 = .ok (.aload_n 0, 1) := by decide +kernel
theorem dMo_assemble_20 : decode cMo_assemble 20 = .ok (.getfield 34, 3) := by decide +kernel
theorem dMo_assemble_23 : decode cMo_assemble 23 = .ok (.iconst (-1), 1) := by decide +kernel
theorem dMo_assemble_24 : decode cMo_assemble 24 = .ok (.if_icmp .ne 87, 3) := by decide +kernel
theorem dMo_assemble_27 : decode cMo_assemble 27 = .ok (.aload_n 0, 1) := by decide +kernel
theorem dMo_assemble_28 : decode cMo_assemble 28 = .ok (.getfield 7, 3) := by decide +kernel
theorem dMo_assemble_31 : decode cMo_assemble 31 = .ok (.iload_n 1, 1) := by decide +kernel
theorem dMo_assemble_32 : decode cMo_assemble 32 = .ok (.iaload, 1) := by decide +kernel
theorem dMo_assemble_33 : decode cMo_assemble 33 = .ok (.ifCond .eq 29, 3) := by decide +kernel
theorem dMo_assemble_36 : decode cMo_assemble 36 = .ok (.aload_n 0, 1) := by decide +kernel
theorem dMo_assemble_37 : decode cMo_assemble 37 = .ok (.getfield 7, 3) := by decide +kernel
theorem dMo_assemble_40 : decode cMo_assemble 40 = .ok (.iload_n 1, 1) := by decide +kernel
theorem dMo_assemble_41 : decode cMo_assemble 41 = .ok (.iaload, 1) := by decide +kernel
theorem dMo_assemble_42 : decode cMo_assemble 42 = .ok (.bipush 13, 2) := by decide +kernel
theorem dMo_assemble_44 : decode cMo_assemble 44 = .ok (.if_icmp .eq 18, 3) := by decide +kernel
theorem dMo_assemble_47 : decode cMo_assemble 47 = .ok (.aload_n 0, 1) := by decide +kernel
theorem dMo_assemble_48 : decode cMo_assemble 48 = .ok (.getfield 7, 3) := by decide +kernel
theorem dMo_assemble_51 : decode cMo_assemble 51 = .ok (.iload_n 1, 1) := by decide +kernel
theorem dMo_assemble_52 : decode cMo_assemble 52 = .ok (.iaload, 1) := by decide +kernel
theorem dMo_assemble_53 : decode cMo_assemble 53 = .ok (.bipush 14, 2) := by decide +kernel
theorem dMo_assemble_55 : decode cMo_assemble 55 = .ok (.if_icmp .eq 7, 3) := by decide +kernel
theorem dMo_assemble_58 : decode cMo_assemble 58 = .ok (.iconst 1, 1) := by decide +kernel
theorem dMo_assemble_59 : decode cMo_assemble 59 = .ok (.goto 4, 3) := by decide +kernel
theorem dMo_assemble_62 : decode cMo_assemble 62 = .ok (.iconst 0, 1) := by decide +kernel
theorem dMo_assemble_63 : decode cMo_assemble 63 = .ok (.istore_n 2, 1) := by decide +kernel
theorem dMo_assemble_64 : decode cMo_assemble 64 = .ok (.iload_n 2, 1) := by decide +kernel
theorem dMo_assemble_65 : decode cMo_assemble 65 = .ok (.ifCond .eq 11, 3) := by decide +kernel
theorem dMo_assemble_68 : decode cMo_assemble 68 = .ok (.aload_n 0, 1) := by decide +kernel
theorem dMo_assemble_69 : decode cMo_assemble 69 = .ok (.iload_n 1, 1) := by decide +kernel
theorem dMo_assemble_70 : decode cMo_assemble 70 = .ok (.invokevirtual 115, 3) := by decide +kernel
theorem dMo_assemble_73 : decode cMo_assemble 73 = .ok (.goto 4, 3) := by decide +kernel
theorem dMo_assemble_76 : decode cMo_assemble 76 = .ok (.iconst 0, 1) := by decide +kernel
theorem dMo_assemble_77 : decode cMo_assemble 77 = .ok (.istore_n 3, 1) := by decide +kernel
theorem dMo_assemble_78 : decode cMo_assemble 78 = .ok (.iload_n 3, 1) := by decide +kernel
theorem dMo_assemble_79 : decode cMo_assemble 79 = .ok (.ifCond .ge 11, 3) := by decide +kernel
theorem dMo_assemble_82 : decode cMo_assemble 82 = .ok (.aload_n 0, 1) := by decide +kernel
theorem dMo_assemble_83 : decode cMo_assemble 83 = .ok (.iload_n 1, 1) := by decide +kernel
theorem dMo_assemble_84 : decode cMo_assemble 84 = .ok (.putfield 34, 3) := by decide +kernel
theorem dMo_assemble_87 : decode cMo_assemble 87 = .ok (.goto 18, 3) := by decide +kernel
theorem dMo_assemble_90 : decode cMo_assemble 90 = .ok (.iload_n 2, 1) := by decide +kernel
theorem dMo_assemble_91 : decode cMo_assemble 91 = .ok (.ifCond .eq 14, 3) := by decide +kernel
theorem dMo_assemble_94 : decode cMo_assemble 94 = .ok (.aload_n 0, 1) := by decide +kernel
theorem dMo_assemble_95 : decode cMo_assemble 95 = .ok (.aload_n 0, 1) := by decide +kernel
theorem dMo_assemble_96 : decode cMo_assemble 96 = .ok (.getfield 22, 3) := by decide +kernel
theorem dMo_assemble_99 : decode cMo_assemble 99 = .ok (.iload_n 1, 1) := by decide +kernel
theorem dMo_assemble_100 : decode cMo_assemble 100 = .ok (.iaload, 1) := by decide +kernel
theorem dMo_assemble_101 : decode cMo_assemble 101 = .ok (.iload_n 3, 1) := by decide +kernel
theorem dMo_assemble_102 : decode cMo_assemble 102 = .ok (.invokevirtual 85, 3) := by decide +kernel
theorem dMo_assemble_105 : decode cMo_assemble 105 = .ok (.iinc 1 1, 3) := by decide +kernel
theorem dMo_assemble_108 : decode cMo_assemble 108 = .ok (.goto (-97), 3) := by decide +kernel
theorem dMo_assemble_111 : decode cMo_assemble 111 = .ok (.aload_n 0, 1) := by decide +kernel
theorem dMo_assemble_112 : decode cMo_assemble 112 = .ok (.aload_n 0, 1) := by decide +kernel
theorem dMo_assemble_113 : decode cMo_assemble 113 = .ok (.getfield 34, 3) := by decide +kernel
theorem dMo_assemble_116 : decode cMo_assemble 116 = .ok (.iconst (-1), 1) := by decide +kernel
theorem dMo_assemble_117 : decode cMo_assemble 117 = .ok (.if_icmp .ne 7, 3) := by decide +kernel
theorem dMo_assemble_120 : decode cMo_assemble 120 = .ok (.iconst 0, 1) := by decide +kernel
theorem dMo_assemble_121 : decode cMo_assemble 121 = .ok (.goto 4, 3) := by decide +kernel
theorem dMo_assemble_124 : decode cMo_assemble 124 = .ok (.iconst 1, 1) := by decide +kernel
theorem dMo_assemble_125 : decode cMo_assemble 125 = .ok (.putfield 50, 3) := by decide +kernel
theorem dMo_assemble_128 : decode cMo_assemble 128 = .ok (.aload_n 0, 1) := by decide +kernel
theorem dMo_assemble_129 : decode cMo_assemble 129 = .ok (.getfield 50, 3) := by decide +kernel
theorem dMo_assemble_132 : decode cMo_assemble 132 = .ok (.ifCond .le 5, 3) := by decide +kernel
theorem dMo_assemble_135 : decode cMo_assemble 135 = .ok (.iconst 0, 1) := by decide +kernel
theorem dMo_assemble_136 : decode cMo_assemble 136 = .ok (.ireturn, 1) := by decide +kernel
theorem dMo_assemble_137 : decode cMo_assemble 137 = .ok (.aload_n 0, 1) := by decide +kernel
theorem dMo_assemble_138 : decode cMo_assemble 138 = .ok (.aload_n 0, 1) := by decide +kernel
theorem dMo_assemble_139 : decode cMo_assemble 139 = .ok (.getfield 78, 3) := by decide +kernel
theorem dMo_assemble_142 : decode cMo_assemble 142 = .ok (.iconst 2, 1) := by decide +kernel
theorem dMo_assemble_143 : decode cMo_assemble 143 = .ok (.idiv, 1) := by decide +kernel
theorem dMo_assemble_144 : decode cMo_assemble 144 = .ok (.putfield 118, 3) := by decide +kernel
theorem dMo_assemble_147 : decode cMo_assemble 147 = .ok (.aload_n 0, 1) := by decide +kernel
theorem dMo_assemble_148 : decode cMo_assemble 148 = .ok (.aload_n 0, 1) := by decide +kernel
theorem dMo_assemble_149 : decode cMo_assemble 149 = .ok (.getfield 94, 3) := by decide +kernel
theorem dMo_assemble_152 : decode cMo_assemble 152 = .ok (.putfield 121, 3) := by decide +kernel
theorem dMo_assemble_155 : decode cMo_assemble 155 = .ok (.iconst 0, 1) := by decide +kernel
theorem dMo_assemble_156 : decode cMo_assemble 156 = .ok (.istore_n 1, 1) := by decide +kernel
theorem dMo_assemble_157 : decode cMo_assemble 157 = .ok (.iload_n 1, 1) := by decide +kernel
theorem dMo_assemble_158 : decode cMo_assemble 158 = .ok (.aload_n 0, 1) := by decide +kernel
theorem dMo_assemble_159 : decode cMo_assemble 159 = .ok (.getfield 118, 3) := by decide +kernel
theorem dMo_assemble_162 : decode cMo_assemble 162 = .ok (.if_icmp .ge 21, 3) := by decide +kernel
theorem dMo_assemble_165 : decode cMo_assemble 165 = .ok (.aload_n 0, 1) := by decide +kernel
theorem dMo_assemble_166 : decode cMo_assemble 166 = .ok (.getfield 41, 3) := by decide +kernel
theorem dMo_assemble_169 : decode cMo_assemble 169 = .ok (.iload_n 1, 1) := by decide +kernel
theorem dMo_assemble_170 : decode cMo_assemble 170 = .ok (.aload_n 0, 1) := by decide +kernel
theorem dMo_assemble_171 : decode cMo_assemble 171 = .ok (.getfield 38, 3) := by decide +kernel
theorem dMo_assemble_174 : decode cMo_assemble 174 = .ok (.iload_n 1, 1) := by decide +kernel
theorem dMo_assemble_175 : decode cMo_assemble 175 = .ok (.iaload, 1) := by decide +kernel
theorem dMo_assemble_176 : decode cMo_assemble 176 = .ok (.iastore, 1) := by decide +kernel
theorem dMo_assemble_177 : decode cMo_assemble 177 = .ok (.iinc 1 1, 3) := by decide +kernel
theorem dMo_assemble_180 : decode cMo_assemble 180 = .ok (.goto (-23), 3) := by decide +kernel
theorem dMo_assemble_183 : decode cMo_assemble 183 = .ok (.aload_n 0, 1) := by decide +kernel
theorem dMo_assemble_184 : decode cMo_assemble 184 = .ok (.invokevirtual 124, 3) := by decide +kernel
theorem dMo_assemble_187 : decode cMo_assemble 187 = .ok (.aload_n 0, 1) := by decide +kernel
theorem dMo_assemble_188 : decode cMo_assemble 188 = .ok (.getfield 118, 3) := by decide +kernel
theorem dMo_assemble_191 : decode cMo_assemble 191 = .ok (.ireturn, 1) := by decide +kernel
theorem dMo_reckon_0 : decode cMo_reckon 0 = .ok (.aload_n 0, 1) := by decide +kernel
theorem dMo_reckon_1 : decode cMo_reckon 1 = .ok (.iconst 0, 1) := by decide +kernel
theorem dMo_reckon_2 : decode cMo_reckon 2 = .ok (.putfield 78, 3) := by decide +kernel
theorem dMo_reckon_5 : decode cMo_reckon 5 = .ok (.aload_n 0, 1) := by decide +kernel
theorem dMo_reckon_6 : decode cMo_reckon 6 = .ok (.iconst (-1), 1) := by decide +kernel
theorem dMo_reckon_7 : decode cMo_reckon 7 = .ok (.putfield 72, 3) := by decide +kernel
theorem dMo_reckon_10 : decode cMo_reckon 10 = .ok (.aload_n 0, 1) := by decide +kernel
theorem dMo_reckon_11 : decode cMo_reckon 11 = .ok (.iconst (-1), 1) := by decide +kernel
theorem dMo_reckon_12 : decode cMo_reckon 12 = .ok (.putfield 75, 3) := by decide +kernel
theorem dMo_reckon_15 : decode cMo_reckon 15 = .ok (.aload_n 0, 1) := by decide +kernel
theorem dMo_reckon_16 : decode cMo_reckon 16 = .ok (.iconst 0, 1) := by decide +kernel
theorem dMo_reckon_17 : decode cMo_reckon 17 = .ok (.putfield 94, 3) := by decide +kernel
theorem dMo_reckon_20 : decode cMo_reckon 20 = .ok (.iconst 0, 1) := by decide +kernel
theorem dMo_reckon_21 : decode cMo_reckon 21 = .ok (.istore_n 1, 1) := by decide +kernel
theorem dMo_reckon_22 : decode cMo_reckon 22 = .ok (.iload_n 1, 1) := by decide +kernel
theorem dMo_reckon_23 : decode cMo_reckon 23 = .ok (.aload_n 0, 1) := by decide +kernel
theorem dMo_reckon_24 : decode cMo_reckon 24 = .ok (.getfield 68, 3) := by decide +kernel
theorem dMo_reckon_27 : decode cMo_reckon 27 = .ok (.if_icmp .ge 151, 3) := by decide +kernel
theorem dMo_reckon_30 : decode cMo_reckon 30 = .ok (.aload_n 0, 1) := by decide +kernel
theorem dMo_reckon_31 : decode cMo_reckon 31 = .ok (.getfield 22, 3) := by decide +kernel
theorem dMo_reckon_34 : decode cMo_reckon 34 = .ok (.iload_n 1, 1) := by decide +kernel
theorem dMo_reckon_35 : decode cMo_reckon 35 = .ok (.iconst (-1), 1) := by decide +kernel
theorem dMo_reckon_36 : decode cMo_reckon 36 = .ok (.iastore, 1) := by decide +kernel
theorem dMo_reckon_37 : decode cMo_reckon 37 = .ok (.aload_n 0, 1) := by decide +kernel
theorem dMo_reckon_38 : decode cMo_reckon 38 = .ok (.getfield 25, 3) := by decide +kernel
theorem dMo_reckon_41 : decode cMo_reckon 41 = .ok (.iload_n 1, 1) := by decide +kernel
theorem dMo_reckon_42 : decode cMo_reckon 42 = .ok (.iconst (-1), 1) := by decide +kernel
theorem dMo_reckon_43 : decode cMo_reckon 43 = .ok (.iastore, 1) := by decide +kernel
theorem dMo_reckon_44 : decode cMo_reckon 44 = .ok (.aload_n 0, 1) := by decide +kernel
theorem dMo_reckon_45 : decode cMo_reckon 45 = .ok (.getfield 7, 3) := by decide +kernel
theorem dMo_reckon_48 : decode cMo_reckon 48 = .ok (.iload_n 1, 1) := by decide +kernel
theorem dMo_reckon_49 : decode cMo_reckon 49 = .ok (.iaload, 1) := by decide +kernel
theorem dMo_reckon_50 : decode cMo_reckon 50 = .ok (.ifCond .eq 14, 3) := by decide +kernel
theorem dMo_reckon_53 : decode cMo_reckon 53 = .ok (.aload_n 0, 1) := by decide +kernel
theorem dMo_reckon_54 : decode cMo_reckon 54 = .ok (.getfield 7, 3) := by decide +kernel
theorem dMo_reckon_57 : decode cMo_reckon 57 = .ok (.iload_n 1, 1) := by decide +kernel
theorem dMo_reckon_58 : decode cMo_reckon 58 = .ok (.iaload, 1) := by decide +kernel
theorem dMo_reckon_59 : decode cMo_reckon 59 = .ok (.bipush 14, 2) := by decide +kernel
theorem dMo_reckon_61 : decode cMo_reckon 61 = .ok (.if_icmp .ne 7, 3) := by decide +kernel
theorem dMo_reckon_64 : decode cMo_reckon 64 = .ok (.iconst 0, 1) := by decide +kernel
theorem dMo_reckon_65 : decode cMo_reckon 65 = .ok (.goto 24, 3) := by decide +kernel
theorem dMo_reckon_68 : decode cMo_reckon 68 = .ok (.aload_n 0, 1) := by decide +kernel
theorem dMo_reckon_69 : decode cMo_reckon 69 = .ok (.getfield 7, 3) := by decide +kernel
theorem dMo_reckon_72 : decode cMo_reckon 72 = .ok (.iload_n 1, 1) := by decide +kernel
theorem dMo_reckon_73 : decode cMo_reckon 73 = .ok (.iaload, 1) := by decide +kernel
theorem dMo_reckon_74 : decode cMo_reckon 74 = .ok (.bipush 13, 2) := by decide +kernel
theorem dMo_reckon_76 : decode cMo_reckon 76 = .ok (.if_icmp .ne 12, 3) := by decide +kernel
theorem dMo_reckon_79 : decode cMo_reckon 79 = .ok (.aload_n 0, 1) := by decide +kernel
theorem dMo_reckon_80 : decode cMo_reckon 80 = .ok (.getfield 13, 3) := by decide +kernel
theorem dMo_reckon_83 : decode cMo_reckon 83 = .ok (.iload_n 1, 1) := by decide +kernel
theorem dMo_reckon_84 : decode cMo_reckon 84 = .ok (.iaload, 1) := by decide +kernel
theorem dMo_reckon_85 : decode cMo_reckon 85 = .ok (.goto 4, 3) := by decide +kernel
theorem dMo_reckon_88 : decode cMo_reckon 88 = .ok (.iconst 1, 1) := by decide +kernel
theorem dMo_reckon_89 : decode cMo_reckon 89 = .ok (.istore_n 2, 1) := by decide +kernel
theorem dMo_reckon_90 : decode cMo_reckon 90 = .ok (.aload_n 0, 1) := by decide +kernel
theorem dMo_reckon_91 : decode cMo_reckon 91 = .ok (.getfield 7, 3) := by decide +kernel
theorem dMo_reckon_94 : decode cMo_reckon 94 = .ok (.iload_n 1, 1) := by decide +kernel
theorem dMo_reckon_95 : decode cMo_reckon 95 = .ok (.iaload, 1) := by decide +kernel
theorem dMo_reckon_96 : decode cMo_reckon 96 = .ok (.bipush 14, 2) := by decide +kernel
theorem dMo_reckon_98 : decode cMo_reckon 98 = .ok (.if_icmp .ne 8, 3) := by decide +kernel
theorem dMo_reckon_101 : decode cMo_reckon 101 = .ok (.aload_n 0, 1) := by decide +kernel
theorem dMo_reckon_102 : decode cMo_reckon 102 = .ok (.iload_n 1, 1) := by decide +kernel
theorem dMo_reckon_103 : decode cMo_reckon 103 = .ok (.invokevirtual 100, 3) := by decide +kernel
theorem dMo_reckon_106 : decode cMo_reckon 106 = .ok (.iconst 0, 1) := by decide +kernel
theorem dMo_reckon_107 : decode cMo_reckon 107 = .ok (.istore_n 3, 1) := by decide +kernel
theorem dMo_reckon_108 : decode cMo_reckon 108 = .ok (.iload_n 3, 1) := by decide +kernel
theorem dMo_reckon_109 : decode cMo_reckon 109 = .ok (.iload_n 2, 1) := by decide +kernel
theorem dMo_reckon_110 : decode cMo_reckon 110 = .ok (.if_icmp .ge 38, 3) := by decide +kernel
theorem dMo_reckon_113 : decode cMo_reckon 113 = .ok (.aload_n 0, 1) := by decide +kernel
theorem dMo_reckon_114 : decode cMo_reckon 114 = .ok (.iload_n 1, 1) := by decide +kernel
theorem dMo_reckon_115 : decode cMo_reckon 115 = .ok (.invokevirtual 104, 3) := by decide +kernel
theorem dMo_reckon_118 : decode cMo_reckon 118 = .ok (.aload_n 0, 1) := by decide +kernel
theorem dMo_reckon_119 : decode cMo_reckon 119 = .ok (.getfield 7, 3) := by decide +kernel
theorem dMo_reckon_122 : decode cMo_reckon 122 = .ok (.iload_n 1, 1) := by decide +kernel
theorem dMo_reckon_123 : decode cMo_reckon 123 = .ok (.iaload, 1) := by decide +kernel
theorem dMo_reckon_124 : decode cMo_reckon 124 = .ok (.bipush 13, 2) := by decide +kernel
theorem dMo_reckon_126 : decode cMo_reckon 126 = .ok (.if_icmp .ne 16, 3) := by decide +kernel
theorem dMo_reckon_129 : decode cMo_reckon 129 = .ok (.aload_n 0, 1) := by decide +kernel
theorem dMo_reckon_130 : decode cMo_reckon 130 = .ok (.aload_n 0, 1) := by decide +kernel
theorem dMo_reckon_131 : decode cMo_reckon 131 = .ok (.getfield 25, 3) := by decide +kernel
theorem dMo_reckon_134 : decode cMo_reckon 134 = .ok (.iload_n 1, 1) := by decide +kernel
theorem dMo_reckon_135 : decode cMo_reckon 135 = .ok (.iaload, 1) := by decide +kernel
theorem dMo_reckon_136 : decode cMo_reckon 136 = .ok (.sipush 18112, 3) := by decide +kernel
theorem dMo_reckon_139 : decode cMo_reckon 139 = .ok (.invokevirtual 85, 3) := by decide +kernel
theorem dMo_reckon_142 : decode cMo_reckon 142 = .ok (.iinc 3 1, 3) := by decide +kernel
theorem dMo_reckon_145 : decode cMo_reckon 145 = .ok (.goto (-37), 3) := by decide +kernel
theorem dMo_reckon_148 : decode cMo_reckon 148 = .ok (.aload_n 0, 1) := by decide +kernel
theorem dMo_reckon_149 : decode cMo_reckon 149 = .ok (.getfield 7, 3) := by decide +kernel
theorem dMo_reckon_152 : decode cMo_reckon 152 = .ok (.iload_n 1, 1) := by decide +kernel
theorem dMo_reckon_153 : decode cMo_reckon 153 = .ok (.iaload, 1) := by decide +kernel
theorem dMo_reckon_154 : decode cMo_reckon 154 = .ok (.bipush 10, 2) := by decide +kernel
theorem dMo_reckon_156 : decode cMo_reckon 156 = .ok (.if_icmp .ne 16, 3) := by decide +kernel
theorem dMo_reckon_159 : decode cMo_reckon 159 = .ok (.aload_n 0, 1) := by decide +kernel
theorem dMo_reckon_160 : decode cMo_reckon 160 = .ok (.getfield 72, 3) := by decide +kernel
theorem dMo_reckon_163 : decode cMo_reckon 163 = .ok (.iconst (-1), 1) := by decide +kernel
theorem dMo_reckon_164 : decode cMo_reckon 164 = .ok (.if_icmp .ne 8, 3) := by decide +kernel
theorem dMo_reckon_167 : decode cMo_reckon 167 = .ok (.aload_n 0, 1) := by decide +kernel
theorem dMo_reckon_168 : decode cMo_reckon 168 = .ok (.iload_n 1, 1) := by decide +kernel
theorem dMo_reckon_169 : decode cMo_reckon 169 = .ok (.putfield 72, 3) := by decide +kernel
theorem dMo_reckon_172 : decode cMo_reckon 172 = .ok (.iinc 1 1, 3) := by decide +kernel
theorem dMo_reckon_175 : decode cMo_reckon 175 = .ok (.goto (-153), 3) := by decide +kernel
theorem dMo_reckon_178 : decode cMo_reckon 178 = .ok (.aload_n 0, 1) := by decide +kernel
theorem dMo_reckon_179 : decode cMo_reckon 179 = .ok (.aload_n 0, 1) := by decide +kernel
theorem dMo_reckon_180 : decode cMo_reckon 180 = .ok (.getfield 68, 3) := by decide +kernel
theorem dMo_reckon_183 : decode cMo_reckon 183 = .ok (.invokevirtual 100, 3) := by decide +kernel
theorem dMo_reckon_186 : decode cMo_reckon 186 = .ok (.return_, 1) := by decide +kernel
theorem dMo_pool_0 : decode cMo_pool 0 = .ok (.aload_n 0, 1) := by decide +kernel
theorem dMo_pool_1 : decode cMo_pool 1 = .ok (.getfield 72, 3) := by decide +kernel
theorem dMo_pool_4 : decode cMo_pool 4 = .ok (.iconst (-1), 1) := by decide +kernel
theorem dMo_pool_5 : decode cMo_pool 5 = .ok (.if_icmp .ne 4, 3) := by decide +kernel
theorem dMo_pool_8 : decode cMo_pool 8 = .ok (.return_, 1) := by decide +kernel
theorem dMo_pool_9 : decode cMo_pool 9 = .ok (.aload_n 0, 1) := by decide +kernel
theorem dMo_pool_10 : decode cMo_pool 10 = .ok (.getfield 72, 3) := by decide +kernel
theorem dMo_pool_13 : decode cMo_pool 13 = .ok (.istore_n 2, 1) := by decide +kernel
theorem dMo_pool_14 : decode cMo_pool 14 = .ok (.aload_n 0, 1) := by decide +kernel
theorem dMo_pool_15 : decode cMo_pool 15 = .ok (.getfield 75, 3) := by decide +kernel
theorem dMo_pool_18 : decode cMo_pool 18 = .ok (.bipush 11, 2) := by decide +kernel
theorem dMo_pool_20 : decode cMo_pool 20 = .ok (.if_icmp .eq 16, 3) := by decide +kernel
theorem dMo_pool_23 : decode cMo_pool 23 = .ok (.aload_n 0, 1) := by decide +kernel
theorem dMo_pool_24 : decode cMo_pool 24 = .ok (.getfield 75, 3) := by decide +kernel
theorem dMo_pool_27 : decode cMo_pool 27 = .ok (.bipush 15, 2) := by decide +kernel
theorem dMo_pool_29 : decode cMo_pool 29 = .ok (.if_icmp .eq 7, 3) := by decide +kernel
theorem dMo_pool_32 : decode cMo_pool 32 = .ok (.iconst 1, 1) := by decide +kernel
theorem dMo_pool_33 : decode cMo_pool 33 = .ok (.goto 4, 3) := by decide +kernel
theorem dMo_pool_36 : decode cMo_pool 36 = .ok (.iconst 0, 1) := by decide +kernel
theorem dMo_pool_37 : decode cMo_pool 37 = .ok (.istore_n 3, 1) := by decide +kernel
theorem dMo_pool_38 : decode cMo_pool 38 = .ok (.aload_n 0, 1) := by decide +kernel
theorem dMo_pool_39 : decode cMo_pool 39 = .ok (.getfield 78, 3) := by decide +kernel
theorem dMo_pool_42 : decode cMo_pool 42 = .ok (.istore 4, 2) := by decide +kernel
theorem dMo_pool_44 : decode cMo_pool 44 = .ok (.iload_n 3, 1) := by decide +kernel
theorem dMo_pool_45 : decode cMo_pool 45 = .ok (.ifCond .eq 12, 3) := by decide +kernel
theorem dMo_pool_48 : decode cMo_pool 48 = .ok (.aload_n 0, 1) := by decide +kernel
theorem dMo_pool_49 : decode cMo_pool 49 = .ok (.getfield 78, 3) := by decide +kernel
theorem dMo_pool_52 : decode cMo_pool 52 = .ok (.iconst 2, 1) := by decide +kernel
theorem dMo_pool_53 : decode cMo_pool 53 = .ok (.iadd, 1) := by decide +kernel
theorem dMo_pool_54 : decode cMo_pool 54 = .ok (.goto 7, 3) := by decide +kernel
theorem dMo_pool_57 : decode cMo_pool 57 = .ok (.aload_n 0, 1) := by decide +kernel
theorem dMo_pool_58 : decode cMo_pool 58 = .ok (.getfield 78, 3) := by decide +kernel
theorem dMo_pool_61 : decode cMo_pool 61 = .ok (.istore 5, 2) := by decide +kernel
theorem dMo_pool_63 : decode cMo_pool 63 = .ok (.iload 5, 2) := by decide +kernel
theorem dMo_pool_65 : decode cMo_pool 65 = .ok (.invokestatic 81, 3) := by decide +kernel
theorem dMo_pool_68 : decode cMo_pool 68 = .ok (.istore 6, 2) := by decide +kernel
theorem dMo_pool_70 : decode cMo_pool 70 = .ok (.iload 6, 2) := by decide +kernel
theorem dMo_pool_72 : decode cMo_pool 72 = .ok (.iload 5, 2) := by decide +kernel
theorem dMo_pool_74 : decode cMo_pool 74 = .ok (.if_icmp .le 12, 3) := by decide +kernel
theorem dMo_pool_77 : decode cMo_pool 77 = .ok (.aload_n 0, 1) := by decide +kernel
theorem dMo_pool_78 : decode cMo_pool 78 = .ok (.iload 5, 2) := by decide +kernel
theorem dMo_pool_80 : decode cMo_pool 80 = .ok (.sipush 18112, 3) := by decide +kernel
theorem dMo_pool_83 : decode cMo_pool 83 = .ok (.invokevirtual 85, 3) := by decide +kernel
theorem dMo_pool_86 : decode cMo_pool 86 = .ok (.iload_n 2, 1) := by decide +kernel
theorem dMo_pool_87 : decode cMo_pool 87 = .ok (.istore 7, 2) := by decide +kernel
theorem dMo_pool_89 : decode cMo_pool 89 = .ok (.iload 7, 2) := by decide +kernel
theorem dMo_pool_91 : decode cMo_pool 91 = .ok (.iload_n 1, 1) := by decide +kernel
theorem dMo_pool_92 : decode cMo_pool 92 = .ok (.if_icmp .ge 74, 3) := by decide +kernel
theorem dMo_pool_95 : decode cMo_pool 95 = .ok (.aload_n 0, 1) := by decide +kernel
theorem dMo_pool_96 : decode cMo_pool 96 = .ok (.getfield 7, 3) := by decide +kernel
theorem dMo_pool_99 : decode cMo_pool 99 = .ok (.iload 7, 2) := by decide +kernel
theorem dMo_pool_101 : decode cMo_pool 101 = .ok (.iaload, 1) := by decide +kernel
theorem dMo_pool_102 : decode cMo_pool 102 = .ok (.bipush 10, 2) := by decide +kernel
theorem dMo_pool_104 : decode cMo_pool 104 = .ok (.if_icmp .ne 56, 3) := by decide +kernel
theorem dMo_pool_107 : decode cMo_pool 107 = .ok (.aload_n 0, 1) := by decide +kernel
theorem dMo_pool_108 : decode cMo_pool 108 = .ok (.iload_n 2, 1) := by decide +kernel
theorem dMo_pool_109 : decode cMo_pool 109 = .ok (.iload 7, 2) := by decide +kernel
theorem dMo_pool_111 : decode cMo_pool 111 = .ok (.invokevirtual 89, 3) := by decide +kernel
theorem dMo_pool_114 : decode cMo_pool 114 = .ok (.ifCond .eq 46, 3) := by decide +kernel
theorem dMo_pool_117 : decode cMo_pool 117 = .ok (.aload_n 0, 1) := by decide +kernel
theorem dMo_pool_118 : decode cMo_pool 118 = .ok (.getfield 28, 3) := by decide +kernel
theorem dMo_pool_121 : decode cMo_pool 121 = .ok (.iload 7, 2) := by decide +kernel
theorem dMo_pool_123 : decode cMo_pool 123 = .ok (.iload 6, 2) := by decide +kernel
theorem dMo_pool_125 : decode cMo_pool 125 = .ok (.iastore, 1) := by decide +kernel
theorem dMo_pool_126 : decode cMo_pool 126 = .ok (.aload_n 0, 1) := by decide +kernel
theorem dMo_pool_127 : decode cMo_pool 127 = .ok (.iload 6, 2) := by decide +kernel
theorem dMo_pool_129 : decode cMo_pool 129 = .ok (.aload_n 0, 1) := by decide +kernel
theorem dMo_pool_130 : decode cMo_pool 130 = .ok (.getfield 16, 3) := by decide +kernel
theorem dMo_pool_133 : decode cMo_pool 133 = .ok (.iload 7, 2) := by decide +kernel
theorem dMo_pool_135 : decode cMo_pool 135 = .ok (.iaload, 1) := by decide +kernel
theorem dMo_pool_136 : decode cMo_pool 136 = .ok (.invokevirtual 85, 3) := by decide +kernel
theorem dMo_pool_139 : decode cMo_pool 139 = .ok (.aload_n 0, 1) := by decide +kernel
theorem dMo_pool_140 : decode cMo_pool 140 = .ok (.iload 6, 2) := by decide +kernel
theorem dMo_pool_142 : decode cMo_pool 142 = .ok (.iconst 2, 1) := by decide +kernel
theorem dMo_pool_143 : decode cMo_pool 143 = .ok (.iadd, 1) := by decide +kernel
theorem dMo_pool_144 : decode cMo_pool 144 = .ok (.aload_n 0, 1) := by decide +kernel
theorem dMo_pool_145 : decode cMo_pool 145 = .ok (.getfield 16, 3) := by decide +kernel
theorem dMo_pool_148 : decode cMo_pool 148 = .ok (.iload 7, 2) := by decide +kernel
theorem dMo_pool_150 : decode cMo_pool 150 = .ok (.iaload, 1) := by decide +kernel
theorem dMo_pool_151 : decode cMo_pool 151 = .ok (.bipush 16, 2) := by decide +kernel
theorem dMo_pool_153 : decode cMo_pool 153 = .ok (.ishr, 1) := by decide +kernel
theorem dMo_pool_154 : decode cMo_pool 154 = .ok (.invokevirtual 85, 3) := by decide +kernel
theorem dMo_pool_157 : decode cMo_pool 157 = .ok (.iinc 6 4, 3) := by decide +kernel
theorem dMo_pool_160 : decode cMo_pool 160 = .ok (.iinc 7 1, 3) := by decide +kernel
theorem dMo_pool_163 : decode cMo_pool 163 = .ok (.goto (-74), 3) := by decide +kernel
theorem dMo_pool_166 : decode cMo_pool 166 = .ok (.iload_n 2, 1) := by decide +kernel
theorem dMo_pool_167 : decode cMo_pool 167 = .ok (.istore 7, 2) := by decide +kernel
theorem dMo_pool_169 : decode cMo_pool 169 = .ok (.iload 7, 2) := by decide +kernel
theorem dMo_pool_171 : decode cMo_pool 171 = .ok (.iload_n 1, 1) := by decide +kernel
theorem dMo_pool_172 : decode cMo_pool 172 = .ok (.if_icmp .ge 100, 3) := by decide +kernel
theorem dMo_pool_175 : decode cMo_pool 175 = .ok (.iload_n 2, 1) := by decide +kernel
theorem dMo_pool_176 : decode cMo_pool 176 = .ok (.istore 8, 2) := by decide +kernel
theorem dMo_pool_178 : decode cMo_pool 178 = .ok (.iload 8, 2) := by decide +kernel
theorem dMo_pool_180 : decode cMo_pool 180 = .ok (.iload 7, 2) := by decide +kernel
theorem dMo_pool_182 : decode cMo_pool 182 = .ok (.if_icmp .ge 84, 3) := by decide +kernel
theorem dMo_pool_185 : decode cMo_pool 185 = .ok (.aload_n 0, 1) := by decide +kernel
theorem dMo_pool_186 : decode cMo_pool 186 = .ok (.getfield 7, 3) := by decide +kernel
theorem dMo_pool_189 : decode cMo_pool 189 = .ok (.iload 7, 2) := by decide +kernel
theorem dMo_pool_191 : decode cMo_pool 191 = .ok (.iaload, 1) := by decide +kernel
theorem dMo_pool_192 : decode cMo_pool 192 = .ok (.bipush 10, 2) := by decide +kernel
theorem dMo_pool_194 : decode cMo_pool 194 = .ok (.if_icmp .ne 72, 3) := by decide +kernel
theorem dMo_pool_197 : decode cMo_pool 197 = .ok (.aload_n 0, 1) := by decide +kernel
theorem dMo_pool_198 : decode cMo_pool 198 = .ok (.getfield 28, 3) := by decide +kernel
theorem dMo_pool_201 : decode cMo_pool 201 = .ok (.iload 7, 2) := by decide +kernel
theorem dMo_pool_203 : decode cMo_pool 203 = .ok (.aload_n 0, 1) := by decide +kernel
theorem dMo_pool_204 : decode cMo_pool 204 = .ok (.getfield 7, 3) := by decide +kernel
theorem dMo_pool_207 : decode cMo_pool 207 = .ok (.iload 8, 2) := by decide +kernel
theorem dMo_pool_209 : decode cMo_pool 209 = .ok (.iaload, 1) := by decide +kernel
theorem dMo_pool_210 : decode cMo_pool 210 = .ok (.bipush 10, 2) := by decide +kernel
theorem dMo_pool_212 : decode cMo_pool 212 = .ok (.if_icmp .ne 40, 3) := by decide +kernel
theorem dMo_pool_215 : decode cMo_pool 215 = .ok (.aload_n 0, 1) := by decide +kernel
theorem dMo_pool_216 : decode cMo_pool 216 = .ok (.getfield 16, 3) := by decide +kernel
theorem dMo_pool_219 : decode cMo_pool 219 = .ok (.iload 8, 2) := by decide +kernel
theorem dMo_pool_221 : decode cMo_pool 221 = .ok (.iaload, 1) := by decide +kernel
theorem dMo_pool_222 : decode cMo_pool 222 = .ok (.aload_n 0, 1) := by decide +kernel
theorem dMo_pool_223 : decode cMo_pool 223 = .ok (.getfield 16, 3) := by decide +kernel
theorem dMo_pool_226 : decode cMo_pool 226 = .ok (.iload 7, 2) := by decide +kernel
theorem dMo_pool_228 : decode cMo_pool 228 = .ok (.iaload, 1) := by decide +kernel
theorem dMo_pool_229 : decode cMo_pool 229 = .ok (.if_icmp .ne 23, 3) := by decide +kernel
theorem dMo_pool_232 : decode cMo_pool 232 = .ok (.aload_n 0, 1) := by decide +kernel
theorem dMo_pool_233 : decode cMo_pool 233 = .ok (.iload_n 2, 1) := by decide +kernel
theorem dMo_pool_234 : decode cMo_pool 234 = .ok (.iload 8, 2) := by decide +kernel
theorem dMo_pool_236 : decode cMo_pool 236 = .ok (.invokevirtual 89, 3) := by decide +kernel
theorem dMo_pool_239 : decode cMo_pool 239 = .ok (.ifCond .eq 13, 3) := by decide +kernel
theorem dMo_pool_242 : decode cMo_pool 242 = .ok (.aload_n 0, 1) := by decide +kernel
theorem dMo_pool_243 : decode cMo_pool 243 = .ok (.getfield 28, 3) := by decide +kernel
theorem dMo_pool_246 : decode cMo_pool 246 = .ok (.iload 8, 2) := by decide +kernel
theorem dMo_pool_248 : decode cMo_pool 248 = .ok (.iaload, 1) := by decide +kernel
theorem dMo_pool_249 : decode cMo_pool 249 = .ok (.goto 10, 3) := by decide +kernel
theorem dMo_pool_252 : decode cMo_pool 252 = .ok (.aload_n 0, 1) := by decide +kernel
theorem dMo_pool_253 : decode cMo_pool 253 = .ok (.getfield 28, 3) := by decide +kernel
theorem dMo_pool_256 : decode cMo_pool 256 = .ok (.iload 7, 2) := by decide +kernel
theorem dMo_pool_258 : decode cMo_pool 258 = .ok (.iaload, 1) := by decide +kernel
theorem dMo_pool_259 : decode cMo_pool 259 = .ok (.iastore, 1) := by decide +kernel
theorem dMo_pool_260 : decode cMo_pool 260 = .ok (.iinc 8 1, 3) := by decide +kernel
theorem dMo_pool_263 : decode cMo_pool 263 = .ok (.goto (-85), 3) := by decide +kernel
theorem dMo_pool_266 : decode cMo_pool 266 = .ok (.iinc 7 1, 3) := by decide +kernel
theorem dMo_pool_269 : decode cMo_pool 269 = .ok (.goto (-100), 3) := by decide +kernel
theorem dMo_pool_272 : decode cMo_pool 272 = .ok (.iload_n 3, 1) := by decide +kernel
theorem dMo_pool_273 : decode cMo_pool 273 = .ok (.ifCond .eq 25, 3) := by decide +kernel
theorem dMo_pool_276 : decode cMo_pool 276 = .ok (.aload_n 0, 1) := by decide +kernel
theorem dMo_pool_277 : decode cMo_pool 277 = .ok (.iload 4, 2) := by decide +kernel
theorem dMo_pool_279 : decode cMo_pool 279 = .ok (.ldc 93, 2) := by decide +kernel
theorem dMo_pool_281 : decode cMo_pool 281 = .ok (.iload 6, 2) := by decide +kernel
theorem dMo_pool_283 : decode cMo_pool 283 = .ok (.iload 4, 2) := by decide +kernel
theorem dMo_pool_285 : decode cMo_pool 285 = .ok (.isub, 1) := by decide +kernel
theorem dMo_pool_286 : decode cMo_pool 286 = .ok (.iconst 4, 1) := by decide +kernel
theorem dMo_pool_287 : decode cMo_pool 287 = .ok (.isub, 1) := by decide +kernel
theorem dMo_pool_288 : decode cMo_pool 288 = .ok (.iconst 2, 1) := by decide +kernel
theorem dMo_pool_289 : decode cMo_pool 289 = .ok (.idiv, 1) := by decide +kernel
theorem dMo_pool_290 : decode cMo_pool 290 = .ok (.sipush 2047, 3) := by decide +kernel
theorem dMo_pool_293 : decode cMo_pool 293 = .ok (.iand, 1) := by decide +kernel
theorem dMo_pool_294 : decode cMo_pool 294 = .ok (.iadd, 1) := by decide +kernel
theorem dMo_pool_295 : decode cMo_pool 295 = .ok (.invokevirtual 85, 3) := by decide +kernel
theorem dMo_pool_298 : decode cMo_pool 298 = .ok (.aload_n 0, 1) := by decide +kernel
theorem dMo_pool_299 : decode cMo_pool 299 = .ok (.iload 6, 2) := by decide +kernel
theorem dMo_pool_301 : decode cMo_pool 301 = .ok (.putfield 78, 3) := by decide +kernel
theorem dMo_pool_304 : decode cMo_pool 304 = .ok (.aload_n 0, 1) := by decide +kernel
theorem dMo_pool_305 : decode cMo_pool 305 = .ok (.iconst (-1), 1) := by decide +kernel
theorem dMo_pool_306 : decode cMo_pool 306 = .ok (.putfield 72, 3) := by decide +kernel
theorem dMo_pool_309 : decode cMo_pool 309 = .ok (.aload_n 0, 1) := by decide +kernel
theorem dMo_pool_310 : decode cMo_pool 310 = .ok (.bipush 14, 2) := by decide +kernel
theorem dMo_pool_312 : decode cMo_pool 312 = .ok (.putfield 75, 3) := by decide +kernel
theorem dMo_pool_315 : decode cMo_pool 315 = .ok (.aload_n 0, 1) := by decide +kernel
theorem dMo_pool_316 : decode cMo_pool 316 = .ok (.dup, 1) := by decide +kernel
theorem dMo_pool_317 : decode cMo_pool 317 = .ok (.getfield 94, 3) := by decide +kernel
theorem dMo_pool_320 : decode cMo_pool 320 = .ok (.iconst 1, 1) := by decide +kernel
theorem dMo_pool_321 : decode cMo_pool 321 = .ok (.iadd, 1) := by decide +kernel
theorem dMo_pool_322 : decode cMo_pool 322 = .ok (.putfield 94, 3) := by decide +kernel
theorem dMo_pool_325 : decode cMo_pool 325 = .ok (.return_, 1) := by decide +kernel
theorem dMo_up_0 : decode cMo_up 0 = .ok (.iload_n 0, 1) := by decide +kernel
theorem dMo_up_1 : decode cMo_up 1 = .ok (.iconst 4, 1) := by decide +kernel
theorem dMo_up_2 : decode cMo_up 2 = .ok (.irem, 1) := by decide +kernel
theorem dMo_up_3 : decode cMo_up 3 = .ok (.ifCond .ne 7, 3) := by decide +kernel
theorem dMo_up_6 : decode cMo_up 6 = .ok (.iload_n 0, 1) := by decide +kernel
theorem dMo_up_7 : decode cMo_up 7 = .ok (.goto 6, 3) := by decide +kernel
theorem dMo_up_10 : decode cMo_up 10 = .ok (.iload_n 0, 1) := by decide +kernel
theorem dMo_up_11 : decode cMo_up 11 = .ok (.iconst 2, 1) := by decide +kernel
theorem dMo_up_12 : decode cMo_up 12 = .ok (.iadd, 1) := by decide +kernel
theorem dMo_up_13 : decode cMo_up 13 = .ok (.ireturn, 1) := by decide +kernel
theorem dMo_write_0 : decode cMo_write 0 = .ok (.aload_n 0, 1) := by decide +kernel
theorem dMo_write_1 : decode cMo_write 1 = .ok (.getfield 38, 3) := by decide +kernel
theorem dMo_write_4 : decode cMo_write 4 = .ok (.iload_n 1, 1) := by decide +kernel
theorem dMo_write_5 : decode cMo_write 5 = .ok (.iconst 2, 1) := by decide +kernel
theorem dMo_write_6 : decode cMo_write 6 = .ok (.idiv, 1) := by decide +kernel
theorem dMo_write_7 : decode cMo_write 7 = .ok (.iload_n 2, 1) := by decide +kernel
theorem dMo_write_8 : decode cMo_write 8 = .ok (.ldc 71, 2) := by decide +kernel
theorem dMo_write_10 : decode cMo_write 10 = .ok (.iand, 1) := by decide +kernel
theorem dMo_write_11 : decode cMo_write 11 = .ok (.iastore, 1) := by decide +kernel
