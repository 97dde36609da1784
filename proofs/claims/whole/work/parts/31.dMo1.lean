theorem dMo_write_12 : decode cMo_write 12 = .ok (.return_, 1) := by decide +kernel
theorem dMo_fresh_0 : decode cMo_fresh 0 = .ok (.iload_n 1, 1) := by decide +kernel
theorem dMo_fresh_1 : decode cMo_fresh 1 = .ok (.istore_n 3, 1) := by decide +kernel
theorem dMo_fresh_2 : decode cMo_fresh 2 = .ok (.iload_n 3, 1) := by decide +kernel
theorem dMo_fresh_3 : decode cMo_fresh 3 = .ok (.iload_n 2, 1) := by decide +kernel
theorem dMo_fresh_4 : decode cMo_fresh 4 = .ok (.if_icmp .ge 37, 3) := by decide +kernel
theorem dMo_fresh_7 : decode cMo_fresh 7 = .ok (.aload_n 0, 1) := by decide +kernel
theorem dMo_fresh_8 : decode cMo_fresh 8 = .ok (.getfield 7, 3) := by decide +kernel
theorem dMo_fresh_11 : decode cMo_fresh 11 = .ok (.iload_n 3, 1) := by decide +kernel
theorem dMo_fresh_12 : decode cMo_fresh 12 = .ok (.iaload, 1) := by decide +kernel
theorem dMo_fresh_13 : decode cMo_fresh 13 = .ok (.bipush 10, 2) := by decide +kernel
theorem dMo_fresh_15 : decode cMo_fresh 15 = .ok (.if_icmp .ne 20, 3) := by decide +kernel
theorem dMo_fresh_18 : decode cMo_fresh 18 = .ok (.aload_n 0, 1) := by decide +kernel
theorem dMo_fresh_19 : decode cMo_fresh 19 = .ok (.getfield 16, 3) := by decide +kernel
theorem dMo_fresh_22 : decode cMo_fresh 22 = .ok (.iload_n 3, 1) := by decide +kernel
theorem dMo_fresh_23 : decode cMo_fresh 23 = .ok (.iaload, 1) := by decide +kernel
theorem dMo_fresh_24 : decode cMo_fresh 24 = .ok (.aload_n 0, 1) := by decide +kernel
theorem dMo_fresh_25 : decode cMo_fresh 25 = .ok (.getfield 16, 3) := by decide +kernel
theorem dMo_fresh_28 : decode cMo_fresh 28 = .ok (.iload_n 2, 1) := by decide +kernel
theorem dMo_fresh_29 : decode cMo_fresh 29 = .ok (.iaload, 1) := by decide +kernel
theorem dMo_fresh_30 : decode cMo_fresh 30 = .ok (.if_icmp .ne 5, 3) := by decide +kernel
theorem dMo_fresh_33 : decode cMo_fresh 33 = .ok (.iconst 0, 1) := by decide +kernel
theorem dMo_fresh_34 : decode cMo_fresh 34 = .ok (.ireturn, 1) := by decide +kernel
theorem dMo_fresh_35 : decode cMo_fresh 35 = .ok (.iinc 3 1, 3) := by decide +kernel
theorem dMo_fresh_38 : decode cMo_fresh 38 = .ok (.goto (-36), 3) := by decide +kernel
theorem dMo_fresh_41 : decode cMo_fresh 41 = .ok (.iconst 1, 1) := by decide +kernel
theorem dMo_fresh_42 : decode cMo_fresh 42 = .ok (.ireturn, 1) := by decide +kernel
theorem dMo_place_0 : decode cMo_place 0 = .ok (.aload_n 0, 1) := by decide +kernel
theorem dMo_place_1 : decode cMo_place 1 = .ok (.getfield 72, 3) := by decide +kernel
theorem dMo_place_4 : decode cMo_place 4 = .ok (.iconst (-1), 1) := by decide +kernel
theorem dMo_place_5 : decode cMo_place 5 = .ok (.if_icmp .eq 36, 3) := by decide +kernel
theorem dMo_place_8 : decode cMo_place 8 = .ok (.aload_n 0, 1) := by decide +kernel
theorem dMo_place_9 : decode cMo_place 9 = .ok (.getfield 78, 3) := by decide +kernel
theorem dMo_place_12 : decode cMo_place 12 = .ok (.iconst 4, 1) := by decide +kernel
theorem dMo_place_13 : decode cMo_place 13 = .ok (.iadd, 1) := by decide +kernel
theorem dMo_place_14 : decode cMo_place 14 = .ok (.invokestatic 81, 3) := by decide +kernel
theorem dMo_place_17 : decode cMo_place 17 = .ok (.aload_n 0, 1) := by decide +kernel
theorem dMo_place_18 : decode cMo_place 18 = .ok (.getfield 25, 3) := by decide +kernel
theorem dMo_place_21 : decode cMo_place 21 = .ok (.aload_n 0, 1) := by decide +kernel
theorem dMo_place_22 : decode cMo_place 22 = .ok (.getfield 72, 3) := by decide +kernel
theorem dMo_place_25 : decode cMo_place 25 = .ok (.iaload, 1) := by decide +kernel
theorem dMo_place_26 : decode cMo_place 26 = .ok (.invokestatic 97, 3) := by decide +kernel
theorem dMo_place_29 : decode cMo_place 29 = .ok (.isub, 1) := by decide +kernel
theorem dMo_place_30 : decode cMo_place 30 = .ok (.sipush 1020, 3) := by decide +kernel
theorem dMo_place_33 : decode cMo_place 33 = .ok (.if_icmp .le 8, 3) := by decide +kernel
theorem dMo_place_36 : decode cMo_place 36 = .ok (.aload_n 0, 1) := by decide +kernel
theorem dMo_place_37 : decode cMo_place 37 = .ok (.iload_n 1, 1) := by decide +kernel
theorem dMo_place_38 : decode cMo_place 38 = .ok (.invokevirtual 100, 3) := by decide +kernel
theorem dMo_place_41 : decode cMo_place 41 = .ok (.aload_n 0, 1) := by decide +kernel
theorem dMo_place_42 : decode cMo_place 42 = .ok (.getfield 25, 3) := by decide +kernel
theorem dMo_place_45 : decode cMo_place 45 = .ok (.iload_n 1, 1) := by decide +kernel
theorem dMo_place_46 : decode cMo_place 46 = .ok (.aload_n 0, 1) := by decide +kernel
theorem dMo_place_47 : decode cMo_place 47 = .ok (.getfield 78, 3) := by decide +kernel
theorem dMo_place_50 : decode cMo_place 50 = .ok (.iastore, 1) := by decide +kernel
theorem dMo_place_51 : decode cMo_place 51 = .ok (.aload_n 0, 1) := by decide +kernel
theorem dMo_place_52 : decode cMo_place 52 = .ok (.getfield 22, 3) := by decide +kernel
theorem dMo_place_55 : decode cMo_place 55 = .ok (.iload_n 1, 1) := by decide +kernel
theorem dMo_place_56 : decode cMo_place 56 = .ok (.aload_n 0, 1) := by decide +kernel
theorem dMo_place_57 : decode cMo_place 57 = .ok (.getfield 22, 3) := by decide +kernel
theorem dMo_place_60 : decode cMo_place 60 = .ok (.iload_n 1, 1) := by decide +kernel
theorem dMo_place_61 : decode cMo_place 61 = .ok (.iaload, 1) := by decide +kernel
theorem dMo_place_62 : decode cMo_place 62 = .ok (.iconst (-1), 1) := by decide +kernel
theorem dMo_place_63 : decode cMo_place 63 = .ok (.if_icmp .ne 10, 3) := by decide +kernel
theorem dMo_place_66 : decode cMo_place 66 = .ok (.aload_n 0, 1) := by decide +kernel
theorem dMo_place_67 : decode cMo_place 67 = .ok (.getfield 78, 3) := by decide +kernel
theorem dMo_place_70 : decode cMo_place 70 = .ok (.goto 9, 3) := by decide +kernel
theorem dMo_place_73 : decode cMo_place 73 = .ok (.aload_n 0, 1) := by decide +kernel
theorem dMo_place_74 : decode cMo_place 74 = .ok (.getfield 22, 3) := by decide +kernel
theorem dMo_place_77 : decode cMo_place 77 = .ok (.iload_n 1, 1) := by decide +kernel
theorem dMo_place_78 : decode cMo_place 78 = .ok (.iaload, 1) := by decide +kernel
theorem dMo_place_79 : decode cMo_place 79 = .ok (.iastore, 1) := by decide +kernel
theorem dMo_place_80 : decode cMo_place 80 = .ok (.aload_n 0, 1) := by decide +kernel
theorem dMo_place_81 : decode cMo_place 81 = .ok (.dup, 1) := by decide +kernel
theorem dMo_place_82 : decode cMo_place 82 = .ok (.getfield 78, 3) := by decide +kernel
theorem dMo_place_85 : decode cMo_place 85 = .ok (.iconst 2, 1) := by decide +kernel
theorem dMo_place_86 : decode cMo_place 86 = .ok (.iadd, 1) := by decide +kernel
theorem dMo_place_87 : decode cMo_place 87 = .ok (.putfield 78, 3) := by decide +kernel
theorem dMo_place_90 : decode cMo_place 90 = .ok (.aload_n 0, 1) := by decide +kernel
theorem dMo_place_91 : decode cMo_place 91 = .ok (.aload_n 0, 1) := by decide +kernel
theorem dMo_place_92 : decode cMo_place 92 = .ok (.getfield 7, 3) := by decide +kernel
theorem dMo_place_95 : decode cMo_place 95 = .ok (.iload_n 1, 1) := by decide +kernel
theorem dMo_place_96 : decode cMo_place 96 = .ok (.iaload, 1) := by decide +kernel
theorem dMo_place_97 : decode cMo_place 97 = .ok (.putfield 75, 3) := by decide +kernel
theorem dMo_place_100 : decode cMo_place 100 = .ok (.return_, 1) := by decide +kernel
theorem dMo_base_0 : decode cMo_base 0 = .ok (.iload_n 0, 1) := by decide +kernel
theorem dMo_base_1 : decode cMo_base 1 = .ok (.iconst 4, 1) := by decide +kernel
theorem dMo_base_2 : decode cMo_base 2 = .ok (.iadd, 1) := by decide +kernel
theorem dMo_base_3 : decode cMo_base 3 = .ok (.iconst 4, 1) := by decide +kernel
theorem dMo_base_4 : decode cMo_base 4 = .ok (.idiv, 1) := by decide +kernel
theorem dMo_base_5 : decode cMo_base 5 = .ok (.iconst 4, 1) := by decide +kernel
theorem dMo_base_6 : decode cMo_base 6 = .ok (.imul, 1) := by decide +kernel
theorem dMo_base_7 : decode cMo_base 7 = .ok (.ireturn, 1) := by decide +kernel
theorem dMo_halfOf_0 : decode cMo_halfOf 0 = .ok (.aload_n 0, 1) := by decide +kernel
theorem dMo_halfOf_1 : decode cMo_halfOf 1 = .ok (.getfield 13, 3) := by decide +kernel
theorem dMo_halfOf_4 : decode cMo_halfOf 4 = .ok (.iload_n 1, 1) := by decide +kernel
theorem dMo_halfOf_5 : decode cMo_halfOf 5 = .ok (.iaload, 1) := by decide +kernel
theorem dMo_halfOf_6 : decode cMo_halfOf 6 = .ok (.istore_n 2, 1) := by decide +kernel
theorem dMo_halfOf_7 : decode cMo_halfOf 7 = .ok (.aload_n 0, 1) := by decide +kernel
theorem dMo_halfOf_8 : decode cMo_halfOf 8 = .ok (.getfield 16, 3) := by decide +kernel
theorem dMo_halfOf_11 : decode cMo_halfOf 11 = .ok (.iload_n 1, 1) := by decide +kernel
theorem dMo_halfOf_12 : decode cMo_halfOf 12 = .ok (.iaload, 1) := by decide +kernel
theorem dMo_halfOf_13 : decode cMo_halfOf 13 = .ok (.istore_n 3, 1) := by decide +kernel
theorem dMo_halfOf_14 : decode cMo_halfOf 14 = .ok (.aload_n 0, 1) := by decide +kernel
theorem dMo_halfOf_15 : decode cMo_halfOf 15 = .ok (.getfield 19, 3) := by decide +kernel
theorem dMo_halfOf_18 : decode cMo_halfOf 18 = .ok (.iload_n 1, 1) := by decide +kernel
theorem dMo_halfOf_19 : decode cMo_halfOf 19 = .ok (.iaload, 1) := by decide +kernel
theorem dMo_halfOf_20 : decode cMo_halfOf 20 = .ok (.istore 4, 2) := by decide +kernel
theorem dMo_halfOf_22 : decode cMo_halfOf 22 = .ok (.aload_n 0, 1) := by decide +kernel
theorem dMo_halfOf_23 : decode cMo_halfOf 23 = .ok (.getfield 7, 3) := by decide +kernel
theorem dMo_halfOf_26 : decode cMo_halfOf 26 = .ok (.iload_n 1, 1) := by decide +kernel
theorem dMo_halfOf_27 : decode cMo_halfOf 27 = .ok (.iaload, 1) := by decide +kernel
theorem dMo_halfOf_28 : decode cMo_halfOf 28 = .ok (.tableswitch 238 1 15 #[76, 76, 76, 76, 101, 118, 135, 152, 169, 186, 238, 238, 238, 238, 235], 76) := by decide +kernel
theorem dMo_halfOf_104 : decode cMo_halfOf 104 = .ok (.sipush 8192, 3) := by decide +kernel
theorem dMo_halfOf_107 : decode cMo_halfOf 107 = .ok (.sipush 2048, 3) := by decide +kernel
theorem dMo_halfOf_110 : decode cMo_halfOf 110 = .ok (.aload_n 0, 1) := by decide +kernel
theorem dMo_halfOf_111 : decode cMo_halfOf 111 = .ok (.getfield 7, 3) := by decide +kernel
theorem dMo_halfOf_114 : decode cMo_halfOf 114 = .ok (.iload_n 1, 1) := by decide +kernel
theorem dMo_halfOf_115 : decode cMo_halfOf 115 = .ok (.iaload, 1) := by decide +kernel
theorem dMo_halfOf_116 : decode cMo_halfOf 116 = .ok (.iconst 1, 1) := by decide +kernel
theorem dMo_halfOf_117 : decode cMo_halfOf 117 = .ok (.isub, 1) := by decide +kernel
theorem dMo_halfOf_118 : decode cMo_halfOf 118 = .ok (.imul, 1) := by decide +kernel
theorem dMo_halfOf_119 : decode cMo_halfOf 119 = .ok (.iadd, 1) := by decide +kernel
theorem dMo_halfOf_120 : decode cMo_halfOf 120 = .ok (.sipush 256, 3) := by decide +kernel
theorem dMo_halfOf_123 : decode cMo_halfOf 123 = .ok (.iload_n 2, 1) := by decide +kernel
theorem dMo_halfOf_124 : decode cMo_halfOf 124 = .ok (.imul, 1) := by decide +kernel
theorem dMo_halfOf_125 : decode cMo_halfOf 125 = .ok (.iadd, 1) := by decide +kernel
theorem dMo_halfOf_126 : decode cMo_halfOf 126 = .ok (.iload_n 3, 1) := by decide +kernel
theorem dMo_halfOf_127 : decode cMo_halfOf 127 = .ok (.iadd, 1) := by decide +kernel
theorem dMo_halfOf_128 : decode cMo_halfOf 128 = .ok (.ireturn, 1) := by decide +kernel
theorem dMo_halfOf_129 : decode cMo_halfOf 129 = .ok (.sipush 6144, 3) := by decide +kernel
theorem dMo_halfOf_132 : decode cMo_halfOf 132 = .ok (.bipush 64, 2) := by decide +kernel
theorem dMo_halfOf_134 : decode cMo_halfOf 134 = .ok (.iload 4, 2) := by decide +kernel
theorem dMo_halfOf_136 : decode cMo_halfOf 136 = .ok (.imul, 1) := by decide +kernel
theorem dMo_halfOf_137 : decode cMo_halfOf 137 = .ok (.iadd, 1) := by decide +kernel
theorem dMo_halfOf_138 : decode cMo_halfOf 138 = .ok (.bipush 8, 2) := by decide +kernel
theorem dMo_halfOf_140 : decode cMo_halfOf 140 = .ok (.iload_n 3, 1) := by decide +kernel
theorem dMo_halfOf_141 : decode cMo_halfOf 141 = .ok (.imul, 1) := by decide +kernel
theorem dMo_halfOf_142 : decode cMo_halfOf 142 = .ok (.iadd, 1) := by decide +kernel
theorem dMo_halfOf_143 : decode cMo_halfOf 143 = .ok (.iload_n 2, 1) := by decide +kernel
theorem dMo_halfOf_144 : decode cMo_halfOf 144 = .ok (.iadd, 1) := by decide +kernel
theorem dMo_halfOf_145 : decode cMo_halfOf 145 = .ok (.ireturn, 1) := by decide +kernel
theorem dMo_halfOf_146 : decode cMo_halfOf 146 = .ok (.sipush 6656, 3) := by decide +kernel
theorem dMo_halfOf_149 : decode cMo_halfOf 149 = .ok (.bipush 64, 2) := by decide +kernel
theorem dMo_halfOf_151 : decode cMo_halfOf 151 = .ok (.iload 4, 2) := by decide +kernel
theorem dMo_halfOf_153 : decode cMo_halfOf 153 = .ok (.imul, 1) := by decide +kernel
theorem dMo_halfOf_154 : decode cMo_halfOf 154 = .ok (.iadd, 1) := by decide +kernel
theorem dMo_halfOf_155 : decode cMo_halfOf 155 = .ok (.bipush 8, 2) := by decide +kernel
theorem dMo_halfOf_157 : decode cMo_halfOf 157 = .ok (.iload_n 3, 1) := by decide +kernel
theorem dMo_halfOf_158 : decode cMo_halfOf 158 = .ok (.imul, 1) := by decide +kernel
theorem dMo_halfOf_159 : decode cMo_halfOf 159 = .ok (.iadd, 1) := by decide +kernel
theorem dMo_halfOf_160 : decode cMo_halfOf 160 = .ok (.iload_n 2, 1) := by decide +kernel
theorem dMo_halfOf_161 : decode cMo_halfOf 161 = .ok (.iadd, 1) := by decide +kernel
theorem dMo_halfOf_162 : decode cMo_halfOf 162 = .ok (.ireturn, 1) := by decide +kernel
theorem dMo_halfOf_163 : decode cMo_halfOf 163 = .ok (.sipush 16384, 3) := by decide +kernel
theorem dMo_halfOf_166 : decode cMo_halfOf 166 = .ok (.bipush 64, 2) := by decide +kernel
theorem dMo_halfOf_168 : decode cMo_halfOf 168 = .ok (.iload 4, 2) := by decide +kernel
theorem dMo_halfOf_170 : decode cMo_halfOf 170 = .ok (.imul, 1) := by decide +kernel
theorem dMo_halfOf_171 : decode cMo_halfOf 171 = .ok (.iadd, 1) := by decide +kernel
theorem dMo_halfOf_172 : decode cMo_halfOf 172 = .ok (.bipush 8, 2) := by decide +kernel
theorem dMo_halfOf_174 : decode cMo_halfOf 174 = .ok (.iload_n 3, 1) := by decide +kernel
theorem dMo_halfOf_175 : decode cMo_halfOf 175 = .ok (.imul, 1) := by decide +kernel
theorem dMo_halfOf_176 : decode cMo_halfOf 176 = .ok (.iadd, 1) := by decide +kernel
theorem dMo_halfOf_177 : decode cMo_halfOf 177 = .ok (.iload_n 2, 1) := by decide +kernel
theorem dMo_halfOf_178 : decode cMo_halfOf 178 = .ok (.iadd, 1) := by decide +kernel
theorem dMo_halfOf_179 : decode cMo_halfOf 179 = .ok (.ireturn, 1) := by decide +kernel
theorem dMo_halfOf_180 : decode cMo_halfOf 180 = .ok (.sipush 24576, 3) := by decide +kernel
theorem dMo_halfOf_183 : decode cMo_halfOf 183 = .ok (.bipush 64, 2) := by decide +kernel
theorem dMo_halfOf_185 : decode cMo_halfOf 185 = .ok (.iload 4, 2) := by decide +kernel
theorem dMo_halfOf_187 : decode cMo_halfOf 187 = .ok (.imul, 1) := by decide +kernel
theorem dMo_halfOf_188 : decode cMo_halfOf 188 = .ok (.iadd, 1) := by decide +kernel
theorem dMo_halfOf_189 : decode cMo_halfOf 189 = .ok (.bipush 8, 2) := by decide +kernel
theorem dMo_halfOf_191 : decode cMo_halfOf 191 = .ok (.iload_n 3, 1) := by decide +kernel
theorem dMo_halfOf_192 : decode cMo_halfOf 192 = .ok (.imul, 1) := by decide +kernel
theorem dMo_halfOf_193 : decode cMo_halfOf 193 = .ok (.iadd, 1) := by decide +kernel
theorem dMo_halfOf_194 : decode cMo_halfOf 194 = .ok (.iload_n 2, 1) := by decide +kernel
theorem dMo_halfOf_195 : decode cMo_halfOf 195 = .ok (.iadd, 1) := by decide +kernel
theorem dMo_halfOf_196 : decode cMo_halfOf 196 = .ok (.ireturn, 1) := by decide +kernel
theorem dMo_halfOf_197 : decode cMo_halfOf 197 = .ok (.sipush 26624, 3) := by decide +kernel
theorem dMo_halfOf_200 : decode cMo_halfOf 200 = .ok (.bipush 64, 2) := by decide +kernel
theorem dMo_halfOf_202 : decode cMo_halfOf 202 = .ok (.iload 4, 2) := by decide +kernel
theorem dMo_halfOf_204 : decode cMo_halfOf 204 = .ok (.imul, 1) := by decide +kernel
theorem dMo_halfOf_205 : decode cMo_halfOf 205 = .ok (.iadd, 1) := by decide +kernel
theorem dMo_halfOf_206 : decode cMo_halfOf 206 = .ok (.bipush 8, 2) := by decide +kernel
theorem dMo_halfOf_208 : decode cMo_halfOf 208 = .ok (.iload_n 3, 1) := by decide +kernel
theorem dMo_halfOf_209 : decode cMo_halfOf 209 = .ok (.imul, 1) := by decide +kernel
theorem dMo_halfOf_210 : decode cMo_halfOf 210 = .ok (.iadd, 1) := by decide +kernel
theorem dMo_halfOf_211 : decode cMo_halfOf 211 = .ok (.iload_n 2, 1) := by decide +kernel
theorem dMo_halfOf_212 : decode cMo_halfOf 212 = .ok (.iadd, 1) := by decide +kernel
theorem dMo_halfOf_213 : decode cMo_halfOf 213 = .ok (.ireturn, 1) := by decide +kernel
theorem dMo_halfOf_214 : decode cMo_halfOf 214 = .ok (.aload_n 0, 1) := by decide +kernel
theorem dMo_halfOf_215 : decode cMo_halfOf 215 = .ok (.getfield 28, 3) := by decide +kernel
theorem dMo_halfOf_218 : decode cMo_halfOf 218 = .ok (.iload_n 1, 1) := by decide +kernel
theorem dMo_halfOf_219 : decode cMo_halfOf 219 = .ok (.iaload, 1) := by decide +kernel
theorem dMo_halfOf_220 : decode cMo_halfOf 220 = .ok (.aload_n 0, 1) := by decide +kernel
theorem dMo_halfOf_221 : decode cMo_halfOf 221 = .ok (.getfield 22, 3) := by decide +kernel
theorem dMo_halfOf_224 : decode cMo_halfOf 224 = .ok (.iload_n 1, 1) := by decide +kernel
theorem dMo_halfOf_225 : decode cMo_halfOf 225 = .ok (.iaload, 1) := by decide +kernel
theorem dMo_halfOf_226 : decode cMo_halfOf 226 = .ok (.invokestatic 97, 3) := by decide +kernel
theorem dMo_halfOf_229 : decode cMo_halfOf 229 = .ok (.isub, 1) := by decide +kernel
theorem dMo_halfOf_230 : decode cMo_halfOf 230 = .ok (.istore 5, 2) := by decide +kernel
theorem dMo_halfOf_232 : decode cMo_halfOf 232 = .ok (.iload 5, 2) := by decide +kernel
theorem dMo_halfOf_234 : decode cMo_halfOf 234 = .ok (.iconst 0, 1) := by decide +kernel
theorem dMo_halfOf_235 : decode cMo_halfOf 235 = .ok (.sipush 1023, 3) := by decide +kernel
theorem dMo_halfOf_238 : decode cMo_halfOf 238 = .ok (.invokestatic 53, 3) := by decide +kernel
theorem dMo_halfOf_241 : decode cMo_halfOf 241 = .ok (.ifCond .eq 7, 3) := by decide +kernel
theorem dMo_halfOf_244 : decode cMo_halfOf 244 = .ok (.iconst (-1), 1) := by decide +kernel
theorem dMo_halfOf_245 : decode cMo_halfOf 245 = .ok (.goto 17, 3) := by decide +kernel
theorem dMo_halfOf_248 : decode cMo_halfOf 248 = .ok (.sipush 18432, 3) := by decide +kernel
theorem dMo_halfOf_251 : decode cMo_halfOf 251 = .ok (.sipush 256, 3) := by decide +kernel
theorem dMo_halfOf_254 : decode cMo_halfOf 254 = .ok (.iload_n 2, 1) := by decide +kernel
theorem dMo_halfOf_255 : decode cMo_halfOf 255 = .ok (.imul, 1) := by decide +kernel
theorem dMo_halfOf_256 : decode cMo_halfOf 256 = .ok (.iadd, 1) := by decide +kernel
theorem dMo_halfOf_257 : decode cMo_halfOf 257 = .ok (.iload 5, 2) := by decide +kernel
theorem dMo_halfOf_259 : decode cMo_halfOf 259 = .ok (.iconst 4, 1) := by decide +kernel
theorem dMo_halfOf_260 : decode cMo_halfOf 260 = .ok (.idiv, 1) := by decide +kernel
theorem dMo_halfOf_261 : decode cMo_halfOf 261 = .ok (.iadd, 1) := by decide +kernel
theorem dMo_halfOf_262 : decode cMo_halfOf 262 = .ok (.ireturn, 1) := by decide +kernel
theorem dMo_halfOf_263 : decode cMo_halfOf 263 = .ok (.ldc 107, 2) := by decide +kernel
theorem dMo_halfOf_265 : decode cMo_halfOf 265 = .ok (.ireturn, 1) := by decide +kernel
theorem dMo_halfOf_266 : decode cMo_halfOf 266 = .ok (.aload_n 0, 1) := by decide +kernel
theorem dMo_halfOf_267 : decode cMo_halfOf 267 = .ok (.getfield 31, 3) := by decide +kernel
theorem dMo_halfOf_270 : decode cMo_halfOf 270 = .ok (.iload_n 2, 1) := by decide +kernel
theorem dMo_halfOf_271 : decode cMo_halfOf 271 = .ok (.iaload, 1) := by decide +kernel
theorem dMo_halfOf_272 : decode cMo_halfOf 272 = .ok (.iconst (-1), 1) := by decide +kernel
theorem dMo_halfOf_273 : decode cMo_halfOf 273 = .ok (.if_icmp .ne 5, 3) := by decide +kernel
theorem dMo_halfOf_276 : decode cMo_halfOf 276 = .ok (.iconst (-1), 1) := by decide +kernel
theorem dMo_halfOf_277 : decode cMo_halfOf 277 = .ok (.ireturn, 1) := by decide +kernel
theorem dMo_halfOf_278 : decode cMo_halfOf 278 = .ok (.aload_n 0, 1) := by decide +kernel
theorem dMo_halfOf_279 : decode cMo_halfOf 279 = .ok (.iload_n 2, 1) := by decide +kernel
theorem dMo_halfOf_280 : decode cMo_halfOf 280 = .ok (.invokevirtual 108, 3) := by decide +kernel
theorem dMo_halfOf_283 : decode cMo_halfOf 283 = .ok (.aload_n 0, 1) := by decide +kernel
theorem dMo_halfOf_284 : decode cMo_halfOf 284 = .ok (.getfield 22, 3) := by decide +kernel
theorem dMo_halfOf_287 : decode cMo_halfOf 287 = .ok (.iload_n 1, 1) := by decide +kernel
theorem dMo_halfOf_288 : decode cMo_halfOf 288 = .ok (.iaload, 1) := by decide +kernel
theorem dMo_halfOf_289 : decode cMo_halfOf 289 = .ok (.isub, 1) := by decide +kernel
theorem dMo_halfOf_290 : decode cMo_halfOf 290 = .ok (.iconst 4, 1) := by decide +kernel
theorem dMo_halfOf_291 : decode cMo_halfOf 291 = .ok (.isub, 1) := by decide +kernel
theorem dMo_halfOf_292 : decode cMo_halfOf 292 = .ok (.istore 5, 2) := by decide +kernel
theorem dMo_halfOf_294 : decode cMo_halfOf 294 = .ok (.aload_n 0, 1) := by decide +kernel
theorem dMo_halfOf_295 : decode cMo_halfOf 295 = .ok (.getfield 7, 3) := by decide +kernel
theorem dMo_halfOf_298 : decode cMo_halfOf 298 = .ok (.iload_n 1, 1) := by decide +kernel
theorem dMo_halfOf_299 : decode cMo_halfOf 299 = .ok (.iaload, 1) := by decide +kernel
theorem dMo_halfOf_300 : decode cMo_halfOf 300 = .ok (.bipush 11, 2) := by decide +kernel
theorem dMo_halfOf_302 : decode cMo_halfOf 302 = .ok (.if_icmp .ne 37, 3) := by decide +kernel
theorem dMo_halfOf_305 : decode cMo_halfOf 305 = .ok (.iload 5, 2) := by decide +kernel
theorem dMo_halfOf_307 : decode cMo_halfOf 307 = .ok (.sipush (-2048), 3) := by decide +kernel
theorem dMo_halfOf_310 : decode cMo_halfOf 310 = .ok (.sipush 2046, 3) := by decide +kernel
theorem dMo_halfOf_313 : decode cMo_halfOf 313 = .ok (.invokestatic 53, 3) := by decide +kernel
theorem dMo_halfOf_316 : decode cMo_halfOf 316 = .ok (.ifCond .eq 7, 3) := by decide +kernel
theorem dMo_halfOf_319 : decode cMo_halfOf 319 = .ok (.iconst (-1), 1) := by decide +kernel
theorem dMo_halfOf_320 : decode cMo_halfOf 320 = .ok (.goto 18, 3) := by decide +kernel
theorem dMo_halfOf_323 : decode cMo_halfOf 323 = .ok (.ldc 93, 2) := by decide +kernel
theorem dMo_halfOf_325 : decode cMo_halfOf 325 = .ok (.iload 5, 2) := by decide +kernel
theorem dMo_halfOf_327 : decode cMo_halfOf 327 = .ok (.iconst 2, 1) := by decide +kernel
theorem dMo_halfOf_328 : decode cMo_halfOf 328 = .ok (.idiv, 1) := by decide +kernel
theorem dMo_halfOf_329 : decode cMo_halfOf 329 = .ok (.sipush 2048, 3) := by decide +kernel
theorem dMo_halfOf_332 : decode cMo_halfOf 332 = .ok (.iadd, 1) := by decide +kernel
theorem dMo_halfOf_333 : decode cMo_halfOf 333 = .ok (.sipush 2048, 3) := by decide +kernel
theorem dMo_halfOf_336 : decode cMo_halfOf 336 = .ok (.irem, 1) := by decide +kernel
theorem dMo_halfOf_337 : decode cMo_halfOf 337 = .ok (.iadd, 1) := by decide +kernel
theorem dMo_halfOf_338 : decode cMo_halfOf 338 = .ok (.ireturn, 1) := by decide +kernel
theorem dMo_halfOf_339 : decode cMo_halfOf 339 = .ok (.iload 5, 2) := by decide +kernel
theorem dMo_halfOf_341 : decode cMo_halfOf 341 = .ok (.sipush (-256), 3) := by decide +kernel
theorem dMo_halfOf_344 : decode cMo_halfOf 344 = .ok (.sipush 254, 3) := by decide +kernel
theorem dMo_halfOf_347 : decode cMo_halfOf 347 = .ok (.invokestatic 53, 3) := by decide +kernel
theorem dMo_halfOf_350 : decode cMo_halfOf 350 = .ok (.ifCond .eq 7, 3) := by decide +kernel
theorem dMo_halfOf_353 : decode cMo_halfOf 353 = .ok (.iconst (-1), 1) := by decide +kernel
theorem dMo_halfOf_354 : decode cMo_halfOf 354 = .ok (.goto 25, 3) := by decide +kernel
theorem dMo_halfOf_357 : decode cMo_halfOf 357 = .ok (.ldc 111, 2) := by decide +kernel
theorem dMo_halfOf_359 : decode cMo_halfOf 359 = .ok (.sipush 256, 3) := by decide +kernel
theorem dMo_halfOf_362 : decode cMo_halfOf 362 = .ok (.iload 4, 2) := by decide +kernel
theorem dMo_halfOf_364 : decode cMo_halfOf 364 = .ok (.imul, 1) := by decide +kernel
theorem dMo_halfOf_365 : decode cMo_halfOf 365 = .ok (.iadd, 1) := by decide +kernel
theorem dMo_halfOf_366 : decode cMo_halfOf 366 = .ok (.iload 5, 2) := by decide +kernel
theorem dMo_halfOf_368 : decode cMo_halfOf 368 = .ok (.iconst 2, 1) := by decide +kernel
theorem dMo_halfOf_369 : decode cMo_halfOf 369 = .ok (.idiv, 1) := by decide +kernel
theorem dMo_halfOf_370 : decode cMo_halfOf 370 = .ok (.sipush 256, 3) := by decide +kernel
theorem dMo_halfOf_373 : decode cMo_halfOf 373 = .ok (.iadd, 1) := by decide +kernel
theorem dMo_halfOf_374 : decode cMo_halfOf 374 = .ok (.sipush 256, 3) := by decide +kernel
theorem dMo_halfOf_377 : decode cMo_halfOf 377 = .ok (.irem, 1) := by decide +kernel
theorem dMo_halfOf_378 : decode cMo_halfOf 378 = .ok (.iadd, 1) := by decide +kernel
theorem dMo_halfOf_379 : decode cMo_halfOf 379 = .ok (.ireturn, 1) := by decide +kernel
theorem dMo_address_0 : decode cMo_address 0 = .ok (.aload_n 0, 1) := by decide +kernel
theorem dMo_address_1 : decode cMo_address 1 = .ok (.getfield 31, 3) := by decide +kernel
theorem dMo_address_4 : decode cMo_address 4 = .ok (.iload_n 1, 1) := by decide +kernel
theorem dMo_address_5 : decode cMo_address 5 = .ok (.iaload, 1) := by decide +kernel
theorem dMo_address_6 : decode cMo_address 6 = .ok (.istore_n 2, 1) := by decide +kernel
theorem dMo_address_7 : decode cMo_address 7 = .ok (.iload_n 2, 1) := by decide +kernel
theorem dMo_address_8 : decode cMo_address 8 = .ok (.aload_n 0, 1) := by decide +kernel
theorem dMo_address_9 : decode cMo_address 9 = .ok (.getfield 68, 3) := by decide +kernel
theorem dMo_address_12 : decode cMo_address 12 = .ok (.if_icmp .ge 19, 3) := by decide +kernel
theorem dMo_address_15 : decode cMo_address 15 = .ok (.aload_n 0, 1) := by decide +kernel
theorem dMo_address_16 : decode cMo_address 16 = .ok (.getfield 22, 3) := by decide +kernel
theorem dMo_address_19 : decode cMo_address 19 = .ok (.iload_n 2, 1) := by decide +kernel
theorem dMo_address_20 : decode cMo_address 20 = .ok (.iaload, 1) := by decide +kernel
theorem dMo_address_21 : decode cMo_address 21 = .ok (.iconst (-1), 1) := by decide +kernel
theorem dMo_address_22 : decode cMo_address 22 = .ok (.if_icmp .ne 9, 3) := by decide +kernel
theorem dMo_address_25 : decode cMo_address 25 = .ok (.iinc 2 1, 3) := by decide +kernel
theorem dMo_address_28 : decode cMo_address 28 = .ok (.goto (-21), 3) := by decide +kernel
theorem dMo_address_31 : decode cMo_address 31 = .ok (.iload_n 2, 1) := by decide +kernel
theorem dMo_address_32 : decode cMo_address 32 = .ok (.aload_n 0, 1) := by decide +kernel
theorem dMo_address_33 : decode cMo_address 33 = .ok (.getfield 68, 3) := by decide +kernel
theorem dMo_address_36 : decode cMo_address 36 = .ok (.if_icmp .ge 12, 3) := by decide +kernel
theorem dMo_address_39 : decode cMo_address 39 = .ok (.aload_n 0, 1) := by decide +kernel
theorem dMo_address_40 : decode cMo_address 40 = .ok (.getfield 22, 3) := by decide +kernel
theorem dMo_address_43 : decode cMo_address 43 = .ok (.iload_n 2, 1) := by decide +kernel
theorem dMo_address_44 : decode cMo_address 44 = .ok (.iaload, 1) := by decide +kernel
theorem dMo_address_45 : decode cMo_address 45 = .ok (.goto 7, 3) := by decide +kernel
theorem dMo_address_48 : decode cMo_address 48 = .ok (.aload_n 0, 1) := by decide +kernel
theorem dMo_address_49 : decode cMo_address 49 = .ok (.getfield 78, 3) := by decide +kernel
theorem dMo_address_52 : decode cMo_address 52 = .ok (.ireturn, 1) := by decide +kernel
theorem dMo_begin_0 : decode cMo_begin 0 = .ok (.iconst 0, 1) := by decide +kernel
theorem dMo_begin_1 : decode cMo_begin 1 = .ok (.istore_n 1, 1) := by decide +kernel
theorem dMo_begin_2 : decode cMo_begin 2 = .ok (.iload_n 1, 1) := by decide +kernel
theorem dMo_begin_3 : decode cMo_begin 3 = .ok (.bipush 8, 2) := by decide +kernel
theorem dMo_begin_5 : decode cMo_begin 5 = .ok (.if_icmp .ge 16, 3) := by decide +kernel
theorem dMo_begin_8 : decode cMo_begin 8 = .ok (.aload_n 0, 1) := by decide +kernel
theorem dMo_begin_9 : decode cMo_begin 9 = .ok (.getfield 44, 3) := by decide +kernel
theorem dMo_begin_12 : decode cMo_begin 12 = .ok (.iload_n 1, 1) := by decide +kernel
theorem dMo_begin_13 : decode cMo_begin 13 = .ok (.iconst 0, 1) := by decide +kernel
theorem dMo_begin_14 : decode cMo_begin 14 = .ok (.iastore, 1) := by decide +kernel
theorem dMo_begin_15 : decode cMo_begin 15 = .ok (.iinc 1 1, 3) := by decide +kernel
theorem dMo_begin_18 : decode cMo_begin 18 = .ok (.goto (-16), 3) := by decide +kernel
theorem dMo_begin_21 : decode cMo_begin 21 = .ok (.iconst 0, 1) := by decide +kernel
theorem dMo_begin_22 : decode cMo_begin 22 = .ok (.istore_n 1, 1) := by decide +kernel
theorem dMo_begin_23 : decode cMo_begin 23 = .ok (.iload_n 1, 1) := by decide +kernel
theorem dMo_begin_24 : decode cMo_begin 24 = .ok (.bipush 32, 2) := by decide +kernel
theorem dMo_begin_26 : decode cMo_begin 26 = .ok (.if_icmp .ge 16, 3) := by decide +kernel
theorem dMo_begin_29 : decode cMo_begin 29 = .ok (.aload_n 0, 1) := by decide +kernel
theorem dMo_begin_30 : decode cMo_begin 30 = .ok (.getfield 47, 3) := by decide +kernel
theorem dMo_begin_33 : decode cMo_begin 33 = .ok (.iload_n 1, 1) := by decide +kernel
theorem dMo_begin_34 : decode cMo_begin 34 = .ok (.iconst 0, 1) := by decide +kernel
theorem dMo_begin_35 : decode cMo_begin 35 = .ok (.iastore, 1) := by decide +kernel
theorem dMo_begin_36 : decode cMo_begin 36 = .ok (.iinc 1 1, 3) := by decide +kernel
theorem dMo_begin_39 : decode cMo_begin 39 = .ok (.goto (-16), 3) := by decide +kernel
theorem dMo_begin_42 : decode cMo_begin 42 = .ok (.aload_n 0, 1) := by decide +kernel
theorem dMo_begin_43 : decode cMo_begin 43 = .ok (.iconst 0, 1) := by decide +kernel
theorem dMo_begin_44 : decode cMo_begin 44 = .ok (.putfield 127, 3) := by decide +kernel
theorem dMo_begin_47 : decode cMo_begin 47 = .ok (.aload_n 0, 1) := by decide +kernel
theorem dMo_begin_48 : decode cMo_begin 48 = .ok (.iconst 0, 1) := by decide +kernel
theorem dMo_begin_49 : decode cMo_begin 49 = .ok (.putfield 131, 3) := by decide +kernel
theorem dMo_begin_52 : decode cMo_begin 52 = .ok (.aload_n 0, 1) := by decide +kernel
theorem dMo_begin_53 : decode cMo_begin 53 = .ok (.iconst 0, 1) := by decide +kernel
theorem dMo_begin_54 : decode cMo_begin 54 = .ok (.putfield 134, 3) := by decide +kernel
theorem dMo_begin_57 : decode cMo_begin 57 = .ok (.aload_n 0, 1) := by decide +kernel
theorem dMo_begin_58 : decode cMo_begin 58 = .ok (.iconst 0, 1) := by decide +kernel
theorem dMo_begin_59 : decode cMo_begin 59 = .ok (.putfield 137, 3) := by decide +kernel
theorem dMo_begin_62 : decode cMo_begin 62 = .ok (.aload_n 0, 1) := by decide +kernel
theorem dMo_begin_63 : decode cMo_begin 63 = .ok (.iconst 0, 1) := by decide +kernel
theorem dMo_begin_64 : decode cMo_begin 64 = .ok (.putfield 140, 3) := by decide +kernel
theorem dMo_begin_67 : decode cMo_begin 67 = .ok (.aload_n 0, 1) := by decide +kernel
theorem dMo_begin_68 : decode cMo_begin 68 = .ok (.iconst 0, 1) := by decide +kernel
theorem dMo_begin_69 : decode cMo_begin 69 = .ok (.putfield 142, 3) := by decide +kernel
theorem dMo_begin_72 : decode cMo_begin 72 = .ok (.return_, 1) := by decide +kernel
theorem dMo_refused_0 : decode cMo_refused 0 = .ok (.aload_n 0, 1) := by decide +kernel
theorem dMo_refused_1 : decode cMo_refused 1 = .ok (.iconst 0, 1) := by decide +kernel
theorem dMo_refused_2 : decode cMo_refused 2 = .ok (.putfield 50, 3) := by decide +kernel
theorem dMo_refused_5 : decode cMo_refused 5 = .ok (.aload_n 0, 1) := by decide +kernel
theorem dMo_refused_6 : decode cMo_refused 6 = .ok (.getfield 34, 3) := by decide +kernel
theorem dMo_refused_9 : decode cMo_refused 9 = .ok (.ireturn, 1) := by decide +kernel
theorem dMo_half_0 : decode cMo_half 0 = .ok (.aload_n 0, 1) := by decide +kernel
theorem dMo_half_1 : decode cMo_half 1 = .ok (.iconst 0, 1) := by decide +kernel
theorem dMo_half_2 : decode cMo_half 2 = .ok (.putfield 50, 3) := by decide +kernel
theorem dMo_half_5 : decode cMo_half 5 = .ok (.iload_n 1, 1) := by decide +kernel
theorem dMo_half_6 : decode cMo_half 6 = .ok (.iconst 0, 1) := by decide +kernel
theorem dMo_half_7 : decode cMo_half 7 = .ok (.aload_n 0, 1) := by decide +kernel
theorem dMo_half_8 : decode cMo_half 8 = .ok (.getfield 118, 3) := by decide +kernel
theorem dMo_half_11 : decode cMo_half 11 = .ok (.iconst 1, 1) := by decide +kernel
theorem dMo_half_12 : decode cMo_half 12 = .ok (.isub, 1) := by decide +kernel
theorem dMo_half_13 : decode cMo_half 13 = .ok (.invokestatic 53, 3) := by decide +kernel
theorem dMo_half_16 : decode cMo_half 16 = .ok (.ifCond .eq 7, 3) := by decide +kernel
theorem dMo_half_19 : decode cMo_half 19 = .ok (.iconst 0, 1) := by decide +kernel
theorem dMo_half_20 : decode cMo_half 20 = .ok (.goto 10, 3) := by decide +kernel
theorem dMo_half_23 : decode cMo_half 23 = .ok (.aload_n 0, 1) := by decide +kernel
theorem dMo_half_24 : decode cMo_half 24 = .ok (.getfield 41, 3) := by decide +kernel
theorem dMo_half_27 : decode cMo_half 27 = .ok (.iload_n 1, 1) := by decide +kernel
theorem dMo_half_28 : decode cMo_half 28 = .ok (.iaload, 1) := by decide +kernel
theorem dMo_half_29 : decode cMo_half 29 = .ok (.i2s, 1) := by decide +kernel
theorem dMo_half_30 : decode cMo_half 30 = .ok (.ireturn, 1) := by decide +kernel
theorem dMo_size_0 : decode cMo_size 0 = .ok (.aload_n 0, 1) := by decide +kernel
theorem dMo_size_1 : decode cMo_size 1 = .ok (.iconst 0, 1) := by decide +kernel
theorem dMo_size_2 : decode cMo_size 2 = .ok (.putfield 50, 3) := by decide +kernel
theorem dMo_size_5 : decode cMo_size 5 = .ok (.aload_n 0, 1) := by decide +kernel
theorem dMo_size_6 : decode cMo_size 6 = .ok (.getfield 118, 3) := by decide +kernel
theorem dMo_size_9 : decode cMo_size 9 = .ok (.ireturn, 1) := by decide +kernel
theorem dMo_pools_0 : decode cMo_pools 0 = .ok (.aload_n 0, 1) := by decide +kernel
theorem dMo_pools_1 : decode cMo_pools 1 = .ok (.iconst 0, 1) := by decide +kernel
theorem dMo_pools_2 : decode cMo_pools 2 = .ok (.putfield 50, 3) := by decide +kernel
theorem dMo_pools_5 : decode cMo_pools 5 = .ok (.aload_n 0, 1) := by decide +kernel
theorem dMo_pools_6 : decode cMo_pools 6 = .ok (.getfield 121, 3) := by decide +kernel
theorem dMo_pools_9 : decode cMo_pools 9 = .ok (.ireturn, 1) := by decide +kernel
theorem dMo_run_0 : decode cMo_run 0 = .ok (.iload_n 1, 1) := by decide +kernel
theorem dMo_run_1 : decode cMo_run 1 = .ok (.iconst 1, 1) := by decide +kernel
theorem dMo_run_2 : decode cMo_run 2 = .ok (.sipush 5000, 3) := by decide +kernel
theorem dMo_run_5 : decode cMo_run 5 = .ok (.invokestatic 53, 3) := by decide +kernel
theorem dMo_run_8 : decode cMo_run 8 = .ok (.ifCond .eq 9, 3) := by decide +kernel
theorem dMo_run_11 : decode cMo_run 11 = .ok (.aload_n 0, 1) := by decide +kernel
theorem dMo_run_12 : decode cMo_run 12 = .ok (.iconst 1, 1) := by decide +kernel
theorem dMo_run_13 : decode cMo_run 13 = .ok (.invokevirtual 180, 3) := by decide +kernel
theorem dMo_run_16 : decode cMo_run 16 = .ok (.ireturn, 1) := by decide +kernel
theorem dMo_run_17 : decode cMo_run 17 = .ok (.aload_n 0, 1) := by decide +kernel
theorem dMo_run_18 : decode cMo_run 18 = .ok (.iconst 0, 1) := by decide +kernel
theorem dMo_run_19 : decode cMo_run 19 = .ok (.putfield 50, 3) := by decide +kernel
theorem dMo_run_22 : decode cMo_run 22 = .ok (.iconst 0, 1) := by decide +kernel
theorem dMo_run_23 : decode cMo_run 23 = .ok (.istore_n 2, 1) := by decide +kernel
theorem dMo_run_24 : decode cMo_run 24 = .ok (.iload_n 2, 1) := by decide +kernel
theorem dMo_run_25 : decode cMo_run 25 = .ok (.iload_n 1, 1) := by decide +kernel
theorem dMo_run_26 : decode cMo_run 26 = .ok (.if_icmp .ge 28, 3) := by decide +kernel
theorem dMo_run_29 : decode cMo_run 29 = .ok (.aload_n 0, 1) := by decide +kernel
theorem dMo_run_30 : decode cMo_run 30 = .ok (.getfield 142, 3) := by decide +kernel
theorem dMo_run_33 : decode cMo_run 33 = .ok (.ifCond .ne 21, 3) := by decide +kernel
theorem dMo_run_36 : decode cMo_run 36 = .ok (.aload_n 0, 1) := by decide +kernel
theorem dMo_run_37 : decode cMo_run 37 = .ok (.invokevirtual 183, 3) := by decide +kernel
theorem dMo_run_40 : decode cMo_run 40 = .ok (.ifCond .ne 8, 3) := by decide +kernel
theorem dMo_run_43 : decode cMo_run 43 = .ok (.aload_n 0, 1) := by decide +kernel
theorem dMo_run_44 : decode cMo_run 44 = .ok (.iconst 2, 1) := by decide +kernel
theorem dMo_run_45 : decode cMo_run 45 = .ok (.putfield 142, 3) := by decide +kernel
theorem dMo_run_48 : decode cMo_run 48 = .ok (.iinc 2 1, 3) := by decide +kernel
theorem dMo_run_51 : decode cMo_run 51 = .ok (.goto (-27), 3) := by decide +kernel
theorem dMo_run_54 : decode cMo_run 54 = .ok (.aload_n 0, 1) := by decide +kernel
theorem dMo_run_55 : decode cMo_run 55 = .ok (.getfield 142, 3) := by decide +kernel
theorem dMo_run_58 : decode cMo_run 58 = .ok (.ireturn, 1) := by decide +kernel
theorem dMo_refuse_0 : decode cMo_refuse 0 = .ok (.aload_n 0, 1) := by decide +kernel
theorem dMo_refuse_1 : decode cMo_refuse 1 = .ok (.iload_n 1, 1) := by decide +kernel
theorem dMo_refuse_2 : decode cMo_refuse 2 = .ok (.putfield 50, 3) := by decide +kernel
theorem dMo_refuse_5 : decode cMo_refuse 5 = .ok (.iconst 0, 1) := by decide +kernel
theorem dMo_refuse_6 : decode cMo_refuse 6 = .ok (.ireturn, 1) := by decide +kernel
theorem dMo_one_0 : decode cMo_one 0 = .ok (.aload_n 0, 1) := by decide +kernel
theorem dMo_one_1 : decode cMo_one 1 = .ok (.getfield 140, 3) := by decide +kernel
theorem dMo_one_4 : decode cMo_one 4 = .ok (.iconst 0, 1) := by decide +kernel
theorem dMo_one_5 : decode cMo_one 5 = .ok (.iconst 2, 1) := by decide +kernel
theorem dMo_one_6 : decode cMo_one 6 = .ok (.aload_n 0, 1) := by decide +kernel
theorem dMo_one_7 : decode cMo_one 7 = .ok (.getfield 118, 3) := by decide +kernel
theorem dMo_one_10 : decode cMo_one 10 = .ok (.imul, 1) := by decide +kernel
theorem dMo_one_11 : decode cMo_one 11 = .ok (.iconst 1, 1) := by decide +kernel
theorem dMo_one_12 : decode cMo_one 12 = .ok (.isub, 1) := by decide +kernel
theorem dMo_one_13 : decode cMo_one 13 = .ok (.invokestatic 53, 3) := by decide +kernel
theorem dMo_one_16 : decode cMo_one 16 = .ok (.ifCond .eq 5, 3) := by decide +kernel
theorem dMo_one_19 : decode cMo_one 19 = .ok (.iconst 0, 1) := by decide +kernel
theorem dMo_one_20 : decode cMo_one 20 = .ok (.ireturn, 1) := by decide +kernel
theorem dMo_one_21 : decode cMo_one 21 = .ok (.aload_n 0, 1) := by decide +kernel
theorem dMo_one_22 : decode cMo_one 22 = .ok (.getfield 41, 3) := by decide +kernel
theorem dMo_one_25 : decode cMo_one 25 = .ok (.aload_n 0, 1) := by decide +kernel
theorem dMo_one_26 : decode cMo_one 26 = .ok (.getfield 140, 3) := by decide +kernel
theorem dMo_one_29 : decode cMo_one 29 = .ok (.iconst 2, 1) := by decide +kernel
theorem dMo_one_30 : decode cMo_one 30 = .ok (.idiv, 1) := by decide +kernel
theorem dMo_one_31 : decode cMo_one 31 = .ok (.iaload, 1) := by decide +kernel
theorem dMo_one_32 : decode cMo_one 32 = .ok (.istore_n 1, 1) := by decide +kernel
theorem dMo_one_33 : decode cMo_one 33 = .ok (.aload_n 0, 1) := by decide +kernel
theorem dMo_one_34 : decode cMo_one 34 = .ok (.getfield 140, 3) := by decide +kernel
theorem dMo_one_37 : decode cMo_one 37 = .ok (.iconst 2, 1) := by decide +kernel
theorem dMo_one_38 : decode cMo_one 38 = .ok (.iadd, 1) := by decide +kernel
theorem dMo_one_39 : decode cMo_one 39 = .ok (.istore_n 2, 1) := by decide +kernel
theorem dMo_one_40 : decode cMo_one 40 = .ok (.iconst 1, 1) := by decide +kernel
theorem dMo_one_41 : decode cMo_one 41 = .ok (.istore_n 3, 1) := by decide +kernel
theorem dMo_one_42 : decode cMo_one 42 = .ok (.iload_n 1, 1) := by decide +kernel
theorem dMo_one_43 : decode cMo_one 43 = .ok (.sipush 8192, 3) := by decide +kernel
theorem dMo_one_46 : decode cMo_one 46 = .ok (.if_icmp .lt 22, 3) := by decide +kernel
theorem dMo_one_49 : decode cMo_one 49 = .ok (.iload_n 1, 1) := by decide +kernel
theorem dMo_one_50 : decode cMo_one 50 = .ok (.sipush 16384, 3) := by decide +kernel
theorem dMo_one_53 : decode cMo_one 53 = .ok (.if_icmp .ge 15, 3) := by decide +kernel
theorem dMo_one_56 : decode cMo_one 56 = .ok (.aload_n 0, 1) := by decide +kernel
theorem dMo_one_57 : decode cMo_one 57 = .ok (.iload_n 1, 1) := by decide +kernel
theorem dMo_one_58 : decode cMo_one 58 = .ok (.sipush 8192, 3) := by decide +kernel
theorem dMo_one_61 : decode cMo_one 61 = .ok (.isub, 1) := by decide +kernel
theorem dMo_one_62 : decode cMo_one 62 = .ok (.invokevirtual 161, 3) := by decide +kernel
theorem dMo_one_65 : decode cMo_one 65 = .ok (.goto 312, 3) := by decide +kernel
theorem dMo_one_68 : decode cMo_one 68 = .ok (.iload_n 1, 1) := by decide +kernel
theorem dMo_one_69 : decode cMo_one 69 = .ok (.sipush 6144, 3) := by decide +kernel
theorem dMo_one_72 : decode cMo_one 72 = .ok (.if_icmp .lt 50, 3) := by decide +kernel
theorem dMo_one_75 : decode cMo_one 75 = .ok (.iload_n 1, 1) := by decide +kernel
theorem dMo_one_76 : decode cMo_one 76 = .ok (.sipush 6656, 3) := by decide +kernel
theorem dMo_one_79 : decode cMo_one 79 = .ok (.if_icmp .ge 43, 3) := by decide +kernel
theorem dMo_one_82 : decode cMo_one 82 = .ok (.aload_n 0, 1) := by decide +kernel
theorem dMo_one_83 : decode cMo_one 83 = .ok (.getfield 44, 3) := by decide +kernel
theorem dMo_one_86 : decode cMo_one 86 = .ok (.iload_n 1, 1) := by decide +kernel
theorem dMo_one_87 : decode cMo_one 87 = .ok (.bipush 8, 2) := by decide +kernel
theorem dMo_one_89 : decode cMo_one 89 = .ok (.irem, 1) := by decide +kernel
theorem dMo_one_90 : decode cMo_one 90 = .ok (.aload_n 0, 1) := by decide +kernel
theorem dMo_one_91 : decode cMo_one 91 = .ok (.aload_n 0, 1) := by decide +kernel
theorem dMo_one_92 : decode cMo_one 92 = .ok (.getfield 44, 3) := by decide +kernel
theorem dMo_one_95 : decode cMo_one 95 = .ok (.iload_n 1, 1) := by decide +kernel
theorem dMo_one_96 : decode cMo_one 96 = .ok (.bipush 8, 2) := by decide +kernel
theorem dMo_one_98 : decode cMo_one 98 = .ok (.idiv, 1) := by decide +kernel
theorem dMo_one_99 : decode cMo_one 99 = .ok (.bipush 8, 2) := by decide +kernel
theorem dMo_one_101 : decode cMo_one 101 = .ok (.irem, 1) := by decide +kernel
theorem dMo_one_102 : decode cMo_one 102 = .ok (.iaload, 1) := by decide +kernel
theorem dMo_one_103 : decode cMo_one 103 = .ok (.aload_n 0, 1) := by decide +kernel
theorem dMo_one_104 : decode cMo_one 104 = .ok (.getfield 44, 3) := by decide +kernel
theorem dMo_one_107 : decode cMo_one 107 = .ok (.iload_n 1, 1) := by decide +kernel
theorem dMo_one_108 : decode cMo_one 108 = .ok (.bipush 64, 2) := by decide +kernel
theorem dMo_one_110 : decode cMo_one 110 = .ok (.idiv, 1) := by decide +kernel
theorem dMo_one_111 : decode cMo_one 111 = .ok (.bipush 8, 2) := by decide +kernel
theorem dMo_one_113 : decode cMo_one 113 = .ok (.irem, 1) := by decide +kernel
theorem dMo_one_114 : decode cMo_one 114 = .ok (.iaload, 1) := by decide +kernel
theorem dMo_one_115 : decode cMo_one 115 = .ok (.invokevirtual 154, 3) := by decide +kernel
theorem dMo_one_118 : decode cMo_one 118 = .ok (.iastore, 1) := by decide +kernel
theorem dMo_one_119 : decode cMo_one 119 = .ok (.goto 258, 3) := by decide +kernel
theorem dMo_one_122 : decode cMo_one 122 = .ok (.iload_n 1, 1) := by decide +kernel
theorem dMo_one_123 : decode cMo_one 123 = .ok (.sipush 6656, 3) := by decide +kernel
theorem dMo_one_126 : decode cMo_one 126 = .ok (.if_icmp .lt 50, 3) := by decide +kernel
theorem dMo_one_129 : decode cMo_one 129 = .ok (.iload_n 1, 1) := by decide +kernel
theorem dMo_one_130 : decode cMo_one 130 = .ok (.sipush 7168, 3) := by decide +kernel
theorem dMo_one_133 : decode cMo_one 133 = .ok (.if_icmp .ge 43, 3) := by decide +kernel
theorem dMo_one_136 : decode cMo_one 136 = .ok (.aload_n 0, 1) := by decide +kernel
theorem dMo_one_137 : decode cMo_one 137 = .ok (.getfield 44, 3) := by decide +kernel
theorem dMo_one_140 : decode cMo_one 140 = .ok (.iload_n 1, 1) := by decide +kernel
theorem dMo_one_141 : decode cMo_one 141 = .ok (.bipush 8, 2) := by decide +kernel
theorem dMo_one_143 : decode cMo_one 143 = .ok (.irem, 1) := by decide +kernel
theorem dMo_one_144 : decode cMo_one 144 = .ok (.aload_n 0, 1) := by decide +kernel
theorem dMo_one_145 : decode cMo_one 145 = .ok (.aload_n 0, 1) := by decide +kernel
theorem dMo_one_146 : decode cMo_one 146 = .ok (.getfield 44, 3) := by decide +kernel
theorem dMo_one_149 : decode cMo_one 149 = .ok (.iload_n 1, 1) := by decide +kernel
theorem dMo_one_150 : decode cMo_one 150 = .ok (.bipush 8, 2) := by decide +kernel
theorem dMo_one_152 : decode cMo_one 152 = .ok (.idiv, 1) := by decide +kernel
theorem dMo_one_153 : decode cMo_one 153 = .ok (.bipush 8, 2) := by decide +kernel
theorem dMo_one_155 : decode cMo_one 155 = .ok (.irem, 1) := by decide +kernel
theorem dMo_one_156 : decode cMo_one 156 = .ok (.iaload, 1) := by decide +kernel
theorem dMo_one_157 : decode cMo_one 157 = .ok (.aload_n 0, 1) := by decide +kernel
theorem dMo_one_158 : decode cMo_one 158 = .ok (.getfield 44, 3) := by decide +kernel
theorem dMo_one_161 : decode cMo_one 161 = .ok (.iload_n 1, 1) := by decide +kernel
theorem dMo_one_162 : decode cMo_one 162 = .ok (.bipush 64, 2) := by decide +kernel
theorem dMo_one_164 : decode cMo_one 164 = .ok (.idiv, 1) := by decide +kernel
theorem dMo_one_165 : decode cMo_one 165 = .ok (.bipush 8, 2) := by decide +kernel
theorem dMo_one_167 : decode cMo_one 167 = .ok (.irem, 1) := by decide +kernel
theorem dMo_one_168 : decode cMo_one 168 = .ok (.iaload, 1) := by decide +kernel
theorem dMo_one_169 : decode cMo_one 169 = .ok (.invokevirtual 158, 3) := by decide +kernel
theorem dMo_one_172 : decode cMo_one 172 = .ok (.iastore, 1) := by decide +kernel
theorem dMo_one_173 : decode cMo_one 173 = .ok (.goto 204, 3) := by decide +kernel
theorem dMo_one_176 : decode cMo_one 176 = .ok (.iload_n 1, 1) := by decide +kernel
theorem dMo_one_177 : decode cMo_one 177 = .ok (.sipush 16384, 3) := by decide +kernel
theorem dMo_one_180 : decode cMo_one 180 = .ok (.if_icmp .lt 36, 3) := by decide +kernel
theorem dMo_one_183 : decode cMo_one 183 = .ok (.iload_n 1, 1) := by decide +kernel
theorem dMo_one_184 : decode cMo_one 184 = .ok (.sipush 17408, 3) := by decide +kernel
theorem dMo_one_187 : decode cMo_one 187 = .ok (.if_icmp .ge 29, 3) := by decide +kernel
theorem dMo_one_190 : decode cMo_one 190 = .ok (.iload_n 1, 1) := by decide +kernel
theorem dMo_one_191 : decode cMo_one 191 = .ok (.sipush 16384, 3) := by decide +kernel
theorem dMo_one_194 : decode cMo_one 194 = .ok (.isub, 1) := by decide +kernel
theorem dMo_one_195 : decode cMo_one 195 = .ok (.bipush 64, 2) := by decide +kernel
theorem dMo_one_197 : decode cMo_one 197 = .ok (.idiv, 1) := by decide +kernel
theorem dMo_one_198 : decode cMo_one 198 = .ok (.invokestatic 57, 3) := by decide +kernel
theorem dMo_one_201 : decode cMo_one 201 = .ok (.ifCond .eq 15, 3) := by decide +kernel
theorem dMo_one_204 : decode cMo_one 204 = .ok (.aload_n 0, 1) := by decide +kernel
theorem dMo_one_205 : decode cMo_one 205 = .ok (.iload_n 1, 1) := by decide +kernel
theorem dMo_one_206 : decode cMo_one 206 = .ok (.sipush 16384, 3) := by decide +kernel
theorem dMo_one_209 : decode cMo_one 209 = .ok (.isub, 1) := by decide +kernel
theorem dMo_one_210 : decode cMo_one 210 = .ok (.invokevirtual 164, 3) := by decide +kernel
theorem dMo_one_213 : decode cMo_one 213 = .ok (.goto 164, 3) := by decide +kernel
theorem dMo_one_216 : decode cMo_one 216 = .ok (.iload_n 1, 1) := by decide +kernel
theorem dMo_one_217 : decode cMo_one 217 = .ok (.sipush 18432, 3) := by decide +kernel
theorem dMo_one_220 : decode cMo_one 220 = .ok (.if_icmp .lt 23, 3) := by decide +kernel
theorem dMo_one_223 : decode cMo_one 223 = .ok (.iload_n 1, 1) := by decide +kernel
theorem dMo_one_224 : decode cMo_one 224 = .ok (.sipush 20480, 3) := by decide +kernel
theorem dMo_one_227 : decode cMo_one 227 = .ok (.if_icmp .ge 16, 3) := by decide +kernel
theorem dMo_one_230 : decode cMo_one 230 = .ok (.aload_n 0, 1) := by decide +kernel
theorem dMo_one_231 : decode cMo_one 231 = .ok (.iload_n 1, 1) := by decide +kernel
theorem dMo_one_232 : decode cMo_one 232 = .ok (.sipush 18432, 3) := by decide +kernel
theorem dMo_one_235 : decode cMo_one 235 = .ok (.isub, 1) := by decide +kernel
theorem dMo_one_236 : decode cMo_one 236 = .ok (.invokevirtual 167, 3) := by decide +kernel
theorem dMo_one_239 : decode cMo_one 239 = .ok (.istore_n 3, 1) := by decide +kernel
theorem dMo_one_240 : decode cMo_one 240 = .ok (.goto 137, 3) := by decide +kernel
theorem dMo_one_243 : decode cMo_one 243 = .ok (.iload_n 1, 1) := by decide +kernel
theorem dMo_one_244 : decode cMo_one 244 = .ok (.sipush 24576, 3) := by decide +kernel
theorem dMo_one_247 : decode cMo_one 247 = .ok (.if_icmp .lt 23, 3) := by decide +kernel
theorem dMo_one_250 : decode cMo_one 250 = .ok (.iload_n 1, 1) := by decide +kernel
theorem dMo_one_251 : decode cMo_one 251 = .ok (.sipush 28672, 3) := by decide +kernel
theorem dMo_one_254 : decode cMo_one 254 = .ok (.if_icmp .ge 16, 3) := by decide +kernel
theorem dMo_one_257 : decode cMo_one 257 = .ok (.aload_n 0, 1) := by decide +kernel
theorem dMo_one_258 : decode cMo_one 258 = .ok (.iload_n 1, 1) := by decide +kernel
theorem dMo_one_259 : decode cMo_one 259 = .ok (.sipush 24576, 3) := by decide +kernel
theorem dMo_one_262 : decode cMo_one 262 = .ok (.isub, 1) := by decide +kernel
theorem dMo_one_263 : decode cMo_one 263 = .ok (.invokevirtual 170, 3) := by decide +kernel
theorem dMo_one_266 : decode cMo_one 266 = .ok (.istore_n 3, 1) := by decide +kernel
theorem dMo_one_267 : decode cMo_one 267 = .ok (.goto 110, 3) := by decide +kernel
theorem dMo_one_270 : decode cMo_one 270 = .ok (.iload_n 1, 1) := by decide +kernel
theorem dMo_one_271 : decode cMo_one 271 = .ok (.ldc 111, 2) := by decide +kernel
theorem dMo_one_273 : decode cMo_one 273 = .ok (.if_icmp .lt 58, 3) := by decide +kernel
theorem dMo_one_276 : decode cMo_one 276 = .ok (.iload_n 1, 1) := by decide +kernel
theorem dMo_one_277 : decode cMo_one 277 = .ok (.ldc 93, 2) := by decide +kernel
theorem dMo_one_279 : decode cMo_one 279 = .ok (.if_icmp .ge 52, 3) := by decide +kernel
theorem dMo_one_282 : decode cMo_one 282 = .ok (.iload_n 1, 1) := by decide +kernel
theorem dMo_one_283 : decode cMo_one 283 = .ok (.ldc 111, 2) := by decide +kernel
theorem dMo_one_285 : decode cMo_one 285 = .ok (.isub, 1) := by decide +kernel
theorem dMo_one_286 : decode cMo_one 286 = .ok (.sipush 256, 3) := by decide +kernel
theorem dMo_one_289 : decode cMo_one 289 = .ok (.idiv, 1) := by decide +kernel
theorem dMo_one_290 : decode cMo_one 290 = .ok (.invokestatic 61, 3) := by decide +kernel
theorem dMo_one_293 : decode cMo_one 293 = .ok (.ifCond .eq 38, 3) := by decide +kernel
theorem dMo_one_296 : decode cMo_one 296 = .ok (.aload_n 0, 1) := by decide +kernel
theorem dMo_one_297 : decode cMo_one 297 = .ok (.iload_n 1, 1) := by decide +kernel
theorem dMo_one_298 : decode cMo_one 298 = .ok (.ldc 111, 2) := by decide +kernel
theorem dMo_one_300 : decode cMo_one 300 = .ok (.isub, 1) := by decide +kernel
theorem dMo_one_301 : decode cMo_one 301 = .ok (.sipush 256, 3) := by decide +kernel
theorem dMo_one_304 : decode cMo_one 304 = .ok (.idiv, 1) := by decide +kernel
theorem dMo_one_305 : decode cMo_one 305 = .ok (.invokevirtual 173, 3) := by decide +kernel
theorem dMo_one_308 : decode cMo_one 308 = .ok (.ifCond .eq 18, 3) := by decide +kernel
theorem dMo_one_311 : decode cMo_one 311 = .ok (.aload_n 0, 1) := by decide +kernel
theorem dMo_one_312 : decode cMo_one 312 = .ok (.iload_n 1, 1) := by decide +kernel
theorem dMo_one_313 : decode cMo_one 313 = .ok (.sipush 256, 3) := by decide +kernel
theorem dMo_one_316 : decode cMo_one 316 = .ok (.irem, 1) := by decide +kernel
theorem dMo_one_317 : decode cMo_one 317 = .ok (.sipush 256, 3) := by decide +kernel
