theorem dLw_line_0 : decode cLw_line 0 = .ok (.aload 5, 2) := by decide +kernel
theorem dLw_line_2 : decode cLw_line 2 = .ok (.iconst 0, 1) := by decide +kernel
theorem dLw_line_3 : decode cLw_line 3 = .ok (.aload_n 0, 1) := by decide +kernel
theorem dLw_line_4 : decode cLw_line 4 = .ok (.iload_n 1, 1) := by decide +kernel
theorem dLw_line_5 : decode cLw_line 5 = .ok (.iload_n 2, 1) := by decide +kernel
theorem dLw_line_6 : decode cLw_line 6 = .ok (.iload_n 3, 1) := by decide +kernel
theorem dLw_line_7 : decode cLw_line 7 = .ok (.iload 4, 2) := by decide +kernel
theorem dLw_line_9 : decode cLw_line 9 = .ok (.invokevirtual 7, 3) := by decide +kernel
theorem dLw_line_12 : decode cLw_line 12 = .ok (.i2l, 1) := by decide +kernel
theorem dLw_line_13 : decode cLw_line 13 = .ok (.lastore, 1) := by decide +kernel
theorem dLw_line_14 : decode cLw_line 14 = .ok (.goto 11, 3) := by decide +kernel
theorem dLw_line_17 : decode cLw_line 17 = .ok (.astore 6, 2) := by decide +kernel
theorem dLw_line_19 : decode cLw_line 19 = .ok (.iconst 1, 1) := by decide +kernel
theorem dLw_line_20 : decode cLw_line 20 = .ok (.ireturn, 1) := by decide +kernel
theorem dLw_line_21 : decode cLw_line 21 = .ok (.astore 6, 2) := by decide +kernel
theorem dLw_line_23 : decode cLw_line 23 = .ok (.iconst 2, 1) := by decide +kernel
theorem dLw_line_24 : decode cLw_line 24 = .ok (.ireturn, 1) := by decide +kernel
theorem dLw_line_25 : decode cLw_line 25 = .ok (.iconst 0, 1) := by decide +kernel
theorem dLw_line_26 : decode cLw_line 26 = .ok (.ireturn, 1) := by decide +kernel
theorem dLw_assemble_0 : decode cLw_assemble 0 = .ok (.aload_n 1, 1) := by decide +kernel
theorem dLw_assemble_1 : decode cLw_assemble 1 = .ok (.iconst 0, 1) := by decide +kernel
theorem dLw_assemble_2 : decode cLw_assemble 2 = .ok (.aload_n 0, 1) := by decide +kernel
theorem dLw_assemble_3 : decode cLw_assemble 3 = .ok (.invokevirtual 17, 3) := by decide +kernel
theorem dLw_assemble_6 : decode cLw_assemble 6 = .ok (.i2l, 1) := by decide +kernel
theorem dLw_assemble_7 : decode cLw_assemble 7 = .ok (.lastore, 1) := by decide +kernel
theorem dLw_assemble_8 : decode cLw_assemble 8 = .ok (.goto 6, 3) := by decide +kernel
theorem dLw_assemble_11 : decode cLw_assemble 11 = .ok (.astore_n 2, 1) := by decide +kernel
theorem dLw_assemble_12 : decode cLw_assemble 12 = .ok (.iconst 1, 1) := by decide +kernel
theorem dLw_assemble_13 : decode cLw_assemble 13 = .ok (.ireturn, 1) := by decide +kernel
theorem dLw_assemble_14 : decode cLw_assemble 14 = .ok (.iconst 0, 1) := by decide +kernel
theorem dLw_assemble_15 : decode cLw_assemble 15 = .ok (.ireturn, 1) := by decide +kernel
theorem dLw_run_0 : decode cLw_run 0 = .ok (.aload_n 2, 1) := by decide +kernel
theorem dLw_run_1 : decode cLw_run 1 = .ok (.iconst 0, 1) := by decide +kernel
theorem dLw_run_2 : decode cLw_run 2 = .ok (.aload_n 0, 1) := by decide +kernel
theorem dLw_run_3 : decode cLw_run 3 = .ok (.iload_n 1, 1) := by decide +kernel
theorem dLw_run_4 : decode cLw_run 4 = .ok (.invokevirtual 23, 3) := by decide +kernel
theorem dLw_run_7 : decode cLw_run 7 = .ok (.i2l, 1) := by decide +kernel
theorem dLw_run_8 : decode cLw_run 8 = .ok (.lastore, 1) := by decide +kernel
theorem dLw_run_9 : decode cLw_run 9 = .ok (.goto 6, 3) := by decide +kernel
theorem dLw_run_12 : decode cLw_run 12 = .ok (.astore_n 3, 1) := by decide +kernel
theorem dLw_run_13 : decode cLw_run 13 = .ok (.iconst 1, 1) := by decide +kernel
theorem dLw_run_14 : decode cLw_run 14 = .ok (.ireturn, 1) := by decide +kernel
theorem dLw_run_15 : decode cLw_run 15 = .ok (.iconst 0, 1) := by decide +kernel
theorem dLw_run_16 : decode cLw_run 16 = .ok (.ireturn, 1) := by decide +kernel
theorem dLw_register_0 : decode cLw_register 0 = .ok (.aload_n 2, 1) := by decide +kernel
theorem dLw_register_1 : decode cLw_register 1 = .ok (.iconst 0, 1) := by decide +kernel
theorem dLw_register_2 : decode cLw_register 2 = .ok (.aload_n 0, 1) := by decide +kernel
theorem dLw_register_3 : decode cLw_register 3 = .ok (.iload_n 1, 1) := by decide +kernel
theorem dLw_register_4 : decode cLw_register 4 = .ok (.invokevirtual 27, 3) := by decide +kernel
theorem dLw_register_7 : decode cLw_register 7 = .ok (.i2l, 1) := by decide +kernel
theorem dLw_register_8 : decode cLw_register 8 = .ok (.lastore, 1) := by decide +kernel
theorem dLw_register_9 : decode cLw_register 9 = .ok (.goto 6, 3) := by decide +kernel
theorem dLw_register_12 : decode cLw_register 12 = .ok (.astore_n 3, 1) := by decide +kernel
theorem dLw_register_13 : decode cLw_register 13 = .ok (.iconst 1, 1) := by decide +kernel
theorem dLw_register_14 : decode cLw_register 14 = .ok (.ireturn, 1) := by decide +kernel
theorem dLw_register_15 : decode cLw_register 15 = .ok (.iconst 0, 1) := by decide +kernel
theorem dLw_register_16 : decode cLw_register 16 = .ok (.ireturn, 1) := by decide +kernel
theorem dLw_law_0 : decode cLw_law 0 = .ok (.new 8, 3) := by decide +kernel
theorem dLw_law_3 : decode cLw_law 3 = .ok (.dup, 1) := by decide +kernel
theorem dLw_law_4 : decode cLw_law 4 = .ok (.invokespecial 30, 3) := by decide +kernel
theorem dLw_law_7 : decode cLw_law 7 = .ok (.astore_n 1, 1) := by decide +kernel
theorem dLw_law_8 : decode cLw_law 8 = .ok (.new 31, 3) := by decide +kernel
theorem dLw_law_11 : decode cLw_law 11 = .ok (.dup, 1) := by decide +kernel
theorem dLw_law_12 : decode cLw_law 12 = .ok (.invokespecial 33, 3) := by decide +kernel
theorem dLw_law_15 : decode cLw_law 15 = .ok (.astore_n 2, 1) := by decide +kernel
theorem dLw_law_16 : decode cLw_law 16 = .ok (.iconst 1, 1) := by decide +kernel
theorem dLw_law_17 : decode cLw_law 17 = .ok (.newarray .long, 2) := by decide +kernel
theorem dLw_law_19 : decode cLw_law 19 = .ok (.astore_n 3, 1) := by decide +kernel
theorem dLw_law_20 : decode cLw_law 20 = .ok (.iconst 0, 1) := by decide +kernel
theorem dLw_law_21 : decode cLw_law 21 = .ok (.istore 4, 2) := by decide +kernel
theorem dLw_law_23 : decode cLw_law 23 = .ok (.iload 4, 2) := by decide +kernel
theorem dLw_law_25 : decode cLw_law 25 = .ok (.aload_n 0, 1) := by decide +kernel
theorem dLw_law_26 : decode cLw_law 26 = .ok (.arraylength, 1) := by decide +kernel
theorem dLw_law_27 : decode cLw_law 27 = .ok (.iconst 5, 1) := by decide +kernel
theorem dLw_law_28 : decode cLw_law 28 = .ok (.isub, 1) := by decide +kernel
theorem dLw_law_29 : decode cLw_law 29 = .ok (.if_icmp .gt 432, 3) := by decide +kernel
theorem dLw_law_32 : decode cLw_law 32 = .ok (.aload_n 0, 1) := by decide +kernel
theorem dLw_law_33 : decode cLw_law 33 = .ok (.iload 4, 2) := by decide +kernel
theorem dLw_law_35 : decode cLw_law 35 = .ok (.iaload, 1) := by decide +kernel
theorem dLw_law_36 : decode cLw_law 36 = .ok (.bipush 15, 2) := by decide +kernel
theorem dLw_law_38 : decode cLw_law 38 = .ok (.iand, 1) := by decide +kernel
theorem dLw_law_39 : decode cLw_law 39 = .ok (.tableswitch 416 0 10 #[57, 149, 160, 204, 217, 242, 255, 268, 324, 335, 391], 57) := by decide +kernel
theorem dLw_law_96 : decode cLw_law 96 = .ok (.aload_n 1, 1) := by decide +kernel
theorem dLw_law_97 : decode cLw_law 97 = .ok (.aload_n 0, 1) := by decide +kernel
theorem dLw_law_98 : decode cLw_law 98 = .ok (.iload 4, 2) := by decide +kernel
theorem dLw_law_100 : decode cLw_law 100 = .ok (.iconst 1, 1) := by decide +kernel
theorem dLw_law_101 : decode cLw_law 101 = .ok (.iadd, 1) := by decide +kernel
theorem dLw_law_102 : decode cLw_law 102 = .ok (.iaload, 1) := by decide +kernel
theorem dLw_law_103 : decode cLw_law 103 = .ok (.aload_n 0, 1) := by decide +kernel
theorem dLw_law_104 : decode cLw_law 104 = .ok (.iload 4, 2) := by decide +kernel
theorem dLw_law_106 : decode cLw_law 106 = .ok (.iconst 2, 1) := by decide +kernel
theorem dLw_law_107 : decode cLw_law 107 = .ok (.iadd, 1) := by decide +kernel
theorem dLw_law_108 : decode cLw_law 108 = .ok (.iaload, 1) := by decide +kernel
theorem dLw_law_109 : decode cLw_law 109 = .ok (.aload_n 0, 1) := by decide +kernel
theorem dLw_law_110 : decode cLw_law 110 = .ok (.iload 4, 2) := by decide +kernel
theorem dLw_law_112 : decode cLw_law 112 = .ok (.iconst 3, 1) := by decide +kernel
theorem dLw_law_113 : decode cLw_law 113 = .ok (.iadd, 1) := by decide +kernel
theorem dLw_law_114 : decode cLw_law 114 = .ok (.iaload, 1) := by decide +kernel
theorem dLw_law_115 : decode cLw_law 115 = .ok (.aload_n 0, 1) := by decide +kernel
theorem dLw_law_116 : decode cLw_law 116 = .ok (.iload 4, 2) := by decide +kernel
theorem dLw_law_118 : decode cLw_law 118 = .ok (.iconst 4, 1) := by decide +kernel
theorem dLw_law_119 : decode cLw_law 119 = .ok (.iadd, 1) := by decide +kernel
theorem dLw_law_120 : decode cLw_law 120 = .ok (.iaload, 1) := by decide +kernel
theorem dLw_law_121 : decode cLw_law 121 = .ok (.aload_n 3, 1) := by decide +kernel
theorem dLw_law_122 : decode cLw_law 122 = .ok (.invokestatic 34, 3) := by decide +kernel
theorem dLw_law_125 : decode cLw_law 125 = .ok (.istore 5, 2) := by decide +kernel
theorem dLw_law_127 : decode cLw_law 127 = .ok (.aload_n 2, 1) := by decide +kernel
theorem dLw_law_128 : decode cLw_law 128 = .ok (.aload_n 0, 1) := by decide +kernel
theorem dLw_law_129 : decode cLw_law 129 = .ok (.iload 4, 2) := by decide +kernel
theorem dLw_law_131 : decode cLw_law 131 = .ok (.iconst 1, 1) := by decide +kernel
theorem dLw_law_132 : decode cLw_law 132 = .ok (.iadd, 1) := by decide +kernel
theorem dLw_law_133 : decode cLw_law 133 = .ok (.iaload, 1) := by decide +kernel
theorem dLw_law_134 : decode cLw_law 134 = .ok (.aload_n 0, 1) := by decide +kernel
theorem dLw_law_135 : decode cLw_law 135 = .ok (.iload 4, 2) := by decide +kernel
theorem dLw_law_137 : decode cLw_law 137 = .ok (.iconst 2, 1) := by decide +kernel
theorem dLw_law_138 : decode cLw_law 138 = .ok (.iadd, 1) := by decide +kernel
theorem dLw_law_139 : decode cLw_law 139 = .ok (.iaload, 1) := by decide +kernel
theorem dLw_law_140 : decode cLw_law 140 = .ok (.aload_n 0, 1) := by decide +kernel
theorem dLw_law_141 : decode cLw_law 141 = .ok (.iload 4, 2) := by decide +kernel
theorem dLw_law_143 : decode cLw_law 143 = .ok (.iconst 3, 1) := by decide +kernel
theorem dLw_law_144 : decode cLw_law 144 = .ok (.iadd, 1) := by decide +kernel
theorem dLw_law_145 : decode cLw_law 145 = .ok (.iaload, 1) := by decide +kernel
theorem dLw_law_146 : decode cLw_law 146 = .ok (.aload_n 0, 1) := by decide +kernel
theorem dLw_law_147 : decode cLw_law 147 = .ok (.iload 4, 2) := by decide +kernel
theorem dLw_law_149 : decode cLw_law 149 = .ok (.iconst 4, 1) := by decide +kernel
theorem dLw_law_150 : decode cLw_law 150 = .ok (.iadd, 1) := by decide +kernel
theorem dLw_law_151 : decode cLw_law 151 = .ok (.iaload, 1) := by decide +kernel
theorem dLw_law_152 : decode cLw_law 152 = .ok (.invokevirtual 39, 3) := by decide +kernel
theorem dLw_law_155 : decode cLw_law 155 = .ok (.istore 6, 2) := by decide +kernel
theorem dLw_law_157 : decode cLw_law 157 = .ok (.aload_n 2, 1) := by decide +kernel
theorem dLw_law_158 : decode cLw_law 158 = .ok (.invokevirtual 40, 3) := by decide +kernel
theorem dLw_law_161 : decode cLw_law 161 = .ok (.iload 5, 2) := by decide +kernel
theorem dLw_law_163 : decode cLw_law 163 = .ok (.if_icmp .eq 5, 3) := by decide +kernel
theorem dLw_law_166 : decode cLw_law 166 = .ok (.iconst 0, 1) := by decide +kernel
theorem dLw_law_167 : decode cLw_law 167 = .ok (.ireturn, 1) := by decide +kernel
theorem dLw_law_168 : decode cLw_law 168 = .ok (.iload 5, 2) := by decide +kernel
theorem dLw_law_170 : decode cLw_law 170 = .ok (.ifCond .ne 15, 3) := by decide +kernel
theorem dLw_law_173 : decode cLw_law 173 = .ok (.aload_n 3, 1) := by decide +kernel
theorem dLw_law_174 : decode cLw_law 174 = .ok (.iconst 0, 1) := by decide +kernel
theorem dLw_law_175 : decode cLw_law 175 = .ok (.laload, 1) := by decide +kernel
theorem dLw_law_176 : decode cLw_law 176 = .ok (.iload 6, 2) := by decide +kernel
theorem dLw_law_178 : decode cLw_law 178 = .ok (.i2l, 1) := by decide +kernel
theorem dLw_law_179 : decode cLw_law 179 = .ok (.lcmp, 1) := by decide +kernel
theorem dLw_law_180 : decode cLw_law 180 = .ok (.ifCond .eq 5, 3) := by decide +kernel
theorem dLw_law_183 : decode cLw_law 183 = .ok (.iconst 0, 1) := by decide +kernel
theorem dLw_law_184 : decode cLw_law 184 = .ok (.ireturn, 1) := by decide +kernel
theorem dLw_law_185 : decode cLw_law 185 = .ok (.goto 270, 3) := by decide +kernel
theorem dLw_law_188 : decode cLw_law 188 = .ok (.aload_n 1, 1) := by decide +kernel
theorem dLw_law_189 : decode cLw_law 189 = .ok (.invokevirtual 43, 3) := by decide +kernel
theorem dLw_law_192 : decode cLw_law 192 = .ok (.aload_n 2, 1) := by decide +kernel
theorem dLw_law_193 : decode cLw_law 193 = .ok (.invokevirtual 46, 3) := by decide +kernel
theorem dLw_law_196 : decode cLw_law 196 = .ok (.goto 259, 3) := by decide +kernel
theorem dLw_law_199 : decode cLw_law 199 = .ok (.aload_n 1, 1) := by decide +kernel
theorem dLw_law_200 : decode cLw_law 200 = .ok (.aload_n 3, 1) := by decide +kernel
theorem dLw_law_201 : decode cLw_law 201 = .ok (.invokestatic 47, 3) := by decide +kernel
theorem dLw_law_204 : decode cLw_law 204 = .ok (.istore 5, 2) := by decide +kernel
theorem dLw_law_206 : decode cLw_law 206 = .ok (.aload_n 2, 1) := by decide +kernel
theorem dLw_law_207 : decode cLw_law 207 = .ok (.invokevirtual 50, 3) := by decide +kernel
theorem dLw_law_210 : decode cLw_law 210 = .ok (.istore 6, 2) := by decide +kernel
theorem dLw_law_212 : decode cLw_law 212 = .ok (.aload_n 2, 1) := by decide +kernel
theorem dLw_law_213 : decode cLw_law 213 = .ok (.invokevirtual 40, 3) := by decide +kernel
theorem dLw_law_216 : decode cLw_law 216 = .ok (.iload 5, 2) := by decide +kernel
theorem dLw_law_218 : decode cLw_law 218 = .ok (.if_icmp .eq 5, 3) := by decide +kernel
theorem dLw_law_221 : decode cLw_law 221 = .ok (.iconst 0, 1) := by decide +kernel
theorem dLw_law_222 : decode cLw_law 222 = .ok (.ireturn, 1) := by decide +kernel
theorem dLw_law_223 : decode cLw_law 223 = .ok (.iload 5, 2) := by decide +kernel
theorem dLw_law_225 : decode cLw_law 225 = .ok (.ifCond .ne 15, 3) := by decide +kernel
theorem dLw_law_228 : decode cLw_law 228 = .ok (.aload_n 3, 1) := by decide +kernel
theorem dLw_law_229 : decode cLw_law 229 = .ok (.iconst 0, 1) := by decide +kernel
theorem dLw_law_230 : decode cLw_law 230 = .ok (.laload, 1) := by decide +kernel
theorem dLw_law_231 : decode cLw_law 231 = .ok (.iload 6, 2) := by decide +kernel
theorem dLw_law_233 : decode cLw_law 233 = .ok (.i2l, 1) := by decide +kernel
theorem dLw_law_234 : decode cLw_law 234 = .ok (.lcmp, 1) := by decide +kernel
theorem dLw_law_235 : decode cLw_law 235 = .ok (.ifCond .eq 5, 3) := by decide +kernel
theorem dLw_law_238 : decode cLw_law 238 = .ok (.iconst 0, 1) := by decide +kernel
theorem dLw_law_239 : decode cLw_law 239 = .ok (.ireturn, 1) := by decide +kernel
theorem dLw_law_240 : decode cLw_law 240 = .ok (.goto 215, 3) := by decide +kernel
theorem dLw_law_243 : decode cLw_law 243 = .ok (.aload_n 1, 1) := by decide +kernel
theorem dLw_law_244 : decode cLw_law 244 = .ok (.invokevirtual 51, 3) := by decide +kernel
theorem dLw_law_247 : decode cLw_law 247 = .ok (.aload_n 2, 1) := by decide +kernel
theorem dLw_law_248 : decode cLw_law 248 = .ok (.invokevirtual 54, 3) := by decide +kernel
theorem dLw_law_251 : decode cLw_law 251 = .ok (.if_icmp .eq 204, 3) := by decide +kernel
theorem dLw_law_254 : decode cLw_law 254 = .ok (.iconst 0, 1) := by decide +kernel
theorem dLw_law_255 : decode cLw_law 255 = .ok (.ireturn, 1) := by decide +kernel
theorem dLw_law_256 : decode cLw_law 256 = .ok (.aload_n 1, 1) := by decide +kernel
theorem dLw_law_257 : decode cLw_law 257 = .ok (.aload_n 0, 1) := by decide +kernel
theorem dLw_law_258 : decode cLw_law 258 = .ok (.iload 4, 2) := by decide +kernel
theorem dLw_law_260 : decode cLw_law 260 = .ok (.iconst 1, 1) := by decide +kernel
theorem dLw_law_261 : decode cLw_law 261 = .ok (.iadd, 1) := by decide +kernel
theorem dLw_law_262 : decode cLw_law 262 = .ok (.iaload, 1) := by decide +kernel
theorem dLw_law_263 : decode cLw_law 263 = .ok (.invokevirtual 55, 3) := by decide +kernel
theorem dLw_law_266 : decode cLw_law 266 = .ok (.aload_n 2, 1) := by decide +kernel
theorem dLw_law_267 : decode cLw_law 267 = .ok (.aload_n 0, 1) := by decide +kernel
theorem dLw_law_268 : decode cLw_law 268 = .ok (.iload 4, 2) := by decide +kernel
theorem dLw_law_270 : decode cLw_law 270 = .ok (.iconst 1, 1) := by decide +kernel
theorem dLw_law_271 : decode cLw_law 271 = .ok (.iadd, 1) := by decide +kernel
theorem dLw_law_272 : decode cLw_law 272 = .ok (.iaload, 1) := by decide +kernel
theorem dLw_law_273 : decode cLw_law 273 = .ok (.invokevirtual 59, 3) := by decide +kernel
theorem dLw_law_276 : decode cLw_law 276 = .ok (.if_icmp .eq 179, 3) := by decide +kernel
theorem dLw_law_279 : decode cLw_law 279 = .ok (.iconst 0, 1) := by decide +kernel
theorem dLw_law_280 : decode cLw_law 280 = .ok (.ireturn, 1) := by decide +kernel
theorem dLw_law_281 : decode cLw_law 281 = .ok (.aload_n 1, 1) := by decide +kernel
theorem dLw_law_282 : decode cLw_law 282 = .ok (.invokevirtual 60, 3) := by decide +kernel
theorem dLw_law_285 : decode cLw_law 285 = .ok (.aload_n 2, 1) := by decide +kernel
theorem dLw_law_286 : decode cLw_law 286 = .ok (.invokevirtual 63, 3) := by decide +kernel
theorem dLw_law_289 : decode cLw_law 289 = .ok (.if_icmp .eq 166, 3) := by decide +kernel
theorem dLw_law_292 : decode cLw_law 292 = .ok (.iconst 0, 1) := by decide +kernel
theorem dLw_law_293 : decode cLw_law 293 = .ok (.ireturn, 1) := by decide +kernel
theorem dLw_law_294 : decode cLw_law 294 = .ok (.aload_n 1, 1) := by decide +kernel
theorem dLw_law_295 : decode cLw_law 295 = .ok (.invokevirtual 64, 3) := by decide +kernel
theorem dLw_law_298 : decode cLw_law 298 = .ok (.aload_n 2, 1) := by decide +kernel
theorem dLw_law_299 : decode cLw_law 299 = .ok (.invokevirtual 67, 3) := by decide +kernel
theorem dLw_law_302 : decode cLw_law 302 = .ok (.if_icmp .eq 153, 3) := by decide +kernel
theorem dLw_law_305 : decode cLw_law 305 = .ok (.iconst 0, 1) := by decide +kernel
theorem dLw_law_306 : decode cLw_law 306 = .ok (.ireturn, 1) := by decide +kernel
theorem dLw_law_307 : decode cLw_law 307 = .ok (.aload_n 1, 1) := by decide +kernel
theorem dLw_law_308 : decode cLw_law 308 = .ok (.aload_n 0, 1) := by decide +kernel
theorem dLw_law_309 : decode cLw_law 309 = .ok (.iload 4, 2) := by decide +kernel
theorem dLw_law_311 : decode cLw_law 311 = .ok (.iconst 1, 1) := by decide +kernel
theorem dLw_law_312 : decode cLw_law 312 = .ok (.iadd, 1) := by decide +kernel
theorem dLw_law_313 : decode cLw_law 313 = .ok (.iaload, 1) := by decide +kernel
theorem dLw_law_314 : decode cLw_law 314 = .ok (.aload_n 3, 1) := by decide +kernel
theorem dLw_law_315 : decode cLw_law 315 = .ok (.invokestatic 68, 3) := by decide +kernel
theorem dLw_law_318 : decode cLw_law 318 = .ok (.istore 5, 2) := by decide +kernel
theorem dLw_law_320 : decode cLw_law 320 = .ok (.aload_n 2, 1) := by decide +kernel
theorem dLw_law_321 : decode cLw_law 321 = .ok (.aload_n 0, 1) := by decide +kernel
theorem dLw_law_322 : decode cLw_law 322 = .ok (.iload 4, 2) := by decide +kernel
theorem dLw_law_324 : decode cLw_law 324 = .ok (.iconst 1, 1) := by decide +kernel
theorem dLw_law_325 : decode cLw_law 325 = .ok (.iadd, 1) := by decide +kernel
theorem dLw_law_326 : decode cLw_law 326 = .ok (.iaload, 1) := by decide +kernel
theorem dLw_law_327 : decode cLw_law 327 = .ok (.invokevirtual 71, 3) := by decide +kernel
theorem dLw_law_330 : decode cLw_law 330 = .ok (.istore 6, 2) := by decide +kernel
theorem dLw_law_332 : decode cLw_law 332 = .ok (.aload_n 2, 1) := by decide +kernel
theorem dLw_law_333 : decode cLw_law 333 = .ok (.invokevirtual 40, 3) := by decide +kernel
theorem dLw_law_336 : decode cLw_law 336 = .ok (.iload 5, 2) := by decide +kernel
theorem dLw_law_338 : decode cLw_law 338 = .ok (.if_icmp .eq 5, 3) := by decide +kernel
theorem dLw_law_341 : decode cLw_law 341 = .ok (.iconst 0, 1) := by decide +kernel
theorem dLw_law_342 : decode cLw_law 342 = .ok (.ireturn, 1) := by decide +kernel
theorem dLw_law_343 : decode cLw_law 343 = .ok (.iload 5, 2) := by decide +kernel
theorem dLw_law_345 : decode cLw_law 345 = .ok (.ifCond .ne 15, 3) := by decide +kernel
theorem dLw_law_348 : decode cLw_law 348 = .ok (.aload_n 3, 1) := by decide +kernel
theorem dLw_law_349 : decode cLw_law 349 = .ok (.iconst 0, 1) := by decide +kernel
theorem dLw_law_350 : decode cLw_law 350 = .ok (.laload, 1) := by decide +kernel
theorem dLw_law_351 : decode cLw_law 351 = .ok (.iload 6, 2) := by decide +kernel
theorem dLw_law_353 : decode cLw_law 353 = .ok (.i2l, 1) := by decide +kernel
theorem dLw_law_354 : decode cLw_law 354 = .ok (.lcmp, 1) := by decide +kernel
theorem dLw_law_355 : decode cLw_law 355 = .ok (.ifCond .eq 5, 3) := by decide +kernel
theorem dLw_law_358 : decode cLw_law 358 = .ok (.iconst 0, 1) := by decide +kernel
theorem dLw_law_359 : decode cLw_law 359 = .ok (.ireturn, 1) := by decide +kernel
theorem dLw_law_360 : decode cLw_law 360 = .ok (.goto 95, 3) := by decide +kernel
theorem dLw_law_363 : decode cLw_law 363 = .ok (.aload_n 1, 1) := by decide +kernel
theorem dLw_law_364 : decode cLw_law 364 = .ok (.invokevirtual 72, 3) := by decide +kernel
theorem dLw_law_367 : decode cLw_law 367 = .ok (.aload_n 2, 1) := by decide +kernel
theorem dLw_law_368 : decode cLw_law 368 = .ok (.invokevirtual 75, 3) := by decide +kernel
theorem dLw_law_371 : decode cLw_law 371 = .ok (.goto 84, 3) := by decide +kernel
theorem dLw_law_374 : decode cLw_law 374 = .ok (.aload_n 1, 1) := by decide +kernel
theorem dLw_law_375 : decode cLw_law 375 = .ok (.aload_n 0, 1) := by decide +kernel
theorem dLw_law_376 : decode cLw_law 376 = .ok (.iload 4, 2) := by decide +kernel
theorem dLw_law_378 : decode cLw_law 378 = .ok (.iconst 1, 1) := by decide +kernel
theorem dLw_law_379 : decode cLw_law 379 = .ok (.iadd, 1) := by decide +kernel
theorem dLw_law_380 : decode cLw_law 380 = .ok (.iaload, 1) := by decide +kernel
theorem dLw_law_381 : decode cLw_law 381 = .ok (.aload_n 3, 1) := by decide +kernel
theorem dLw_law_382 : decode cLw_law 382 = .ok (.invokestatic 76, 3) := by decide +kernel
theorem dLw_law_385 : decode cLw_law 385 = .ok (.istore 5, 2) := by decide +kernel
theorem dLw_law_387 : decode cLw_law 387 = .ok (.aload_n 2, 1) := by decide +kernel
theorem dLw_law_388 : decode cLw_law 388 = .ok (.aload_n 0, 1) := by decide +kernel
theorem dLw_law_389 : decode cLw_law 389 = .ok (.iload 4, 2) := by decide +kernel
theorem dLw_law_391 : decode cLw_law 391 = .ok (.iconst 1, 1) := by decide +kernel
theorem dLw_law_392 : decode cLw_law 392 = .ok (.iadd, 1) := by decide +kernel
theorem dLw_law_393 : decode cLw_law 393 = .ok (.iaload, 1) := by decide +kernel
theorem dLw_law_394 : decode cLw_law 394 = .ok (.invokevirtual 78, 3) := by decide +kernel
theorem dLw_law_397 : decode cLw_law 397 = .ok (.istore 6, 2) := by decide +kernel
theorem dLw_law_399 : decode cLw_law 399 = .ok (.aload_n 2, 1) := by decide +kernel
theorem dLw_law_400 : decode cLw_law 400 = .ok (.invokevirtual 40, 3) := by decide +kernel
theorem dLw_law_403 : decode cLw_law 403 = .ok (.iload 5, 2) := by decide +kernel
theorem dLw_law_405 : decode cLw_law 405 = .ok (.if_icmp .eq 5, 3) := by decide +kernel
theorem dLw_law_408 : decode cLw_law 408 = .ok (.iconst 0, 1) := by decide +kernel
theorem dLw_law_409 : decode cLw_law 409 = .ok (.ireturn, 1) := by decide +kernel
theorem dLw_law_410 : decode cLw_law 410 = .ok (.iload 5, 2) := by decide +kernel
theorem dLw_law_412 : decode cLw_law 412 = .ok (.ifCond .ne 15, 3) := by decide +kernel
theorem dLw_law_415 : decode cLw_law 415 = .ok (.aload_n 3, 1) := by decide +kernel
theorem dLw_law_416 : decode cLw_law 416 = .ok (.iconst 0, 1) := by decide +kernel
theorem dLw_law_417 : decode cLw_law 417 = .ok (.laload, 1) := by decide +kernel
theorem dLw_law_418 : decode cLw_law 418 = .ok (.iload 6, 2) := by decide +kernel
theorem dLw_law_420 : decode cLw_law 420 = .ok (.i2l, 1) := by decide +kernel
theorem dLw_law_421 : decode cLw_law 421 = .ok (.lcmp, 1) := by decide +kernel
theorem dLw_law_422 : decode cLw_law 422 = .ok (.ifCond .eq 5, 3) := by decide +kernel
theorem dLw_law_425 : decode cLw_law 425 = .ok (.iconst 0, 1) := by decide +kernel
theorem dLw_law_426 : decode cLw_law 426 = .ok (.ireturn, 1) := by decide +kernel
theorem dLw_law_427 : decode cLw_law 427 = .ok (.goto 28, 3) := by decide +kernel
theorem dLw_law_430 : decode cLw_law 430 = .ok (.aload_n 1, 1) := by decide +kernel
theorem dLw_law_431 : decode cLw_law 431 = .ok (.aload_n 0, 1) := by decide +kernel
theorem dLw_law_432 : decode cLw_law 432 = .ok (.iload 4, 2) := by decide +kernel
theorem dLw_law_434 : decode cLw_law 434 = .ok (.iconst 1, 1) := by decide +kernel
theorem dLw_law_435 : decode cLw_law 435 = .ok (.iadd, 1) := by decide +kernel
theorem dLw_law_436 : decode cLw_law 436 = .ok (.iaload, 1) := by decide +kernel
theorem dLw_law_437 : decode cLw_law 437 = .ok (.invokevirtual 79, 3) := by decide +kernel
theorem dLw_law_440 : decode cLw_law 440 = .ok (.aload_n 2, 1) := by decide +kernel
theorem dLw_law_441 : decode cLw_law 441 = .ok (.aload_n 0, 1) := by decide +kernel
theorem dLw_law_442 : decode cLw_law 442 = .ok (.iload 4, 2) := by decide +kernel
theorem dLw_law_444 : decode cLw_law 444 = .ok (.iconst 1, 1) := by decide +kernel
theorem dLw_law_445 : decode cLw_law 445 = .ok (.iadd, 1) := by decide +kernel
theorem dLw_law_446 : decode cLw_law 446 = .ok (.iaload, 1) := by decide +kernel
theorem dLw_law_447 : decode cLw_law 447 = .ok (.invokevirtual 82, 3) := by decide +kernel
theorem dLw_law_450 : decode cLw_law 450 = .ok (.if_icmp .eq 5, 3) := by decide +kernel
theorem dLw_law_453 : decode cLw_law 453 = .ok (.iconst 0, 1) := by decide +kernel
theorem dLw_law_454 : decode cLw_law 454 = .ok (.ireturn, 1) := by decide +kernel
theorem dLw_law_455 : decode cLw_law 455 = .ok (.iinc 4 5, 3) := by decide +kernel
theorem dLw_law_458 : decode cLw_law 458 = .ok (.goto (-435), 3) := by decide +kernel
theorem dLw_law_461 : decode cLw_law 461 = .ok (.iconst 1, 1) := by decide +kernel
theorem dLw_law_462 : decode cLw_law 462 = .ok (.ireturn, 1) := by decide +kernel
