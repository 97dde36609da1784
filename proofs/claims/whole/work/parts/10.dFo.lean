theorem dFo_isLine_0 : decode cFo_isLine 0 = .ok (.iload_n 0, 1) := by decide +kernel
theorem dFo_isLine_1 : decode cFo_isLine 1 = .ok (.tableswitch 236 0 15 #[79, 84, 84, 84, 84, 108, 108, 135, 162, 162, 192, 79, 197, 217, 234, 234], 79) := by decide +kernel
theorem dFo_isLine_80 : decode cFo_isLine 80 = .ok (.iload_n 1, 1) := by decide +kernel
theorem dFo_isLine_81 : decode cFo_isLine 81 = .ok (.invokestatic 9, 3) := by decide +kernel
theorem dFo_isLine_84 : decode cFo_isLine 84 = .ok (.ireturn, 1) := by decide +kernel
theorem dFo_isLine_85 : decode cFo_isLine 85 = .ok (.iload_n 1, 1) := by decide +kernel
theorem dFo_isLine_86 : decode cFo_isLine 86 = .ok (.invokestatic 15, 3) := by decide +kernel
theorem dFo_isLine_89 : decode cFo_isLine 89 = .ok (.ifCond .eq 18, 3) := by decide +kernel
theorem dFo_isLine_92 : decode cFo_isLine 92 = .ok (.iload_n 2, 1) := by decide +kernel
theorem dFo_isLine_93 : decode cFo_isLine 93 = .ok (.ifCond .lt 14, 3) := by decide +kernel
theorem dFo_isLine_96 : decode cFo_isLine 96 = .ok (.iload_n 2, 1) := by decide +kernel
theorem dFo_isLine_97 : decode cFo_isLine 97 = .ok (.sipush 256, 3) := by decide +kernel
theorem dFo_isLine_100 : decode cFo_isLine 100 = .ok (.if_icmp .ge 7, 3) := by decide +kernel
theorem dFo_isLine_103 : decode cFo_isLine 103 = .ok (.iconst 1, 1) := by decide +kernel
theorem dFo_isLine_104 : decode cFo_isLine 104 = .ok (.goto 4, 3) := by decide +kernel
theorem dFo_isLine_107 : decode cFo_isLine 107 = .ok (.iconst 0, 1) := by decide +kernel
theorem dFo_isLine_108 : decode cFo_isLine 108 = .ok (.ireturn, 1) := by decide +kernel
theorem dFo_isLine_109 : decode cFo_isLine 109 = .ok (.iload_n 1, 1) := by decide +kernel
theorem dFo_isLine_110 : decode cFo_isLine 110 = .ok (.invokestatic 15, 3) := by decide +kernel
theorem dFo_isLine_113 : decode cFo_isLine 113 = .ok (.ifCond .eq 21, 3) := by decide +kernel
theorem dFo_isLine_116 : decode cFo_isLine 116 = .ok (.iload_n 2, 1) := by decide +kernel
theorem dFo_isLine_117 : decode cFo_isLine 117 = .ok (.invokestatic 15, 3) := by decide +kernel
theorem dFo_isLine_120 : decode cFo_isLine 120 = .ok (.ifCond .eq 14, 3) := by decide +kernel
theorem dFo_isLine_123 : decode cFo_isLine 123 = .ok (.iload_n 3, 1) := by decide +kernel
theorem dFo_isLine_124 : decode cFo_isLine 124 = .ok (.invokestatic 15, 3) := by decide +kernel
theorem dFo_isLine_127 : decode cFo_isLine 127 = .ok (.ifCond .eq 7, 3) := by decide +kernel
theorem dFo_isLine_130 : decode cFo_isLine 130 = .ok (.iconst 1, 1) := by decide +kernel
theorem dFo_isLine_131 : decode cFo_isLine 131 = .ok (.goto 4, 3) := by decide +kernel
theorem dFo_isLine_134 : decode cFo_isLine 134 = .ok (.iconst 0, 1) := by decide +kernel
theorem dFo_isLine_135 : decode cFo_isLine 135 = .ok (.ireturn, 1) := by decide +kernel
theorem dFo_isLine_136 : decode cFo_isLine 136 = .ok (.iload_n 1, 1) := by decide +kernel
theorem dFo_isLine_137 : decode cFo_isLine 137 = .ok (.invokestatic 15, 3) := by decide +kernel
theorem dFo_isLine_140 : decode cFo_isLine 140 = .ok (.ifCond .eq 21, 3) := by decide +kernel
theorem dFo_isLine_143 : decode cFo_isLine 143 = .ok (.iload_n 2, 1) := by decide +kernel
theorem dFo_isLine_144 : decode cFo_isLine 144 = .ok (.invokestatic 15, 3) := by decide +kernel
theorem dFo_isLine_147 : decode cFo_isLine 147 = .ok (.ifCond .eq 14, 3) := by decide +kernel
theorem dFo_isLine_150 : decode cFo_isLine 150 = .ok (.iload_n 3, 1) := by decide +kernel
theorem dFo_isLine_151 : decode cFo_isLine 151 = .ok (.invokestatic 18, 3) := by decide +kernel
theorem dFo_isLine_154 : decode cFo_isLine 154 = .ok (.ifCond .eq 7, 3) := by decide +kernel
theorem dFo_isLine_157 : decode cFo_isLine 157 = .ok (.iconst 1, 1) := by decide +kernel
theorem dFo_isLine_158 : decode cFo_isLine 158 = .ok (.goto 4, 3) := by decide +kernel
theorem dFo_isLine_161 : decode cFo_isLine 161 = .ok (.iconst 0, 1) := by decide +kernel
theorem dFo_isLine_162 : decode cFo_isLine 162 = .ok (.ireturn, 1) := by decide +kernel
theorem dFo_isLine_163 : decode cFo_isLine 163 = .ok (.iload_n 1, 1) := by decide +kernel
theorem dFo_isLine_164 : decode cFo_isLine 164 = .ok (.invokestatic 15, 3) := by decide +kernel
theorem dFo_isLine_167 : decode cFo_isLine 167 = .ok (.ifCond .eq 24, 3) := by decide +kernel
theorem dFo_isLine_170 : decode cFo_isLine 170 = .ok (.iload_n 2, 1) := by decide +kernel
theorem dFo_isLine_171 : decode cFo_isLine 171 = .ok (.invokestatic 15, 3) := by decide +kernel
theorem dFo_isLine_174 : decode cFo_isLine 174 = .ok (.ifCond .eq 17, 3) := by decide +kernel
theorem dFo_isLine_177 : decode cFo_isLine 177 = .ok (.iload_n 3, 1) := by decide +kernel
theorem dFo_isLine_178 : decode cFo_isLine 178 = .ok (.ifCond .lt 13, 3) := by decide +kernel
theorem dFo_isLine_181 : decode cFo_isLine 181 = .ok (.iload_n 3, 1) := by decide +kernel
theorem dFo_isLine_182 : decode cFo_isLine 182 = .ok (.bipush 32, 2) := by decide +kernel
theorem dFo_isLine_184 : decode cFo_isLine 184 = .ok (.if_icmp .ge 7, 3) := by decide +kernel
theorem dFo_isLine_187 : decode cFo_isLine 187 = .ok (.iconst 1, 1) := by decide +kernel
theorem dFo_isLine_188 : decode cFo_isLine 188 = .ok (.goto 4, 3) := by decide +kernel
theorem dFo_isLine_191 : decode cFo_isLine 191 = .ok (.iconst 0, 1) := by decide +kernel
theorem dFo_isLine_192 : decode cFo_isLine 192 = .ok (.ireturn, 1) := by decide +kernel
theorem dFo_isLine_193 : decode cFo_isLine 193 = .ok (.iload_n 1, 1) := by decide +kernel
theorem dFo_isLine_194 : decode cFo_isLine 194 = .ok (.invokestatic 15, 3) := by decide +kernel
theorem dFo_isLine_197 : decode cFo_isLine 197 = .ok (.ireturn, 1) := by decide +kernel
theorem dFo_isLine_198 : decode cFo_isLine 198 = .ok (.iload_n 1, 1) := by decide +kernel
theorem dFo_isLine_199 : decode cFo_isLine 199 = .ok (.invokestatic 9, 3) := by decide +kernel
theorem dFo_isLine_202 : decode cFo_isLine 202 = .ok (.ifCond .eq 14, 3) := by decide +kernel
theorem dFo_isLine_205 : decode cFo_isLine 205 = .ok (.iload_n 3, 1) := by decide +kernel
theorem dFo_isLine_206 : decode cFo_isLine 206 = .ok (.invokestatic 21, 3) := by decide +kernel
theorem dFo_isLine_209 : decode cFo_isLine 209 = .ok (.ifCond .eq 7, 3) := by decide +kernel
theorem dFo_isLine_212 : decode cFo_isLine 212 = .ok (.iconst 1, 1) := by decide +kernel
theorem dFo_isLine_213 : decode cFo_isLine 213 = .ok (.goto 4, 3) := by decide +kernel
theorem dFo_isLine_216 : decode cFo_isLine 216 = .ok (.iconst 0, 1) := by decide +kernel
theorem dFo_isLine_217 : decode cFo_isLine 217 = .ok (.ireturn, 1) := by decide +kernel
theorem dFo_isLine_218 : decode cFo_isLine 218 = .ok (.iload_n 1, 1) := by decide +kernel
theorem dFo_isLine_219 : decode cFo_isLine 219 = .ok (.iconst 1, 1) := by decide +kernel
theorem dFo_isLine_220 : decode cFo_isLine 220 = .ok (.if_icmp .lt 13, 3) := by decide +kernel
theorem dFo_isLine_223 : decode cFo_isLine 223 = .ok (.iload_n 1, 1) := by decide +kernel
theorem dFo_isLine_224 : decode cFo_isLine 224 = .ok (.bipush 40, 2) := by decide +kernel
theorem dFo_isLine_226 : decode cFo_isLine 226 = .ok (.if_icmp .gt 7, 3) := by decide +kernel
theorem dFo_isLine_229 : decode cFo_isLine 229 = .ok (.iconst 1, 1) := by decide +kernel
theorem dFo_isLine_230 : decode cFo_isLine 230 = .ok (.goto 4, 3) := by decide +kernel
theorem dFo_isLine_233 : decode cFo_isLine 233 = .ok (.iconst 0, 1) := by decide +kernel
theorem dFo_isLine_234 : decode cFo_isLine 234 = .ok (.ireturn, 1) := by decide +kernel
theorem dFo_isLine_235 : decode cFo_isLine 235 = .ok (.iconst 1, 1) := by decide +kernel
theorem dFo_isLine_236 : decode cFo_isLine 236 = .ok (.ireturn, 1) := by decide +kernel
theorem dFo_isLine_237 : decode cFo_isLine 237 = .ok (.iconst 0, 1) := by decide +kernel
theorem dFo_isLine_238 : decode cFo_isLine 238 = .ok (.ireturn, 1) := by decide +kernel
theorem dFo_isLabel_0 : decode cFo_isLabel 0 = .ok (.iload_n 0, 1) := by decide +kernel
theorem dFo_isLabel_1 : decode cFo_isLabel 1 = .ok (.ifCond .lt 13, 3) := by decide +kernel
theorem dFo_isLabel_4 : decode cFo_isLabel 4 = .ok (.iload_n 0, 1) := by decide +kernel
theorem dFo_isLabel_5 : decode cFo_isLabel 5 = .ok (.bipush 16, 2) := by decide +kernel
theorem dFo_isLabel_7 : decode cFo_isLabel 7 = .ok (.if_icmp .ge 7, 3) := by decide +kernel
theorem dFo_isLabel_10 : decode cFo_isLabel 10 = .ok (.iconst 1, 1) := by decide +kernel
theorem dFo_isLabel_11 : decode cFo_isLabel 11 = .ok (.goto 4, 3) := by decide +kernel
theorem dFo_isLabel_14 : decode cFo_isLabel 14 = .ok (.iconst 0, 1) := by decide +kernel
theorem dFo_isLabel_15 : decode cFo_isLabel 15 = .ok (.ireturn, 1) := by decide +kernel
theorem dFo_isRegister_0 : decode cFo_isRegister 0 = .ok (.iload_n 0, 1) := by decide +kernel
theorem dFo_isRegister_1 : decode cFo_isRegister 1 = .ok (.ifCond .lt 13, 3) := by decide +kernel
theorem dFo_isRegister_4 : decode cFo_isRegister 4 = .ok (.iload_n 0, 1) := by decide +kernel
theorem dFo_isRegister_5 : decode cFo_isRegister 5 = .ok (.bipush 8, 2) := by decide +kernel
theorem dFo_isRegister_7 : decode cFo_isRegister 7 = .ok (.if_icmp .ge 7, 3) := by decide +kernel
theorem dFo_isRegister_10 : decode cFo_isRegister 10 = .ok (.iconst 1, 1) := by decide +kernel
theorem dFo_isRegister_11 : decode cFo_isRegister 11 = .ok (.goto 4, 3) := by decide +kernel
theorem dFo_isRegister_14 : decode cFo_isRegister 14 = .ok (.iconst 0, 1) := by decide +kernel
theorem dFo_isRegister_15 : decode cFo_isRegister 15 = .ok (.ireturn, 1) := by decide +kernel
theorem dFo_isWork_0 : decode cFo_isWork 0 = .ok (.iload_n 0, 1) := by decide +kernel
theorem dFo_isWork_1 : decode cFo_isWork 1 = .ok (.ifCond .eq 26, 3) := by decide +kernel
theorem dFo_isWork_4 : decode cFo_isWork 4 = .ok (.iload_n 0, 1) := by decide +kernel
theorem dFo_isWork_5 : decode cFo_isWork 5 = .ok (.iconst 1, 1) := by decide +kernel
theorem dFo_isWork_6 : decode cFo_isWork 6 = .ok (.if_icmp .eq 21, 3) := by decide +kernel
theorem dFo_isWork_9 : decode cFo_isWork 9 = .ok (.iload_n 0, 1) := by decide +kernel
theorem dFo_isWork_10 : decode cFo_isWork 10 = .ok (.bipush 10, 2) := by decide +kernel
theorem dFo_isWork_12 : decode cFo_isWork 12 = .ok (.if_icmp .eq 15, 3) := by decide +kernel
theorem dFo_isWork_15 : decode cFo_isWork 15 = .ok (.iload_n 0, 1) := by decide +kernel
theorem dFo_isWork_16 : decode cFo_isWork 16 = .ok (.bipush 12, 2) := by decide +kernel
theorem dFo_isWork_18 : decode cFo_isWork 18 = .ok (.if_icmp .lt 13, 3) := by decide +kernel
theorem dFo_isWork_21 : decode cFo_isWork 21 = .ok (.iload_n 0, 1) := by decide +kernel
theorem dFo_isWork_22 : decode cFo_isWork 22 = .ok (.bipush 15, 2) := by decide +kernel
theorem dFo_isWork_24 : decode cFo_isWork 24 = .ok (.if_icmp .gt 7, 3) := by decide +kernel
theorem dFo_isWork_27 : decode cFo_isWork 27 = .ok (.iconst 1, 1) := by decide +kernel
theorem dFo_isWork_28 : decode cFo_isWork 28 = .ok (.goto 4, 3) := by decide +kernel
theorem dFo_isWork_31 : decode cFo_isWork 31 = .ok (.iconst 0, 1) := by decide +kernel
theorem dFo_isWork_32 : decode cFo_isWork 32 = .ok (.ireturn, 1) := by decide +kernel
theorem dFo_isCondition_0 : decode cFo_isCondition 0 = .ok (.iload_n 0, 1) := by decide +kernel
theorem dFo_isCondition_1 : decode cFo_isCondition 1 = .ok (.ifCond .lt 8, 3) := by decide +kernel
theorem dFo_isCondition_4 : decode cFo_isCondition 4 = .ok (.iload_n 0, 1) := by decide +kernel
theorem dFo_isCondition_5 : decode cFo_isCondition 5 = .ok (.iconst 5, 1) := by decide +kernel
theorem dFo_isCondition_6 : decode cFo_isCondition 6 = .ok (.if_icmp .le 15, 3) := by decide +kernel
theorem dFo_isCondition_9 : decode cFo_isCondition 9 = .ok (.iload_n 0, 1) := by decide +kernel
theorem dFo_isCondition_10 : decode cFo_isCondition 10 = .ok (.bipush 10, 2) := by decide +kernel
theorem dFo_isCondition_12 : decode cFo_isCondition 12 = .ok (.if_icmp .lt 13, 3) := by decide +kernel
theorem dFo_isCondition_15 : decode cFo_isCondition 15 = .ok (.iload_n 0, 1) := by decide +kernel
theorem dFo_isCondition_16 : decode cFo_isCondition 16 = .ok (.bipush 13, 2) := by decide +kernel
theorem dFo_isCondition_18 : decode cFo_isCondition 18 = .ok (.if_icmp .gt 7, 3) := by decide +kernel
theorem dFo_isCondition_21 : decode cFo_isCondition 21 = .ok (.iconst 1, 1) := by decide +kernel
theorem dFo_isCondition_22 : decode cFo_isCondition 22 = .ok (.goto 4, 3) := by decide +kernel
theorem dFo_isCondition_25 : decode cFo_isCondition 25 = .ok (.iconst 0, 1) := by decide +kernel
theorem dFo_isCondition_26 : decode cFo_isCondition 26 = .ok (.ireturn, 1) := by decide +kernel
theorem dFo_upToFour_0 : decode cFo_upToFour 0 = .ok (.iload_n 0, 1) := by decide +kernel
theorem dFo_upToFour_1 : decode cFo_upToFour 1 = .ok (.iconst 3, 1) := by decide +kernel
theorem dFo_upToFour_2 : decode cFo_upToFour 2 = .ok (.iadd, 1) := by decide +kernel
theorem dFo_upToFour_3 : decode cFo_upToFour 3 = .ok (.bipush (-4), 2) := by decide +kernel
theorem dFo_upToFour_5 : decode cFo_upToFour 5 = .ok (.iand, 1) := by decide +kernel
theorem dFo_upToFour_6 : decode cFo_upToFour 6 = .ok (.ireturn, 1) := by decide +kernel
theorem dFo_baseOf_0 : decode cFo_baseOf 0 = .ok (.iload_n 0, 1) := by decide +kernel
theorem dFo_baseOf_1 : decode cFo_baseOf 1 = .ok (.iconst 4, 1) := by decide +kernel
theorem dFo_baseOf_2 : decode cFo_baseOf 2 = .ok (.iadd, 1) := by decide +kernel
theorem dFo_baseOf_3 : decode cFo_baseOf 3 = .ok (.bipush (-4), 2) := by decide +kernel
theorem dFo_baseOf_5 : decode cFo_baseOf 5 = .ok (.iand, 1) := by decide +kernel
theorem dFo_baseOf_6 : decode cFo_baseOf 6 = .ok (.ireturn, 1) := by decide +kernel
