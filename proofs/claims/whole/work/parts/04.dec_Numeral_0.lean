theorem d_Numeral_isDigit_0 : decode b_Numeral_isDigit 0 = .ok (.iload_n 0, 1) := by decide +kernel
theorem d_Numeral_isDigit_1 : decode b_Numeral_isDigit 1 = .ok (.bipush 48, 2) := by decide +kernel
theorem d_Numeral_isDigit_3 : decode b_Numeral_isDigit 3 = .ok (.if_icmp .lt 13, 3) := by decide +kernel
theorem d_Numeral_isDigit_6 : decode b_Numeral_isDigit 6 = .ok (.iload_n 0, 1) := by decide +kernel
theorem d_Numeral_isDigit_7 : decode b_Numeral_isDigit 7 = .ok (.bipush 57, 2) := by decide +kernel
theorem d_Numeral_isDigit_9 : decode b_Numeral_isDigit 9 = .ok (.if_icmp .gt 7, 3) := by decide +kernel
theorem d_Numeral_isDigit_12 : decode b_Numeral_isDigit 12 = .ok (.iconst 1, 1) := by decide +kernel
theorem d_Numeral_isDigit_13 : decode b_Numeral_isDigit 13 = .ok (.goto 4, 3) := by decide +kernel
theorem d_Numeral_isDigit_16 : decode b_Numeral_isDigit 16 = .ok (.iconst 0, 1) := by decide +kernel
theorem d_Numeral_isDigit_17 : decode b_Numeral_isDigit 17 = .ok (.ireturn, 1) := by decide +kernel
theorem d_Numeral_isSign_0 : decode b_Numeral_isSign 0 = .ok (.iload_n 0, 1) := by decide +kernel
theorem d_Numeral_isSign_1 : decode b_Numeral_isSign 1 = .ok (.bipush 43, 2) := by decide +kernel
theorem d_Numeral_isSign_3 : decode b_Numeral_isSign 3 = .ok (.if_icmp .eq 9, 3) := by decide +kernel
theorem d_Numeral_isSign_6 : decode b_Numeral_isSign 6 = .ok (.iload_n 0, 1) := by decide +kernel
theorem d_Numeral_isSign_7 : decode b_Numeral_isSign 7 = .ok (.bipush 45, 2) := by decide +kernel
theorem d_Numeral_isSign_9 : decode b_Numeral_isSign 9 = .ok (.if_icmp .ne 7, 3) := by decide +kernel
theorem d_Numeral_isSign_12 : decode b_Numeral_isSign 12 = .ok (.iconst 1, 1) := by decide +kernel
theorem d_Numeral_isSign_13 : decode b_Numeral_isSign 13 = .ok (.goto 4, 3) := by decide +kernel
theorem d_Numeral_isSign_16 : decode b_Numeral_isSign 16 = .ok (.iconst 0, 1) := by decide +kernel
theorem d_Numeral_isSign_17 : decode b_Numeral_isSign 17 = .ok (.ireturn, 1) := by decide +kernel
theorem d_Numeral_exponentFor_0 : decode b_Numeral_exponentFor 0 = .ok (.iload_n 0, 1) := by decide +kernel
theorem d_Numeral_exponentFor_1 : decode b_Numeral_exponentFor 1 = .ok (.bipush 101, 2) := by decide +kernel
theorem d_Numeral_exponentFor_3 : decode b_Numeral_exponentFor 3 = .ok (.if_icmp .eq 9, 3) := by decide +kernel
theorem d_Numeral_exponentFor_6 : decode b_Numeral_exponentFor 6 = .ok (.iload_n 0, 1) := by decide +kernel
theorem d_Numeral_exponentFor_7 : decode b_Numeral_exponentFor 7 = .ok (.bipush 69, 2) := by decide +kernel
theorem d_Numeral_exponentFor_9 : decode b_Numeral_exponentFor 9 = .ok (.if_icmp .ne 8, 3) := by decide +kernel
theorem d_Numeral_exponentFor_12 : decode b_Numeral_exponentFor 12 = .ok (.bipush 6, 2) := by decide +kernel
theorem d_Numeral_exponentFor_14 : decode b_Numeral_exponentFor 14 = .ok (.goto 4, 3) := by decide +kernel
theorem d_Numeral_exponentFor_17 : decode b_Numeral_exponentFor 17 = .ok (.iconst (-1), 1) := by decide +kernel
theorem d_Numeral_exponentFor_18 : decode b_Numeral_exponentFor 18 = .ok (.ireturn, 1) := by decide +kernel
theorem d_Numeral_afterSign_0 : decode b_Numeral_afterSign 0 = .ok (.iload_n 0, 1) := by decide +kernel
theorem d_Numeral_afterSign_1 : decode b_Numeral_afterSign 1 = .ok (.invokestatic 90, 3) := by decide +kernel
theorem d_Numeral_afterSign_4 : decode b_Numeral_afterSign 4 = .ok (.ifCond .eq 7, 3) := by decide +kernel
theorem d_Numeral_afterSign_7 : decode b_Numeral_afterSign 7 = .ok (.iconst 2, 1) := by decide +kernel
theorem d_Numeral_afterSign_8 : decode b_Numeral_afterSign 8 = .ok (.goto 25, 3) := by decide +kernel
theorem d_Numeral_afterSign_11 : decode b_Numeral_afterSign 11 = .ok (.iload_n 0, 1) := by decide +kernel
theorem d_Numeral_afterSign_12 : decode b_Numeral_afterSign 12 = .ok (.bipush 46, 2) := by decide +kernel
theorem d_Numeral_afterSign_14 : decode b_Numeral_afterSign 14 = .ok (.if_icmp .ne 7, 3) := by decide +kernel
theorem d_Numeral_afterSign_17 : decode b_Numeral_afterSign 17 = .ok (.iconst 3, 1) := by decide +kernel
theorem d_Numeral_afterSign_18 : decode b_Numeral_afterSign 18 = .ok (.goto 15, 3) := by decide +kernel
theorem d_Numeral_afterSign_21 : decode b_Numeral_afterSign 21 = .ok (.iload_n 0, 1) := by decide +kernel
theorem d_Numeral_afterSign_22 : decode b_Numeral_afterSign 22 = .ok (.bipush 105, 2) := by decide +kernel
theorem d_Numeral_afterSign_24 : decode b_Numeral_afterSign 24 = .ok (.if_icmp .ne 8, 3) := by decide +kernel
theorem d_Numeral_afterSign_27 : decode b_Numeral_afterSign 27 = .ok (.bipush 9, 2) := by decide +kernel
theorem d_Numeral_afterSign_29 : decode b_Numeral_afterSign 29 = .ok (.goto 4, 3) := by decide +kernel
theorem d_Numeral_afterSign_32 : decode b_Numeral_afterSign 32 = .ok (.iconst (-1), 1) := by decide +kernel
theorem d_Numeral_afterSign_33 : decode b_Numeral_afterSign 33 = .ok (.ireturn, 1) := by decide +kernel
theorem d_Numeral_after_0 : decode b_Numeral_after 0 = .ok (.iload_n 0, 1) := by decide +kernel
theorem d_Numeral_after_1 : decode b_Numeral_after 1 = .ok (.tableswitch 250 0 13 #[71, 98, 103, 129, 142, 142, 158, 184, 184, 198, 211, 250, 224, 237], 71) := by decide +kernel
theorem d_Numeral_after_72 : decode b_Numeral_after 72 = .ok (.iload_n 1, 1) := by decide +kernel
theorem d_Numeral_after_73 : decode b_Numeral_after 73 = .ok (.invokestatic 84, 3) := by decide +kernel
theorem d_Numeral_after_76 : decode b_Numeral_after 76 = .ok (.ifCond .eq 7, 3) := by decide +kernel
theorem d_Numeral_after_79 : decode b_Numeral_after 79 = .ok (.iconst 1, 1) := by decide +kernel
theorem d_Numeral_after_80 : decode b_Numeral_after 80 = .ok (.goto 18, 3) := by decide +kernel
theorem d_Numeral_after_83 : decode b_Numeral_after 83 = .ok (.iload_n 1, 1) := by decide +kernel
theorem d_Numeral_after_84 : decode b_Numeral_after 84 = .ok (.bipush 110, 2) := by decide +kernel
theorem d_Numeral_after_86 : decode b_Numeral_after 86 = .ok (.if_icmp .ne 8, 3) := by decide +kernel
theorem d_Numeral_after_89 : decode b_Numeral_after 89 = .ok (.bipush 12, 2) := by decide +kernel
theorem d_Numeral_after_91 : decode b_Numeral_after 91 = .ok (.goto 7, 3) := by decide +kernel
theorem d_Numeral_after_94 : decode b_Numeral_after 94 = .ok (.iload_n 1, 1) := by decide +kernel
theorem d_Numeral_after_95 : decode b_Numeral_after 95 = .ok (.invokestatic 87, 3) := by decide +kernel
theorem d_Numeral_after_98 : decode b_Numeral_after 98 = .ok (.ireturn, 1) := by decide +kernel
theorem d_Numeral_after_99 : decode b_Numeral_after 99 = .ok (.iload_n 1, 1) := by decide +kernel
theorem d_Numeral_after_100 : decode b_Numeral_after 100 = .ok (.invokestatic 87, 3) := by decide +kernel
theorem d_Numeral_after_103 : decode b_Numeral_after 103 = .ok (.ireturn, 1) := by decide +kernel
theorem d_Numeral_after_104 : decode b_Numeral_after 104 = .ok (.iload_n 1, 1) := by decide +kernel
theorem d_Numeral_after_105 : decode b_Numeral_after 105 = .ok (.invokestatic 90, 3) := by decide +kernel
theorem d_Numeral_after_108 : decode b_Numeral_after 108 = .ok (.ifCond .eq 7, 3) := by decide +kernel
theorem d_Numeral_after_111 : decode b_Numeral_after 111 = .ok (.iconst 2, 1) := by decide +kernel
theorem d_Numeral_after_112 : decode b_Numeral_after 112 = .ok (.goto 17, 3) := by decide +kernel
theorem d_Numeral_after_115 : decode b_Numeral_after 115 = .ok (.iload_n 1, 1) := by decide +kernel
theorem d_Numeral_after_116 : decode b_Numeral_after 116 = .ok (.bipush 46, 2) := by decide +kernel
theorem d_Numeral_after_118 : decode b_Numeral_after 118 = .ok (.if_icmp .ne 7, 3) := by decide +kernel
theorem d_Numeral_after_121 : decode b_Numeral_after 121 = .ok (.iconst 4, 1) := by decide +kernel
theorem d_Numeral_after_122 : decode b_Numeral_after 122 = .ok (.goto 7, 3) := by decide +kernel
theorem d_Numeral_after_125 : decode b_Numeral_after 125 = .ok (.iload_n 1, 1) := by decide +kernel
theorem d_Numeral_after_126 : decode b_Numeral_after 126 = .ok (.invokestatic 93, 3) := by decide +kernel
theorem d_Numeral_after_129 : decode b_Numeral_after 129 = .ok (.ireturn, 1) := by decide +kernel
theorem d_Numeral_after_130 : decode b_Numeral_after 130 = .ok (.iload_n 1, 1) := by decide +kernel
theorem d_Numeral_after_131 : decode b_Numeral_after 131 = .ok (.invokestatic 90, 3) := by decide +kernel
theorem d_Numeral_after_134 : decode b_Numeral_after 134 = .ok (.ifCond .eq 7, 3) := by decide +kernel
theorem d_Numeral_after_137 : decode b_Numeral_after 137 = .ok (.iconst 5, 1) := by decide +kernel
theorem d_Numeral_after_138 : decode b_Numeral_after 138 = .ok (.goto 4, 3) := by decide +kernel
theorem d_Numeral_after_141 : decode b_Numeral_after 141 = .ok (.iconst (-1), 1) := by decide +kernel
theorem d_Numeral_after_142 : decode b_Numeral_after 142 = .ok (.ireturn, 1) := by decide +kernel
theorem d_Numeral_after_143 : decode b_Numeral_after 143 = .ok (.iload_n 1, 1) := by decide +kernel
theorem d_Numeral_after_144 : decode b_Numeral_after 144 = .ok (.invokestatic 90, 3) := by decide +kernel
theorem d_Numeral_after_147 : decode b_Numeral_after 147 = .ok (.ifCond .eq 7, 3) := by decide +kernel
theorem d_Numeral_after_150 : decode b_Numeral_after 150 = .ok (.iconst 5, 1) := by decide +kernel
theorem d_Numeral_after_151 : decode b_Numeral_after 151 = .ok (.goto 7, 3) := by decide +kernel
theorem d_Numeral_after_154 : decode b_Numeral_after 154 = .ok (.iload_n 1, 1) := by decide +kernel
theorem d_Numeral_after_155 : decode b_Numeral_after 155 = .ok (.invokestatic 93, 3) := by decide +kernel
theorem d_Numeral_after_158 : decode b_Numeral_after 158 = .ok (.ireturn, 1) := by decide +kernel
theorem d_Numeral_after_159 : decode b_Numeral_after 159 = .ok (.iload_n 1, 1) := by decide +kernel
theorem d_Numeral_after_160 : decode b_Numeral_after 160 = .ok (.invokestatic 84, 3) := by decide +kernel
theorem d_Numeral_after_163 : decode b_Numeral_after 163 = .ok (.ifCond .eq 8, 3) := by decide +kernel
theorem d_Numeral_after_166 : decode b_Numeral_after 166 = .ok (.bipush 7, 2) := by decide +kernel
theorem d_Numeral_after_168 : decode b_Numeral_after 168 = .ok (.goto 16, 3) := by decide +kernel
theorem d_Numeral_after_171 : decode b_Numeral_after 171 = .ok (.iload_n 1, 1) := by decide +kernel
theorem d_Numeral_after_172 : decode b_Numeral_after 172 = .ok (.invokestatic 90, 3) := by decide +kernel
theorem d_Numeral_after_175 : decode b_Numeral_after 175 = .ok (.ifCond .eq 8, 3) := by decide +kernel
theorem d_Numeral_after_178 : decode b_Numeral_after 178 = .ok (.bipush 8, 2) := by decide +kernel
theorem d_Numeral_after_180 : decode b_Numeral_after 180 = .ok (.goto 4, 3) := by decide +kernel
theorem d_Numeral_after_183 : decode b_Numeral_after 183 = .ok (.iconst (-1), 1) := by decide +kernel
theorem d_Numeral_after_184 : decode b_Numeral_after 184 = .ok (.ireturn, 1) := by decide +kernel
theorem d_Numeral_after_185 : decode b_Numeral_after 185 = .ok (.iload_n 1, 1) := by decide +kernel
theorem d_Numeral_after_186 : decode b_Numeral_after 186 = .ok (.invokestatic 90, 3) := by decide +kernel
theorem d_Numeral_after_189 : decode b_Numeral_after 189 = .ok (.ifCond .eq 8, 3) := by decide +kernel
theorem d_Numeral_after_192 : decode b_Numeral_after 192 = .ok (.bipush 8, 2) := by decide +kernel
theorem d_Numeral_after_194 : decode b_Numeral_after 194 = .ok (.goto 4, 3) := by decide +kernel
theorem d_Numeral_after_197 : decode b_Numeral_after 197 = .ok (.iconst (-1), 1) := by decide +kernel
theorem d_Numeral_after_198 : decode b_Numeral_after 198 = .ok (.ireturn, 1) := by decide +kernel
theorem d_Numeral_after_199 : decode b_Numeral_after 199 = .ok (.iload_n 1, 1) := by decide +kernel
theorem d_Numeral_after_200 : decode b_Numeral_after 200 = .ok (.bipush 110, 2) := by decide +kernel
theorem d_Numeral_after_202 : decode b_Numeral_after 202 = .ok (.if_icmp .ne 8, 3) := by decide +kernel
theorem d_Numeral_after_205 : decode b_Numeral_after 205 = .ok (.bipush 10, 2) := by decide +kernel
theorem d_Numeral_after_207 : decode b_Numeral_after 207 = .ok (.goto 4, 3) := by decide +kernel
theorem d_Numeral_after_210 : decode b_Numeral_after 210 = .ok (.iconst (-1), 1) := by decide +kernel
theorem d_Numeral_after_211 : decode b_Numeral_after 211 = .ok (.ireturn, 1) := by decide +kernel
theorem d_Numeral_after_212 : decode b_Numeral_after 212 = .ok (.iload_n 1, 1) := by decide +kernel
theorem d_Numeral_after_213 : decode b_Numeral_after 213 = .ok (.bipush 102, 2) := by decide +kernel
theorem d_Numeral_after_215 : decode b_Numeral_after 215 = .ok (.if_icmp .ne 8, 3) := by decide +kernel
theorem d_Numeral_after_218 : decode b_Numeral_after 218 = .ok (.bipush 11, 2) := by decide +kernel
theorem d_Numeral_after_220 : decode b_Numeral_after 220 = .ok (.goto 4, 3) := by decide +kernel
theorem d_Numeral_after_223 : decode b_Numeral_after 223 = .ok (.iconst (-1), 1) := by decide +kernel
theorem d_Numeral_after_224 : decode b_Numeral_after 224 = .ok (.ireturn, 1) := by decide +kernel
theorem d_Numeral_after_225 : decode b_Numeral_after 225 = .ok (.iload_n 1, 1) := by decide +kernel
theorem d_Numeral_after_226 : decode b_Numeral_after 226 = .ok (.bipush 97, 2) := by decide +kernel
theorem d_Numeral_after_228 : decode b_Numeral_after 228 = .ok (.if_icmp .ne 8, 3) := by decide +kernel
theorem d_Numeral_after_231 : decode b_Numeral_after 231 = .ok (.bipush 13, 2) := by decide +kernel
theorem d_Numeral_after_233 : decode b_Numeral_after 233 = .ok (.goto 4, 3) := by decide +kernel
theorem d_Numeral_after_236 : decode b_Numeral_after 236 = .ok (.iconst (-1), 1) := by decide +kernel
theorem d_Numeral_after_237 : decode b_Numeral_after 237 = .ok (.ireturn, 1) := by decide +kernel
theorem d_Numeral_after_238 : decode b_Numeral_after 238 = .ok (.iload_n 1, 1) := by decide +kernel
theorem d_Numeral_after_239 : decode b_Numeral_after 239 = .ok (.bipush 110, 2) := by decide +kernel
theorem d_Numeral_after_241 : decode b_Numeral_after 241 = .ok (.if_icmp .ne 8, 3) := by decide +kernel
theorem d_Numeral_after_244 : decode b_Numeral_after 244 = .ok (.bipush 14, 2) := by decide +kernel
theorem d_Numeral_after_246 : decode b_Numeral_after 246 = .ok (.goto 4, 3) := by decide +kernel
theorem d_Numeral_after_249 : decode b_Numeral_after 249 = .ok (.iconst (-1), 1) := by decide +kernel
theorem d_Numeral_after_250 : decode b_Numeral_after 250 = .ok (.ireturn, 1) := by decide +kernel
theorem d_Numeral_after_251 : decode b_Numeral_after 251 = .ok (.iconst (-1), 1) := by decide +kernel
theorem d_Numeral_after_252 : decode b_Numeral_after 252 = .ok (.ireturn, 1) := by decide +kernel
theorem d_Numeral_take_0 : decode b_Numeral_take 0 = .ok (.iload_n 1, 1) := by decide +kernel
theorem d_Numeral_take_1 : decode b_Numeral_take 1 = .ok (.iconst 1, 1) := by decide +kernel
theorem d_Numeral_take_2 : decode b_Numeral_take 2 = .ok (.if_icmp .ne 21, 3) := by decide +kernel
theorem d_Numeral_take_5 : decode b_Numeral_take 5 = .ok (.aload_n 0, 1) := by decide +kernel
theorem d_Numeral_take_6 : decode b_Numeral_take 6 = .ok (.iload_n 2, 1) := by decide +kernel
theorem d_Numeral_take_7 : decode b_Numeral_take 7 = .ok (.bipush 45, 2) := by decide +kernel
theorem d_Numeral_take_9 : decode b_Numeral_take 9 = .ok (.if_icmp .ne 7, 3) := by decide +kernel
theorem d_Numeral_take_12 : decode b_Numeral_take 12 = .ok (.iconst 1, 1) := by decide +kernel
theorem d_Numeral_take_13 : decode b_Numeral_take 13 = .ok (.goto 4, 3) := by decide +kernel
theorem d_Numeral_take_16 : decode b_Numeral_take 16 = .ok (.iconst 0, 1) := by decide +kernel
theorem d_Numeral_take_17 : decode b_Numeral_take 17 = .ok (.putfield 33, 3) := by decide +kernel
theorem d_Numeral_take_20 : decode b_Numeral_take 20 = .ok (.goto 136, 3) := by decide +kernel
theorem d_Numeral_take_23 : decode b_Numeral_take 23 = .ok (.iload_n 1, 1) := by decide +kernel
theorem d_Numeral_take_24 : decode b_Numeral_take 24 = .ok (.iconst 2, 1) := by decide +kernel
theorem d_Numeral_take_25 : decode b_Numeral_take 25 = .ok (.if_icmp .ne 39, 3) := by decide +kernel
theorem d_Numeral_take_28 : decode b_Numeral_take 28 = .ok (.aload_n 0, 1) := by decide +kernel
theorem d_Numeral_take_29 : decode b_Numeral_take 29 = .ok (.getfield 14, 3) := by decide +kernel
theorem d_Numeral_take_32 : decode b_Numeral_take 32 = .ok (.iload_n 2, 1) := by decide +kernel
theorem d_Numeral_take_33 : decode b_Numeral_take 33 = .ok (.bipush 48, 2) := by decide +kernel
theorem d_Numeral_take_35 : decode b_Numeral_take 35 = .ok (.isub, 1) := by decide +kernel
theorem d_Numeral_take_36 : decode b_Numeral_take 36 = .ok (.invokevirtual 96, 3) := by decide +kernel
theorem d_Numeral_take_39 : decode b_Numeral_take 39 = .ok (.aload_n 0, 1) := by decide +kernel
theorem d_Numeral_take_40 : decode b_Numeral_take 40 = .ok (.getfield 14, 3) := by decide +kernel
theorem d_Numeral_take_43 : decode b_Numeral_take 43 = .ok (.aload_n 0, 1) := by decide +kernel
theorem d_Numeral_take_44 : decode b_Numeral_take 44 = .ok (.getfield 14, 3) := by decide +kernel
theorem d_Numeral_take_47 : decode b_Numeral_take 47 = .ok (.invokevirtual 99, 3) := by decide +kernel
theorem d_Numeral_take_50 : decode b_Numeral_take 50 = .ok (.ifCond .le 7, 3) := by decide +kernel
theorem d_Numeral_take_53 : decode b_Numeral_take 53 = .ok (.iconst 1, 1) := by decide +kernel
theorem d_Numeral_take_54 : decode b_Numeral_take 54 = .ok (.goto 4, 3) := by decide +kernel
theorem d_Numeral_take_57 : decode b_Numeral_take 57 = .ok (.iconst 0, 1) := by decide +kernel
theorem d_Numeral_take_58 : decode b_Numeral_take 58 = .ok (.invokevirtual 72, 3) := by decide +kernel
theorem d_Numeral_take_61 : decode b_Numeral_take 61 = .ok (.goto 95, 3) := by decide +kernel
theorem d_Numeral_take_64 : decode b_Numeral_take 64 = .ok (.iload_n 1, 1) := by decide +kernel
theorem d_Numeral_take_65 : decode b_Numeral_take 65 = .ok (.iconst 5, 1) := by decide +kernel
theorem d_Numeral_take_66 : decode b_Numeral_take 66 = .ok (.if_icmp .ne 39, 3) := by decide +kernel
theorem d_Numeral_take_69 : decode b_Numeral_take 69 = .ok (.aload_n 0, 1) := by decide +kernel
theorem d_Numeral_take_70 : decode b_Numeral_take 70 = .ok (.getfield 14, 3) := by decide +kernel
theorem d_Numeral_take_73 : decode b_Numeral_take 73 = .ok (.iload_n 2, 1) := by decide +kernel
theorem d_Numeral_take_74 : decode b_Numeral_take 74 = .ok (.bipush 48, 2) := by decide +kernel
theorem d_Numeral_take_76 : decode b_Numeral_take 76 = .ok (.isub, 1) := by decide +kernel
theorem d_Numeral_take_77 : decode b_Numeral_take 77 = .ok (.invokevirtual 96, 3) := by decide +kernel
theorem d_Numeral_take_80 : decode b_Numeral_take 80 = .ok (.aload_n 0, 1) := by decide +kernel
theorem d_Numeral_take_81 : decode b_Numeral_take 81 = .ok (.getfield 14, 3) := by decide +kernel
theorem d_Numeral_take_84 : decode b_Numeral_take 84 = .ok (.aload_n 0, 1) := by decide +kernel
theorem d_Numeral_take_85 : decode b_Numeral_take 85 = .ok (.getfield 14, 3) := by decide +kernel
theorem d_Numeral_take_88 : decode b_Numeral_take 88 = .ok (.invokevirtual 99, 3) := by decide +kernel
theorem d_Numeral_take_91 : decode b_Numeral_take 91 = .ok (.ifCond .le 7, 3) := by decide +kernel
theorem d_Numeral_take_94 : decode b_Numeral_take 94 = .ok (.iconst 0, 1) := by decide +kernel
theorem d_Numeral_take_95 : decode b_Numeral_take 95 = .ok (.goto 4, 3) := by decide +kernel
theorem d_Numeral_take_98 : decode b_Numeral_take 98 = .ok (.iconst (-1), 1) := by decide +kernel
theorem d_Numeral_take_99 : decode b_Numeral_take 99 = .ok (.invokevirtual 72, 3) := by decide +kernel
theorem d_Numeral_take_102 : decode b_Numeral_take 102 = .ok (.goto 54, 3) := by decide +kernel
theorem d_Numeral_take_105 : decode b_Numeral_take 105 = .ok (.iload_n 1, 1) := by decide +kernel
theorem d_Numeral_take_106 : decode b_Numeral_take 106 = .ok (.bipush 7, 2) := by decide +kernel
theorem d_Numeral_take_108 : decode b_Numeral_take 108 = .ok (.if_icmp .ne 21, 3) := by decide +kernel
theorem d_Numeral_take_111 : decode b_Numeral_take 111 = .ok (.aload_n 0, 1) := by decide +kernel
theorem d_Numeral_take_112 : decode b_Numeral_take 112 = .ok (.iload_n 2, 1) := by decide +kernel
theorem d_Numeral_take_113 : decode b_Numeral_take 113 = .ok (.bipush 45, 2) := by decide +kernel
theorem d_Numeral_take_115 : decode b_Numeral_take 115 = .ok (.if_icmp .ne 7, 3) := by decide +kernel
theorem d_Numeral_take_118 : decode b_Numeral_take 118 = .ok (.iconst 1, 1) := by decide +kernel
theorem d_Numeral_take_119 : decode b_Numeral_take 119 = .ok (.goto 4, 3) := by decide +kernel
theorem d_Numeral_take_122 : decode b_Numeral_take 122 = .ok (.iconst 0, 1) := by decide +kernel
theorem d_Numeral_take_123 : decode b_Numeral_take 123 = .ok (.putfield 37, 3) := by decide +kernel
theorem d_Numeral_take_126 : decode b_Numeral_take 126 = .ok (.goto 30, 3) := by decide +kernel
theorem d_Numeral_take_129 : decode b_Numeral_take 129 = .ok (.iload_n 1, 1) := by decide +kernel
theorem d_Numeral_take_130 : decode b_Numeral_take 130 = .ok (.bipush 8, 2) := by decide +kernel
theorem d_Numeral_take_132 : decode b_Numeral_take 132 = .ok (.if_icmp .ne 24, 3) := by decide +kernel
theorem d_Numeral_take_135 : decode b_Numeral_take 135 = .ok (.aload_n 0, 1) := by decide +kernel
theorem d_Numeral_take_136 : decode b_Numeral_take 136 = .ok (.ldc 102, 2) := by decide +kernel
theorem d_Numeral_take_138 : decode b_Numeral_take 138 = .ok (.bipush 10, 2) := by decide +kernel
theorem d_Numeral_take_140 : decode b_Numeral_take 140 = .ok (.aload_n 0, 1) := by decide +kernel
theorem d_Numeral_take_141 : decode b_Numeral_take 141 = .ok (.getfield 40, 3) := by decide +kernel
theorem d_Numeral_take_144 : decode b_Numeral_take 144 = .ok (.imul, 1) := by decide +kernel
theorem d_Numeral_take_145 : decode b_Numeral_take 145 = .ok (.iload_n 2, 1) := by decide +kernel
theorem d_Numeral_take_146 : decode b_Numeral_take 146 = .ok (.iadd, 1) := by decide +kernel
theorem d_Numeral_take_147 : decode b_Numeral_take 147 = .ok (.bipush 48, 2) := by decide +kernel
theorem d_Numeral_take_149 : decode b_Numeral_take 149 = .ok (.isub, 1) := by decide +kernel
theorem d_Numeral_take_150 : decode b_Numeral_take 150 = .ok (.invokestatic 103, 3) := by decide +kernel
theorem d_Numeral_take_153 : decode b_Numeral_take 153 = .ok (.putfield 40, 3) := by decide +kernel
theorem d_Numeral_take_156 : decode b_Numeral_take 156 = .ok (.return_, 1) := by decide +kernel
theorem d_Numeral_isEnd_0 : decode b_Numeral_isEnd 0 = .ok (.iload_n 0, 1) := by decide +kernel
theorem d_Numeral_isEnd_1 : decode b_Numeral_isEnd 1 = .ok (.iconst 2, 1) := by decide +kernel
theorem d_Numeral_isEnd_2 : decode b_Numeral_isEnd 2 = .ok (.if_icmp .eq 31, 3) := by decide +kernel
theorem d_Numeral_isEnd_5 : decode b_Numeral_isEnd 5 = .ok (.iload_n 0, 1) := by decide +kernel
theorem d_Numeral_isEnd_6 : decode b_Numeral_isEnd 6 = .ok (.iconst 4, 1) := by decide +kernel
theorem d_Numeral_isEnd_7 : decode b_Numeral_isEnd 7 = .ok (.if_icmp .eq 26, 3) := by decide +kernel
theorem d_Numeral_isEnd_10 : decode b_Numeral_isEnd 10 = .ok (.iload_n 0, 1) := by decide +kernel
theorem d_Numeral_isEnd_11 : decode b_Numeral_isEnd 11 = .ok (.iconst 5, 1) := by decide +kernel
theorem d_Numeral_isEnd_12 : decode b_Numeral_isEnd 12 = .ok (.if_icmp .eq 21, 3) := by decide +kernel
theorem d_Numeral_isEnd_15 : decode b_Numeral_isEnd 15 = .ok (.iload_n 0, 1) := by decide +kernel
theorem d_Numeral_isEnd_16 : decode b_Numeral_isEnd 16 = .ok (.bipush 8, 2) := by decide +kernel
theorem d_Numeral_isEnd_18 : decode b_Numeral_isEnd 18 = .ok (.if_icmp .eq 15, 3) := by decide +kernel
theorem d_Numeral_isEnd_21 : decode b_Numeral_isEnd 21 = .ok (.iload_n 0, 1) := by decide +kernel
theorem d_Numeral_isEnd_22 : decode b_Numeral_isEnd 22 = .ok (.bipush 11, 2) := by decide +kernel
theorem d_Numeral_isEnd_24 : decode b_Numeral_isEnd 24 = .ok (.if_icmp .eq 9, 3) := by decide +kernel
theorem d_Numeral_isEnd_27 : decode b_Numeral_isEnd 27 = .ok (.iload_n 0, 1) := by decide +kernel
theorem d_Numeral_isEnd_28 : decode b_Numeral_isEnd 28 = .ok (.bipush 14, 2) := by decide +kernel
theorem d_Numeral_isEnd_30 : decode b_Numeral_isEnd 30 = .ok (.if_icmp .ne 7, 3) := by decide +kernel
theorem d_Numeral_isEnd_33 : decode b_Numeral_isEnd 33 = .ok (.iconst 1, 1) := by decide +kernel
theorem d_Numeral_isEnd_34 : decode b_Numeral_isEnd 34 = .ok (.goto 4, 3) := by decide +kernel
theorem d_Numeral_isEnd_37 : decode b_Numeral_isEnd 37 = .ok (.iconst 0, 1) := by decide +kernel
theorem d_Numeral_isEnd_38 : decode b_Numeral_isEnd 38 = .ok (.ireturn, 1) := by decide +kernel
theorem d_Numeral_scan_0 : decode b_Numeral_scan 0 = .ok (.aload_n 0, 1) := by decide +kernel
theorem d_Numeral_scan_1 : decode b_Numeral_scan 1 = .ok (.iconst 0, 1) := by decide +kernel
theorem d_Numeral_scan_2 : decode b_Numeral_scan 2 = .ok (.putfield 29, 3) := by decide +kernel
theorem d_Numeral_scan_5 : decode b_Numeral_scan 5 = .ok (.aload_n 0, 1) := by decide +kernel
theorem d_Numeral_scan_6 : decode b_Numeral_scan 6 = .ok (.iconst 0, 1) := by decide +kernel
theorem d_Numeral_scan_7 : decode b_Numeral_scan 7 = .ok (.putfield 33, 3) := by decide +kernel
theorem d_Numeral_scan_10 : decode b_Numeral_scan 10 = .ok (.aload_n 0, 1) := by decide +kernel
theorem d_Numeral_scan_11 : decode b_Numeral_scan 11 = .ok (.iconst 0, 1) := by decide +kernel
theorem d_Numeral_scan_12 : decode b_Numeral_scan 12 = .ok (.putfield 37, 3) := by decide +kernel
theorem d_Numeral_scan_15 : decode b_Numeral_scan 15 = .ok (.aload_n 0, 1) := by decide +kernel
theorem d_Numeral_scan_16 : decode b_Numeral_scan 16 = .ok (.iconst 0, 1) := by decide +kernel
theorem d_Numeral_scan_17 : decode b_Numeral_scan 17 = .ok (.putfield 40, 3) := by decide +kernel
theorem d_Numeral_scan_20 : decode b_Numeral_scan 20 = .ok (.aload_n 0, 1) := by decide +kernel
theorem d_Numeral_scan_21 : decode b_Numeral_scan 21 = .ok (.getfield 14, 3) := by decide +kernel
theorem d_Numeral_scan_24 : decode b_Numeral_scan 24 = .ok (.invokevirtual 43, 3) := by decide +kernel
theorem d_Numeral_scan_27 : decode b_Numeral_scan 27 = .ok (.iconst 0, 1) := by decide +kernel
theorem d_Numeral_scan_28 : decode b_Numeral_scan 28 = .ok (.istore_n 2, 1) := by decide +kernel
theorem d_Numeral_scan_29 : decode b_Numeral_scan 29 = .ok (.iload_n 2, 1) := by decide +kernel
theorem d_Numeral_scan_30 : decode b_Numeral_scan 30 = .ok (.aload_n 1, 1) := by decide +kernel
theorem d_Numeral_scan_31 : decode b_Numeral_scan 31 = .ok (.invokevirtual 46, 3) := by decide +kernel
theorem d_Numeral_scan_34 : decode b_Numeral_scan 34 = .ok (.if_icmp .ge 46, 3) := by decide +kernel
theorem d_Numeral_scan_37 : decode b_Numeral_scan 37 = .ok (.aload_n 1, 1) := by decide +kernel
theorem d_Numeral_scan_38 : decode b_Numeral_scan 38 = .ok (.iload_n 2, 1) := by decide +kernel
theorem d_Numeral_scan_39 : decode b_Numeral_scan 39 = .ok (.invokevirtual 52, 3) := by decide +kernel
theorem d_Numeral_scan_42 : decode b_Numeral_scan 42 = .ok (.istore_n 3, 1) := by decide +kernel
theorem d_Numeral_scan_43 : decode b_Numeral_scan 43 = .ok (.aload_n 0, 1) := by decide +kernel
theorem d_Numeral_scan_44 : decode b_Numeral_scan 44 = .ok (.getfield 29, 3) := by decide +kernel
theorem d_Numeral_scan_47 : decode b_Numeral_scan 47 = .ok (.iload_n 3, 1) := by decide +kernel
theorem d_Numeral_scan_48 : decode b_Numeral_scan 48 = .ok (.invokestatic 56, 3) := by decide +kernel
theorem d_Numeral_scan_51 : decode b_Numeral_scan 51 = .ok (.istore 4, 2) := by decide +kernel
theorem d_Numeral_scan_53 : decode b_Numeral_scan 53 = .ok (.iload 4, 2) := by decide +kernel
theorem d_Numeral_scan_55 : decode b_Numeral_scan 55 = .ok (.iconst (-1), 1) := by decide +kernel
theorem d_Numeral_scan_56 : decode b_Numeral_scan 56 = .ok (.if_icmp .ne 5, 3) := by decide +kernel
theorem d_Numeral_scan_59 : decode b_Numeral_scan 59 = .ok (.iload_n 2, 1) := by decide +kernel
theorem d_Numeral_scan_60 : decode b_Numeral_scan 60 = .ok (.ireturn, 1) := by decide +kernel
theorem d_Numeral_scan_61 : decode b_Numeral_scan 61 = .ok (.aload_n 0, 1) := by decide +kernel
theorem d_Numeral_scan_62 : decode b_Numeral_scan 62 = .ok (.iload 4, 2) := by decide +kernel
theorem d_Numeral_scan_64 : decode b_Numeral_scan 64 = .ok (.iload_n 3, 1) := by decide +kernel
theorem d_Numeral_scan_65 : decode b_Numeral_scan 65 = .ok (.invokevirtual 60, 3) := by decide +kernel
theorem d_Numeral_scan_68 : decode b_Numeral_scan 68 = .ok (.aload_n 0, 1) := by decide +kernel
theorem d_Numeral_scan_69 : decode b_Numeral_scan 69 = .ok (.iload 4, 2) := by decide +kernel
theorem d_Numeral_scan_71 : decode b_Numeral_scan 71 = .ok (.putfield 29, 3) := by decide +kernel
theorem d_Numeral_scan_74 : decode b_Numeral_scan 74 = .ok (.iinc 2 1, 3) := by decide +kernel
theorem d_Numeral_scan_77 : decode b_Numeral_scan 77 = .ok (.goto (-48), 3) := by decide +kernel
theorem d_Numeral_scan_80 : decode b_Numeral_scan 80 = .ok (.aload_n 0, 1) := by decide +kernel
theorem d_Numeral_scan_81 : decode b_Numeral_scan 81 = .ok (.getfield 29, 3) := by decide +kernel
theorem d_Numeral_scan_84 : decode b_Numeral_scan 84 = .ok (.invokestatic 64, 3) := by decide +kernel
theorem d_Numeral_scan_87 : decode b_Numeral_scan 87 = .ok (.ifCond .eq 7, 3) := by decide +kernel
theorem d_Numeral_scan_90 : decode b_Numeral_scan 90 = .ok (.iconst (-1), 1) := by decide +kernel
theorem d_Numeral_scan_91 : decode b_Numeral_scan 91 = .ok (.goto 7, 3) := by decide +kernel
theorem d_Numeral_scan_94 : decode b_Numeral_scan 94 = .ok (.aload_n 1, 1) := by decide +kernel
theorem d_Numeral_scan_95 : decode b_Numeral_scan 95 = .ok (.invokevirtual 46, 3) := by decide +kernel
theorem d_Numeral_scan_98 : decode b_Numeral_scan 98 = .ok (.ireturn, 1) := by decide +kernel
theorem d_Numeral_bits_0 : decode b_Numeral_bits 0 = .ok (.ldc2_w 68, 3) := by decide +kernel
theorem d_Numeral_bits_3 : decode b_Numeral_bits 3 = .ok (.lstore_n 1, 1) := by decide +kernel
theorem d_Numeral_bits_4 : decode b_Numeral_bits 4 = .ok (.aload_n 0, 1) := by decide +kernel
theorem d_Numeral_bits_5 : decode b_Numeral_bits 5 = .ok (.getfield 29, 3) := by decide +kernel
theorem d_Numeral_bits_8 : decode b_Numeral_bits 8 = .ok (.bipush 11, 2) := by decide +kernel
theorem d_Numeral_bits_10 : decode b_Numeral_bits 10 = .ok (.if_icmp .ne 10, 3) := by decide +kernel
theorem d_Numeral_bits_13 : decode b_Numeral_bits 13 = .ok (.ldc2_w 70, 3) := by decide +kernel
theorem d_Numeral_bits_16 : decode b_Numeral_bits 16 = .ok (.lstore_n 1, 1) := by decide +kernel
theorem d_Numeral_bits_17 : decode b_Numeral_bits 17 = .ok (.goto 57, 3) := by decide +kernel
theorem d_Numeral_bits_20 : decode b_Numeral_bits 20 = .ok (.aload_n 0, 1) := by decide +kernel
theorem d_Numeral_bits_21 : decode b_Numeral_bits 21 = .ok (.getfield 29, 3) := by decide +kernel
theorem d_Numeral_bits_24 : decode b_Numeral_bits 24 = .ok (.bipush 14, 2) := by decide +kernel
theorem d_Numeral_bits_26 : decode b_Numeral_bits 26 = .ok (.if_icmp .eq 48, 3) := by decide +kernel
theorem d_Numeral_bits_29 : decode b_Numeral_bits 29 = .ok (.aload_n 0, 1) := by decide +kernel
theorem d_Numeral_bits_30 : decode b_Numeral_bits 30 = .ok (.getfield 14, 3) := by decide +kernel
theorem d_Numeral_bits_33 : decode b_Numeral_bits 33 = .ok (.aload_n 0, 1) := by decide +kernel
theorem d_Numeral_bits_34 : decode b_Numeral_bits 34 = .ok (.getfield 37, 3) := by decide +kernel
theorem d_Numeral_bits_37 : decode b_Numeral_bits 37 = .ok (.ifCond .eq 11, 3) := by decide +kernel
theorem d_Numeral_bits_40 : decode b_Numeral_bits 40 = .ok (.aload_n 0, 1) := by decide +kernel
theorem d_Numeral_bits_41 : decode b_Numeral_bits 41 = .ok (.getfield 40, 3) := by decide +kernel
theorem d_Numeral_bits_44 : decode b_Numeral_bits 44 = .ok (.ineg, 1) := by decide +kernel
theorem d_Numeral_bits_45 : decode b_Numeral_bits 45 = .ok (.goto 7, 3) := by decide +kernel
theorem d_Numeral_bits_48 : decode b_Numeral_bits 48 = .ok (.aload_n 0, 1) := by decide +kernel
theorem d_Numeral_bits_49 : decode b_Numeral_bits 49 = .ok (.getfield 40, 3) := by decide +kernel
theorem d_Numeral_bits_52 : decode b_Numeral_bits 52 = .ok (.invokevirtual 72, 3) := by decide +kernel
theorem d_Numeral_bits_55 : decode b_Numeral_bits 55 = .ok (.aload_n 0, 1) := by decide +kernel
theorem d_Numeral_bits_56 : decode b_Numeral_bits 56 = .ok (.getfield 14, 3) := by decide +kernel
theorem d_Numeral_bits_59 : decode b_Numeral_bits 59 = .ok (.invokevirtual 75, 3) := by decide +kernel
theorem d_Numeral_bits_62 : decode b_Numeral_bits 62 = .ok (.aload_n 0, 1) := by decide +kernel
theorem d_Numeral_bits_63 : decode b_Numeral_bits 63 = .ok (.getfield 25, 3) := by decide +kernel
theorem d_Numeral_bits_66 : decode b_Numeral_bits 66 = .ok (.aload_n 0, 1) := by decide +kernel
theorem d_Numeral_bits_67 : decode b_Numeral_bits 67 = .ok (.getfield 14, 3) := by decide +kernel
theorem d_Numeral_bits_70 : decode b_Numeral_bits 70 = .ok (.invokevirtual 78, 3) := by decide +kernel
theorem d_Numeral_bits_73 : decode b_Numeral_bits 73 = .ok (.lstore_n 1, 1) := by decide +kernel
theorem d_Numeral_bits_74 : decode b_Numeral_bits 74 = .ok (.aload_n 0, 1) := by decide +kernel
theorem d_Numeral_bits_75 : decode b_Numeral_bits 75 = .ok (.getfield 33, 3) := by decide +kernel
theorem d_Numeral_bits_78 : decode b_Numeral_bits 78 = .ok (.ifCond .eq 11, 3) := by decide +kernel
theorem d_Numeral_bits_81 : decode b_Numeral_bits 81 = .ok (.lload_n 1, 1) := by decide +kernel
theorem d_Numeral_bits_82 : decode b_Numeral_bits 82 = .ok (.ldc2_w 82, 3) := by decide +kernel
theorem d_Numeral_bits_85 : decode b_Numeral_bits 85 = .ok (.lor, 1) := by decide +kernel
theorem d_Numeral_bits_86 : decode b_Numeral_bits 86 = .ok (.goto 4, 3) := by decide +kernel
theorem d_Numeral_bits_89 : decode b_Numeral_bits 89 = .ok (.lload_n 1, 1) := by decide +kernel
theorem d_Numeral_bits_90 : decode b_Numeral_bits 90 = .ok (.lreturn, 1) := by decide +kernel
