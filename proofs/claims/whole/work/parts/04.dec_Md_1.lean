theorem d_Md_nearest_35 : decode b_Md_nearest 35 = .ok (.invokevirtual 126, 3) := by decide +kernel
theorem d_Md_nearest_38 : decode b_Md_nearest 38 = .ok (.ifCond .le 7, 3) := by decide +kernel
theorem d_Md_nearest_41 : decode b_Md_nearest 41 = .ok (.iconst 1, 1) := by decide +kernel
theorem d_Md_nearest_42 : decode b_Md_nearest 42 = .ok (.goto 4, 3) := by decide +kernel
theorem d_Md_nearest_45 : decode b_Md_nearest 45 = .ok (.iconst 0, 1) := by decide +kernel
theorem d_Md_nearest_46 : decode b_Md_nearest 46 = .ok (.istore 7, 2) := by decide +kernel
theorem d_Md_nearest_48 : decode b_Md_nearest 48 = .ok (.iload 7, 2) := by decide +kernel
theorem d_Md_nearest_50 : decode b_Md_nearest 50 = .ok (.ifCond .eq 7, 3) := by decide +kernel
theorem d_Md_nearest_53 : decode b_Md_nearest 53 = .ok (.lload_n 1, 1) := by decide +kernel
theorem d_Md_nearest_54 : decode b_Md_nearest 54 = .ok (.goto 5, 3) := by decide +kernel
theorem d_Md_nearest_57 : decode b_Md_nearest 57 = .ok (.lload 5, 2) := by decide +kernel
theorem d_Md_nearest_59 : decode b_Md_nearest 59 = .ok (.lstore_n 1, 1) := by decide +kernel
theorem d_Md_nearest_60 : decode b_Md_nearest 60 = .ok (.iload 7, 2) := by decide +kernel
theorem d_Md_nearest_62 : decode b_Md_nearest 62 = .ok (.ifCond .eq 8, 3) := by decide +kernel
theorem d_Md_nearest_65 : decode b_Md_nearest 65 = .ok (.lload 5, 2) := by decide +kernel
theorem d_Md_nearest_67 : decode b_Md_nearest 67 = .ok (.goto 4, 3) := by decide +kernel
theorem d_Md_nearest_70 : decode b_Md_nearest 70 = .ok (.lload_n 3, 1) := by decide +kernel
theorem d_Md_nearest_71 : decode b_Md_nearest 71 = .ok (.lstore_n 3, 1) := by decide +kernel
theorem d_Md_nearest_72 : decode b_Md_nearest 72 = .ok (.goto (-66), 3) := by decide +kernel
theorem d_Md_nearest_75 : decode b_Md_nearest 75 = .ok (.aload_n 0, 1) := by decide +kernel
theorem d_Md_nearest_76 : decode b_Md_nearest 76 = .ok (.iconst 1, 1) := by decide +kernel
theorem d_Md_nearest_77 : decode b_Md_nearest 77 = .ok (.lload_n 1, 1) := by decide +kernel
theorem d_Md_nearest_78 : decode b_Md_nearest 78 = .ok (.invokevirtual 129, 3) := by decide +kernel
theorem d_Md_nearest_81 : decode b_Md_nearest 81 = .ok (.aload_n 0, 1) := by decide +kernel
theorem d_Md_nearest_82 : decode b_Md_nearest 82 = .ok (.iconst 0, 1) := by decide +kernel
theorem d_Md_nearest_83 : decode b_Md_nearest 83 = .ok (.iconst 1, 1) := by decide +kernel
theorem d_Md_nearest_84 : decode b_Md_nearest 84 = .ok (.invokevirtual 126, 3) := by decide +kernel
theorem d_Md_nearest_87 : decode b_Md_nearest 87 = .ok (.istore 5, 2) := by decide +kernel
theorem d_Md_nearest_89 : decode b_Md_nearest 89 = .ok (.iload 5, 2) := by decide +kernel
theorem d_Md_nearest_91 : decode b_Md_nearest 91 = .ok (.ifCond .gt 16, 3) := by decide +kernel
theorem d_Md_nearest_94 : decode b_Md_nearest 94 = .ok (.iload 5, 2) := by decide +kernel
theorem d_Md_nearest_96 : decode b_Md_nearest 96 = .ok (.ifCond .ne 17, 3) := by decide +kernel
theorem d_Md_nearest_99 : decode b_Md_nearest 99 = .ok (.lload_n 1, 1) := by decide +kernel
theorem d_Md_nearest_100 : decode b_Md_nearest 100 = .ok (.lconst 1, 1) := by decide +kernel
theorem d_Md_nearest_101 : decode b_Md_nearest 101 = .ok (.land, 1) := by decide +kernel
theorem d_Md_nearest_102 : decode b_Md_nearest 102 = .ok (.lconst 1, 1) := by decide +kernel
theorem d_Md_nearest_103 : decode b_Md_nearest 103 = .ok (.lcmp, 1) := by decide +kernel
theorem d_Md_nearest_104 : decode b_Md_nearest 104 = .ok (.ifCond .ne 9, 3) := by decide +kernel
theorem d_Md_nearest_107 : decode b_Md_nearest 107 = .ok (.lload_n 1, 1) := by decide +kernel
theorem d_Md_nearest_108 : decode b_Md_nearest 108 = .ok (.lconst 1, 1) := by decide +kernel
theorem d_Md_nearest_109 : decode b_Md_nearest 109 = .ok (.ladd, 1) := by decide +kernel
theorem d_Md_nearest_110 : decode b_Md_nearest 110 = .ok (.goto 4, 3) := by decide +kernel
theorem d_Md_nearest_113 : decode b_Md_nearest 113 = .ok (.lload_n 1, 1) := by decide +kernel
theorem d_Md_nearest_114 : decode b_Md_nearest 114 = .ok (.lreturn, 1) := by decide +kernel
theorem d_Md_read_0 : decode b_Md_read 0 = .ok (.iconst 0, 1) := by decide +kernel
theorem d_Md_read_1 : decode b_Md_read 1 = .ok (.istore_n 1, 1) := by decide +kernel
theorem d_Md_read_2 : decode b_Md_read 2 = .ok (.iconst 0, 1) := by decide +kernel
theorem d_Md_read_3 : decode b_Md_read 3 = .ok (.istore_n 2, 1) := by decide +kernel
theorem d_Md_read_4 : decode b_Md_read 4 = .ok (.iconst 0, 1) := by decide +kernel
theorem d_Md_read_5 : decode b_Md_read 5 = .ok (.istore_n 3, 1) := by decide +kernel
theorem d_Md_read_6 : decode b_Md_read 6 = .ok (.iconst 0, 1) := by decide +kernel
theorem d_Md_read_7 : decode b_Md_read 7 = .ok (.istore 4, 2) := by decide +kernel
theorem d_Md_read_9 : decode b_Md_read 9 = .ok (.iconst 0, 1) := by decide +kernel
theorem d_Md_read_10 : decode b_Md_read 10 = .ok (.istore 5, 2) := by decide +kernel
theorem d_Md_read_12 : decode b_Md_read 12 = .ok (.iconst 0, 1) := by decide +kernel
theorem d_Md_read_13 : decode b_Md_read 13 = .ok (.istore 6, 2) := by decide +kernel
theorem d_Md_read_15 : decode b_Md_read 15 = .ok (.iconst 0, 1) := by decide +kernel
theorem d_Md_read_16 : decode b_Md_read 16 = .ok (.istore 7, 2) := by decide +kernel
theorem d_Md_read_18 : decode b_Md_read 18 = .ok (.iload_n 2, 1) := by decide +kernel
theorem d_Md_read_19 : decode b_Md_read 19 = .ok (.aload_n 0, 1) := by decide +kernel
theorem d_Md_read_20 : decode b_Md_read 20 = .ok (.getfield 92, 3) := by decide +kernel
theorem d_Md_read_23 : decode b_Md_read 23 = .ok (.if_icmp .ge 213, 3) := by decide +kernel
theorem d_Md_read_26 : decode b_Md_read 26 = .ok (.iload_n 1, 1) := by decide +kernel
theorem d_Md_read_27 : decode b_Md_read 27 = .ok (.iconst (-1), 1) := by decide +kernel
theorem d_Md_read_28 : decode b_Md_read 28 = .ok (.if_icmp .eq 208, 3) := by decide +kernel
theorem d_Md_read_31 : decode b_Md_read 31 = .ok (.aload_n 0, 1) := by decide +kernel
theorem d_Md_read_32 : decode b_Md_read 32 = .ok (.getfield 7, 3) := by decide +kernel
theorem d_Md_read_35 : decode b_Md_read 35 = .ok (.iload_n 2, 1) := by decide +kernel
theorem d_Md_read_36 : decode b_Md_read 36 = .ok (.iaload, 1) := by decide +kernel
theorem d_Md_read_37 : decode b_Md_read 37 = .ok (.istore 8, 2) := by decide +kernel
theorem d_Md_read_39 : decode b_Md_read 39 = .ok (.iload_n 1, 1) := by decide +kernel
theorem d_Md_read_40 : decode b_Md_read 40 = .ok (.iload 8, 2) := by decide +kernel
theorem d_Md_read_42 : decode b_Md_read 42 = .ok (.invokestatic 97, 3) := by decide +kernel
theorem d_Md_read_45 : decode b_Md_read 45 = .ok (.istore_n 1, 1) := by decide +kernel
theorem d_Md_read_46 : decode b_Md_read 46 = .ok (.iload 6, 2) := by decide +kernel
theorem d_Md_read_48 : decode b_Md_read 48 = .ok (.ifCond .ne 15, 3) := by decide +kernel
theorem d_Md_read_51 : decode b_Md_read 51 = .ok (.iload_n 1, 1) := by decide +kernel
theorem d_Md_read_52 : decode b_Md_read 52 = .ok (.iconst 1, 1) := by decide +kernel
theorem d_Md_read_53 : decode b_Md_read 53 = .ok (.if_icmp .ne 14, 3) := by decide +kernel
theorem d_Md_read_56 : decode b_Md_read 56 = .ok (.iload 8, 2) := by decide +kernel
theorem d_Md_read_58 : decode b_Md_read 58 = .ok (.bipush 45, 2) := by decide +kernel
theorem d_Md_read_60 : decode b_Md_read 60 = .ok (.if_icmp .ne 7, 3) := by decide +kernel
theorem d_Md_read_63 : decode b_Md_read 63 = .ok (.iconst 1, 1) := by decide +kernel
theorem d_Md_read_64 : decode b_Md_read 64 = .ok (.goto 4, 3) := by decide +kernel
theorem d_Md_read_67 : decode b_Md_read 67 = .ok (.iconst 0, 1) := by decide +kernel
theorem d_Md_read_68 : decode b_Md_read 68 = .ok (.istore 6, 2) := by decide +kernel
theorem d_Md_read_70 : decode b_Md_read 70 = .ok (.iload 7, 2) := by decide +kernel
theorem d_Md_read_72 : decode b_Md_read 72 = .ok (.ifCond .ne 16, 3) := by decide +kernel
theorem d_Md_read_75 : decode b_Md_read 75 = .ok (.iload_n 1, 1) := by decide +kernel
theorem d_Md_read_76 : decode b_Md_read 76 = .ok (.bipush 7, 2) := by decide +kernel
theorem d_Md_read_78 : decode b_Md_read 78 = .ok (.if_icmp .ne 14, 3) := by decide +kernel
theorem d_Md_read_81 : decode b_Md_read 81 = .ok (.iload 8, 2) := by decide +kernel
theorem d_Md_read_83 : decode b_Md_read 83 = .ok (.bipush 45, 2) := by decide +kernel
theorem d_Md_read_85 : decode b_Md_read 85 = .ok (.if_icmp .ne 7, 3) := by decide +kernel
theorem d_Md_read_88 : decode b_Md_read 88 = .ok (.iconst 1, 1) := by decide +kernel
theorem d_Md_read_89 : decode b_Md_read 89 = .ok (.goto 4, 3) := by decide +kernel
theorem d_Md_read_92 : decode b_Md_read 92 = .ok (.iconst 0, 1) := by decide +kernel
theorem d_Md_read_93 : decode b_Md_read 93 = .ok (.istore 7, 2) := by decide +kernel
theorem d_Md_read_95 : decode b_Md_read 95 = .ok (.iload_n 1, 1) := by decide +kernel
theorem d_Md_read_96 : decode b_Md_read 96 = .ok (.iconst 2, 1) := by decide +kernel
theorem d_Md_read_97 : decode b_Md_read 97 = .ok (.if_icmp .eq 8, 3) := by decide +kernel
theorem d_Md_read_100 : decode b_Md_read 100 = .ok (.iload_n 1, 1) := by decide +kernel
theorem d_Md_read_101 : decode b_Md_read 101 = .ok (.iconst 4, 1) := by decide +kernel
theorem d_Md_read_102 : decode b_Md_read 102 = .ok (.if_icmp .ne 78, 3) := by decide +kernel
theorem d_Md_read_105 : decode b_Md_read 105 = .ok (.iload_n 1, 1) := by decide +kernel
theorem d_Md_read_106 : decode b_Md_read 106 = .ok (.iconst 2, 1) := by decide +kernel
theorem d_Md_read_107 : decode b_Md_read 107 = .ok (.if_icmp .ne 21, 3) := by decide +kernel
theorem d_Md_read_110 : decode b_Md_read 110 = .ok (.iload_n 3, 1) := by decide +kernel
theorem d_Md_read_111 : decode b_Md_read 111 = .ok (.ifCond .gt 10, 3) := by decide +kernel
theorem d_Md_read_114 : decode b_Md_read 114 = .ok (.iload 8, 2) := by decide +kernel
theorem d_Md_read_116 : decode b_Md_read 116 = .ok (.bipush 48, 2) := by decide +kernel
theorem d_Md_read_118 : decode b_Md_read 118 = .ok (.if_icmp .le 10, 3) := by decide +kernel
theorem d_Md_read_121 : decode b_Md_read 121 = .ok (.iload 4, 2) := by decide +kernel
theorem d_Md_read_123 : decode b_Md_read 123 = .ok (.iconst 1, 1) := by decide +kernel
theorem d_Md_read_124 : decode b_Md_read 124 = .ok (.iadd, 1) := by decide +kernel
theorem d_Md_read_125 : decode b_Md_read 125 = .ok (.goto 28, 3) := by decide +kernel
theorem d_Md_read_128 : decode b_Md_read 128 = .ok (.iload_n 1, 1) := by decide +kernel
theorem d_Md_read_129 : decode b_Md_read 129 = .ok (.iconst 4, 1) := by decide +kernel
theorem d_Md_read_130 : decode b_Md_read 130 = .ok (.if_icmp .ne 21, 3) := by decide +kernel
theorem d_Md_read_133 : decode b_Md_read 133 = .ok (.iload_n 3, 1) := by decide +kernel
theorem d_Md_read_134 : decode b_Md_read 134 = .ok (.ifCond .ne 17, 3) := by decide +kernel
theorem d_Md_read_137 : decode b_Md_read 137 = .ok (.iload 8, 2) := by decide +kernel
theorem d_Md_read_139 : decode b_Md_read 139 = .ok (.bipush 48, 2) := by decide +kernel
theorem d_Md_read_141 : decode b_Md_read 141 = .ok (.if_icmp .ne 10, 3) := by decide +kernel
theorem d_Md_read_144 : decode b_Md_read 144 = .ok (.iload 4, 2) := by decide +kernel
theorem d_Md_read_146 : decode b_Md_read 146 = .ok (.iconst 1, 1) := by decide +kernel
theorem d_Md_read_147 : decode b_Md_read 147 = .ok (.isub, 1) := by decide +kernel
theorem d_Md_read_148 : decode b_Md_read 148 = .ok (.goto 5, 3) := by decide +kernel
theorem d_Md_read_151 : decode b_Md_read 151 = .ok (.iload 4, 2) := by decide +kernel
theorem d_Md_read_153 : decode b_Md_read 153 = .ok (.istore 4, 2) := by decide +kernel
theorem d_Md_read_155 : decode b_Md_read 155 = .ok (.iload_n 3, 1) := by decide +kernel
theorem d_Md_read_156 : decode b_Md_read 156 = .ok (.ifCond .gt 10, 3) := by decide +kernel
theorem d_Md_read_159 : decode b_Md_read 159 = .ok (.iload 8, 2) := by decide +kernel
theorem d_Md_read_161 : decode b_Md_read 161 = .ok (.bipush 48, 2) := by decide +kernel
theorem d_Md_read_163 : decode b_Md_read 163 = .ok (.if_icmp .le 17, 3) := by decide +kernel
theorem d_Md_read_166 : decode b_Md_read 166 = .ok (.aload_n 0, 1) := by decide +kernel
theorem d_Md_read_167 : decode b_Md_read 167 = .ok (.getfield 17, 3) := by decide +kernel
theorem d_Md_read_170 : decode b_Md_read 170 = .ok (.iload_n 3, 1) := by decide +kernel
theorem d_Md_read_171 : decode b_Md_read 171 = .ok (.iload 8, 2) := by decide +kernel
theorem d_Md_read_173 : decode b_Md_read 173 = .ok (.bipush 48, 2) := by decide +kernel
theorem d_Md_read_175 : decode b_Md_read 175 = .ok (.isub, 1) := by decide +kernel
theorem d_Md_read_176 : decode b_Md_read 176 = .ok (.iastore, 1) := by decide +kernel
theorem d_Md_read_177 : decode b_Md_read 177 = .ok (.iinc 3 1, 3) := by decide +kernel
theorem d_Md_read_180 : decode b_Md_read 180 = .ok (.iload_n 1, 1) := by decide +kernel
theorem d_Md_read_181 : decode b_Md_read 181 = .ok (.bipush 8, 2) := by decide +kernel
theorem d_Md_read_183 : decode b_Md_read 183 = .ok (.if_icmp .ne 17, 3) := by decide +kernel
theorem d_Md_read_186 : decode b_Md_read 186 = .ok (.bipush 10, 2) := by decide +kernel
theorem d_Md_read_188 : decode b_Md_read 188 = .ok (.iload 5, 2) := by decide +kernel
theorem d_Md_read_190 : decode b_Md_read 190 = .ok (.imul, 1) := by decide +kernel
theorem d_Md_read_191 : decode b_Md_read 191 = .ok (.iload 8, 2) := by decide +kernel
theorem d_Md_read_193 : decode b_Md_read 193 = .ok (.iadd, 1) := by decide +kernel
theorem d_Md_read_194 : decode b_Md_read 194 = .ok (.bipush 48, 2) := by decide +kernel
theorem d_Md_read_196 : decode b_Md_read 196 = .ok (.isub, 1) := by decide +kernel
theorem d_Md_read_197 : decode b_Md_read 197 = .ok (.goto 5, 3) := by decide +kernel
theorem d_Md_read_200 : decode b_Md_read 200 = .ok (.iload 5, 2) := by decide +kernel
theorem d_Md_read_202 : decode b_Md_read 202 = .ok (.istore 5, 2) := by decide +kernel
theorem d_Md_read_204 : decode b_Md_read 204 = .ok (.iload 5, 2) := by decide +kernel
theorem d_Md_read_206 : decode b_Md_read 206 = .ok (.ldc 101, 2) := by decide +kernel
theorem d_Md_read_208 : decode b_Md_read 208 = .ok (.if_icmp .le 8, 3) := by decide +kernel
theorem d_Md_read_211 : decode b_Md_read 211 = .ok (.ldc 101, 2) := by decide +kernel
theorem d_Md_read_213 : decode b_Md_read 213 = .ok (.goto 5, 3) := by decide +kernel
theorem d_Md_read_216 : decode b_Md_read 216 = .ok (.iload 5, 2) := by decide +kernel
theorem d_Md_read_218 : decode b_Md_read 218 = .ok (.istore 5, 2) := by decide +kernel
theorem d_Md_read_220 : decode b_Md_read 220 = .ok (.iload_n 1, 1) := by decide +kernel
theorem d_Md_read_221 : decode b_Md_read 221 = .ok (.iconst (-1), 1) := by decide +kernel
theorem d_Md_read_222 : decode b_Md_read 222 = .ok (.if_icmp .ne 7, 3) := by decide +kernel
theorem d_Md_read_225 : decode b_Md_read 225 = .ok (.iload_n 2, 1) := by decide +kernel
theorem d_Md_read_226 : decode b_Md_read 226 = .ok (.goto 6, 3) := by decide +kernel
theorem d_Md_read_229 : decode b_Md_read 229 = .ok (.iload_n 2, 1) := by decide +kernel
theorem d_Md_read_230 : decode b_Md_read 230 = .ok (.iconst 1, 1) := by decide +kernel
theorem d_Md_read_231 : decode b_Md_read 231 = .ok (.iadd, 1) := by decide +kernel
theorem d_Md_read_232 : decode b_Md_read 232 = .ok (.istore_n 2, 1) := by decide +kernel
theorem d_Md_read_233 : decode b_Md_read 233 = .ok (.goto (-215), 3) := by decide +kernel
theorem d_Md_read_236 : decode b_Md_read 236 = .ok (.aload_n 0, 1) := by decide +kernel
theorem d_Md_read_237 : decode b_Md_read 237 = .ok (.iload_n 1, 1) := by decide +kernel
theorem d_Md_read_238 : decode b_Md_read 238 = .ok (.iconst (-1), 1) := by decide +kernel
theorem d_Md_read_239 : decode b_Md_read 239 = .ok (.if_icmp .eq 14, 3) := by decide +kernel
theorem d_Md_read_242 : decode b_Md_read 242 = .ok (.iload_n 1, 1) := by decide +kernel
theorem d_Md_read_243 : decode b_Md_read 243 = .ok (.invokestatic 102, 3) := by decide +kernel
theorem d_Md_read_246 : decode b_Md_read 246 = .ok (.ifCond .eq 7, 3) := by decide +kernel
theorem d_Md_read_249 : decode b_Md_read 249 = .ok (.iconst 1, 1) := by decide +kernel
theorem d_Md_read_250 : decode b_Md_read 250 = .ok (.goto 4, 3) := by decide +kernel
theorem d_Md_read_253 : decode b_Md_read 253 = .ok (.iconst 0, 1) := by decide +kernel
theorem d_Md_read_254 : decode b_Md_read 254 = .ok (.invokevirtual 106, 3) := by decide +kernel
theorem d_Md_read_257 : decode b_Md_read 257 = .ok (.ifCond .ne 10, 3) := by decide +kernel
theorem d_Md_read_260 : decode b_Md_read 260 = .ok (.aload_n 0, 1) := by decide +kernel
theorem d_Md_read_261 : decode b_Md_read 261 = .ok (.iload_n 2, 1) := by decide +kernel
theorem d_Md_read_262 : decode b_Md_read 262 = .ok (.putfield 13, 3) := by decide +kernel
theorem d_Md_read_265 : decode b_Md_read 265 = .ok (.lconst 0, 1) := by decide +kernel
theorem d_Md_read_266 : decode b_Md_read 266 = .ok (.lreturn, 1) := by decide +kernel
theorem d_Md_read_267 : decode b_Md_read 267 = .ok (.aload_n 0, 1) := by decide +kernel
theorem d_Md_read_268 : decode b_Md_read 268 = .ok (.iconst 0, 1) := by decide +kernel
theorem d_Md_read_269 : decode b_Md_read 269 = .ok (.putfield 92, 3) := by decide +kernel
theorem d_Md_read_272 : decode b_Md_read 272 = .ok (.iload 6, 2) := by decide +kernel
theorem d_Md_read_274 : decode b_Md_read 274 = .ok (.ifCond .eq 9, 3) := by decide +kernel
theorem d_Md_read_277 : decode b_Md_read 277 = .ok (.ldc2_w 112, 3) := by decide +kernel
theorem d_Md_read_280 : decode b_Md_read 280 = .ok (.goto 4, 3) := by decide +kernel
theorem d_Md_read_283 : decode b_Md_read 283 = .ok (.lconst 0, 1) := by decide +kernel
theorem d_Md_read_284 : decode b_Md_read 284 = .ok (.lstore 8, 2) := by decide +kernel
theorem d_Md_read_286 : decode b_Md_read 286 = .ok (.iload_n 1, 1) := by decide +kernel
theorem d_Md_read_287 : decode b_Md_read 287 = .ok (.bipush 14, 2) := by decide +kernel
theorem d_Md_read_289 : decode b_Md_read 289 = .ok (.if_icmp .ne 7, 3) := by decide +kernel
theorem d_Md_read_292 : decode b_Md_read 292 = .ok (.ldc2_w 114, 3) := by decide +kernel
theorem d_Md_read_295 : decode b_Md_read 295 = .ok (.lreturn, 1) := by decide +kernel
theorem d_Md_read_296 : decode b_Md_read 296 = .ok (.iload_n 1, 1) := by decide +kernel
theorem d_Md_read_297 : decode b_Md_read 297 = .ok (.bipush 11, 2) := by decide +kernel
theorem d_Md_read_299 : decode b_Md_read 299 = .ok (.if_icmp .ne 10, 3) := by decide +kernel
theorem d_Md_read_302 : decode b_Md_read 302 = .ok (.ldc2_w 116, 3) := by decide +kernel
theorem d_Md_read_305 : decode b_Md_read 305 = .ok (.lload 8, 2) := by decide +kernel
theorem d_Md_read_307 : decode b_Md_read 307 = .ok (.lor, 1) := by decide +kernel
theorem d_Md_read_308 : decode b_Md_read 308 = .ok (.lreturn, 1) := by decide +kernel
theorem d_Md_read_309 : decode b_Md_read 309 = .ok (.aload_n 0, 1) := by decide +kernel
theorem d_Md_read_310 : decode b_Md_read 310 = .ok (.getfield 20, 3) := by decide +kernel
theorem d_Md_read_313 : decode b_Md_read 313 = .ok (.iconst 0, 1) := by decide +kernel
theorem d_Md_read_314 : decode b_Md_read 314 = .ok (.iload_n 3, 1) := by decide +kernel
theorem d_Md_read_315 : decode b_Md_read 315 = .ok (.iastore, 1) := by decide +kernel
theorem d_Md_read_316 : decode b_Md_read 316 = .ok (.aload_n 0, 1) := by decide +kernel
theorem d_Md_read_317 : decode b_Md_read 317 = .ok (.getfield 23, 3) := by decide +kernel
theorem d_Md_read_320 : decode b_Md_read 320 = .ok (.iconst 0, 1) := by decide +kernel
theorem d_Md_read_321 : decode b_Md_read 321 = .ok (.iload 4, 2) := by decide +kernel
theorem d_Md_read_323 : decode b_Md_read 323 = .ok (.iload 7, 2) := by decide +kernel
theorem d_Md_read_325 : decode b_Md_read 325 = .ok (.ifCond .eq 9, 3) := by decide +kernel
theorem d_Md_read_328 : decode b_Md_read 328 = .ok (.iload 5, 2) := by decide +kernel
theorem d_Md_read_330 : decode b_Md_read 330 = .ok (.ineg, 1) := by decide +kernel
theorem d_Md_read_331 : decode b_Md_read 331 = .ok (.goto 5, 3) := by decide +kernel
theorem d_Md_read_334 : decode b_Md_read 334 = .ok (.iload 5, 2) := by decide +kernel
theorem d_Md_read_336 : decode b_Md_read 336 = .ok (.iadd, 1) := by decide +kernel
theorem d_Md_read_337 : decode b_Md_read 337 = .ok (.iastore, 1) := by decide +kernel
theorem d_Md_read_338 : decode b_Md_read 338 = .ok (.aload_n 0, 1) := by decide +kernel
theorem d_Md_read_339 : decode b_Md_read 339 = .ok (.iconst 0, 1) := by decide +kernel
theorem d_Md_read_340 : decode b_Md_read 340 = .ok (.invokevirtual 62, 3) := by decide +kernel
theorem d_Md_read_343 : decode b_Md_read 343 = .ok (.aload_n 0, 1) := by decide +kernel
theorem d_Md_read_344 : decode b_Md_read 344 = .ok (.getfield 20, 3) := by decide +kernel
theorem d_Md_read_347 : decode b_Md_read 347 = .ok (.iconst 0, 1) := by decide +kernel
theorem d_Md_read_348 : decode b_Md_read 348 = .ok (.iaload, 1) := by decide +kernel
theorem d_Md_read_349 : decode b_Md_read 349 = .ok (.ifCond .ne 8, 3) := by decide +kernel
theorem d_Md_read_352 : decode b_Md_read 352 = .ok (.lload 8, 2) := by decide +kernel
theorem d_Md_read_354 : decode b_Md_read 354 = .ok (.goto 10, 3) := by decide +kernel
theorem d_Md_read_357 : decode b_Md_read 357 = .ok (.lload 8, 2) := by decide +kernel
theorem d_Md_read_359 : decode b_Md_read 359 = .ok (.aload_n 0, 1) := by decide +kernel
theorem d_Md_read_360 : decode b_Md_read 360 = .ok (.invokevirtual 118, 3) := by decide +kernel
theorem d_Md_read_363 : decode b_Md_read 363 = .ok (.lor, 1) := by decide +kernel
theorem d_Md_read_364 : decode b_Md_read 364 = .ok (.lreturn, 1) := by decide +kernel
theorem d_Md_cut_0 : decode b_Md_cut 0 = .ok (.iconst 0, 1) := by decide +kernel
theorem d_Md_cut_1 : decode b_Md_cut 1 = .ok (.istore 5, 2) := by decide +kernel
theorem d_Md_cut_3 : decode b_Md_cut 3 = .ok (.iload 5, 2) := by decide +kernel
theorem d_Md_cut_5 : decode b_Md_cut 5 = .ok (.iload_n 3, 1) := by decide +kernel
theorem d_Md_cut_6 : decode b_Md_cut 6 = .ok (.if_icmp .ge 50, 3) := by decide +kernel
theorem d_Md_cut_9 : decode b_Md_cut 9 = .ok (.aload_n 0, 1) := by decide +kernel
theorem d_Md_cut_10 : decode b_Md_cut 10 = .ok (.getfield 17, 3) := by decide +kernel
theorem d_Md_cut_13 : decode b_Md_cut 13 = .ok (.sipush 1300, 3) := by decide +kernel
theorem d_Md_cut_16 : decode b_Md_cut 16 = .ok (.iload_n 2, 1) := by decide +kernel
theorem d_Md_cut_17 : decode b_Md_cut 17 = .ok (.imul, 1) := by decide +kernel
theorem d_Md_cut_18 : decode b_Md_cut 18 = .ok (.iload 5, 2) := by decide +kernel
theorem d_Md_cut_20 : decode b_Md_cut 20 = .ok (.iadd, 1) := by decide +kernel
theorem d_Md_cut_21 : decode b_Md_cut 21 = .ok (.iload 5, 2) := by decide +kernel
theorem d_Md_cut_23 : decode b_Md_cut 23 = .ok (.aload_n 0, 1) := by decide +kernel
theorem d_Md_cut_24 : decode b_Md_cut 24 = .ok (.getfield 20, 3) := by decide +kernel
theorem d_Md_cut_27 : decode b_Md_cut 27 = .ok (.iload_n 1, 1) := by decide +kernel
theorem d_Md_cut_28 : decode b_Md_cut 28 = .ok (.iaload, 1) := by decide +kernel
theorem d_Md_cut_29 : decode b_Md_cut 29 = .ok (.if_icmp .ge 19, 3) := by decide +kernel
theorem d_Md_cut_32 : decode b_Md_cut 32 = .ok (.aload_n 0, 1) := by decide +kernel
theorem d_Md_cut_33 : decode b_Md_cut 33 = .ok (.getfield 17, 3) := by decide +kernel
theorem d_Md_cut_36 : decode b_Md_cut 36 = .ok (.sipush 1300, 3) := by decide +kernel
theorem d_Md_cut_39 : decode b_Md_cut 39 = .ok (.iload_n 1, 1) := by decide +kernel
theorem d_Md_cut_40 : decode b_Md_cut 40 = .ok (.imul, 1) := by decide +kernel
theorem d_Md_cut_41 : decode b_Md_cut 41 = .ok (.iload 5, 2) := by decide +kernel
theorem d_Md_cut_43 : decode b_Md_cut 43 = .ok (.iadd, 1) := by decide +kernel
theorem d_Md_cut_44 : decode b_Md_cut 44 = .ok (.iaload, 1) := by decide +kernel
theorem d_Md_cut_45 : decode b_Md_cut 45 = .ok (.goto 4, 3) := by decide +kernel
theorem d_Md_cut_48 : decode b_Md_cut 48 = .ok (.iconst 0, 1) := by decide +kernel
theorem d_Md_cut_49 : decode b_Md_cut 49 = .ok (.iastore, 1) := by decide +kernel
theorem d_Md_cut_50 : decode b_Md_cut 50 = .ok (.iinc 5 1, 3) := by decide +kernel
theorem d_Md_cut_53 : decode b_Md_cut 53 = .ok (.goto (-50), 3) := by decide +kernel
theorem d_Md_cut_56 : decode b_Md_cut 56 = .ok (.aload_n 0, 1) := by decide +kernel
theorem d_Md_cut_57 : decode b_Md_cut 57 = .ok (.getfield 20, 3) := by decide +kernel
theorem d_Md_cut_60 : decode b_Md_cut 60 = .ok (.iload_n 2, 1) := by decide +kernel
theorem d_Md_cut_61 : decode b_Md_cut 61 = .ok (.iload_n 3, 1) := by decide +kernel
theorem d_Md_cut_62 : decode b_Md_cut 62 = .ok (.iastore, 1) := by decide +kernel
theorem d_Md_cut_63 : decode b_Md_cut 63 = .ok (.aload_n 0, 1) := by decide +kernel
theorem d_Md_cut_64 : decode b_Md_cut 64 = .ok (.getfield 23, 3) := by decide +kernel
theorem d_Md_cut_67 : decode b_Md_cut 67 = .ok (.iload_n 2, 1) := by decide +kernel
theorem d_Md_cut_68 : decode b_Md_cut 68 = .ok (.aload_n 0, 1) := by decide +kernel
theorem d_Md_cut_69 : decode b_Md_cut 69 = .ok (.getfield 23, 3) := by decide +kernel
theorem d_Md_cut_72 : decode b_Md_cut 72 = .ok (.iload_n 1, 1) := by decide +kernel
theorem d_Md_cut_73 : decode b_Md_cut 73 = .ok (.iaload, 1) := by decide +kernel
theorem d_Md_cut_74 : decode b_Md_cut 74 = .ok (.iastore, 1) := by decide +kernel
theorem d_Md_cut_75 : decode b_Md_cut 75 = .ok (.iload_n 3, 1) := by decide +kernel
theorem d_Md_cut_76 : decode b_Md_cut 76 = .ok (.iconst 1, 1) := by decide +kernel
theorem d_Md_cut_77 : decode b_Md_cut 77 = .ok (.isub, 1) := by decide +kernel
theorem d_Md_cut_78 : decode b_Md_cut 78 = .ok (.istore 5, 2) := by decide +kernel
theorem d_Md_cut_80 : decode b_Md_cut 80 = .ok (.iload 4, 2) := by decide +kernel
theorem d_Md_cut_82 : decode b_Md_cut 82 = .ok (.istore 6, 2) := by decide +kernel
theorem d_Md_cut_84 : decode b_Md_cut 84 = .ok (.iload 6, 2) := by decide +kernel
theorem d_Md_cut_86 : decode b_Md_cut 86 = .ok (.ifCond .eq 71, 3) := by decide +kernel
theorem d_Md_cut_89 : decode b_Md_cut 89 = .ok (.iload 5, 2) := by decide +kernel
theorem d_Md_cut_91 : decode b_Md_cut 91 = .ok (.ifCond .lt 66, 3) := by decide +kernel
theorem d_Md_cut_94 : decode b_Md_cut 94 = .ok (.aload_n 0, 1) := by decide +kernel
theorem d_Md_cut_95 : decode b_Md_cut 95 = .ok (.getfield 17, 3) := by decide +kernel
theorem d_Md_cut_98 : decode b_Md_cut 98 = .ok (.sipush 1300, 3) := by decide +kernel
theorem d_Md_cut_101 : decode b_Md_cut 101 = .ok (.iload_n 2, 1) := by decide +kernel
theorem d_Md_cut_102 : decode b_Md_cut 102 = .ok (.imul, 1) := by decide +kernel
theorem d_Md_cut_103 : decode b_Md_cut 103 = .ok (.iload 5, 2) := by decide +kernel
theorem d_Md_cut_105 : decode b_Md_cut 105 = .ok (.iadd, 1) := by decide +kernel
theorem d_Md_cut_106 : decode b_Md_cut 106 = .ok (.iaload, 1) := by decide +kernel
theorem d_Md_cut_107 : decode b_Md_cut 107 = .ok (.istore 7, 2) := by decide +kernel
theorem d_Md_cut_109 : decode b_Md_cut 109 = .ok (.aload_n 0, 1) := by decide +kernel
theorem d_Md_cut_110 : decode b_Md_cut 110 = .ok (.getfield 17, 3) := by decide +kernel
theorem d_Md_cut_113 : decode b_Md_cut 113 = .ok (.sipush 1300, 3) := by decide +kernel
theorem d_Md_cut_116 : decode b_Md_cut 116 = .ok (.iload_n 2, 1) := by decide +kernel
theorem d_Md_cut_117 : decode b_Md_cut 117 = .ok (.imul, 1) := by decide +kernel
theorem d_Md_cut_118 : decode b_Md_cut 118 = .ok (.iload 5, 2) := by decide +kernel
theorem d_Md_cut_120 : decode b_Md_cut 120 = .ok (.iadd, 1) := by decide +kernel
theorem d_Md_cut_121 : decode b_Md_cut 121 = .ok (.iload 7, 2) := by decide +kernel
theorem d_Md_cut_123 : decode b_Md_cut 123 = .ok (.bipush 9, 2) := by decide +kernel
theorem d_Md_cut_125 : decode b_Md_cut 125 = .ok (.if_icmp .ne 7, 3) := by decide +kernel
theorem d_Md_cut_128 : decode b_Md_cut 128 = .ok (.iconst 0, 1) := by decide +kernel
theorem d_Md_cut_129 : decode b_Md_cut 129 = .ok (.goto 7, 3) := by decide +kernel
theorem d_Md_cut_132 : decode b_Md_cut 132 = .ok (.iload 7, 2) := by decide +kernel
theorem d_Md_cut_134 : decode b_Md_cut 134 = .ok (.iconst 1, 1) := by decide +kernel
theorem d_Md_cut_135 : decode b_Md_cut 135 = .ok (.iadd, 1) := by decide +kernel
theorem d_Md_cut_136 : decode b_Md_cut 136 = .ok (.iastore, 1) := by decide +kernel
theorem d_Md_cut_137 : decode b_Md_cut 137 = .ok (.iload 7, 2) := by decide +kernel
theorem d_Md_cut_139 : decode b_Md_cut 139 = .ok (.bipush 9, 2) := by decide +kernel
theorem d_Md_cut_141 : decode b_Md_cut 141 = .ok (.if_icmp .ne 7, 3) := by decide +kernel
theorem d_Md_cut_144 : decode b_Md_cut 144 = .ok (.iconst 1, 1) := by decide +kernel
theorem d_Md_cut_145 : decode b_Md_cut 145 = .ok (.goto 4, 3) := by decide +kernel
theorem d_Md_cut_148 : decode b_Md_cut 148 = .ok (.iconst 0, 1) := by decide +kernel
theorem d_Md_cut_149 : decode b_Md_cut 149 = .ok (.istore 6, 2) := by decide +kernel
theorem d_Md_cut_151 : decode b_Md_cut 151 = .ok (.iinc 5 (-1), 3) := by decide +kernel
theorem d_Md_cut_154 : decode b_Md_cut 154 = .ok (.goto (-70), 3) := by decide +kernel
theorem d_Md_cut_157 : decode b_Md_cut 157 = .ok (.iload 6, 2) := by decide +kernel
theorem d_Md_cut_159 : decode b_Md_cut 159 = .ok (.ifCond .eq 24, 3) := by decide +kernel
theorem d_Md_cut_162 : decode b_Md_cut 162 = .ok (.aload_n 0, 1) := by decide +kernel
theorem d_Md_cut_163 : decode b_Md_cut 163 = .ok (.getfield 17, 3) := by decide +kernel
theorem d_Md_cut_166 : decode b_Md_cut 166 = .ok (.sipush 1300, 3) := by decide +kernel
theorem d_Md_cut_169 : decode b_Md_cut 169 = .ok (.iload_n 2, 1) := by decide +kernel
theorem d_Md_cut_170 : decode b_Md_cut 170 = .ok (.imul, 1) := by decide +kernel
theorem d_Md_cut_171 : decode b_Md_cut 171 = .ok (.iconst 1, 1) := by decide +kernel
theorem d_Md_cut_172 : decode b_Md_cut 172 = .ok (.iastore, 1) := by decide +kernel
theorem d_Md_cut_173 : decode b_Md_cut 173 = .ok (.aload_n 0, 1) := by decide +kernel
theorem d_Md_cut_174 : decode b_Md_cut 174 = .ok (.getfield 23, 3) := by decide +kernel
theorem d_Md_cut_177 : decode b_Md_cut 177 = .ok (.iload_n 2, 1) := by decide +kernel
theorem d_Md_cut_178 : decode b_Md_cut 178 = .ok (.dup2, 1) := by decide +kernel
theorem d_Md_cut_179 : decode b_Md_cut 179 = .ok (.iaload, 1) := by decide +kernel
theorem d_Md_cut_180 : decode b_Md_cut 180 = .ok (.iconst 1, 1) := by decide +kernel
theorem d_Md_cut_181 : decode b_Md_cut 181 = .ok (.iadd, 1) := by decide +kernel
theorem d_Md_cut_182 : decode b_Md_cut 182 = .ok (.iastore, 1) := by decide +kernel
theorem d_Md_cut_183 : decode b_Md_cut 183 = .ok (.return_, 1) := by decide +kernel
theorem d_Md_rest_0 : decode b_Md_rest 0 = .ok (.iload_n 2, 1) := by decide +kernel
theorem d_Md_rest_1 : decode b_Md_rest 1 = .ok (.aload_n 0, 1) := by decide +kernel
theorem d_Md_rest_2 : decode b_Md_rest 2 = .ok (.getfield 20, 3) := by decide +kernel
theorem d_Md_rest_5 : decode b_Md_rest 5 = .ok (.iload_n 1, 1) := by decide +kernel
theorem d_Md_rest_6 : decode b_Md_rest 6 = .ok (.iaload, 1) := by decide +kernel
theorem d_Md_rest_7 : decode b_Md_rest 7 = .ok (.if_icmp .lt 5, 3) := by decide +kernel
theorem d_Md_rest_10 : decode b_Md_rest 10 = .ok (.iconst (-1), 1) := by decide +kernel
theorem d_Md_rest_11 : decode b_Md_rest 11 = .ok (.ireturn, 1) := by decide +kernel
theorem d_Md_rest_12 : decode b_Md_rest 12 = .ok (.aload_n 0, 1) := by decide +kernel
theorem d_Md_rest_13 : decode b_Md_rest 13 = .ok (.getfield 17, 3) := by decide +kernel
theorem d_Md_rest_16 : decode b_Md_rest 16 = .ok (.sipush 1300, 3) := by decide +kernel
theorem d_Md_rest_19 : decode b_Md_rest 19 = .ok (.iload_n 1, 1) := by decide +kernel
theorem d_Md_rest_20 : decode b_Md_rest 20 = .ok (.imul, 1) := by decide +kernel
theorem d_Md_rest_21 : decode b_Md_rest 21 = .ok (.iload_n 2, 1) := by decide +kernel
theorem d_Md_rest_22 : decode b_Md_rest 22 = .ok (.iadd, 1) := by decide +kernel
theorem d_Md_rest_23 : decode b_Md_rest 23 = .ok (.iaload, 1) := by decide +kernel
theorem d_Md_rest_24 : decode b_Md_rest 24 = .ok (.istore_n 3, 1) := by decide +kernel
theorem d_Md_rest_25 : decode b_Md_rest 25 = .ok (.iload_n 3, 1) := by decide +kernel
theorem d_Md_rest_26 : decode b_Md_rest 26 = .ok (.iconst 5, 1) := by decide +kernel
theorem d_Md_rest_27 : decode b_Md_rest 27 = .ok (.if_icmp .eq 9, 3) := by decide +kernel
theorem d_Md_rest_30 : decode b_Md_rest 30 = .ok (.iload_n 3, 1) := by decide +kernel
theorem d_Md_rest_31 : decode b_Md_rest 31 = .ok (.iconst 5, 1) := by decide +kernel
theorem d_Md_rest_32 : decode b_Md_rest 32 = .ok (.isub, 1) := by decide +kernel
theorem d_Md_rest_33 : decode b_Md_rest 33 = .ok (.goto 20, 3) := by decide +kernel
theorem d_Md_rest_36 : decode b_Md_rest 36 = .ok (.aload_n 0, 1) := by decide +kernel
theorem d_Md_rest_37 : decode b_Md_rest 37 = .ok (.getfield 20, 3) := by decide +kernel
theorem d_Md_rest_40 : decode b_Md_rest 40 = .ok (.iload_n 1, 1) := by decide +kernel
theorem d_Md_rest_41 : decode b_Md_rest 41 = .ok (.iaload, 1) := by decide +kernel
theorem d_Md_rest_42 : decode b_Md_rest 42 = .ok (.iload_n 2, 1) := by decide +kernel
theorem d_Md_rest_43 : decode b_Md_rest 43 = .ok (.iconst 1, 1) := by decide +kernel
theorem d_Md_rest_44 : decode b_Md_rest 44 = .ok (.iadd, 1) := by decide +kernel
theorem d_Md_rest_45 : decode b_Md_rest 45 = .ok (.if_icmp .le 7, 3) := by decide +kernel
theorem d_Md_rest_48 : decode b_Md_rest 48 = .ok (.iconst 1, 1) := by decide +kernel
theorem d_Md_rest_49 : decode b_Md_rest 49 = .ok (.goto 4, 3) := by decide +kernel
theorem d_Md_rest_52 : decode b_Md_rest 52 = .ok (.iconst 0, 1) := by decide +kernel
theorem d_Md_rest_53 : decode b_Md_rest 53 = .ok (.ireturn, 1) := by decide +kernel
theorem d_Md_round_0 : decode b_Md_round 0 = .ok (.aload_n 0, 1) := by decide +kernel
theorem d_Md_round_1 : decode b_Md_round 1 = .ok (.iload_n 1, 1) := by decide +kernel
theorem d_Md_round_2 : decode b_Md_round 2 = .ok (.iload_n 3, 1) := by decide +kernel
theorem d_Md_round_3 : decode b_Md_round 3 = .ok (.invokevirtual 132, 3) := by decide +kernel
theorem d_Md_round_6 : decode b_Md_round 6 = .ok (.istore 4, 2) := by decide +kernel
theorem d_Md_round_8 : decode b_Md_round 8 = .ok (.iload_n 3, 1) := by decide +kernel
theorem d_Md_round_9 : decode b_Md_round 9 = .ok (.aload_n 0, 1) := by decide +kernel
theorem d_Md_round_10 : decode b_Md_round 10 = .ok (.getfield 20, 3) := by decide +kernel
theorem d_Md_round_13 : decode b_Md_round 13 = .ok (.iload_n 1, 1) := by decide +kernel
theorem d_Md_round_14 : decode b_Md_round 14 = .ok (.iaload, 1) := by decide +kernel
theorem d_Md_round_15 : decode b_Md_round 15 = .ok (.if_icmp .gt 20, 3) := by decide +kernel
theorem d_Md_round_18 : decode b_Md_round 18 = .ok (.aload_n 0, 1) := by decide +kernel
theorem d_Md_round_19 : decode b_Md_round 19 = .ok (.getfield 17, 3) := by decide +kernel
theorem d_Md_round_22 : decode b_Md_round 22 = .ok (.sipush 1300, 3) := by decide +kernel
theorem d_Md_round_25 : decode b_Md_round 25 = .ok (.iload_n 1, 1) := by decide +kernel
theorem d_Md_round_26 : decode b_Md_round 26 = .ok (.imul, 1) := by decide +kernel
theorem d_Md_round_27 : decode b_Md_round 27 = .ok (.iload_n 3, 1) := by decide +kernel
theorem d_Md_round_28 : decode b_Md_round 28 = .ok (.iadd, 1) := by decide +kernel
theorem d_Md_round_29 : decode b_Md_round 29 = .ok (.iconst 1, 1) := by decide +kernel
theorem d_Md_round_30 : decode b_Md_round 30 = .ok (.isub, 1) := by decide +kernel
theorem d_Md_round_31 : decode b_Md_round 31 = .ok (.iaload, 1) := by decide +kernel
theorem d_Md_round_32 : decode b_Md_round 32 = .ok (.goto 4, 3) := by decide +kernel
theorem d_Md_round_35 : decode b_Md_round 35 = .ok (.iconst 0, 1) := by decide +kernel
theorem d_Md_round_36 : decode b_Md_round 36 = .ok (.istore 5, 2) := by decide +kernel
theorem d_Md_round_38 : decode b_Md_round 38 = .ok (.aload_n 0, 1) := by decide +kernel
theorem d_Md_round_39 : decode b_Md_round 39 = .ok (.iload_n 1, 1) := by decide +kernel
theorem d_Md_round_40 : decode b_Md_round 40 = .ok (.iload_n 2, 1) := by decide +kernel
theorem d_Md_round_41 : decode b_Md_round 41 = .ok (.iload_n 3, 1) := by decide +kernel
theorem d_Md_round_42 : decode b_Md_round 42 = .ok (.iload 4, 2) := by decide +kernel
theorem d_Md_round_44 : decode b_Md_round 44 = .ok (.ifCond .gt 16, 3) := by decide +kernel
theorem d_Md_round_47 : decode b_Md_round 47 = .ok (.iload 4, 2) := by decide +kernel
theorem d_Md_round_49 : decode b_Md_round 49 = .ok (.ifCond .ne 15, 3) := by decide +kernel
theorem d_Md_round_52 : decode b_Md_round 52 = .ok (.iload 5, 2) := by decide +kernel
theorem d_Md_round_54 : decode b_Md_round 54 = .ok (.iconst 2, 1) := by decide +kernel
theorem d_Md_round_55 : decode b_Md_round 55 = .ok (.irem, 1) := by decide +kernel
theorem d_Md_round_56 : decode b_Md_round 56 = .ok (.iconst 1, 1) := by decide +kernel
theorem d_Md_round_57 : decode b_Md_round 57 = .ok (.if_icmp .ne 7, 3) := by decide +kernel
theorem d_Md_round_60 : decode b_Md_round 60 = .ok (.iconst 1, 1) := by decide +kernel
theorem d_Md_round_61 : decode b_Md_round 61 = .ok (.goto 4, 3) := by decide +kernel
theorem d_Md_round_64 : decode b_Md_round 64 = .ok (.iconst 0, 1) := by decide +kernel
theorem d_Md_round_65 : decode b_Md_round 65 = .ok (.invokevirtual 135, 3) := by decide +kernel
theorem d_Md_round_68 : decode b_Md_round 68 = .ok (.return_, 1) := by decide +kernel
theorem d_Md_isBetween_0 : decode b_Md_isBetween 0 = .ok (.aload_n 0, 1) := by decide +kernel
theorem d_Md_isBetween_1 : decode b_Md_isBetween 1 = .ok (.iconst 0, 1) := by decide +kernel
theorem d_Md_isBetween_2 : decode b_Md_isBetween 2 = .ok (.lload_n 1, 1) := by decide +kernel
theorem d_Md_isBetween_3 : decode b_Md_isBetween 3 = .ok (.invokevirtual 122, 3) := by decide +kernel
theorem d_Md_isBetween_6 : decode b_Md_isBetween 6 = .ok (.iload 4, 2) := by decide +kernel
theorem d_Md_isBetween_8 : decode b_Md_isBetween 8 = .ok (.ifCond .eq 15, 3) := by decide +kernel
theorem d_Md_isBetween_11 : decode b_Md_isBetween 11 = .ok (.iload_n 3, 1) := by decide +kernel
theorem d_Md_isBetween_12 : decode b_Md_isBetween 12 = .ok (.aload_n 0, 1) := by decide +kernel
theorem d_Md_isBetween_13 : decode b_Md_isBetween 13 = .ok (.getfield 20, 3) := by decide +kernel
theorem d_Md_isBetween_16 : decode b_Md_isBetween 16 = .ok (.iconst 0, 1) := by decide +kernel
theorem d_Md_isBetween_17 : decode b_Md_isBetween 17 = .ok (.iaload, 1) := by decide +kernel
theorem d_Md_isBetween_18 : decode b_Md_isBetween 18 = .ok (.if_icmp .lt 5, 3) := by decide +kernel
theorem d_Md_isBetween_21 : decode b_Md_isBetween 21 = .ok (.iconst 0, 1) := by decide +kernel
theorem d_Md_isBetween_22 : decode b_Md_isBetween 22 = .ok (.ireturn, 1) := by decide +kernel
theorem d_Md_isBetween_23 : decode b_Md_isBetween 23 = .ok (.aload_n 0, 1) := by decide +kernel
theorem d_Md_isBetween_24 : decode b_Md_isBetween 24 = .ok (.iconst 0, 1) := by decide +kernel
theorem d_Md_isBetween_25 : decode b_Md_isBetween 25 = .ok (.iconst 2, 1) := by decide +kernel
theorem d_Md_isBetween_26 : decode b_Md_isBetween 26 = .ok (.iload_n 3, 1) := by decide +kernel
theorem d_Md_isBetween_27 : decode b_Md_isBetween 27 = .ok (.iload 4, 2) := by decide +kernel
theorem d_Md_isBetween_29 : decode b_Md_isBetween 29 = .ok (.invokevirtual 135, 3) := by decide +kernel
theorem d_Md_isBetween_32 : decode b_Md_isBetween 32 = .ok (.aload_n 0, 1) := by decide +kernel
theorem d_Md_isBetween_33 : decode b_Md_isBetween 33 = .ok (.iconst 2, 1) := by decide +kernel
theorem d_Md_isBetween_34 : decode b_Md_isBetween 34 = .ok (.invokevirtual 62, 3) := by decide +kernel
theorem d_Md_isBetween_37 : decode b_Md_isBetween 37 = .ok (.aload_n 0, 1) := by decide +kernel
theorem d_Md_isBetween_38 : decode b_Md_isBetween 38 = .ok (.iconst 1, 1) := by decide +kernel
theorem d_Md_isBetween_39 : decode b_Md_isBetween 39 = .ok (.lload_n 1, 1) := by decide +kernel
theorem d_Md_isBetween_40 : decode b_Md_isBetween 40 = .ok (.invokevirtual 129, 3) := by decide +kernel
theorem d_Md_isBetween_43 : decode b_Md_isBetween 43 = .ok (.aload_n 0, 1) := by decide +kernel
theorem d_Md_isBetween_44 : decode b_Md_isBetween 44 = .ok (.iconst 2, 1) := by decide +kernel
theorem d_Md_isBetween_45 : decode b_Md_isBetween 45 = .ok (.iconst 1, 1) := by decide +kernel
theorem d_Md_isBetween_46 : decode b_Md_isBetween 46 = .ok (.invokevirtual 126, 3) := by decide +kernel
theorem d_Md_isBetween_49 : decode b_Md_isBetween 49 = .ok (.istore 6, 2) := by decide +kernel
theorem d_Md_isBetween_51 : decode b_Md_isBetween 51 = .ok (.iload 6, 2) := by decide +kernel
theorem d_Md_isBetween_53 : decode b_Md_isBetween 53 = .ok (.ifCond .gt 13, 3) := by decide +kernel
theorem d_Md_isBetween_56 : decode b_Md_isBetween 56 = .ok (.iload 6, 2) := by decide +kernel
theorem d_Md_isBetween_58 : decode b_Md_isBetween 58 = .ok (.ifCond .ne 10, 3) := by decide +kernel
theorem d_Md_isBetween_61 : decode b_Md_isBetween 61 = .ok (.iload 5, 2) := by decide +kernel
theorem d_Md_isBetween_63 : decode b_Md_isBetween 63 = .ok (.ifCond .ne 5, 3) := by decide +kernel
theorem d_Md_isBetween_66 : decode b_Md_isBetween 66 = .ok (.iconst 0, 1) := by decide +kernel
theorem d_Md_isBetween_67 : decode b_Md_isBetween 67 = .ok (.ireturn, 1) := by decide +kernel
theorem d_Md_isBetween_68 : decode b_Md_isBetween 68 = .ok (.aload_n 0, 1) := by decide +kernel
theorem d_Md_isBetween_69 : decode b_Md_isBetween 69 = .ok (.iconst 1, 1) := by decide +kernel
theorem d_Md_isBetween_70 : decode b_Md_isBetween 70 = .ok (.lload_n 1, 1) := by decide +kernel
theorem d_Md_isBetween_71 : decode b_Md_isBetween 71 = .ok (.lconst 1, 1) := by decide +kernel
theorem d_Md_isBetween_72 : decode b_Md_isBetween 72 = .ok (.lsub, 1) := by decide +kernel
theorem d_Md_isBetween_73 : decode b_Md_isBetween 73 = .ok (.invokevirtual 129, 3) := by decide +kernel
theorem d_Md_isBetween_76 : decode b_Md_isBetween 76 = .ok (.aload_n 0, 1) := by decide +kernel
theorem d_Md_isBetween_77 : decode b_Md_isBetween 77 = .ok (.iconst 2, 1) := by decide +kernel
theorem d_Md_isBetween_78 : decode b_Md_isBetween 78 = .ok (.iconst 1, 1) := by decide +kernel
theorem d_Md_isBetween_79 : decode b_Md_isBetween 79 = .ok (.invokevirtual 126, 3) := by decide +kernel
theorem d_Md_isBetween_82 : decode b_Md_isBetween 82 = .ok (.istore 7, 2) := by decide +kernel
theorem d_Md_isBetween_84 : decode b_Md_isBetween 84 = .ok (.iload 7, 2) := by decide +kernel
theorem d_Md_isBetween_86 : decode b_Md_isBetween 86 = .ok (.ifCond .gt 13, 3) := by decide +kernel
theorem d_Md_isBetween_89 : decode b_Md_isBetween 89 = .ok (.iload 7, 2) := by decide +kernel
theorem d_Md_isBetween_91 : decode b_Md_isBetween 91 = .ok (.ifCond .ne 12, 3) := by decide +kernel
theorem d_Md_isBetween_94 : decode b_Md_isBetween 94 = .ok (.iload 5, 2) := by decide +kernel
theorem d_Md_isBetween_96 : decode b_Md_isBetween 96 = .ok (.ifCond .eq 7, 3) := by decide +kernel
theorem d_Md_isBetween_99 : decode b_Md_isBetween 99 = .ok (.iconst 1, 1) := by decide +kernel
theorem d_Md_isBetween_100 : decode b_Md_isBetween 100 = .ok (.goto 4, 3) := by decide +kernel
theorem d_Md_isBetween_103 : decode b_Md_isBetween 103 = .ok (.iconst 0, 1) := by decide +kernel
theorem d_Md_isBetween_104 : decode b_Md_isBetween 104 = .ok (.ireturn, 1) := by decide +kernel
theorem d_Md_shortest_0 : decode b_Md_shortest 0 = .ok (.lload_n 1, 1) := by decide +kernel
theorem d_Md_shortest_1 : decode b_Md_shortest 1 = .ok (.ldc2_w 139, 3) := by decide +kernel
theorem d_Md_shortest_4 : decode b_Md_shortest 4 = .ok (.land, 1) := by decide +kernel
theorem d_Md_shortest_5 : decode b_Md_shortest 5 = .ok (.lstore_n 3, 1) := by decide +kernel
theorem d_Md_shortest_6 : decode b_Md_shortest 6 = .ok (.lload_n 3, 1) := by decide +kernel
theorem d_Md_shortest_7 : decode b_Md_shortest 7 = .ok (.lconst 1, 1) := by decide +kernel
theorem d_Md_shortest_8 : decode b_Md_shortest 8 = .ok (.land, 1) := by decide +kernel
theorem d_Md_shortest_9 : decode b_Md_shortest 9 = .ok (.lconst 0, 1) := by decide +kernel
theorem d_Md_shortest_10 : decode b_Md_shortest 10 = .ok (.lcmp, 1) := by decide +kernel
theorem d_Md_shortest_11 : decode b_Md_shortest 11 = .ok (.ifCond .ne 7, 3) := by decide +kernel
theorem d_Md_shortest_14 : decode b_Md_shortest 14 = .ok (.iconst 1, 1) := by decide +kernel
theorem d_Md_shortest_15 : decode b_Md_shortest 15 = .ok (.goto 4, 3) := by decide +kernel
theorem d_Md_shortest_18 : decode b_Md_shortest 18 = .ok (.iconst 0, 1) := by decide +kernel
theorem d_Md_shortest_19 : decode b_Md_shortest 19 = .ok (.istore 5, 2) := by decide +kernel
theorem d_Md_shortest_21 : decode b_Md_shortest 21 = .ok (.iconst 0, 1) := by decide +kernel
theorem d_Md_shortest_22 : decode b_Md_shortest 22 = .ok (.istore 6, 2) := by decide +kernel
theorem d_Md_shortest_24 : decode b_Md_shortest 24 = .ok (.iconst 0, 1) := by decide +kernel
theorem d_Md_shortest_25 : decode b_Md_shortest 25 = .ok (.istore 7, 2) := by decide +kernel
theorem d_Md_shortest_27 : decode b_Md_shortest 27 = .ok (.iload 6, 2) := by decide +kernel
theorem d_Md_shortest_29 : decode b_Md_shortest 29 = .ok (.ifCond .ne 138, 3) := by decide +kernel
theorem d_Md_shortest_32 : decode b_Md_shortest 32 = .ok (.iinc 7 1, 3) := by decide +kernel
theorem d_Md_shortest_35 : decode b_Md_shortest 35 = .ok (.aload_n 0, 1) := by decide +kernel
theorem d_Md_shortest_36 : decode b_Md_shortest 36 = .ok (.lload_n 3, 1) := by decide +kernel
theorem d_Md_shortest_37 : decode b_Md_shortest 37 = .ok (.iload 7, 2) := by decide +kernel
theorem d_Md_shortest_39 : decode b_Md_shortest 39 = .ok (.iconst 0, 1) := by decide +kernel
theorem d_Md_shortest_40 : decode b_Md_shortest 40 = .ok (.iload 5, 2) := by decide +kernel
theorem d_Md_shortest_42 : decode b_Md_shortest 42 = .ok (.invokevirtual 141, 3) := by decide +kernel
theorem d_Md_shortest_45 : decode b_Md_shortest 45 = .ok (.istore 8, 2) := by decide +kernel
theorem d_Md_shortest_47 : decode b_Md_shortest 47 = .ok (.aload_n 0, 1) := by decide +kernel
theorem d_Md_shortest_48 : decode b_Md_shortest 48 = .ok (.lload_n 3, 1) := by decide +kernel
theorem d_Md_shortest_49 : decode b_Md_shortest 49 = .ok (.iload 7, 2) := by decide +kernel
theorem d_Md_shortest_51 : decode b_Md_shortest 51 = .ok (.iconst 1, 1) := by decide +kernel
theorem d_Md_shortest_52 : decode b_Md_shortest 52 = .ok (.iload 5, 2) := by decide +kernel
theorem d_Md_shortest_54 : decode b_Md_shortest 54 = .ok (.invokevirtual 141, 3) := by decide +kernel
theorem d_Md_shortest_57 : decode b_Md_shortest 57 = .ok (.istore 9, 2) := by decide +kernel
theorem d_Md_shortest_59 : decode b_Md_shortest 59 = .ok (.iload 8, 2) := by decide +kernel
theorem d_Md_shortest_61 : decode b_Md_shortest 61 = .ok (.ifCond .ne 8, 3) := by decide +kernel
theorem d_Md_shortest_64 : decode b_Md_shortest 64 = .ok (.iload 9, 2) := by decide +kernel
theorem d_Md_shortest_66 : decode b_Md_shortest 66 = .ok (.ifCond .eq 98, 3) := by decide +kernel
theorem d_Md_shortest_69 : decode b_Md_shortest 69 = .ok (.aload_n 0, 1) := by decide +kernel
theorem d_Md_shortest_70 : decode b_Md_shortest 70 = .ok (.iconst 0, 1) := by decide +kernel
theorem d_Md_shortest_71 : decode b_Md_shortest 71 = .ok (.lload_n 3, 1) := by decide +kernel
theorem d_Md_shortest_72 : decode b_Md_shortest 72 = .ok (.invokevirtual 122, 3) := by decide +kernel
theorem d_Md_shortest_75 : decode b_Md_shortest 75 = .ok (.aload_n 0, 1) := by decide +kernel
theorem d_Md_shortest_76 : decode b_Md_shortest 76 = .ok (.iconst 0, 1) := by decide +kernel
theorem d_Md_shortest_77 : decode b_Md_shortest 77 = .ok (.iload 7, 2) := by decide +kernel
theorem d_Md_shortest_79 : decode b_Md_shortest 79 = .ok (.invokevirtual 132, 3) := by decide +kernel
theorem d_Md_shortest_82 : decode b_Md_shortest 82 = .ok (.istore 10, 2) := by decide +kernel
theorem d_Md_shortest_84 : decode b_Md_shortest 84 = .ok (.iload 7, 2) := by decide +kernel
theorem d_Md_shortest_86 : decode b_Md_shortest 86 = .ok (.aload_n 0, 1) := by decide +kernel
theorem d_Md_shortest_87 : decode b_Md_shortest 87 = .ok (.getfield 20, 3) := by decide +kernel
theorem d_Md_shortest_90 : decode b_Md_shortest 90 = .ok (.iconst 0, 1) := by decide +kernel
theorem d_Md_shortest_91 : decode b_Md_shortest 91 = .ok (.iaload, 1) := by decide +kernel
theorem d_Md_shortest_92 : decode b_Md_shortest 92 = .ok (.if_icmp .gt 15, 3) := by decide +kernel
theorem d_Md_shortest_95 : decode b_Md_shortest 95 = .ok (.aload_n 0, 1) := by decide +kernel
theorem d_Md_shortest_96 : decode b_Md_shortest 96 = .ok (.getfield 17, 3) := by decide +kernel
theorem d_Md_shortest_99 : decode b_Md_shortest 99 = .ok (.iload 7, 2) := by decide +kernel
theorem d_Md_shortest_101 : decode b_Md_shortest 101 = .ok (.iconst 1, 1) := by decide +kernel
theorem d_Md_shortest_102 : decode b_Md_shortest 102 = .ok (.isub, 1) := by decide +kernel
theorem d_Md_shortest_103 : decode b_Md_shortest 103 = .ok (.iaload, 1) := by decide +kernel
theorem d_Md_shortest_104 : decode b_Md_shortest 104 = .ok (.goto 4, 3) := by decide +kernel
theorem d_Md_shortest_107 : decode b_Md_shortest 107 = .ok (.iconst 0, 1) := by decide +kernel
theorem d_Md_shortest_108 : decode b_Md_shortest 108 = .ok (.istore 11, 2) := by decide +kernel
theorem d_Md_shortest_110 : decode b_Md_shortest 110 = .ok (.iload 10, 2) := by decide +kernel
theorem d_Md_shortest_112 : decode b_Md_shortest 112 = .ok (.ifCond .gt 16, 3) := by decide +kernel
theorem d_Md_shortest_115 : decode b_Md_shortest 115 = .ok (.iload 10, 2) := by decide +kernel
theorem d_Md_shortest_117 : decode b_Md_shortest 117 = .ok (.ifCond .ne 15, 3) := by decide +kernel
theorem d_Md_shortest_120 : decode b_Md_shortest 120 = .ok (.iload 11, 2) := by decide +kernel
theorem d_Md_shortest_122 : decode b_Md_shortest 122 = .ok (.iconst 2, 1) := by decide +kernel
theorem d_Md_shortest_123 : decode b_Md_shortest 123 = .ok (.irem, 1) := by decide +kernel
theorem d_Md_shortest_124 : decode b_Md_shortest 124 = .ok (.iconst 1, 1) := by decide +kernel
theorem d_Md_shortest_125 : decode b_Md_shortest 125 = .ok (.if_icmp .ne 7, 3) := by decide +kernel
theorem d_Md_shortest_128 : decode b_Md_shortest 128 = .ok (.iconst 1, 1) := by decide +kernel
theorem d_Md_shortest_129 : decode b_Md_shortest 129 = .ok (.goto 4, 3) := by decide +kernel
theorem d_Md_shortest_132 : decode b_Md_shortest 132 = .ok (.iconst 0, 1) := by decide +kernel
theorem d_Md_shortest_133 : decode b_Md_shortest 133 = .ok (.istore 12, 2) := by decide +kernel
theorem d_Md_shortest_135 : decode b_Md_shortest 135 = .ok (.aload_n 0, 1) := by decide +kernel
theorem d_Md_shortest_136 : decode b_Md_shortest 136 = .ok (.iconst 0, 1) := by decide +kernel
theorem d_Md_shortest_137 : decode b_Md_shortest 137 = .ok (.iconst 3, 1) := by decide +kernel
theorem d_Md_shortest_138 : decode b_Md_shortest 138 = .ok (.iload 7, 2) := by decide +kernel
theorem d_Md_shortest_140 : decode b_Md_shortest 140 = .ok (.iload 8, 2) := by decide +kernel
theorem d_Md_shortest_142 : decode b_Md_shortest 142 = .ok (.ifCond .eq 13, 3) := by decide +kernel
theorem d_Md_shortest_145 : decode b_Md_shortest 145 = .ok (.iload 9, 2) := by decide +kernel
theorem d_Md_shortest_147 : decode b_Md_shortest 147 = .ok (.ifCond .eq 8, 3) := by decide +kernel
theorem d_Md_shortest_150 : decode b_Md_shortest 150 = .ok (.iload 12, 2) := by decide +kernel
theorem d_Md_shortest_152 : decode b_Md_shortest 152 = .ok (.goto 5, 3) := by decide +kernel
theorem d_Md_shortest_155 : decode b_Md_shortest 155 = .ok (.iload 9, 2) := by decide +kernel
theorem d_Md_shortest_157 : decode b_Md_shortest 157 = .ok (.invokevirtual 135, 3) := by decide +kernel
theorem d_Md_shortest_160 : decode b_Md_shortest 160 = .ok (.iload 7, 2) := by decide +kernel
theorem d_Md_shortest_162 : decode b_Md_shortest 162 = .ok (.istore 6, 2) := by decide +kernel
theorem d_Md_shortest_164 : decode b_Md_shortest 164 = .ok (.goto (-137), 3) := by decide +kernel
theorem d_Md_shortest_167 : decode b_Md_shortest 167 = .ok (.return_, 1) := by decide +kernel
theorem d_Md_put_0 : decode b_Md_put 0 = .ok (.aload_n 0, 1) := by decide +kernel
theorem d_Md_put_1 : decode b_Md_put 1 = .ok (.getfield 42, 3) := by decide +kernel
theorem d_Md_put_4 : decode b_Md_put 4 = .ok (.aload_n 0, 1) := by decide +kernel
theorem d_Md_put_5 : decode b_Md_put 5 = .ok (.getfield 145, 3) := by decide +kernel
theorem d_Md_put_8 : decode b_Md_put 8 = .ok (.iload_n 1, 1) := by decide +kernel
theorem d_Md_put_9 : decode b_Md_put 9 = .ok (.iastore, 1) := by decide +kernel
theorem d_Md_put_10 : decode b_Md_put 10 = .ok (.aload_n 0, 1) := by decide +kernel
theorem d_Md_put_11 : decode b_Md_put 11 = .ok (.dup, 1) := by decide +kernel
theorem d_Md_put_12 : decode b_Md_put 12 = .ok (.getfield 145, 3) := by decide +kernel
theorem d_Md_put_15 : decode b_Md_put 15 = .ok (.iconst 1, 1) := by decide +kernel
theorem d_Md_put_16 : decode b_Md_put 16 = .ok (.iadd, 1) := by decide +kernel
theorem d_Md_put_17 : decode b_Md_put 17 = .ok (.putfield 145, 3) := by decide +kernel
theorem d_Md_put_20 : decode b_Md_put 20 = .ok (.return_, 1) := by decide +kernel
theorem d_Md_putZeros_0 : decode b_Md_putZeros 0 = .ok (.iconst 0, 1) := by decide +kernel
theorem d_Md_putZeros_1 : decode b_Md_putZeros 1 = .ok (.istore_n 2, 1) := by decide +kernel
theorem d_Md_putZeros_2 : decode b_Md_putZeros 2 = .ok (.iload_n 2, 1) := by decide +kernel
theorem d_Md_putZeros_3 : decode b_Md_putZeros 3 = .ok (.iload_n 1, 1) := by decide +kernel
theorem d_Md_putZeros_4 : decode b_Md_putZeros 4 = .ok (.if_icmp .ge 15, 3) := by decide +kernel
theorem d_Md_putZeros_7 : decode b_Md_putZeros 7 = .ok (.aload_n 0, 1) := by decide +kernel
theorem d_Md_putZeros_8 : decode b_Md_putZeros 8 = .ok (.bipush 48, 2) := by decide +kernel
theorem d_Md_putZeros_10 : decode b_Md_putZeros 10 = .ok (.invokevirtual 148, 3) := by decide +kernel
theorem d_Md_putZeros_13 : decode b_Md_putZeros 13 = .ok (.iinc 2 1, 3) := by decide +kernel
theorem d_Md_putZeros_16 : decode b_Md_putZeros 16 = .ok (.goto (-14), 3) := by decide +kernel
theorem d_Md_putZeros_19 : decode b_Md_putZeros 19 = .ok (.return_, 1) := by decide +kernel
theorem d_Md_putDigits_0 : decode b_Md_putDigits 0 = .ok (.iload_n 2, 1) := by decide +kernel
theorem d_Md_putDigits_1 : decode b_Md_putDigits 1 = .ok (.istore 4, 2) := by decide +kernel
theorem d_Md_putDigits_3 : decode b_Md_putDigits 3 = .ok (.iload 4, 2) := by decide +kernel
theorem d_Md_putDigits_5 : decode b_Md_putDigits 5 = .ok (.iload_n 3, 1) := by decide +kernel
theorem d_Md_putDigits_6 : decode b_Md_putDigits 6 = .ok (.if_icmp .ge 44, 3) := by decide +kernel
theorem d_Md_putDigits_9 : decode b_Md_putDigits 9 = .ok (.aload_n 0, 1) := by decide +kernel
theorem d_Md_putDigits_10 : decode b_Md_putDigits 10 = .ok (.bipush 48, 2) := by decide +kernel
theorem d_Md_putDigits_12 : decode b_Md_putDigits 12 = .ok (.iload 4, 2) := by decide +kernel
theorem d_Md_putDigits_14 : decode b_Md_putDigits 14 = .ok (.aload_n 0, 1) := by decide +kernel
theorem d_Md_putDigits_15 : decode b_Md_putDigits 15 = .ok (.getfield 20, 3) := by decide +kernel
theorem d_Md_putDigits_18 : decode b_Md_putDigits 18 = .ok (.iload_n 1, 1) := by decide +kernel
theorem d_Md_putDigits_19 : decode b_Md_putDigits 19 = .ok (.iaload, 1) := by decide +kernel
theorem d_Md_putDigits_20 : decode b_Md_putDigits 20 = .ok (.if_icmp .ge 19, 3) := by decide +kernel
theorem d_Md_putDigits_23 : decode b_Md_putDigits 23 = .ok (.aload_n 0, 1) := by decide +kernel
theorem d_Md_putDigits_24 : decode b_Md_putDigits 24 = .ok (.getfield 17, 3) := by decide +kernel
theorem d_Md_putDigits_27 : decode b_Md_putDigits 27 = .ok (.sipush 1300, 3) := by decide +kernel
theorem d_Md_putDigits_30 : decode b_Md_putDigits 30 = .ok (.iload_n 1, 1) := by decide +kernel
theorem d_Md_putDigits_31 : decode b_Md_putDigits 31 = .ok (.imul, 1) := by decide +kernel
theorem d_Md_putDigits_32 : decode b_Md_putDigits 32 = .ok (.iload 4, 2) := by decide +kernel
theorem d_Md_putDigits_34 : decode b_Md_putDigits 34 = .ok (.iadd, 1) := by decide +kernel
theorem d_Md_putDigits_35 : decode b_Md_putDigits 35 = .ok (.iaload, 1) := by decide +kernel
theorem d_Md_putDigits_36 : decode b_Md_putDigits 36 = .ok (.goto 4, 3) := by decide +kernel
theorem d_Md_putDigits_39 : decode b_Md_putDigits 39 = .ok (.iconst 0, 1) := by decide +kernel
theorem d_Md_putDigits_40 : decode b_Md_putDigits 40 = .ok (.iadd, 1) := by decide +kernel
theorem d_Md_putDigits_41 : decode b_Md_putDigits 41 = .ok (.invokevirtual 148, 3) := by decide +kernel
theorem d_Md_putDigits_44 : decode b_Md_putDigits 44 = .ok (.iinc 4 1, 3) := by decide +kernel
theorem d_Md_putDigits_47 : decode b_Md_putDigits 47 = .ok (.goto (-44), 3) := by decide +kernel
theorem d_Md_putDigits_50 : decode b_Md_putDigits 50 = .ok (.return_, 1) := by decide +kernel
theorem d_Md_sign_0 : decode b_Md_sign 0 = .ok (.aload_n 0, 1) := by decide +kernel
theorem d_Md_sign_1 : decode b_Md_sign 1 = .ok (.iconst 0, 1) := by decide +kernel
theorem d_Md_sign_2 : decode b_Md_sign 2 = .ok (.putfield 145, 3) := by decide +kernel
theorem d_Md_sign_5 : decode b_Md_sign 5 = .ok (.lload_n 1, 1) := by decide +kernel
theorem d_Md_sign_6 : decode b_Md_sign 6 = .ok (.lconst 0, 1) := by decide +kernel
theorem d_Md_sign_7 : decode b_Md_sign 7 = .ok (.lcmp, 1) := by decide +kernel
theorem d_Md_sign_8 : decode b_Md_sign 8 = .ok (.ifCond .ge 9, 3) := by decide +kernel
theorem d_Md_sign_11 : decode b_Md_sign 11 = .ok (.aload_n 0, 1) := by decide +kernel
theorem d_Md_sign_12 : decode b_Md_sign 12 = .ok (.bipush 45, 2) := by decide +kernel
theorem d_Md_sign_14 : decode b_Md_sign 14 = .ok (.invokevirtual 148, 3) := by decide +kernel
theorem d_Md_sign_17 : decode b_Md_sign 17 = .ok (.return_, 1) := by decide +kernel
theorem d_Md_special_0 : decode b_Md_special 0 = .ok (.aload_n 0, 1) := by decide +kernel
theorem d_Md_special_1 : decode b_Md_special 1 = .ok (.iconst 0, 1) := by decide +kernel
theorem d_Md_special_2 : decode b_Md_special 2 = .ok (.putfield 145, 3) := by decide +kernel
theorem d_Md_special_5 : decode b_Md_special 5 = .ok (.lload_n 1, 1) := by decide +kernel
theorem d_Md_special_6 : decode b_Md_special 6 = .ok (.ldc2_w 139, 3) := by decide +kernel
theorem d_Md_special_9 : decode b_Md_special 9 = .ok (.land, 1) := by decide +kernel
theorem d_Md_special_10 : decode b_Md_special 10 = .ok (.lstore_n 3, 1) := by decide +kernel
theorem d_Md_special_11 : decode b_Md_special 11 = .ok (.lload_n 3, 1) := by decide +kernel
theorem d_Md_special_12 : decode b_Md_special 12 = .ok (.ldc2_w 116, 3) := by decide +kernel
theorem d_Md_special_15 : decode b_Md_special 15 = .ok (.lcmp, 1) := by decide +kernel
theorem d_Md_special_16 : decode b_Md_special 16 = .ok (.ifCond .ge 10, 3) := by decide +kernel
theorem d_Md_special_19 : decode b_Md_special 19 = .ok (.aload_n 0, 1) := by decide +kernel
theorem d_Md_special_20 : decode b_Md_special 20 = .ok (.lload_n 1, 1) := by decide +kernel
theorem d_Md_special_21 : decode b_Md_special 21 = .ok (.invokevirtual 151, 3) := by decide +kernel
theorem d_Md_special_24 : decode b_Md_special 24 = .ok (.iconst 0, 1) := by decide +kernel
theorem d_Md_special_25 : decode b_Md_special 25 = .ok (.ireturn, 1) := by decide +kernel
theorem d_Md_special_26 : decode b_Md_special 26 = .ok (.lload_n 3, 1) := by decide +kernel
theorem d_Md_special_27 : decode b_Md_special 27 = .ok (.ldc2_w 116, 3) := by decide +kernel
theorem d_Md_special_30 : decode b_Md_special 30 = .ok (.lcmp, 1) := by decide +kernel
theorem d_Md_special_31 : decode b_Md_special 31 = .ok (.ifCond .le 23, 3) := by decide +kernel
theorem d_Md_special_34 : decode b_Md_special 34 = .ok (.aload_n 0, 1) := by decide +kernel
theorem d_Md_special_35 : decode b_Md_special 35 = .ok (.bipush 110, 2) := by decide +kernel
theorem d_Md_special_37 : decode b_Md_special 37 = .ok (.invokevirtual 148, 3) := by decide +kernel
theorem d_Md_special_40 : decode b_Md_special 40 = .ok (.aload_n 0, 1) := by decide +kernel
theorem d_Md_special_41 : decode b_Md_special 41 = .ok (.bipush 97, 2) := by decide +kernel
theorem d_Md_special_43 : decode b_Md_special 43 = .ok (.invokevirtual 148, 3) := by decide +kernel
theorem d_Md_special_46 : decode b_Md_special 46 = .ok (.aload_n 0, 1) := by decide +kernel
theorem d_Md_special_47 : decode b_Md_special 47 = .ok (.bipush 110, 2) := by decide +kernel
theorem d_Md_special_49 : decode b_Md_special 49 = .ok (.invokevirtual 148, 3) := by decide +kernel
theorem d_Md_special_52 : decode b_Md_special 52 = .ok (.iconst 1, 1) := by decide +kernel
theorem d_Md_special_53 : decode b_Md_special 53 = .ok (.ireturn, 1) := by decide +kernel
theorem d_Md_special_54 : decode b_Md_special 54 = .ok (.aload_n 0, 1) := by decide +kernel
theorem d_Md_special_55 : decode b_Md_special 55 = .ok (.lload_n 1, 1) := by decide +kernel
theorem d_Md_special_56 : decode b_Md_special 56 = .ok (.invokevirtual 151, 3) := by decide +kernel
theorem d_Md_special_59 : decode b_Md_special 59 = .ok (.aload_n 0, 1) := by decide +kernel
theorem d_Md_special_60 : decode b_Md_special 60 = .ok (.bipush 105, 2) := by decide +kernel
theorem d_Md_special_62 : decode b_Md_special 62 = .ok (.invokevirtual 148, 3) := by decide +kernel
theorem d_Md_special_65 : decode b_Md_special 65 = .ok (.aload_n 0, 1) := by decide +kernel
theorem d_Md_special_66 : decode b_Md_special 66 = .ok (.bipush 110, 2) := by decide +kernel
theorem d_Md_special_68 : decode b_Md_special 68 = .ok (.invokevirtual 148, 3) := by decide +kernel
theorem d_Md_special_71 : decode b_Md_special 71 = .ok (.aload_n 0, 1) := by decide +kernel
theorem d_Md_special_72 : decode b_Md_special 72 = .ok (.bipush 102, 2) := by decide +kernel
theorem d_Md_special_74 : decode b_Md_special 74 = .ok (.invokevirtual 148, 3) := by decide +kernel
theorem d_Md_special_77 : decode b_Md_special 77 = .ok (.iconst 1, 1) := by decide +kernel
theorem d_Md_special_78 : decode b_Md_special 78 = .ok (.ireturn, 1) := by decide +kernel
theorem d_Md_scientific_0 : decode b_Md_scientific 0 = .ok (.aload_n 0, 1) := by decide +kernel
theorem d_Md_scientific_1 : decode b_Md_scientific 1 = .ok (.iload_n 1, 1) := by decide +kernel
theorem d_Md_scientific_2 : decode b_Md_scientific 2 = .ok (.iconst 0, 1) := by decide +kernel
theorem d_Md_scientific_3 : decode b_Md_scientific 3 = .ok (.iconst 1, 1) := by decide +kernel
theorem d_Md_scientific_4 : decode b_Md_scientific 4 = .ok (.invokevirtual 155, 3) := by decide +kernel
theorem d_Md_scientific_7 : decode b_Md_scientific 7 = .ok (.aload_n 0, 1) := by decide +kernel
theorem d_Md_scientific_8 : decode b_Md_scientific 8 = .ok (.getfield 20, 3) := by decide +kernel
theorem d_Md_scientific_11 : decode b_Md_scientific 11 = .ok (.iload_n 1, 1) := by decide +kernel
theorem d_Md_scientific_12 : decode b_Md_scientific 12 = .ok (.iaload, 1) := by decide +kernel
theorem d_Md_scientific_13 : decode b_Md_scientific 13 = .ok (.iconst 1, 1) := by decide +kernel
theorem d_Md_scientific_14 : decode b_Md_scientific 14 = .ok (.if_icmp .le 21, 3) := by decide +kernel
theorem d_Md_scientific_17 : decode b_Md_scientific 17 = .ok (.aload_n 0, 1) := by decide +kernel
