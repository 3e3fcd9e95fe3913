theorem d_Md_layout_102 : decode b_Md_layout 102 = .ok (.aload_n 0, 1) := by decide +kernel
theorem d_Md_layout_103 : decode b_Md_layout 103 = .ok (.getfield 29, 3) := by decide +kernel
theorem d_Md_layout_106 : decode b_Md_layout 106 = .ok (.if_icmp .ge 48, 3) := by decide +kernel
theorem d_Md_layout_109 : decode b_Md_layout 109 = .ok (.aload_n 0, 1) := by decide +kernel
theorem d_Md_layout_110 : decode b_Md_layout 110 = .ok (.aload_n 0, 1) := by decide +kernel
theorem d_Md_layout_111 : decode b_Md_layout 111 = .ok (.getfield 35, 3) := by decide +kernel
theorem d_Md_layout_114 : decode b_Md_layout 114 = .ok (.bipush 8, 2) := by decide +kernel
theorem d_Md_layout_116 : decode b_Md_layout 116 = .ok (.iload 6, 2) := by decide +kernel
theorem d_Md_layout_118 : decode b_Md_layout 118 = .ok (.imul, 1) := by decide +kernel
theorem d_Md_layout_119 : decode b_Md_layout 119 = .ok (.iload_n 3, 1) := by decide +kernel
theorem d_Md_layout_120 : decode b_Md_layout 120 = .ok (.iadd, 1) := by decide +kernel
theorem d_Md_layout_121 : decode b_Md_layout 121 = .ok (.laload, 1) := by decide +kernel
theorem d_Md_layout_122 : decode b_Md_layout 122 = .ok (.iload_n 1, 1) := by decide +kernel
theorem d_Md_layout_123 : decode b_Md_layout 123 = .ok (.iload 4, 2) := by decide +kernel
theorem d_Md_layout_125 : decode b_Md_layout 125 = .ok (.invokevirtual 201, 3) := by decide +kernel
theorem d_Md_layout_128 : decode b_Md_layout 128 = .ok (.aload_n 0, 1) := by decide +kernel
theorem d_Md_layout_129 : decode b_Md_layout 129 = .ok (.getfield 145, 3) := by decide +kernel
theorem d_Md_layout_132 : decode b_Md_layout 132 = .ok (.iload 5, 2) := by decide +kernel
theorem d_Md_layout_134 : decode b_Md_layout 134 = .ok (.if_icmp .le 10, 3) := by decide +kernel
theorem d_Md_layout_137 : decode b_Md_layout 137 = .ok (.aload_n 0, 1) := by decide +kernel
theorem d_Md_layout_138 : decode b_Md_layout 138 = .ok (.getfield 145, 3) := by decide +kernel
theorem d_Md_layout_141 : decode b_Md_layout 141 = .ok (.goto 5, 3) := by decide +kernel
theorem d_Md_layout_144 : decode b_Md_layout 144 = .ok (.iload 5, 2) := by decide +kernel
theorem d_Md_layout_146 : decode b_Md_layout 146 = .ok (.istore 5, 2) := by decide +kernel
theorem d_Md_layout_148 : decode b_Md_layout 148 = .ok (.iinc 6 1, 3) := by decide +kernel
theorem d_Md_layout_151 : decode b_Md_layout 151 = .ok (.goto (-51), 3) := by decide +kernel
theorem d_Md_layout_154 : decode b_Md_layout 154 = .ok (.iconst 0, 1) := by decide +kernel
theorem d_Md_layout_155 : decode b_Md_layout 155 = .ok (.istore 6, 2) := by decide +kernel
theorem d_Md_layout_157 : decode b_Md_layout 157 = .ok (.iload 6, 2) := by decide +kernel
theorem d_Md_layout_159 : decode b_Md_layout 159 = .ok (.aload_n 0, 1) := by decide +kernel
theorem d_Md_layout_160 : decode b_Md_layout 160 = .ok (.getfield 29, 3) := by decide +kernel
theorem d_Md_layout_163 : decode b_Md_layout 163 = .ok (.if_icmp .ge 92, 3) := by decide +kernel
theorem d_Md_layout_166 : decode b_Md_layout 166 = .ok (.aload_n 0, 1) := by decide +kernel
theorem d_Md_layout_167 : decode b_Md_layout 167 = .ok (.aload_n 0, 1) := by decide +kernel
theorem d_Md_layout_168 : decode b_Md_layout 168 = .ok (.getfield 35, 3) := by decide +kernel
theorem d_Md_layout_171 : decode b_Md_layout 171 = .ok (.bipush 8, 2) := by decide +kernel
theorem d_Md_layout_173 : decode b_Md_layout 173 = .ok (.iload 6, 2) := by decide +kernel
theorem d_Md_layout_175 : decode b_Md_layout 175 = .ok (.imul, 1) := by decide +kernel
theorem d_Md_layout_176 : decode b_Md_layout 176 = .ok (.iload_n 3, 1) := by decide +kernel
theorem d_Md_layout_177 : decode b_Md_layout 177 = .ok (.iadd, 1) := by decide +kernel
theorem d_Md_layout_178 : decode b_Md_layout 178 = .ok (.laload, 1) := by decide +kernel
theorem d_Md_layout_179 : decode b_Md_layout 179 = .ok (.iload_n 1, 1) := by decide +kernel
theorem d_Md_layout_180 : decode b_Md_layout 180 = .ok (.iload 4, 2) := by decide +kernel
theorem d_Md_layout_182 : decode b_Md_layout 182 = .ok (.invokevirtual 201, 3) := by decide +kernel
theorem d_Md_layout_185 : decode b_Md_layout 185 = .ok (.iconst 0, 1) := by decide +kernel
theorem d_Md_layout_186 : decode b_Md_layout 186 = .ok (.istore 7, 2) := by decide +kernel
theorem d_Md_layout_188 : decode b_Md_layout 188 = .ok (.iload 7, 2) := by decide +kernel
theorem d_Md_layout_190 : decode b_Md_layout 190 = .ok (.iload 5, 2) := by decide +kernel
theorem d_Md_layout_192 : decode b_Md_layout 192 = .ok (.if_icmp .ge 57, 3) := by decide +kernel
theorem d_Md_layout_195 : decode b_Md_layout 195 = .ok (.aload_n 0, 1) := by decide +kernel
theorem d_Md_layout_196 : decode b_Md_layout 196 = .ok (.getfield 39, 3) := by decide +kernel
theorem d_Md_layout_199 : decode b_Md_layout 199 = .ok (.sipush 1200, 3) := by decide +kernel
theorem d_Md_layout_202 : decode b_Md_layout 202 = .ok (.iload 6, 2) := by decide +kernel
theorem d_Md_layout_204 : decode b_Md_layout 204 = .ok (.imul, 1) := by decide +kernel
theorem d_Md_layout_205 : decode b_Md_layout 205 = .ok (.iload_n 2, 1) := by decide +kernel
theorem d_Md_layout_206 : decode b_Md_layout 206 = .ok (.iadd, 1) := by decide +kernel
theorem d_Md_layout_207 : decode b_Md_layout 207 = .ok (.iload 7, 2) := by decide +kernel
theorem d_Md_layout_209 : decode b_Md_layout 209 = .ok (.iadd, 1) := by decide +kernel
theorem d_Md_layout_210 : decode b_Md_layout 210 = .ok (.iload 7, 2) := by decide +kernel
theorem d_Md_layout_212 : decode b_Md_layout 212 = .ok (.iload 5, 2) := by decide +kernel
theorem d_Md_layout_214 : decode b_Md_layout 214 = .ok (.aload_n 0, 1) := by decide +kernel
theorem d_Md_layout_215 : decode b_Md_layout 215 = .ok (.getfield 145, 3) := by decide +kernel
theorem d_Md_layout_218 : decode b_Md_layout 218 = .ok (.isub, 1) := by decide +kernel
theorem d_Md_layout_219 : decode b_Md_layout 219 = .ok (.if_icmp .ge 8, 3) := by decide +kernel
theorem d_Md_layout_222 : decode b_Md_layout 222 = .ok (.bipush 32, 2) := by decide +kernel
theorem d_Md_layout_224 : decode b_Md_layout 224 = .ok (.goto 18, 3) := by decide +kernel
theorem d_Md_layout_227 : decode b_Md_layout 227 = .ok (.aload_n 0, 1) := by decide +kernel
theorem d_Md_layout_228 : decode b_Md_layout 228 = .ok (.getfield 42, 3) := by decide +kernel
theorem d_Md_layout_231 : decode b_Md_layout 231 = .ok (.iload 7, 2) := by decide +kernel
theorem d_Md_layout_233 : decode b_Md_layout 233 = .ok (.iload 5, 2) := by decide +kernel
theorem d_Md_layout_235 : decode b_Md_layout 235 = .ok (.isub, 1) := by decide +kernel
theorem d_Md_layout_236 : decode b_Md_layout 236 = .ok (.aload_n 0, 1) := by decide +kernel
theorem d_Md_layout_237 : decode b_Md_layout 237 = .ok (.getfield 145, 3) := by decide +kernel
theorem d_Md_layout_240 : decode b_Md_layout 240 = .ok (.iadd, 1) := by decide +kernel
theorem d_Md_layout_241 : decode b_Md_layout 241 = .ok (.iaload, 1) := by decide +kernel
theorem d_Md_layout_242 : decode b_Md_layout 242 = .ok (.iastore, 1) := by decide +kernel
theorem d_Md_layout_243 : decode b_Md_layout 243 = .ok (.iinc 7 1, 3) := by decide +kernel
theorem d_Md_layout_246 : decode b_Md_layout 246 = .ok (.goto (-58), 3) := by decide +kernel
theorem d_Md_layout_249 : decode b_Md_layout 249 = .ok (.iinc 6 1, 3) := by decide +kernel
theorem d_Md_layout_252 : decode b_Md_layout 252 = .ok (.goto (-95), 3) := by decide +kernel
theorem d_Md_layout_255 : decode b_Md_layout 255 = .ok (.iload_n 2, 1) := by decide +kernel
theorem d_Md_layout_256 : decode b_Md_layout 256 = .ok (.iload 5, 2) := by decide +kernel
theorem d_Md_layout_258 : decode b_Md_layout 258 = .ok (.iadd, 1) := by decide +kernel
theorem d_Md_layout_259 : decode b_Md_layout 259 = .ok (.istore_n 2, 1) := by decide +kernel
theorem d_Md_layout_260 : decode b_Md_layout 260 = .ok (.iinc 3 1, 3) := by decide +kernel
theorem d_Md_layout_263 : decode b_Md_layout 263 = .ok (.goto (-243), 3) := by decide +kernel
theorem d_Md_layout_266 : decode b_Md_layout 266 = .ok (.aload_n 0, 1) := by decide +kernel
theorem d_Md_layout_267 : decode b_Md_layout 267 = .ok (.iload_n 2, 1) := by decide +kernel
theorem d_Md_layout_268 : decode b_Md_layout 268 = .ok (.putfield 192, 3) := by decide +kernel
theorem d_Md_layout_271 : decode b_Md_layout 271 = .ok (.aload_n 0, 1) := by decide +kernel
theorem d_Md_layout_272 : decode b_Md_layout 272 = .ok (.getfield 192, 3) := by decide +kernel
theorem d_Md_layout_275 : decode b_Md_layout 275 = .ok (.ireturn, 1) := by decide +kernel
theorem d_Md_shown_0 : decode b_Md_shown 0 = .ok (.aload_n 0, 1) := by decide +kernel
theorem d_Md_shown_1 : decode b_Md_shown 1 = .ok (.iconst 0, 1) := by decide +kernel
theorem d_Md_shown_2 : decode b_Md_shown 2 = .ok (.putfield 45, 3) := by decide +kernel
theorem d_Md_shown_5 : decode b_Md_shown 5 = .ok (.iload_n 1, 1) := by decide +kernel
theorem d_Md_shown_6 : decode b_Md_shown 6 = .ok (.iconst 0, 1) := by decide +kernel
theorem d_Md_shown_7 : decode b_Md_shown 7 = .ok (.aload_n 0, 1) := by decide +kernel
theorem d_Md_shown_8 : decode b_Md_shown 8 = .ok (.getfield 29, 3) := by decide +kernel
theorem d_Md_shown_11 : decode b_Md_shown 11 = .ok (.iconst 1, 1) := by decide +kernel
theorem d_Md_shown_12 : decode b_Md_shown 12 = .ok (.isub, 1) := by decide +kernel
theorem d_Md_shown_13 : decode b_Md_shown 13 = .ok (.invokestatic 88, 3) := by decide +kernel
theorem d_Md_shown_16 : decode b_Md_shown 16 = .ok (.ifCond .eq 32, 3) := by decide +kernel
theorem d_Md_shown_19 : decode b_Md_shown 19 = .ok (.iload_n 2, 1) := by decide +kernel
theorem d_Md_shown_20 : decode b_Md_shown 20 = .ok (.iconst 0, 1) := by decide +kernel
theorem d_Md_shown_21 : decode b_Md_shown 21 = .ok (.aload_n 0, 1) := by decide +kernel
theorem d_Md_shown_22 : decode b_Md_shown 22 = .ok (.getfield 192, 3) := by decide +kernel
theorem d_Md_shown_25 : decode b_Md_shown 25 = .ok (.iconst 1, 1) := by decide +kernel
theorem d_Md_shown_26 : decode b_Md_shown 26 = .ok (.isub, 1) := by decide +kernel
theorem d_Md_shown_27 : decode b_Md_shown 27 = .ok (.invokestatic 88, 3) := by decide +kernel
theorem d_Md_shown_30 : decode b_Md_shown 30 = .ok (.ifCond .eq 18, 3) := by decide +kernel
theorem d_Md_shown_33 : decode b_Md_shown 33 = .ok (.aload_n 0, 1) := by decide +kernel
theorem d_Md_shown_34 : decode b_Md_shown 34 = .ok (.getfield 39, 3) := by decide +kernel
theorem d_Md_shown_37 : decode b_Md_shown 37 = .ok (.sipush 1200, 3) := by decide +kernel
theorem d_Md_shown_40 : decode b_Md_shown 40 = .ok (.iload_n 1, 1) := by decide +kernel
theorem d_Md_shown_41 : decode b_Md_shown 41 = .ok (.imul, 1) := by decide +kernel
theorem d_Md_shown_42 : decode b_Md_shown 42 = .ok (.iload_n 2, 1) := by decide +kernel
theorem d_Md_shown_43 : decode b_Md_shown 43 = .ok (.iadd, 1) := by decide +kernel
theorem d_Md_shown_44 : decode b_Md_shown 44 = .ok (.iaload, 1) := by decide +kernel
theorem d_Md_shown_45 : decode b_Md_shown 45 = .ok (.goto 4, 3) := by decide +kernel
theorem d_Md_shown_48 : decode b_Md_shown 48 = .ok (.iconst (-1), 1) := by decide +kernel
theorem d_Md_shown_49 : decode b_Md_shown 49 = .ok (.ireturn, 1) := by decide +kernel
