theorem d_law_150 : decode code 150 = .ok (.iconst 2, 1) := by decide +kernel
theorem d_law_151 : decode code 151 = .ok (.iadd, 1) := by decide +kernel
theorem d_law_152 : decode code 152 = .ok (.iaload, 1) := by decide +kernel
theorem d_law_153 : decode code 153 = .ok (.i2l, 1) := by decide +kernel
theorem d_law_154 : decode code 154 = .ok (.ldc2_w 40, 3) := by decide +kernel
theorem d_law_157 : decode code 157 = .ok (.land, 1) := by decide +kernel
theorem d_law_158 : decode code 158 = .ok (.lor, 1) := by decide +kernel
theorem d_law_159 : decode code 159 = .ok (.aload_n 0, 1) := by decide +kernel
theorem d_law_160 : decode code 160 = .ok (.iload 4, 2) := by decide +kernel
theorem d_law_162 : decode code 162 = .ok (.iconst 3, 1) := by decide +kernel
theorem d_law_163 : decode code 163 = .ok (.iadd, 1) := by decide +kernel
theorem d_law_164 : decode code 164 = .ok (.iaload, 1) := by decide +kernel
theorem d_law_165 : decode code 165 = .ok (.invokevirtual 45, 3) := by decide +kernel
theorem d_law_168 : decode code 168 = .ok (.if_icmp .eq 646, 3) := by decide +kernel
theorem d_law_171 : decode code 171 = .ok (.iconst 0, 1) := by decide +kernel
theorem d_law_172 : decode code 172 = .ok (.ireturn, 1) := by decide +kernel
theorem d_law_173 : decode code 173 = .ok (.aload_n 1, 1) := by decide +kernel
theorem d_law_174 : decode code 174 = .ok (.invokevirtual 46, 3) := by decide +kernel
theorem d_law_177 : decode code 177 = .ok (.aload_n 2, 1) := by decide +kernel
theorem d_law_178 : decode code 178 = .ok (.invokevirtual 50, 3) := by decide +kernel
theorem d_law_181 : decode code 181 = .ok (.if_icmp .eq 633, 3) := by decide +kernel
theorem d_law_184 : decode code 184 = .ok (.iconst 0, 1) := by decide +kernel
theorem d_law_185 : decode code 185 = .ok (.ireturn, 1) := by decide +kernel
theorem d_law_186 : decode code 186 = .ok (.aload_n 1, 1) := by decide +kernel
theorem d_law_187 : decode code 187 = .ok (.aload_n 0, 1) := by decide +kernel
theorem d_law_188 : decode code 188 = .ok (.iload 4, 2) := by decide +kernel
theorem d_law_190 : decode code 190 = .ok (.iconst 1, 1) := by decide +kernel
theorem d_law_191 : decode code 191 = .ok (.iadd, 1) := by decide +kernel
theorem d_law_192 : decode code 192 = .ok (.iaload, 1) := by decide +kernel
theorem d_law_193 : decode code 193 = .ok (.invokevirtual 51, 3) := by decide +kernel
theorem d_law_196 : decode code 196 = .ok (.aload_n 2, 1) := by decide +kernel
theorem d_law_197 : decode code 197 = .ok (.aload_n 0, 1) := by decide +kernel
theorem d_law_198 : decode code 198 = .ok (.iload 4, 2) := by decide +kernel
theorem d_law_200 : decode code 200 = .ok (.iconst 1, 1) := by decide +kernel
theorem d_law_201 : decode code 201 = .ok (.iadd, 1) := by decide +kernel
theorem d_law_202 : decode code 202 = .ok (.iaload, 1) := by decide +kernel
theorem d_law_203 : decode code 203 = .ok (.invokevirtual 54, 3) := by decide +kernel
theorem d_law_206 : decode code 206 = .ok (.if_icmp .eq 608, 3) := by decide +kernel
theorem d_law_209 : decode code 209 = .ok (.iconst 0, 1) := by decide +kernel
theorem d_law_210 : decode code 210 = .ok (.ireturn, 1) := by decide +kernel
theorem d_law_211 : decode code 211 = .ok (.aload_n 1, 1) := by decide +kernel
theorem d_law_212 : decode code 212 = .ok (.aload_n 3, 1) := by decide +kernel
theorem d_law_213 : decode code 213 = .ok (.invokestatic 55, 3) := by decide +kernel
theorem d_law_216 : decode code 216 = .ok (.istore 5, 2) := by decide +kernel
theorem d_law_218 : decode code 218 = .ok (.aload_n 2, 1) := by decide +kernel
theorem d_law_219 : decode code 219 = .ok (.invokevirtual 60, 3) := by decide +kernel
theorem d_law_222 : decode code 222 = .ok (.lstore 6, 2) := by decide +kernel
theorem d_law_224 : decode code 224 = .ok (.aload_n 2, 1) := by decide +kernel
theorem d_law_225 : decode code 225 = .ok (.invokevirtual 61, 3) := by decide +kernel
theorem d_law_228 : decode code 228 = .ok (.iload 5, 2) := by decide +kernel
theorem d_law_230 : decode code 230 = .ok (.if_icmp .eq 5, 3) := by decide +kernel
theorem d_law_233 : decode code 233 = .ok (.iconst 0, 1) := by decide +kernel
theorem d_law_234 : decode code 234 = .ok (.ireturn, 1) := by decide +kernel
theorem d_law_235 : decode code 235 = .ok (.iload 5, 2) := by decide +kernel
theorem d_law_237 : decode code 237 = .ok (.ifCond .ne 14, 3) := by decide +kernel
theorem d_law_240 : decode code 240 = .ok (.aload_n 3, 1) := by decide +kernel
theorem d_law_241 : decode code 241 = .ok (.iconst 0, 1) := by decide +kernel
theorem d_law_242 : decode code 242 = .ok (.laload, 1) := by decide +kernel
theorem d_law_243 : decode code 243 = .ok (.lload 6, 2) := by decide +kernel
theorem d_law_245 : decode code 245 = .ok (.lcmp, 1) := by decide +kernel
