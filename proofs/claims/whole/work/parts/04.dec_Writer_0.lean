theorem d_Writer_addsDigits_0 : decode b_Writer_addsDigits 0 = .ok (.lload_n 1, 1) := by decide +kernel
theorem d_Writer_addsDigits_1 : decode b_Writer_addsDigits 1 = .ok (.invokestatic 84, 3) := by decide +kernel
theorem d_Writer_addsDigits_4 : decode b_Writer_addsDigits 4 = .ok (.ifCond .eq 15, 3) := by decide +kernel
theorem d_Writer_addsDigits_7 : decode b_Writer_addsDigits 7 = .ok (.aload_n 0, 1) := by decide +kernel
theorem d_Writer_addsDigits_8 : decode b_Writer_addsDigits 8 = .ok (.bipush 110, 2) := by decide +kernel
theorem d_Writer_addsDigits_10 : decode b_Writer_addsDigits 10 = .ok (.bipush 97, 2) := by decide +kernel
theorem d_Writer_addsDigits_12 : decode b_Writer_addsDigits 12 = .ok (.bipush 110, 2) := by decide +kernel
theorem d_Writer_addsDigits_14 : decode b_Writer_addsDigits 14 = .ok (.invokevirtual 88, 3) := by decide +kernel
theorem d_Writer_addsDigits_17 : decode b_Writer_addsDigits 17 = .ok (.iconst 0, 1) := by decide +kernel
theorem d_Writer_addsDigits_18 : decode b_Writer_addsDigits 18 = .ok (.ireturn, 1) := by decide +kernel
theorem d_Writer_addsDigits_19 : decode b_Writer_addsDigits 19 = .ok (.lload_n 1, 1) := by decide +kernel
theorem d_Writer_addsDigits_20 : decode b_Writer_addsDigits 20 = .ok (.lconst 0, 1) := by decide +kernel
theorem d_Writer_addsDigits_21 : decode b_Writer_addsDigits 21 = .ok (.lcmp, 1) := by decide +kernel
theorem d_Writer_addsDigits_22 : decode b_Writer_addsDigits 22 = .ok (.ifCond .ge 9, 3) := by decide +kernel
theorem d_Writer_addsDigits_25 : decode b_Writer_addsDigits 25 = .ok (.aload_n 0, 1) := by decide +kernel
theorem d_Writer_addsDigits_26 : decode b_Writer_addsDigits 26 = .ok (.bipush 45, 2) := by decide +kernel
theorem d_Writer_addsDigits_28 : decode b_Writer_addsDigits 28 = .ok (.invokevirtual 94, 3) := by decide +kernel
theorem d_Writer_addsDigits_31 : decode b_Writer_addsDigits 31 = .ok (.lload_n 1, 1) := by decide +kernel
theorem d_Writer_addsDigits_32 : decode b_Writer_addsDigits 32 = .ok (.invokestatic 97, 3) := by decide +kernel
theorem d_Writer_addsDigits_35 : decode b_Writer_addsDigits 35 = .ok (.ifCond .ne 15, 3) := by decide +kernel
theorem d_Writer_addsDigits_38 : decode b_Writer_addsDigits 38 = .ok (.aload_n 0, 1) := by decide +kernel
theorem d_Writer_addsDigits_39 : decode b_Writer_addsDigits 39 = .ok (.bipush 105, 2) := by decide +kernel
theorem d_Writer_addsDigits_41 : decode b_Writer_addsDigits 41 = .ok (.bipush 110, 2) := by decide +kernel
theorem d_Writer_addsDigits_43 : decode b_Writer_addsDigits 43 = .ok (.bipush 102, 2) := by decide +kernel
theorem d_Writer_addsDigits_45 : decode b_Writer_addsDigits 45 = .ok (.invokevirtual 88, 3) := by decide +kernel
theorem d_Writer_addsDigits_48 : decode b_Writer_addsDigits 48 = .ok (.iconst 0, 1) := by decide +kernel
theorem d_Writer_addsDigits_49 : decode b_Writer_addsDigits 49 = .ok (.ireturn, 1) := by decide +kernel
theorem d_Writer_addsDigits_50 : decode b_Writer_addsDigits 50 = .ok (.iconst 1, 1) := by decide +kernel
theorem d_Writer_addsDigits_51 : decode b_Writer_addsDigits 51 = .ok (.ireturn, 1) := by decide +kernel
theorem d_Writer_addedZero_0 : decode b_Writer_addedZero 0 = .ok (.lload_n 1, 1) := by decide +kernel
theorem d_Writer_addedZero_1 : decode b_Writer_addedZero 1 = .ok (.invokestatic 100, 3) := by decide +kernel
theorem d_Writer_addedZero_4 : decode b_Writer_addedZero 4 = .ok (.ifCond .eq 9, 3) := by decide +kernel
theorem d_Writer_addedZero_7 : decode b_Writer_addedZero 7 = .ok (.aload_n 0, 1) := by decide +kernel
theorem d_Writer_addedZero_8 : decode b_Writer_addedZero 8 = .ok (.bipush 48, 2) := by decide +kernel
theorem d_Writer_addedZero_10 : decode b_Writer_addedZero 10 = .ok (.invokevirtual 94, 3) := by decide +kernel
theorem d_Writer_addedZero_13 : decode b_Writer_addedZero 13 = .ok (.lload_n 1, 1) := by decide +kernel
theorem d_Writer_addedZero_14 : decode b_Writer_addedZero 14 = .ok (.invokestatic 100, 3) := by decide +kernel
theorem d_Writer_addedZero_17 : decode b_Writer_addedZero 17 = .ok (.ireturn, 1) := by decide +kernel
theorem d_Writer_expand_0 : decode b_Writer_expand 0 = .ok (.aload_n 0, 1) := by decide +kernel
theorem d_Writer_expand_1 : decode b_Writer_expand 1 = .ok (.getfield 9, 3) := by decide +kernel
theorem d_Writer_expand_4 : decode b_Writer_expand 4 = .ok (.lload_n 2, 1) := by decide +kernel
theorem d_Writer_expand_5 : decode b_Writer_expand 5 = .ok (.invokevirtual 103, 3) := by decide +kernel
theorem d_Writer_expand_8 : decode b_Writer_expand 8 = .ok (.aload_n 0, 1) := by decide +kernel
theorem d_Writer_expand_9 : decode b_Writer_expand 9 = .ok (.getfield 9, 3) := by decide +kernel
theorem d_Writer_expand_12 : decode b_Writer_expand 12 = .ok (.iload 4, 2) := by decide +kernel
theorem d_Writer_expand_14 : decode b_Writer_expand 14 = .ok (.invokevirtual 108, 3) := by decide +kernel
theorem d_Writer_expand_17 : decode b_Writer_expand 17 = .ok (.aload_n 1, 1) := by decide +kernel
theorem d_Writer_expand_18 : decode b_Writer_expand 18 = .ok (.invokevirtual 72, 3) := by decide +kernel
theorem d_Writer_expand_21 : decode b_Writer_expand 21 = .ok (.aload_n 0, 1) := by decide +kernel
theorem d_Writer_expand_22 : decode b_Writer_expand 22 = .ok (.getfield 9, 3) := by decide +kernel
theorem d_Writer_expand_25 : decode b_Writer_expand 25 = .ok (.aload_n 1, 1) := by decide +kernel
theorem d_Writer_expand_26 : decode b_Writer_expand 26 = .ok (.invokevirtual 111, 3) := by decide +kernel
theorem d_Writer_expand_29 : decode b_Writer_expand 29 = .ok (.aload_n 1, 1) := by decide +kernel
theorem d_Writer_expand_30 : decode b_Writer_expand 30 = .ok (.invokevirtual 115, 3) := by decide +kernel
theorem d_Writer_expand_33 : decode b_Writer_expand 33 = .ok (.return_, 1) := by decide +kernel
theorem d_Writer_shorten_0 : decode b_Writer_shorten 0 = .ok (.aload_n 0, 1) := by decide +kernel
theorem d_Writer_shorten_1 : decode b_Writer_shorten 1 = .ok (.getfield 20, 3) := by decide +kernel
theorem d_Writer_shorten_4 : decode b_Writer_shorten 4 = .ok (.invokevirtual 69, 3) := by decide +kernel
theorem d_Writer_shorten_7 : decode b_Writer_shorten 7 = .ok (.istore_n 2, 1) := by decide +kernel
theorem d_Writer_shorten_8 : decode b_Writer_shorten 8 = .ok (.lconst 0, 1) := by decide +kernel
theorem d_Writer_shorten_9 : decode b_Writer_shorten 9 = .ok (.lstore_n 3, 1) := by decide +kernel
theorem d_Writer_shorten_10 : decode b_Writer_shorten 10 = .ok (.lconst 0, 1) := by decide +kernel
theorem d_Writer_shorten_11 : decode b_Writer_shorten 11 = .ok (.lstore 5, 2) := by decide +kernel
theorem d_Writer_shorten_13 : decode b_Writer_shorten 13 = .ok (.aload_n 0, 1) := by decide +kernel
theorem d_Writer_shorten_14 : decode b_Writer_shorten 14 = .ok (.getfield 27, 3) := by decide +kernel
theorem d_Writer_shorten_17 : decode b_Writer_shorten 17 = .ok (.iload_n 2, 1) := by decide +kernel
theorem d_Writer_shorten_18 : decode b_Writer_shorten 18 = .ok (.invokevirtual 132, 3) := by decide +kernel
theorem d_Writer_shorten_21 : decode b_Writer_shorten 21 = .ok (.i2l, 1) := by decide +kernel
theorem d_Writer_shorten_22 : decode b_Writer_shorten 22 = .ok (.lstore 7, 2) := by decide +kernel
theorem d_Writer_shorten_24 : decode b_Writer_shorten 24 = .ok (.iconst 1, 1) := by decide +kernel
theorem d_Writer_shorten_25 : decode b_Writer_shorten 25 = .ok (.istore 9, 2) := by decide +kernel
theorem d_Writer_shorten_27 : decode b_Writer_shorten 27 = .ok (.iload 9, 2) := by decide +kernel
theorem d_Writer_shorten_29 : decode b_Writer_shorten 29 = .ok (.bipush 17, 2) := by decide +kernel
theorem d_Writer_shorten_31 : decode b_Writer_shorten 31 = .ok (.if_icmp .gt 192, 3) := by decide +kernel
theorem d_Writer_shorten_34 : decode b_Writer_shorten 34 = .ok (.iload_n 2, 1) := by decide +kernel
theorem d_Writer_shorten_35 : decode b_Writer_shorten 35 = .ok (.iload 9, 2) := by decide +kernel
theorem d_Writer_shorten_37 : decode b_Writer_shorten 37 = .ok (.isub, 1) := by decide +kernel
theorem d_Writer_shorten_38 : decode b_Writer_shorten 38 = .ok (.istore 10, 2) := by decide +kernel
theorem d_Writer_shorten_40 : decode b_Writer_shorten 40 = .ok (.ldc2_w 136, 3) := by decide +kernel
theorem d_Writer_shorten_43 : decode b_Writer_shorten 43 = .ok (.lload_n 3, 1) := by decide +kernel
theorem d_Writer_shorten_44 : decode b_Writer_shorten 44 = .ok (.lmul, 1) := by decide +kernel
theorem d_Writer_shorten_45 : decode b_Writer_shorten 45 = .ok (.aload_n 0, 1) := by decide +kernel
theorem d_Writer_shorten_46 : decode b_Writer_shorten 46 = .ok (.getfield 24, 3) := by decide +kernel
theorem d_Writer_shorten_49 : decode b_Writer_shorten 49 = .ok (.iload 10, 2) := by decide +kernel
theorem d_Writer_shorten_51 : decode b_Writer_shorten 51 = .ok (.invokevirtual 132, 3) := by decide +kernel
theorem d_Writer_shorten_54 : decode b_Writer_shorten 54 = .ok (.i2l, 1) := by decide +kernel
theorem d_Writer_shorten_55 : decode b_Writer_shorten 55 = .ok (.ladd, 1) := by decide +kernel
theorem d_Writer_shorten_56 : decode b_Writer_shorten 56 = .ok (.lstore_n 3, 1) := by decide +kernel
theorem d_Writer_shorten_57 : decode b_Writer_shorten 57 = .ok (.ldc2_w 136, 3) := by decide +kernel
theorem d_Writer_shorten_60 : decode b_Writer_shorten 60 = .ok (.lload 5, 2) := by decide +kernel
theorem d_Writer_shorten_62 : decode b_Writer_shorten 62 = .ok (.lmul, 1) := by decide +kernel
theorem d_Writer_shorten_63 : decode b_Writer_shorten 63 = .ok (.aload_n 0, 1) := by decide +kernel
theorem d_Writer_shorten_64 : decode b_Writer_shorten 64 = .ok (.getfield 20, 3) := by decide +kernel
theorem d_Writer_shorten_67 : decode b_Writer_shorten 67 = .ok (.iload 10, 2) := by decide +kernel
theorem d_Writer_shorten_69 : decode b_Writer_shorten 69 = .ok (.invokevirtual 132, 3) := by decide +kernel
theorem d_Writer_shorten_72 : decode b_Writer_shorten 72 = .ok (.i2l, 1) := by decide +kernel
theorem d_Writer_shorten_73 : decode b_Writer_shorten 73 = .ok (.ladd, 1) := by decide +kernel
theorem d_Writer_shorten_74 : decode b_Writer_shorten 74 = .ok (.lstore 5, 2) := by decide +kernel
theorem d_Writer_shorten_76 : decode b_Writer_shorten 76 = .ok (.ldc2_w 136, 3) := by decide +kernel
theorem d_Writer_shorten_79 : decode b_Writer_shorten 79 = .ok (.lload 7, 2) := by decide +kernel
theorem d_Writer_shorten_81 : decode b_Writer_shorten 81 = .ok (.lmul, 1) := by decide +kernel
theorem d_Writer_shorten_82 : decode b_Writer_shorten 82 = .ok (.aload_n 0, 1) := by decide +kernel
theorem d_Writer_shorten_83 : decode b_Writer_shorten 83 = .ok (.getfield 27, 3) := by decide +kernel
theorem d_Writer_shorten_86 : decode b_Writer_shorten 86 = .ok (.iload 10, 2) := by decide +kernel
theorem d_Writer_shorten_88 : decode b_Writer_shorten 88 = .ok (.invokevirtual 132, 3) := by decide +kernel
theorem d_Writer_shorten_91 : decode b_Writer_shorten 91 = .ok (.i2l, 1) := by decide +kernel
theorem d_Writer_shorten_92 : decode b_Writer_shorten 92 = .ok (.ladd, 1) := by decide +kernel
theorem d_Writer_shorten_93 : decode b_Writer_shorten 93 = .ok (.lstore 7, 2) := by decide +kernel
theorem d_Writer_shorten_95 : decode b_Writer_shorten 95 = .ok (.lload 5, 2) := by decide +kernel
theorem d_Writer_shorten_97 : decode b_Writer_shorten 97 = .ok (.lconst 1, 1) := by decide +kernel
theorem d_Writer_shorten_98 : decode b_Writer_shorten 98 = .ok (.ladd, 1) := by decide +kernel
theorem d_Writer_shorten_99 : decode b_Writer_shorten 99 = .ok (.lstore 11, 2) := by decide +kernel
theorem d_Writer_shorten_101 : decode b_Writer_shorten 101 = .ok (.lload 5, 2) := by decide +kernel
theorem d_Writer_shorten_103 : decode b_Writer_shorten 103 = .ok (.lload_n 3, 1) := by decide +kernel
theorem d_Writer_shorten_104 : decode b_Writer_shorten 104 = .ok (.lcmp, 1) := by decide +kernel
theorem d_Writer_shorten_105 : decode b_Writer_shorten 105 = .ok (.ifCond .gt 19, 3) := by decide +kernel
theorem d_Writer_shorten_108 : decode b_Writer_shorten 108 = .ok (.iload_n 1, 1) := by decide +kernel
theorem d_Writer_shorten_109 : decode b_Writer_shorten 109 = .ok (.ifCond .eq 19, 3) := by decide +kernel
theorem d_Writer_shorten_112 : decode b_Writer_shorten 112 = .ok (.aload_n 0, 1) := by decide +kernel
theorem d_Writer_shorten_113 : decode b_Writer_shorten 113 = .ok (.getfield 24, 3) := by decide +kernel
theorem d_Writer_shorten_116 : decode b_Writer_shorten 116 = .ok (.iload 10, 2) := by decide +kernel
theorem d_Writer_shorten_118 : decode b_Writer_shorten 118 = .ok (.invokevirtual 138, 3) := by decide +kernel
theorem d_Writer_shorten_121 : decode b_Writer_shorten 121 = .ok (.ifCond .eq 7, 3) := by decide +kernel
theorem d_Writer_shorten_124 : decode b_Writer_shorten 124 = .ok (.iconst 1, 1) := by decide +kernel
theorem d_Writer_shorten_125 : decode b_Writer_shorten 125 = .ok (.goto 4, 3) := by decide +kernel
theorem d_Writer_shorten_128 : decode b_Writer_shorten 128 = .ok (.iconst 0, 1) := by decide +kernel
theorem d_Writer_shorten_129 : decode b_Writer_shorten 129 = .ok (.istore 13, 2) := by decide +kernel
theorem d_Writer_shorten_131 : decode b_Writer_shorten 131 = .ok (.lload 11, 2) := by decide +kernel
theorem d_Writer_shorten_133 : decode b_Writer_shorten 133 = .ok (.lload 7, 2) := by decide +kernel
theorem d_Writer_shorten_135 : decode b_Writer_shorten 135 = .ok (.lcmp, 1) := by decide +kernel
theorem d_Writer_shorten_136 : decode b_Writer_shorten 136 = .ok (.ifCond .lt 27, 3) := by decide +kernel
theorem d_Writer_shorten_139 : decode b_Writer_shorten 139 = .ok (.lload 11, 2) := by decide +kernel
theorem d_Writer_shorten_141 : decode b_Writer_shorten 141 = .ok (.lload 7, 2) := by decide +kernel
theorem d_Writer_shorten_143 : decode b_Writer_shorten 143 = .ok (.lcmp, 1) := by decide +kernel
theorem d_Writer_shorten_144 : decode b_Writer_shorten 144 = .ok (.ifCond .ne 23, 3) := by decide +kernel
theorem d_Writer_shorten_147 : decode b_Writer_shorten 147 = .ok (.iload_n 1, 1) := by decide +kernel
theorem d_Writer_shorten_148 : decode b_Writer_shorten 148 = .ok (.ifCond .ne 15, 3) := by decide +kernel
theorem d_Writer_shorten_151 : decode b_Writer_shorten 151 = .ok (.aload_n 0, 1) := by decide +kernel
theorem d_Writer_shorten_152 : decode b_Writer_shorten 152 = .ok (.getfield 27, 3) := by decide +kernel
theorem d_Writer_shorten_155 : decode b_Writer_shorten 155 = .ok (.iload 10, 2) := by decide +kernel
theorem d_Writer_shorten_157 : decode b_Writer_shorten 157 = .ok (.invokevirtual 138, 3) := by decide +kernel
theorem d_Writer_shorten_160 : decode b_Writer_shorten 160 = .ok (.ifCond .ne 7, 3) := by decide +kernel
theorem d_Writer_shorten_163 : decode b_Writer_shorten 163 = .ok (.iconst 1, 1) := by decide +kernel
theorem d_Writer_shorten_164 : decode b_Writer_shorten 164 = .ok (.goto 4, 3) := by decide +kernel
theorem d_Writer_shorten_167 : decode b_Writer_shorten 167 = .ok (.iconst 0, 1) := by decide +kernel
theorem d_Writer_shorten_168 : decode b_Writer_shorten 168 = .ok (.istore 14, 2) := by decide +kernel
theorem d_Writer_shorten_170 : decode b_Writer_shorten 170 = .ok (.iload 13, 2) := by decide +kernel
theorem d_Writer_shorten_172 : decode b_Writer_shorten 172 = .ok (.ifCond .ne 8, 3) := by decide +kernel
theorem d_Writer_shorten_175 : decode b_Writer_shorten 175 = .ok (.iload 14, 2) := by decide +kernel
theorem d_Writer_shorten_177 : decode b_Writer_shorten 177 = .ok (.ifCond .eq 40, 3) := by decide +kernel
theorem d_Writer_shorten_180 : decode b_Writer_shorten 180 = .ok (.aload_n 0, 1) := by decide +kernel
theorem d_Writer_shorten_181 : decode b_Writer_shorten 181 = .ok (.getfield 20, 3) := by decide +kernel
theorem d_Writer_shorten_184 : decode b_Writer_shorten 184 = .ok (.iload 9, 2) := by decide +kernel
theorem d_Writer_shorten_186 : decode b_Writer_shorten 186 = .ok (.iload 14, 2) := by decide +kernel
theorem d_Writer_shorten_188 : decode b_Writer_shorten 188 = .ok (.ifCond .eq 24, 3) := by decide +kernel
theorem d_Writer_shorten_191 : decode b_Writer_shorten 191 = .ok (.iload 13, 2) := by decide +kernel
theorem d_Writer_shorten_193 : decode b_Writer_shorten 193 = .ok (.ifCond .eq 15, 3) := by decide +kernel
theorem d_Writer_shorten_196 : decode b_Writer_shorten 196 = .ok (.aload_n 0, 1) := by decide +kernel
theorem d_Writer_shorten_197 : decode b_Writer_shorten 197 = .ok (.getfield 20, 3) := by decide +kernel
theorem d_Writer_shorten_200 : decode b_Writer_shorten 200 = .ok (.iload 9, 2) := by decide +kernel
theorem d_Writer_shorten_202 : decode b_Writer_shorten 202 = .ok (.invokevirtual 61, 3) := by decide +kernel
theorem d_Writer_shorten_205 : decode b_Writer_shorten 205 = .ok (.ifCond .eq 7, 3) := by decide +kernel
theorem d_Writer_shorten_208 : decode b_Writer_shorten 208 = .ok (.iconst 1, 1) := by decide +kernel
theorem d_Writer_shorten_209 : decode b_Writer_shorten 209 = .ok (.goto 4, 3) := by decide +kernel
theorem d_Writer_shorten_212 : decode b_Writer_shorten 212 = .ok (.iconst 0, 1) := by decide +kernel
theorem d_Writer_shorten_213 : decode b_Writer_shorten 213 = .ok (.invokevirtual 65, 3) := by decide +kernel
theorem d_Writer_shorten_216 : decode b_Writer_shorten 216 = .ok (.return_, 1) := by decide +kernel
theorem d_Writer_shorten_217 : decode b_Writer_shorten 217 = .ok (.iinc 9 1, 3) := by decide +kernel
theorem d_Writer_shorten_220 : decode b_Writer_shorten 220 = .ok (.goto (-193), 3) := by decide +kernel
theorem d_Writer_shorten_223 : decode b_Writer_shorten 223 = .ok (.return_, 1) := by decide +kernel
theorem d_Writer_findShort_0 : decode b_Writer_findShort 0 = .ok (.ldc2_w 118, 3) := by decide +kernel
theorem d_Writer_findShort_3 : decode b_Writer_findShort 3 = .ok (.lload_n 1, 1) := by decide +kernel
theorem d_Writer_findShort_4 : decode b_Writer_findShort 4 = .ok (.invokestatic 49, 3) := by decide +kernel
theorem d_Writer_findShort_7 : decode b_Writer_findShort 7 = .ok (.lmul, 1) := by decide +kernel
theorem d_Writer_findShort_8 : decode b_Writer_findShort 8 = .ok (.lstore_n 3, 1) := by decide +kernel
theorem d_Writer_findShort_9 : decode b_Writer_findShort 9 = .ok (.lload_n 1, 1) := by decide +kernel
theorem d_Writer_findShort_10 : decode b_Writer_findShort 10 = .ok (.invokestatic 53, 3) := by decide +kernel
theorem d_Writer_findShort_13 : decode b_Writer_findShort 13 = .ok (.iconst 2, 1) := by decide +kernel
theorem d_Writer_findShort_14 : decode b_Writer_findShort 14 = .ok (.isub, 1) := by decide +kernel
theorem d_Writer_findShort_15 : decode b_Writer_findShort 15 = .ok (.istore 5, 2) := by decide +kernel
theorem d_Writer_findShort_17 : decode b_Writer_findShort 17 = .ok (.lload_n 1, 1) := by decide +kernel
theorem d_Writer_findShort_18 : decode b_Writer_findShort 18 = .ok (.invokestatic 120, 3) := by decide +kernel
theorem d_Writer_findShort_21 : decode b_Writer_findShort 21 = .ok (.lconst 0, 1) := by decide +kernel
theorem d_Writer_findShort_22 : decode b_Writer_findShort 22 = .ok (.lcmp, 1) := by decide +kernel
theorem d_Writer_findShort_23 : decode b_Writer_findShort 23 = .ok (.ifCond .ne 15, 3) := by decide +kernel
theorem d_Writer_findShort_26 : decode b_Writer_findShort 26 = .ok (.lload_n 1, 1) := by decide +kernel
theorem d_Writer_findShort_27 : decode b_Writer_findShort 27 = .ok (.invokestatic 123, 3) := by decide +kernel
theorem d_Writer_findShort_30 : decode b_Writer_findShort 30 = .ok (.iconst 1, 1) := by decide +kernel
theorem d_Writer_findShort_31 : decode b_Writer_findShort 31 = .ok (.if_icmp .le 7, 3) := by decide +kernel
theorem d_Writer_findShort_34 : decode b_Writer_findShort 34 = .ok (.iconst 1, 1) := by decide +kernel
theorem d_Writer_findShort_35 : decode b_Writer_findShort 35 = .ok (.goto 4, 3) := by decide +kernel
theorem d_Writer_findShort_38 : decode b_Writer_findShort 38 = .ok (.iconst 0, 1) := by decide +kernel
theorem d_Writer_findShort_39 : decode b_Writer_findShort 39 = .ok (.istore 6, 2) := by decide +kernel
theorem d_Writer_findShort_41 : decode b_Writer_findShort 41 = .ok (.aload_n 0, 1) := by decide +kernel
theorem d_Writer_findShort_42 : decode b_Writer_findShort 42 = .ok (.aload_n 0, 1) := by decide +kernel
theorem d_Writer_findShort_43 : decode b_Writer_findShort 43 = .ok (.getfield 24, 3) := by decide +kernel
theorem d_Writer_findShort_46 : decode b_Writer_findShort 46 = .ok (.lload_n 3, 1) := by decide +kernel
theorem d_Writer_findShort_47 : decode b_Writer_findShort 47 = .ok (.iload 6, 2) := by decide +kernel
theorem d_Writer_findShort_49 : decode b_Writer_findShort 49 = .ok (.ifCond .eq 7, 3) := by decide +kernel
theorem d_Writer_findShort_52 : decode b_Writer_findShort 52 = .ok (.iconst 1, 1) := by decide +kernel
theorem d_Writer_findShort_53 : decode b_Writer_findShort 53 = .ok (.goto 4, 3) := by decide +kernel
theorem d_Writer_findShort_56 : decode b_Writer_findShort 56 = .ok (.iconst 2, 1) := by decide +kernel
theorem d_Writer_findShort_57 : decode b_Writer_findShort 57 = .ok (.i2l, 1) := by decide +kernel
theorem d_Writer_findShort_58 : decode b_Writer_findShort 58 = .ok (.lsub, 1) := by decide +kernel
theorem d_Writer_findShort_59 : decode b_Writer_findShort 59 = .ok (.iload 5, 2) := by decide +kernel
theorem d_Writer_findShort_61 : decode b_Writer_findShort 61 = .ok (.invokevirtual 57, 3) := by decide +kernel
theorem d_Writer_findShort_64 : decode b_Writer_findShort 64 = .ok (.aload_n 0, 1) := by decide +kernel
theorem d_Writer_findShort_65 : decode b_Writer_findShort 65 = .ok (.aload_n 0, 1) := by decide +kernel
theorem d_Writer_findShort_66 : decode b_Writer_findShort 66 = .ok (.getfield 20, 3) := by decide +kernel
theorem d_Writer_findShort_69 : decode b_Writer_findShort 69 = .ok (.lload_n 3, 1) := by decide +kernel
theorem d_Writer_findShort_70 : decode b_Writer_findShort 70 = .ok (.iload 5, 2) := by decide +kernel
theorem d_Writer_findShort_72 : decode b_Writer_findShort 72 = .ok (.invokevirtual 57, 3) := by decide +kernel
theorem d_Writer_findShort_75 : decode b_Writer_findShort 75 = .ok (.aload_n 0, 1) := by decide +kernel
theorem d_Writer_findShort_76 : decode b_Writer_findShort 76 = .ok (.aload_n 0, 1) := by decide +kernel
theorem d_Writer_findShort_77 : decode b_Writer_findShort 77 = .ok (.getfield 27, 3) := by decide +kernel
theorem d_Writer_findShort_80 : decode b_Writer_findShort 80 = .ok (.lload_n 3, 1) := by decide +kernel
theorem d_Writer_findShort_81 : decode b_Writer_findShort 81 = .ok (.ldc2_w 126, 3) := by decide +kernel
theorem d_Writer_findShort_84 : decode b_Writer_findShort 84 = .ok (.ladd, 1) := by decide +kernel
theorem d_Writer_findShort_85 : decode b_Writer_findShort 85 = .ok (.iload 5, 2) := by decide +kernel
theorem d_Writer_findShort_87 : decode b_Writer_findShort 87 = .ok (.invokevirtual 57, 3) := by decide +kernel
theorem d_Writer_findShort_90 : decode b_Writer_findShort 90 = .ok (.aload_n 0, 1) := by decide +kernel
theorem d_Writer_findShort_91 : decode b_Writer_findShort 91 = .ok (.lload_n 1, 1) := by decide +kernel
theorem d_Writer_findShort_92 : decode b_Writer_findShort 92 = .ok (.invokestatic 120, 3) := by decide +kernel
theorem d_Writer_findShort_95 : decode b_Writer_findShort 95 = .ok (.lconst 1, 1) := by decide +kernel
theorem d_Writer_findShort_96 : decode b_Writer_findShort 96 = .ok (.land, 1) := by decide +kernel
theorem d_Writer_findShort_97 : decode b_Writer_findShort 97 = .ok (.lconst 0, 1) := by decide +kernel
theorem d_Writer_findShort_98 : decode b_Writer_findShort 98 = .ok (.lcmp, 1) := by decide +kernel
theorem d_Writer_findShort_99 : decode b_Writer_findShort 99 = .ok (.ifCond .ne 7, 3) := by decide +kernel
theorem d_Writer_findShort_102 : decode b_Writer_findShort 102 = .ok (.iconst 1, 1) := by decide +kernel
theorem d_Writer_findShort_103 : decode b_Writer_findShort 103 = .ok (.goto 4, 3) := by decide +kernel
theorem d_Writer_findShort_106 : decode b_Writer_findShort 106 = .ok (.iconst 0, 1) := by decide +kernel
theorem d_Writer_findShort_107 : decode b_Writer_findShort 107 = .ok (.invokevirtual 128, 3) := by decide +kernel
theorem d_Writer_findShort_110 : decode b_Writer_findShort 110 = .ok (.return_, 1) := by decide +kernel
theorem d_Writer_addDigits_0 : decode b_Writer_addDigits 0 = .ok (.iload_n 2, 1) := by decide +kernel
theorem d_Writer_addDigits_1 : decode b_Writer_addDigits 1 = .ok (.istore 4, 2) := by decide +kernel
theorem d_Writer_addDigits_3 : decode b_Writer_addDigits 3 = .ok (.iload 4, 2) := by decide +kernel
theorem d_Writer_addDigits_5 : decode b_Writer_addDigits 5 = .ok (.iload_n 3, 1) := by decide +kernel
theorem d_Writer_addDigits_6 : decode b_Writer_addDigits 6 = .ok (.if_icmp .ge 25, 3) := by decide +kernel
theorem d_Writer_addDigits_9 : decode b_Writer_addDigits 9 = .ok (.aload_n 1, 1) := by decide +kernel
theorem d_Writer_addDigits_10 : decode b_Writer_addDigits 10 = .ok (.bipush 48, 2) := by decide +kernel
theorem d_Writer_addDigits_12 : decode b_Writer_addDigits 12 = .ok (.aload_n 0, 1) := by decide +kernel
theorem d_Writer_addDigits_13 : decode b_Writer_addDigits 13 = .ok (.getfield 20, 3) := by decide +kernel
theorem d_Writer_addDigits_16 : decode b_Writer_addDigits 16 = .ok (.iload 4, 2) := by decide +kernel
theorem d_Writer_addDigits_18 : decode b_Writer_addDigits 18 = .ok (.invokevirtual 158, 3) := by decide +kernel
theorem d_Writer_addDigits_21 : decode b_Writer_addDigits 21 = .ok (.iadd, 1) := by decide +kernel
theorem d_Writer_addDigits_22 : decode b_Writer_addDigits 22 = .ok (.invokevirtual 94, 3) := by decide +kernel
theorem d_Writer_addDigits_25 : decode b_Writer_addDigits 25 = .ok (.iinc 4 1, 3) := by decide +kernel
theorem d_Writer_addDigits_28 : decode b_Writer_addDigits 28 = .ok (.goto (-25), 3) := by decide +kernel
theorem d_Writer_addDigits_31 : decode b_Writer_addDigits 31 = .ok (.return_, 1) := by decide +kernel
theorem d_Writer_addPlaces_0 : decode b_Writer_addPlaces 0 = .ok (.aload_n 0, 1) := by decide +kernel
theorem d_Writer_addPlaces_1 : decode b_Writer_addPlaces 1 = .ok (.getfield 20, 3) := by decide +kernel
theorem d_Writer_addPlaces_4 : decode b_Writer_addPlaces 4 = .ok (.invokevirtual 69, 3) := by decide +kernel
theorem d_Writer_addPlaces_7 : decode b_Writer_addPlaces 7 = .ok (.istore_n 3, 1) := by decide +kernel
theorem d_Writer_addPlaces_8 : decode b_Writer_addPlaces 8 = .ok (.iload_n 3, 1) := by decide +kernel
theorem d_Writer_addPlaces_9 : decode b_Writer_addPlaces 9 = .ok (.ifCond .gt 9, 3) := by decide +kernel
theorem d_Writer_addPlaces_12 : decode b_Writer_addPlaces 12 = .ok (.aload_n 1, 1) := by decide +kernel
theorem d_Writer_addPlaces_13 : decode b_Writer_addPlaces 13 = .ok (.bipush 48, 2) := by decide +kernel
theorem d_Writer_addPlaces_15 : decode b_Writer_addPlaces 15 = .ok (.invokevirtual 94, 3) := by decide +kernel
theorem d_Writer_addPlaces_18 : decode b_Writer_addPlaces 18 = .ok (.aload_n 0, 1) := by decide +kernel
theorem d_Writer_addPlaces_19 : decode b_Writer_addPlaces 19 = .ok (.aload_n 1, 1) := by decide +kernel
theorem d_Writer_addPlaces_20 : decode b_Writer_addPlaces 20 = .ok (.iconst 0, 1) := by decide +kernel
theorem d_Writer_addPlaces_21 : decode b_Writer_addPlaces 21 = .ok (.iload_n 3, 1) := by decide +kernel
theorem d_Writer_addPlaces_22 : decode b_Writer_addPlaces 22 = .ok (.invokevirtual 151, 3) := by decide +kernel
theorem d_Writer_addPlaces_25 : decode b_Writer_addPlaces 25 = .ok (.iload_n 2, 1) := by decide +kernel
theorem d_Writer_addPlaces_26 : decode b_Writer_addPlaces 26 = .ok (.ifCond .le 18, 3) := by decide +kernel
theorem d_Writer_addPlaces_29 : decode b_Writer_addPlaces 29 = .ok (.aload_n 1, 1) := by decide +kernel
theorem d_Writer_addPlaces_30 : decode b_Writer_addPlaces 30 = .ok (.bipush 46, 2) := by decide +kernel
theorem d_Writer_addPlaces_32 : decode b_Writer_addPlaces 32 = .ok (.invokevirtual 94, 3) := by decide +kernel
theorem d_Writer_addPlaces_35 : decode b_Writer_addPlaces 35 = .ok (.aload_n 0, 1) := by decide +kernel
theorem d_Writer_addPlaces_36 : decode b_Writer_addPlaces 36 = .ok (.aload_n 1, 1) := by decide +kernel
theorem d_Writer_addPlaces_37 : decode b_Writer_addPlaces 37 = .ok (.iload_n 3, 1) := by decide +kernel
theorem d_Writer_addPlaces_38 : decode b_Writer_addPlaces 38 = .ok (.iload_n 3, 1) := by decide +kernel
theorem d_Writer_addPlaces_39 : decode b_Writer_addPlaces 39 = .ok (.iload_n 2, 1) := by decide +kernel
theorem d_Writer_addPlaces_40 : decode b_Writer_addPlaces 40 = .ok (.iadd, 1) := by decide +kernel
theorem d_Writer_addPlaces_41 : decode b_Writer_addPlaces 41 = .ok (.invokevirtual 151, 3) := by decide +kernel
theorem d_Writer_addPlaces_44 : decode b_Writer_addPlaces 44 = .ok (.return_, 1) := by decide +kernel
theorem d_Writer_addWithExponent_0 : decode b_Writer_addWithExponent 0 = .ok (.aload_n 0, 1) := by decide +kernel
theorem d_Writer_addWithExponent_1 : decode b_Writer_addWithExponent 1 = .ok (.aload_n 1, 1) := by decide +kernel
theorem d_Writer_addWithExponent_2 : decode b_Writer_addWithExponent 2 = .ok (.iconst 0, 1) := by decide +kernel
theorem d_Writer_addWithExponent_3 : decode b_Writer_addWithExponent 3 = .ok (.iconst 1, 1) := by decide +kernel
theorem d_Writer_addWithExponent_4 : decode b_Writer_addWithExponent 4 = .ok (.invokevirtual 151, 3) := by decide +kernel
theorem d_Writer_addWithExponent_7 : decode b_Writer_addWithExponent 7 = .ok (.iload_n 2, 1) := by decide +kernel
theorem d_Writer_addWithExponent_8 : decode b_Writer_addWithExponent 8 = .ok (.iconst 1, 1) := by decide +kernel
theorem d_Writer_addWithExponent_9 : decode b_Writer_addWithExponent 9 = .ok (.if_icmp .le 16, 3) := by decide +kernel
theorem d_Writer_addWithExponent_12 : decode b_Writer_addWithExponent 12 = .ok (.aload_n 1, 1) := by decide +kernel
theorem d_Writer_addWithExponent_13 : decode b_Writer_addWithExponent 13 = .ok (.bipush 46, 2) := by decide +kernel
theorem d_Writer_addWithExponent_15 : decode b_Writer_addWithExponent 15 = .ok (.invokevirtual 94, 3) := by decide +kernel
theorem d_Writer_addWithExponent_18 : decode b_Writer_addWithExponent 18 = .ok (.aload_n 0, 1) := by decide +kernel
theorem d_Writer_addWithExponent_19 : decode b_Writer_addWithExponent 19 = .ok (.aload_n 1, 1) := by decide +kernel
theorem d_Writer_addWithExponent_20 : decode b_Writer_addWithExponent 20 = .ok (.iconst 1, 1) := by decide +kernel
theorem d_Writer_addWithExponent_21 : decode b_Writer_addWithExponent 21 = .ok (.iload_n 2, 1) := by decide +kernel
theorem d_Writer_addWithExponent_22 : decode b_Writer_addWithExponent 22 = .ok (.invokevirtual 151, 3) := by decide +kernel
theorem d_Writer_addWithExponent_25 : decode b_Writer_addWithExponent 25 = .ok (.aload_n 1, 1) := by decide +kernel
theorem d_Writer_addWithExponent_26 : decode b_Writer_addWithExponent 26 = .ok (.bipush 101, 2) := by decide +kernel
theorem d_Writer_addWithExponent_28 : decode b_Writer_addWithExponent 28 = .ok (.invokevirtual 94, 3) := by decide +kernel
theorem d_Writer_addWithExponent_31 : decode b_Writer_addWithExponent 31 = .ok (.aload_n 1, 1) := by decide +kernel
theorem d_Writer_addWithExponent_32 : decode b_Writer_addWithExponent 32 = .ok (.aload_n 0, 1) := by decide +kernel
theorem d_Writer_addWithExponent_33 : decode b_Writer_addWithExponent 33 = .ok (.getfield 20, 3) := by decide +kernel
theorem d_Writer_addWithExponent_36 : decode b_Writer_addWithExponent 36 = .ok (.invokevirtual 69, 3) := by decide +kernel
theorem d_Writer_addWithExponent_39 : decode b_Writer_addWithExponent 39 = .ok (.iconst 1, 1) := by decide +kernel
theorem d_Writer_addWithExponent_40 : decode b_Writer_addWithExponent 40 = .ok (.isub, 1) := by decide +kernel
theorem d_Writer_addWithExponent_41 : decode b_Writer_addWithExponent 41 = .ok (.invokevirtual 155, 3) := by decide +kernel
theorem d_Writer_addWithExponent_44 : decode b_Writer_addWithExponent 44 = .ok (.return_, 1) := by decide +kernel
theorem d_Writer_addDecimal_0 : decode b_Writer_addDecimal 0 = .ok (.aload_n 0, 1) := by decide +kernel
theorem d_Writer_addDecimal_1 : decode b_Writer_addDecimal 1 = .ok (.getfield 20, 3) := by decide +kernel
theorem d_Writer_addDecimal_4 : decode b_Writer_addDecimal 4 = .ok (.invokevirtual 141, 3) := by decide +kernel
theorem d_Writer_addDecimal_7 : decode b_Writer_addDecimal 7 = .ok (.ifCond .eq 24, 3) := by decide +kernel
theorem d_Writer_addDecimal_10 : decode b_Writer_addDecimal 10 = .ok (.aload_n 0, 1) := by decide +kernel
theorem d_Writer_addDecimal_11 : decode b_Writer_addDecimal 11 = .ok (.aload_n 1, 1) := by decide +kernel
theorem d_Writer_addDecimal_12 : decode b_Writer_addDecimal 12 = .ok (.iconst 0, 1) := by decide +kernel
theorem d_Writer_addDecimal_13 : decode b_Writer_addDecimal 13 = .ok (.iload_n 2, 1) := by decide +kernel
theorem d_Writer_addDecimal_14 : decode b_Writer_addDecimal 14 = .ok (.aload_n 0, 1) := by decide +kernel
theorem d_Writer_addDecimal_15 : decode b_Writer_addDecimal 15 = .ok (.getfield 20, 3) := by decide +kernel
theorem d_Writer_addDecimal_18 : decode b_Writer_addDecimal 18 = .ok (.invokevirtual 69, 3) := by decide +kernel
theorem d_Writer_addDecimal_21 : decode b_Writer_addDecimal 21 = .ok (.isub, 1) := by decide +kernel
theorem d_Writer_addDecimal_22 : decode b_Writer_addDecimal 22 = .ok (.invokestatic 145, 3) := by decide +kernel
theorem d_Writer_addDecimal_25 : decode b_Writer_addDecimal 25 = .ok (.invokevirtual 75, 3) := by decide +kernel
theorem d_Writer_addDecimal_28 : decode b_Writer_addDecimal 28 = .ok (.goto 9, 3) := by decide +kernel
theorem d_Writer_addDecimal_31 : decode b_Writer_addDecimal 31 = .ok (.aload_n 0, 1) := by decide +kernel
theorem d_Writer_addDecimal_32 : decode b_Writer_addDecimal 32 = .ok (.aload_n 1, 1) := by decide +kernel
theorem d_Writer_addDecimal_33 : decode b_Writer_addDecimal 33 = .ok (.iload_n 2, 1) := by decide +kernel
theorem d_Writer_addDecimal_34 : decode b_Writer_addDecimal 34 = .ok (.invokevirtual 81, 3) := by decide +kernel
theorem d_Writer_addDecimal_37 : decode b_Writer_addDecimal 37 = .ok (.return_, 1) := by decide +kernel
theorem d_Writer_addShort_0 : decode b_Writer_addShort 0 = .ok (.aload_n 1, 1) := by decide +kernel
theorem d_Writer_addShort_1 : decode b_Writer_addShort 1 = .ok (.lload_n 2, 1) := by decide +kernel
theorem d_Writer_addShort_2 : decode b_Writer_addShort 2 = .ok (.invokestatic 30, 3) := by decide +kernel
theorem d_Writer_addShort_5 : decode b_Writer_addShort 5 = .ok (.ifCond .eq 28, 3) := by decide +kernel
theorem d_Writer_addShort_8 : decode b_Writer_addShort 8 = .ok (.aload_n 1, 1) := by decide +kernel
theorem d_Writer_addShort_9 : decode b_Writer_addShort 9 = .ok (.lload_n 2, 1) := by decide +kernel
theorem d_Writer_addShort_10 : decode b_Writer_addShort 10 = .ok (.invokestatic 34, 3) := by decide +kernel
theorem d_Writer_addShort_13 : decode b_Writer_addShort 13 = .ok (.ifCond .ne 20, 3) := by decide +kernel
theorem d_Writer_addShort_16 : decode b_Writer_addShort 16 = .ok (.aload_n 0, 1) := by decide +kernel
theorem d_Writer_addShort_17 : decode b_Writer_addShort 17 = .ok (.lload_n 2, 1) := by decide +kernel
theorem d_Writer_addShort_18 : decode b_Writer_addShort 18 = .ok (.invokevirtual 37, 3) := by decide +kernel
theorem d_Writer_addShort_21 : decode b_Writer_addShort 21 = .ok (.aload_n 0, 1) := by decide +kernel
theorem d_Writer_addShort_22 : decode b_Writer_addShort 22 = .ok (.aload_n 1, 1) := by decide +kernel
theorem d_Writer_addShort_23 : decode b_Writer_addShort 23 = .ok (.aload_n 0, 1) := by decide +kernel
theorem d_Writer_addShort_24 : decode b_Writer_addShort 24 = .ok (.getfield 20, 3) := by decide +kernel
theorem d_Writer_addShort_27 : decode b_Writer_addShort 27 = .ok (.invokevirtual 41, 3) := by decide +kernel
theorem d_Writer_addShort_30 : decode b_Writer_addShort 30 = .ok (.invokevirtual 45, 3) := by decide +kernel
theorem d_Writer_addShort_33 : decode b_Writer_addShort 33 = .ok (.return_, 1) := by decide +kernel
theorem d_Writer_addRounded_0 : decode b_Writer_addRounded 0 = .ok (.aload_n 1, 1) := by decide +kernel
theorem d_Writer_addRounded_1 : decode b_Writer_addRounded 1 = .ok (.lload_n 2, 1) := by decide +kernel
theorem d_Writer_addRounded_2 : decode b_Writer_addRounded 2 = .ok (.invokestatic 30, 3) := by decide +kernel
theorem d_Writer_addRounded_5 : decode b_Writer_addRounded 5 = .ok (.ifCond .eq 52, 3) := by decide +kernel
theorem d_Writer_addRounded_8 : decode b_Writer_addRounded 8 = .ok (.aload_n 1, 1) := by decide +kernel
theorem d_Writer_addRounded_9 : decode b_Writer_addRounded 9 = .ok (.lload_n 2, 1) := by decide +kernel
theorem d_Writer_addRounded_10 : decode b_Writer_addRounded 10 = .ok (.invokestatic 34, 3) := by decide +kernel
theorem d_Writer_addRounded_13 : decode b_Writer_addRounded 13 = .ok (.ifCond .ne 44, 3) := by decide +kernel
theorem d_Writer_addRounded_16 : decode b_Writer_addRounded 16 = .ok (.aload_n 0, 1) := by decide +kernel
theorem d_Writer_addRounded_17 : decode b_Writer_addRounded 17 = .ok (.aload_n 0, 1) := by decide +kernel
theorem d_Writer_addRounded_18 : decode b_Writer_addRounded 18 = .ok (.getfield 20, 3) := by decide +kernel
theorem d_Writer_addRounded_21 : decode b_Writer_addRounded 21 = .ok (.lload_n 2, 1) := by decide +kernel
theorem d_Writer_addRounded_22 : decode b_Writer_addRounded 22 = .ok (.invokestatic 49, 3) := by decide +kernel
theorem d_Writer_addRounded_25 : decode b_Writer_addRounded 25 = .ok (.lload_n 2, 1) := by decide +kernel
theorem d_Writer_addRounded_26 : decode b_Writer_addRounded 26 = .ok (.invokestatic 53, 3) := by decide +kernel
theorem d_Writer_addRounded_29 : decode b_Writer_addRounded 29 = .ok (.invokevirtual 57, 3) := by decide +kernel
theorem d_Writer_addRounded_32 : decode b_Writer_addRounded 32 = .ok (.aload_n 0, 1) := by decide +kernel
theorem d_Writer_addRounded_33 : decode b_Writer_addRounded 33 = .ok (.getfield 20, 3) := by decide +kernel
theorem d_Writer_addRounded_36 : decode b_Writer_addRounded 36 = .ok (.iload 4, 2) := by decide +kernel
theorem d_Writer_addRounded_38 : decode b_Writer_addRounded 38 = .ok (.aload_n 0, 1) := by decide +kernel
theorem d_Writer_addRounded_39 : decode b_Writer_addRounded 39 = .ok (.getfield 20, 3) := by decide +kernel
theorem d_Writer_addRounded_42 : decode b_Writer_addRounded 42 = .ok (.iload 4, 2) := by decide +kernel
theorem d_Writer_addRounded_44 : decode b_Writer_addRounded 44 = .ok (.invokevirtual 61, 3) := by decide +kernel
theorem d_Writer_addRounded_47 : decode b_Writer_addRounded 47 = .ok (.invokevirtual 65, 3) := by decide +kernel
theorem d_Writer_addRounded_50 : decode b_Writer_addRounded 50 = .ok (.aload_n 0, 1) := by decide +kernel
theorem d_Writer_addRounded_51 : decode b_Writer_addRounded 51 = .ok (.aload_n 1, 1) := by decide +kernel
theorem d_Writer_addRounded_52 : decode b_Writer_addRounded 52 = .ok (.iload 4, 2) := by decide +kernel
theorem d_Writer_addRounded_54 : decode b_Writer_addRounded 54 = .ok (.invokevirtual 45, 3) := by decide +kernel
theorem d_Writer_addRounded_57 : decode b_Writer_addRounded 57 = .ok (.return_, 1) := by decide +kernel
theorem d_Writer_addToPlaces_0 : decode b_Writer_addToPlaces 0 = .ok (.aload_n 1, 1) := by decide +kernel
theorem d_Writer_addToPlaces_1 : decode b_Writer_addToPlaces 1 = .ok (.lload_n 2, 1) := by decide +kernel
theorem d_Writer_addToPlaces_2 : decode b_Writer_addToPlaces 2 = .ok (.invokestatic 30, 3) := by decide +kernel
theorem d_Writer_addToPlaces_5 : decode b_Writer_addToPlaces 5 = .ok (.ifCond .eq 71, 3) := by decide +kernel
theorem d_Writer_addToPlaces_8 : decode b_Writer_addToPlaces 8 = .ok (.aload_n 0, 1) := by decide +kernel
theorem d_Writer_addToPlaces_9 : decode b_Writer_addToPlaces 9 = .ok (.aload_n 0, 1) := by decide +kernel
theorem d_Writer_addToPlaces_10 : decode b_Writer_addToPlaces 10 = .ok (.getfield 20, 3) := by decide +kernel
theorem d_Writer_addToPlaces_13 : decode b_Writer_addToPlaces 13 = .ok (.lload_n 2, 1) := by decide +kernel
theorem d_Writer_addToPlaces_14 : decode b_Writer_addToPlaces 14 = .ok (.invokestatic 49, 3) := by decide +kernel
theorem d_Writer_addToPlaces_17 : decode b_Writer_addToPlaces 17 = .ok (.lload_n 2, 1) := by decide +kernel
theorem d_Writer_addToPlaces_18 : decode b_Writer_addToPlaces 18 = .ok (.invokestatic 53, 3) := by decide +kernel
theorem d_Writer_addToPlaces_21 : decode b_Writer_addToPlaces 21 = .ok (.invokevirtual 57, 3) := by decide +kernel
theorem d_Writer_addToPlaces_24 : decode b_Writer_addToPlaces 24 = .ok (.aload_n 0, 1) := by decide +kernel
theorem d_Writer_addToPlaces_25 : decode b_Writer_addToPlaces 25 = .ok (.getfield 20, 3) := by decide +kernel
theorem d_Writer_addToPlaces_28 : decode b_Writer_addToPlaces 28 = .ok (.invokevirtual 69, 3) := by decide +kernel
theorem d_Writer_addToPlaces_31 : decode b_Writer_addToPlaces 31 = .ok (.iload 4, 2) := by decide +kernel
theorem d_Writer_addToPlaces_33 : decode b_Writer_addToPlaces 33 = .ok (.iadd, 1) := by decide +kernel
theorem d_Writer_addToPlaces_34 : decode b_Writer_addToPlaces 34 = .ok (.istore 5, 2) := by decide +kernel
theorem d_Writer_addToPlaces_36 : decode b_Writer_addToPlaces 36 = .ok (.iload 5, 2) := by decide +kernel
theorem d_Writer_addToPlaces_38 : decode b_Writer_addToPlaces 38 = .ok (.ifCond .ge 13, 3) := by decide +kernel
theorem d_Writer_addToPlaces_41 : decode b_Writer_addToPlaces 41 = .ok (.aload_n 0, 1) := by decide +kernel
theorem d_Writer_addToPlaces_42 : decode b_Writer_addToPlaces 42 = .ok (.getfield 20, 3) := by decide +kernel
theorem d_Writer_addToPlaces_45 : decode b_Writer_addToPlaces 45 = .ok (.invokevirtual 72, 3) := by decide +kernel
theorem d_Writer_addToPlaces_48 : decode b_Writer_addToPlaces 48 = .ok (.goto 21, 3) := by decide +kernel
theorem d_Writer_addToPlaces_51 : decode b_Writer_addToPlaces 51 = .ok (.aload_n 0, 1) := by decide +kernel
theorem d_Writer_addToPlaces_52 : decode b_Writer_addToPlaces 52 = .ok (.getfield 20, 3) := by decide +kernel
theorem d_Writer_addToPlaces_55 : decode b_Writer_addToPlaces 55 = .ok (.iload 5, 2) := by decide +kernel
theorem d_Writer_addToPlaces_57 : decode b_Writer_addToPlaces 57 = .ok (.aload_n 0, 1) := by decide +kernel
theorem d_Writer_addToPlaces_58 : decode b_Writer_addToPlaces 58 = .ok (.getfield 20, 3) := by decide +kernel
theorem d_Writer_addToPlaces_61 : decode b_Writer_addToPlaces 61 = .ok (.iload 5, 2) := by decide +kernel
theorem d_Writer_addToPlaces_63 : decode b_Writer_addToPlaces 63 = .ok (.invokevirtual 61, 3) := by decide +kernel
theorem d_Writer_addToPlaces_66 : decode b_Writer_addToPlaces 66 = .ok (.invokevirtual 65, 3) := by decide +kernel
theorem d_Writer_addToPlaces_69 : decode b_Writer_addToPlaces 69 = .ok (.aload_n 0, 1) := by decide +kernel
theorem d_Writer_addToPlaces_70 : decode b_Writer_addToPlaces 70 = .ok (.aload_n 1, 1) := by decide +kernel
theorem d_Writer_addToPlaces_71 : decode b_Writer_addToPlaces 71 = .ok (.iload 4, 2) := by decide +kernel
theorem d_Writer_addToPlaces_73 : decode b_Writer_addToPlaces 73 = .ok (.invokevirtual 75, 3) := by decide +kernel
theorem d_Writer_addToPlaces_76 : decode b_Writer_addToPlaces 76 = .ok (.return_, 1) := by decide +kernel
theorem d_Writer_addInFull_0 : decode b_Writer_addInFull 0 = .ok (.aload_n 1, 1) := by decide +kernel
theorem d_Writer_addInFull_1 : decode b_Writer_addInFull 1 = .ok (.lload_n 2, 1) := by decide +kernel
theorem d_Writer_addInFull_2 : decode b_Writer_addInFull 2 = .ok (.invokestatic 30, 3) := by decide +kernel
theorem d_Writer_addInFull_5 : decode b_Writer_addInFull 5 = .ok (.ifCond .eq 31, 3) := by decide +kernel
theorem d_Writer_addInFull_8 : decode b_Writer_addInFull 8 = .ok (.aload_n 0, 1) := by decide +kernel
theorem d_Writer_addInFull_9 : decode b_Writer_addInFull 9 = .ok (.aload_n 0, 1) := by decide +kernel
theorem d_Writer_addInFull_10 : decode b_Writer_addInFull 10 = .ok (.getfield 20, 3) := by decide +kernel
theorem d_Writer_addInFull_13 : decode b_Writer_addInFull 13 = .ok (.lload_n 2, 1) := by decide +kernel
theorem d_Writer_addInFull_14 : decode b_Writer_addInFull 14 = .ok (.invokestatic 49, 3) := by decide +kernel
theorem d_Writer_addInFull_17 : decode b_Writer_addInFull 17 = .ok (.lload_n 2, 1) := by decide +kernel
theorem d_Writer_addInFull_18 : decode b_Writer_addInFull 18 = .ok (.invokestatic 53, 3) := by decide +kernel
theorem d_Writer_addInFull_21 : decode b_Writer_addInFull 21 = .ok (.invokevirtual 57, 3) := by decide +kernel
theorem d_Writer_addInFull_24 : decode b_Writer_addInFull 24 = .ok (.aload_n 0, 1) := by decide +kernel
theorem d_Writer_addInFull_25 : decode b_Writer_addInFull 25 = .ok (.aload_n 1, 1) := by decide +kernel
theorem d_Writer_addInFull_26 : decode b_Writer_addInFull 26 = .ok (.aload_n 0, 1) := by decide +kernel
theorem d_Writer_addInFull_27 : decode b_Writer_addInFull 27 = .ok (.getfield 20, 3) := by decide +kernel
theorem d_Writer_addInFull_30 : decode b_Writer_addInFull 30 = .ok (.invokevirtual 78, 3) := by decide +kernel
theorem d_Writer_addInFull_33 : decode b_Writer_addInFull 33 = .ok (.invokevirtual 75, 3) := by decide +kernel
theorem d_Writer_addInFull_36 : decode b_Writer_addInFull 36 = .ok (.return_, 1) := by decide +kernel
theorem d_Writer_addScientific_0 : decode b_Writer_addScientific 0 = .ok (.aload_n 0, 1) := by decide +kernel
theorem d_Writer_addScientific_1 : decode b_Writer_addScientific 1 = .ok (.getfield 20, 3) := by decide +kernel
theorem d_Writer_addScientific_4 : decode b_Writer_addScientific 4 = .ok (.invokevirtual 72, 3) := by decide +kernel
theorem d_Writer_addScientific_7 : decode b_Writer_addScientific 7 = .ok (.aload_n 1, 1) := by decide +kernel
theorem d_Writer_addScientific_8 : decode b_Writer_addScientific 8 = .ok (.lload_n 2, 1) := by decide +kernel
theorem d_Writer_addScientific_9 : decode b_Writer_addScientific 9 = .ok (.invokestatic 30, 3) := by decide +kernel
theorem d_Writer_addScientific_12 : decode b_Writer_addScientific 12 = .ok (.ifCond .eq 52, 3) := by decide +kernel
theorem d_Writer_addScientific_15 : decode b_Writer_addScientific 15 = .ok (.aload_n 1, 1) := by decide +kernel
theorem d_Writer_addScientific_16 : decode b_Writer_addScientific 16 = .ok (.lload_n 2, 1) := by decide +kernel
theorem d_Writer_addScientific_17 : decode b_Writer_addScientific 17 = .ok (.invokestatic 34, 3) := by decide +kernel
theorem d_Writer_addScientific_20 : decode b_Writer_addScientific 20 = .ok (.ifCond .ne 44, 3) := by decide +kernel
theorem d_Writer_addScientific_23 : decode b_Writer_addScientific 23 = .ok (.aload_n 0, 1) := by decide +kernel
theorem d_Writer_addScientific_24 : decode b_Writer_addScientific 24 = .ok (.aload_n 0, 1) := by decide +kernel
theorem d_Writer_addScientific_25 : decode b_Writer_addScientific 25 = .ok (.getfield 20, 3) := by decide +kernel
theorem d_Writer_addScientific_28 : decode b_Writer_addScientific 28 = .ok (.lload_n 2, 1) := by decide +kernel
theorem d_Writer_addScientific_29 : decode b_Writer_addScientific 29 = .ok (.invokestatic 49, 3) := by decide +kernel
theorem d_Writer_addScientific_32 : decode b_Writer_addScientific 32 = .ok (.lload_n 2, 1) := by decide +kernel
theorem d_Writer_addScientific_33 : decode b_Writer_addScientific 33 = .ok (.invokestatic 53, 3) := by decide +kernel
theorem d_Writer_addScientific_36 : decode b_Writer_addScientific 36 = .ok (.invokevirtual 57, 3) := by decide +kernel
theorem d_Writer_addScientific_39 : decode b_Writer_addScientific 39 = .ok (.aload_n 0, 1) := by decide +kernel
theorem d_Writer_addScientific_40 : decode b_Writer_addScientific 40 = .ok (.getfield 20, 3) := by decide +kernel
theorem d_Writer_addScientific_43 : decode b_Writer_addScientific 43 = .ok (.iload 4, 2) := by decide +kernel
theorem d_Writer_addScientific_45 : decode b_Writer_addScientific 45 = .ok (.aload_n 0, 1) := by decide +kernel
theorem d_Writer_addScientific_46 : decode b_Writer_addScientific 46 = .ok (.getfield 20, 3) := by decide +kernel
theorem d_Writer_addScientific_49 : decode b_Writer_addScientific 49 = .ok (.iload 4, 2) := by decide +kernel
theorem d_Writer_addScientific_51 : decode b_Writer_addScientific 51 = .ok (.invokevirtual 61, 3) := by decide +kernel
theorem d_Writer_addScientific_54 : decode b_Writer_addScientific 54 = .ok (.invokevirtual 65, 3) := by decide +kernel
theorem d_Writer_addScientific_57 : decode b_Writer_addScientific 57 = .ok (.aload_n 0, 1) := by decide +kernel
theorem d_Writer_addScientific_58 : decode b_Writer_addScientific 58 = .ok (.aload_n 1, 1) := by decide +kernel
theorem d_Writer_addScientific_59 : decode b_Writer_addScientific 59 = .ok (.iload 4, 2) := by decide +kernel
theorem d_Writer_addScientific_61 : decode b_Writer_addScientific 61 = .ok (.invokevirtual 81, 3) := by decide +kernel
theorem d_Writer_addScientific_64 : decode b_Writer_addScientific 64 = .ok (.return_, 1) := by decide +kernel
theorem d_Writer_decimal_0 : decode b_Writer_decimal 0 = .ok (.aload_n 0, 1) := by decide +kernel
theorem d_Writer_decimal_1 : decode b_Writer_decimal 1 = .ok (.getfield 20, 3) := by decide +kernel
theorem d_Writer_decimal_4 : decode b_Writer_decimal 4 = .ok (.areturn, 1) := by decide +kernel
