theorem d_Fixed_limbOf_0 : decode b_Fixed_limbOf 0 = .ok (.iconst 0, 1) := by decide +kernel
theorem d_Fixed_limbOf_1 : decode b_Fixed_limbOf 1 = .ok (.istore_n 2, 1) := by decide +kernel
theorem d_Fixed_limbOf_2 : decode b_Fixed_limbOf 2 = .ok (.iconst 0, 1) := by decide +kernel
theorem d_Fixed_limbOf_3 : decode b_Fixed_limbOf 3 = .ok (.istore_n 3, 1) := by decide +kernel
theorem d_Fixed_limbOf_4 : decode b_Fixed_limbOf 4 = .ok (.iload_n 3, 1) := by decide +kernel
theorem d_Fixed_limbOf_5 : decode b_Fixed_limbOf 5 = .ok (.bipush 9, 2) := by decide +kernel
theorem d_Fixed_limbOf_7 : decode b_Fixed_limbOf 7 = .ok (.if_icmp .ge 22, 3) := by decide +kernel
theorem d_Fixed_limbOf_10 : decode b_Fixed_limbOf 10 = .ok (.bipush 10, 2) := by decide +kernel
theorem d_Fixed_limbOf_12 : decode b_Fixed_limbOf 12 = .ok (.iload_n 2, 1) := by decide +kernel
theorem d_Fixed_limbOf_13 : decode b_Fixed_limbOf 13 = .ok (.imul, 1) := by decide +kernel
theorem d_Fixed_limbOf_14 : decode b_Fixed_limbOf 14 = .ok (.aload_n 0, 1) := by decide +kernel
theorem d_Fixed_limbOf_15 : decode b_Fixed_limbOf 15 = .ok (.iload_n 1, 1) := by decide +kernel
theorem d_Fixed_limbOf_16 : decode b_Fixed_limbOf 16 = .ok (.iload_n 3, 1) := by decide +kernel
theorem d_Fixed_limbOf_17 : decode b_Fixed_limbOf 17 = .ok (.iadd, 1) := by decide +kernel
theorem d_Fixed_limbOf_18 : decode b_Fixed_limbOf 18 = .ok (.invokevirtual 49, 3) := by decide +kernel
theorem d_Fixed_limbOf_21 : decode b_Fixed_limbOf 21 = .ok (.iadd, 1) := by decide +kernel
theorem d_Fixed_limbOf_22 : decode b_Fixed_limbOf 22 = .ok (.istore_n 2, 1) := by decide +kernel
theorem d_Fixed_limbOf_23 : decode b_Fixed_limbOf 23 = .ok (.iinc 3 1, 3) := by decide +kernel
theorem d_Fixed_limbOf_26 : decode b_Fixed_limbOf 26 = .ok (.goto (-22), 3) := by decide +kernel
theorem d_Fixed_limbOf_29 : decode b_Fixed_limbOf 29 = .ok (.iload_n 2, 1) := by decide +kernel
theorem d_Fixed_limbOf_30 : decode b_Fixed_limbOf 30 = .ok (.ireturn, 1) := by decide +kernel
theorem d_Fixed_setDecimal_0 : decode b_Fixed_setDecimal 0 = .ok (.aload_n 1, 1) := by decide +kernel
theorem d_Fixed_setDecimal_1 : decode b_Fixed_setDecimal 1 = .ok (.invokevirtual 24, 3) := by decide +kernel
theorem d_Fixed_setDecimal_4 : decode b_Fixed_setDecimal 4 = .ok (.istore_n 2, 1) := by decide +kernel
theorem d_Fixed_setDecimal_5 : decode b_Fixed_setDecimal 5 = .ok (.aload_n 0, 1) := by decide +kernel
theorem d_Fixed_setDecimal_6 : decode b_Fixed_setDecimal 6 = .ok (.iconst 0, 1) := by decide +kernel
theorem d_Fixed_setDecimal_7 : decode b_Fixed_setDecimal 7 = .ok (.bipush 35, 2) := by decide +kernel
theorem d_Fixed_setDecimal_9 : decode b_Fixed_setDecimal 9 = .ok (.iload_n 2, 1) := by decide +kernel
theorem d_Fixed_setDecimal_10 : decode b_Fixed_setDecimal 10 = .ok (.ineg, 1) := by decide +kernel
theorem d_Fixed_setDecimal_11 : decode b_Fixed_setDecimal 11 = .ok (.bipush 9, 2) := by decide +kernel
theorem d_Fixed_setDecimal_13 : decode b_Fixed_setDecimal 13 = .ok (.invokestatic 30, 3) := by decide +kernel
theorem d_Fixed_setDecimal_16 : decode b_Fixed_setDecimal 16 = .ok (.iadd, 1) := by decide +kernel
theorem d_Fixed_setDecimal_17 : decode b_Fixed_setDecimal 17 = .ok (.invokestatic 36, 3) := by decide +kernel
theorem d_Fixed_setDecimal_20 : decode b_Fixed_setDecimal 20 = .ok (.putfield 15, 3) := by decide +kernel
theorem d_Fixed_setDecimal_23 : decode b_Fixed_setDecimal 23 = .ok (.bipush 35, 2) := by decide +kernel
theorem d_Fixed_setDecimal_25 : decode b_Fixed_setDecimal 25 = .ok (.aload_n 1, 1) := by decide +kernel
theorem d_Fixed_setDecimal_26 : decode b_Fixed_setDecimal 26 = .ok (.invokevirtual 39, 3) := by decide +kernel
theorem d_Fixed_setDecimal_29 : decode b_Fixed_setDecimal 29 = .ok (.iconst 1, 1) := by decide +kernel
theorem d_Fixed_setDecimal_30 : decode b_Fixed_setDecimal 30 = .ok (.isub, 1) := by decide +kernel
theorem d_Fixed_setDecimal_31 : decode b_Fixed_setDecimal 31 = .ok (.iload_n 2, 1) := by decide +kernel
theorem d_Fixed_setDecimal_32 : decode b_Fixed_setDecimal 32 = .ok (.isub, 1) := by decide +kernel
theorem d_Fixed_setDecimal_33 : decode b_Fixed_setDecimal 33 = .ok (.bipush 9, 2) := by decide +kernel
theorem d_Fixed_setDecimal_35 : decode b_Fixed_setDecimal 35 = .ok (.invokestatic 30, 3) := by decide +kernel
theorem d_Fixed_setDecimal_38 : decode b_Fixed_setDecimal 38 = .ok (.iadd, 1) := by decide +kernel
theorem d_Fixed_setDecimal_39 : decode b_Fixed_setDecimal 39 = .ok (.istore_n 3, 1) := by decide +kernel
theorem d_Fixed_setDecimal_40 : decode b_Fixed_setDecimal 40 = .ok (.aload_n 0, 1) := by decide +kernel
theorem d_Fixed_setDecimal_41 : decode b_Fixed_setDecimal 41 = .ok (.aload_n 0, 1) := by decide +kernel
theorem d_Fixed_setDecimal_42 : decode b_Fixed_setDecimal 42 = .ok (.getfield 11, 3) := by decide +kernel
theorem d_Fixed_setDecimal_45 : decode b_Fixed_setDecimal 45 = .ok (.arraylength, 1) := by decide +kernel
theorem d_Fixed_setDecimal_46 : decode b_Fixed_setDecimal 46 = .ok (.bipush 35, 2) := by decide +kernel
theorem d_Fixed_setDecimal_48 : decode b_Fixed_setDecimal 48 = .ok (.iload_n 3, 1) := by decide +kernel
theorem d_Fixed_setDecimal_49 : decode b_Fixed_setDecimal 49 = .ok (.iconst 1, 1) := by decide +kernel
theorem d_Fixed_setDecimal_50 : decode b_Fixed_setDecimal 50 = .ok (.iadd, 1) := by decide +kernel
theorem d_Fixed_setDecimal_51 : decode b_Fixed_setDecimal 51 = .ok (.invokestatic 36, 3) := by decide +kernel
theorem d_Fixed_setDecimal_54 : decode b_Fixed_setDecimal 54 = .ok (.invokestatic 42, 3) := by decide +kernel
theorem d_Fixed_setDecimal_57 : decode b_Fixed_setDecimal 57 = .ok (.putfield 19, 3) := by decide +kernel
theorem d_Fixed_setDecimal_60 : decode b_Fixed_setDecimal 60 = .ok (.aload_n 0, 1) := by decide +kernel
theorem d_Fixed_setDecimal_61 : decode b_Fixed_setDecimal 61 = .ok (.getfield 15, 3) := by decide +kernel
theorem d_Fixed_setDecimal_64 : decode b_Fixed_setDecimal 64 = .ok (.istore 4, 2) := by decide +kernel
theorem d_Fixed_setDecimal_66 : decode b_Fixed_setDecimal 66 = .ok (.iload 4, 2) := by decide +kernel
theorem d_Fixed_setDecimal_68 : decode b_Fixed_setDecimal 68 = .ok (.aload_n 0, 1) := by decide +kernel
theorem d_Fixed_setDecimal_69 : decode b_Fixed_setDecimal 69 = .ok (.getfield 19, 3) := by decide +kernel
theorem d_Fixed_setDecimal_72 : decode b_Fixed_setDecimal 72 = .ok (.if_icmp .ge 30, 3) := by decide +kernel
theorem d_Fixed_setDecimal_75 : decode b_Fixed_setDecimal 75 = .ok (.aload_n 0, 1) := by decide +kernel
theorem d_Fixed_setDecimal_76 : decode b_Fixed_setDecimal 76 = .ok (.getfield 11, 3) := by decide +kernel
theorem d_Fixed_setDecimal_79 : decode b_Fixed_setDecimal 79 = .ok (.iload 4, 2) := by decide +kernel
theorem d_Fixed_setDecimal_81 : decode b_Fixed_setDecimal 81 = .ok (.aload_n 1, 1) := by decide +kernel
theorem d_Fixed_setDecimal_82 : decode b_Fixed_setDecimal 82 = .ok (.iload 4, 2) := by decide +kernel
theorem d_Fixed_setDecimal_84 : decode b_Fixed_setDecimal 84 = .ok (.bipush 35, 2) := by decide +kernel
theorem d_Fixed_setDecimal_86 : decode b_Fixed_setDecimal 86 = .ok (.isub, 1) := by decide +kernel
theorem d_Fixed_setDecimal_87 : decode b_Fixed_setDecimal 87 = .ok (.bipush 9, 2) := by decide +kernel
theorem d_Fixed_setDecimal_89 : decode b_Fixed_setDecimal 89 = .ok (.imul, 1) := by decide +kernel
theorem d_Fixed_setDecimal_90 : decode b_Fixed_setDecimal 90 = .ok (.iload_n 2, 1) := by decide +kernel
theorem d_Fixed_setDecimal_91 : decode b_Fixed_setDecimal 91 = .ok (.iadd, 1) := by decide +kernel
theorem d_Fixed_setDecimal_92 : decode b_Fixed_setDecimal 92 = .ok (.invokestatic 45, 3) := by decide +kernel
theorem d_Fixed_setDecimal_95 : decode b_Fixed_setDecimal 95 = .ok (.iastore, 1) := by decide +kernel
theorem d_Fixed_setDecimal_96 : decode b_Fixed_setDecimal 96 = .ok (.iinc 4 1, 3) := by decide +kernel
theorem d_Fixed_setDecimal_99 : decode b_Fixed_setDecimal 99 = .ok (.goto (-33), 3) := by decide +kernel
theorem d_Fixed_setDecimal_102 : decode b_Fixed_setDecimal 102 = .ok (.return_, 1) := by decide +kernel
theorem d_Fixed_isAboveHead_0 : decode b_Fixed_isAboveHead 0 = .ok (.bipush 35, 2) := by decide +kernel
theorem d_Fixed_isAboveHead_2 : decode b_Fixed_isAboveHead 2 = .ok (.aload_n 0, 1) := by decide +kernel
theorem d_Fixed_isAboveHead_3 : decode b_Fixed_isAboveHead 3 = .ok (.getfield 15, 3) := by decide +kernel
theorem d_Fixed_isAboveHead_6 : decode b_Fixed_isAboveHead 6 = .ok (.isub, 1) := by decide +kernel
theorem d_Fixed_isAboveHead_7 : decode b_Fixed_isAboveHead 7 = .ok (.iconst 2, 1) := by decide +kernel
theorem d_Fixed_isAboveHead_8 : decode b_Fixed_isAboveHead 8 = .ok (.if_icmp .le 7, 3) := by decide +kernel
theorem d_Fixed_isAboveHead_11 : decode b_Fixed_isAboveHead 11 = .ok (.iconst 1, 1) := by decide +kernel
theorem d_Fixed_isAboveHead_12 : decode b_Fixed_isAboveHead 12 = .ok (.goto 4, 3) := by decide +kernel
theorem d_Fixed_isAboveHead_15 : decode b_Fixed_isAboveHead 15 = .ok (.iconst 0, 1) := by decide +kernel
theorem d_Fixed_isAboveHead_16 : decode b_Fixed_isAboveHead 16 = .ok (.ireturn, 1) := by decide +kernel
theorem d_Fixed_limb_0 : decode b_Fixed_limb 0 = .ok (.iload_n 1, 1) := by decide +kernel
theorem d_Fixed_limb_1 : decode b_Fixed_limb 1 = .ok (.aload_n 0, 1) := by decide +kernel
theorem d_Fixed_limb_2 : decode b_Fixed_limb 2 = .ok (.getfield 15, 3) := by decide +kernel
theorem d_Fixed_limb_5 : decode b_Fixed_limb 5 = .ok (.if_icmp .lt 30, 3) := by decide +kernel
theorem d_Fixed_limb_8 : decode b_Fixed_limb 8 = .ok (.iload_n 1, 1) := by decide +kernel
theorem d_Fixed_limb_9 : decode b_Fixed_limb 9 = .ok (.aload_n 0, 1) := by decide +kernel
theorem d_Fixed_limb_10 : decode b_Fixed_limb 10 = .ok (.getfield 19, 3) := by decide +kernel
theorem d_Fixed_limb_13 : decode b_Fixed_limb 13 = .ok (.if_icmp .ge 22, 3) := by decide +kernel
theorem d_Fixed_limb_16 : decode b_Fixed_limb 16 = .ok (.iload_n 1, 1) := by decide +kernel
theorem d_Fixed_limb_17 : decode b_Fixed_limb 17 = .ok (.aload_n 0, 1) := by decide +kernel
theorem d_Fixed_limb_18 : decode b_Fixed_limb 18 = .ok (.getfield 11, 3) := by decide +kernel
theorem d_Fixed_limb_21 : decode b_Fixed_limb 21 = .ok (.arraylength, 1) := by decide +kernel
theorem d_Fixed_limb_22 : decode b_Fixed_limb 22 = .ok (.if_icmp .ge 13, 3) := by decide +kernel
theorem d_Fixed_limb_25 : decode b_Fixed_limb 25 = .ok (.aload_n 0, 1) := by decide +kernel
theorem d_Fixed_limb_26 : decode b_Fixed_limb 26 = .ok (.getfield 11, 3) := by decide +kernel
theorem d_Fixed_limb_29 : decode b_Fixed_limb 29 = .ok (.iload_n 1, 1) := by decide +kernel
theorem d_Fixed_limb_30 : decode b_Fixed_limb 30 = .ok (.iaload, 1) := by decide +kernel
theorem d_Fixed_limb_31 : decode b_Fixed_limb 31 = .ok (.i2l, 1) := by decide +kernel
theorem d_Fixed_limb_32 : decode b_Fixed_limb 32 = .ok (.goto 4, 3) := by decide +kernel
theorem d_Fixed_limb_35 : decode b_Fixed_limb 35 = .ok (.lconst 0, 1) := by decide +kernel
theorem d_Fixed_limb_36 : decode b_Fixed_limb 36 = .ok (.lreturn, 1) := by decide +kernel
theorem d_Fixed_multiply_0 : decode b_Fixed_multiply 0 = .ok (.lconst 0, 1) := by decide +kernel
theorem d_Fixed_multiply_1 : decode b_Fixed_multiply 1 = .ok (.lstore_n 2, 1) := by decide +kernel
theorem d_Fixed_multiply_2 : decode b_Fixed_multiply 2 = .ok (.aload_n 0, 1) := by decide +kernel
theorem d_Fixed_multiply_3 : decode b_Fixed_multiply 3 = .ok (.getfield 19, 3) := by decide +kernel
theorem d_Fixed_multiply_6 : decode b_Fixed_multiply 6 = .ok (.aload_n 0, 1) := by decide +kernel
theorem d_Fixed_multiply_7 : decode b_Fixed_multiply 7 = .ok (.getfield 11, 3) := by decide +kernel
theorem d_Fixed_multiply_10 : decode b_Fixed_multiply 10 = .ok (.arraylength, 1) := by decide +kernel
theorem d_Fixed_multiply_11 : decode b_Fixed_multiply 11 = .ok (.invokestatic 42, 3) := by decide +kernel
theorem d_Fixed_multiply_14 : decode b_Fixed_multiply 14 = .ok (.iconst 1, 1) := by decide +kernel
theorem d_Fixed_multiply_15 : decode b_Fixed_multiply 15 = .ok (.isub, 1) := by decide +kernel
theorem d_Fixed_multiply_16 : decode b_Fixed_multiply 16 = .ok (.istore 4, 2) := by decide +kernel
theorem d_Fixed_multiply_18 : decode b_Fixed_multiply 18 = .ok (.iload 4, 2) := by decide +kernel
theorem d_Fixed_multiply_20 : decode b_Fixed_multiply 20 = .ok (.ifCond .lt 78, 3) := by decide +kernel
theorem d_Fixed_multiply_23 : decode b_Fixed_multiply 23 = .ok (.iload 4, 2) := by decide +kernel
theorem d_Fixed_multiply_25 : decode b_Fixed_multiply 25 = .ok (.aload_n 0, 1) := by decide +kernel
theorem d_Fixed_multiply_26 : decode b_Fixed_multiply 26 = .ok (.getfield 15, 3) := by decide +kernel
theorem d_Fixed_multiply_29 : decode b_Fixed_multiply 29 = .ok (.if_icmp .ge 26, 3) := by decide +kernel
theorem d_Fixed_multiply_32 : decode b_Fixed_multiply 32 = .ok (.lload_n 2, 1) := by decide +kernel
theorem d_Fixed_multiply_33 : decode b_Fixed_multiply 33 = .ok (.lconst 0, 1) := by decide +kernel
theorem d_Fixed_multiply_34 : decode b_Fixed_multiply 34 = .ok (.lcmp, 1) := by decide +kernel
theorem d_Fixed_multiply_35 : decode b_Fixed_multiply 35 = .ok (.ifCond .ne 6, 3) := by decide +kernel
theorem d_Fixed_multiply_38 : decode b_Fixed_multiply 38 = .ok (.goto 60, 3) := by decide +kernel
theorem d_Fixed_multiply_41 : decode b_Fixed_multiply 41 = .ok (.aload_n 0, 1) := by decide +kernel
theorem d_Fixed_multiply_42 : decode b_Fixed_multiply 42 = .ok (.getfield 11, 3) := by decide +kernel
theorem d_Fixed_multiply_45 : decode b_Fixed_multiply 45 = .ok (.iload 4, 2) := by decide +kernel
theorem d_Fixed_multiply_47 : decode b_Fixed_multiply 47 = .ok (.iconst 0, 1) := by decide +kernel
theorem d_Fixed_multiply_48 : decode b_Fixed_multiply 48 = .ok (.iastore, 1) := by decide +kernel
theorem d_Fixed_multiply_49 : decode b_Fixed_multiply 49 = .ok (.aload_n 0, 1) := by decide +kernel
theorem d_Fixed_multiply_50 : decode b_Fixed_multiply 50 = .ok (.iload 4, 2) := by decide +kernel
theorem d_Fixed_multiply_52 : decode b_Fixed_multiply 52 = .ok (.putfield 15, 3) := by decide +kernel
theorem d_Fixed_multiply_55 : decode b_Fixed_multiply 55 = .ok (.aload_n 0, 1) := by decide +kernel
theorem d_Fixed_multiply_56 : decode b_Fixed_multiply 56 = .ok (.getfield 11, 3) := by decide +kernel
theorem d_Fixed_multiply_59 : decode b_Fixed_multiply 59 = .ok (.iload 4, 2) := by decide +kernel
theorem d_Fixed_multiply_61 : decode b_Fixed_multiply 61 = .ok (.iaload, 1) := by decide +kernel
theorem d_Fixed_multiply_62 : decode b_Fixed_multiply 62 = .ok (.i2l, 1) := by decide +kernel
theorem d_Fixed_multiply_63 : decode b_Fixed_multiply 63 = .ok (.iload_n 1, 1) := by decide +kernel
theorem d_Fixed_multiply_64 : decode b_Fixed_multiply 64 = .ok (.lshl, 1) := by decide +kernel
theorem d_Fixed_multiply_65 : decode b_Fixed_multiply 65 = .ok (.lload_n 2, 1) := by decide +kernel
theorem d_Fixed_multiply_66 : decode b_Fixed_multiply 66 = .ok (.ladd, 1) := by decide +kernel
theorem d_Fixed_multiply_67 : decode b_Fixed_multiply 67 = .ok (.lstore 5, 2) := by decide +kernel
theorem d_Fixed_multiply_69 : decode b_Fixed_multiply 69 = .ok (.lload 5, 2) := by decide +kernel
theorem d_Fixed_multiply_71 : decode b_Fixed_multiply 71 = .ok (.ldc2_w 22, 3) := by decide +kernel
theorem d_Fixed_multiply_74 : decode b_Fixed_multiply 74 = .ok (.ldiv, 1) := by decide +kernel
theorem d_Fixed_multiply_75 : decode b_Fixed_multiply 75 = .ok (.lstore_n 2, 1) := by decide +kernel
theorem d_Fixed_multiply_76 : decode b_Fixed_multiply 76 = .ok (.aload_n 0, 1) := by decide +kernel
theorem d_Fixed_multiply_77 : decode b_Fixed_multiply 77 = .ok (.getfield 11, 3) := by decide +kernel
theorem d_Fixed_multiply_80 : decode b_Fixed_multiply 80 = .ok (.iload 4, 2) := by decide +kernel
theorem d_Fixed_multiply_82 : decode b_Fixed_multiply 82 = .ok (.lload 5, 2) := by decide +kernel
theorem d_Fixed_multiply_84 : decode b_Fixed_multiply 84 = .ok (.lload_n 2, 1) := by decide +kernel
theorem d_Fixed_multiply_85 : decode b_Fixed_multiply 85 = .ok (.ldc2_w 22, 3) := by decide +kernel
theorem d_Fixed_multiply_88 : decode b_Fixed_multiply 88 = .ok (.lmul, 1) := by decide +kernel
theorem d_Fixed_multiply_89 : decode b_Fixed_multiply 89 = .ok (.lsub, 1) := by decide +kernel
theorem d_Fixed_multiply_90 : decode b_Fixed_multiply 90 = .ok (.l2i, 1) := by decide +kernel
theorem d_Fixed_multiply_91 : decode b_Fixed_multiply 91 = .ok (.iastore, 1) := by decide +kernel
theorem d_Fixed_multiply_92 : decode b_Fixed_multiply 92 = .ok (.iinc 4 (-1), 3) := by decide +kernel
theorem d_Fixed_multiply_95 : decode b_Fixed_multiply 95 = .ok (.goto (-77), 3) := by decide +kernel
theorem d_Fixed_multiply_98 : decode b_Fixed_multiply 98 = .ok (.aload_n 0, 1) := by decide +kernel
theorem d_Fixed_multiply_99 : decode b_Fixed_multiply 99 = .ok (.getfield 19, 3) := by decide +kernel
theorem d_Fixed_multiply_102 : decode b_Fixed_multiply 102 = .ok (.bipush 35, 2) := by decide +kernel
theorem d_Fixed_multiply_104 : decode b_Fixed_multiply 104 = .ok (.if_icmp .le 31, 3) := by decide +kernel
theorem d_Fixed_multiply_107 : decode b_Fixed_multiply 107 = .ok (.aload_n 0, 1) := by decide +kernel
theorem d_Fixed_multiply_108 : decode b_Fixed_multiply 108 = .ok (.aload_n 0, 1) := by decide +kernel
theorem d_Fixed_multiply_109 : decode b_Fixed_multiply 109 = .ok (.getfield 19, 3) := by decide +kernel
theorem d_Fixed_multiply_112 : decode b_Fixed_multiply 112 = .ok (.iconst 1, 1) := by decide +kernel
theorem d_Fixed_multiply_113 : decode b_Fixed_multiply 113 = .ok (.isub, 1) := by decide +kernel
theorem d_Fixed_multiply_114 : decode b_Fixed_multiply 114 = .ok (.invokevirtual 60, 3) := by decide +kernel
theorem d_Fixed_multiply_117 : decode b_Fixed_multiply 117 = .ok (.lconst 0, 1) := by decide +kernel
theorem d_Fixed_multiply_118 : decode b_Fixed_multiply 118 = .ok (.lcmp, 1) := by decide +kernel
theorem d_Fixed_multiply_119 : decode b_Fixed_multiply 119 = .ok (.ifCond .ne 16, 3) := by decide +kernel
theorem d_Fixed_multiply_122 : decode b_Fixed_multiply 122 = .ok (.aload_n 0, 1) := by decide +kernel
theorem d_Fixed_multiply_123 : decode b_Fixed_multiply 123 = .ok (.dup, 1) := by decide +kernel
theorem d_Fixed_multiply_124 : decode b_Fixed_multiply 124 = .ok (.getfield 19, 3) := by decide +kernel
theorem d_Fixed_multiply_127 : decode b_Fixed_multiply 127 = .ok (.iconst 1, 1) := by decide +kernel
theorem d_Fixed_multiply_128 : decode b_Fixed_multiply 128 = .ok (.isub, 1) := by decide +kernel
theorem d_Fixed_multiply_129 : decode b_Fixed_multiply 129 = .ok (.putfield 19, 3) := by decide +kernel
theorem d_Fixed_multiply_132 : decode b_Fixed_multiply 132 = .ok (.goto (-34), 3) := by decide +kernel
theorem d_Fixed_multiply_135 : decode b_Fixed_multiply 135 = .ok (.return_, 1) := by decide +kernel
theorem d_Fixed_divide_0 : decode b_Fixed_divide 0 = .ok (.lconst 1, 1) := by decide +kernel
theorem d_Fixed_divide_1 : decode b_Fixed_divide 1 = .ok (.iload_n 1, 1) := by decide +kernel
theorem d_Fixed_divide_2 : decode b_Fixed_divide 2 = .ok (.lshl, 1) := by decide +kernel
theorem d_Fixed_divide_3 : decode b_Fixed_divide 3 = .ok (.lconst 1, 1) := by decide +kernel
theorem d_Fixed_divide_4 : decode b_Fixed_divide 4 = .ok (.lsub, 1) := by decide +kernel
theorem d_Fixed_divide_5 : decode b_Fixed_divide 5 = .ok (.lstore_n 2, 1) := by decide +kernel
theorem d_Fixed_divide_6 : decode b_Fixed_divide 6 = .ok (.lconst 0, 1) := by decide +kernel
theorem d_Fixed_divide_7 : decode b_Fixed_divide 7 = .ok (.lstore 4, 2) := by decide +kernel
theorem d_Fixed_divide_9 : decode b_Fixed_divide 9 = .ok (.iconst 0, 1) := by decide +kernel
theorem d_Fixed_divide_10 : decode b_Fixed_divide 10 = .ok (.aload_n 0, 1) := by decide +kernel
theorem d_Fixed_divide_11 : decode b_Fixed_divide 11 = .ok (.getfield 15, 3) := by decide +kernel
theorem d_Fixed_divide_14 : decode b_Fixed_divide 14 = .ok (.invokestatic 36, 3) := by decide +kernel
theorem d_Fixed_divide_17 : decode b_Fixed_divide 17 = .ok (.istore 6, 2) := by decide +kernel
theorem d_Fixed_divide_19 : decode b_Fixed_divide 19 = .ok (.iload 6, 2) := by decide +kernel
theorem d_Fixed_divide_21 : decode b_Fixed_divide 21 = .ok (.aload_n 0, 1) := by decide +kernel
theorem d_Fixed_divide_22 : decode b_Fixed_divide 22 = .ok (.getfield 11, 3) := by decide +kernel
theorem d_Fixed_divide_25 : decode b_Fixed_divide 25 = .ok (.arraylength, 1) := by decide +kernel
theorem d_Fixed_divide_26 : decode b_Fixed_divide 26 = .ok (.if_icmp .ge 79, 3) := by decide +kernel
theorem d_Fixed_divide_29 : decode b_Fixed_divide 29 = .ok (.iload 6, 2) := by decide +kernel
theorem d_Fixed_divide_31 : decode b_Fixed_divide 31 = .ok (.aload_n 0, 1) := by decide +kernel
theorem d_Fixed_divide_32 : decode b_Fixed_divide 32 = .ok (.getfield 19, 3) := by decide +kernel
theorem d_Fixed_divide_35 : decode b_Fixed_divide 35 = .ok (.if_icmp .lt 29, 3) := by decide +kernel
theorem d_Fixed_divide_38 : decode b_Fixed_divide 38 = .ok (.lload 4, 2) := by decide +kernel
theorem d_Fixed_divide_40 : decode b_Fixed_divide 40 = .ok (.lconst 0, 1) := by decide +kernel
theorem d_Fixed_divide_41 : decode b_Fixed_divide 41 = .ok (.lcmp, 1) := by decide +kernel
theorem d_Fixed_divide_42 : decode b_Fixed_divide 42 = .ok (.ifCond .ne 6, 3) := by decide +kernel
theorem d_Fixed_divide_45 : decode b_Fixed_divide 45 = .ok (.goto 60, 3) := by decide +kernel
theorem d_Fixed_divide_48 : decode b_Fixed_divide 48 = .ok (.aload_n 0, 1) := by decide +kernel
theorem d_Fixed_divide_49 : decode b_Fixed_divide 49 = .ok (.getfield 11, 3) := by decide +kernel
theorem d_Fixed_divide_52 : decode b_Fixed_divide 52 = .ok (.iload 6, 2) := by decide +kernel
theorem d_Fixed_divide_54 : decode b_Fixed_divide 54 = .ok (.iconst 0, 1) := by decide +kernel
theorem d_Fixed_divide_55 : decode b_Fixed_divide 55 = .ok (.iastore, 1) := by decide +kernel
theorem d_Fixed_divide_56 : decode b_Fixed_divide 56 = .ok (.aload_n 0, 1) := by decide +kernel
theorem d_Fixed_divide_57 : decode b_Fixed_divide 57 = .ok (.iload 6, 2) := by decide +kernel
theorem d_Fixed_divide_59 : decode b_Fixed_divide 59 = .ok (.iconst 1, 1) := by decide +kernel
theorem d_Fixed_divide_60 : decode b_Fixed_divide 60 = .ok (.iadd, 1) := by decide +kernel
theorem d_Fixed_divide_61 : decode b_Fixed_divide 61 = .ok (.putfield 19, 3) := by decide +kernel
theorem d_Fixed_divide_64 : decode b_Fixed_divide 64 = .ok (.lload 4, 2) := by decide +kernel
theorem d_Fixed_divide_66 : decode b_Fixed_divide 66 = .ok (.ldc2_w 22, 3) := by decide +kernel
theorem d_Fixed_divide_69 : decode b_Fixed_divide 69 = .ok (.lmul, 1) := by decide +kernel
theorem d_Fixed_divide_70 : decode b_Fixed_divide 70 = .ok (.aload_n 0, 1) := by decide +kernel
theorem d_Fixed_divide_71 : decode b_Fixed_divide 71 = .ok (.getfield 11, 3) := by decide +kernel
theorem d_Fixed_divide_74 : decode b_Fixed_divide 74 = .ok (.iload 6, 2) := by decide +kernel
theorem d_Fixed_divide_76 : decode b_Fixed_divide 76 = .ok (.iaload, 1) := by decide +kernel
theorem d_Fixed_divide_77 : decode b_Fixed_divide 77 = .ok (.i2l, 1) := by decide +kernel
theorem d_Fixed_divide_78 : decode b_Fixed_divide 78 = .ok (.ladd, 1) := by decide +kernel
theorem d_Fixed_divide_79 : decode b_Fixed_divide 79 = .ok (.lstore 7, 2) := by decide +kernel
theorem d_Fixed_divide_81 : decode b_Fixed_divide 81 = .ok (.aload_n 0, 1) := by decide +kernel
theorem d_Fixed_divide_82 : decode b_Fixed_divide 82 = .ok (.getfield 11, 3) := by decide +kernel
theorem d_Fixed_divide_85 : decode b_Fixed_divide 85 = .ok (.iload 6, 2) := by decide +kernel
theorem d_Fixed_divide_87 : decode b_Fixed_divide 87 = .ok (.lload 7, 2) := by decide +kernel
theorem d_Fixed_divide_89 : decode b_Fixed_divide 89 = .ok (.iload_n 1, 1) := by decide +kernel
theorem d_Fixed_divide_90 : decode b_Fixed_divide 90 = .ok (.lushr, 1) := by decide +kernel
theorem d_Fixed_divide_91 : decode b_Fixed_divide 91 = .ok (.l2i, 1) := by decide +kernel
theorem d_Fixed_divide_92 : decode b_Fixed_divide 92 = .ok (.iastore, 1) := by decide +kernel
theorem d_Fixed_divide_93 : decode b_Fixed_divide 93 = .ok (.lload 7, 2) := by decide +kernel
theorem d_Fixed_divide_95 : decode b_Fixed_divide 95 = .ok (.lload_n 2, 1) := by decide +kernel
theorem d_Fixed_divide_96 : decode b_Fixed_divide 96 = .ok (.land, 1) := by decide +kernel
theorem d_Fixed_divide_97 : decode b_Fixed_divide 97 = .ok (.lstore 4, 2) := by decide +kernel
theorem d_Fixed_divide_99 : decode b_Fixed_divide 99 = .ok (.iinc 6 1, 3) := by decide +kernel
theorem d_Fixed_divide_102 : decode b_Fixed_divide 102 = .ok (.goto (-83), 3) := by decide +kernel
theorem d_Fixed_divide_105 : decode b_Fixed_divide 105 = .ok (.aload_n 0, 1) := by decide +kernel
theorem d_Fixed_divide_106 : decode b_Fixed_divide 106 = .ok (.getfield 15, 3) := by decide +kernel
theorem d_Fixed_divide_109 : decode b_Fixed_divide 109 = .ok (.aload_n 0, 1) := by decide +kernel
theorem d_Fixed_divide_110 : decode b_Fixed_divide 110 = .ok (.getfield 19, 3) := by decide +kernel
theorem d_Fixed_divide_113 : decode b_Fixed_divide 113 = .ok (.if_icmp .ge 29, 3) := by decide +kernel
theorem d_Fixed_divide_116 : decode b_Fixed_divide 116 = .ok (.aload_n 0, 1) := by decide +kernel
theorem d_Fixed_divide_117 : decode b_Fixed_divide 117 = .ok (.aload_n 0, 1) := by decide +kernel
theorem d_Fixed_divide_118 : decode b_Fixed_divide 118 = .ok (.getfield 15, 3) := by decide +kernel
theorem d_Fixed_divide_121 : decode b_Fixed_divide 121 = .ok (.invokevirtual 60, 3) := by decide +kernel
theorem d_Fixed_divide_124 : decode b_Fixed_divide 124 = .ok (.lconst 0, 1) := by decide +kernel
theorem d_Fixed_divide_125 : decode b_Fixed_divide 125 = .ok (.lcmp, 1) := by decide +kernel
theorem d_Fixed_divide_126 : decode b_Fixed_divide 126 = .ok (.ifCond .ne 16, 3) := by decide +kernel
theorem d_Fixed_divide_129 : decode b_Fixed_divide 129 = .ok (.aload_n 0, 1) := by decide +kernel
theorem d_Fixed_divide_130 : decode b_Fixed_divide 130 = .ok (.dup, 1) := by decide +kernel
theorem d_Fixed_divide_131 : decode b_Fixed_divide 131 = .ok (.getfield 15, 3) := by decide +kernel
theorem d_Fixed_divide_134 : decode b_Fixed_divide 134 = .ok (.iconst 1, 1) := by decide +kernel
theorem d_Fixed_divide_135 : decode b_Fixed_divide 135 = .ok (.iadd, 1) := by decide +kernel
theorem d_Fixed_divide_136 : decode b_Fixed_divide 136 = .ok (.putfield 15, 3) := by decide +kernel
theorem d_Fixed_divide_139 : decode b_Fixed_divide 139 = .ok (.goto (-34), 3) := by decide +kernel
theorem d_Fixed_divide_142 : decode b_Fixed_divide 142 = .ok (.return_, 1) := by decide +kernel
theorem d_Fixed_scale_0 : decode b_Fixed_scale 0 = .ok (.iload_n 1, 1) := by decide +kernel
theorem d_Fixed_scale_1 : decode b_Fixed_scale 1 = .ok (.istore_n 2, 1) := by decide +kernel
theorem d_Fixed_scale_2 : decode b_Fixed_scale 2 = .ok (.iload_n 2, 1) := by decide +kernel
theorem d_Fixed_scale_3 : decode b_Fixed_scale 3 = .ok (.ifCond .le 19, 3) := by decide +kernel
theorem d_Fixed_scale_6 : decode b_Fixed_scale 6 = .ok (.aload_n 0, 1) := by decide +kernel
theorem d_Fixed_scale_7 : decode b_Fixed_scale 7 = .ok (.iload_n 2, 1) := by decide +kernel
theorem d_Fixed_scale_8 : decode b_Fixed_scale 8 = .ok (.bipush 33, 2) := by decide +kernel
theorem d_Fixed_scale_10 : decode b_Fixed_scale 10 = .ok (.invokestatic 42, 3) := by decide +kernel
theorem d_Fixed_scale_13 : decode b_Fixed_scale 13 = .ok (.invokevirtual 64, 3) := by decide +kernel
theorem d_Fixed_scale_16 : decode b_Fixed_scale 16 = .ok (.iinc 2 (-33), 3) := by decide +kernel
theorem d_Fixed_scale_19 : decode b_Fixed_scale 19 = .ok (.goto (-17), 3) := by decide +kernel
theorem d_Fixed_scale_22 : decode b_Fixed_scale 22 = .ok (.iload_n 1, 1) := by decide +kernel
theorem d_Fixed_scale_23 : decode b_Fixed_scale 23 = .ok (.ineg, 1) := by decide +kernel
theorem d_Fixed_scale_24 : decode b_Fixed_scale 24 = .ok (.istore_n 2, 1) := by decide +kernel
theorem d_Fixed_scale_25 : decode b_Fixed_scale 25 = .ok (.iload_n 2, 1) := by decide +kernel
theorem d_Fixed_scale_26 : decode b_Fixed_scale 26 = .ok (.ifCond .le 19, 3) := by decide +kernel
theorem d_Fixed_scale_29 : decode b_Fixed_scale 29 = .ok (.aload_n 0, 1) := by decide +kernel
theorem d_Fixed_scale_30 : decode b_Fixed_scale 30 = .ok (.iload_n 2, 1) := by decide +kernel
theorem d_Fixed_scale_31 : decode b_Fixed_scale 31 = .ok (.bipush 33, 2) := by decide +kernel
theorem d_Fixed_scale_33 : decode b_Fixed_scale 33 = .ok (.invokestatic 42, 3) := by decide +kernel
theorem d_Fixed_scale_36 : decode b_Fixed_scale 36 = .ok (.invokevirtual 67, 3) := by decide +kernel
theorem d_Fixed_scale_39 : decode b_Fixed_scale 39 = .ok (.iinc 2 (-33), 3) := by decide +kernel
theorem d_Fixed_scale_42 : decode b_Fixed_scale 42 = .ok (.goto (-17), 3) := by decide +kernel
theorem d_Fixed_scale_45 : decode b_Fixed_scale 45 = .ok (.return_, 1) := by decide +kernel
theorem d_Fixed_head_0 : decode b_Fixed_head 0 = .ok (.aload_n 0, 1) := by decide +kernel
theorem d_Fixed_head_1 : decode b_Fixed_head 1 = .ok (.bipush 33, 2) := by decide +kernel
theorem d_Fixed_head_3 : decode b_Fixed_head 3 = .ok (.invokevirtual 60, 3) := by decide +kernel
theorem d_Fixed_head_6 : decode b_Fixed_head 6 = .ok (.ldc2_w 22, 3) := by decide +kernel
theorem d_Fixed_head_9 : decode b_Fixed_head 9 = .ok (.lmul, 1) := by decide +kernel
theorem d_Fixed_head_10 : decode b_Fixed_head 10 = .ok (.aload_n 0, 1) := by decide +kernel
theorem d_Fixed_head_11 : decode b_Fixed_head 11 = .ok (.bipush 34, 2) := by decide +kernel
theorem d_Fixed_head_13 : decode b_Fixed_head 13 = .ok (.invokevirtual 60, 3) := by decide +kernel
theorem d_Fixed_head_16 : decode b_Fixed_head 16 = .ok (.ladd, 1) := by decide +kernel
theorem d_Fixed_head_17 : decode b_Fixed_head 17 = .ok (.lreturn, 1) := by decide +kernel
theorem d_Fixed_hasPlaces_0 : decode b_Fixed_hasPlaces 0 = .ok (.aload_n 0, 1) := by decide +kernel
theorem d_Fixed_hasPlaces_1 : decode b_Fixed_hasPlaces 1 = .ok (.getfield 19, 3) := by decide +kernel
theorem d_Fixed_hasPlaces_4 : decode b_Fixed_hasPlaces 4 = .ok (.bipush 35, 2) := by decide +kernel
theorem d_Fixed_hasPlaces_6 : decode b_Fixed_hasPlaces 6 = .ok (.if_icmp .le 7, 3) := by decide +kernel
theorem d_Fixed_hasPlaces_9 : decode b_Fixed_hasPlaces 9 = .ok (.iconst 1, 1) := by decide +kernel
theorem d_Fixed_hasPlaces_10 : decode b_Fixed_hasPlaces 10 = .ok (.goto 4, 3) := by decide +kernel
theorem d_Fixed_hasPlaces_13 : decode b_Fixed_hasPlaces 13 = .ok (.iconst 0, 1) := by decide +kernel
theorem d_Fixed_hasPlaces_14 : decode b_Fixed_hasPlaces 14 = .ok (.ireturn, 1) := by decide +kernel
theorem d_Fixed_setWhole_0 : decode b_Fixed_setWhole 0 = .ok (.aload_n 0, 1) := by decide +kernel
theorem d_Fixed_setWhole_1 : decode b_Fixed_setWhole 1 = .ok (.bipush 35, 2) := by decide +kernel
theorem d_Fixed_setWhole_3 : decode b_Fixed_setWhole 3 = .ok (.putfield 15, 3) := by decide +kernel
theorem d_Fixed_setWhole_6 : decode b_Fixed_setWhole 6 = .ok (.aload_n 0, 1) := by decide +kernel
theorem d_Fixed_setWhole_7 : decode b_Fixed_setWhole 7 = .ok (.bipush 35, 2) := by decide +kernel
theorem d_Fixed_setWhole_9 : decode b_Fixed_setWhole 9 = .ok (.putfield 19, 3) := by decide +kernel
theorem d_Fixed_setWhole_12 : decode b_Fixed_setWhole 12 = .ok (.lload_n 1, 1) := by decide +kernel
theorem d_Fixed_setWhole_13 : decode b_Fixed_setWhole 13 = .ok (.lstore_n 3, 1) := by decide +kernel
theorem d_Fixed_setWhole_14 : decode b_Fixed_setWhole 14 = .ok (.lload_n 3, 1) := by decide +kernel
theorem d_Fixed_setWhole_15 : decode b_Fixed_setWhole 15 = .ok (.lconst 0, 1) := by decide +kernel
theorem d_Fixed_setWhole_16 : decode b_Fixed_setWhole 16 = .ok (.lcmp, 1) := by decide +kernel
theorem d_Fixed_setWhole_17 : decode b_Fixed_setWhole 17 = .ok (.ifCond .le 44, 3) := by decide +kernel
theorem d_Fixed_setWhole_20 : decode b_Fixed_setWhole 20 = .ok (.aload_n 0, 1) := by decide +kernel
theorem d_Fixed_setWhole_21 : decode b_Fixed_setWhole 21 = .ok (.getfield 15, 3) := by decide +kernel
theorem d_Fixed_setWhole_24 : decode b_Fixed_setWhole 24 = .ok (.ifCond .le 37, 3) := by decide +kernel
theorem d_Fixed_setWhole_27 : decode b_Fixed_setWhole 27 = .ok (.aload_n 0, 1) := by decide +kernel
theorem d_Fixed_setWhole_28 : decode b_Fixed_setWhole 28 = .ok (.dup, 1) := by decide +kernel
theorem d_Fixed_setWhole_29 : decode b_Fixed_setWhole 29 = .ok (.getfield 15, 3) := by decide +kernel
theorem d_Fixed_setWhole_32 : decode b_Fixed_setWhole 32 = .ok (.iconst 1, 1) := by decide +kernel
theorem d_Fixed_setWhole_33 : decode b_Fixed_setWhole 33 = .ok (.isub, 1) := by decide +kernel
theorem d_Fixed_setWhole_34 : decode b_Fixed_setWhole 34 = .ok (.putfield 15, 3) := by decide +kernel
theorem d_Fixed_setWhole_37 : decode b_Fixed_setWhole 37 = .ok (.aload_n 0, 1) := by decide +kernel
theorem d_Fixed_setWhole_38 : decode b_Fixed_setWhole 38 = .ok (.getfield 11, 3) := by decide +kernel
theorem d_Fixed_setWhole_41 : decode b_Fixed_setWhole 41 = .ok (.aload_n 0, 1) := by decide +kernel
theorem d_Fixed_setWhole_42 : decode b_Fixed_setWhole 42 = .ok (.getfield 15, 3) := by decide +kernel
theorem d_Fixed_setWhole_45 : decode b_Fixed_setWhole 45 = .ok (.lload_n 3, 1) := by decide +kernel
theorem d_Fixed_setWhole_46 : decode b_Fixed_setWhole 46 = .ok (.ldc2_w 22, 3) := by decide +kernel
theorem d_Fixed_setWhole_49 : decode b_Fixed_setWhole 49 = .ok (.lrem, 1) := by decide +kernel
theorem d_Fixed_setWhole_50 : decode b_Fixed_setWhole 50 = .ok (.l2i, 1) := by decide +kernel
theorem d_Fixed_setWhole_51 : decode b_Fixed_setWhole 51 = .ok (.iastore, 1) := by decide +kernel
theorem d_Fixed_setWhole_52 : decode b_Fixed_setWhole 52 = .ok (.lload_n 3, 1) := by decide +kernel
theorem d_Fixed_setWhole_53 : decode b_Fixed_setWhole 53 = .ok (.ldc2_w 22, 3) := by decide +kernel
theorem d_Fixed_setWhole_56 : decode b_Fixed_setWhole 56 = .ok (.ldiv, 1) := by decide +kernel
theorem d_Fixed_setWhole_57 : decode b_Fixed_setWhole 57 = .ok (.lstore_n 3, 1) := by decide +kernel
theorem d_Fixed_setWhole_58 : decode b_Fixed_setWhole 58 = .ok (.goto (-44), 3) := by decide +kernel
theorem d_Fixed_setWhole_61 : decode b_Fixed_setWhole 61 = .ok (.return_, 1) := by decide +kernel
theorem d_Fixed_addTo_0 : decode b_Fixed_addTo 0 = .ok (.aload_n 0, 1) := by decide +kernel
theorem d_Fixed_addTo_1 : decode b_Fixed_addTo 1 = .ok (.getfield 15, 3) := by decide +kernel
theorem d_Fixed_addTo_4 : decode b_Fixed_addTo 4 = .ok (.istore_n 2, 1) := by decide +kernel
theorem d_Fixed_addTo_5 : decode b_Fixed_addTo 5 = .ok (.iload_n 2, 1) := by decide +kernel
theorem d_Fixed_addTo_6 : decode b_Fixed_addTo 6 = .ok (.aload_n 0, 1) := by decide +kernel
theorem d_Fixed_addTo_7 : decode b_Fixed_addTo 7 = .ok (.getfield 19, 3) := by decide +kernel
theorem d_Fixed_addTo_10 : decode b_Fixed_addTo 10 = .ok (.if_icmp .ge 28, 3) := by decide +kernel
theorem d_Fixed_addTo_13 : decode b_Fixed_addTo 13 = .ok (.iload_n 2, 1) := by decide +kernel
theorem d_Fixed_addTo_14 : decode b_Fixed_addTo 14 = .ok (.aload_n 0, 1) := by decide +kernel
theorem d_Fixed_addTo_15 : decode b_Fixed_addTo 15 = .ok (.getfield 11, 3) := by decide +kernel
theorem d_Fixed_addTo_18 : decode b_Fixed_addTo 18 = .ok (.arraylength, 1) := by decide +kernel
theorem d_Fixed_addTo_19 : decode b_Fixed_addTo 19 = .ok (.if_icmp .ge 19, 3) := by decide +kernel
theorem d_Fixed_addTo_22 : decode b_Fixed_addTo 22 = .ok (.aload_n 1, 1) := by decide +kernel
theorem d_Fixed_addTo_23 : decode b_Fixed_addTo 23 = .ok (.aload_n 0, 1) := by decide +kernel
theorem d_Fixed_addTo_24 : decode b_Fixed_addTo 24 = .ok (.getfield 11, 3) := by decide +kernel
theorem d_Fixed_addTo_27 : decode b_Fixed_addTo 27 = .ok (.iload_n 2, 1) := by decide +kernel
theorem d_Fixed_addTo_28 : decode b_Fixed_addTo 28 = .ok (.iaload, 1) := by decide +kernel
theorem d_Fixed_addTo_29 : decode b_Fixed_addTo 29 = .ok (.invokevirtual 53, 3) := by decide +kernel
theorem d_Fixed_addTo_32 : decode b_Fixed_addTo 32 = .ok (.iinc 2 1, 3) := by decide +kernel
theorem d_Fixed_addTo_35 : decode b_Fixed_addTo 35 = .ok (.goto (-30), 3) := by decide +kernel
theorem d_Fixed_addTo_38 : decode b_Fixed_addTo 38 = .ok (.aload_n 1, 1) := by decide +kernel
theorem d_Fixed_addTo_39 : decode b_Fixed_addTo 39 = .ok (.aload_n 1, 1) := by decide +kernel
theorem d_Fixed_addTo_40 : decode b_Fixed_addTo 40 = .ok (.invokevirtual 39, 3) := by decide +kernel
theorem d_Fixed_addTo_43 : decode b_Fixed_addTo 43 = .ok (.aload_n 0, 1) := by decide +kernel
theorem d_Fixed_addTo_44 : decode b_Fixed_addTo 44 = .ok (.getfield 19, 3) := by decide +kernel
theorem d_Fixed_addTo_47 : decode b_Fixed_addTo 47 = .ok (.bipush 35, 2) := by decide +kernel
theorem d_Fixed_addTo_49 : decode b_Fixed_addTo 49 = .ok (.isub, 1) := by decide +kernel
theorem d_Fixed_addTo_50 : decode b_Fixed_addTo 50 = .ok (.bipush 9, 2) := by decide +kernel
theorem d_Fixed_addTo_52 : decode b_Fixed_addTo 52 = .ok (.imul, 1) := by decide +kernel
theorem d_Fixed_addTo_53 : decode b_Fixed_addTo 53 = .ok (.isub, 1) := by decide +kernel
theorem d_Fixed_addTo_54 : decode b_Fixed_addTo 54 = .ok (.invokevirtual 57, 3) := by decide +kernel
theorem d_Fixed_addTo_57 : decode b_Fixed_addTo 57 = .ok (.return_, 1) := by decide +kernel
