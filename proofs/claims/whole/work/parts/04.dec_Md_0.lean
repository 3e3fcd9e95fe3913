theorem d_Md_thrown_0 : decode b_Md_thrown 0 = .ok (.aload_n 0, 1) := by decide +kernel
theorem d_Md_thrown_1 : decode b_Md_thrown 1 = .ok (.getfield 45, 3) := by decide +kernel
theorem d_Md_thrown_4 : decode b_Md_thrown 4 = .ok (.ireturn, 1) := by decide +kernel
theorem d_Md_goes_0 : decode b_Md_goes 0 = .ok (.aload_n 0, 1) := by decide +kernel
theorem d_Md_goes_1 : decode b_Md_goes 1 = .ok (.iload_n 1, 1) := by decide +kernel
theorem d_Md_goes_2 : decode b_Md_goes 2 = .ok (.ifCond .eq 7, 3) := by decide +kernel
theorem d_Md_goes_5 : decode b_Md_goes 5 = .ok (.iconst 0, 1) := by decide +kernel
theorem d_Md_goes_6 : decode b_Md_goes 6 = .ok (.goto 4, 3) := by decide +kernel
theorem d_Md_goes_9 : decode b_Md_goes 9 = .ok (.iconst 1, 1) := by decide +kernel
theorem d_Md_goes_10 : decode b_Md_goes 10 = .ok (.putfield 45, 3) := by decide +kernel
theorem d_Md_goes_13 : decode b_Md_goes 13 = .ok (.iload_n 1, 1) := by decide +kernel
theorem d_Md_goes_14 : decode b_Md_goes 14 = .ok (.ireturn, 1) := by decide +kernel
theorem d_Md_in_0 : decode b_Md_in 0 = .ok (.iload_n 0, 1) := by decide +kernel
theorem d_Md_in_1 : decode b_Md_in 1 = .ok (.iload_n 1, 1) := by decide +kernel
theorem d_Md_in_2 : decode b_Md_in 2 = .ok (.if_icmp .lt 12, 3) := by decide +kernel
theorem d_Md_in_5 : decode b_Md_in 5 = .ok (.iload_n 0, 1) := by decide +kernel
theorem d_Md_in_6 : decode b_Md_in 6 = .ok (.iload_n 2, 1) := by decide +kernel
theorem d_Md_in_7 : decode b_Md_in 7 = .ok (.if_icmp .gt 7, 3) := by decide +kernel
theorem d_Md_in_10 : decode b_Md_in 10 = .ok (.iconst 1, 1) := by decide +kernel
theorem d_Md_in_11 : decode b_Md_in 11 = .ok (.goto 4, 3) := by decide +kernel
theorem d_Md_in_14 : decode b_Md_in 14 = .ok (.iconst 0, 1) := by decide +kernel
theorem d_Md_in_15 : decode b_Md_in 15 = .ok (.ireturn, 1) := by decide +kernel
theorem d_Md_times_0 : decode b_Md_times 0 = .ok (.lconst 0, 1) := by decide +kernel
theorem d_Md_times_1 : decode b_Md_times 1 = .ok (.lstore_n 2, 1) := by decide +kernel
theorem d_Md_times_2 : decode b_Md_times 2 = .ok (.iconst 0, 1) := by decide +kernel
theorem d_Md_times_3 : decode b_Md_times 3 = .ok (.istore 4, 2) := by decide +kernel
theorem d_Md_times_5 : decode b_Md_times 5 = .ok (.iload 4, 2) := by decide +kernel
theorem d_Md_times_7 : decode b_Md_times 7 = .ok (.aload_n 0, 1) := by decide +kernel
theorem d_Md_times_8 : decode b_Md_times 8 = .ok (.getfield 48, 3) := by decide +kernel
theorem d_Md_times_11 : decode b_Md_times 11 = .ok (.if_icmp .ge 45, 3) := by decide +kernel
theorem d_Md_times_14 : decode b_Md_times 14 = .ok (.aload_n 0, 1) := by decide +kernel
theorem d_Md_times_15 : decode b_Md_times 15 = .ok (.getfield 26, 3) := by decide +kernel
theorem d_Md_times_18 : decode b_Md_times 18 = .ok (.iload 4, 2) := by decide +kernel
theorem d_Md_times_20 : decode b_Md_times 20 = .ok (.iaload, 1) := by decide +kernel
theorem d_Md_times_21 : decode b_Md_times 21 = .ok (.i2l, 1) := by decide +kernel
theorem d_Md_times_22 : decode b_Md_times 22 = .ok (.iload_n 1, 1) := by decide +kernel
theorem d_Md_times_23 : decode b_Md_times 23 = .ok (.i2l, 1) := by decide +kernel
theorem d_Md_times_24 : decode b_Md_times 24 = .ok (.lmul, 1) := by decide +kernel
theorem d_Md_times_25 : decode b_Md_times 25 = .ok (.lload_n 2, 1) := by decide +kernel
theorem d_Md_times_26 : decode b_Md_times 26 = .ok (.ladd, 1) := by decide +kernel
theorem d_Md_times_27 : decode b_Md_times 27 = .ok (.lstore 5, 2) := by decide +kernel
theorem d_Md_times_29 : decode b_Md_times 29 = .ok (.aload_n 0, 1) := by decide +kernel
theorem d_Md_times_30 : decode b_Md_times 30 = .ok (.getfield 26, 3) := by decide +kernel
theorem d_Md_times_33 : decode b_Md_times 33 = .ok (.iload 4, 2) := by decide +kernel
theorem d_Md_times_35 : decode b_Md_times 35 = .ok (.lload 5, 2) := by decide +kernel
theorem d_Md_times_37 : decode b_Md_times 37 = .ok (.ldc2_w 51, 3) := by decide +kernel
theorem d_Md_times_40 : decode b_Md_times 40 = .ok (.lrem, 1) := by decide +kernel
theorem d_Md_times_41 : decode b_Md_times 41 = .ok (.l2i, 1) := by decide +kernel
theorem d_Md_times_42 : decode b_Md_times 42 = .ok (.iastore, 1) := by decide +kernel
theorem d_Md_times_43 : decode b_Md_times 43 = .ok (.lload 5, 2) := by decide +kernel
theorem d_Md_times_45 : decode b_Md_times 45 = .ok (.ldc2_w 51, 3) := by decide +kernel
theorem d_Md_times_48 : decode b_Md_times 48 = .ok (.ldiv, 1) := by decide +kernel
theorem d_Md_times_49 : decode b_Md_times 49 = .ok (.lstore_n 2, 1) := by decide +kernel
theorem d_Md_times_50 : decode b_Md_times 50 = .ok (.iinc 4 1, 3) := by decide +kernel
theorem d_Md_times_53 : decode b_Md_times 53 = .ok (.goto (-48), 3) := by decide +kernel
theorem d_Md_times_56 : decode b_Md_times 56 = .ok (.lload_n 2, 1) := by decide +kernel
theorem d_Md_times_57 : decode b_Md_times 57 = .ok (.lconst 0, 1) := by decide +kernel
theorem d_Md_times_58 : decode b_Md_times 58 = .ok (.lcmp, 1) := by decide +kernel
theorem d_Md_times_59 : decode b_Md_times 59 = .ok (.ifCond .le 37, 3) := by decide +kernel
theorem d_Md_times_62 : decode b_Md_times 62 = .ok (.aload_n 0, 1) := by decide +kernel
theorem d_Md_times_63 : decode b_Md_times 63 = .ok (.getfield 26, 3) := by decide +kernel
theorem d_Md_times_66 : decode b_Md_times 66 = .ok (.aload_n 0, 1) := by decide +kernel
theorem d_Md_times_67 : decode b_Md_times 67 = .ok (.getfield 48, 3) := by decide +kernel
theorem d_Md_times_70 : decode b_Md_times 70 = .ok (.lload_n 2, 1) := by decide +kernel
theorem d_Md_times_71 : decode b_Md_times 71 = .ok (.ldc2_w 51, 3) := by decide +kernel
theorem d_Md_times_74 : decode b_Md_times 74 = .ok (.lrem, 1) := by decide +kernel
theorem d_Md_times_75 : decode b_Md_times 75 = .ok (.l2i, 1) := by decide +kernel
theorem d_Md_times_76 : decode b_Md_times 76 = .ok (.iastore, 1) := by decide +kernel
theorem d_Md_times_77 : decode b_Md_times 77 = .ok (.lload_n 2, 1) := by decide +kernel
theorem d_Md_times_78 : decode b_Md_times 78 = .ok (.ldc2_w 51, 3) := by decide +kernel
theorem d_Md_times_81 : decode b_Md_times 81 = .ok (.ldiv, 1) := by decide +kernel
theorem d_Md_times_82 : decode b_Md_times 82 = .ok (.lstore_n 2, 1) := by decide +kernel
theorem d_Md_times_83 : decode b_Md_times 83 = .ok (.aload_n 0, 1) := by decide +kernel
theorem d_Md_times_84 : decode b_Md_times 84 = .ok (.dup, 1) := by decide +kernel
theorem d_Md_times_85 : decode b_Md_times 85 = .ok (.getfield 48, 3) := by decide +kernel
theorem d_Md_times_88 : decode b_Md_times 88 = .ok (.iconst 1, 1) := by decide +kernel
theorem d_Md_times_89 : decode b_Md_times 89 = .ok (.iadd, 1) := by decide +kernel
theorem d_Md_times_90 : decode b_Md_times 90 = .ok (.putfield 48, 3) := by decide +kernel
theorem d_Md_times_93 : decode b_Md_times 93 = .ok (.goto (-37), 3) := by decide +kernel
theorem d_Md_times_96 : decode b_Md_times 96 = .ok (.return_, 1) := by decide +kernel
theorem d_Md_timesPower_0 : decode b_Md_timesPower 0 = .ok (.iload_n 2, 1) := by decide +kernel
theorem d_Md_timesPower_1 : decode b_Md_timesPower 1 = .ok (.istore_n 3, 1) := by decide +kernel
theorem d_Md_timesPower_2 : decode b_Md_timesPower 2 = .ok (.iload_n 3, 1) := by decide +kernel
theorem d_Md_timesPower_3 : decode b_Md_timesPower 3 = .ok (.ifCond .le 60, 3) := by decide +kernel
theorem d_Md_timesPower_6 : decode b_Md_timesPower 6 = .ok (.iconst 1, 1) := by decide +kernel
theorem d_Md_timesPower_7 : decode b_Md_timesPower 7 = .ok (.istore 4, 2) := by decide +kernel
theorem d_Md_timesPower_9 : decode b_Md_timesPower 9 = .ok (.iconst 0, 1) := by decide +kernel
theorem d_Md_timesPower_10 : decode b_Md_timesPower 10 = .ok (.istore 5, 2) := by decide +kernel
theorem d_Md_timesPower_12 : decode b_Md_timesPower 12 = .ok (.iload 5, 2) := by decide +kernel
theorem d_Md_timesPower_14 : decode b_Md_timesPower 14 = .ok (.bipush 12, 2) := by decide +kernel
theorem d_Md_timesPower_16 : decode b_Md_timesPower 16 = .ok (.if_icmp .ge 33, 3) := by decide +kernel
theorem d_Md_timesPower_19 : decode b_Md_timesPower 19 = .ok (.iload 5, 2) := by decide +kernel
theorem d_Md_timesPower_21 : decode b_Md_timesPower 21 = .ok (.iload_n 3, 1) := by decide +kernel
theorem d_Md_timesPower_22 : decode b_Md_timesPower 22 = .ok (.if_icmp .ge 27, 3) := by decide +kernel
theorem d_Md_timesPower_25 : decode b_Md_timesPower 25 = .ok (.iload_n 1, 1) := by decide +kernel
theorem d_Md_timesPower_26 : decode b_Md_timesPower 26 = .ok (.iconst 2, 1) := by decide +kernel
theorem d_Md_timesPower_27 : decode b_Md_timesPower 27 = .ok (.if_icmp .eq 10, 3) := by decide +kernel
theorem d_Md_timesPower_30 : decode b_Md_timesPower 30 = .ok (.iload 5, 2) := by decide +kernel
theorem d_Md_timesPower_32 : decode b_Md_timesPower 32 = .ok (.bipush 8, 2) := by decide +kernel
theorem d_Md_timesPower_34 : decode b_Md_timesPower 34 = .ok (.if_icmp .ge 15, 3) := by decide +kernel
theorem d_Md_timesPower_37 : decode b_Md_timesPower 37 = .ok (.iload 4, 2) := by decide +kernel
theorem d_Md_timesPower_39 : decode b_Md_timesPower 39 = .ok (.iload_n 1, 1) := by decide +kernel
theorem d_Md_timesPower_40 : decode b_Md_timesPower 40 = .ok (.imul, 1) := by decide +kernel
theorem d_Md_timesPower_41 : decode b_Md_timesPower 41 = .ok (.istore 4, 2) := by decide +kernel
theorem d_Md_timesPower_43 : decode b_Md_timesPower 43 = .ok (.iinc 5 1, 3) := by decide +kernel
theorem d_Md_timesPower_46 : decode b_Md_timesPower 46 = .ok (.goto (-34), 3) := by decide +kernel
theorem d_Md_timesPower_49 : decode b_Md_timesPower 49 = .ok (.aload_n 0, 1) := by decide +kernel
theorem d_Md_timesPower_50 : decode b_Md_timesPower 50 = .ok (.iload 4, 2) := by decide +kernel
theorem d_Md_timesPower_52 : decode b_Md_timesPower 52 = .ok (.invokevirtual 53, 3) := by decide +kernel
theorem d_Md_timesPower_55 : decode b_Md_timesPower 55 = .ok (.iload_n 3, 1) := by decide +kernel
theorem d_Md_timesPower_56 : decode b_Md_timesPower 56 = .ok (.iload 5, 2) := by decide +kernel
theorem d_Md_timesPower_58 : decode b_Md_timesPower 58 = .ok (.isub, 1) := by decide +kernel
theorem d_Md_timesPower_59 : decode b_Md_timesPower 59 = .ok (.istore_n 3, 1) := by decide +kernel
theorem d_Md_timesPower_60 : decode b_Md_timesPower 60 = .ok (.goto (-58), 3) := by decide +kernel
theorem d_Md_timesPower_63 : decode b_Md_timesPower 63 = .ok (.return_, 1) := by decide +kernel
theorem d_Md_cutZeros_0 : decode b_Md_cutZeros 0 = .ok (.aload_n 0, 1) := by decide +kernel
theorem d_Md_cutZeros_1 : decode b_Md_cutZeros 1 = .ok (.getfield 20, 3) := by decide +kernel
theorem d_Md_cutZeros_4 : decode b_Md_cutZeros 4 = .ok (.iload_n 1, 1) := by decide +kernel
theorem d_Md_cutZeros_5 : decode b_Md_cutZeros 5 = .ok (.iaload, 1) := by decide +kernel
theorem d_Md_cutZeros_6 : decode b_Md_cutZeros 6 = .ok (.ifCond .le 38, 3) := by decide +kernel
theorem d_Md_cutZeros_9 : decode b_Md_cutZeros 9 = .ok (.aload_n 0, 1) := by decide +kernel
theorem d_Md_cutZeros_10 : decode b_Md_cutZeros 10 = .ok (.getfield 17, 3) := by decide +kernel
theorem d_Md_cutZeros_13 : decode b_Md_cutZeros 13 = .ok (.sipush 1300, 3) := by decide +kernel
theorem d_Md_cutZeros_16 : decode b_Md_cutZeros 16 = .ok (.iload_n 1, 1) := by decide +kernel
theorem d_Md_cutZeros_17 : decode b_Md_cutZeros 17 = .ok (.imul, 1) := by decide +kernel
theorem d_Md_cutZeros_18 : decode b_Md_cutZeros 18 = .ok (.aload_n 0, 1) := by decide +kernel
theorem d_Md_cutZeros_19 : decode b_Md_cutZeros 19 = .ok (.getfield 20, 3) := by decide +kernel
theorem d_Md_cutZeros_22 : decode b_Md_cutZeros 22 = .ok (.iload_n 1, 1) := by decide +kernel
theorem d_Md_cutZeros_23 : decode b_Md_cutZeros 23 = .ok (.iaload, 1) := by decide +kernel
theorem d_Md_cutZeros_24 : decode b_Md_cutZeros 24 = .ok (.iadd, 1) := by decide +kernel
theorem d_Md_cutZeros_25 : decode b_Md_cutZeros 25 = .ok (.iconst 1, 1) := by decide +kernel
theorem d_Md_cutZeros_26 : decode b_Md_cutZeros 26 = .ok (.isub, 1) := by decide +kernel
theorem d_Md_cutZeros_27 : decode b_Md_cutZeros 27 = .ok (.iaload, 1) := by decide +kernel
theorem d_Md_cutZeros_28 : decode b_Md_cutZeros 28 = .ok (.ifCond .ne 16, 3) := by decide +kernel
theorem d_Md_cutZeros_31 : decode b_Md_cutZeros 31 = .ok (.aload_n 0, 1) := by decide +kernel
theorem d_Md_cutZeros_32 : decode b_Md_cutZeros 32 = .ok (.getfield 20, 3) := by decide +kernel
theorem d_Md_cutZeros_35 : decode b_Md_cutZeros 35 = .ok (.iload_n 1, 1) := by decide +kernel
theorem d_Md_cutZeros_36 : decode b_Md_cutZeros 36 = .ok (.dup2, 1) := by decide +kernel
theorem d_Md_cutZeros_37 : decode b_Md_cutZeros 37 = .ok (.iaload, 1) := by decide +kernel
theorem d_Md_cutZeros_38 : decode b_Md_cutZeros 38 = .ok (.iconst 1, 1) := by decide +kernel
theorem d_Md_cutZeros_39 : decode b_Md_cutZeros 39 = .ok (.isub, 1) := by decide +kernel
theorem d_Md_cutZeros_40 : decode b_Md_cutZeros 40 = .ok (.iastore, 1) := by decide +kernel
theorem d_Md_cutZeros_41 : decode b_Md_cutZeros 41 = .ok (.goto (-41), 3) := by decide +kernel
theorem d_Md_cutZeros_44 : decode b_Md_cutZeros 44 = .ok (.return_, 1) := by decide +kernel
theorem d_Md_expand_0 : decode b_Md_expand 0 = .ok (.aload_n 0, 1) := by decide +kernel
theorem d_Md_expand_1 : decode b_Md_expand 1 = .ok (.iconst 0, 1) := by decide +kernel
theorem d_Md_expand_2 : decode b_Md_expand 2 = .ok (.putfield 48, 3) := by decide +kernel
theorem d_Md_expand_5 : decode b_Md_expand 5 = .ok (.lload_n 2, 1) := by decide +kernel
theorem d_Md_expand_6 : decode b_Md_expand 6 = .ok (.lstore 5, 2) := by decide +kernel
theorem d_Md_expand_8 : decode b_Md_expand 8 = .ok (.lload 5, 2) := by decide +kernel
theorem d_Md_expand_10 : decode b_Md_expand 10 = .ok (.lconst 0, 1) := by decide +kernel
theorem d_Md_expand_11 : decode b_Md_expand 11 = .ok (.lcmp, 1) := by decide +kernel
theorem d_Md_expand_12 : decode b_Md_expand 12 = .ok (.ifCond .le 40, 3) := by decide +kernel
theorem d_Md_expand_15 : decode b_Md_expand 15 = .ok (.aload_n 0, 1) := by decide +kernel
theorem d_Md_expand_16 : decode b_Md_expand 16 = .ok (.getfield 26, 3) := by decide +kernel
theorem d_Md_expand_19 : decode b_Md_expand 19 = .ok (.aload_n 0, 1) := by decide +kernel
theorem d_Md_expand_20 : decode b_Md_expand 20 = .ok (.getfield 48, 3) := by decide +kernel
theorem d_Md_expand_23 : decode b_Md_expand 23 = .ok (.lload 5, 2) := by decide +kernel
theorem d_Md_expand_25 : decode b_Md_expand 25 = .ok (.ldc2_w 51, 3) := by decide +kernel
theorem d_Md_expand_28 : decode b_Md_expand 28 = .ok (.lrem, 1) := by decide +kernel
theorem d_Md_expand_29 : decode b_Md_expand 29 = .ok (.l2i, 1) := by decide +kernel
theorem d_Md_expand_30 : decode b_Md_expand 30 = .ok (.iastore, 1) := by decide +kernel
theorem d_Md_expand_31 : decode b_Md_expand 31 = .ok (.lload 5, 2) := by decide +kernel
theorem d_Md_expand_33 : decode b_Md_expand 33 = .ok (.ldc2_w 51, 3) := by decide +kernel
theorem d_Md_expand_36 : decode b_Md_expand 36 = .ok (.ldiv, 1) := by decide +kernel
theorem d_Md_expand_37 : decode b_Md_expand 37 = .ok (.lstore 5, 2) := by decide +kernel
theorem d_Md_expand_39 : decode b_Md_expand 39 = .ok (.aload_n 0, 1) := by decide +kernel
theorem d_Md_expand_40 : decode b_Md_expand 40 = .ok (.dup, 1) := by decide +kernel
theorem d_Md_expand_41 : decode b_Md_expand 41 = .ok (.getfield 48, 3) := by decide +kernel
theorem d_Md_expand_44 : decode b_Md_expand 44 = .ok (.iconst 1, 1) := by decide +kernel
theorem d_Md_expand_45 : decode b_Md_expand 45 = .ok (.iadd, 1) := by decide +kernel
theorem d_Md_expand_46 : decode b_Md_expand 46 = .ok (.putfield 48, 3) := by decide +kernel
theorem d_Md_expand_49 : decode b_Md_expand 49 = .ok (.goto (-41), 3) := by decide +kernel
theorem d_Md_expand_52 : decode b_Md_expand 52 = .ok (.aload_n 0, 1) := by decide +kernel
theorem d_Md_expand_53 : decode b_Md_expand 53 = .ok (.iload 4, 2) := by decide +kernel
theorem d_Md_expand_55 : decode b_Md_expand 55 = .ok (.ifCond .ge 7, 3) := by decide +kernel
theorem d_Md_expand_58 : decode b_Md_expand 58 = .ok (.iconst 5, 1) := by decide +kernel
theorem d_Md_expand_59 : decode b_Md_expand 59 = .ok (.goto 4, 3) := by decide +kernel
theorem d_Md_expand_62 : decode b_Md_expand 62 = .ok (.iconst 2, 1) := by decide +kernel
theorem d_Md_expand_63 : decode b_Md_expand 63 = .ok (.iload 4, 2) := by decide +kernel
theorem d_Md_expand_65 : decode b_Md_expand 65 = .ok (.ifCond .ge 9, 3) := by decide +kernel
theorem d_Md_expand_68 : decode b_Md_expand 68 = .ok (.iload 4, 2) := by decide +kernel
theorem d_Md_expand_70 : decode b_Md_expand 70 = .ok (.ineg, 1) := by decide +kernel
theorem d_Md_expand_71 : decode b_Md_expand 71 = .ok (.goto 5, 3) := by decide +kernel
theorem d_Md_expand_74 : decode b_Md_expand 74 = .ok (.iload 4, 2) := by decide +kernel
theorem d_Md_expand_76 : decode b_Md_expand 76 = .ok (.invokevirtual 57, 3) := by decide +kernel
theorem d_Md_expand_79 : decode b_Md_expand 79 = .ok (.iconst 0, 1) := by decide +kernel
theorem d_Md_expand_80 : decode b_Md_expand 80 = .ok (.istore 7, 2) := by decide +kernel
theorem d_Md_expand_82 : decode b_Md_expand 82 = .ok (.aload_n 0, 1) := by decide +kernel
theorem d_Md_expand_83 : decode b_Md_expand 83 = .ok (.getfield 48, 3) := by decide +kernel
theorem d_Md_expand_86 : decode b_Md_expand 86 = .ok (.iconst 1, 1) := by decide +kernel
theorem d_Md_expand_87 : decode b_Md_expand 87 = .ok (.isub, 1) := by decide +kernel
theorem d_Md_expand_88 : decode b_Md_expand 88 = .ok (.istore 8, 2) := by decide +kernel
theorem d_Md_expand_90 : decode b_Md_expand 90 = .ok (.iload 8, 2) := by decide +kernel
theorem d_Md_expand_92 : decode b_Md_expand 92 = .ok (.ifCond .lt 71, 3) := by decide +kernel
theorem d_Md_expand_95 : decode b_Md_expand 95 = .ok (.ldc 61, 2) := by decide +kernel
theorem d_Md_expand_97 : decode b_Md_expand 97 = .ok (.istore 9, 2) := by decide +kernel
theorem d_Md_expand_99 : decode b_Md_expand 99 = .ok (.iload 9, 2) := by decide +kernel
theorem d_Md_expand_101 : decode b_Md_expand 101 = .ok (.ifCond .le 56, 3) := by decide +kernel
theorem d_Md_expand_104 : decode b_Md_expand 104 = .ok (.aload_n 0, 1) := by decide +kernel
theorem d_Md_expand_105 : decode b_Md_expand 105 = .ok (.getfield 26, 3) := by decide +kernel
theorem d_Md_expand_108 : decode b_Md_expand 108 = .ok (.iload 8, 2) := by decide +kernel
theorem d_Md_expand_110 : decode b_Md_expand 110 = .ok (.iaload, 1) := by decide +kernel
theorem d_Md_expand_111 : decode b_Md_expand 111 = .ok (.iload 9, 2) := by decide +kernel
theorem d_Md_expand_113 : decode b_Md_expand 113 = .ok (.idiv, 1) := by decide +kernel
theorem d_Md_expand_114 : decode b_Md_expand 114 = .ok (.bipush 10, 2) := by decide +kernel
theorem d_Md_expand_116 : decode b_Md_expand 116 = .ok (.irem, 1) := by decide +kernel
theorem d_Md_expand_117 : decode b_Md_expand 117 = .ok (.istore 10, 2) := by decide +kernel
theorem d_Md_expand_119 : decode b_Md_expand 119 = .ok (.iload 7, 2) := by decide +kernel
theorem d_Md_expand_121 : decode b_Md_expand 121 = .ok (.ifCond .gt 8, 3) := by decide +kernel
theorem d_Md_expand_124 : decode b_Md_expand 124 = .ok (.iload 10, 2) := by decide +kernel
theorem d_Md_expand_126 : decode b_Md_expand 126 = .ok (.ifCond .le 21, 3) := by decide +kernel
theorem d_Md_expand_129 : decode b_Md_expand 129 = .ok (.aload_n 0, 1) := by decide +kernel
theorem d_Md_expand_130 : decode b_Md_expand 130 = .ok (.getfield 17, 3) := by decide +kernel
theorem d_Md_expand_133 : decode b_Md_expand 133 = .ok (.sipush 1300, 3) := by decide +kernel
theorem d_Md_expand_136 : decode b_Md_expand 136 = .ok (.iload_n 1, 1) := by decide +kernel
theorem d_Md_expand_137 : decode b_Md_expand 137 = .ok (.imul, 1) := by decide +kernel
theorem d_Md_expand_138 : decode b_Md_expand 138 = .ok (.iload 7, 2) := by decide +kernel
theorem d_Md_expand_140 : decode b_Md_expand 140 = .ok (.iadd, 1) := by decide +kernel
theorem d_Md_expand_141 : decode b_Md_expand 141 = .ok (.iload 10, 2) := by decide +kernel
theorem d_Md_expand_143 : decode b_Md_expand 143 = .ok (.iastore, 1) := by decide +kernel
theorem d_Md_expand_144 : decode b_Md_expand 144 = .ok (.iinc 7 1, 3) := by decide +kernel
theorem d_Md_expand_147 : decode b_Md_expand 147 = .ok (.iload 9, 2) := by decide +kernel
theorem d_Md_expand_149 : decode b_Md_expand 149 = .ok (.bipush 10, 2) := by decide +kernel
theorem d_Md_expand_151 : decode b_Md_expand 151 = .ok (.idiv, 1) := by decide +kernel
theorem d_Md_expand_152 : decode b_Md_expand 152 = .ok (.istore 9, 2) := by decide +kernel
theorem d_Md_expand_154 : decode b_Md_expand 154 = .ok (.goto (-55), 3) := by decide +kernel
theorem d_Md_expand_157 : decode b_Md_expand 157 = .ok (.iinc 8 (-1), 3) := by decide +kernel
theorem d_Md_expand_160 : decode b_Md_expand 160 = .ok (.goto (-70), 3) := by decide +kernel
theorem d_Md_expand_163 : decode b_Md_expand 163 = .ok (.aload_n 0, 1) := by decide +kernel
theorem d_Md_expand_164 : decode b_Md_expand 164 = .ok (.getfield 20, 3) := by decide +kernel
theorem d_Md_expand_167 : decode b_Md_expand 167 = .ok (.iload_n 1, 1) := by decide +kernel
theorem d_Md_expand_168 : decode b_Md_expand 168 = .ok (.iload 7, 2) := by decide +kernel
theorem d_Md_expand_170 : decode b_Md_expand 170 = .ok (.iastore, 1) := by decide +kernel
theorem d_Md_expand_171 : decode b_Md_expand 171 = .ok (.aload_n 0, 1) := by decide +kernel
theorem d_Md_expand_172 : decode b_Md_expand 172 = .ok (.getfield 23, 3) := by decide +kernel
theorem d_Md_expand_175 : decode b_Md_expand 175 = .ok (.iload_n 1, 1) := by decide +kernel
theorem d_Md_expand_176 : decode b_Md_expand 176 = .ok (.iload 4, 2) := by decide +kernel
theorem d_Md_expand_178 : decode b_Md_expand 178 = .ok (.ifCond .ge 11, 3) := by decide +kernel
theorem d_Md_expand_181 : decode b_Md_expand 181 = .ok (.iload 7, 2) := by decide +kernel
theorem d_Md_expand_183 : decode b_Md_expand 183 = .ok (.iload 4, 2) := by decide +kernel
theorem d_Md_expand_185 : decode b_Md_expand 185 = .ok (.iadd, 1) := by decide +kernel
theorem d_Md_expand_186 : decode b_Md_expand 186 = .ok (.goto 5, 3) := by decide +kernel
theorem d_Md_expand_189 : decode b_Md_expand 189 = .ok (.iload 7, 2) := by decide +kernel
theorem d_Md_expand_191 : decode b_Md_expand 191 = .ok (.iastore, 1) := by decide +kernel
theorem d_Md_expand_192 : decode b_Md_expand 192 = .ok (.aload_n 0, 1) := by decide +kernel
theorem d_Md_expand_193 : decode b_Md_expand 193 = .ok (.iload_n 1, 1) := by decide +kernel
theorem d_Md_expand_194 : decode b_Md_expand 194 = .ok (.invokevirtual 62, 3) := by decide +kernel
theorem d_Md_expand_197 : decode b_Md_expand 197 = .ok (.return_, 1) := by decide +kernel
theorem d_Md_exponent_0 : decode b_Md_exponent 0 = .ok (.lload_n 0, 1) := by decide +kernel
theorem d_Md_exponent_1 : decode b_Md_exponent 1 = .ok (.bipush 52, 2) := by decide +kernel
theorem d_Md_exponent_3 : decode b_Md_exponent 3 = .ok (.lushr, 1) := by decide +kernel
theorem d_Md_exponent_4 : decode b_Md_exponent 4 = .ok (.ldc2_w 73, 3) := by decide +kernel
theorem d_Md_exponent_7 : decode b_Md_exponent 7 = .ok (.land, 1) := by decide +kernel
theorem d_Md_exponent_8 : decode b_Md_exponent 8 = .ok (.l2i, 1) := by decide +kernel
theorem d_Md_exponent_9 : decode b_Md_exponent 9 = .ok (.ireturn, 1) := by decide +kernel
theorem d_Md_mantissa_0 : decode b_Md_mantissa 0 = .ok (.lload_n 0, 1) := by decide +kernel
theorem d_Md_mantissa_1 : decode b_Md_mantissa 1 = .ok (.ldc2_w 65, 3) := by decide +kernel
theorem d_Md_mantissa_4 : decode b_Md_mantissa 4 = .ok (.land, 1) := by decide +kernel
theorem d_Md_mantissa_5 : decode b_Md_mantissa 5 = .ok (.lstore_n 2, 1) := by decide +kernel
theorem d_Md_mantissa_6 : decode b_Md_mantissa 6 = .ok (.lload_n 0, 1) := by decide +kernel
theorem d_Md_mantissa_7 : decode b_Md_mantissa 7 = .ok (.invokestatic 67, 3) := by decide +kernel
theorem d_Md_mantissa_10 : decode b_Md_mantissa 10 = .ok (.ifCond .ne 7, 3) := by decide +kernel
theorem d_Md_mantissa_13 : decode b_Md_mantissa 13 = .ok (.lload_n 2, 1) := by decide +kernel
theorem d_Md_mantissa_14 : decode b_Md_mantissa 14 = .ok (.goto 8, 3) := by decide +kernel
theorem d_Md_mantissa_17 : decode b_Md_mantissa 17 = .ok (.lload_n 2, 1) := by decide +kernel
theorem d_Md_mantissa_18 : decode b_Md_mantissa 18 = .ok (.ldc2_w 71, 3) := by decide +kernel
theorem d_Md_mantissa_21 : decode b_Md_mantissa 21 = .ok (.ladd, 1) := by decide +kernel
theorem d_Md_mantissa_22 : decode b_Md_mantissa 22 = .ok (.lreturn, 1) := by decide +kernel
theorem d_Md_power_0 : decode b_Md_power 0 = .ok (.lload_n 0, 1) := by decide +kernel
theorem d_Md_power_1 : decode b_Md_power 1 = .ok (.invokestatic 67, 3) := by decide +kernel
theorem d_Md_power_4 : decode b_Md_power 4 = .ok (.ifCond .ne 9, 3) := by decide +kernel
theorem d_Md_power_7 : decode b_Md_power 7 = .ok (.sipush (-1074), 3) := by decide +kernel
theorem d_Md_power_10 : decode b_Md_power 10 = .ok (.goto 11, 3) := by decide +kernel
theorem d_Md_power_13 : decode b_Md_power 13 = .ok (.lload_n 0, 1) := by decide +kernel
theorem d_Md_power_14 : decode b_Md_power 14 = .ok (.invokestatic 67, 3) := by decide +kernel
theorem d_Md_power_17 : decode b_Md_power 17 = .ok (.sipush 1075, 3) := by decide +kernel
theorem d_Md_power_20 : decode b_Md_power 20 = .ok (.isub, 1) := by decide +kernel
theorem d_Md_power_21 : decode b_Md_power 21 = .ok (.ireturn, 1) := by decide +kernel
theorem d_Md_value_0 : decode b_Md_value 0 = .ok (.aload_n 0, 1) := by decide +kernel
theorem d_Md_value_1 : decode b_Md_value 1 = .ok (.iload_n 1, 1) := by decide +kernel
theorem d_Md_value_2 : decode b_Md_value 2 = .ok (.lload_n 2, 1) := by decide +kernel
theorem d_Md_value_3 : decode b_Md_value 3 = .ok (.invokestatic 75, 3) := by decide +kernel
theorem d_Md_value_6 : decode b_Md_value 6 = .ok (.lload_n 2, 1) := by decide +kernel
theorem d_Md_value_7 : decode b_Md_value 7 = .ok (.invokestatic 79, 3) := by decide +kernel
theorem d_Md_value_10 : decode b_Md_value 10 = .ok (.invokevirtual 82, 3) := by decide +kernel
theorem d_Md_value_13 : decode b_Md_value 13 = .ok (.return_, 1) := by decide +kernel
theorem d_Md_between_0 : decode b_Md_between 0 = .ok (.aload_n 0, 1) := by decide +kernel
theorem d_Md_between_1 : decode b_Md_between 1 = .ok (.iload_n 1, 1) := by decide +kernel
theorem d_Md_between_2 : decode b_Md_between 2 = .ok (.ldc2_w 86, 3) := by decide +kernel
theorem d_Md_between_5 : decode b_Md_between 5 = .ok (.lload_n 2, 1) := by decide +kernel
theorem d_Md_between_6 : decode b_Md_between 6 = .ok (.invokestatic 75, 3) := by decide +kernel
theorem d_Md_between_9 : decode b_Md_between 9 = .ok (.lmul, 1) := by decide +kernel
theorem d_Md_between_10 : decode b_Md_between 10 = .ok (.lconst 1, 1) := by decide +kernel
theorem d_Md_between_11 : decode b_Md_between 11 = .ok (.ladd, 1) := by decide +kernel
theorem d_Md_between_12 : decode b_Md_between 12 = .ok (.lload_n 2, 1) := by decide +kernel
theorem d_Md_between_13 : decode b_Md_between 13 = .ok (.invokestatic 79, 3) := by decide +kernel
theorem d_Md_between_16 : decode b_Md_between 16 = .ok (.iconst 1, 1) := by decide +kernel
theorem d_Md_between_17 : decode b_Md_between 17 = .ok (.isub, 1) := by decide +kernel
theorem d_Md_between_18 : decode b_Md_between 18 = .ok (.invokevirtual 82, 3) := by decide +kernel
theorem d_Md_between_21 : decode b_Md_between 21 = .ok (.return_, 1) := by decide +kernel
theorem d_Md_against_0 : decode b_Md_against 0 = .ok (.aload_n 0, 1) := by decide +kernel
theorem d_Md_against_1 : decode b_Md_against 1 = .ok (.getfield 23, 3) := by decide +kernel
theorem d_Md_against_4 : decode b_Md_against 4 = .ok (.iload_n 1, 1) := by decide +kernel
theorem d_Md_against_5 : decode b_Md_against 5 = .ok (.iaload, 1) := by decide +kernel
theorem d_Md_against_6 : decode b_Md_against 6 = .ok (.aload_n 0, 1) := by decide +kernel
theorem d_Md_against_7 : decode b_Md_against 7 = .ok (.getfield 23, 3) := by decide +kernel
theorem d_Md_against_10 : decode b_Md_against 10 = .ok (.iload_n 2, 1) := by decide +kernel
theorem d_Md_against_11 : decode b_Md_against 11 = .ok (.iaload, 1) := by decide +kernel
theorem d_Md_against_12 : decode b_Md_against 12 = .ok (.if_icmp .eq 24, 3) := by decide +kernel
theorem d_Md_against_15 : decode b_Md_against 15 = .ok (.aload_n 0, 1) := by decide +kernel
theorem d_Md_against_16 : decode b_Md_against 16 = .ok (.getfield 23, 3) := by decide +kernel
theorem d_Md_against_19 : decode b_Md_against 19 = .ok (.iload_n 1, 1) := by decide +kernel
theorem d_Md_against_20 : decode b_Md_against 20 = .ok (.iaload, 1) := by decide +kernel
theorem d_Md_against_21 : decode b_Md_against 21 = .ok (.aload_n 0, 1) := by decide +kernel
theorem d_Md_against_22 : decode b_Md_against 22 = .ok (.getfield 23, 3) := by decide +kernel
theorem d_Md_against_25 : decode b_Md_against 25 = .ok (.iload_n 2, 1) := by decide +kernel
theorem d_Md_against_26 : decode b_Md_against 26 = .ok (.iaload, 1) := by decide +kernel
theorem d_Md_against_27 : decode b_Md_against 27 = .ok (.if_icmp .ge 7, 3) := by decide +kernel
theorem d_Md_against_30 : decode b_Md_against 30 = .ok (.iconst (-1), 1) := by decide +kernel
theorem d_Md_against_31 : decode b_Md_against 31 = .ok (.goto 4, 3) := by decide +kernel
theorem d_Md_against_34 : decode b_Md_against 34 = .ok (.iconst 1, 1) := by decide +kernel
theorem d_Md_against_35 : decode b_Md_against 35 = .ok (.ireturn, 1) := by decide +kernel
theorem d_Md_against_36 : decode b_Md_against 36 = .ok (.aload_n 0, 1) := by decide +kernel
theorem d_Md_against_37 : decode b_Md_against 37 = .ok (.getfield 20, 3) := by decide +kernel
theorem d_Md_against_40 : decode b_Md_against 40 = .ok (.iload_n 1, 1) := by decide +kernel
theorem d_Md_against_41 : decode b_Md_against 41 = .ok (.iaload, 1) := by decide +kernel
theorem d_Md_against_42 : decode b_Md_against 42 = .ok (.aload_n 0, 1) := by decide +kernel
theorem d_Md_against_43 : decode b_Md_against 43 = .ok (.getfield 20, 3) := by decide +kernel
theorem d_Md_against_46 : decode b_Md_against 46 = .ok (.iload_n 2, 1) := by decide +kernel
theorem d_Md_against_47 : decode b_Md_against 47 = .ok (.iaload, 1) := by decide +kernel
theorem d_Md_against_48 : decode b_Md_against 48 = .ok (.if_icmp .ge 12, 3) := by decide +kernel
theorem d_Md_against_51 : decode b_Md_against 51 = .ok (.aload_n 0, 1) := by decide +kernel
theorem d_Md_against_52 : decode b_Md_against 52 = .ok (.getfield 20, 3) := by decide +kernel
theorem d_Md_against_55 : decode b_Md_against 55 = .ok (.iload_n 1, 1) := by decide +kernel
theorem d_Md_against_56 : decode b_Md_against 56 = .ok (.iaload, 1) := by decide +kernel
theorem d_Md_against_57 : decode b_Md_against 57 = .ok (.goto 9, 3) := by decide +kernel
theorem d_Md_against_60 : decode b_Md_against 60 = .ok (.aload_n 0, 1) := by decide +kernel
theorem d_Md_against_61 : decode b_Md_against 61 = .ok (.getfield 20, 3) := by decide +kernel
theorem d_Md_against_64 : decode b_Md_against 64 = .ok (.iload_n 2, 1) := by decide +kernel
theorem d_Md_against_65 : decode b_Md_against 65 = .ok (.iaload, 1) := by decide +kernel
theorem d_Md_against_66 : decode b_Md_against 66 = .ok (.istore_n 3, 1) := by decide +kernel
theorem d_Md_against_67 : decode b_Md_against 67 = .ok (.iconst 0, 1) := by decide +kernel
theorem d_Md_against_68 : decode b_Md_against 68 = .ok (.istore 4, 2) := by decide +kernel
theorem d_Md_against_70 : decode b_Md_against 70 = .ok (.iload 4, 2) := by decide +kernel
theorem d_Md_against_72 : decode b_Md_against 72 = .ok (.iload_n 3, 1) := by decide +kernel
theorem d_Md_against_73 : decode b_Md_against 73 = .ok (.if_icmp .ge 46, 3) := by decide +kernel
theorem d_Md_against_76 : decode b_Md_against 76 = .ok (.aload_n 0, 1) := by decide +kernel
theorem d_Md_against_77 : decode b_Md_against 77 = .ok (.getfield 17, 3) := by decide +kernel
theorem d_Md_against_80 : decode b_Md_against 80 = .ok (.sipush 1300, 3) := by decide +kernel
theorem d_Md_against_83 : decode b_Md_against 83 = .ok (.iload_n 1, 1) := by decide +kernel
theorem d_Md_against_84 : decode b_Md_against 84 = .ok (.imul, 1) := by decide +kernel
theorem d_Md_against_85 : decode b_Md_against 85 = .ok (.iload 4, 2) := by decide +kernel
theorem d_Md_against_87 : decode b_Md_against 87 = .ok (.iadd, 1) := by decide +kernel
theorem d_Md_against_88 : decode b_Md_against 88 = .ok (.iaload, 1) := by decide +kernel
theorem d_Md_against_89 : decode b_Md_against 89 = .ok (.aload_n 0, 1) := by decide +kernel
theorem d_Md_against_90 : decode b_Md_against 90 = .ok (.getfield 17, 3) := by decide +kernel
theorem d_Md_against_93 : decode b_Md_against 93 = .ok (.sipush 1300, 3) := by decide +kernel
theorem d_Md_against_96 : decode b_Md_against 96 = .ok (.iload_n 2, 1) := by decide +kernel
theorem d_Md_against_97 : decode b_Md_against 97 = .ok (.imul, 1) := by decide +kernel
theorem d_Md_against_98 : decode b_Md_against 98 = .ok (.iload 4, 2) := by decide +kernel
theorem d_Md_against_100 : decode b_Md_against 100 = .ok (.iadd, 1) := by decide +kernel
theorem d_Md_against_101 : decode b_Md_against 101 = .ok (.iaload, 1) := by decide +kernel
theorem d_Md_against_102 : decode b_Md_against 102 = .ok (.isub, 1) := by decide +kernel
theorem d_Md_against_103 : decode b_Md_against 103 = .ok (.istore 5, 2) := by decide +kernel
theorem d_Md_against_105 : decode b_Md_against 105 = .ok (.iload 5, 2) := by decide +kernel
theorem d_Md_against_107 : decode b_Md_against 107 = .ok (.ifCond .eq 6, 3) := by decide +kernel
theorem d_Md_against_110 : decode b_Md_against 110 = .ok (.iload 5, 2) := by decide +kernel
theorem d_Md_against_112 : decode b_Md_against 112 = .ok (.ireturn, 1) := by decide +kernel
theorem d_Md_against_113 : decode b_Md_against 113 = .ok (.iinc 4 1, 3) := by decide +kernel
theorem d_Md_against_116 : decode b_Md_against 116 = .ok (.goto (-46), 3) := by decide +kernel
theorem d_Md_against_119 : decode b_Md_against 119 = .ok (.aload_n 0, 1) := by decide +kernel
theorem d_Md_against_120 : decode b_Md_against 120 = .ok (.getfield 20, 3) := by decide +kernel
theorem d_Md_against_123 : decode b_Md_against 123 = .ok (.iload_n 1, 1) := by decide +kernel
theorem d_Md_against_124 : decode b_Md_against 124 = .ok (.iaload, 1) := by decide +kernel
theorem d_Md_against_125 : decode b_Md_against 125 = .ok (.aload_n 0, 1) := by decide +kernel
theorem d_Md_against_126 : decode b_Md_against 126 = .ok (.getfield 20, 3) := by decide +kernel
theorem d_Md_against_129 : decode b_Md_against 129 = .ok (.iload_n 2, 1) := by decide +kernel
theorem d_Md_against_130 : decode b_Md_against 130 = .ok (.iaload, 1) := by decide +kernel
theorem d_Md_against_131 : decode b_Md_against 131 = .ok (.isub, 1) := by decide +kernel
theorem d_Md_against_132 : decode b_Md_against 132 = .ok (.ireturn, 1) := by decide +kernel
theorem d_Md_type_0 : decode b_Md_type 0 = .ok (.aload_n 0, 1) := by decide +kernel
theorem d_Md_type_1 : decode b_Md_type 1 = .ok (.iconst 0, 1) := by decide +kernel
theorem d_Md_type_2 : decode b_Md_type 2 = .ok (.putfield 45, 3) := by decide +kernel
theorem d_Md_type_5 : decode b_Md_type 5 = .ok (.iload_n 3, 1) := by decide +kernel
theorem d_Md_type_6 : decode b_Md_type 6 = .ok (.iconst 1, 1) := by decide +kernel
theorem d_Md_type_7 : decode b_Md_type 7 = .ok (.bipush 8, 2) := by decide +kernel
theorem d_Md_type_9 : decode b_Md_type 9 = .ok (.invokestatic 88, 3) := by decide +kernel
theorem d_Md_type_12 : decode b_Md_type 12 = .ok (.ifCond .eq 19, 3) := by decide +kernel
theorem d_Md_type_15 : decode b_Md_type 15 = .ok (.aload_n 0, 1) := by decide +kernel
theorem d_Md_type_16 : decode b_Md_type 16 = .ok (.getfield 92, 3) := by decide +kernel
theorem d_Md_type_19 : decode b_Md_type 19 = .ok (.iload_n 3, 1) := by decide +kernel
theorem d_Md_type_20 : decode b_Md_type 20 = .ok (.iadd, 1) := by decide +kernel
theorem d_Md_type_21 : decode b_Md_type 21 = .ok (.sipush 1200, 3) := by decide +kernel
theorem d_Md_type_24 : decode b_Md_type 24 = .ok (.if_icmp .gt 7, 3) := by decide +kernel
theorem d_Md_type_27 : decode b_Md_type 27 = .ok (.iconst 1, 1) := by decide +kernel
theorem d_Md_type_28 : decode b_Md_type 28 = .ok (.goto 4, 3) := by decide +kernel
theorem d_Md_type_31 : decode b_Md_type 31 = .ok (.iconst 0, 1) := by decide +kernel
theorem d_Md_type_32 : decode b_Md_type 32 = .ok (.istore 4, 2) := by decide +kernel
theorem d_Md_type_34 : decode b_Md_type 34 = .ok (.iconst 0, 1) := by decide +kernel
theorem d_Md_type_35 : decode b_Md_type 35 = .ok (.istore 5, 2) := by decide +kernel
theorem d_Md_type_37 : decode b_Md_type 37 = .ok (.iload 5, 2) := by decide +kernel
theorem d_Md_type_39 : decode b_Md_type 39 = .ok (.iload_n 3, 1) := by decide +kernel
theorem d_Md_type_40 : decode b_Md_type 40 = .ok (.if_icmp .ge 35, 3) := by decide +kernel
theorem d_Md_type_43 : decode b_Md_type 43 = .ok (.iload 4, 2) := by decide +kernel
theorem d_Md_type_45 : decode b_Md_type 45 = .ok (.ifCond .eq 30, 3) := by decide +kernel
theorem d_Md_type_48 : decode b_Md_type 48 = .ok (.lload_n 1, 1) := by decide +kernel
theorem d_Md_type_49 : decode b_Md_type 49 = .ok (.bipush 8, 2) := by decide +kernel
theorem d_Md_type_51 : decode b_Md_type 51 = .ok (.iload 5, 2) := by decide +kernel
theorem d_Md_type_53 : decode b_Md_type 53 = .ok (.imul, 1) := by decide +kernel
theorem d_Md_type_54 : decode b_Md_type 54 = .ok (.lshr, 1) := by decide +kernel
theorem d_Md_type_55 : decode b_Md_type 55 = .ok (.ldc2_w 95, 3) := by decide +kernel
theorem d_Md_type_58 : decode b_Md_type 58 = .ok (.land, 1) := by decide +kernel
theorem d_Md_type_59 : decode b_Md_type 59 = .ok (.l2i, 1) := by decide +kernel
theorem d_Md_type_60 : decode b_Md_type 60 = .ok (.bipush 32, 2) := by decide +kernel
theorem d_Md_type_62 : decode b_Md_type 62 = .ok (.bipush 126, 2) := by decide +kernel
theorem d_Md_type_64 : decode b_Md_type 64 = .ok (.invokestatic 88, 3) := by decide +kernel
theorem d_Md_type_67 : decode b_Md_type 67 = .ok (.istore 4, 2) := by decide +kernel
theorem d_Md_type_69 : decode b_Md_type 69 = .ok (.iinc 5 1, 3) := by decide +kernel
theorem d_Md_type_72 : decode b_Md_type 72 = .ok (.goto (-35), 3) := by decide +kernel
theorem d_Md_type_75 : decode b_Md_type 75 = .ok (.iload 4, 2) := by decide +kernel
theorem d_Md_type_77 : decode b_Md_type 77 = .ok (.ifCond .ne 5, 3) := by decide +kernel
theorem d_Md_type_80 : decode b_Md_type 80 = .ok (.iconst (-1), 1) := by decide +kernel
theorem d_Md_type_81 : decode b_Md_type 81 = .ok (.ireturn, 1) := by decide +kernel
theorem d_Md_type_82 : decode b_Md_type 82 = .ok (.iload_n 3, 1) := by decide +kernel
theorem d_Md_type_83 : decode b_Md_type 83 = .ok (.iconst 1, 1) := by decide +kernel
theorem d_Md_type_84 : decode b_Md_type 84 = .ok (.isub, 1) := by decide +kernel
theorem d_Md_type_85 : decode b_Md_type 85 = .ok (.istore 5, 2) := by decide +kernel
theorem d_Md_type_87 : decode b_Md_type 87 = .ok (.iload 5, 2) := by decide +kernel
theorem d_Md_type_89 : decode b_Md_type 89 = .ok (.ifCond .lt 40, 3) := by decide +kernel
theorem d_Md_type_92 : decode b_Md_type 92 = .ok (.aload_n 0, 1) := by decide +kernel
theorem d_Md_type_93 : decode b_Md_type 93 = .ok (.getfield 7, 3) := by decide +kernel
theorem d_Md_type_96 : decode b_Md_type 96 = .ok (.aload_n 0, 1) := by decide +kernel
theorem d_Md_type_97 : decode b_Md_type 97 = .ok (.getfield 92, 3) := by decide +kernel
theorem d_Md_type_100 : decode b_Md_type 100 = .ok (.lload_n 1, 1) := by decide +kernel
theorem d_Md_type_101 : decode b_Md_type 101 = .ok (.bipush 8, 2) := by decide +kernel
theorem d_Md_type_103 : decode b_Md_type 103 = .ok (.iload 5, 2) := by decide +kernel
theorem d_Md_type_105 : decode b_Md_type 105 = .ok (.imul, 1) := by decide +kernel
theorem d_Md_type_106 : decode b_Md_type 106 = .ok (.lshr, 1) := by decide +kernel
theorem d_Md_type_107 : decode b_Md_type 107 = .ok (.ldc2_w 95, 3) := by decide +kernel
theorem d_Md_type_110 : decode b_Md_type 110 = .ok (.land, 1) := by decide +kernel
theorem d_Md_type_111 : decode b_Md_type 111 = .ok (.l2i, 1) := by decide +kernel
theorem d_Md_type_112 : decode b_Md_type 112 = .ok (.iastore, 1) := by decide +kernel
theorem d_Md_type_113 : decode b_Md_type 113 = .ok (.aload_n 0, 1) := by decide +kernel
theorem d_Md_type_114 : decode b_Md_type 114 = .ok (.dup, 1) := by decide +kernel
theorem d_Md_type_115 : decode b_Md_type 115 = .ok (.getfield 92, 3) := by decide +kernel
theorem d_Md_type_118 : decode b_Md_type 118 = .ok (.iconst 1, 1) := by decide +kernel
theorem d_Md_type_119 : decode b_Md_type 119 = .ok (.iadd, 1) := by decide +kernel
theorem d_Md_type_120 : decode b_Md_type 120 = .ok (.putfield 92, 3) := by decide +kernel
theorem d_Md_type_123 : decode b_Md_type 123 = .ok (.iinc 5 (-1), 3) := by decide +kernel
theorem d_Md_type_126 : decode b_Md_type 126 = .ok (.goto (-39), 3) := by decide +kernel
theorem d_Md_type_129 : decode b_Md_type 129 = .ok (.aload_n 0, 1) := by decide +kernel
theorem d_Md_type_130 : decode b_Md_type 130 = .ok (.getfield 92, 3) := by decide +kernel
theorem d_Md_type_133 : decode b_Md_type 133 = .ok (.ireturn, 1) := by decide +kernel
theorem d_Md_wipe_0 : decode b_Md_wipe 0 = .ok (.aload_n 0, 1) := by decide +kernel
theorem d_Md_wipe_1 : decode b_Md_wipe 1 = .ok (.iconst 0, 1) := by decide +kernel
theorem d_Md_wipe_2 : decode b_Md_wipe 2 = .ok (.putfield 45, 3) := by decide +kernel
theorem d_Md_wipe_5 : decode b_Md_wipe 5 = .ok (.aload_n 0, 1) := by decide +kernel
theorem d_Md_wipe_6 : decode b_Md_wipe 6 = .ok (.getfield 92, 3) := by decide +kernel
theorem d_Md_wipe_9 : decode b_Md_wipe 9 = .ok (.istore_n 1, 1) := by decide +kernel
theorem d_Md_wipe_10 : decode b_Md_wipe 10 = .ok (.aload_n 0, 1) := by decide +kernel
theorem d_Md_wipe_11 : decode b_Md_wipe 11 = .ok (.iconst 0, 1) := by decide +kernel
theorem d_Md_wipe_12 : decode b_Md_wipe 12 = .ok (.putfield 92, 3) := by decide +kernel
theorem d_Md_wipe_15 : decode b_Md_wipe 15 = .ok (.iload_n 1, 1) := by decide +kernel
theorem d_Md_wipe_16 : decode b_Md_wipe 16 = .ok (.ireturn, 1) := by decide +kernel
theorem d_Md_character_0 : decode b_Md_character 0 = .ok (.aload_n 0, 1) := by decide +kernel
theorem d_Md_character_1 : decode b_Md_character 1 = .ok (.iconst 0, 1) := by decide +kernel
theorem d_Md_character_2 : decode b_Md_character 2 = .ok (.putfield 45, 3) := by decide +kernel
theorem d_Md_character_5 : decode b_Md_character 5 = .ok (.iload_n 1, 1) := by decide +kernel
theorem d_Md_character_6 : decode b_Md_character 6 = .ok (.iconst 0, 1) := by decide +kernel
theorem d_Md_character_7 : decode b_Md_character 7 = .ok (.aload_n 0, 1) := by decide +kernel
theorem d_Md_character_8 : decode b_Md_character 8 = .ok (.getfield 92, 3) := by decide +kernel
theorem d_Md_character_11 : decode b_Md_character 11 = .ok (.iconst 1, 1) := by decide +kernel
theorem d_Md_character_12 : decode b_Md_character 12 = .ok (.isub, 1) := by decide +kernel
theorem d_Md_character_13 : decode b_Md_character 13 = .ok (.invokestatic 88, 3) := by decide +kernel
theorem d_Md_character_16 : decode b_Md_character 16 = .ok (.ifCond .eq 12, 3) := by decide +kernel
theorem d_Md_character_19 : decode b_Md_character 19 = .ok (.aload_n 0, 1) := by decide +kernel
theorem d_Md_character_20 : decode b_Md_character 20 = .ok (.getfield 7, 3) := by decide +kernel
theorem d_Md_character_23 : decode b_Md_character 23 = .ok (.iload_n 1, 1) := by decide +kernel
theorem d_Md_character_24 : decode b_Md_character 24 = .ok (.iaload, 1) := by decide +kernel
theorem d_Md_character_25 : decode b_Md_character 25 = .ok (.goto 4, 3) := by decide +kernel
theorem d_Md_character_28 : decode b_Md_character 28 = .ok (.iconst (-1), 1) := by decide +kernel
theorem d_Md_character_29 : decode b_Md_character 29 = .ok (.ireturn, 1) := by decide +kernel
theorem d_Md_place_0 : decode b_Md_place 0 = .ok (.aload_n 0, 1) := by decide +kernel
theorem d_Md_place_1 : decode b_Md_place 1 = .ok (.iconst 0, 1) := by decide +kernel
theorem d_Md_place_2 : decode b_Md_place 2 = .ok (.putfield 45, 3) := by decide +kernel
theorem d_Md_place_5 : decode b_Md_place 5 = .ok (.aload_n 0, 1) := by decide +kernel
theorem d_Md_place_6 : decode b_Md_place 6 = .ok (.getfield 13, 3) := by decide +kernel
theorem d_Md_place_9 : decode b_Md_place 9 = .ok (.ireturn, 1) := by decide +kernel
theorem d_Md_next_0 : decode b_Md_next 0 = .ok (.iload_n 1, 1) := by decide +kernel
theorem d_Md_next_1 : decode b_Md_next 1 = .ok (.bipush 48, 2) := by decide +kernel
theorem d_Md_next_3 : decode b_Md_next 3 = .ok (.if_icmp .lt 13, 3) := by decide +kernel
theorem d_Md_next_6 : decode b_Md_next 6 = .ok (.iload_n 1, 1) := by decide +kernel
theorem d_Md_next_7 : decode b_Md_next 7 = .ok (.bipush 57, 2) := by decide +kernel
theorem d_Md_next_9 : decode b_Md_next 9 = .ok (.if_icmp .gt 7, 3) := by decide +kernel
theorem d_Md_next_12 : decode b_Md_next 12 = .ok (.iconst 1, 1) := by decide +kernel
theorem d_Md_next_13 : decode b_Md_next 13 = .ok (.goto 4, 3) := by decide +kernel
theorem d_Md_next_16 : decode b_Md_next 16 = .ok (.iconst 0, 1) := by decide +kernel
theorem d_Md_next_17 : decode b_Md_next 17 = .ok (.istore_n 2, 1) := by decide +kernel
theorem d_Md_next_18 : decode b_Md_next 18 = .ok (.iload_n 1, 1) := by decide +kernel
theorem d_Md_next_19 : decode b_Md_next 19 = .ok (.bipush 101, 2) := by decide +kernel
theorem d_Md_next_21 : decode b_Md_next 21 = .ok (.if_icmp .eq 9, 3) := by decide +kernel
theorem d_Md_next_24 : decode b_Md_next 24 = .ok (.iload_n 1, 1) := by decide +kernel
theorem d_Md_next_25 : decode b_Md_next 25 = .ok (.bipush 69, 2) := by decide +kernel
theorem d_Md_next_27 : decode b_Md_next 27 = .ok (.if_icmp .ne 7, 3) := by decide +kernel
theorem d_Md_next_30 : decode b_Md_next 30 = .ok (.iconst 1, 1) := by decide +kernel
theorem d_Md_next_31 : decode b_Md_next 31 = .ok (.goto 4, 3) := by decide +kernel
theorem d_Md_next_34 : decode b_Md_next 34 = .ok (.iconst 0, 1) := by decide +kernel
theorem d_Md_next_35 : decode b_Md_next 35 = .ok (.istore_n 3, 1) := by decide +kernel
theorem d_Md_next_36 : decode b_Md_next 36 = .ok (.iload_n 0, 1) := by decide +kernel
theorem d_Md_next_37 : decode b_Md_next 37 = .ok (.tableswitch 339 0 13 #[71, 129, 160, 189, 208, 227, 237, 265, 276, 287, 300, 339, 313, 326], 71) := by decide +kernel
theorem d_Md_next_108 : decode b_Md_next 108 = .ok (.iload_n 1, 1) := by decide +kernel
theorem d_Md_next_109 : decode b_Md_next 109 = .ok (.bipush 43, 2) := by decide +kernel
theorem d_Md_next_111 : decode b_Md_next 111 = .ok (.if_icmp .eq 9, 3) := by decide +kernel
theorem d_Md_next_114 : decode b_Md_next 114 = .ok (.iload_n 1, 1) := by decide +kernel
theorem d_Md_next_115 : decode b_Md_next 115 = .ok (.bipush 45, 2) := by decide +kernel
theorem d_Md_next_117 : decode b_Md_next 117 = .ok (.if_icmp .ne 7, 3) := by decide +kernel
theorem d_Md_next_120 : decode b_Md_next 120 = .ok (.iconst 1, 1) := by decide +kernel
theorem d_Md_next_121 : decode b_Md_next 121 = .ok (.goto 44, 3) := by decide +kernel
theorem d_Md_next_124 : decode b_Md_next 124 = .ok (.iload_n 2, 1) := by decide +kernel
theorem d_Md_next_125 : decode b_Md_next 125 = .ok (.ifCond .eq 7, 3) := by decide +kernel
theorem d_Md_next_128 : decode b_Md_next 128 = .ok (.iconst 2, 1) := by decide +kernel
theorem d_Md_next_129 : decode b_Md_next 129 = .ok (.goto 36, 3) := by decide +kernel
theorem d_Md_next_132 : decode b_Md_next 132 = .ok (.iload_n 1, 1) := by decide +kernel
theorem d_Md_next_133 : decode b_Md_next 133 = .ok (.bipush 46, 2) := by decide +kernel
theorem d_Md_next_135 : decode b_Md_next 135 = .ok (.if_icmp .ne 7, 3) := by decide +kernel
theorem d_Md_next_138 : decode b_Md_next 138 = .ok (.iconst 5, 1) := by decide +kernel
theorem d_Md_next_139 : decode b_Md_next 139 = .ok (.goto 26, 3) := by decide +kernel
theorem d_Md_next_142 : decode b_Md_next 142 = .ok (.iload_n 1, 1) := by decide +kernel
theorem d_Md_next_143 : decode b_Md_next 143 = .ok (.bipush 105, 2) := by decide +kernel
theorem d_Md_next_145 : decode b_Md_next 145 = .ok (.if_icmp .ne 8, 3) := by decide +kernel
theorem d_Md_next_148 : decode b_Md_next 148 = .ok (.bipush 9, 2) := by decide +kernel
theorem d_Md_next_150 : decode b_Md_next 150 = .ok (.goto 15, 3) := by decide +kernel
theorem d_Md_next_153 : decode b_Md_next 153 = .ok (.iload_n 1, 1) := by decide +kernel
theorem d_Md_next_154 : decode b_Md_next 154 = .ok (.bipush 110, 2) := by decide +kernel
theorem d_Md_next_156 : decode b_Md_next 156 = .ok (.if_icmp .ne 8, 3) := by decide +kernel
theorem d_Md_next_159 : decode b_Md_next 159 = .ok (.bipush 12, 2) := by decide +kernel
theorem d_Md_next_161 : decode b_Md_next 161 = .ok (.goto 4, 3) := by decide +kernel
theorem d_Md_next_164 : decode b_Md_next 164 = .ok (.iconst (-1), 1) := by decide +kernel
theorem d_Md_next_165 : decode b_Md_next 165 = .ok (.ireturn, 1) := by decide +kernel
theorem d_Md_next_166 : decode b_Md_next 166 = .ok (.iload_n 2, 1) := by decide +kernel
theorem d_Md_next_167 : decode b_Md_next 167 = .ok (.ifCond .eq 7, 3) := by decide +kernel
theorem d_Md_next_170 : decode b_Md_next 170 = .ok (.iconst 2, 1) := by decide +kernel
theorem d_Md_next_171 : decode b_Md_next 171 = .ok (.goto 25, 3) := by decide +kernel
theorem d_Md_next_174 : decode b_Md_next 174 = .ok (.iload_n 1, 1) := by decide +kernel
theorem d_Md_next_175 : decode b_Md_next 175 = .ok (.bipush 46, 2) := by decide +kernel
theorem d_Md_next_177 : decode b_Md_next 177 = .ok (.if_icmp .ne 7, 3) := by decide +kernel
theorem d_Md_next_180 : decode b_Md_next 180 = .ok (.iconst 5, 1) := by decide +kernel
theorem d_Md_next_181 : decode b_Md_next 181 = .ok (.goto 15, 3) := by decide +kernel
theorem d_Md_next_184 : decode b_Md_next 184 = .ok (.iload_n 1, 1) := by decide +kernel
theorem d_Md_next_185 : decode b_Md_next 185 = .ok (.bipush 105, 2) := by decide +kernel
theorem d_Md_next_187 : decode b_Md_next 187 = .ok (.if_icmp .ne 8, 3) := by decide +kernel
theorem d_Md_next_190 : decode b_Md_next 190 = .ok (.bipush 9, 2) := by decide +kernel
theorem d_Md_next_192 : decode b_Md_next 192 = .ok (.goto 4, 3) := by decide +kernel
theorem d_Md_next_195 : decode b_Md_next 195 = .ok (.iconst (-1), 1) := by decide +kernel
theorem d_Md_next_196 : decode b_Md_next 196 = .ok (.ireturn, 1) := by decide +kernel
theorem d_Md_next_197 : decode b_Md_next 197 = .ok (.iload_n 2, 1) := by decide +kernel
theorem d_Md_next_198 : decode b_Md_next 198 = .ok (.ifCond .eq 7, 3) := by decide +kernel
theorem d_Md_next_201 : decode b_Md_next 201 = .ok (.iconst 2, 1) := by decide +kernel
theorem d_Md_next_202 : decode b_Md_next 202 = .ok (.goto 23, 3) := by decide +kernel
theorem d_Md_next_205 : decode b_Md_next 205 = .ok (.iload_n 1, 1) := by decide +kernel
theorem d_Md_next_206 : decode b_Md_next 206 = .ok (.bipush 46, 2) := by decide +kernel
theorem d_Md_next_208 : decode b_Md_next 208 = .ok (.if_icmp .ne 7, 3) := by decide +kernel
theorem d_Md_next_211 : decode b_Md_next 211 = .ok (.iconst 3, 1) := by decide +kernel
theorem d_Md_next_212 : decode b_Md_next 212 = .ok (.goto 13, 3) := by decide +kernel
theorem d_Md_next_215 : decode b_Md_next 215 = .ok (.iload_n 3, 1) := by decide +kernel
theorem d_Md_next_216 : decode b_Md_next 216 = .ok (.ifCond .eq 8, 3) := by decide +kernel
theorem d_Md_next_219 : decode b_Md_next 219 = .ok (.bipush 6, 2) := by decide +kernel
theorem d_Md_next_221 : decode b_Md_next 221 = .ok (.goto 4, 3) := by decide +kernel
theorem d_Md_next_224 : decode b_Md_next 224 = .ok (.iconst (-1), 1) := by decide +kernel
theorem d_Md_next_225 : decode b_Md_next 225 = .ok (.ireturn, 1) := by decide +kernel
theorem d_Md_next_226 : decode b_Md_next 226 = .ok (.iload_n 2, 1) := by decide +kernel
theorem d_Md_next_227 : decode b_Md_next 227 = .ok (.ifCond .eq 7, 3) := by decide +kernel
theorem d_Md_next_230 : decode b_Md_next 230 = .ok (.iconst 4, 1) := by decide +kernel
theorem d_Md_next_231 : decode b_Md_next 231 = .ok (.goto 13, 3) := by decide +kernel
theorem d_Md_next_234 : decode b_Md_next 234 = .ok (.iload_n 3, 1) := by decide +kernel
theorem d_Md_next_235 : decode b_Md_next 235 = .ok (.ifCond .eq 8, 3) := by decide +kernel
theorem d_Md_next_238 : decode b_Md_next 238 = .ok (.bipush 6, 2) := by decide +kernel
theorem d_Md_next_240 : decode b_Md_next 240 = .ok (.goto 4, 3) := by decide +kernel
theorem d_Md_next_243 : decode b_Md_next 243 = .ok (.iconst (-1), 1) := by decide +kernel
theorem d_Md_next_244 : decode b_Md_next 244 = .ok (.ireturn, 1) := by decide +kernel
theorem d_Md_next_245 : decode b_Md_next 245 = .ok (.iload_n 2, 1) := by decide +kernel
theorem d_Md_next_246 : decode b_Md_next 246 = .ok (.ifCond .eq 7, 3) := by decide +kernel
theorem d_Md_next_249 : decode b_Md_next 249 = .ok (.iconst 4, 1) := by decide +kernel
theorem d_Md_next_250 : decode b_Md_next 250 = .ok (.goto 13, 3) := by decide +kernel
theorem d_Md_next_253 : decode b_Md_next 253 = .ok (.iload_n 3, 1) := by decide +kernel
theorem d_Md_next_254 : decode b_Md_next 254 = .ok (.ifCond .eq 8, 3) := by decide +kernel
theorem d_Md_next_257 : decode b_Md_next 257 = .ok (.bipush 6, 2) := by decide +kernel
theorem d_Md_next_259 : decode b_Md_next 259 = .ok (.goto 4, 3) := by decide +kernel
theorem d_Md_next_262 : decode b_Md_next 262 = .ok (.iconst (-1), 1) := by decide +kernel
theorem d_Md_next_263 : decode b_Md_next 263 = .ok (.ireturn, 1) := by decide +kernel
theorem d_Md_next_264 : decode b_Md_next 264 = .ok (.iload_n 2, 1) := by decide +kernel
theorem d_Md_next_265 : decode b_Md_next 265 = .ok (.ifCond .eq 7, 3) := by decide +kernel
theorem d_Md_next_268 : decode b_Md_next 268 = .ok (.iconst 4, 1) := by decide +kernel
theorem d_Md_next_269 : decode b_Md_next 269 = .ok (.goto 4, 3) := by decide +kernel
theorem d_Md_next_272 : decode b_Md_next 272 = .ok (.iconst (-1), 1) := by decide +kernel
theorem d_Md_next_273 : decode b_Md_next 273 = .ok (.ireturn, 1) := by decide +kernel
theorem d_Md_next_274 : decode b_Md_next 274 = .ok (.iload_n 1, 1) := by decide +kernel
theorem d_Md_next_275 : decode b_Md_next 275 = .ok (.bipush 43, 2) := by decide +kernel
theorem d_Md_next_277 : decode b_Md_next 277 = .ok (.if_icmp .eq 9, 3) := by decide +kernel
theorem d_Md_next_280 : decode b_Md_next 280 = .ok (.iload_n 1, 1) := by decide +kernel
theorem d_Md_next_281 : decode b_Md_next 281 = .ok (.bipush 45, 2) := by decide +kernel
theorem d_Md_next_283 : decode b_Md_next 283 = .ok (.if_icmp .ne 8, 3) := by decide +kernel
theorem d_Md_next_286 : decode b_Md_next 286 = .ok (.bipush 7, 2) := by decide +kernel
theorem d_Md_next_288 : decode b_Md_next 288 = .ok (.goto 13, 3) := by decide +kernel
theorem d_Md_next_291 : decode b_Md_next 291 = .ok (.iload_n 2, 1) := by decide +kernel
theorem d_Md_next_292 : decode b_Md_next 292 = .ok (.ifCond .eq 8, 3) := by decide +kernel
theorem d_Md_next_295 : decode b_Md_next 295 = .ok (.bipush 8, 2) := by decide +kernel
theorem d_Md_next_297 : decode b_Md_next 297 = .ok (.goto 4, 3) := by decide +kernel
theorem d_Md_next_300 : decode b_Md_next 300 = .ok (.iconst (-1), 1) := by decide +kernel
theorem d_Md_next_301 : decode b_Md_next 301 = .ok (.ireturn, 1) := by decide +kernel
theorem d_Md_next_302 : decode b_Md_next 302 = .ok (.iload_n 2, 1) := by decide +kernel
theorem d_Md_next_303 : decode b_Md_next 303 = .ok (.ifCond .eq 8, 3) := by decide +kernel
theorem d_Md_next_306 : decode b_Md_next 306 = .ok (.bipush 8, 2) := by decide +kernel
theorem d_Md_next_308 : decode b_Md_next 308 = .ok (.goto 4, 3) := by decide +kernel
theorem d_Md_next_311 : decode b_Md_next 311 = .ok (.iconst (-1), 1) := by decide +kernel
theorem d_Md_next_312 : decode b_Md_next 312 = .ok (.ireturn, 1) := by decide +kernel
theorem d_Md_next_313 : decode b_Md_next 313 = .ok (.iload_n 2, 1) := by decide +kernel
theorem d_Md_next_314 : decode b_Md_next 314 = .ok (.ifCond .eq 8, 3) := by decide +kernel
theorem d_Md_next_317 : decode b_Md_next 317 = .ok (.bipush 8, 2) := by decide +kernel
theorem d_Md_next_319 : decode b_Md_next 319 = .ok (.goto 4, 3) := by decide +kernel
theorem d_Md_next_322 : decode b_Md_next 322 = .ok (.iconst (-1), 1) := by decide +kernel
theorem d_Md_next_323 : decode b_Md_next 323 = .ok (.ireturn, 1) := by decide +kernel
theorem d_Md_next_324 : decode b_Md_next 324 = .ok (.iload_n 1, 1) := by decide +kernel
theorem d_Md_next_325 : decode b_Md_next 325 = .ok (.bipush 110, 2) := by decide +kernel
theorem d_Md_next_327 : decode b_Md_next 327 = .ok (.if_icmp .ne 8, 3) := by decide +kernel
theorem d_Md_next_330 : decode b_Md_next 330 = .ok (.bipush 10, 2) := by decide +kernel
theorem d_Md_next_332 : decode b_Md_next 332 = .ok (.goto 4, 3) := by decide +kernel
theorem d_Md_next_335 : decode b_Md_next 335 = .ok (.iconst (-1), 1) := by decide +kernel
theorem d_Md_next_336 : decode b_Md_next 336 = .ok (.ireturn, 1) := by decide +kernel
theorem d_Md_next_337 : decode b_Md_next 337 = .ok (.iload_n 1, 1) := by decide +kernel
theorem d_Md_next_338 : decode b_Md_next 338 = .ok (.bipush 102, 2) := by decide +kernel
theorem d_Md_next_340 : decode b_Md_next 340 = .ok (.if_icmp .ne 8, 3) := by decide +kernel
theorem d_Md_next_343 : decode b_Md_next 343 = .ok (.bipush 11, 2) := by decide +kernel
theorem d_Md_next_345 : decode b_Md_next 345 = .ok (.goto 4, 3) := by decide +kernel
theorem d_Md_next_348 : decode b_Md_next 348 = .ok (.iconst (-1), 1) := by decide +kernel
theorem d_Md_next_349 : decode b_Md_next 349 = .ok (.ireturn, 1) := by decide +kernel
theorem d_Md_next_350 : decode b_Md_next 350 = .ok (.iload_n 1, 1) := by decide +kernel
theorem d_Md_next_351 : decode b_Md_next 351 = .ok (.bipush 97, 2) := by decide +kernel
theorem d_Md_next_353 : decode b_Md_next 353 = .ok (.if_icmp .ne 8, 3) := by decide +kernel
theorem d_Md_next_356 : decode b_Md_next 356 = .ok (.bipush 13, 2) := by decide +kernel
theorem d_Md_next_358 : decode b_Md_next 358 = .ok (.goto 4, 3) := by decide +kernel
theorem d_Md_next_361 : decode b_Md_next 361 = .ok (.iconst (-1), 1) := by decide +kernel
theorem d_Md_next_362 : decode b_Md_next 362 = .ok (.ireturn, 1) := by decide +kernel
theorem d_Md_next_363 : decode b_Md_next 363 = .ok (.iload_n 1, 1) := by decide +kernel
theorem d_Md_next_364 : decode b_Md_next 364 = .ok (.bipush 110, 2) := by decide +kernel
theorem d_Md_next_366 : decode b_Md_next 366 = .ok (.if_icmp .ne 8, 3) := by decide +kernel
theorem d_Md_next_369 : decode b_Md_next 369 = .ok (.bipush 14, 2) := by decide +kernel
theorem d_Md_next_371 : decode b_Md_next 371 = .ok (.goto 4, 3) := by decide +kernel
theorem d_Md_next_374 : decode b_Md_next 374 = .ok (.iconst (-1), 1) := by decide +kernel
theorem d_Md_next_375 : decode b_Md_next 375 = .ok (.ireturn, 1) := by decide +kernel
theorem d_Md_next_376 : decode b_Md_next 376 = .ok (.iconst (-1), 1) := by decide +kernel
theorem d_Md_next_377 : decode b_Md_next 377 = .ok (.ireturn, 1) := by decide +kernel
theorem d_Md_ends_0 : decode b_Md_ends 0 = .ok (.iload_n 0, 1) := by decide +kernel
theorem d_Md_ends_1 : decode b_Md_ends 1 = .ok (.iconst 2, 1) := by decide +kernel
theorem d_Md_ends_2 : decode b_Md_ends 2 = .ok (.if_icmp .eq 31, 3) := by decide +kernel
theorem d_Md_ends_5 : decode b_Md_ends 5 = .ok (.iload_n 0, 1) := by decide +kernel
theorem d_Md_ends_6 : decode b_Md_ends 6 = .ok (.iconst 3, 1) := by decide +kernel
theorem d_Md_ends_7 : decode b_Md_ends 7 = .ok (.if_icmp .eq 26, 3) := by decide +kernel
theorem d_Md_ends_10 : decode b_Md_ends 10 = .ok (.iload_n 0, 1) := by decide +kernel
theorem d_Md_ends_11 : decode b_Md_ends 11 = .ok (.iconst 4, 1) := by decide +kernel
theorem d_Md_ends_12 : decode b_Md_ends 12 = .ok (.if_icmp .eq 21, 3) := by decide +kernel
theorem d_Md_ends_15 : decode b_Md_ends 15 = .ok (.iload_n 0, 1) := by decide +kernel
theorem d_Md_ends_16 : decode b_Md_ends 16 = .ok (.bipush 8, 2) := by decide +kernel
theorem d_Md_ends_18 : decode b_Md_ends 18 = .ok (.if_icmp .eq 15, 3) := by decide +kernel
theorem d_Md_ends_21 : decode b_Md_ends 21 = .ok (.iload_n 0, 1) := by decide +kernel
theorem d_Md_ends_22 : decode b_Md_ends 22 = .ok (.bipush 11, 2) := by decide +kernel
theorem d_Md_ends_24 : decode b_Md_ends 24 = .ok (.if_icmp .eq 9, 3) := by decide +kernel
theorem d_Md_ends_27 : decode b_Md_ends 27 = .ok (.iload_n 0, 1) := by decide +kernel
theorem d_Md_ends_28 : decode b_Md_ends 28 = .ok (.bipush 14, 2) := by decide +kernel
theorem d_Md_ends_30 : decode b_Md_ends 30 = .ok (.if_icmp .ne 7, 3) := by decide +kernel
theorem d_Md_ends_33 : decode b_Md_ends 33 = .ok (.iconst 1, 1) := by decide +kernel
theorem d_Md_ends_34 : decode b_Md_ends 34 = .ok (.goto 4, 3) := by decide +kernel
theorem d_Md_ends_37 : decode b_Md_ends 37 = .ok (.iconst 0, 1) := by decide +kernel
theorem d_Md_ends_38 : decode b_Md_ends 38 = .ok (.ireturn, 1) := by decide +kernel
theorem d_Md_nearest_0 : decode b_Md_nearest 0 = .ok (.lconst 0, 1) := by decide +kernel
theorem d_Md_nearest_1 : decode b_Md_nearest 1 = .ok (.lstore_n 1, 1) := by decide +kernel
theorem d_Md_nearest_2 : decode b_Md_nearest 2 = .ok (.ldc2_w 116, 3) := by decide +kernel
theorem d_Md_nearest_5 : decode b_Md_nearest 5 = .ok (.lstore_n 3, 1) := by decide +kernel
theorem d_Md_nearest_6 : decode b_Md_nearest 6 = .ok (.lload_n 3, 1) := by decide +kernel
theorem d_Md_nearest_7 : decode b_Md_nearest 7 = .ok (.lload_n 1, 1) := by decide +kernel
theorem d_Md_nearest_8 : decode b_Md_nearest 8 = .ok (.lsub, 1) := by decide +kernel
theorem d_Md_nearest_9 : decode b_Md_nearest 9 = .ok (.lconst 1, 1) := by decide +kernel
theorem d_Md_nearest_10 : decode b_Md_nearest 10 = .ok (.lcmp, 1) := by decide +kernel
theorem d_Md_nearest_11 : decode b_Md_nearest 11 = .ok (.ifCond .le 64, 3) := by decide +kernel
theorem d_Md_nearest_14 : decode b_Md_nearest 14 = .ok (.lload_n 1, 1) := by decide +kernel
theorem d_Md_nearest_15 : decode b_Md_nearest 15 = .ok (.lload_n 3, 1) := by decide +kernel
theorem d_Md_nearest_16 : decode b_Md_nearest 16 = .ok (.lload_n 1, 1) := by decide +kernel
theorem d_Md_nearest_17 : decode b_Md_nearest 17 = .ok (.lsub, 1) := by decide +kernel
theorem d_Md_nearest_18 : decode b_Md_nearest 18 = .ok (.ldc2_w 86, 3) := by decide +kernel
theorem d_Md_nearest_21 : decode b_Md_nearest 21 = .ok (.ldiv, 1) := by decide +kernel
theorem d_Md_nearest_22 : decode b_Md_nearest 22 = .ok (.ladd, 1) := by decide +kernel
theorem d_Md_nearest_23 : decode b_Md_nearest 23 = .ok (.lstore 5, 2) := by decide +kernel
theorem d_Md_nearest_25 : decode b_Md_nearest 25 = .ok (.aload_n 0, 1) := by decide +kernel
theorem d_Md_nearest_26 : decode b_Md_nearest 26 = .ok (.iconst 1, 1) := by decide +kernel
theorem d_Md_nearest_27 : decode b_Md_nearest 27 = .ok (.lload 5, 2) := by decide +kernel
theorem d_Md_nearest_29 : decode b_Md_nearest 29 = .ok (.invokevirtual 122, 3) := by decide +kernel
theorem d_Md_nearest_32 : decode b_Md_nearest 32 = .ok (.aload_n 0, 1) := by decide +kernel
theorem d_Md_nearest_33 : decode b_Md_nearest 33 = .ok (.iconst 1, 1) := by decide +kernel
theorem d_Md_nearest_34 : decode b_Md_nearest 34 = .ok (.iconst 0, 1) := by decide +kernel
