theorem d_Nearest_raisePower_0 : decode b_Nearest_raisePower 0 = .ok (.aload_n 0, 1) := by decide +kernel
theorem d_Nearest_raisePower_1 : decode b_Nearest_raisePower 1 = .ok (.getfield 9, 3) := by decide +kernel
theorem d_Nearest_raisePower_4 : decode b_Nearest_raisePower 4 = .ok (.iload_n 1, 1) := by decide +kernel
theorem d_Nearest_raisePower_5 : decode b_Nearest_raisePower 5 = .ok (.ineg, 1) := by decide +kernel
theorem d_Nearest_raisePower_6 : decode b_Nearest_raisePower 6 = .ok (.invokevirtual 66, 3) := by decide +kernel
theorem d_Nearest_raisePower_9 : decode b_Nearest_raisePower 9 = .ok (.aload_n 0, 1) := by decide +kernel
theorem d_Nearest_raisePower_10 : decode b_Nearest_raisePower 10 = .ok (.dup, 1) := by decide +kernel
theorem d_Nearest_raisePower_11 : decode b_Nearest_raisePower 11 = .ok (.getfield 15, 3) := by decide +kernel
theorem d_Nearest_raisePower_14 : decode b_Nearest_raisePower 14 = .ok (.iload_n 1, 1) := by decide +kernel
theorem d_Nearest_raisePower_15 : decode b_Nearest_raisePower 15 = .ok (.iadd, 1) := by decide +kernel
theorem d_Nearest_raisePower_16 : decode b_Nearest_raisePower 16 = .ok (.putfield 15, 3) := by decide +kernel
theorem d_Nearest_raisePower_19 : decode b_Nearest_raisePower 19 = .ok (.return_, 1) := by decide +kernel
theorem d_Nearest_scaleToHead_0 : decode b_Nearest_scaleToHead 0 = .ok (.iconst 0, 1) := by decide +kernel
theorem d_Nearest_scaleToHead_1 : decode b_Nearest_scaleToHead 1 = .ok (.istore_n 1, 1) := by decide +kernel
theorem d_Nearest_scaleToHead_2 : decode b_Nearest_scaleToHead 2 = .ok (.iload_n 1, 1) := by decide +kernel
theorem d_Nearest_scaleToHead_3 : decode b_Nearest_scaleToHead 3 = .ok (.bipush 100, 2) := by decide +kernel
theorem d_Nearest_scaleToHead_5 : decode b_Nearest_scaleToHead 5 = .ok (.if_icmp .ge 25, 3) := by decide +kernel
theorem d_Nearest_scaleToHead_8 : decode b_Nearest_scaleToHead 8 = .ok (.aload_n 0, 1) := by decide +kernel
theorem d_Nearest_scaleToHead_9 : decode b_Nearest_scaleToHead 9 = .ok (.getfield 9, 3) := by decide +kernel
theorem d_Nearest_scaleToHead_12 : decode b_Nearest_scaleToHead 12 = .ok (.invokevirtual 43, 3) := by decide +kernel
theorem d_Nearest_scaleToHead_15 : decode b_Nearest_scaleToHead 15 = .ok (.ifCond .eq 15, 3) := by decide +kernel
theorem d_Nearest_scaleToHead_18 : decode b_Nearest_scaleToHead 18 = .ok (.aload_n 0, 1) := by decide +kernel
theorem d_Nearest_scaleToHead_19 : decode b_Nearest_scaleToHead 19 = .ok (.bipush 33, 2) := by decide +kernel
theorem d_Nearest_scaleToHead_21 : decode b_Nearest_scaleToHead 21 = .ok (.invokevirtual 47, 3) := by decide +kernel
theorem d_Nearest_scaleToHead_24 : decode b_Nearest_scaleToHead 24 = .ok (.iinc 1 1, 3) := by decide +kernel
theorem d_Nearest_scaleToHead_27 : decode b_Nearest_scaleToHead 27 = .ok (.goto (-25), 3) := by decide +kernel
theorem d_Nearest_scaleToHead_30 : decode b_Nearest_scaleToHead 30 = .ok (.iconst 0, 1) := by decide +kernel
theorem d_Nearest_scaleToHead_31 : decode b_Nearest_scaleToHead 31 = .ok (.istore_n 1, 1) := by decide +kernel
theorem d_Nearest_scaleToHead_32 : decode b_Nearest_scaleToHead 32 = .ok (.iload_n 1, 1) := by decide +kernel
theorem d_Nearest_scaleToHead_33 : decode b_Nearest_scaleToHead 33 = .ok (.bipush 100, 2) := by decide +kernel
theorem d_Nearest_scaleToHead_35 : decode b_Nearest_scaleToHead 35 = .ok (.if_icmp .ge 57, 3) := by decide +kernel
theorem d_Nearest_scaleToHead_38 : decode b_Nearest_scaleToHead 38 = .ok (.bipush 64, 2) := by decide +kernel
theorem d_Nearest_scaleToHead_40 : decode b_Nearest_scaleToHead 40 = .ok (.aload_n 0, 1) := by decide +kernel
theorem d_Nearest_scaleToHead_41 : decode b_Nearest_scaleToHead 41 = .ok (.getfield 9, 3) := by decide +kernel
theorem d_Nearest_scaleToHead_44 : decode b_Nearest_scaleToHead 44 = .ok (.invokevirtual 51, 3) := by decide +kernel
theorem d_Nearest_scaleToHead_47 : decode b_Nearest_scaleToHead 47 = .ok (.invokestatic 54, 3) := by decide +kernel
theorem d_Nearest_scaleToHead_50 : decode b_Nearest_scaleToHead 50 = .ok (.isub, 1) := by decide +kernel
theorem d_Nearest_scaleToHead_51 : decode b_Nearest_scaleToHead 51 = .ok (.istore_n 2, 1) := by decide +kernel
theorem d_Nearest_scaleToHead_52 : decode b_Nearest_scaleToHead 52 = .ok (.bipush 54, 2) := by decide +kernel
theorem d_Nearest_scaleToHead_54 : decode b_Nearest_scaleToHead 54 = .ok (.iload_n 2, 1) := by decide +kernel
theorem d_Nearest_scaleToHead_55 : decode b_Nearest_scaleToHead 55 = .ok (.isub, 1) := by decide +kernel
theorem d_Nearest_scaleToHead_56 : decode b_Nearest_scaleToHead 56 = .ok (.aload_n 0, 1) := by decide +kernel
theorem d_Nearest_scaleToHead_57 : decode b_Nearest_scaleToHead 57 = .ok (.getfield 15, 3) := by decide +kernel
theorem d_Nearest_scaleToHead_60 : decode b_Nearest_scaleToHead 60 = .ok (.sipush (-1075), 3) := by decide +kernel
theorem d_Nearest_scaleToHead_63 : decode b_Nearest_scaleToHead 63 = .ok (.isub, 1) := by decide +kernel
theorem d_Nearest_scaleToHead_64 : decode b_Nearest_scaleToHead 64 = .ok (.invokestatic 60, 3) := by decide +kernel
theorem d_Nearest_scaleToHead_67 : decode b_Nearest_scaleToHead 67 = .ok (.istore_n 3, 1) := by decide +kernel
theorem d_Nearest_scaleToHead_68 : decode b_Nearest_scaleToHead 68 = .ok (.iload_n 3, 1) := by decide +kernel
theorem d_Nearest_scaleToHead_69 : decode b_Nearest_scaleToHead 69 = .ok (.ifCond .ne 6, 3) := by decide +kernel
theorem d_Nearest_scaleToHead_72 : decode b_Nearest_scaleToHead 72 = .ok (.goto 20, 3) := by decide +kernel
theorem d_Nearest_scaleToHead_75 : decode b_Nearest_scaleToHead 75 = .ok (.aload_n 0, 1) := by decide +kernel
theorem d_Nearest_scaleToHead_76 : decode b_Nearest_scaleToHead 76 = .ok (.iload_n 3, 1) := by decide +kernel
theorem d_Nearest_scaleToHead_77 : decode b_Nearest_scaleToHead 77 = .ok (.bipush 33, 2) := by decide +kernel
theorem d_Nearest_scaleToHead_79 : decode b_Nearest_scaleToHead 79 = .ok (.invokestatic 60, 3) := by decide +kernel
theorem d_Nearest_scaleToHead_82 : decode b_Nearest_scaleToHead 82 = .ok (.ineg, 1) := by decide +kernel
theorem d_Nearest_scaleToHead_83 : decode b_Nearest_scaleToHead 83 = .ok (.invokevirtual 47, 3) := by decide +kernel
theorem d_Nearest_scaleToHead_86 : decode b_Nearest_scaleToHead 86 = .ok (.iinc 1 1, 3) := by decide +kernel
theorem d_Nearest_scaleToHead_89 : decode b_Nearest_scaleToHead 89 = .ok (.goto (-57), 3) := by decide +kernel
theorem d_Nearest_scaleToHead_92 : decode b_Nearest_scaleToHead 92 = .ok (.return_, 1) := by decide +kernel
theorem d_Nearest_rounded_0 : decode b_Nearest_rounded 0 = .ok (.aload_n 0, 1) := by decide +kernel
theorem d_Nearest_rounded_1 : decode b_Nearest_rounded 1 = .ok (.getfield 9, 3) := by decide +kernel
theorem d_Nearest_rounded_4 : decode b_Nearest_rounded 4 = .ok (.invokevirtual 51, 3) := by decide +kernel
theorem d_Nearest_rounded_7 : decode b_Nearest_rounded 7 = .ok (.lstore_n 1, 1) := by decide +kernel
theorem d_Nearest_rounded_8 : decode b_Nearest_rounded 8 = .ok (.lload_n 1, 1) := by decide +kernel
theorem d_Nearest_rounded_9 : decode b_Nearest_rounded 9 = .ok (.iconst 1, 1) := by decide +kernel
theorem d_Nearest_rounded_10 : decode b_Nearest_rounded 10 = .ok (.lushr, 1) := by decide +kernel
theorem d_Nearest_rounded_11 : decode b_Nearest_rounded 11 = .ok (.lstore_n 3, 1) := by decide +kernel
theorem d_Nearest_rounded_12 : decode b_Nearest_rounded 12 = .ok (.lload_n 1, 1) := by decide +kernel
theorem d_Nearest_rounded_13 : decode b_Nearest_rounded 13 = .ok (.lconst 1, 1) := by decide +kernel
theorem d_Nearest_rounded_14 : decode b_Nearest_rounded 14 = .ok (.land, 1) := by decide +kernel
theorem d_Nearest_rounded_15 : decode b_Nearest_rounded 15 = .ok (.lconst 0, 1) := by decide +kernel
theorem d_Nearest_rounded_16 : decode b_Nearest_rounded 16 = .ok (.lcmp, 1) := by decide +kernel
theorem d_Nearest_rounded_17 : decode b_Nearest_rounded 17 = .ok (.ifCond .eq 7, 3) := by decide +kernel
theorem d_Nearest_rounded_20 : decode b_Nearest_rounded 20 = .ok (.iconst 1, 1) := by decide +kernel
theorem d_Nearest_rounded_21 : decode b_Nearest_rounded 21 = .ok (.goto 4, 3) := by decide +kernel
theorem d_Nearest_rounded_24 : decode b_Nearest_rounded 24 = .ok (.iconst 0, 1) := by decide +kernel
theorem d_Nearest_rounded_25 : decode b_Nearest_rounded 25 = .ok (.istore 5, 2) := by decide +kernel
theorem d_Nearest_rounded_27 : decode b_Nearest_rounded 27 = .ok (.iload 5, 2) := by decide +kernel
theorem d_Nearest_rounded_29 : decode b_Nearest_rounded 29 = .ok (.ifCond .eq 25, 3) := by decide +kernel
theorem d_Nearest_rounded_32 : decode b_Nearest_rounded 32 = .ok (.aload_n 0, 1) := by decide +kernel
theorem d_Nearest_rounded_33 : decode b_Nearest_rounded 33 = .ok (.getfield 9, 3) := by decide +kernel
theorem d_Nearest_rounded_36 : decode b_Nearest_rounded 36 = .ok (.invokevirtual 69, 3) := by decide +kernel
theorem d_Nearest_rounded_39 : decode b_Nearest_rounded 39 = .ok (.ifCond .ne 11, 3) := by decide +kernel
theorem d_Nearest_rounded_42 : decode b_Nearest_rounded 42 = .ok (.lload_n 3, 1) := by decide +kernel
theorem d_Nearest_rounded_43 : decode b_Nearest_rounded 43 = .ok (.lconst 1, 1) := by decide +kernel
theorem d_Nearest_rounded_44 : decode b_Nearest_rounded 44 = .ok (.land, 1) := by decide +kernel
theorem d_Nearest_rounded_45 : decode b_Nearest_rounded 45 = .ok (.lconst 0, 1) := by decide +kernel
theorem d_Nearest_rounded_46 : decode b_Nearest_rounded 46 = .ok (.lcmp, 1) := by decide +kernel
theorem d_Nearest_rounded_47 : decode b_Nearest_rounded 47 = .ok (.ifCond .eq 7, 3) := by decide +kernel
theorem d_Nearest_rounded_50 : decode b_Nearest_rounded 50 = .ok (.lload_n 3, 1) := by decide +kernel
theorem d_Nearest_rounded_51 : decode b_Nearest_rounded 51 = .ok (.lconst 1, 1) := by decide +kernel
theorem d_Nearest_rounded_52 : decode b_Nearest_rounded 52 = .ok (.ladd, 1) := by decide +kernel
theorem d_Nearest_rounded_53 : decode b_Nearest_rounded 53 = .ok (.lstore_n 3, 1) := by decide +kernel
theorem d_Nearest_rounded_54 : decode b_Nearest_rounded 54 = .ok (.aload_n 0, 1) := by decide +kernel
theorem d_Nearest_rounded_55 : decode b_Nearest_rounded 55 = .ok (.getfield 15, 3) := by decide +kernel
theorem d_Nearest_rounded_58 : decode b_Nearest_rounded 58 = .ok (.sipush (-1075), 3) := by decide +kernel
theorem d_Nearest_rounded_61 : decode b_Nearest_rounded 61 = .ok (.isub, 1) := by decide +kernel
theorem d_Nearest_rounded_62 : decode b_Nearest_rounded 62 = .ok (.i2l, 1) := by decide +kernel
theorem d_Nearest_rounded_63 : decode b_Nearest_rounded 63 = .ok (.bipush 52, 2) := by decide +kernel
theorem d_Nearest_rounded_65 : decode b_Nearest_rounded 65 = .ok (.lshl, 1) := by decide +kernel
theorem d_Nearest_rounded_66 : decode b_Nearest_rounded 66 = .ok (.lload_n 3, 1) := by decide +kernel
theorem d_Nearest_rounded_67 : decode b_Nearest_rounded 67 = .ok (.ladd, 1) := by decide +kernel
theorem d_Nearest_rounded_68 : decode b_Nearest_rounded 68 = .ok (.lreturn, 1) := by decide +kernel
theorem d_Nearest_bits_0 : decode b_Nearest_bits 0 = .ok (.aload_n 1, 1) := by decide +kernel
theorem d_Nearest_bits_1 : decode b_Nearest_bits 1 = .ok (.invokevirtual 19, 3) := by decide +kernel
theorem d_Nearest_bits_4 : decode b_Nearest_bits 4 = .ok (.ifCond .eq 13, 3) := by decide +kernel
theorem d_Nearest_bits_7 : decode b_Nearest_bits 7 = .ok (.aload_n 1, 1) := by decide +kernel
theorem d_Nearest_bits_8 : decode b_Nearest_bits 8 = .ok (.invokevirtual 25, 3) := by decide +kernel
theorem d_Nearest_bits_11 : decode b_Nearest_bits 11 = .ok (.sipush (-324), 3) := by decide +kernel
theorem d_Nearest_bits_14 : decode b_Nearest_bits 14 = .ok (.if_icmp .ge 5, 3) := by decide +kernel
theorem d_Nearest_bits_17 : decode b_Nearest_bits 17 = .ok (.lconst 0, 1) := by decide +kernel
theorem d_Nearest_bits_18 : decode b_Nearest_bits 18 = .ok (.lreturn, 1) := by decide +kernel
theorem d_Nearest_bits_19 : decode b_Nearest_bits 19 = .ok (.aload_n 1, 1) := by decide +kernel
theorem d_Nearest_bits_20 : decode b_Nearest_bits 20 = .ok (.invokevirtual 25, 3) := by decide +kernel
theorem d_Nearest_bits_23 : decode b_Nearest_bits 23 = .ok (.sipush 310, 3) := by decide +kernel
theorem d_Nearest_bits_26 : decode b_Nearest_bits 26 = .ok (.if_icmp .le 7, 3) := by decide +kernel
theorem d_Nearest_bits_29 : decode b_Nearest_bits 29 = .ok (.ldc2_w 28, 3) := by decide +kernel
theorem d_Nearest_bits_32 : decode b_Nearest_bits 32 = .ok (.lreturn, 1) := by decide +kernel
theorem d_Nearest_bits_33 : decode b_Nearest_bits 33 = .ok (.aload_n 0, 1) := by decide +kernel
theorem d_Nearest_bits_34 : decode b_Nearest_bits 34 = .ok (.getfield 9, 3) := by decide +kernel
theorem d_Nearest_bits_37 : decode b_Nearest_bits 37 = .ok (.aload_n 1, 1) := by decide +kernel
theorem d_Nearest_bits_38 : decode b_Nearest_bits 38 = .ok (.invokevirtual 30, 3) := by decide +kernel
theorem d_Nearest_bits_41 : decode b_Nearest_bits 41 = .ok (.aload_n 0, 1) := by decide +kernel
theorem d_Nearest_bits_42 : decode b_Nearest_bits 42 = .ok (.iconst 0, 1) := by decide +kernel
theorem d_Nearest_bits_43 : decode b_Nearest_bits 43 = .ok (.putfield 15, 3) := by decide +kernel
theorem d_Nearest_bits_46 : decode b_Nearest_bits 46 = .ok (.aload_n 0, 1) := by decide +kernel
theorem d_Nearest_bits_47 : decode b_Nearest_bits 47 = .ok (.invokevirtual 36, 3) := by decide +kernel
theorem d_Nearest_bits_50 : decode b_Nearest_bits 50 = .ok (.aload_n 0, 1) := by decide +kernel
theorem d_Nearest_bits_51 : decode b_Nearest_bits 51 = .ok (.getfield 15, 3) := by decide +kernel
theorem d_Nearest_bits_54 : decode b_Nearest_bits 54 = .ok (.sipush 970, 3) := by decide +kernel
theorem d_Nearest_bits_57 : decode b_Nearest_bits 57 = .ok (.if_icmp .le 9, 3) := by decide +kernel
theorem d_Nearest_bits_60 : decode b_Nearest_bits 60 = .ok (.ldc2_w 28, 3) := by decide +kernel
theorem d_Nearest_bits_63 : decode b_Nearest_bits 63 = .ok (.goto 7, 3) := by decide +kernel
theorem d_Nearest_bits_66 : decode b_Nearest_bits 66 = .ok (.aload_n 0, 1) := by decide +kernel
theorem d_Nearest_bits_67 : decode b_Nearest_bits 67 = .ok (.invokevirtual 39, 3) := by decide +kernel
theorem d_Nearest_bits_70 : decode b_Nearest_bits 70 = .ok (.lreturn, 1) := by decide +kernel
