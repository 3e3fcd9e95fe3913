theorem d_Md_scientific_18 : decode b_Md_scientific 18 = .ok (.bipush 46, 2) := by decide +kernel
theorem d_Md_scientific_20 : decode b_Md_scientific 20 = .ok (.invokevirtual 148, 3) := by decide +kernel
theorem d_Md_scientific_23 : decode b_Md_scientific 23 = .ok (.aload_n 0, 1) := by decide +kernel
theorem d_Md_scientific_24 : decode b_Md_scientific 24 = .ok (.iload_n 1, 1) := by decide +kernel
theorem d_Md_scientific_25 : decode b_Md_scientific 25 = .ok (.iconst 1, 1) := by decide +kernel
theorem d_Md_scientific_26 : decode b_Md_scientific 26 = .ok (.aload_n 0, 1) := by decide +kernel
theorem d_Md_scientific_27 : decode b_Md_scientific 27 = .ok (.getfield 20, 3) := by decide +kernel
theorem d_Md_scientific_30 : decode b_Md_scientific 30 = .ok (.iload_n 1, 1) := by decide +kernel
theorem d_Md_scientific_31 : decode b_Md_scientific 31 = .ok (.iaload, 1) := by decide +kernel
theorem d_Md_scientific_32 : decode b_Md_scientific 32 = .ok (.invokevirtual 155, 3) := by decide +kernel
theorem d_Md_scientific_35 : decode b_Md_scientific 35 = .ok (.aload_n 0, 1) := by decide +kernel
theorem d_Md_scientific_36 : decode b_Md_scientific 36 = .ok (.bipush 101, 2) := by decide +kernel
theorem d_Md_scientific_38 : decode b_Md_scientific 38 = .ok (.invokevirtual 148, 3) := by decide +kernel
theorem d_Md_scientific_41 : decode b_Md_scientific 41 = .ok (.aload_n 0, 1) := by decide +kernel
theorem d_Md_scientific_42 : decode b_Md_scientific 42 = .ok (.getfield 23, 3) := by decide +kernel
theorem d_Md_scientific_45 : decode b_Md_scientific 45 = .ok (.iload_n 1, 1) := by decide +kernel
theorem d_Md_scientific_46 : decode b_Md_scientific 46 = .ok (.iaload, 1) := by decide +kernel
theorem d_Md_scientific_47 : decode b_Md_scientific 47 = .ok (.iconst 1, 1) := by decide +kernel
theorem d_Md_scientific_48 : decode b_Md_scientific 48 = .ok (.isub, 1) := by decide +kernel
theorem d_Md_scientific_49 : decode b_Md_scientific 49 = .ok (.istore_n 2, 1) := by decide +kernel
theorem d_Md_scientific_50 : decode b_Md_scientific 50 = .ok (.iload_n 2, 1) := by decide +kernel
theorem d_Md_scientific_51 : decode b_Md_scientific 51 = .ok (.ifCond .ge 12, 3) := by decide +kernel
theorem d_Md_scientific_54 : decode b_Md_scientific 54 = .ok (.aload_n 0, 1) := by decide +kernel
theorem d_Md_scientific_55 : decode b_Md_scientific 55 = .ok (.bipush 45, 2) := by decide +kernel
theorem d_Md_scientific_57 : decode b_Md_scientific 57 = .ok (.invokevirtual 148, 3) := by decide +kernel
theorem d_Md_scientific_60 : decode b_Md_scientific 60 = .ok (.iload_n 2, 1) := by decide +kernel
theorem d_Md_scientific_61 : decode b_Md_scientific 61 = .ok (.ineg, 1) := by decide +kernel
theorem d_Md_scientific_62 : decode b_Md_scientific 62 = .ok (.istore_n 2, 1) := by decide +kernel
theorem d_Md_scientific_63 : decode b_Md_scientific 63 = .ok (.iload_n 2, 1) := by decide +kernel
theorem d_Md_scientific_64 : decode b_Md_scientific 64 = .ok (.bipush 99, 2) := by decide +kernel
theorem d_Md_scientific_66 : decode b_Md_scientific 66 = .ok (.if_icmp .le 14, 3) := by decide +kernel
theorem d_Md_scientific_69 : decode b_Md_scientific 69 = .ok (.aload_n 0, 1) := by decide +kernel
theorem d_Md_scientific_70 : decode b_Md_scientific 70 = .ok (.bipush 48, 2) := by decide +kernel
theorem d_Md_scientific_72 : decode b_Md_scientific 72 = .ok (.iload_n 2, 1) := by decide +kernel
theorem d_Md_scientific_73 : decode b_Md_scientific 73 = .ok (.bipush 100, 2) := by decide +kernel
theorem d_Md_scientific_75 : decode b_Md_scientific 75 = .ok (.idiv, 1) := by decide +kernel
theorem d_Md_scientific_76 : decode b_Md_scientific 76 = .ok (.iadd, 1) := by decide +kernel
theorem d_Md_scientific_77 : decode b_Md_scientific 77 = .ok (.invokevirtual 148, 3) := by decide +kernel
theorem d_Md_scientific_80 : decode b_Md_scientific 80 = .ok (.iload_n 2, 1) := by decide +kernel
theorem d_Md_scientific_81 : decode b_Md_scientific 81 = .ok (.bipush 9, 2) := by decide +kernel
theorem d_Md_scientific_83 : decode b_Md_scientific 83 = .ok (.if_icmp .le 17, 3) := by decide +kernel
theorem d_Md_scientific_86 : decode b_Md_scientific 86 = .ok (.aload_n 0, 1) := by decide +kernel
theorem d_Md_scientific_87 : decode b_Md_scientific 87 = .ok (.bipush 48, 2) := by decide +kernel
theorem d_Md_scientific_89 : decode b_Md_scientific 89 = .ok (.iload_n 2, 1) := by decide +kernel
theorem d_Md_scientific_90 : decode b_Md_scientific 90 = .ok (.bipush 10, 2) := by decide +kernel
theorem d_Md_scientific_92 : decode b_Md_scientific 92 = .ok (.idiv, 1) := by decide +kernel
theorem d_Md_scientific_93 : decode b_Md_scientific 93 = .ok (.bipush 10, 2) := by decide +kernel
theorem d_Md_scientific_95 : decode b_Md_scientific 95 = .ok (.irem, 1) := by decide +kernel
theorem d_Md_scientific_96 : decode b_Md_scientific 96 = .ok (.iadd, 1) := by decide +kernel
theorem d_Md_scientific_97 : decode b_Md_scientific 97 = .ok (.invokevirtual 148, 3) := by decide +kernel
theorem d_Md_scientific_100 : decode b_Md_scientific 100 = .ok (.aload_n 0, 1) := by decide +kernel
theorem d_Md_scientific_101 : decode b_Md_scientific 101 = .ok (.bipush 48, 2) := by decide +kernel
theorem d_Md_scientific_103 : decode b_Md_scientific 103 = .ok (.iload_n 2, 1) := by decide +kernel
theorem d_Md_scientific_104 : decode b_Md_scientific 104 = .ok (.bipush 10, 2) := by decide +kernel
theorem d_Md_scientific_106 : decode b_Md_scientific 106 = .ok (.irem, 1) := by decide +kernel
theorem d_Md_scientific_107 : decode b_Md_scientific 107 = .ok (.iadd, 1) := by decide +kernel
theorem d_Md_scientific_108 : decode b_Md_scientific 108 = .ok (.invokevirtual 148, 3) := by decide +kernel
theorem d_Md_scientific_111 : decode b_Md_scientific 111 = .ok (.return_, 1) := by decide +kernel
theorem d_Md_isPlain_0 : decode b_Md_isPlain 0 = .ok (.aload_n 0, 1) := by decide +kernel
theorem d_Md_isPlain_1 : decode b_Md_isPlain 1 = .ok (.getfield 23, 3) := by decide +kernel
theorem d_Md_isPlain_4 : decode b_Md_isPlain 4 = .ok (.iload_n 1, 1) := by decide +kernel
theorem d_Md_isPlain_5 : decode b_Md_isPlain 5 = .ok (.iaload, 1) := by decide +kernel
theorem d_Md_isPlain_6 : decode b_Md_isPlain 6 = .ok (.bipush (-3), 2) := by decide +kernel
theorem d_Md_isPlain_8 : decode b_Md_isPlain 8 = .ok (.bipush 16, 2) := by decide +kernel
theorem d_Md_isPlain_10 : decode b_Md_isPlain 10 = .ok (.invokestatic 88, 3) := by decide +kernel
theorem d_Md_isPlain_13 : decode b_Md_isPlain 13 = .ok (.ireturn, 1) := by decide +kernel
theorem d_Md_written_0 : decode b_Md_written 0 = .ok (.aload_n 0, 1) := by decide +kernel
theorem d_Md_written_1 : decode b_Md_written 1 = .ok (.getfield 23, 3) := by decide +kernel
theorem d_Md_written_4 : decode b_Md_written 4 = .ok (.iload_n 1, 1) := by decide +kernel
theorem d_Md_written_5 : decode b_Md_written 5 = .ok (.iaload, 1) := by decide +kernel
theorem d_Md_written_6 : decode b_Md_written 6 = .ok (.istore_n 2, 1) := by decide +kernel
theorem d_Md_written_7 : decode b_Md_written 7 = .ok (.aload_n 0, 1) := by decide +kernel
theorem d_Md_written_8 : decode b_Md_written 8 = .ok (.iload_n 1, 1) := by decide +kernel
theorem d_Md_written_9 : decode b_Md_written 9 = .ok (.invokevirtual 159, 3) := by decide +kernel
theorem d_Md_written_12 : decode b_Md_written 12 = .ok (.ifCond .ne 11, 3) := by decide +kernel
theorem d_Md_written_15 : decode b_Md_written 15 = .ok (.aload_n 0, 1) := by decide +kernel
theorem d_Md_written_16 : decode b_Md_written 16 = .ok (.iload_n 1, 1) := by decide +kernel
theorem d_Md_written_17 : decode b_Md_written 17 = .ok (.invokevirtual 162, 3) := by decide +kernel
theorem d_Md_written_20 : decode b_Md_written 20 = .ok (.goto 102, 3) := by decide +kernel
theorem d_Md_written_23 : decode b_Md_written 23 = .ok (.iload_n 2, 1) := by decide +kernel
theorem d_Md_written_24 : decode b_Md_written 24 = .ok (.ifCond .gt 36, 3) := by decide +kernel
theorem d_Md_written_27 : decode b_Md_written 27 = .ok (.aload_n 0, 1) := by decide +kernel
theorem d_Md_written_28 : decode b_Md_written 28 = .ok (.bipush 48, 2) := by decide +kernel
theorem d_Md_written_30 : decode b_Md_written 30 = .ok (.invokevirtual 148, 3) := by decide +kernel
theorem d_Md_written_33 : decode b_Md_written 33 = .ok (.aload_n 0, 1) := by decide +kernel
theorem d_Md_written_34 : decode b_Md_written 34 = .ok (.bipush 46, 2) := by decide +kernel
theorem d_Md_written_36 : decode b_Md_written 36 = .ok (.invokevirtual 148, 3) := by decide +kernel
theorem d_Md_written_39 : decode b_Md_written 39 = .ok (.aload_n 0, 1) := by decide +kernel
theorem d_Md_written_40 : decode b_Md_written 40 = .ok (.iload_n 2, 1) := by decide +kernel
theorem d_Md_written_41 : decode b_Md_written 41 = .ok (.ineg, 1) := by decide +kernel
theorem d_Md_written_42 : decode b_Md_written 42 = .ok (.invokevirtual 165, 3) := by decide +kernel
theorem d_Md_written_45 : decode b_Md_written 45 = .ok (.aload_n 0, 1) := by decide +kernel
theorem d_Md_written_46 : decode b_Md_written 46 = .ok (.iload_n 1, 1) := by decide +kernel
theorem d_Md_written_47 : decode b_Md_written 47 = .ok (.iconst 0, 1) := by decide +kernel
theorem d_Md_written_48 : decode b_Md_written 48 = .ok (.aload_n 0, 1) := by decide +kernel
theorem d_Md_written_49 : decode b_Md_written 49 = .ok (.getfield 20, 3) := by decide +kernel
theorem d_Md_written_52 : decode b_Md_written 52 = .ok (.iload_n 1, 1) := by decide +kernel
theorem d_Md_written_53 : decode b_Md_written 53 = .ok (.iaload, 1) := by decide +kernel
theorem d_Md_written_54 : decode b_Md_written 54 = .ok (.invokevirtual 155, 3) := by decide +kernel
theorem d_Md_written_57 : decode b_Md_written 57 = .ok (.goto 65, 3) := by decide +kernel
theorem d_Md_written_60 : decode b_Md_written 60 = .ok (.iload_n 2, 1) := by decide +kernel
theorem d_Md_written_61 : decode b_Md_written 61 = .ok (.aload_n 0, 1) := by decide +kernel
theorem d_Md_written_62 : decode b_Md_written 62 = .ok (.getfield 20, 3) := by decide +kernel
theorem d_Md_written_65 : decode b_Md_written 65 = .ok (.iload_n 1, 1) := by decide +kernel
theorem d_Md_written_66 : decode b_Md_written 66 = .ok (.iaload, 1) := by decide +kernel
theorem d_Md_written_67 : decode b_Md_written 67 = .ok (.if_icmp .lt 30, 3) := by decide +kernel
theorem d_Md_written_70 : decode b_Md_written 70 = .ok (.aload_n 0, 1) := by decide +kernel
theorem d_Md_written_71 : decode b_Md_written 71 = .ok (.iload_n 1, 1) := by decide +kernel
theorem d_Md_written_72 : decode b_Md_written 72 = .ok (.iconst 0, 1) := by decide +kernel
theorem d_Md_written_73 : decode b_Md_written 73 = .ok (.aload_n 0, 1) := by decide +kernel
theorem d_Md_written_74 : decode b_Md_written 74 = .ok (.getfield 20, 3) := by decide +kernel
theorem d_Md_written_77 : decode b_Md_written 77 = .ok (.iload_n 1, 1) := by decide +kernel
theorem d_Md_written_78 : decode b_Md_written 78 = .ok (.iaload, 1) := by decide +kernel
theorem d_Md_written_79 : decode b_Md_written 79 = .ok (.invokevirtual 155, 3) := by decide +kernel
theorem d_Md_written_82 : decode b_Md_written 82 = .ok (.aload_n 0, 1) := by decide +kernel
theorem d_Md_written_83 : decode b_Md_written 83 = .ok (.iload_n 2, 1) := by decide +kernel
theorem d_Md_written_84 : decode b_Md_written 84 = .ok (.aload_n 0, 1) := by decide +kernel
theorem d_Md_written_85 : decode b_Md_written 85 = .ok (.getfield 20, 3) := by decide +kernel
theorem d_Md_written_88 : decode b_Md_written 88 = .ok (.iload_n 1, 1) := by decide +kernel
theorem d_Md_written_89 : decode b_Md_written 89 = .ok (.iaload, 1) := by decide +kernel
theorem d_Md_written_90 : decode b_Md_written 90 = .ok (.isub, 1) := by decide +kernel
theorem d_Md_written_91 : decode b_Md_written 91 = .ok (.invokevirtual 165, 3) := by decide +kernel
theorem d_Md_written_94 : decode b_Md_written 94 = .ok (.goto 28, 3) := by decide +kernel
theorem d_Md_written_97 : decode b_Md_written 97 = .ok (.aload_n 0, 1) := by decide +kernel
theorem d_Md_written_98 : decode b_Md_written 98 = .ok (.iload_n 1, 1) := by decide +kernel
theorem d_Md_written_99 : decode b_Md_written 99 = .ok (.iconst 0, 1) := by decide +kernel
theorem d_Md_written_100 : decode b_Md_written 100 = .ok (.iload_n 2, 1) := by decide +kernel
theorem d_Md_written_101 : decode b_Md_written 101 = .ok (.invokevirtual 155, 3) := by decide +kernel
theorem d_Md_written_104 : decode b_Md_written 104 = .ok (.aload_n 0, 1) := by decide +kernel
theorem d_Md_written_105 : decode b_Md_written 105 = .ok (.bipush 46, 2) := by decide +kernel
theorem d_Md_written_107 : decode b_Md_written 107 = .ok (.invokevirtual 148, 3) := by decide +kernel
theorem d_Md_written_110 : decode b_Md_written 110 = .ok (.aload_n 0, 1) := by decide +kernel
theorem d_Md_written_111 : decode b_Md_written 111 = .ok (.iload_n 1, 1) := by decide +kernel
theorem d_Md_written_112 : decode b_Md_written 112 = .ok (.iload_n 2, 1) := by decide +kernel
theorem d_Md_written_113 : decode b_Md_written 113 = .ok (.aload_n 0, 1) := by decide +kernel
theorem d_Md_written_114 : decode b_Md_written 114 = .ok (.getfield 20, 3) := by decide +kernel
theorem d_Md_written_117 : decode b_Md_written 117 = .ok (.iload_n 1, 1) := by decide +kernel
theorem d_Md_written_118 : decode b_Md_written 118 = .ok (.iaload, 1) := by decide +kernel
theorem d_Md_written_119 : decode b_Md_written 119 = .ok (.invokevirtual 155, 3) := by decide +kernel
theorem d_Md_written_122 : decode b_Md_written 122 = .ok (.return_, 1) := by decide +kernel
theorem d_Md_done_0 : decode b_Md_done 0 = .ok (.aload_n 0, 1) := by decide +kernel
theorem d_Md_done_1 : decode b_Md_done 1 = .ok (.aload_n 0, 1) := by decide +kernel
theorem d_Md_done_2 : decode b_Md_done 2 = .ok (.getfield 145, 3) := by decide +kernel
theorem d_Md_done_5 : decode b_Md_done 5 = .ok (.putfield 92, 3) := by decide +kernel
theorem d_Md_done_8 : decode b_Md_done 8 = .ok (.iconst 0, 1) := by decide +kernel
theorem d_Md_done_9 : decode b_Md_done 9 = .ok (.istore_n 1, 1) := by decide +kernel
theorem d_Md_done_10 : decode b_Md_done 10 = .ok (.iload_n 1, 1) := by decide +kernel
theorem d_Md_done_11 : decode b_Md_done 11 = .ok (.aload_n 0, 1) := by decide +kernel
theorem d_Md_done_12 : decode b_Md_done 12 = .ok (.getfield 145, 3) := by decide +kernel
theorem d_Md_done_15 : decode b_Md_done 15 = .ok (.if_icmp .ge 21, 3) := by decide +kernel
theorem d_Md_done_18 : decode b_Md_done 18 = .ok (.aload_n 0, 1) := by decide +kernel
theorem d_Md_done_19 : decode b_Md_done 19 = .ok (.getfield 7, 3) := by decide +kernel
theorem d_Md_done_22 : decode b_Md_done 22 = .ok (.iload_n 1, 1) := by decide +kernel
theorem d_Md_done_23 : decode b_Md_done 23 = .ok (.aload_n 0, 1) := by decide +kernel
theorem d_Md_done_24 : decode b_Md_done 24 = .ok (.getfield 42, 3) := by decide +kernel
theorem d_Md_done_27 : decode b_Md_done 27 = .ok (.iload_n 1, 1) := by decide +kernel
theorem d_Md_done_28 : decode b_Md_done 28 = .ok (.iaload, 1) := by decide +kernel
theorem d_Md_done_29 : decode b_Md_done 29 = .ok (.iastore, 1) := by decide +kernel
theorem d_Md_done_30 : decode b_Md_done 30 = .ok (.iinc 1 1, 3) := by decide +kernel
theorem d_Md_done_33 : decode b_Md_done 33 = .ok (.goto (-23), 3) := by decide +kernel
theorem d_Md_done_36 : decode b_Md_done 36 = .ok (.aload_n 0, 1) := by decide +kernel
theorem d_Md_done_37 : decode b_Md_done 37 = .ok (.getfield 92, 3) := by decide +kernel
theorem d_Md_done_40 : decode b_Md_done 40 = .ok (.ireturn, 1) := by decide +kernel
theorem d_Md_isZero_0 : decode b_Md_isZero 0 = .ok (.lload_n 0, 1) := by decide +kernel
theorem d_Md_isZero_1 : decode b_Md_isZero 1 = .ok (.ldc2_w 139, 3) := by decide +kernel
theorem d_Md_isZero_4 : decode b_Md_isZero 4 = .ok (.land, 1) := by decide +kernel
theorem d_Md_isZero_5 : decode b_Md_isZero 5 = .ok (.lconst 0, 1) := by decide +kernel
theorem d_Md_isZero_6 : decode b_Md_isZero 6 = .ok (.lcmp, 1) := by decide +kernel
theorem d_Md_isZero_7 : decode b_Md_isZero 7 = .ok (.ifCond .ne 7, 3) := by decide +kernel
theorem d_Md_isZero_10 : decode b_Md_isZero 10 = .ok (.iconst 1, 1) := by decide +kernel
theorem d_Md_isZero_11 : decode b_Md_isZero 11 = .ok (.goto 4, 3) := by decide +kernel
theorem d_Md_isZero_14 : decode b_Md_isZero 14 = .ok (.iconst 0, 1) := by decide +kernel
theorem d_Md_isZero_15 : decode b_Md_isZero 15 = .ok (.ireturn, 1) := by decide +kernel
theorem d_Md_write_0 : decode b_Md_write 0 = .ok (.aload_n 0, 1) := by decide +kernel
theorem d_Md_write_1 : decode b_Md_write 1 = .ok (.iconst 0, 1) := by decide +kernel
theorem d_Md_write_2 : decode b_Md_write 2 = .ok (.putfield 45, 3) := by decide +kernel
theorem d_Md_write_5 : decode b_Md_write 5 = .ok (.aload_n 0, 1) := by decide +kernel
theorem d_Md_write_6 : decode b_Md_write 6 = .ok (.lload_n 1, 1) := by decide +kernel
theorem d_Md_write_7 : decode b_Md_write 7 = .ok (.invokevirtual 168, 3) := by decide +kernel
theorem d_Md_write_10 : decode b_Md_write 10 = .ok (.ifCond .ne 34, 3) := by decide +kernel
theorem d_Md_write_13 : decode b_Md_write 13 = .ok (.lload_n 1, 1) := by decide +kernel
theorem d_Md_write_14 : decode b_Md_write 14 = .ok (.invokestatic 172, 3) := by decide +kernel
theorem d_Md_write_17 : decode b_Md_write 17 = .ok (.ifCond .eq 12, 3) := by decide +kernel
theorem d_Md_write_20 : decode b_Md_write 20 = .ok (.aload_n 0, 1) := by decide +kernel
theorem d_Md_write_21 : decode b_Md_write 21 = .ok (.bipush 48, 2) := by decide +kernel
theorem d_Md_write_23 : decode b_Md_write 23 = .ok (.invokevirtual 148, 3) := by decide +kernel
theorem d_Md_write_26 : decode b_Md_write 26 = .ok (.goto 18, 3) := by decide +kernel
theorem d_Md_write_29 : decode b_Md_write 29 = .ok (.aload_n 0, 1) := by decide +kernel
theorem d_Md_write_30 : decode b_Md_write 30 = .ok (.lload_n 1, 1) := by decide +kernel
theorem d_Md_write_31 : decode b_Md_write 31 = .ok (.invokevirtual 175, 3) := by decide +kernel
theorem d_Md_write_34 : decode b_Md_write 34 = .ok (.aload_n 0, 1) := by decide +kernel
theorem d_Md_write_35 : decode b_Md_write 35 = .ok (.lload_n 1, 1) := by decide +kernel
theorem d_Md_write_36 : decode b_Md_write 36 = .ok (.invokevirtual 151, 3) := by decide +kernel
theorem d_Md_write_39 : decode b_Md_write 39 = .ok (.aload_n 0, 1) := by decide +kernel
theorem d_Md_write_40 : decode b_Md_write 40 = .ok (.iconst 3, 1) := by decide +kernel
theorem d_Md_write_41 : decode b_Md_write 41 = .ok (.invokevirtual 178, 3) := by decide +kernel
theorem d_Md_write_44 : decode b_Md_write 44 = .ok (.aload_n 0, 1) := by decide +kernel
theorem d_Md_write_45 : decode b_Md_write 45 = .ok (.invokevirtual 181, 3) := by decide +kernel
theorem d_Md_write_48 : decode b_Md_write 48 = .ok (.ireturn, 1) := by decide +kernel
theorem d_Md_digits_0 : decode b_Md_digits 0 = .ok (.aload_n 0, 1) := by decide +kernel
theorem d_Md_digits_1 : decode b_Md_digits 1 = .ok (.iload_n 3, 1) := by decide +kernel
theorem d_Md_digits_2 : decode b_Md_digits 2 = .ok (.iconst 1, 1) := by decide +kernel
theorem d_Md_digits_3 : decode b_Md_digits 3 = .ok (.bipush 17, 2) := by decide +kernel
theorem d_Md_digits_5 : decode b_Md_digits 5 = .ok (.invokestatic 88, 3) := by decide +kernel
theorem d_Md_digits_8 : decode b_Md_digits 8 = .ok (.invokevirtual 106, 3) := by decide +kernel
theorem d_Md_digits_11 : decode b_Md_digits 11 = .ok (.ifCond .ne 5, 3) := by decide +kernel
theorem d_Md_digits_14 : decode b_Md_digits 14 = .ok (.iconst 0, 1) := by decide +kernel
theorem d_Md_digits_15 : decode b_Md_digits 15 = .ok (.ireturn, 1) := by decide +kernel
theorem d_Md_digits_16 : decode b_Md_digits 16 = .ok (.aload_n 0, 1) := by decide +kernel
theorem d_Md_digits_17 : decode b_Md_digits 17 = .ok (.lload_n 1, 1) := by decide +kernel
theorem d_Md_digits_18 : decode b_Md_digits 18 = .ok (.invokevirtual 168, 3) := by decide +kernel
theorem d_Md_digits_21 : decode b_Md_digits 21 = .ok (.ifCond .ne 41, 3) := by decide +kernel
theorem d_Md_digits_24 : decode b_Md_digits 24 = .ok (.lload_n 1, 1) := by decide +kernel
theorem d_Md_digits_25 : decode b_Md_digits 25 = .ok (.invokestatic 172, 3) := by decide +kernel
theorem d_Md_digits_28 : decode b_Md_digits 28 = .ok (.ifCond .eq 12, 3) := by decide +kernel
theorem d_Md_digits_31 : decode b_Md_digits 31 = .ok (.aload_n 0, 1) := by decide +kernel
theorem d_Md_digits_32 : decode b_Md_digits 32 = .ok (.bipush 48, 2) := by decide +kernel
theorem d_Md_digits_34 : decode b_Md_digits 34 = .ok (.invokevirtual 148, 3) := by decide +kernel
theorem d_Md_digits_37 : decode b_Md_digits 37 = .ok (.goto 25, 3) := by decide +kernel
theorem d_Md_digits_40 : decode b_Md_digits 40 = .ok (.aload_n 0, 1) := by decide +kernel
theorem d_Md_digits_41 : decode b_Md_digits 41 = .ok (.iconst 0, 1) := by decide +kernel
theorem d_Md_digits_42 : decode b_Md_digits 42 = .ok (.lload_n 1, 1) := by decide +kernel
theorem d_Md_digits_43 : decode b_Md_digits 43 = .ok (.ldc2_w 139, 3) := by decide +kernel
theorem d_Md_digits_46 : decode b_Md_digits 46 = .ok (.land, 1) := by decide +kernel
theorem d_Md_digits_47 : decode b_Md_digits 47 = .ok (.invokevirtual 122, 3) := by decide +kernel
theorem d_Md_digits_50 : decode b_Md_digits 50 = .ok (.aload_n 0, 1) := by decide +kernel
theorem d_Md_digits_51 : decode b_Md_digits 51 = .ok (.iconst 0, 1) := by decide +kernel
theorem d_Md_digits_52 : decode b_Md_digits 52 = .ok (.iconst 3, 1) := by decide +kernel
theorem d_Md_digits_53 : decode b_Md_digits 53 = .ok (.iload_n 3, 1) := by decide +kernel
theorem d_Md_digits_54 : decode b_Md_digits 54 = .ok (.invokevirtual 185, 3) := by decide +kernel
theorem d_Md_digits_57 : decode b_Md_digits 57 = .ok (.aload_n 0, 1) := by decide +kernel
theorem d_Md_digits_58 : decode b_Md_digits 58 = .ok (.iconst 3, 1) := by decide +kernel
theorem d_Md_digits_59 : decode b_Md_digits 59 = .ok (.invokevirtual 178, 3) := by decide +kernel
theorem d_Md_digits_62 : decode b_Md_digits 62 = .ok (.aload_n 0, 1) := by decide +kernel
theorem d_Md_digits_63 : decode b_Md_digits 63 = .ok (.invokevirtual 181, 3) := by decide +kernel
theorem d_Md_digits_66 : decode b_Md_digits 66 = .ok (.ireturn, 1) := by decide +kernel
theorem d_Md_toPlaces_0 : decode b_Md_toPlaces 0 = .ok (.iconst (-1), 1) := by decide +kernel
theorem d_Md_toPlaces_1 : decode b_Md_toPlaces 1 = .ok (.istore 4, 2) := by decide +kernel
theorem d_Md_toPlaces_3 : decode b_Md_toPlaces 3 = .ok (.lload_n 1, 1) := by decide +kernel
theorem d_Md_toPlaces_4 : decode b_Md_toPlaces 4 = .ok (.invokestatic 172, 3) := by decide +kernel
theorem d_Md_toPlaces_7 : decode b_Md_toPlaces 7 = .ok (.ifCond .ne 23, 3) := by decide +kernel
theorem d_Md_toPlaces_10 : decode b_Md_toPlaces 10 = .ok (.aload_n 0, 1) := by decide +kernel
theorem d_Md_toPlaces_11 : decode b_Md_toPlaces 11 = .ok (.iconst 0, 1) := by decide +kernel
theorem d_Md_toPlaces_12 : decode b_Md_toPlaces 12 = .ok (.lload_n 1, 1) := by decide +kernel
theorem d_Md_toPlaces_13 : decode b_Md_toPlaces 13 = .ok (.ldc2_w 139, 3) := by decide +kernel
theorem d_Md_toPlaces_16 : decode b_Md_toPlaces 16 = .ok (.land, 1) := by decide +kernel
theorem d_Md_toPlaces_17 : decode b_Md_toPlaces 17 = .ok (.invokevirtual 122, 3) := by decide +kernel
theorem d_Md_toPlaces_20 : decode b_Md_toPlaces 20 = .ok (.aload_n 0, 1) := by decide +kernel
theorem d_Md_toPlaces_21 : decode b_Md_toPlaces 21 = .ok (.getfield 23, 3) := by decide +kernel
theorem d_Md_toPlaces_24 : decode b_Md_toPlaces 24 = .ok (.iconst 0, 1) := by decide +kernel
theorem d_Md_toPlaces_25 : decode b_Md_toPlaces 25 = .ok (.iaload, 1) := by decide +kernel
theorem d_Md_toPlaces_26 : decode b_Md_toPlaces 26 = .ok (.iload_n 3, 1) := by decide +kernel
theorem d_Md_toPlaces_27 : decode b_Md_toPlaces 27 = .ok (.iadd, 1) := by decide +kernel
theorem d_Md_toPlaces_28 : decode b_Md_toPlaces 28 = .ok (.istore 4, 2) := by decide +kernel
theorem d_Md_toPlaces_30 : decode b_Md_toPlaces 30 = .ok (.aload_n 0, 1) := by decide +kernel
theorem d_Md_toPlaces_31 : decode b_Md_toPlaces 31 = .ok (.getfield 20, 3) := by decide +kernel
theorem d_Md_toPlaces_34 : decode b_Md_toPlaces 34 = .ok (.iconst 3, 1) := by decide +kernel
theorem d_Md_toPlaces_35 : decode b_Md_toPlaces 35 = .ok (.iconst 0, 1) := by decide +kernel
theorem d_Md_toPlaces_36 : decode b_Md_toPlaces 36 = .ok (.iastore, 1) := by decide +kernel
theorem d_Md_toPlaces_37 : decode b_Md_toPlaces 37 = .ok (.aload_n 0, 1) := by decide +kernel
theorem d_Md_toPlaces_38 : decode b_Md_toPlaces 38 = .ok (.getfield 23, 3) := by decide +kernel
theorem d_Md_toPlaces_41 : decode b_Md_toPlaces 41 = .ok (.iconst 3, 1) := by decide +kernel
theorem d_Md_toPlaces_42 : decode b_Md_toPlaces 42 = .ok (.iconst 0, 1) := by decide +kernel
theorem d_Md_toPlaces_43 : decode b_Md_toPlaces 43 = .ok (.iastore, 1) := by decide +kernel
theorem d_Md_toPlaces_44 : decode b_Md_toPlaces 44 = .ok (.iload 4, 2) := by decide +kernel
theorem d_Md_toPlaces_46 : decode b_Md_toPlaces 46 = .ok (.ifCond .ne 38, 3) := by decide +kernel
theorem d_Md_toPlaces_49 : decode b_Md_toPlaces 49 = .ok (.aload_n 0, 1) := by decide +kernel
theorem d_Md_toPlaces_50 : decode b_Md_toPlaces 50 = .ok (.iconst 0, 1) := by decide +kernel
theorem d_Md_toPlaces_51 : decode b_Md_toPlaces 51 = .ok (.iconst 0, 1) := by decide +kernel
theorem d_Md_toPlaces_52 : decode b_Md_toPlaces 52 = .ok (.invokevirtual 132, 3) := by decide +kernel
theorem d_Md_toPlaces_55 : decode b_Md_toPlaces 55 = .ok (.ifCond .le 29, 3) := by decide +kernel
theorem d_Md_toPlaces_58 : decode b_Md_toPlaces 58 = .ok (.aload_n 0, 1) := by decide +kernel
theorem d_Md_toPlaces_59 : decode b_Md_toPlaces 59 = .ok (.getfield 17, 3) := by decide +kernel
theorem d_Md_toPlaces_62 : decode b_Md_toPlaces 62 = .ok (.sipush 3900, 3) := by decide +kernel
theorem d_Md_toPlaces_65 : decode b_Md_toPlaces 65 = .ok (.iconst 1, 1) := by decide +kernel
theorem d_Md_toPlaces_66 : decode b_Md_toPlaces 66 = .ok (.iastore, 1) := by decide +kernel
theorem d_Md_toPlaces_67 : decode b_Md_toPlaces 67 = .ok (.aload_n 0, 1) := by decide +kernel
theorem d_Md_toPlaces_68 : decode b_Md_toPlaces 68 = .ok (.getfield 20, 3) := by decide +kernel
theorem d_Md_toPlaces_71 : decode b_Md_toPlaces 71 = .ok (.iconst 3, 1) := by decide +kernel
theorem d_Md_toPlaces_72 : decode b_Md_toPlaces 72 = .ok (.iconst 1, 1) := by decide +kernel
theorem d_Md_toPlaces_73 : decode b_Md_toPlaces 73 = .ok (.iastore, 1) := by decide +kernel
theorem d_Md_toPlaces_74 : decode b_Md_toPlaces 74 = .ok (.aload_n 0, 1) := by decide +kernel
theorem d_Md_toPlaces_75 : decode b_Md_toPlaces 75 = .ok (.getfield 23, 3) := by decide +kernel
theorem d_Md_toPlaces_78 : decode b_Md_toPlaces 78 = .ok (.iconst 3, 1) := by decide +kernel
theorem d_Md_toPlaces_79 : decode b_Md_toPlaces 79 = .ok (.iconst 1, 1) := by decide +kernel
theorem d_Md_toPlaces_80 : decode b_Md_toPlaces 80 = .ok (.iastore, 1) := by decide +kernel
theorem d_Md_toPlaces_81 : decode b_Md_toPlaces 81 = .ok (.goto 30, 3) := by decide +kernel
theorem d_Md_toPlaces_84 : decode b_Md_toPlaces 84 = .ok (.iload 4, 2) := by decide +kernel
theorem d_Md_toPlaces_86 : decode b_Md_toPlaces 86 = .ok (.ifCond .le 25, 3) := by decide +kernel
theorem d_Md_toPlaces_89 : decode b_Md_toPlaces 89 = .ok (.aload_n 0, 1) := by decide +kernel
theorem d_Md_toPlaces_90 : decode b_Md_toPlaces 90 = .ok (.iconst 0, 1) := by decide +kernel
theorem d_Md_toPlaces_91 : decode b_Md_toPlaces 91 = .ok (.iconst 3, 1) := by decide +kernel
theorem d_Md_toPlaces_92 : decode b_Md_toPlaces 92 = .ok (.iload 4, 2) := by decide +kernel
theorem d_Md_toPlaces_94 : decode b_Md_toPlaces 94 = .ok (.invokevirtual 185, 3) := by decide +kernel
theorem d_Md_toPlaces_97 : decode b_Md_toPlaces 97 = .ok (.aload_n 0, 1) := by decide +kernel
theorem d_Md_toPlaces_98 : decode b_Md_toPlaces 98 = .ok (.getfield 23, 3) := by decide +kernel
theorem d_Md_toPlaces_101 : decode b_Md_toPlaces 101 = .ok (.iconst 3, 1) := by decide +kernel
theorem d_Md_toPlaces_102 : decode b_Md_toPlaces 102 = .ok (.aload_n 0, 1) := by decide +kernel
theorem d_Md_toPlaces_103 : decode b_Md_toPlaces 103 = .ok (.getfield 23, 3) := by decide +kernel
theorem d_Md_toPlaces_106 : decode b_Md_toPlaces 106 = .ok (.iconst 3, 1) := by decide +kernel
theorem d_Md_toPlaces_107 : decode b_Md_toPlaces 107 = .ok (.iaload, 1) := by decide +kernel
theorem d_Md_toPlaces_108 : decode b_Md_toPlaces 108 = .ok (.iload_n 3, 1) := by decide +kernel
theorem d_Md_toPlaces_109 : decode b_Md_toPlaces 109 = .ok (.iadd, 1) := by decide +kernel
theorem d_Md_toPlaces_110 : decode b_Md_toPlaces 110 = .ok (.iastore, 1) := by decide +kernel
theorem d_Md_toPlaces_111 : decode b_Md_toPlaces 111 = .ok (.aload_n 0, 1) := by decide +kernel
theorem d_Md_toPlaces_112 : decode b_Md_toPlaces 112 = .ok (.getfield 23, 3) := by decide +kernel
theorem d_Md_toPlaces_115 : decode b_Md_toPlaces 115 = .ok (.iconst 3, 1) := by decide +kernel
theorem d_Md_toPlaces_116 : decode b_Md_toPlaces 116 = .ok (.iaload, 1) := by decide +kernel
theorem d_Md_toPlaces_117 : decode b_Md_toPlaces 117 = .ok (.iload_n 3, 1) := by decide +kernel
theorem d_Md_toPlaces_118 : decode b_Md_toPlaces 118 = .ok (.if_icmp .le 14, 3) := by decide +kernel
theorem d_Md_toPlaces_121 : decode b_Md_toPlaces 121 = .ok (.aload_n 0, 1) := by decide +kernel
theorem d_Md_toPlaces_122 : decode b_Md_toPlaces 122 = .ok (.getfield 23, 3) := by decide +kernel
theorem d_Md_toPlaces_125 : decode b_Md_toPlaces 125 = .ok (.iconst 3, 1) := by decide +kernel
theorem d_Md_toPlaces_126 : decode b_Md_toPlaces 126 = .ok (.iaload, 1) := by decide +kernel
theorem d_Md_toPlaces_127 : decode b_Md_toPlaces 127 = .ok (.iload_n 3, 1) := by decide +kernel
theorem d_Md_toPlaces_128 : decode b_Md_toPlaces 128 = .ok (.isub, 1) := by decide +kernel
theorem d_Md_toPlaces_129 : decode b_Md_toPlaces 129 = .ok (.goto 4, 3) := by decide +kernel
theorem d_Md_toPlaces_132 : decode b_Md_toPlaces 132 = .ok (.iconst 0, 1) := by decide +kernel
theorem d_Md_toPlaces_133 : decode b_Md_toPlaces 133 = .ok (.istore 5, 2) := by decide +kernel
theorem d_Md_toPlaces_135 : decode b_Md_toPlaces 135 = .ok (.iload 5, 2) := by decide +kernel
theorem d_Md_toPlaces_137 : decode b_Md_toPlaces 137 = .ok (.ifCond .ne 9, 3) := by decide +kernel
theorem d_Md_toPlaces_140 : decode b_Md_toPlaces 140 = .ok (.aload_n 0, 1) := by decide +kernel
theorem d_Md_toPlaces_141 : decode b_Md_toPlaces 141 = .ok (.bipush 48, 2) := by decide +kernel
theorem d_Md_toPlaces_143 : decode b_Md_toPlaces 143 = .ok (.invokevirtual 148, 3) := by decide +kernel
theorem d_Md_toPlaces_146 : decode b_Md_toPlaces 146 = .ok (.aload_n 0, 1) := by decide +kernel
theorem d_Md_toPlaces_147 : decode b_Md_toPlaces 147 = .ok (.iconst 3, 1) := by decide +kernel
theorem d_Md_toPlaces_148 : decode b_Md_toPlaces 148 = .ok (.iconst 0, 1) := by decide +kernel
theorem d_Md_toPlaces_149 : decode b_Md_toPlaces 149 = .ok (.iload 5, 2) := by decide +kernel
theorem d_Md_toPlaces_151 : decode b_Md_toPlaces 151 = .ok (.invokevirtual 155, 3) := by decide +kernel
theorem d_Md_toPlaces_154 : decode b_Md_toPlaces 154 = .ok (.iload_n 3, 1) := by decide +kernel
theorem d_Md_toPlaces_155 : decode b_Md_toPlaces 155 = .ok (.ifCond .le 53, 3) := by decide +kernel
theorem d_Md_toPlaces_158 : decode b_Md_toPlaces 158 = .ok (.aload_n 0, 1) := by decide +kernel
theorem d_Md_toPlaces_159 : decode b_Md_toPlaces 159 = .ok (.bipush 46, 2) := by decide +kernel
theorem d_Md_toPlaces_161 : decode b_Md_toPlaces 161 = .ok (.invokevirtual 148, 3) := by decide +kernel
theorem d_Md_toPlaces_164 : decode b_Md_toPlaces 164 = .ok (.aload_n 0, 1) := by decide +kernel
theorem d_Md_toPlaces_165 : decode b_Md_toPlaces 165 = .ok (.getfield 23, 3) := by decide +kernel
theorem d_Md_toPlaces_168 : decode b_Md_toPlaces 168 = .ok (.iconst 3, 1) := by decide +kernel
theorem d_Md_toPlaces_169 : decode b_Md_toPlaces 169 = .ok (.iaload, 1) := by decide +kernel
theorem d_Md_toPlaces_170 : decode b_Md_toPlaces 170 = .ok (.iload_n 3, 1) := by decide +kernel
theorem d_Md_toPlaces_171 : decode b_Md_toPlaces 171 = .ok (.if_icmp .ge 14, 3) := by decide +kernel
theorem d_Md_toPlaces_174 : decode b_Md_toPlaces 174 = .ok (.iload_n 3, 1) := by decide +kernel
theorem d_Md_toPlaces_175 : decode b_Md_toPlaces 175 = .ok (.aload_n 0, 1) := by decide +kernel
theorem d_Md_toPlaces_176 : decode b_Md_toPlaces 176 = .ok (.getfield 23, 3) := by decide +kernel
theorem d_Md_toPlaces_179 : decode b_Md_toPlaces 179 = .ok (.iconst 3, 1) := by decide +kernel
theorem d_Md_toPlaces_180 : decode b_Md_toPlaces 180 = .ok (.iaload, 1) := by decide +kernel
theorem d_Md_toPlaces_181 : decode b_Md_toPlaces 181 = .ok (.isub, 1) := by decide +kernel
theorem d_Md_toPlaces_182 : decode b_Md_toPlaces 182 = .ok (.goto 4, 3) := by decide +kernel
theorem d_Md_toPlaces_185 : decode b_Md_toPlaces 185 = .ok (.iconst 0, 1) := by decide +kernel
theorem d_Md_toPlaces_186 : decode b_Md_toPlaces 186 = .ok (.istore 6, 2) := by decide +kernel
theorem d_Md_toPlaces_188 : decode b_Md_toPlaces 188 = .ok (.aload_n 0, 1) := by decide +kernel
theorem d_Md_toPlaces_189 : decode b_Md_toPlaces 189 = .ok (.iload 6, 2) := by decide +kernel
theorem d_Md_toPlaces_191 : decode b_Md_toPlaces 191 = .ok (.invokevirtual 165, 3) := by decide +kernel
theorem d_Md_toPlaces_194 : decode b_Md_toPlaces 194 = .ok (.aload_n 0, 1) := by decide +kernel
theorem d_Md_toPlaces_195 : decode b_Md_toPlaces 195 = .ok (.iconst 3, 1) := by decide +kernel
theorem d_Md_toPlaces_196 : decode b_Md_toPlaces 196 = .ok (.iload 5, 2) := by decide +kernel
theorem d_Md_toPlaces_198 : decode b_Md_toPlaces 198 = .ok (.iload 5, 2) := by decide +kernel
theorem d_Md_toPlaces_200 : decode b_Md_toPlaces 200 = .ok (.iload_n 3, 1) := by decide +kernel
theorem d_Md_toPlaces_201 : decode b_Md_toPlaces 201 = .ok (.iadd, 1) := by decide +kernel
theorem d_Md_toPlaces_202 : decode b_Md_toPlaces 202 = .ok (.iload 6, 2) := by decide +kernel
theorem d_Md_toPlaces_204 : decode b_Md_toPlaces 204 = .ok (.isub, 1) := by decide +kernel
theorem d_Md_toPlaces_205 : decode b_Md_toPlaces 205 = .ok (.invokevirtual 155, 3) := by decide +kernel
theorem d_Md_toPlaces_208 : decode b_Md_toPlaces 208 = .ok (.return_, 1) := by decide +kernel
theorem d_Md_places_0 : decode b_Md_places 0 = .ok (.aload_n 0, 1) := by decide +kernel
theorem d_Md_places_1 : decode b_Md_places 1 = .ok (.iload_n 3, 1) := by decide +kernel
theorem d_Md_places_2 : decode b_Md_places 2 = .ok (.iconst 0, 1) := by decide +kernel
theorem d_Md_places_3 : decode b_Md_places 3 = .ok (.bipush 40, 2) := by decide +kernel
theorem d_Md_places_5 : decode b_Md_places 5 = .ok (.invokestatic 88, 3) := by decide +kernel
theorem d_Md_places_8 : decode b_Md_places 8 = .ok (.invokevirtual 106, 3) := by decide +kernel
theorem d_Md_places_11 : decode b_Md_places 11 = .ok (.ifCond .ne 5, 3) := by decide +kernel
theorem d_Md_places_14 : decode b_Md_places 14 = .ok (.iconst 0, 1) := by decide +kernel
theorem d_Md_places_15 : decode b_Md_places 15 = .ok (.ireturn, 1) := by decide +kernel
theorem d_Md_places_16 : decode b_Md_places 16 = .ok (.aload_n 0, 1) := by decide +kernel
theorem d_Md_places_17 : decode b_Md_places 17 = .ok (.lload_n 1, 1) := by decide +kernel
theorem d_Md_places_18 : decode b_Md_places 18 = .ok (.invokevirtual 168, 3) := by decide +kernel
theorem d_Md_places_21 : decode b_Md_places 21 = .ok (.ifCond .ne 9, 3) := by decide +kernel
theorem d_Md_places_24 : decode b_Md_places 24 = .ok (.aload_n 0, 1) := by decide +kernel
theorem d_Md_places_25 : decode b_Md_places 25 = .ok (.lload_n 1, 1) := by decide +kernel
theorem d_Md_places_26 : decode b_Md_places 26 = .ok (.iload_n 3, 1) := by decide +kernel
theorem d_Md_places_27 : decode b_Md_places 27 = .ok (.invokevirtual 188, 3) := by decide +kernel
theorem d_Md_places_30 : decode b_Md_places 30 = .ok (.aload_n 0, 1) := by decide +kernel
theorem d_Md_places_31 : decode b_Md_places 31 = .ok (.invokevirtual 181, 3) := by decide +kernel
theorem d_Md_places_34 : decode b_Md_places 34 = .ok (.ireturn, 1) := by decide +kernel
theorem d_Md_full_0 : decode b_Md_full 0 = .ok (.aload_n 0, 1) := by decide +kernel
theorem d_Md_full_1 : decode b_Md_full 1 = .ok (.iconst 0, 1) := by decide +kernel
theorem d_Md_full_2 : decode b_Md_full 2 = .ok (.putfield 45, 3) := by decide +kernel
theorem d_Md_full_5 : decode b_Md_full 5 = .ok (.aload_n 0, 1) := by decide +kernel
theorem d_Md_full_6 : decode b_Md_full 6 = .ok (.lload_n 1, 1) := by decide +kernel
theorem d_Md_full_7 : decode b_Md_full 7 = .ok (.invokevirtual 168, 3) := by decide +kernel
theorem d_Md_full_10 : decode b_Md_full 10 = .ok (.ifCond .ne 108, 3) := by decide +kernel
theorem d_Md_full_13 : decode b_Md_full 13 = .ok (.lload_n 1, 1) := by decide +kernel
theorem d_Md_full_14 : decode b_Md_full 14 = .ok (.invokestatic 172, 3) := by decide +kernel
theorem d_Md_full_17 : decode b_Md_full 17 = .ok (.ifCond .eq 12, 3) := by decide +kernel
theorem d_Md_full_20 : decode b_Md_full 20 = .ok (.aload_n 0, 1) := by decide +kernel
theorem d_Md_full_21 : decode b_Md_full 21 = .ok (.bipush 48, 2) := by decide +kernel
theorem d_Md_full_23 : decode b_Md_full 23 = .ok (.invokevirtual 148, 3) := by decide +kernel
theorem d_Md_full_26 : decode b_Md_full 26 = .ok (.goto 92, 3) := by decide +kernel
theorem d_Md_full_29 : decode b_Md_full 29 = .ok (.aload_n 0, 1) := by decide +kernel
theorem d_Md_full_30 : decode b_Md_full 30 = .ok (.iconst 0, 1) := by decide +kernel
theorem d_Md_full_31 : decode b_Md_full 31 = .ok (.lload_n 1, 1) := by decide +kernel
theorem d_Md_full_32 : decode b_Md_full 32 = .ok (.ldc2_w 139, 3) := by decide +kernel
theorem d_Md_full_35 : decode b_Md_full 35 = .ok (.land, 1) := by decide +kernel
theorem d_Md_full_36 : decode b_Md_full 36 = .ok (.invokevirtual 122, 3) := by decide +kernel
theorem d_Md_full_39 : decode b_Md_full 39 = .ok (.aload_n 0, 1) := by decide +kernel
theorem d_Md_full_40 : decode b_Md_full 40 = .ok (.getfield 23, 3) := by decide +kernel
theorem d_Md_full_43 : decode b_Md_full 43 = .ok (.iconst 0, 1) := by decide +kernel
theorem d_Md_full_44 : decode b_Md_full 44 = .ok (.iaload, 1) := by decide +kernel
theorem d_Md_full_45 : decode b_Md_full 45 = .ok (.istore_n 3, 1) := by decide +kernel
theorem d_Md_full_46 : decode b_Md_full 46 = .ok (.iload_n 3, 1) := by decide +kernel
theorem d_Md_full_47 : decode b_Md_full 47 = .ok (.ifCond .gt 36, 3) := by decide +kernel
theorem d_Md_full_50 : decode b_Md_full 50 = .ok (.aload_n 0, 1) := by decide +kernel
theorem d_Md_full_51 : decode b_Md_full 51 = .ok (.bipush 48, 2) := by decide +kernel
theorem d_Md_full_53 : decode b_Md_full 53 = .ok (.invokevirtual 148, 3) := by decide +kernel
theorem d_Md_full_56 : decode b_Md_full 56 = .ok (.aload_n 0, 1) := by decide +kernel
theorem d_Md_full_57 : decode b_Md_full 57 = .ok (.bipush 46, 2) := by decide +kernel
theorem d_Md_full_59 : decode b_Md_full 59 = .ok (.invokevirtual 148, 3) := by decide +kernel
theorem d_Md_full_62 : decode b_Md_full 62 = .ok (.aload_n 0, 1) := by decide +kernel
theorem d_Md_full_63 : decode b_Md_full 63 = .ok (.iload_n 3, 1) := by decide +kernel
theorem d_Md_full_64 : decode b_Md_full 64 = .ok (.ineg, 1) := by decide +kernel
theorem d_Md_full_65 : decode b_Md_full 65 = .ok (.invokevirtual 165, 3) := by decide +kernel
theorem d_Md_full_68 : decode b_Md_full 68 = .ok (.aload_n 0, 1) := by decide +kernel
theorem d_Md_full_69 : decode b_Md_full 69 = .ok (.iconst 0, 1) := by decide +kernel
theorem d_Md_full_70 : decode b_Md_full 70 = .ok (.iconst 0, 1) := by decide +kernel
theorem d_Md_full_71 : decode b_Md_full 71 = .ok (.aload_n 0, 1) := by decide +kernel
theorem d_Md_full_72 : decode b_Md_full 72 = .ok (.getfield 20, 3) := by decide +kernel
theorem d_Md_full_75 : decode b_Md_full 75 = .ok (.iconst 0, 1) := by decide +kernel
theorem d_Md_full_76 : decode b_Md_full 76 = .ok (.iaload, 1) := by decide +kernel
theorem d_Md_full_77 : decode b_Md_full 77 = .ok (.invokevirtual 155, 3) := by decide +kernel
theorem d_Md_full_80 : decode b_Md_full 80 = .ok (.goto 38, 3) := by decide +kernel
theorem d_Md_full_83 : decode b_Md_full 83 = .ok (.aload_n 0, 1) := by decide +kernel
theorem d_Md_full_84 : decode b_Md_full 84 = .ok (.iconst 0, 1) := by decide +kernel
theorem d_Md_full_85 : decode b_Md_full 85 = .ok (.iconst 0, 1) := by decide +kernel
theorem d_Md_full_86 : decode b_Md_full 86 = .ok (.iload_n 3, 1) := by decide +kernel
theorem d_Md_full_87 : decode b_Md_full 87 = .ok (.invokevirtual 155, 3) := by decide +kernel
theorem d_Md_full_90 : decode b_Md_full 90 = .ok (.aload_n 0, 1) := by decide +kernel
theorem d_Md_full_91 : decode b_Md_full 91 = .ok (.getfield 20, 3) := by decide +kernel
theorem d_Md_full_94 : decode b_Md_full 94 = .ok (.iconst 0, 1) := by decide +kernel
theorem d_Md_full_95 : decode b_Md_full 95 = .ok (.iaload, 1) := by decide +kernel
theorem d_Md_full_96 : decode b_Md_full 96 = .ok (.iload_n 3, 1) := by decide +kernel
theorem d_Md_full_97 : decode b_Md_full 97 = .ok (.if_icmp .le 21, 3) := by decide +kernel
theorem d_Md_full_100 : decode b_Md_full 100 = .ok (.aload_n 0, 1) := by decide +kernel
theorem d_Md_full_101 : decode b_Md_full 101 = .ok (.bipush 46, 2) := by decide +kernel
theorem d_Md_full_103 : decode b_Md_full 103 = .ok (.invokevirtual 148, 3) := by decide +kernel
theorem d_Md_full_106 : decode b_Md_full 106 = .ok (.aload_n 0, 1) := by decide +kernel
theorem d_Md_full_107 : decode b_Md_full 107 = .ok (.iconst 0, 1) := by decide +kernel
theorem d_Md_full_108 : decode b_Md_full 108 = .ok (.iload_n 3, 1) := by decide +kernel
theorem d_Md_full_109 : decode b_Md_full 109 = .ok (.aload_n 0, 1) := by decide +kernel
theorem d_Md_full_110 : decode b_Md_full 110 = .ok (.getfield 20, 3) := by decide +kernel
theorem d_Md_full_113 : decode b_Md_full 113 = .ok (.iconst 0, 1) := by decide +kernel
theorem d_Md_full_114 : decode b_Md_full 114 = .ok (.iaload, 1) := by decide +kernel
theorem d_Md_full_115 : decode b_Md_full 115 = .ok (.invokevirtual 155, 3) := by decide +kernel
theorem d_Md_full_118 : decode b_Md_full 118 = .ok (.aload_n 0, 1) := by decide +kernel
theorem d_Md_full_119 : decode b_Md_full 119 = .ok (.invokevirtual 181, 3) := by decide +kernel
theorem d_Md_full_122 : decode b_Md_full 122 = .ok (.ireturn, 1) := by decide +kernel
theorem d_Md_table_0 : decode b_Md_table 0 = .ok (.aload_n 0, 1) := by decide +kernel
theorem d_Md_table_1 : decode b_Md_table 1 = .ok (.iload_n 1, 1) := by decide +kernel
theorem d_Md_table_2 : decode b_Md_table 2 = .ok (.iconst 1, 1) := by decide +kernel
theorem d_Md_table_3 : decode b_Md_table 3 = .ok (.bipush 8, 2) := by decide +kernel
theorem d_Md_table_5 : decode b_Md_table 5 = .ok (.invokestatic 88, 3) := by decide +kernel
theorem d_Md_table_8 : decode b_Md_table 8 = .ok (.ifCond .eq 17, 3) := by decide +kernel
theorem d_Md_table_11 : decode b_Md_table 11 = .ok (.iload_n 2, 1) := by decide +kernel
theorem d_Md_table_12 : decode b_Md_table 12 = .ok (.iconst 1, 1) := by decide +kernel
theorem d_Md_table_13 : decode b_Md_table 13 = .ok (.bipush 8, 2) := by decide +kernel
theorem d_Md_table_15 : decode b_Md_table 15 = .ok (.invokestatic 88, 3) := by decide +kernel
theorem d_Md_table_18 : decode b_Md_table 18 = .ok (.ifCond .eq 7, 3) := by decide +kernel
theorem d_Md_table_21 : decode b_Md_table 21 = .ok (.iconst 1, 1) := by decide +kernel
theorem d_Md_table_22 : decode b_Md_table 22 = .ok (.goto 4, 3) := by decide +kernel
theorem d_Md_table_25 : decode b_Md_table 25 = .ok (.iconst 0, 1) := by decide +kernel
theorem d_Md_table_26 : decode b_Md_table 26 = .ok (.invokevirtual 106, 3) := by decide +kernel
theorem d_Md_table_29 : decode b_Md_table 29 = .ok (.ifCond .ne 4, 3) := by decide +kernel
theorem d_Md_table_32 : decode b_Md_table 32 = .ok (.return_, 1) := by decide +kernel
theorem d_Md_table_33 : decode b_Md_table 33 = .ok (.aload_n 0, 1) := by decide +kernel
theorem d_Md_table_34 : decode b_Md_table 34 = .ok (.iload_n 1, 1) := by decide +kernel
theorem d_Md_table_35 : decode b_Md_table 35 = .ok (.putfield 29, 3) := by decide +kernel
theorem d_Md_table_38 : decode b_Md_table 38 = .ok (.aload_n 0, 1) := by decide +kernel
theorem d_Md_table_39 : decode b_Md_table 39 = .ok (.iload_n 2, 1) := by decide +kernel
theorem d_Md_table_40 : decode b_Md_table 40 = .ok (.putfield 32, 3) := by decide +kernel
theorem d_Md_table_43 : decode b_Md_table 43 = .ok (.aload_n 0, 1) := by decide +kernel
theorem d_Md_table_44 : decode b_Md_table 44 = .ok (.iconst 0, 1) := by decide +kernel
theorem d_Md_table_45 : decode b_Md_table 45 = .ok (.putfield 192, 3) := by decide +kernel
theorem d_Md_table_48 : decode b_Md_table 48 = .ok (.iconst 0, 1) := by decide +kernel
theorem d_Md_table_49 : decode b_Md_table 49 = .ok (.istore_n 3, 1) := by decide +kernel
theorem d_Md_table_50 : decode b_Md_table 50 = .ok (.iload_n 3, 1) := by decide +kernel
theorem d_Md_table_51 : decode b_Md_table 51 = .ok (.bipush 64, 2) := by decide +kernel
theorem d_Md_table_53 : decode b_Md_table 53 = .ok (.if_icmp .ge 16, 3) := by decide +kernel
theorem d_Md_table_56 : decode b_Md_table 56 = .ok (.aload_n 0, 1) := by decide +kernel
theorem d_Md_table_57 : decode b_Md_table 57 = .ok (.getfield 35, 3) := by decide +kernel
theorem d_Md_table_60 : decode b_Md_table 60 = .ok (.iload_n 3, 1) := by decide +kernel
theorem d_Md_table_61 : decode b_Md_table 61 = .ok (.lconst 0, 1) := by decide +kernel
theorem d_Md_table_62 : decode b_Md_table 62 = .ok (.lastore, 1) := by decide +kernel
theorem d_Md_table_63 : decode b_Md_table 63 = .ok (.iinc 3 1, 3) := by decide +kernel
theorem d_Md_table_66 : decode b_Md_table 66 = .ok (.goto (-16), 3) := by decide +kernel
theorem d_Md_table_69 : decode b_Md_table 69 = .ok (.return_, 1) := by decide +kernel
theorem d_Md_set_0 : decode b_Md_set 0 = .ok (.aload_n 0, 1) := by decide +kernel
theorem d_Md_set_1 : decode b_Md_set 1 = .ok (.iload_n 1, 1) := by decide +kernel
theorem d_Md_set_2 : decode b_Md_set 2 = .ok (.iconst 0, 1) := by decide +kernel
theorem d_Md_set_3 : decode b_Md_set 3 = .ok (.aload_n 0, 1) := by decide +kernel
theorem d_Md_set_4 : decode b_Md_set 4 = .ok (.getfield 29, 3) := by decide +kernel
theorem d_Md_set_7 : decode b_Md_set 7 = .ok (.iconst 1, 1) := by decide +kernel
theorem d_Md_set_8 : decode b_Md_set 8 = .ok (.isub, 1) := by decide +kernel
theorem d_Md_set_9 : decode b_Md_set 9 = .ok (.invokestatic 88, 3) := by decide +kernel
theorem d_Md_set_12 : decode b_Md_set 12 = .ok (.ifCond .eq 21, 3) := by decide +kernel
theorem d_Md_set_15 : decode b_Md_set 15 = .ok (.iload_n 2, 1) := by decide +kernel
theorem d_Md_set_16 : decode b_Md_set 16 = .ok (.iconst 0, 1) := by decide +kernel
theorem d_Md_set_17 : decode b_Md_set 17 = .ok (.aload_n 0, 1) := by decide +kernel
theorem d_Md_set_18 : decode b_Md_set 18 = .ok (.getfield 32, 3) := by decide +kernel
theorem d_Md_set_21 : decode b_Md_set 21 = .ok (.iconst 1, 1) := by decide +kernel
theorem d_Md_set_22 : decode b_Md_set 22 = .ok (.isub, 1) := by decide +kernel
theorem d_Md_set_23 : decode b_Md_set 23 = .ok (.invokestatic 88, 3) := by decide +kernel
theorem d_Md_set_26 : decode b_Md_set 26 = .ok (.ifCond .eq 7, 3) := by decide +kernel
theorem d_Md_set_29 : decode b_Md_set 29 = .ok (.iconst 1, 1) := by decide +kernel
theorem d_Md_set_30 : decode b_Md_set 30 = .ok (.goto 4, 3) := by decide +kernel
theorem d_Md_set_33 : decode b_Md_set 33 = .ok (.iconst 0, 1) := by decide +kernel
theorem d_Md_set_34 : decode b_Md_set 34 = .ok (.invokevirtual 106, 3) := by decide +kernel
theorem d_Md_set_37 : decode b_Md_set 37 = .ok (.ifCond .eq 15, 3) := by decide +kernel
theorem d_Md_set_40 : decode b_Md_set 40 = .ok (.aload_n 0, 1) := by decide +kernel
theorem d_Md_set_41 : decode b_Md_set 41 = .ok (.getfield 35, 3) := by decide +kernel
theorem d_Md_set_44 : decode b_Md_set 44 = .ok (.bipush 8, 2) := by decide +kernel
theorem d_Md_set_46 : decode b_Md_set 46 = .ok (.iload_n 1, 1) := by decide +kernel
theorem d_Md_set_47 : decode b_Md_set 47 = .ok (.imul, 1) := by decide +kernel
theorem d_Md_set_48 : decode b_Md_set 48 = .ok (.iload_n 2, 1) := by decide +kernel
theorem d_Md_set_49 : decode b_Md_set 49 = .ok (.iadd, 1) := by decide +kernel
theorem d_Md_set_50 : decode b_Md_set 50 = .ok (.lload_n 3, 1) := by decide +kernel
theorem d_Md_set_51 : decode b_Md_set 51 = .ok (.lastore, 1) := by decide +kernel
theorem d_Md_set_52 : decode b_Md_set 52 = .ok (.return_, 1) := by decide +kernel
theorem d_Md_isFinite_0 : decode b_Md_isFinite 0 = .ok (.lload_n 0, 1) := by decide +kernel
theorem d_Md_isFinite_1 : decode b_Md_isFinite 1 = .ok (.ldc2_w 139, 3) := by decide +kernel
theorem d_Md_isFinite_4 : decode b_Md_isFinite 4 = .ok (.land, 1) := by decide +kernel
theorem d_Md_isFinite_5 : decode b_Md_isFinite 5 = .ok (.ldc2_w 116, 3) := by decide +kernel
theorem d_Md_isFinite_8 : decode b_Md_isFinite 8 = .ok (.lcmp, 1) := by decide +kernel
theorem d_Md_isFinite_9 : decode b_Md_isFinite 9 = .ok (.ifCond .ge 7, 3) := by decide +kernel
theorem d_Md_isFinite_12 : decode b_Md_isFinite 12 = .ok (.iconst 1, 1) := by decide +kernel
theorem d_Md_isFinite_13 : decode b_Md_isFinite 13 = .ok (.goto 4, 3) := by decide +kernel
theorem d_Md_isFinite_16 : decode b_Md_isFinite 16 = .ok (.iconst 0, 1) := by decide +kernel
theorem d_Md_isFinite_17 : decode b_Md_isFinite 17 = .ok (.ireturn, 1) := by decide +kernel
theorem d_Md_placesOf_0 : decode b_Md_placesOf 0 = .ok (.iconst 0, 1) := by decide +kernel
theorem d_Md_placesOf_1 : decode b_Md_placesOf 1 = .ok (.istore_n 3, 1) := by decide +kernel
theorem d_Md_placesOf_2 : decode b_Md_placesOf 2 = .ok (.iconst 0, 1) := by decide +kernel
theorem d_Md_placesOf_3 : decode b_Md_placesOf 3 = .ok (.istore 4, 2) := by decide +kernel
theorem d_Md_placesOf_5 : decode b_Md_placesOf 5 = .ok (.iload 4, 2) := by decide +kernel
theorem d_Md_placesOf_7 : decode b_Md_placesOf 7 = .ok (.aload_n 0, 1) := by decide +kernel
theorem d_Md_placesOf_8 : decode b_Md_placesOf 8 = .ok (.getfield 29, 3) := by decide +kernel
theorem d_Md_placesOf_11 : decode b_Md_placesOf 11 = .ok (.if_icmp .ge 107, 3) := by decide +kernel
theorem d_Md_placesOf_14 : decode b_Md_placesOf 14 = .ok (.aload_n 0, 1) := by decide +kernel
theorem d_Md_placesOf_15 : decode b_Md_placesOf 15 = .ok (.getfield 35, 3) := by decide +kernel
theorem d_Md_placesOf_18 : decode b_Md_placesOf 18 = .ok (.bipush 8, 2) := by decide +kernel
theorem d_Md_placesOf_20 : decode b_Md_placesOf 20 = .ok (.iload 4, 2) := by decide +kernel
theorem d_Md_placesOf_22 : decode b_Md_placesOf 22 = .ok (.imul, 1) := by decide +kernel
theorem d_Md_placesOf_23 : decode b_Md_placesOf 23 = .ok (.iload_n 1, 1) := by decide +kernel
theorem d_Md_placesOf_24 : decode b_Md_placesOf 24 = .ok (.iadd, 1) := by decide +kernel
theorem d_Md_placesOf_25 : decode b_Md_placesOf 25 = .ok (.laload, 1) := by decide +kernel
theorem d_Md_placesOf_26 : decode b_Md_placesOf 26 = .ok (.lstore 5, 2) := by decide +kernel
theorem d_Md_placesOf_28 : decode b_Md_placesOf 28 = .ok (.lload 5, 2) := by decide +kernel
theorem d_Md_placesOf_30 : decode b_Md_placesOf 30 = .ok (.invokestatic 195, 3) := by decide +kernel
theorem d_Md_placesOf_33 : decode b_Md_placesOf 33 = .ok (.ifCond .eq 79, 3) := by decide +kernel
theorem d_Md_placesOf_36 : decode b_Md_placesOf 36 = .ok (.lload 5, 2) := by decide +kernel
theorem d_Md_placesOf_38 : decode b_Md_placesOf 38 = .ok (.invokestatic 172, 3) := by decide +kernel
theorem d_Md_placesOf_41 : decode b_Md_placesOf 41 = .ok (.ifCond .ne 71, 3) := by decide +kernel
theorem d_Md_placesOf_44 : decode b_Md_placesOf 44 = .ok (.aload_n 0, 1) := by decide +kernel
theorem d_Md_placesOf_45 : decode b_Md_placesOf 45 = .ok (.iconst 0, 1) := by decide +kernel
theorem d_Md_placesOf_46 : decode b_Md_placesOf 46 = .ok (.lload 5, 2) := by decide +kernel
theorem d_Md_placesOf_48 : decode b_Md_placesOf 48 = .ok (.ldc2_w 139, 3) := by decide +kernel
theorem d_Md_placesOf_51 : decode b_Md_placesOf 51 = .ok (.land, 1) := by decide +kernel
theorem d_Md_placesOf_52 : decode b_Md_placesOf 52 = .ok (.invokevirtual 122, 3) := by decide +kernel
theorem d_Md_placesOf_55 : decode b_Md_placesOf 55 = .ok (.aload_n 0, 1) := by decide +kernel
theorem d_Md_placesOf_56 : decode b_Md_placesOf 56 = .ok (.iconst 0, 1) := by decide +kernel
theorem d_Md_placesOf_57 : decode b_Md_placesOf 57 = .ok (.iconst 3, 1) := by decide +kernel
theorem d_Md_placesOf_58 : decode b_Md_placesOf 58 = .ok (.iload_n 2, 1) := by decide +kernel
theorem d_Md_placesOf_59 : decode b_Md_placesOf 59 = .ok (.invokevirtual 185, 3) := by decide +kernel
theorem d_Md_placesOf_62 : decode b_Md_placesOf 62 = .ok (.aload_n 0, 1) := by decide +kernel
theorem d_Md_placesOf_63 : decode b_Md_placesOf 63 = .ok (.iconst 3, 1) := by decide +kernel
theorem d_Md_placesOf_64 : decode b_Md_placesOf 64 = .ok (.invokevirtual 159, 3) := by decide +kernel
theorem d_Md_placesOf_67 : decode b_Md_placesOf 67 = .ok (.ifCond .ne 5, 3) := by decide +kernel
theorem d_Md_placesOf_70 : decode b_Md_placesOf 70 = .ok (.iconst (-1), 1) := by decide +kernel
theorem d_Md_placesOf_71 : decode b_Md_placesOf 71 = .ok (.ireturn, 1) := by decide +kernel
theorem d_Md_placesOf_72 : decode b_Md_placesOf 72 = .ok (.aload_n 0, 1) := by decide +kernel
theorem d_Md_placesOf_73 : decode b_Md_placesOf 73 = .ok (.iconst 3, 1) := by decide +kernel
theorem d_Md_placesOf_74 : decode b_Md_placesOf 74 = .ok (.invokevirtual 62, 3) := by decide +kernel
theorem d_Md_placesOf_77 : decode b_Md_placesOf 77 = .ok (.aload_n 0, 1) := by decide +kernel
theorem d_Md_placesOf_78 : decode b_Md_placesOf 78 = .ok (.getfield 20, 3) := by decide +kernel
theorem d_Md_placesOf_81 : decode b_Md_placesOf 81 = .ok (.iconst 3, 1) := by decide +kernel
theorem d_Md_placesOf_82 : decode b_Md_placesOf 82 = .ok (.iaload, 1) := by decide +kernel
theorem d_Md_placesOf_83 : decode b_Md_placesOf 83 = .ok (.aload_n 0, 1) := by decide +kernel
theorem d_Md_placesOf_84 : decode b_Md_placesOf 84 = .ok (.getfield 23, 3) := by decide +kernel
theorem d_Md_placesOf_87 : decode b_Md_placesOf 87 = .ok (.iconst 3, 1) := by decide +kernel
theorem d_Md_placesOf_88 : decode b_Md_placesOf 88 = .ok (.iaload, 1) := by decide +kernel
theorem d_Md_placesOf_89 : decode b_Md_placesOf 89 = .ok (.isub, 1) := by decide +kernel
theorem d_Md_placesOf_90 : decode b_Md_placesOf 90 = .ok (.iload_n 3, 1) := by decide +kernel
theorem d_Md_placesOf_91 : decode b_Md_placesOf 91 = .ok (.if_icmp .le 19, 3) := by decide +kernel
theorem d_Md_placesOf_94 : decode b_Md_placesOf 94 = .ok (.aload_n 0, 1) := by decide +kernel
theorem d_Md_placesOf_95 : decode b_Md_placesOf 95 = .ok (.getfield 20, 3) := by decide +kernel
theorem d_Md_placesOf_98 : decode b_Md_placesOf 98 = .ok (.iconst 3, 1) := by decide +kernel
theorem d_Md_placesOf_99 : decode b_Md_placesOf 99 = .ok (.iaload, 1) := by decide +kernel
theorem d_Md_placesOf_100 : decode b_Md_placesOf 100 = .ok (.aload_n 0, 1) := by decide +kernel
theorem d_Md_placesOf_101 : decode b_Md_placesOf 101 = .ok (.getfield 23, 3) := by decide +kernel
theorem d_Md_placesOf_104 : decode b_Md_placesOf 104 = .ok (.iconst 3, 1) := by decide +kernel
theorem d_Md_placesOf_105 : decode b_Md_placesOf 105 = .ok (.iaload, 1) := by decide +kernel
theorem d_Md_placesOf_106 : decode b_Md_placesOf 106 = .ok (.isub, 1) := by decide +kernel
theorem d_Md_placesOf_107 : decode b_Md_placesOf 107 = .ok (.goto 4, 3) := by decide +kernel
theorem d_Md_placesOf_110 : decode b_Md_placesOf 110 = .ok (.iload_n 3, 1) := by decide +kernel
theorem d_Md_placesOf_111 : decode b_Md_placesOf 111 = .ok (.istore_n 3, 1) := by decide +kernel
theorem d_Md_placesOf_112 : decode b_Md_placesOf 112 = .ok (.iinc 4 1, 3) := by decide +kernel
theorem d_Md_placesOf_115 : decode b_Md_placesOf 115 = .ok (.goto (-110), 3) := by decide +kernel
theorem d_Md_placesOf_118 : decode b_Md_placesOf 118 = .ok (.iload_n 3, 1) := by decide +kernel
theorem d_Md_placesOf_119 : decode b_Md_placesOf 119 = .ok (.ireturn, 1) := by decide +kernel
theorem d_Md_cell_0 : decode b_Md_cell 0 = .ok (.aload_n 0, 1) := by decide +kernel
theorem d_Md_cell_1 : decode b_Md_cell 1 = .ok (.lload_n 1, 1) := by decide +kernel
theorem d_Md_cell_2 : decode b_Md_cell 2 = .ok (.invokevirtual 168, 3) := by decide +kernel
theorem d_Md_cell_5 : decode b_Md_cell 5 = .ok (.ifCond .eq 4, 3) := by decide +kernel
theorem d_Md_cell_8 : decode b_Md_cell 8 = .ok (.return_, 1) := by decide +kernel
theorem d_Md_cell_9 : decode b_Md_cell 9 = .ok (.iload 4, 2) := by decide +kernel
theorem d_Md_cell_11 : decode b_Md_cell 11 = .ok (.iconst (-1), 1) := by decide +kernel
theorem d_Md_cell_12 : decode b_Md_cell 12 = .ok (.if_icmp .eq 13, 3) := by decide +kernel
theorem d_Md_cell_15 : decode b_Md_cell 15 = .ok (.aload_n 0, 1) := by decide +kernel
theorem d_Md_cell_16 : decode b_Md_cell 16 = .ok (.lload_n 1, 1) := by decide +kernel
theorem d_Md_cell_17 : decode b_Md_cell 17 = .ok (.iload 4, 2) := by decide +kernel
theorem d_Md_cell_19 : decode b_Md_cell 19 = .ok (.invokevirtual 188, 3) := by decide +kernel
theorem d_Md_cell_22 : decode b_Md_cell 22 = .ok (.goto 41, 3) := by decide +kernel
theorem d_Md_cell_25 : decode b_Md_cell 25 = .ok (.lload_n 1, 1) := by decide +kernel
theorem d_Md_cell_26 : decode b_Md_cell 26 = .ok (.invokestatic 172, 3) := by decide +kernel
theorem d_Md_cell_29 : decode b_Md_cell 29 = .ok (.ifCond .eq 12, 3) := by decide +kernel
theorem d_Md_cell_32 : decode b_Md_cell 32 = .ok (.aload_n 0, 1) := by decide +kernel
theorem d_Md_cell_33 : decode b_Md_cell 33 = .ok (.bipush 48, 2) := by decide +kernel
theorem d_Md_cell_35 : decode b_Md_cell 35 = .ok (.invokevirtual 148, 3) := by decide +kernel
theorem d_Md_cell_38 : decode b_Md_cell 38 = .ok (.goto 25, 3) := by decide +kernel
theorem d_Md_cell_41 : decode b_Md_cell 41 = .ok (.aload_n 0, 1) := by decide +kernel
theorem d_Md_cell_42 : decode b_Md_cell 42 = .ok (.iconst 0, 1) := by decide +kernel
theorem d_Md_cell_43 : decode b_Md_cell 43 = .ok (.lload_n 1, 1) := by decide +kernel
theorem d_Md_cell_44 : decode b_Md_cell 44 = .ok (.ldc2_w 139, 3) := by decide +kernel
theorem d_Md_cell_47 : decode b_Md_cell 47 = .ok (.land, 1) := by decide +kernel
theorem d_Md_cell_48 : decode b_Md_cell 48 = .ok (.invokevirtual 122, 3) := by decide +kernel
theorem d_Md_cell_51 : decode b_Md_cell 51 = .ok (.aload_n 0, 1) := by decide +kernel
theorem d_Md_cell_52 : decode b_Md_cell 52 = .ok (.iconst 0, 1) := by decide +kernel
theorem d_Md_cell_53 : decode b_Md_cell 53 = .ok (.iconst 3, 1) := by decide +kernel
theorem d_Md_cell_54 : decode b_Md_cell 54 = .ok (.iload_n 3, 1) := by decide +kernel
theorem d_Md_cell_55 : decode b_Md_cell 55 = .ok (.invokevirtual 185, 3) := by decide +kernel
theorem d_Md_cell_58 : decode b_Md_cell 58 = .ok (.aload_n 0, 1) := by decide +kernel
theorem d_Md_cell_59 : decode b_Md_cell 59 = .ok (.iconst 3, 1) := by decide +kernel
theorem d_Md_cell_60 : decode b_Md_cell 60 = .ok (.invokevirtual 162, 3) := by decide +kernel
theorem d_Md_cell_63 : decode b_Md_cell 63 = .ok (.return_, 1) := by decide +kernel
theorem d_Md_layout_0 : decode b_Md_layout 0 = .ok (.aload_n 0, 1) := by decide +kernel
theorem d_Md_layout_1 : decode b_Md_layout 1 = .ok (.iload_n 1, 1) := by decide +kernel
theorem d_Md_layout_2 : decode b_Md_layout 2 = .ok (.iconst 1, 1) := by decide +kernel
theorem d_Md_layout_3 : decode b_Md_layout 3 = .ok (.bipush 17, 2) := by decide +kernel
theorem d_Md_layout_5 : decode b_Md_layout 5 = .ok (.invokestatic 88, 3) := by decide +kernel
theorem d_Md_layout_8 : decode b_Md_layout 8 = .ok (.invokevirtual 106, 3) := by decide +kernel
theorem d_Md_layout_11 : decode b_Md_layout 11 = .ok (.ifCond .ne 5, 3) := by decide +kernel
theorem d_Md_layout_14 : decode b_Md_layout 14 = .ok (.iconst 0, 1) := by decide +kernel
theorem d_Md_layout_15 : decode b_Md_layout 15 = .ok (.ireturn, 1) := by decide +kernel
theorem d_Md_layout_16 : decode b_Md_layout 16 = .ok (.iconst 0, 1) := by decide +kernel
theorem d_Md_layout_17 : decode b_Md_layout 17 = .ok (.istore_n 2, 1) := by decide +kernel
theorem d_Md_layout_18 : decode b_Md_layout 18 = .ok (.iconst 0, 1) := by decide +kernel
theorem d_Md_layout_19 : decode b_Md_layout 19 = .ok (.istore_n 3, 1) := by decide +kernel
theorem d_Md_layout_20 : decode b_Md_layout 20 = .ok (.iload_n 3, 1) := by decide +kernel
theorem d_Md_layout_21 : decode b_Md_layout 21 = .ok (.aload_n 0, 1) := by decide +kernel
theorem d_Md_layout_22 : decode b_Md_layout 22 = .ok (.getfield 32, 3) := by decide +kernel
theorem d_Md_layout_25 : decode b_Md_layout 25 = .ok (.if_icmp .ge 241, 3) := by decide +kernel
theorem d_Md_layout_28 : decode b_Md_layout 28 = .ok (.iload_n 3, 1) := by decide +kernel
theorem d_Md_layout_29 : decode b_Md_layout 29 = .ok (.ifCond .le 57, 3) := by decide +kernel
theorem d_Md_layout_32 : decode b_Md_layout 32 = .ok (.iconst 0, 1) := by decide +kernel
theorem d_Md_layout_33 : decode b_Md_layout 33 = .ok (.istore 4, 2) := by decide +kernel
theorem d_Md_layout_35 : decode b_Md_layout 35 = .ok (.iload 4, 2) := by decide +kernel
theorem d_Md_layout_37 : decode b_Md_layout 37 = .ok (.aload_n 0, 1) := by decide +kernel
theorem d_Md_layout_38 : decode b_Md_layout 38 = .ok (.getfield 29, 3) := by decide +kernel
theorem d_Md_layout_41 : decode b_Md_layout 41 = .ok (.if_icmp .ge 41, 3) := by decide +kernel
theorem d_Md_layout_44 : decode b_Md_layout 44 = .ok (.aload_n 0, 1) := by decide +kernel
theorem d_Md_layout_45 : decode b_Md_layout 45 = .ok (.getfield 39, 3) := by decide +kernel
theorem d_Md_layout_48 : decode b_Md_layout 48 = .ok (.sipush 1200, 3) := by decide +kernel
theorem d_Md_layout_51 : decode b_Md_layout 51 = .ok (.iload 4, 2) := by decide +kernel
theorem d_Md_layout_53 : decode b_Md_layout 53 = .ok (.imul, 1) := by decide +kernel
theorem d_Md_layout_54 : decode b_Md_layout 54 = .ok (.iload_n 2, 1) := by decide +kernel
theorem d_Md_layout_55 : decode b_Md_layout 55 = .ok (.iadd, 1) := by decide +kernel
theorem d_Md_layout_56 : decode b_Md_layout 56 = .ok (.bipush 32, 2) := by decide +kernel
theorem d_Md_layout_58 : decode b_Md_layout 58 = .ok (.iastore, 1) := by decide +kernel
theorem d_Md_layout_59 : decode b_Md_layout 59 = .ok (.aload_n 0, 1) := by decide +kernel
theorem d_Md_layout_60 : decode b_Md_layout 60 = .ok (.getfield 39, 3) := by decide +kernel
theorem d_Md_layout_63 : decode b_Md_layout 63 = .ok (.sipush 1200, 3) := by decide +kernel
theorem d_Md_layout_66 : decode b_Md_layout 66 = .ok (.iload 4, 2) := by decide +kernel
theorem d_Md_layout_68 : decode b_Md_layout 68 = .ok (.imul, 1) := by decide +kernel
theorem d_Md_layout_69 : decode b_Md_layout 69 = .ok (.iload_n 2, 1) := by decide +kernel
theorem d_Md_layout_70 : decode b_Md_layout 70 = .ok (.iadd, 1) := by decide +kernel
theorem d_Md_layout_71 : decode b_Md_layout 71 = .ok (.iconst 1, 1) := by decide +kernel
theorem d_Md_layout_72 : decode b_Md_layout 72 = .ok (.iadd, 1) := by decide +kernel
theorem d_Md_layout_73 : decode b_Md_layout 73 = .ok (.bipush 32, 2) := by decide +kernel
theorem d_Md_layout_75 : decode b_Md_layout 75 = .ok (.iastore, 1) := by decide +kernel
theorem d_Md_layout_76 : decode b_Md_layout 76 = .ok (.iinc 4 1, 3) := by decide +kernel
theorem d_Md_layout_79 : decode b_Md_layout 79 = .ok (.goto (-44), 3) := by decide +kernel
theorem d_Md_layout_82 : decode b_Md_layout 82 = .ok (.iload_n 2, 1) := by decide +kernel
theorem d_Md_layout_83 : decode b_Md_layout 83 = .ok (.iconst 2, 1) := by decide +kernel
theorem d_Md_layout_84 : decode b_Md_layout 84 = .ok (.iadd, 1) := by decide +kernel
theorem d_Md_layout_85 : decode b_Md_layout 85 = .ok (.istore_n 2, 1) := by decide +kernel
theorem d_Md_layout_86 : decode b_Md_layout 86 = .ok (.aload_n 0, 1) := by decide +kernel
theorem d_Md_layout_87 : decode b_Md_layout 87 = .ok (.iload_n 3, 1) := by decide +kernel
theorem d_Md_layout_88 : decode b_Md_layout 88 = .ok (.iload_n 1, 1) := by decide +kernel
theorem d_Md_layout_89 : decode b_Md_layout 89 = .ok (.invokevirtual 198, 3) := by decide +kernel
theorem d_Md_layout_92 : decode b_Md_layout 92 = .ok (.istore 4, 2) := by decide +kernel
theorem d_Md_layout_94 : decode b_Md_layout 94 = .ok (.iconst 0, 1) := by decide +kernel
theorem d_Md_layout_95 : decode b_Md_layout 95 = .ok (.istore 5, 2) := by decide +kernel
theorem d_Md_layout_97 : decode b_Md_layout 97 = .ok (.iconst 0, 1) := by decide +kernel
theorem d_Md_layout_98 : decode b_Md_layout 98 = .ok (.istore 6, 2) := by decide +kernel
theorem d_Md_layout_100 : decode b_Md_layout 100 = .ok (.iload 6, 2) := by decide +kernel
