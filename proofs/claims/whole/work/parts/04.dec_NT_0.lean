theorem d_NT_byteOf_0 : decode b_NT_byteOf 0 = .ok (.lload_n 0, 1) := by decide +kernel
theorem d_NT_byteOf_1 : decode b_NT_byteOf 1 = .ok (.bipush 8, 2) := by decide +kernel
theorem d_NT_byteOf_3 : decode b_NT_byteOf 3 = .ok (.iload_n 2, 1) := by decide +kernel
theorem d_NT_byteOf_4 : decode b_NT_byteOf 4 = .ok (.imul, 1) := by decide +kernel
theorem d_NT_byteOf_5 : decode b_NT_byteOf 5 = .ok (.lushr, 1) := by decide +kernel
theorem d_NT_byteOf_6 : decode b_NT_byteOf 6 = .ok (.l2i, 1) := by decide +kernel
theorem d_NT_byteOf_7 : decode b_NT_byteOf 7 = .ok (.sipush 255, 3) := by decide +kernel
theorem d_NT_byteOf_10 : decode b_NT_byteOf 10 = .ok (.iand, 1) := by decide +kernel
theorem d_NT_byteOf_11 : decode b_NT_byteOf 11 = .ok (.ireturn, 1) := by decide +kernel
theorem d_NT_type_0 : decode b_NT_type 0 = .ok (.iload_n 3, 1) := by decide +kernel
theorem d_NT_type_1 : decode b_NT_type 1 = .ok (.iconst 1, 1) := by decide +kernel
theorem d_NT_type_2 : decode b_NT_type 2 = .ok (.if_icmp .lt 24, 3) := by decide +kernel
theorem d_NT_type_5 : decode b_NT_type 5 = .ok (.iload_n 3, 1) := by decide +kernel
theorem d_NT_type_6 : decode b_NT_type 6 = .ok (.bipush 8, 2) := by decide +kernel
theorem d_NT_type_8 : decode b_NT_type 8 = .ok (.if_icmp .gt 18, 3) := by decide +kernel
theorem d_NT_type_11 : decode b_NT_type 11 = .ok (.aload_n 0, 1) := by decide +kernel
theorem d_NT_type_12 : decode b_NT_type 12 = .ok (.getfield 14, 3) := by decide +kernel
theorem d_NT_type_15 : decode b_NT_type 15 = .ok (.invokevirtual 50, 3) := by decide +kernel
theorem d_NT_type_18 : decode b_NT_type 18 = .ok (.iload_n 3, 1) := by decide +kernel
theorem d_NT_type_19 : decode b_NT_type 19 = .ok (.iadd, 1) := by decide +kernel
theorem d_NT_type_20 : decode b_NT_type 20 = .ok (.sipush 1200, 3) := by decide +kernel
theorem d_NT_type_23 : decode b_NT_type 23 = .ok (.if_icmp .le 5, 3) := by decide +kernel
theorem d_NT_type_26 : decode b_NT_type 26 = .ok (.iconst (-1), 1) := by decide +kernel
theorem d_NT_type_27 : decode b_NT_type 27 = .ok (.ireturn, 1) := by decide +kernel
theorem d_NT_type_28 : decode b_NT_type 28 = .ok (.iconst 0, 1) := by decide +kernel
theorem d_NT_type_29 : decode b_NT_type 29 = .ok (.istore 4, 2) := by decide +kernel
theorem d_NT_type_31 : decode b_NT_type 31 = .ok (.iload 4, 2) := by decide +kernel
theorem d_NT_type_33 : decode b_NT_type 33 = .ok (.iload_n 3, 1) := by decide +kernel
theorem d_NT_type_34 : decode b_NT_type 34 = .ok (.if_icmp .ge 33, 3) := by decide +kernel
theorem d_NT_type_37 : decode b_NT_type 37 = .ok (.lload_n 1, 1) := by decide +kernel
theorem d_NT_type_38 : decode b_NT_type 38 = .ok (.iload 4, 2) := by decide +kernel
theorem d_NT_type_40 : decode b_NT_type 40 = .ok (.invokestatic 54, 3) := by decide +kernel
theorem d_NT_type_43 : decode b_NT_type 43 = .ok (.istore 5, 2) := by decide +kernel
theorem d_NT_type_45 : decode b_NT_type 45 = .ok (.iload 5, 2) := by decide +kernel
theorem d_NT_type_47 : decode b_NT_type 47 = .ok (.bipush 32, 2) := by decide +kernel
theorem d_NT_type_49 : decode b_NT_type 49 = .ok (.if_icmp .lt 10, 3) := by decide +kernel
theorem d_NT_type_52 : decode b_NT_type 52 = .ok (.iload 5, 2) := by decide +kernel
theorem d_NT_type_54 : decode b_NT_type 54 = .ok (.bipush 126, 2) := by decide +kernel
theorem d_NT_type_56 : decode b_NT_type 56 = .ok (.if_icmp .le 5, 3) := by decide +kernel
theorem d_NT_type_59 : decode b_NT_type 59 = .ok (.iconst (-1), 1) := by decide +kernel
theorem d_NT_type_60 : decode b_NT_type 60 = .ok (.ireturn, 1) := by decide +kernel
theorem d_NT_type_61 : decode b_NT_type 61 = .ok (.iinc 4 1, 3) := by decide +kernel
theorem d_NT_type_64 : decode b_NT_type 64 = .ok (.goto (-33), 3) := by decide +kernel
theorem d_NT_type_67 : decode b_NT_type 67 = .ok (.iload_n 3, 1) := by decide +kernel
theorem d_NT_type_68 : decode b_NT_type 68 = .ok (.iconst 1, 1) := by decide +kernel
theorem d_NT_type_69 : decode b_NT_type 69 = .ok (.isub, 1) := by decide +kernel
theorem d_NT_type_70 : decode b_NT_type 70 = .ok (.istore 4, 2) := by decide +kernel
theorem d_NT_type_72 : decode b_NT_type 72 = .ok (.iload 4, 2) := by decide +kernel
theorem d_NT_type_74 : decode b_NT_type 74 = .ok (.ifCond .lt 22, 3) := by decide +kernel
theorem d_NT_type_77 : decode b_NT_type 77 = .ok (.aload_n 0, 1) := by decide +kernel
theorem d_NT_type_78 : decode b_NT_type 78 = .ok (.getfield 14, 3) := by decide +kernel
theorem d_NT_type_81 : decode b_NT_type 81 = .ok (.lload_n 1, 1) := by decide +kernel
theorem d_NT_type_82 : decode b_NT_type 82 = .ok (.iload 4, 2) := by decide +kernel
theorem d_NT_type_84 : decode b_NT_type 84 = .ok (.invokestatic 54, 3) := by decide +kernel
theorem d_NT_type_87 : decode b_NT_type 87 = .ok (.invokevirtual 58, 3) := by decide +kernel
theorem d_NT_type_90 : decode b_NT_type 90 = .ok (.iinc 4 (-1), 3) := by decide +kernel
theorem d_NT_type_93 : decode b_NT_type 93 = .ok (.goto (-21), 3) := by decide +kernel
theorem d_NT_type_96 : decode b_NT_type 96 = .ok (.aload_n 0, 1) := by decide +kernel
theorem d_NT_type_97 : decode b_NT_type 97 = .ok (.getfield 14, 3) := by decide +kernel
theorem d_NT_type_100 : decode b_NT_type 100 = .ok (.invokevirtual 50, 3) := by decide +kernel
theorem d_NT_type_103 : decode b_NT_type 103 = .ok (.ireturn, 1) := by decide +kernel
theorem d_NT_wipe_0 : decode b_NT_wipe 0 = .ok (.aload_n 0, 1) := by decide +kernel
theorem d_NT_wipe_1 : decode b_NT_wipe 1 = .ok (.getfield 14, 3) := by decide +kernel
theorem d_NT_wipe_4 : decode b_NT_wipe 4 = .ok (.invokevirtual 50, 3) := by decide +kernel
theorem d_NT_wipe_7 : decode b_NT_wipe 7 = .ok (.istore_n 1, 1) := by decide +kernel
theorem d_NT_wipe_8 : decode b_NT_wipe 8 = .ok (.aload_n 0, 1) := by decide +kernel
theorem d_NT_wipe_9 : decode b_NT_wipe 9 = .ok (.getfield 14, 3) := by decide +kernel
theorem d_NT_wipe_12 : decode b_NT_wipe 12 = .ok (.invokevirtual 61, 3) := by decide +kernel
theorem d_NT_wipe_15 : decode b_NT_wipe 15 = .ok (.iload_n 1, 1) := by decide +kernel
theorem d_NT_wipe_16 : decode b_NT_wipe 16 = .ok (.ireturn, 1) := by decide +kernel
theorem d_NT_character_0 : decode b_NT_character 0 = .ok (.aload_n 0, 1) := by decide +kernel
theorem d_NT_character_1 : decode b_NT_character 1 = .ok (.getfield 14, 3) := by decide +kernel
theorem d_NT_character_4 : decode b_NT_character 4 = .ok (.iload_n 1, 1) := by decide +kernel
theorem d_NT_character_5 : decode b_NT_character 5 = .ok (.invokevirtual 64, 3) := by decide +kernel
theorem d_NT_character_8 : decode b_NT_character 8 = .ok (.ireturn, 1) := by decide +kernel
theorem d_NT_place_0 : decode b_NT_place 0 = .ok (.aload_n 0, 1) := by decide +kernel
theorem d_NT_place_1 : decode b_NT_place 1 = .ok (.getfield 46, 3) := by decide +kernel
theorem d_NT_place_4 : decode b_NT_place 4 = .ok (.ireturn, 1) := by decide +kernel
theorem d_NT_isNoNumber_0 : decode b_NT_isNoNumber 0 = .ok (.lload_n 0, 1) := by decide +kernel
theorem d_NT_isNoNumber_1 : decode b_NT_isNoNumber 1 = .ok (.ldc2_w 129, 3) := by decide +kernel
theorem d_NT_isNoNumber_4 : decode b_NT_isNoNumber 4 = .ok (.land, 1) := by decide +kernel
theorem d_NT_isNoNumber_5 : decode b_NT_isNoNumber 5 = .ok (.ldc2_w 127, 3) := by decide +kernel
theorem d_NT_isNoNumber_8 : decode b_NT_isNoNumber 8 = .ok (.lcmp, 1) := by decide +kernel
theorem d_NT_isNoNumber_9 : decode b_NT_isNoNumber 9 = .ok (.ifCond .le 7, 3) := by decide +kernel
theorem d_NT_isNoNumber_12 : decode b_NT_isNoNumber 12 = .ok (.iconst 1, 1) := by decide +kernel
theorem d_NT_isNoNumber_13 : decode b_NT_isNoNumber 13 = .ok (.goto 4, 3) := by decide +kernel
theorem d_NT_isNoNumber_16 : decode b_NT_isNoNumber 16 = .ok (.iconst 0, 1) := by decide +kernel
theorem d_NT_isNoNumber_17 : decode b_NT_isNoNumber 17 = .ok (.ireturn, 1) := by decide +kernel
theorem d_NT_isFinite_0 : decode b_NT_isFinite 0 = .ok (.lload_n 0, 1) := by decide +kernel
theorem d_NT_isFinite_1 : decode b_NT_isFinite 1 = .ok (.ldc2_w 127, 3) := by decide +kernel
theorem d_NT_isFinite_4 : decode b_NT_isFinite 4 = .ok (.land, 1) := by decide +kernel
theorem d_NT_isFinite_5 : decode b_NT_isFinite 5 = .ok (.ldc2_w 127, 3) := by decide +kernel
theorem d_NT_isFinite_8 : decode b_NT_isFinite 8 = .ok (.lcmp, 1) := by decide +kernel
theorem d_NT_isFinite_9 : decode b_NT_isFinite 9 = .ok (.ifCond .eq 7, 3) := by decide +kernel
theorem d_NT_isFinite_12 : decode b_NT_isFinite 12 = .ok (.iconst 1, 1) := by decide +kernel
theorem d_NT_isFinite_13 : decode b_NT_isFinite 13 = .ok (.goto 4, 3) := by decide +kernel
theorem d_NT_isFinite_16 : decode b_NT_isFinite 16 = .ok (.iconst 0, 1) := by decide +kernel
theorem d_NT_isFinite_17 : decode b_NT_isFinite 17 = .ok (.ireturn, 1) := by decide +kernel
theorem d_NT_isZero_0 : decode b_NT_isZero 0 = .ok (.lload_n 0, 1) := by decide +kernel
theorem d_NT_isZero_1 : decode b_NT_isZero 1 = .ok (.ldc2_w 129, 3) := by decide +kernel
theorem d_NT_isZero_4 : decode b_NT_isZero 4 = .ok (.land, 1) := by decide +kernel
theorem d_NT_isZero_5 : decode b_NT_isZero 5 = .ok (.lconst 0, 1) := by decide +kernel
theorem d_NT_isZero_6 : decode b_NT_isZero 6 = .ok (.lcmp, 1) := by decide +kernel
theorem d_NT_isZero_7 : decode b_NT_isZero 7 = .ok (.ifCond .ne 7, 3) := by decide +kernel
theorem d_NT_isZero_10 : decode b_NT_isZero 10 = .ok (.iconst 1, 1) := by decide +kernel
theorem d_NT_isZero_11 : decode b_NT_isZero 11 = .ok (.goto 4, 3) := by decide +kernel
theorem d_NT_isZero_14 : decode b_NT_isZero 14 = .ok (.iconst 0, 1) := by decide +kernel
theorem d_NT_isZero_15 : decode b_NT_isZero 15 = .ok (.ireturn, 1) := by decide +kernel
theorem d_NT_fractionField_0 : decode b_NT_fractionField 0 = .ok (.lload_n 0, 1) := by decide +kernel
theorem d_NT_fractionField_1 : decode b_NT_fractionField 1 = .ok (.ldc2_w 131, 3) := by decide +kernel
theorem d_NT_fractionField_4 : decode b_NT_fractionField 4 = .ok (.land, 1) := by decide +kernel
theorem d_NT_fractionField_5 : decode b_NT_fractionField 5 = .ok (.lreturn, 1) := by decide +kernel
theorem d_NT_exponentField_0 : decode b_NT_exponentField 0 = .ok (.lload_n 0, 1) := by decide +kernel
theorem d_NT_exponentField_1 : decode b_NT_exponentField 1 = .ok (.bipush 52, 2) := by decide +kernel
theorem d_NT_exponentField_3 : decode b_NT_exponentField 3 = .ok (.lushr, 1) := by decide +kernel
theorem d_NT_exponentField_4 : decode b_NT_exponentField 4 = .ok (.l2i, 1) := by decide +kernel
theorem d_NT_exponentField_5 : decode b_NT_exponentField 5 = .ok (.sipush 2047, 3) := by decide +kernel
theorem d_NT_exponentField_8 : decode b_NT_exponentField 8 = .ok (.iand, 1) := by decide +kernel
theorem d_NT_exponentField_9 : decode b_NT_exponentField 9 = .ok (.ireturn, 1) := by decide +kernel
theorem d_NT_multiple_0 : decode b_NT_multiple 0 = .ok (.lload_n 0, 1) := by decide +kernel
theorem d_NT_multiple_1 : decode b_NT_multiple 1 = .ok (.invokestatic 133, 3) := by decide +kernel
theorem d_NT_multiple_4 : decode b_NT_multiple 4 = .ok (.lstore_n 2, 1) := by decide +kernel
theorem d_NT_multiple_5 : decode b_NT_multiple 5 = .ok (.lload_n 0, 1) := by decide +kernel
theorem d_NT_multiple_6 : decode b_NT_multiple 6 = .ok (.invokestatic 137, 3) := by decide +kernel
theorem d_NT_multiple_9 : decode b_NT_multiple 9 = .ok (.ifCond .ne 7, 3) := by decide +kernel
theorem d_NT_multiple_12 : decode b_NT_multiple 12 = .ok (.lload_n 2, 1) := by decide +kernel
theorem d_NT_multiple_13 : decode b_NT_multiple 13 = .ok (.goto 8, 3) := by decide +kernel
theorem d_NT_multiple_16 : decode b_NT_multiple 16 = .ok (.lload_n 2, 1) := by decide +kernel
theorem d_NT_multiple_17 : decode b_NT_multiple 17 = .ok (.ldc2_w 141, 3) := by decide +kernel
theorem d_NT_multiple_20 : decode b_NT_multiple 20 = .ok (.ladd, 1) := by decide +kernel
theorem d_NT_multiple_21 : decode b_NT_multiple 21 = .ok (.lreturn, 1) := by decide +kernel
theorem d_NT_power_0 : decode b_NT_power 0 = .ok (.sipush (-1074), 3) := by decide +kernel
theorem d_NT_power_3 : decode b_NT_power 3 = .ok (.iconst 0, 1) := by decide +kernel
theorem d_NT_power_4 : decode b_NT_power 4 = .ok (.lload_n 0, 1) := by decide +kernel
theorem d_NT_power_5 : decode b_NT_power 5 = .ok (.invokestatic 137, 3) := by decide +kernel
theorem d_NT_power_8 : decode b_NT_power 8 = .ok (.iconst 1, 1) := by decide +kernel
theorem d_NT_power_9 : decode b_NT_power 9 = .ok (.isub, 1) := by decide +kernel
theorem d_NT_power_10 : decode b_NT_power 10 = .ok (.invokestatic 143, 3) := by decide +kernel
theorem d_NT_power_13 : decode b_NT_power 13 = .ok (.iadd, 1) := by decide +kernel
theorem d_NT_power_14 : decode b_NT_power 14 = .ok (.ireturn, 1) := by decide +kernel
theorem d_NT_write_0 : decode b_NT_write 0 = .ok (.aload_n 0, 1) := by decide +kernel
theorem d_NT_write_1 : decode b_NT_write 1 = .ok (.getfield 14, 3) := by decide +kernel
theorem d_NT_write_4 : decode b_NT_write 4 = .ok (.invokevirtual 61, 3) := by decide +kernel
theorem d_NT_write_7 : decode b_NT_write 7 = .ok (.aload_n 0, 1) := by decide +kernel
theorem d_NT_write_8 : decode b_NT_write 8 = .ok (.getfield 33, 3) := by decide +kernel
theorem d_NT_write_11 : decode b_NT_write 11 = .ok (.aload_n 0, 1) := by decide +kernel
theorem d_NT_write_12 : decode b_NT_write 12 = .ok (.getfield 14, 3) := by decide +kernel
theorem d_NT_write_15 : decode b_NT_write 15 = .ok (.lload_n 1, 1) := by decide +kernel
theorem d_NT_write_16 : decode b_NT_write 16 = .ok (.invokevirtual 83, 3) := by decide +kernel
theorem d_NT_write_19 : decode b_NT_write 19 = .ok (.aload_n 0, 1) := by decide +kernel
theorem d_NT_write_20 : decode b_NT_write 20 = .ok (.getfield 14, 3) := by decide +kernel
theorem d_NT_write_23 : decode b_NT_write 23 = .ok (.invokevirtual 50, 3) := by decide +kernel
theorem d_NT_write_26 : decode b_NT_write 26 = .ok (.ireturn, 1) := by decide +kernel
theorem d_NT_full_0 : decode b_NT_full 0 = .ok (.aload_n 0, 1) := by decide +kernel
theorem d_NT_full_1 : decode b_NT_full 1 = .ok (.getfield 14, 3) := by decide +kernel
theorem d_NT_full_4 : decode b_NT_full 4 = .ok (.invokevirtual 61, 3) := by decide +kernel
theorem d_NT_full_7 : decode b_NT_full 7 = .ok (.aload_n 0, 1) := by decide +kernel
theorem d_NT_full_8 : decode b_NT_full 8 = .ok (.getfield 33, 3) := by decide +kernel
theorem d_NT_full_11 : decode b_NT_full 11 = .ok (.aload_n 0, 1) := by decide +kernel
theorem d_NT_full_12 : decode b_NT_full 12 = .ok (.getfield 14, 3) := by decide +kernel
theorem d_NT_full_15 : decode b_NT_full 15 = .ok (.lload_n 1, 1) := by decide +kernel
theorem d_NT_full_16 : decode b_NT_full 16 = .ok (.invokevirtual 98, 3) := by decide +kernel
theorem d_NT_full_19 : decode b_NT_full 19 = .ok (.aload_n 0, 1) := by decide +kernel
theorem d_NT_full_20 : decode b_NT_full 20 = .ok (.getfield 14, 3) := by decide +kernel
theorem d_NT_full_23 : decode b_NT_full 23 = .ok (.invokevirtual 50, 3) := by decide +kernel
theorem d_NT_full_26 : decode b_NT_full 26 = .ok (.ireturn, 1) := by decide +kernel
theorem d_NT_shown_0 : decode b_NT_shown 0 = .ok (.aload_n 0, 1) := by decide +kernel
theorem d_NT_shown_1 : decode b_NT_shown 1 = .ok (.getfield 42, 3) := by decide +kernel
theorem d_NT_shown_4 : decode b_NT_shown 4 = .ok (.iload_n 1, 1) := by decide +kernel
theorem d_NT_shown_5 : decode b_NT_shown 5 = .ok (.iload_n 2, 1) := by decide +kernel
theorem d_NT_shown_6 : decode b_NT_shown 6 = .ok (.invokevirtual 123, 3) := by decide +kernel
theorem d_NT_shown_9 : decode b_NT_shown 9 = .ok (.ireturn, 1) := by decide +kernel
