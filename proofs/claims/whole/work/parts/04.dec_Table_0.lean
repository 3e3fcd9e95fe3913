theorem d_Table_renew_0 : decode b_Table_renew 0 = .ok (.aload_n 0, 1) := by decide +kernel
theorem d_Table_renew_1 : decode b_Table_renew 1 = .ok (.iload_n 1, 1) := by decide +kernel
theorem d_Table_renew_2 : decode b_Table_renew 2 = .ok (.putfield 19, 3) := by decide +kernel
theorem d_Table_renew_5 : decode b_Table_renew 5 = .ok (.aload_n 0, 1) := by decide +kernel
theorem d_Table_renew_6 : decode b_Table_renew 6 = .ok (.iload_n 2, 1) := by decide +kernel
theorem d_Table_renew_7 : decode b_Table_renew 7 = .ok (.putfield 23, 3) := by decide +kernel
theorem d_Table_renew_10 : decode b_Table_renew 10 = .ok (.aload_n 0, 1) := by decide +kernel
theorem d_Table_renew_11 : decode b_Table_renew 11 = .ok (.iconst 0, 1) := by decide +kernel
theorem d_Table_renew_12 : decode b_Table_renew 12 = .ok (.putfield 43, 3) := by decide +kernel
theorem d_Table_renew_15 : decode b_Table_renew 15 = .ok (.iconst 0, 1) := by decide +kernel
theorem d_Table_renew_16 : decode b_Table_renew 16 = .ok (.istore_n 3, 1) := by decide +kernel
theorem d_Table_renew_17 : decode b_Table_renew 17 = .ok (.iload_n 3, 1) := by decide +kernel
theorem d_Table_renew_18 : decode b_Table_renew 18 = .ok (.aload_n 0, 1) := by decide +kernel
theorem d_Table_renew_19 : decode b_Table_renew 19 = .ok (.getfield 15, 3) := by decide +kernel
theorem d_Table_renew_22 : decode b_Table_renew 22 = .ok (.arraylength, 1) := by decide +kernel
theorem d_Table_renew_23 : decode b_Table_renew 23 = .ok (.if_icmp .ge 16, 3) := by decide +kernel
theorem d_Table_renew_26 : decode b_Table_renew 26 = .ok (.aload_n 0, 1) := by decide +kernel
theorem d_Table_renew_27 : decode b_Table_renew 27 = .ok (.getfield 15, 3) := by decide +kernel
theorem d_Table_renew_30 : decode b_Table_renew 30 = .ok (.iload_n 3, 1) := by decide +kernel
theorem d_Table_renew_31 : decode b_Table_renew 31 = .ok (.lconst 0, 1) := by decide +kernel
theorem d_Table_renew_32 : decode b_Table_renew 32 = .ok (.lastore, 1) := by decide +kernel
theorem d_Table_renew_33 : decode b_Table_renew 33 = .ok (.iinc 3 1, 3) := by decide +kernel
theorem d_Table_renew_36 : decode b_Table_renew 36 = .ok (.goto (-19), 3) := by decide +kernel
theorem d_Table_renew_39 : decode b_Table_renew 39 = .ok (.return_, 1) := by decide +kernel
theorem d_Table_has_0 : decode b_Table_has 0 = .ok (.iload_n 1, 1) := by decide +kernel
theorem d_Table_has_1 : decode b_Table_has 1 = .ok (.ifCond .lt 27, 3) := by decide +kernel
theorem d_Table_has_4 : decode b_Table_has 4 = .ok (.iload_n 1, 1) := by decide +kernel
theorem d_Table_has_5 : decode b_Table_has 5 = .ok (.aload_n 0, 1) := by decide +kernel
theorem d_Table_has_6 : decode b_Table_has 6 = .ok (.getfield 19, 3) := by decide +kernel
theorem d_Table_has_9 : decode b_Table_has 9 = .ok (.if_icmp .ge 19, 3) := by decide +kernel
theorem d_Table_has_12 : decode b_Table_has 12 = .ok (.iload_n 2, 1) := by decide +kernel
theorem d_Table_has_13 : decode b_Table_has 13 = .ok (.ifCond .lt 15, 3) := by decide +kernel
theorem d_Table_has_16 : decode b_Table_has 16 = .ok (.iload_n 2, 1) := by decide +kernel
theorem d_Table_has_17 : decode b_Table_has 17 = .ok (.aload_n 0, 1) := by decide +kernel
theorem d_Table_has_18 : decode b_Table_has 18 = .ok (.getfield 23, 3) := by decide +kernel
theorem d_Table_has_21 : decode b_Table_has 21 = .ok (.if_icmp .ge 7, 3) := by decide +kernel
theorem d_Table_has_24 : decode b_Table_has 24 = .ok (.iconst 1, 1) := by decide +kernel
theorem d_Table_has_25 : decode b_Table_has 25 = .ok (.goto 4, 3) := by decide +kernel
theorem d_Table_has_28 : decode b_Table_has 28 = .ok (.iconst 0, 1) := by decide +kernel
theorem d_Table_has_29 : decode b_Table_has 29 = .ok (.ireturn, 1) := by decide +kernel
theorem d_Table_put_0 : decode b_Table_put 0 = .ok (.iload_n 1, 1) := by decide +kernel
theorem d_Table_put_1 : decode b_Table_put 1 = .ok (.bipush 8, 2) := by decide +kernel
theorem d_Table_put_3 : decode b_Table_put 3 = .ok (.imul, 1) := by decide +kernel
theorem d_Table_put_4 : decode b_Table_put 4 = .ok (.iload_n 2, 1) := by decide +kernel
theorem d_Table_put_5 : decode b_Table_put 5 = .ok (.iadd, 1) := by decide +kernel
theorem d_Table_put_6 : decode b_Table_put 6 = .ok (.istore 5, 2) := by decide +kernel
theorem d_Table_put_8 : decode b_Table_put 8 = .ok (.iload 5, 2) := by decide +kernel
theorem d_Table_put_10 : decode b_Table_put 10 = .ok (.ifCond .lt 21, 3) := by decide +kernel
theorem d_Table_put_13 : decode b_Table_put 13 = .ok (.iload 5, 2) := by decide +kernel
theorem d_Table_put_15 : decode b_Table_put 15 = .ok (.aload_n 0, 1) := by decide +kernel
theorem d_Table_put_16 : decode b_Table_put 16 = .ok (.getfield 15, 3) := by decide +kernel
theorem d_Table_put_19 : decode b_Table_put 19 = .ok (.arraylength, 1) := by decide +kernel
theorem d_Table_put_20 : decode b_Table_put 20 = .ok (.if_icmp .ge 11, 3) := by decide +kernel
theorem d_Table_put_23 : decode b_Table_put 23 = .ok (.aload_n 0, 1) := by decide +kernel
theorem d_Table_put_24 : decode b_Table_put 24 = .ok (.getfield 15, 3) := by decide +kernel
theorem d_Table_put_27 : decode b_Table_put 27 = .ok (.iload 5, 2) := by decide +kernel
theorem d_Table_put_29 : decode b_Table_put 29 = .ok (.lload_n 3, 1) := by decide +kernel
theorem d_Table_put_30 : decode b_Table_put 30 = .ok (.lastore, 1) := by decide +kernel
theorem d_Table_put_31 : decode b_Table_put 31 = .ok (.return_, 1) := by decide +kernel
theorem d_Table_number_0 : decode b_Table_number 0 = .ok (.iload_n 1, 1) := by decide +kernel
theorem d_Table_number_1 : decode b_Table_number 1 = .ok (.bipush 8, 2) := by decide +kernel
theorem d_Table_number_3 : decode b_Table_number 3 = .ok (.imul, 1) := by decide +kernel
theorem d_Table_number_4 : decode b_Table_number 4 = .ok (.iload_n 2, 1) := by decide +kernel
theorem d_Table_number_5 : decode b_Table_number 5 = .ok (.iadd, 1) := by decide +kernel
theorem d_Table_number_6 : decode b_Table_number 6 = .ok (.istore_n 3, 1) := by decide +kernel
theorem d_Table_number_7 : decode b_Table_number 7 = .ok (.iload_n 3, 1) := by decide +kernel
theorem d_Table_number_8 : decode b_Table_number 8 = .ok (.ifCond .lt 21, 3) := by decide +kernel
theorem d_Table_number_11 : decode b_Table_number 11 = .ok (.iload_n 3, 1) := by decide +kernel
theorem d_Table_number_12 : decode b_Table_number 12 = .ok (.aload_n 0, 1) := by decide +kernel
theorem d_Table_number_13 : decode b_Table_number 13 = .ok (.getfield 15, 3) := by decide +kernel
theorem d_Table_number_16 : decode b_Table_number 16 = .ok (.arraylength, 1) := by decide +kernel
theorem d_Table_number_17 : decode b_Table_number 17 = .ok (.if_icmp .ge 12, 3) := by decide +kernel
theorem d_Table_number_20 : decode b_Table_number 20 = .ok (.aload_n 0, 1) := by decide +kernel
theorem d_Table_number_21 : decode b_Table_number 21 = .ok (.getfield 15, 3) := by decide +kernel
theorem d_Table_number_24 : decode b_Table_number 24 = .ok (.iload_n 3, 1) := by decide +kernel
theorem d_Table_number_25 : decode b_Table_number 25 = .ok (.laload, 1) := by decide +kernel
theorem d_Table_number_26 : decode b_Table_number 26 = .ok (.goto 4, 3) := by decide +kernel
theorem d_Table_number_29 : decode b_Table_number 29 = .ok (.lconst 0, 1) := by decide +kernel
theorem d_Table_number_30 : decode b_Table_number 30 = .ok (.lreturn, 1) := by decide +kernel
theorem d_Table_writeScientific_0 : decode b_Table_writeScientific 0 = .ok (.iconst 1, 1) := by decide +kernel
theorem d_Table_writeScientific_1 : decode b_Table_writeScientific 1 = .ok (.istore_n 3, 1) := by decide +kernel
theorem d_Table_writeScientific_2 : decode b_Table_writeScientific 2 = .ok (.iconst 0, 1) := by decide +kernel
theorem d_Table_writeScientific_3 : decode b_Table_writeScientific 3 = .ok (.istore 4, 2) := by decide +kernel
theorem d_Table_writeScientific_5 : decode b_Table_writeScientific 5 = .ok (.aload_n 0, 1) := by decide +kernel
theorem d_Table_writeScientific_6 : decode b_Table_writeScientific 6 = .ok (.getfield 31, 3) := by decide +kernel
theorem d_Table_writeScientific_9 : decode b_Table_writeScientific 9 = .ok (.invokevirtual 57, 3) := by decide +kernel
theorem d_Table_writeScientific_12 : decode b_Table_writeScientific 12 = .ok (.iconst 0, 1) := by decide +kernel
theorem d_Table_writeScientific_13 : decode b_Table_writeScientific 13 = .ok (.istore 5, 2) := by decide +kernel
theorem d_Table_writeScientific_15 : decode b_Table_writeScientific 15 = .ok (.iload 5, 2) := by decide +kernel
theorem d_Table_writeScientific_17 : decode b_Table_writeScientific 17 = .ok (.aload_n 0, 1) := by decide +kernel
theorem d_Table_writeScientific_18 : decode b_Table_writeScientific 18 = .ok (.getfield 19, 3) := by decide +kernel
theorem d_Table_writeScientific_21 : decode b_Table_writeScientific 21 = .ok (.if_icmp .ge 92, 3) := by decide +kernel
theorem d_Table_writeScientific_24 : decode b_Table_writeScientific 24 = .ok (.iload 5, 2) := by decide +kernel
theorem d_Table_writeScientific_26 : decode b_Table_writeScientific 26 = .ok (.aload_n 0, 1) := by decide +kernel
theorem d_Table_writeScientific_27 : decode b_Table_writeScientific 27 = .ok (.getfield 35, 3) := by decide +kernel
theorem d_Table_writeScientific_30 : decode b_Table_writeScientific 30 = .ok (.arraylength, 1) := by decide +kernel
theorem d_Table_writeScientific_31 : decode b_Table_writeScientific 31 = .ok (.if_icmp .ge 82, 3) := by decide +kernel
theorem d_Table_writeScientific_34 : decode b_Table_writeScientific 34 = .ok (.aload_n 0, 1) := by decide +kernel
theorem d_Table_writeScientific_35 : decode b_Table_writeScientific 35 = .ok (.getfield 11, 3) := by decide +kernel
theorem d_Table_writeScientific_38 : decode b_Table_writeScientific 38 = .ok (.aload_n 0, 1) := by decide +kernel
theorem d_Table_writeScientific_39 : decode b_Table_writeScientific 39 = .ok (.getfield 31, 3) := by decide +kernel
theorem d_Table_writeScientific_42 : decode b_Table_writeScientific 42 = .ok (.aload_n 0, 1) := by decide +kernel
theorem d_Table_writeScientific_43 : decode b_Table_writeScientific 43 = .ok (.iload 5, 2) := by decide +kernel
theorem d_Table_writeScientific_45 : decode b_Table_writeScientific 45 = .ok (.iload_n 1, 1) := by decide +kernel
theorem d_Table_writeScientific_46 : decode b_Table_writeScientific 46 = .ok (.invokevirtual 60, 3) := by decide +kernel
theorem d_Table_writeScientific_49 : decode b_Table_writeScientific 49 = .ok (.iload_n 2, 1) := by decide +kernel
theorem d_Table_writeScientific_50 : decode b_Table_writeScientific 50 = .ok (.invokevirtual 64, 3) := by decide +kernel
theorem d_Table_writeScientific_53 : decode b_Table_writeScientific 53 = .ok (.aload_n 0, 1) := by decide +kernel
theorem d_Table_writeScientific_54 : decode b_Table_writeScientific 54 = .ok (.getfield 35, 3) := by decide +kernel
theorem d_Table_writeScientific_57 : decode b_Table_writeScientific 57 = .ok (.iload 5, 2) := by decide +kernel
theorem d_Table_writeScientific_59 : decode b_Table_writeScientific 59 = .ok (.aload_n 0, 1) := by decide +kernel
theorem d_Table_writeScientific_60 : decode b_Table_writeScientific 60 = .ok (.getfield 31, 3) := by decide +kernel
theorem d_Table_writeScientific_63 : decode b_Table_writeScientific 63 = .ok (.invokevirtual 70, 3) := by decide +kernel
theorem d_Table_writeScientific_66 : decode b_Table_writeScientific 66 = .ok (.iastore, 1) := by decide +kernel
theorem d_Table_writeScientific_67 : decode b_Table_writeScientific 67 = .ok (.iload_n 3, 1) := by decide +kernel
theorem d_Table_writeScientific_68 : decode b_Table_writeScientific 68 = .ok (.ifCond .eq 20, 3) := by decide +kernel
theorem d_Table_writeScientific_71 : decode b_Table_writeScientific 71 = .ok (.aload_n 0, 1) := by decide +kernel
theorem d_Table_writeScientific_72 : decode b_Table_writeScientific 72 = .ok (.getfield 11, 3) := by decide +kernel
theorem d_Table_writeScientific_75 : decode b_Table_writeScientific 75 = .ok (.invokevirtual 74, 3) := by decide +kernel
theorem d_Table_writeScientific_78 : decode b_Table_writeScientific 78 = .ok (.invokevirtual 78, 3) := by decide +kernel
theorem d_Table_writeScientific_81 : decode b_Table_writeScientific 81 = .ok (.ifCond .eq 7, 3) := by decide +kernel
theorem d_Table_writeScientific_84 : decode b_Table_writeScientific 84 = .ok (.iconst 1, 1) := by decide +kernel
theorem d_Table_writeScientific_85 : decode b_Table_writeScientific 85 = .ok (.goto 4, 3) := by decide +kernel
theorem d_Table_writeScientific_88 : decode b_Table_writeScientific 88 = .ok (.iconst 0, 1) := by decide +kernel
theorem d_Table_writeScientific_89 : decode b_Table_writeScientific 89 = .ok (.istore_n 3, 1) := by decide +kernel
theorem d_Table_writeScientific_90 : decode b_Table_writeScientific 90 = .ok (.iload 4, 2) := by decide +kernel
theorem d_Table_writeScientific_92 : decode b_Table_writeScientific 92 = .ok (.aload_n 0, 1) := by decide +kernel
theorem d_Table_writeScientific_93 : decode b_Table_writeScientific 93 = .ok (.getfield 11, 3) := by decide +kernel
theorem d_Table_writeScientific_96 : decode b_Table_writeScientific 96 = .ok (.invokevirtual 74, 3) := by decide +kernel
theorem d_Table_writeScientific_99 : decode b_Table_writeScientific 99 = .ok (.invokevirtual 84, 3) := by decide +kernel
theorem d_Table_writeScientific_102 : decode b_Table_writeScientific 102 = .ok (.invokestatic 87, 3) := by decide +kernel
theorem d_Table_writeScientific_105 : decode b_Table_writeScientific 105 = .ok (.istore 4, 2) := by decide +kernel
theorem d_Table_writeScientific_107 : decode b_Table_writeScientific 107 = .ok (.iinc 5 1, 3) := by decide +kernel
theorem d_Table_writeScientific_110 : decode b_Table_writeScientific 110 = .ok (.goto (-95), 3) := by decide +kernel
theorem d_Table_writeScientific_113 : decode b_Table_writeScientific 113 = .ok (.iload_n 3, 1) := by decide +kernel
theorem d_Table_writeScientific_114 : decode b_Table_writeScientific 114 = .ok (.ifCond .eq 8, 3) := by decide +kernel
theorem d_Table_writeScientific_117 : decode b_Table_writeScientific 117 = .ok (.iload 4, 2) := by decide +kernel
theorem d_Table_writeScientific_119 : decode b_Table_writeScientific 119 = .ok (.goto 4, 3) := by decide +kernel
theorem d_Table_writeScientific_122 : decode b_Table_writeScientific 122 = .ok (.iconst (-1), 1) := by decide +kernel
theorem d_Table_writeScientific_123 : decode b_Table_writeScientific 123 = .ok (.ireturn, 1) := by decide +kernel
theorem d_Table_writeToPlaces_0 : decode b_Table_writeToPlaces 0 = .ok (.aload_n 0, 1) := by decide +kernel
theorem d_Table_writeToPlaces_1 : decode b_Table_writeToPlaces 1 = .ok (.getfield 31, 3) := by decide +kernel
theorem d_Table_writeToPlaces_4 : decode b_Table_writeToPlaces 4 = .ok (.invokevirtual 57, 3) := by decide +kernel
theorem d_Table_writeToPlaces_7 : decode b_Table_writeToPlaces 7 = .ok (.iconst 0, 1) := by decide +kernel
theorem d_Table_writeToPlaces_8 : decode b_Table_writeToPlaces 8 = .ok (.istore_n 3, 1) := by decide +kernel
theorem d_Table_writeToPlaces_9 : decode b_Table_writeToPlaces 9 = .ok (.iload_n 3, 1) := by decide +kernel
theorem d_Table_writeToPlaces_10 : decode b_Table_writeToPlaces 10 = .ok (.aload_n 0, 1) := by decide +kernel
theorem d_Table_writeToPlaces_11 : decode b_Table_writeToPlaces 11 = .ok (.getfield 19, 3) := by decide +kernel
theorem d_Table_writeToPlaces_14 : decode b_Table_writeToPlaces 14 = .ok (.if_icmp .ge 49, 3) := by decide +kernel
theorem d_Table_writeToPlaces_17 : decode b_Table_writeToPlaces 17 = .ok (.iload_n 3, 1) := by decide +kernel
theorem d_Table_writeToPlaces_18 : decode b_Table_writeToPlaces 18 = .ok (.aload_n 0, 1) := by decide +kernel
theorem d_Table_writeToPlaces_19 : decode b_Table_writeToPlaces 19 = .ok (.getfield 35, 3) := by decide +kernel
theorem d_Table_writeToPlaces_22 : decode b_Table_writeToPlaces 22 = .ok (.arraylength, 1) := by decide +kernel
theorem d_Table_writeToPlaces_23 : decode b_Table_writeToPlaces 23 = .ok (.if_icmp .ge 40, 3) := by decide +kernel
theorem d_Table_writeToPlaces_26 : decode b_Table_writeToPlaces 26 = .ok (.aload_n 0, 1) := by decide +kernel
theorem d_Table_writeToPlaces_27 : decode b_Table_writeToPlaces 27 = .ok (.getfield 11, 3) := by decide +kernel
theorem d_Table_writeToPlaces_30 : decode b_Table_writeToPlaces 30 = .ok (.aload_n 0, 1) := by decide +kernel
theorem d_Table_writeToPlaces_31 : decode b_Table_writeToPlaces 31 = .ok (.getfield 31, 3) := by decide +kernel
theorem d_Table_writeToPlaces_34 : decode b_Table_writeToPlaces 34 = .ok (.aload_n 0, 1) := by decide +kernel
theorem d_Table_writeToPlaces_35 : decode b_Table_writeToPlaces 35 = .ok (.iload_n 3, 1) := by decide +kernel
theorem d_Table_writeToPlaces_36 : decode b_Table_writeToPlaces 36 = .ok (.iload_n 1, 1) := by decide +kernel
theorem d_Table_writeToPlaces_37 : decode b_Table_writeToPlaces 37 = .ok (.invokevirtual 60, 3) := by decide +kernel
theorem d_Table_writeToPlaces_40 : decode b_Table_writeToPlaces 40 = .ok (.iload_n 2, 1) := by decide +kernel
theorem d_Table_writeToPlaces_41 : decode b_Table_writeToPlaces 41 = .ok (.invokevirtual 92, 3) := by decide +kernel
theorem d_Table_writeToPlaces_44 : decode b_Table_writeToPlaces 44 = .ok (.aload_n 0, 1) := by decide +kernel
theorem d_Table_writeToPlaces_45 : decode b_Table_writeToPlaces 45 = .ok (.getfield 35, 3) := by decide +kernel
theorem d_Table_writeToPlaces_48 : decode b_Table_writeToPlaces 48 = .ok (.iload_n 3, 1) := by decide +kernel
theorem d_Table_writeToPlaces_49 : decode b_Table_writeToPlaces 49 = .ok (.aload_n 0, 1) := by decide +kernel
theorem d_Table_writeToPlaces_50 : decode b_Table_writeToPlaces 50 = .ok (.getfield 31, 3) := by decide +kernel
theorem d_Table_writeToPlaces_53 : decode b_Table_writeToPlaces 53 = .ok (.invokevirtual 70, 3) := by decide +kernel
theorem d_Table_writeToPlaces_56 : decode b_Table_writeToPlaces 56 = .ok (.iastore, 1) := by decide +kernel
theorem d_Table_writeToPlaces_57 : decode b_Table_writeToPlaces 57 = .ok (.iinc 3 1, 3) := by decide +kernel
theorem d_Table_writeToPlaces_60 : decode b_Table_writeToPlaces 60 = .ok (.goto (-51), 3) := by decide +kernel
theorem d_Table_writeToPlaces_63 : decode b_Table_writeToPlaces 63 = .ok (.return_, 1) := by decide +kernel
theorem d_Table_endOf_0 : decode b_Table_endOf 0 = .ok (.iload_n 1, 1) := by decide +kernel
theorem d_Table_endOf_1 : decode b_Table_endOf 1 = .ok (.ifCond .lt 21, 3) := by decide +kernel
theorem d_Table_endOf_4 : decode b_Table_endOf 4 = .ok (.iload_n 1, 1) := by decide +kernel
theorem d_Table_endOf_5 : decode b_Table_endOf 5 = .ok (.aload_n 0, 1) := by decide +kernel
theorem d_Table_endOf_6 : decode b_Table_endOf 6 = .ok (.getfield 35, 3) := by decide +kernel
theorem d_Table_endOf_9 : decode b_Table_endOf 9 = .ok (.arraylength, 1) := by decide +kernel
theorem d_Table_endOf_10 : decode b_Table_endOf 10 = .ok (.if_icmp .ge 12, 3) := by decide +kernel
theorem d_Table_endOf_13 : decode b_Table_endOf 13 = .ok (.aload_n 0, 1) := by decide +kernel
theorem d_Table_endOf_14 : decode b_Table_endOf 14 = .ok (.getfield 35, 3) := by decide +kernel
theorem d_Table_endOf_17 : decode b_Table_endOf 17 = .ok (.iload_n 1, 1) := by decide +kernel
theorem d_Table_endOf_18 : decode b_Table_endOf 18 = .ok (.iaload, 1) := by decide +kernel
theorem d_Table_endOf_19 : decode b_Table_endOf 19 = .ok (.goto 4, 3) := by decide +kernel
theorem d_Table_endOf_22 : decode b_Table_endOf 22 = .ok (.iconst 0, 1) := by decide +kernel
theorem d_Table_endOf_23 : decode b_Table_endOf 23 = .ok (.ireturn, 1) := by decide +kernel
theorem d_Table_putLineCharacter_0 : decode b_Table_putLineCharacter 0 = .ok (.iload_n 1, 1) := by decide +kernel
theorem d_Table_putLineCharacter_1 : decode b_Table_putLineCharacter 1 = .ok (.sipush 320, 3) := by decide +kernel
theorem d_Table_putLineCharacter_4 : decode b_Table_putLineCharacter 4 = .ok (.imul, 1) := by decide +kernel
theorem d_Table_putLineCharacter_5 : decode b_Table_putLineCharacter 5 = .ok (.iload_n 2, 1) := by decide +kernel
theorem d_Table_putLineCharacter_6 : decode b_Table_putLineCharacter 6 = .ok (.iadd, 1) := by decide +kernel
theorem d_Table_putLineCharacter_7 : decode b_Table_putLineCharacter 7 = .ok (.istore 4, 2) := by decide +kernel
theorem d_Table_putLineCharacter_9 : decode b_Table_putLineCharacter 9 = .ok (.iload 4, 2) := by decide +kernel
theorem d_Table_putLineCharacter_11 : decode b_Table_putLineCharacter 11 = .ok (.ifCond .lt 22, 3) := by decide +kernel
theorem d_Table_putLineCharacter_14 : decode b_Table_putLineCharacter 14 = .ok (.iload 4, 2) := by decide +kernel
theorem d_Table_putLineCharacter_16 : decode b_Table_putLineCharacter 16 = .ok (.aload_n 0, 1) := by decide +kernel
theorem d_Table_putLineCharacter_17 : decode b_Table_putLineCharacter 17 = .ok (.getfield 39, 3) := by decide +kernel
theorem d_Table_putLineCharacter_20 : decode b_Table_putLineCharacter 20 = .ok (.arraylength, 1) := by decide +kernel
theorem d_Table_putLineCharacter_21 : decode b_Table_putLineCharacter 21 = .ok (.if_icmp .ge 12, 3) := by decide +kernel
theorem d_Table_putLineCharacter_24 : decode b_Table_putLineCharacter 24 = .ok (.aload_n 0, 1) := by decide +kernel
theorem d_Table_putLineCharacter_25 : decode b_Table_putLineCharacter 25 = .ok (.getfield 39, 3) := by decide +kernel
theorem d_Table_putLineCharacter_28 : decode b_Table_putLineCharacter 28 = .ok (.iload 4, 2) := by decide +kernel
theorem d_Table_putLineCharacter_30 : decode b_Table_putLineCharacter 30 = .ok (.iload_n 3, 1) := by decide +kernel
theorem d_Table_putLineCharacter_31 : decode b_Table_putLineCharacter 31 = .ok (.i2b, 1) := by decide +kernel
theorem d_Table_putLineCharacter_32 : decode b_Table_putLineCharacter 32 = .ok (.bastore, 1) := by decide +kernel
theorem d_Table_putLineCharacter_33 : decode b_Table_putLineCharacter 33 = .ok (.return_, 1) := by decide +kernel
theorem d_Table_addColumn_0 : decode b_Table_addColumn 0 = .ok (.iconst 0, 1) := by decide +kernel
theorem d_Table_addColumn_1 : decode b_Table_addColumn 1 = .ok (.istore_n 2, 1) := by decide +kernel
theorem d_Table_addColumn_2 : decode b_Table_addColumn 2 = .ok (.iconst 0, 1) := by decide +kernel
theorem d_Table_addColumn_3 : decode b_Table_addColumn 3 = .ok (.istore_n 3, 1) := by decide +kernel
theorem d_Table_addColumn_4 : decode b_Table_addColumn 4 = .ok (.iload_n 3, 1) := by decide +kernel
theorem d_Table_addColumn_5 : decode b_Table_addColumn 5 = .ok (.aload_n 0, 1) := by decide +kernel
theorem d_Table_addColumn_6 : decode b_Table_addColumn 6 = .ok (.getfield 19, 3) := by decide +kernel
theorem d_Table_addColumn_9 : decode b_Table_addColumn 9 = .ok (.if_icmp .ge 27, 3) := by decide +kernel
theorem d_Table_addColumn_12 : decode b_Table_addColumn 12 = .ok (.iload_n 2, 1) := by decide +kernel
theorem d_Table_addColumn_13 : decode b_Table_addColumn 13 = .ok (.aload_n 0, 1) := by decide +kernel
theorem d_Table_addColumn_14 : decode b_Table_addColumn 14 = .ok (.iload_n 3, 1) := by decide +kernel
theorem d_Table_addColumn_15 : decode b_Table_addColumn 15 = .ok (.invokevirtual 95, 3) := by decide +kernel
theorem d_Table_addColumn_18 : decode b_Table_addColumn 18 = .ok (.aload_n 0, 1) := by decide +kernel
theorem d_Table_addColumn_19 : decode b_Table_addColumn 19 = .ok (.iload_n 3, 1) := by decide +kernel
theorem d_Table_addColumn_20 : decode b_Table_addColumn 20 = .ok (.iconst 1, 1) := by decide +kernel
theorem d_Table_addColumn_21 : decode b_Table_addColumn 21 = .ok (.isub, 1) := by decide +kernel
theorem d_Table_addColumn_22 : decode b_Table_addColumn 22 = .ok (.invokevirtual 95, 3) := by decide +kernel
theorem d_Table_addColumn_25 : decode b_Table_addColumn 25 = .ok (.isub, 1) := by decide +kernel
theorem d_Table_addColumn_26 : decode b_Table_addColumn 26 = .ok (.invokestatic 87, 3) := by decide +kernel
theorem d_Table_addColumn_29 : decode b_Table_addColumn 29 = .ok (.istore_n 2, 1) := by decide +kernel
theorem d_Table_addColumn_30 : decode b_Table_addColumn 30 = .ok (.iinc 3 1, 3) := by decide +kernel
theorem d_Table_addColumn_33 : decode b_Table_addColumn 33 = .ok (.goto (-29), 3) := by decide +kernel
theorem d_Table_addColumn_36 : decode b_Table_addColumn 36 = .ok (.aload_n 0, 1) := by decide +kernel
theorem d_Table_addColumn_37 : decode b_Table_addColumn 37 = .ok (.getfield 43, 3) := by decide +kernel
theorem d_Table_addColumn_40 : decode b_Table_addColumn 40 = .ok (.iload_n 1, 1) := by decide +kernel
theorem d_Table_addColumn_41 : decode b_Table_addColumn 41 = .ok (.iadd, 1) := by decide +kernel
theorem d_Table_addColumn_42 : decode b_Table_addColumn 42 = .ok (.iload_n 2, 1) := by decide +kernel
theorem d_Table_addColumn_43 : decode b_Table_addColumn 43 = .ok (.iadd, 1) := by decide +kernel
theorem d_Table_addColumn_44 : decode b_Table_addColumn 44 = .ok (.istore_n 3, 1) := by decide +kernel
theorem d_Table_addColumn_45 : decode b_Table_addColumn 45 = .ok (.iconst 0, 1) := by decide +kernel
theorem d_Table_addColumn_46 : decode b_Table_addColumn 46 = .ok (.istore 4, 2) := by decide +kernel
theorem d_Table_addColumn_48 : decode b_Table_addColumn 48 = .ok (.iload 4, 2) := by decide +kernel
theorem d_Table_addColumn_50 : decode b_Table_addColumn 50 = .ok (.aload_n 0, 1) := by decide +kernel
theorem d_Table_addColumn_51 : decode b_Table_addColumn 51 = .ok (.getfield 19, 3) := by decide +kernel
theorem d_Table_addColumn_54 : decode b_Table_addColumn 54 = .ok (.if_icmp .ge 88, 3) := by decide +kernel
theorem d_Table_addColumn_57 : decode b_Table_addColumn 57 = .ok (.iload_n 3, 1) := by decide +kernel
theorem d_Table_addColumn_58 : decode b_Table_addColumn 58 = .ok (.aload_n 0, 1) := by decide +kernel
theorem d_Table_addColumn_59 : decode b_Table_addColumn 59 = .ok (.iload 4, 2) := by decide +kernel
theorem d_Table_addColumn_61 : decode b_Table_addColumn 61 = .ok (.invokevirtual 95, 3) := by decide +kernel
theorem d_Table_addColumn_64 : decode b_Table_addColumn 64 = .ok (.aload_n 0, 1) := by decide +kernel
theorem d_Table_addColumn_65 : decode b_Table_addColumn 65 = .ok (.iload 4, 2) := by decide +kernel
theorem d_Table_addColumn_67 : decode b_Table_addColumn 67 = .ok (.iconst 1, 1) := by decide +kernel
theorem d_Table_addColumn_68 : decode b_Table_addColumn 68 = .ok (.isub, 1) := by decide +kernel
theorem d_Table_addColumn_69 : decode b_Table_addColumn 69 = .ok (.invokevirtual 95, 3) := by decide +kernel
theorem d_Table_addColumn_72 : decode b_Table_addColumn 72 = .ok (.isub, 1) := by decide +kernel
theorem d_Table_addColumn_73 : decode b_Table_addColumn 73 = .ok (.isub, 1) := by decide +kernel
theorem d_Table_addColumn_74 : decode b_Table_addColumn 74 = .ok (.istore 5, 2) := by decide +kernel
theorem d_Table_addColumn_76 : decode b_Table_addColumn 76 = .ok (.aload_n 0, 1) := by decide +kernel
theorem d_Table_addColumn_77 : decode b_Table_addColumn 77 = .ok (.getfield 43, 3) := by decide +kernel
theorem d_Table_addColumn_80 : decode b_Table_addColumn 80 = .ok (.istore 6, 2) := by decide +kernel
theorem d_Table_addColumn_82 : decode b_Table_addColumn 82 = .ok (.iload 6, 2) := by decide +kernel
theorem d_Table_addColumn_84 : decode b_Table_addColumn 84 = .ok (.iload_n 3, 1) := by decide +kernel
theorem d_Table_addColumn_85 : decode b_Table_addColumn 85 = .ok (.if_icmp .ge 51, 3) := by decide +kernel
theorem d_Table_addColumn_88 : decode b_Table_addColumn 88 = .ok (.iload 6, 2) := by decide +kernel
theorem d_Table_addColumn_90 : decode b_Table_addColumn 90 = .ok (.iload 5, 2) := by decide +kernel
theorem d_Table_addColumn_92 : decode b_Table_addColumn 92 = .ok (.if_icmp .ge 8, 3) := by decide +kernel
theorem d_Table_addColumn_95 : decode b_Table_addColumn 95 = .ok (.bipush 32, 2) := by decide +kernel
theorem d_Table_addColumn_97 : decode b_Table_addColumn 97 = .ok (.goto 21, 3) := by decide +kernel
theorem d_Table_addColumn_100 : decode b_Table_addColumn 100 = .ok (.aload_n 0, 1) := by decide +kernel
theorem d_Table_addColumn_101 : decode b_Table_addColumn 101 = .ok (.getfield 31, 3) := by decide +kernel
theorem d_Table_addColumn_104 : decode b_Table_addColumn 104 = .ok (.aload_n 0, 1) := by decide +kernel
theorem d_Table_addColumn_105 : decode b_Table_addColumn 105 = .ok (.iload 4, 2) := by decide +kernel
theorem d_Table_addColumn_107 : decode b_Table_addColumn 107 = .ok (.invokevirtual 95, 3) := by decide +kernel
theorem d_Table_addColumn_110 : decode b_Table_addColumn 110 = .ok (.iload_n 3, 1) := by decide +kernel
theorem d_Table_addColumn_111 : decode b_Table_addColumn 111 = .ok (.isub, 1) := by decide +kernel
theorem d_Table_addColumn_112 : decode b_Table_addColumn 112 = .ok (.iload 6, 2) := by decide +kernel
theorem d_Table_addColumn_114 : decode b_Table_addColumn 114 = .ok (.iadd, 1) := by decide +kernel
theorem d_Table_addColumn_115 : decode b_Table_addColumn 115 = .ok (.invokevirtual 99, 3) := by decide +kernel
theorem d_Table_addColumn_118 : decode b_Table_addColumn 118 = .ok (.istore 7, 2) := by decide +kernel
theorem d_Table_addColumn_120 : decode b_Table_addColumn 120 = .ok (.aload_n 0, 1) := by decide +kernel
theorem d_Table_addColumn_121 : decode b_Table_addColumn 121 = .ok (.iload 4, 2) := by decide +kernel
theorem d_Table_addColumn_123 : decode b_Table_addColumn 123 = .ok (.iload 6, 2) := by decide +kernel
theorem d_Table_addColumn_125 : decode b_Table_addColumn 125 = .ok (.iload 7, 2) := by decide +kernel
theorem d_Table_addColumn_127 : decode b_Table_addColumn 127 = .ok (.invokevirtual 102, 3) := by decide +kernel
theorem d_Table_addColumn_130 : decode b_Table_addColumn 130 = .ok (.iinc 6 1, 3) := by decide +kernel
theorem d_Table_addColumn_133 : decode b_Table_addColumn 133 = .ok (.goto (-51), 3) := by decide +kernel
theorem d_Table_addColumn_136 : decode b_Table_addColumn 136 = .ok (.iinc 4 1, 3) := by decide +kernel
theorem d_Table_addColumn_139 : decode b_Table_addColumn 139 = .ok (.goto (-91), 3) := by decide +kernel
theorem d_Table_addColumn_142 : decode b_Table_addColumn 142 = .ok (.aload_n 0, 1) := by decide +kernel
theorem d_Table_addColumn_143 : decode b_Table_addColumn 143 = .ok (.iload_n 3, 1) := by decide +kernel
theorem d_Table_addColumn_144 : decode b_Table_addColumn 144 = .ok (.putfield 43, 3) := by decide +kernel
theorem d_Table_addColumn_147 : decode b_Table_addColumn 147 = .ok (.return_, 1) := by decide +kernel
theorem d_Table_layOut_0 : decode b_Table_layOut 0 = .ok (.aload_n 0, 1) := by decide +kernel
theorem d_Table_layOut_1 : decode b_Table_layOut 1 = .ok (.iconst 0, 1) := by decide +kernel
theorem d_Table_layOut_2 : decode b_Table_layOut 2 = .ok (.putfield 43, 3) := by decide +kernel
theorem d_Table_layOut_5 : decode b_Table_layOut 5 = .ok (.iconst 0, 1) := by decide +kernel
theorem d_Table_layOut_6 : decode b_Table_layOut 6 = .ok (.istore_n 2, 1) := by decide +kernel
theorem d_Table_layOut_7 : decode b_Table_layOut 7 = .ok (.iload_n 2, 1) := by decide +kernel
theorem d_Table_layOut_8 : decode b_Table_layOut 8 = .ok (.aload_n 0, 1) := by decide +kernel
theorem d_Table_layOut_9 : decode b_Table_layOut 9 = .ok (.getfield 23, 3) := by decide +kernel
theorem d_Table_layOut_12 : decode b_Table_layOut 12 = .ok (.if_icmp .ge 40, 3) := by decide +kernel
theorem d_Table_layOut_15 : decode b_Table_layOut 15 = .ok (.aload_n 0, 1) := by decide +kernel
theorem d_Table_layOut_16 : decode b_Table_layOut 16 = .ok (.iload_n 2, 1) := by decide +kernel
theorem d_Table_layOut_17 : decode b_Table_layOut 17 = .ok (.iload_n 1, 1) := by decide +kernel
theorem d_Table_layOut_18 : decode b_Table_layOut 18 = .ok (.invokevirtual 46, 3) := by decide +kernel
theorem d_Table_layOut_21 : decode b_Table_layOut 21 = .ok (.istore_n 3, 1) := by decide +kernel
theorem d_Table_layOut_22 : decode b_Table_layOut 22 = .ok (.iload_n 3, 1) := by decide +kernel
theorem d_Table_layOut_23 : decode b_Table_layOut 23 = .ok (.iconst (-1), 1) := by decide +kernel
theorem d_Table_layOut_24 : decode b_Table_layOut 24 = .ok (.if_icmp .eq 9, 3) := by decide +kernel
theorem d_Table_layOut_27 : decode b_Table_layOut 27 = .ok (.aload_n 0, 1) := by decide +kernel
theorem d_Table_layOut_28 : decode b_Table_layOut 28 = .ok (.iload_n 2, 1) := by decide +kernel
theorem d_Table_layOut_29 : decode b_Table_layOut 29 = .ok (.iload_n 3, 1) := by decide +kernel
theorem d_Table_layOut_30 : decode b_Table_layOut 30 = .ok (.invokevirtual 50, 3) := by decide +kernel
theorem d_Table_layOut_33 : decode b_Table_layOut 33 = .ok (.aload_n 0, 1) := by decide +kernel
theorem d_Table_layOut_34 : decode b_Table_layOut 34 = .ok (.iload_n 2, 1) := by decide +kernel
theorem d_Table_layOut_35 : decode b_Table_layOut 35 = .ok (.ifCond .le 7, 3) := by decide +kernel
theorem d_Table_layOut_38 : decode b_Table_layOut 38 = .ok (.iconst 2, 1) := by decide +kernel
theorem d_Table_layOut_39 : decode b_Table_layOut 39 = .ok (.goto 4, 3) := by decide +kernel
theorem d_Table_layOut_42 : decode b_Table_layOut 42 = .ok (.iconst 0, 1) := by decide +kernel
theorem d_Table_layOut_43 : decode b_Table_layOut 43 = .ok (.invokevirtual 54, 3) := by decide +kernel
theorem d_Table_layOut_46 : decode b_Table_layOut 46 = .ok (.iinc 2 1, 3) := by decide +kernel
theorem d_Table_layOut_49 : decode b_Table_layOut 49 = .ok (.goto (-42), 3) := by decide +kernel
theorem d_Table_layOut_52 : decode b_Table_layOut 52 = .ok (.aload_n 0, 1) := by decide +kernel
theorem d_Table_layOut_53 : decode b_Table_layOut 53 = .ok (.getfield 43, 3) := by decide +kernel
theorem d_Table_layOut_56 : decode b_Table_layOut 56 = .ok (.ireturn, 1) := by decide +kernel
theorem d_Table_lineCharacter_0 : decode b_Table_lineCharacter 0 = .ok (.iload_n 1, 1) := by decide +kernel
theorem d_Table_lineCharacter_1 : decode b_Table_lineCharacter 1 = .ok (.ifCond .lt 23, 3) := by decide +kernel
theorem d_Table_lineCharacter_4 : decode b_Table_lineCharacter 4 = .ok (.iload_n 1, 1) := by decide +kernel
theorem d_Table_lineCharacter_5 : decode b_Table_lineCharacter 5 = .ok (.aload_n 0, 1) := by decide +kernel
theorem d_Table_lineCharacter_6 : decode b_Table_lineCharacter 6 = .ok (.getfield 19, 3) := by decide +kernel
theorem d_Table_lineCharacter_9 : decode b_Table_lineCharacter 9 = .ok (.if_icmp .ge 15, 3) := by decide +kernel
theorem d_Table_lineCharacter_12 : decode b_Table_lineCharacter 12 = .ok (.iload_n 2, 1) := by decide +kernel
theorem d_Table_lineCharacter_13 : decode b_Table_lineCharacter 13 = .ok (.ifCond .lt 11, 3) := by decide +kernel
theorem d_Table_lineCharacter_16 : decode b_Table_lineCharacter 16 = .ok (.iload_n 2, 1) := by decide +kernel
theorem d_Table_lineCharacter_17 : decode b_Table_lineCharacter 17 = .ok (.aload_n 0, 1) := by decide +kernel
theorem d_Table_lineCharacter_18 : decode b_Table_lineCharacter 18 = .ok (.getfield 43, 3) := by decide +kernel
theorem d_Table_lineCharacter_21 : decode b_Table_lineCharacter 21 = .ok (.if_icmp .lt 5, 3) := by decide +kernel
theorem d_Table_lineCharacter_24 : decode b_Table_lineCharacter 24 = .ok (.iconst (-1), 1) := by decide +kernel
theorem d_Table_lineCharacter_25 : decode b_Table_lineCharacter 25 = .ok (.ireturn, 1) := by decide +kernel
theorem d_Table_lineCharacter_26 : decode b_Table_lineCharacter 26 = .ok (.iload_n 1, 1) := by decide +kernel
theorem d_Table_lineCharacter_27 : decode b_Table_lineCharacter 27 = .ok (.sipush 320, 3) := by decide +kernel
theorem d_Table_lineCharacter_30 : decode b_Table_lineCharacter 30 = .ok (.imul, 1) := by decide +kernel
theorem d_Table_lineCharacter_31 : decode b_Table_lineCharacter 31 = .ok (.iload_n 2, 1) := by decide +kernel
theorem d_Table_lineCharacter_32 : decode b_Table_lineCharacter 32 = .ok (.iadd, 1) := by decide +kernel
theorem d_Table_lineCharacter_33 : decode b_Table_lineCharacter 33 = .ok (.istore_n 3, 1) := by decide +kernel
theorem d_Table_lineCharacter_34 : decode b_Table_lineCharacter 34 = .ok (.iload_n 3, 1) := by decide +kernel
theorem d_Table_lineCharacter_35 : decode b_Table_lineCharacter 35 = .ok (.ifCond .lt 21, 3) := by decide +kernel
theorem d_Table_lineCharacter_38 : decode b_Table_lineCharacter 38 = .ok (.iload_n 3, 1) := by decide +kernel
theorem d_Table_lineCharacter_39 : decode b_Table_lineCharacter 39 = .ok (.aload_n 0, 1) := by decide +kernel
theorem d_Table_lineCharacter_40 : decode b_Table_lineCharacter 40 = .ok (.getfield 39, 3) := by decide +kernel
theorem d_Table_lineCharacter_43 : decode b_Table_lineCharacter 43 = .ok (.arraylength, 1) := by decide +kernel
theorem d_Table_lineCharacter_44 : decode b_Table_lineCharacter 44 = .ok (.if_icmp .ge 12, 3) := by decide +kernel
theorem d_Table_lineCharacter_47 : decode b_Table_lineCharacter 47 = .ok (.aload_n 0, 1) := by decide +kernel
theorem d_Table_lineCharacter_48 : decode b_Table_lineCharacter 48 = .ok (.getfield 39, 3) := by decide +kernel
theorem d_Table_lineCharacter_51 : decode b_Table_lineCharacter 51 = .ok (.iload_n 3, 1) := by decide +kernel
theorem d_Table_lineCharacter_52 : decode b_Table_lineCharacter 52 = .ok (.baload, 1) := by decide +kernel
theorem d_Table_lineCharacter_53 : decode b_Table_lineCharacter 53 = .ok (.goto 4, 3) := by decide +kernel
theorem d_Table_lineCharacter_56 : decode b_Table_lineCharacter 56 = .ok (.iconst (-1), 1) := by decide +kernel
theorem d_Table_lineCharacter_57 : decode b_Table_lineCharacter 57 = .ok (.ireturn, 1) := by decide +kernel
