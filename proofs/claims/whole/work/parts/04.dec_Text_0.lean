theorem d_Text_length_0 : decode b_Text_length 0 = .ok (.aload_n 0, 1) := by decide +kernel
theorem d_Text_length_1 : decode b_Text_length 1 = .ok (.getfield 21, 3) := by decide +kernel
theorem d_Text_length_4 : decode b_Text_length 4 = .ok (.ireturn, 1) := by decide +kernel
theorem d_Text_add_0 : decode b_Text_add 0 = .ok (.aload_n 0, 1) := by decide +kernel
theorem d_Text_add_1 : decode b_Text_add 1 = .ok (.getfield 21, 3) := by decide +kernel
theorem d_Text_add_4 : decode b_Text_add 4 = .ok (.aload_n 0, 1) := by decide +kernel
theorem d_Text_add_5 : decode b_Text_add 5 = .ok (.getfield 15, 3) := by decide +kernel
theorem d_Text_add_8 : decode b_Text_add 8 = .ok (.arraylength, 1) := by decide +kernel
theorem d_Text_add_9 : decode b_Text_add 9 = .ok (.if_icmp .ge 24, 3) := by decide +kernel
theorem d_Text_add_12 : decode b_Text_add 12 = .ok (.aload_n 0, 1) := by decide +kernel
theorem d_Text_add_13 : decode b_Text_add 13 = .ok (.getfield 15, 3) := by decide +kernel
theorem d_Text_add_16 : decode b_Text_add 16 = .ok (.aload_n 0, 1) := by decide +kernel
theorem d_Text_add_17 : decode b_Text_add 17 = .ok (.getfield 21, 3) := by decide +kernel
theorem d_Text_add_20 : decode b_Text_add 20 = .ok (.iload_n 1, 1) := by decide +kernel
theorem d_Text_add_21 : decode b_Text_add 21 = .ok (.i2b, 1) := by decide +kernel
theorem d_Text_add_22 : decode b_Text_add 22 = .ok (.bastore, 1) := by decide +kernel
theorem d_Text_add_23 : decode b_Text_add 23 = .ok (.aload_n 0, 1) := by decide +kernel
theorem d_Text_add_24 : decode b_Text_add 24 = .ok (.dup, 1) := by decide +kernel
theorem d_Text_add_25 : decode b_Text_add 25 = .ok (.getfield 21, 3) := by decide +kernel
theorem d_Text_add_28 : decode b_Text_add 28 = .ok (.iconst 1, 1) := by decide +kernel
theorem d_Text_add_29 : decode b_Text_add 29 = .ok (.iadd, 1) := by decide +kernel
theorem d_Text_add_30 : decode b_Text_add 30 = .ok (.putfield 21, 3) := by decide +kernel
theorem d_Text_add_33 : decode b_Text_add 33 = .ok (.return_, 1) := by decide +kernel
theorem d_Text_clear_0 : decode b_Text_clear 0 = .ok (.aload_n 0, 1) := by decide +kernel
theorem d_Text_clear_1 : decode b_Text_clear 1 = .ok (.iconst 0, 1) := by decide +kernel
theorem d_Text_clear_2 : decode b_Text_clear 2 = .ok (.putfield 21, 3) := by decide +kernel
theorem d_Text_clear_5 : decode b_Text_clear 5 = .ok (.return_, 1) := by decide +kernel
theorem d_Text_at_0 : decode b_Text_at 0 = .ok (.iload_n 1, 1) := by decide +kernel
theorem d_Text_at_1 : decode b_Text_at 1 = .ok (.ifCond .lt 29, 3) := by decide +kernel
theorem d_Text_at_4 : decode b_Text_at 4 = .ok (.iload_n 1, 1) := by decide +kernel
theorem d_Text_at_5 : decode b_Text_at 5 = .ok (.aload_n 0, 1) := by decide +kernel
theorem d_Text_at_6 : decode b_Text_at 6 = .ok (.getfield 21, 3) := by decide +kernel
theorem d_Text_at_9 : decode b_Text_at 9 = .ok (.if_icmp .ge 21, 3) := by decide +kernel
theorem d_Text_at_12 : decode b_Text_at 12 = .ok (.iload_n 1, 1) := by decide +kernel
theorem d_Text_at_13 : decode b_Text_at 13 = .ok (.aload_n 0, 1) := by decide +kernel
theorem d_Text_at_14 : decode b_Text_at 14 = .ok (.getfield 15, 3) := by decide +kernel
theorem d_Text_at_17 : decode b_Text_at 17 = .ok (.arraylength, 1) := by decide +kernel
theorem d_Text_at_18 : decode b_Text_at 18 = .ok (.if_icmp .ge 12, 3) := by decide +kernel
theorem d_Text_at_21 : decode b_Text_at 21 = .ok (.aload_n 0, 1) := by decide +kernel
theorem d_Text_at_22 : decode b_Text_at 22 = .ok (.getfield 15, 3) := by decide +kernel
theorem d_Text_at_25 : decode b_Text_at 25 = .ok (.iload_n 1, 1) := by decide +kernel
theorem d_Text_at_26 : decode b_Text_at 26 = .ok (.baload, 1) := by decide +kernel
theorem d_Text_at_27 : decode b_Text_at 27 = .ok (.goto 4, 3) := by decide +kernel
theorem d_Text_at_30 : decode b_Text_at 30 = .ok (.iconst (-1), 1) := by decide +kernel
theorem d_Text_at_31 : decode b_Text_at 31 = .ok (.ireturn, 1) := by decide +kernel
theorem d_Text_addWord_0 : decode b_Text_addWord 0 = .ok (.aload_n 0, 1) := by decide +kernel
theorem d_Text_addWord_1 : decode b_Text_addWord 1 = .ok (.iload_n 1, 1) := by decide +kernel
theorem d_Text_addWord_2 : decode b_Text_addWord 2 = .ok (.invokevirtual 25, 3) := by decide +kernel
theorem d_Text_addWord_5 : decode b_Text_addWord 5 = .ok (.aload_n 0, 1) := by decide +kernel
theorem d_Text_addWord_6 : decode b_Text_addWord 6 = .ok (.iload_n 2, 1) := by decide +kernel
theorem d_Text_addWord_7 : decode b_Text_addWord 7 = .ok (.invokevirtual 25, 3) := by decide +kernel
theorem d_Text_addWord_10 : decode b_Text_addWord 10 = .ok (.aload_n 0, 1) := by decide +kernel
theorem d_Text_addWord_11 : decode b_Text_addWord 11 = .ok (.iload_n 3, 1) := by decide +kernel
theorem d_Text_addWord_12 : decode b_Text_addWord 12 = .ok (.invokevirtual 25, 3) := by decide +kernel
theorem d_Text_addWord_15 : decode b_Text_addWord 15 = .ok (.return_, 1) := by decide +kernel
theorem d_Text_addNumber_0 : decode b_Text_addNumber 0 = .ok (.iload_n 1, 1) := by decide +kernel
theorem d_Text_addNumber_1 : decode b_Text_addNumber 1 = .ok (.istore_n 2, 1) := by decide +kernel
theorem d_Text_addNumber_2 : decode b_Text_addNumber 2 = .ok (.iload_n 2, 1) := by decide +kernel
theorem d_Text_addNumber_3 : decode b_Text_addNumber 3 = .ok (.ifCond .ge 12, 3) := by decide +kernel
theorem d_Text_addNumber_6 : decode b_Text_addNumber 6 = .ok (.aload_n 0, 1) := by decide +kernel
theorem d_Text_addNumber_7 : decode b_Text_addNumber 7 = .ok (.bipush 45, 2) := by decide +kernel
theorem d_Text_addNumber_9 : decode b_Text_addNumber 9 = .ok (.invokevirtual 25, 3) := by decide +kernel
theorem d_Text_addNumber_12 : decode b_Text_addNumber 12 = .ok (.iload_n 2, 1) := by decide +kernel
theorem d_Text_addNumber_13 : decode b_Text_addNumber 13 = .ok (.ineg, 1) := by decide +kernel
theorem d_Text_addNumber_14 : decode b_Text_addNumber 14 = .ok (.istore_n 2, 1) := by decide +kernel
theorem d_Text_addNumber_15 : decode b_Text_addNumber 15 = .ok (.iload_n 2, 1) := by decide +kernel
theorem d_Text_addNumber_16 : decode b_Text_addNumber 16 = .ok (.bipush 100, 2) := by decide +kernel
theorem d_Text_addNumber_18 : decode b_Text_addNumber 18 = .ok (.if_icmp .lt 17, 3) := by decide +kernel
theorem d_Text_addNumber_21 : decode b_Text_addNumber 21 = .ok (.aload_n 0, 1) := by decide +kernel
theorem d_Text_addNumber_22 : decode b_Text_addNumber 22 = .ok (.bipush 48, 2) := by decide +kernel
theorem d_Text_addNumber_24 : decode b_Text_addNumber 24 = .ok (.iload_n 2, 1) := by decide +kernel
theorem d_Text_addNumber_25 : decode b_Text_addNumber 25 = .ok (.bipush 100, 2) := by decide +kernel
theorem d_Text_addNumber_27 : decode b_Text_addNumber 27 = .ok (.idiv, 1) := by decide +kernel
theorem d_Text_addNumber_28 : decode b_Text_addNumber 28 = .ok (.bipush 10, 2) := by decide +kernel
theorem d_Text_addNumber_30 : decode b_Text_addNumber 30 = .ok (.irem, 1) := by decide +kernel
theorem d_Text_addNumber_31 : decode b_Text_addNumber 31 = .ok (.iadd, 1) := by decide +kernel
theorem d_Text_addNumber_32 : decode b_Text_addNumber 32 = .ok (.invokevirtual 25, 3) := by decide +kernel
theorem d_Text_addNumber_35 : decode b_Text_addNumber 35 = .ok (.iload_n 2, 1) := by decide +kernel
theorem d_Text_addNumber_36 : decode b_Text_addNumber 36 = .ok (.bipush 10, 2) := by decide +kernel
theorem d_Text_addNumber_38 : decode b_Text_addNumber 38 = .ok (.if_icmp .lt 17, 3) := by decide +kernel
theorem d_Text_addNumber_41 : decode b_Text_addNumber 41 = .ok (.aload_n 0, 1) := by decide +kernel
theorem d_Text_addNumber_42 : decode b_Text_addNumber 42 = .ok (.bipush 48, 2) := by decide +kernel
theorem d_Text_addNumber_44 : decode b_Text_addNumber 44 = .ok (.iload_n 2, 1) := by decide +kernel
theorem d_Text_addNumber_45 : decode b_Text_addNumber 45 = .ok (.bipush 10, 2) := by decide +kernel
theorem d_Text_addNumber_47 : decode b_Text_addNumber 47 = .ok (.idiv, 1) := by decide +kernel
theorem d_Text_addNumber_48 : decode b_Text_addNumber 48 = .ok (.bipush 10, 2) := by decide +kernel
theorem d_Text_addNumber_50 : decode b_Text_addNumber 50 = .ok (.irem, 1) := by decide +kernel
theorem d_Text_addNumber_51 : decode b_Text_addNumber 51 = .ok (.iadd, 1) := by decide +kernel
theorem d_Text_addNumber_52 : decode b_Text_addNumber 52 = .ok (.invokevirtual 25, 3) := by decide +kernel
theorem d_Text_addNumber_55 : decode b_Text_addNumber 55 = .ok (.aload_n 0, 1) := by decide +kernel
theorem d_Text_addNumber_56 : decode b_Text_addNumber 56 = .ok (.bipush 48, 2) := by decide +kernel
theorem d_Text_addNumber_58 : decode b_Text_addNumber 58 = .ok (.iload_n 2, 1) := by decide +kernel
theorem d_Text_addNumber_59 : decode b_Text_addNumber 59 = .ok (.bipush 10, 2) := by decide +kernel
theorem d_Text_addNumber_61 : decode b_Text_addNumber 61 = .ok (.irem, 1) := by decide +kernel
theorem d_Text_addNumber_62 : decode b_Text_addNumber 62 = .ok (.iadd, 1) := by decide +kernel
theorem d_Text_addNumber_63 : decode b_Text_addNumber 63 = .ok (.invokevirtual 25, 3) := by decide +kernel
theorem d_Text_addNumber_66 : decode b_Text_addNumber 66 = .ok (.return_, 1) := by decide +kernel
