theorem d_Decimal_clear_0 : decode b_Decimal_clear 0 = .ok (.aload_n 0, 1) := by decide +kernel
theorem d_Decimal_clear_1 : decode b_Decimal_clear 1 = .ok (.iconst 0, 1) := by decide +kernel
theorem d_Decimal_clear_2 : decode b_Decimal_clear 2 = .ok (.putfield 21, 3) := by decide +kernel
theorem d_Decimal_clear_5 : decode b_Decimal_clear 5 = .ok (.aload_n 0, 1) := by decide +kernel
theorem d_Decimal_clear_6 : decode b_Decimal_clear 6 = .ok (.iconst 0, 1) := by decide +kernel
theorem d_Decimal_clear_7 : decode b_Decimal_clear 7 = .ok (.putfield 25, 3) := by decide +kernel
theorem d_Decimal_clear_10 : decode b_Decimal_clear 10 = .ok (.return_, 1) := by decide +kernel
theorem d_Decimal_add_0 : decode b_Decimal_add 0 = .ok (.aload_n 0, 1) := by decide +kernel
theorem d_Decimal_add_1 : decode b_Decimal_add 1 = .ok (.getfield 21, 3) := by decide +kernel
theorem d_Decimal_add_4 : decode b_Decimal_add 4 = .ok (.ifCond .gt 7, 3) := by decide +kernel
theorem d_Decimal_add_7 : decode b_Decimal_add 7 = .ok (.iload_n 1, 1) := by decide +kernel
theorem d_Decimal_add_8 : decode b_Decimal_add 8 = .ok (.ifCond .le 36, 3) := by decide +kernel
theorem d_Decimal_add_11 : decode b_Decimal_add 11 = .ok (.aload_n 0, 1) := by decide +kernel
theorem d_Decimal_add_12 : decode b_Decimal_add 12 = .ok (.getfield 21, 3) := by decide +kernel
theorem d_Decimal_add_15 : decode b_Decimal_add 15 = .ok (.aload_n 0, 1) := by decide +kernel
theorem d_Decimal_add_16 : decode b_Decimal_add 16 = .ok (.getfield 15, 3) := by decide +kernel
theorem d_Decimal_add_19 : decode b_Decimal_add 19 = .ok (.arraylength, 1) := by decide +kernel
theorem d_Decimal_add_20 : decode b_Decimal_add 20 = .ok (.if_icmp .ge 24, 3) := by decide +kernel
theorem d_Decimal_add_23 : decode b_Decimal_add 23 = .ok (.aload_n 0, 1) := by decide +kernel
theorem d_Decimal_add_24 : decode b_Decimal_add 24 = .ok (.getfield 15, 3) := by decide +kernel
theorem d_Decimal_add_27 : decode b_Decimal_add 27 = .ok (.aload_n 0, 1) := by decide +kernel
theorem d_Decimal_add_28 : decode b_Decimal_add 28 = .ok (.getfield 21, 3) := by decide +kernel
theorem d_Decimal_add_31 : decode b_Decimal_add 31 = .ok (.iload_n 1, 1) := by decide +kernel
theorem d_Decimal_add_32 : decode b_Decimal_add 32 = .ok (.i2b, 1) := by decide +kernel
theorem d_Decimal_add_33 : decode b_Decimal_add 33 = .ok (.bastore, 1) := by decide +kernel
theorem d_Decimal_add_34 : decode b_Decimal_add 34 = .ok (.aload_n 0, 1) := by decide +kernel
theorem d_Decimal_add_35 : decode b_Decimal_add 35 = .ok (.dup, 1) := by decide +kernel
theorem d_Decimal_add_36 : decode b_Decimal_add 36 = .ok (.getfield 21, 3) := by decide +kernel
theorem d_Decimal_add_39 : decode b_Decimal_add 39 = .ok (.iconst 1, 1) := by decide +kernel
theorem d_Decimal_add_40 : decode b_Decimal_add 40 = .ok (.iadd, 1) := by decide +kernel
theorem d_Decimal_add_41 : decode b_Decimal_add 41 = .ok (.putfield 21, 3) := by decide +kernel
theorem d_Decimal_add_44 : decode b_Decimal_add 44 = .ok (.return_, 1) := by decide +kernel
theorem d_Decimal_count_0 : decode b_Decimal_count 0 = .ok (.aload_n 0, 1) := by decide +kernel
theorem d_Decimal_count_1 : decode b_Decimal_count 1 = .ok (.getfield 21, 3) := by decide +kernel
theorem d_Decimal_count_4 : decode b_Decimal_count 4 = .ok (.ireturn, 1) := by decide +kernel
theorem d_Decimal_movePoint_0 : decode b_Decimal_movePoint 0 = .ok (.aload_n 0, 1) := by decide +kernel
theorem d_Decimal_movePoint_1 : decode b_Decimal_movePoint 1 = .ok (.dup, 1) := by decide +kernel
theorem d_Decimal_movePoint_2 : decode b_Decimal_movePoint 2 = .ok (.getfield 25, 3) := by decide +kernel
theorem d_Decimal_movePoint_5 : decode b_Decimal_movePoint 5 = .ok (.iload_n 1, 1) := by decide +kernel
theorem d_Decimal_movePoint_6 : decode b_Decimal_movePoint 6 = .ok (.iadd, 1) := by decide +kernel
theorem d_Decimal_movePoint_7 : decode b_Decimal_movePoint 7 = .ok (.putfield 25, 3) := by decide +kernel
theorem d_Decimal_movePoint_10 : decode b_Decimal_movePoint 10 = .ok (.return_, 1) := by decide +kernel
theorem d_Decimal_digit_0 : decode b_Decimal_digit 0 = .ok (.iload_n 1, 1) := by decide +kernel
theorem d_Decimal_digit_1 : decode b_Decimal_digit 1 = .ok (.ifCond .lt 29, 3) := by decide +kernel
theorem d_Decimal_digit_4 : decode b_Decimal_digit 4 = .ok (.iload_n 1, 1) := by decide +kernel
theorem d_Decimal_digit_5 : decode b_Decimal_digit 5 = .ok (.aload_n 0, 1) := by decide +kernel
theorem d_Decimal_digit_6 : decode b_Decimal_digit 6 = .ok (.getfield 21, 3) := by decide +kernel
theorem d_Decimal_digit_9 : decode b_Decimal_digit 9 = .ok (.if_icmp .ge 21, 3) := by decide +kernel
theorem d_Decimal_digit_12 : decode b_Decimal_digit 12 = .ok (.iload_n 1, 1) := by decide +kernel
theorem d_Decimal_digit_13 : decode b_Decimal_digit 13 = .ok (.aload_n 0, 1) := by decide +kernel
theorem d_Decimal_digit_14 : decode b_Decimal_digit 14 = .ok (.getfield 15, 3) := by decide +kernel
theorem d_Decimal_digit_17 : decode b_Decimal_digit 17 = .ok (.arraylength, 1) := by decide +kernel
theorem d_Decimal_digit_18 : decode b_Decimal_digit 18 = .ok (.if_icmp .ge 12, 3) := by decide +kernel
theorem d_Decimal_digit_21 : decode b_Decimal_digit 21 = .ok (.aload_n 0, 1) := by decide +kernel
theorem d_Decimal_digit_22 : decode b_Decimal_digit 22 = .ok (.getfield 15, 3) := by decide +kernel
theorem d_Decimal_digit_25 : decode b_Decimal_digit 25 = .ok (.iload_n 1, 1) := by decide +kernel
theorem d_Decimal_digit_26 : decode b_Decimal_digit 26 = .ok (.baload, 1) := by decide +kernel
theorem d_Decimal_digit_27 : decode b_Decimal_digit 27 = .ok (.goto 4, 3) := by decide +kernel
theorem d_Decimal_digit_30 : decode b_Decimal_digit 30 = .ok (.iconst 0, 1) := by decide +kernel
theorem d_Decimal_digit_31 : decode b_Decimal_digit 31 = .ok (.ireturn, 1) := by decide +kernel
theorem d_Decimal_dropZerosBehind_0 : decode b_Decimal_dropZerosBehind 0 = .ok (.aload_n 0, 1) := by decide +kernel
theorem d_Decimal_dropZerosBehind_1 : decode b_Decimal_dropZerosBehind 1 = .ok (.getfield 21, 3) := by decide +kernel
theorem d_Decimal_dropZerosBehind_4 : decode b_Decimal_dropZerosBehind 4 = .ok (.istore_n 1, 1) := by decide +kernel
theorem d_Decimal_dropZerosBehind_5 : decode b_Decimal_dropZerosBehind 5 = .ok (.aload_n 0, 1) := by decide +kernel
theorem d_Decimal_dropZerosBehind_6 : decode b_Decimal_dropZerosBehind 6 = .ok (.getfield 21, 3) := by decide +kernel
theorem d_Decimal_dropZerosBehind_9 : decode b_Decimal_dropZerosBehind 9 = .ok (.istore_n 2, 1) := by decide +kernel
theorem d_Decimal_dropZerosBehind_10 : decode b_Decimal_dropZerosBehind 10 = .ok (.iload_n 2, 1) := by decide +kernel
theorem d_Decimal_dropZerosBehind_11 : decode b_Decimal_dropZerosBehind 11 = .ok (.ifCond .le 23, 3) := by decide +kernel
theorem d_Decimal_dropZerosBehind_14 : decode b_Decimal_dropZerosBehind 14 = .ok (.aload_n 0, 1) := by decide +kernel
theorem d_Decimal_dropZerosBehind_15 : decode b_Decimal_dropZerosBehind 15 = .ok (.iload_n 2, 1) := by decide +kernel
theorem d_Decimal_dropZerosBehind_16 : decode b_Decimal_dropZerosBehind 16 = .ok (.iconst 1, 1) := by decide +kernel
theorem d_Decimal_dropZerosBehind_17 : decode b_Decimal_dropZerosBehind 17 = .ok (.isub, 1) := by decide +kernel
theorem d_Decimal_dropZerosBehind_18 : decode b_Decimal_dropZerosBehind 18 = .ok (.invokevirtual 28, 3) := by decide +kernel
theorem d_Decimal_dropZerosBehind_21 : decode b_Decimal_dropZerosBehind 21 = .ok (.ifCond .ne 13, 3) := by decide +kernel
theorem d_Decimal_dropZerosBehind_24 : decode b_Decimal_dropZerosBehind 24 = .ok (.iload_n 2, 1) := by decide +kernel
theorem d_Decimal_dropZerosBehind_25 : decode b_Decimal_dropZerosBehind 25 = .ok (.iconst 1, 1) := by decide +kernel
theorem d_Decimal_dropZerosBehind_26 : decode b_Decimal_dropZerosBehind 26 = .ok (.isub, 1) := by decide +kernel
theorem d_Decimal_dropZerosBehind_27 : decode b_Decimal_dropZerosBehind 27 = .ok (.istore_n 1, 1) := by decide +kernel
theorem d_Decimal_dropZerosBehind_28 : decode b_Decimal_dropZerosBehind 28 = .ok (.iinc 2 (-1), 3) := by decide +kernel
theorem d_Decimal_dropZerosBehind_31 : decode b_Decimal_dropZerosBehind 31 = .ok (.goto (-21), 3) := by decide +kernel
theorem d_Decimal_dropZerosBehind_34 : decode b_Decimal_dropZerosBehind 34 = .ok (.aload_n 0, 1) := by decide +kernel
theorem d_Decimal_dropZerosBehind_35 : decode b_Decimal_dropZerosBehind 35 = .ok (.iload_n 1, 1) := by decide +kernel
theorem d_Decimal_dropZerosBehind_36 : decode b_Decimal_dropZerosBehind 36 = .ok (.putfield 21, 3) := by decide +kernel
theorem d_Decimal_dropZerosBehind_39 : decode b_Decimal_dropZerosBehind 39 = .ok (.aload_n 0, 1) := by decide +kernel
theorem d_Decimal_dropZerosBehind_40 : decode b_Decimal_dropZerosBehind 40 = .ok (.getfield 21, 3) := by decide +kernel
theorem d_Decimal_dropZerosBehind_43 : decode b_Decimal_dropZerosBehind 43 = .ok (.ifCond .ne 8, 3) := by decide +kernel
theorem d_Decimal_dropZerosBehind_46 : decode b_Decimal_dropZerosBehind 46 = .ok (.aload_n 0, 1) := by decide +kernel
theorem d_Decimal_dropZerosBehind_47 : decode b_Decimal_dropZerosBehind 47 = .ok (.iconst 0, 1) := by decide +kernel
theorem d_Decimal_dropZerosBehind_48 : decode b_Decimal_dropZerosBehind 48 = .ok (.putfield 25, 3) := by decide +kernel
theorem d_Decimal_dropZerosBehind_51 : decode b_Decimal_dropZerosBehind 51 = .ok (.return_, 1) := by decide +kernel
theorem d_Decimal_point_0 : decode b_Decimal_point 0 = .ok (.aload_n 0, 1) := by decide +kernel
theorem d_Decimal_point_1 : decode b_Decimal_point 1 = .ok (.getfield 25, 3) := by decide +kernel
theorem d_Decimal_point_4 : decode b_Decimal_point 4 = .ok (.ireturn, 1) := by decide +kernel
theorem d_Decimal_addLimb_0 : decode b_Decimal_addLimb 0 = .ok (.ldc 32, 2) := by decide +kernel
theorem d_Decimal_addLimb_2 : decode b_Decimal_addLimb 2 = .ok (.istore_n 2, 1) := by decide +kernel
theorem d_Decimal_addLimb_3 : decode b_Decimal_addLimb 3 = .ok (.iload_n 2, 1) := by decide +kernel
theorem d_Decimal_addLimb_4 : decode b_Decimal_addLimb 4 = .ok (.ifCond .le 62, 3) := by decide +kernel
theorem d_Decimal_addLimb_7 : decode b_Decimal_addLimb 7 = .ok (.iload_n 1, 1) := by decide +kernel
theorem d_Decimal_addLimb_8 : decode b_Decimal_addLimb 8 = .ok (.iload_n 2, 1) := by decide +kernel
theorem d_Decimal_addLimb_9 : decode b_Decimal_addLimb 9 = .ok (.idiv, 1) := by decide +kernel
theorem d_Decimal_addLimb_10 : decode b_Decimal_addLimb 10 = .ok (.bipush 10, 2) := by decide +kernel
theorem d_Decimal_addLimb_12 : decode b_Decimal_addLimb 12 = .ok (.irem, 1) := by decide +kernel
theorem d_Decimal_addLimb_13 : decode b_Decimal_addLimb 13 = .ok (.istore_n 3, 1) := by decide +kernel
theorem d_Decimal_addLimb_14 : decode b_Decimal_addLimb 14 = .ok (.aload_n 0, 1) := by decide +kernel
theorem d_Decimal_addLimb_15 : decode b_Decimal_addLimb 15 = .ok (.getfield 21, 3) := by decide +kernel
theorem d_Decimal_addLimb_18 : decode b_Decimal_addLimb 18 = .ok (.ifCond .gt 7, 3) := by decide +kernel
theorem d_Decimal_addLimb_21 : decode b_Decimal_addLimb 21 = .ok (.iload_n 3, 1) := by decide +kernel
theorem d_Decimal_addLimb_22 : decode b_Decimal_addLimb 22 = .ok (.ifCond .le 36, 3) := by decide +kernel
theorem d_Decimal_addLimb_25 : decode b_Decimal_addLimb 25 = .ok (.aload_n 0, 1) := by decide +kernel
theorem d_Decimal_addLimb_26 : decode b_Decimal_addLimb 26 = .ok (.getfield 21, 3) := by decide +kernel
theorem d_Decimal_addLimb_29 : decode b_Decimal_addLimb 29 = .ok (.aload_n 0, 1) := by decide +kernel
theorem d_Decimal_addLimb_30 : decode b_Decimal_addLimb 30 = .ok (.getfield 15, 3) := by decide +kernel
theorem d_Decimal_addLimb_33 : decode b_Decimal_addLimb 33 = .ok (.arraylength, 1) := by decide +kernel
theorem d_Decimal_addLimb_34 : decode b_Decimal_addLimb 34 = .ok (.if_icmp .ge 24, 3) := by decide +kernel
theorem d_Decimal_addLimb_37 : decode b_Decimal_addLimb 37 = .ok (.aload_n 0, 1) := by decide +kernel
theorem d_Decimal_addLimb_38 : decode b_Decimal_addLimb 38 = .ok (.getfield 15, 3) := by decide +kernel
theorem d_Decimal_addLimb_41 : decode b_Decimal_addLimb 41 = .ok (.aload_n 0, 1) := by decide +kernel
theorem d_Decimal_addLimb_42 : decode b_Decimal_addLimb 42 = .ok (.getfield 21, 3) := by decide +kernel
theorem d_Decimal_addLimb_45 : decode b_Decimal_addLimb 45 = .ok (.iload_n 3, 1) := by decide +kernel
theorem d_Decimal_addLimb_46 : decode b_Decimal_addLimb 46 = .ok (.i2b, 1) := by decide +kernel
theorem d_Decimal_addLimb_47 : decode b_Decimal_addLimb 47 = .ok (.bastore, 1) := by decide +kernel
theorem d_Decimal_addLimb_48 : decode b_Decimal_addLimb 48 = .ok (.aload_n 0, 1) := by decide +kernel
theorem d_Decimal_addLimb_49 : decode b_Decimal_addLimb 49 = .ok (.dup, 1) := by decide +kernel
theorem d_Decimal_addLimb_50 : decode b_Decimal_addLimb 50 = .ok (.getfield 21, 3) := by decide +kernel
theorem d_Decimal_addLimb_53 : decode b_Decimal_addLimb 53 = .ok (.iconst 1, 1) := by decide +kernel
theorem d_Decimal_addLimb_54 : decode b_Decimal_addLimb 54 = .ok (.iadd, 1) := by decide +kernel
theorem d_Decimal_addLimb_55 : decode b_Decimal_addLimb 55 = .ok (.putfield 21, 3) := by decide +kernel
theorem d_Decimal_addLimb_58 : decode b_Decimal_addLimb 58 = .ok (.iload_n 2, 1) := by decide +kernel
theorem d_Decimal_addLimb_59 : decode b_Decimal_addLimb 59 = .ok (.bipush 10, 2) := by decide +kernel
theorem d_Decimal_addLimb_61 : decode b_Decimal_addLimb 61 = .ok (.idiv, 1) := by decide +kernel
theorem d_Decimal_addLimb_62 : decode b_Decimal_addLimb 62 = .ok (.istore_n 2, 1) := by decide +kernel
theorem d_Decimal_addLimb_63 : decode b_Decimal_addLimb 63 = .ok (.goto (-60), 3) := by decide +kernel
theorem d_Decimal_addLimb_66 : decode b_Decimal_addLimb 66 = .ok (.return_, 1) := by decide +kernel
theorem d_Decimal_digitOf_0 : decode b_Decimal_digitOf 0 = .ok (.aload_n 0, 1) := by decide +kernel
theorem d_Decimal_digitOf_1 : decode b_Decimal_digitOf 1 = .ok (.aload_n 0, 1) := by decide +kernel
theorem d_Decimal_digitOf_2 : decode b_Decimal_digitOf 2 = .ok (.getfield 25, 3) := by decide +kernel
theorem d_Decimal_digitOf_5 : decode b_Decimal_digitOf 5 = .ok (.iconst 1, 1) := by decide +kernel
theorem d_Decimal_digitOf_6 : decode b_Decimal_digitOf 6 = .ok (.isub, 1) := by decide +kernel
theorem d_Decimal_digitOf_7 : decode b_Decimal_digitOf 7 = .ok (.iload_n 1, 1) := by decide +kernel
theorem d_Decimal_digitOf_8 : decode b_Decimal_digitOf 8 = .ok (.isub, 1) := by decide +kernel
theorem d_Decimal_digitOf_9 : decode b_Decimal_digitOf 9 = .ok (.invokevirtual 28, 3) := by decide +kernel
theorem d_Decimal_digitOf_12 : decode b_Decimal_digitOf 12 = .ok (.ireturn, 1) := by decide +kernel
theorem d_Decimal_endsAt_0 : decode b_Decimal_endsAt 0 = .ok (.aload_n 0, 1) := by decide +kernel
theorem d_Decimal_endsAt_1 : decode b_Decimal_endsAt 1 = .ok (.getfield 21, 3) := by decide +kernel
theorem d_Decimal_endsAt_4 : decode b_Decimal_endsAt 4 = .ok (.aload_n 0, 1) := by decide +kernel
theorem d_Decimal_endsAt_5 : decode b_Decimal_endsAt 5 = .ok (.getfield 25, 3) := by decide +kernel
theorem d_Decimal_endsAt_8 : decode b_Decimal_endsAt 8 = .ok (.iload_n 1, 1) := by decide +kernel
theorem d_Decimal_endsAt_9 : decode b_Decimal_endsAt 9 = .ok (.isub, 1) := by decide +kernel
theorem d_Decimal_endsAt_10 : decode b_Decimal_endsAt 10 = .ok (.if_icmp .gt 7, 3) := by decide +kernel
theorem d_Decimal_endsAt_13 : decode b_Decimal_endsAt 13 = .ok (.iconst 1, 1) := by decide +kernel
theorem d_Decimal_endsAt_14 : decode b_Decimal_endsAt 14 = .ok (.goto 4, 3) := by decide +kernel
theorem d_Decimal_endsAt_17 : decode b_Decimal_endsAt 17 = .ok (.iconst 0, 1) := by decide +kernel
theorem d_Decimal_endsAt_18 : decode b_Decimal_endsAt 18 = .ok (.ireturn, 1) := by decide +kernel
theorem d_Decimal_roundsUp_0 : decode b_Decimal_roundsUp 0 = .ok (.aload_n 0, 1) := by decide +kernel
theorem d_Decimal_roundsUp_1 : decode b_Decimal_roundsUp 1 = .ok (.iload_n 1, 1) := by decide +kernel
theorem d_Decimal_roundsUp_2 : decode b_Decimal_roundsUp 2 = .ok (.invokevirtual 28, 3) := by decide +kernel
theorem d_Decimal_roundsUp_5 : decode b_Decimal_roundsUp 5 = .ok (.iconst 5, 1) := by decide +kernel
theorem d_Decimal_roundsUp_6 : decode b_Decimal_roundsUp 6 = .ok (.if_icmp .eq 18, 3) := by decide +kernel
theorem d_Decimal_roundsUp_9 : decode b_Decimal_roundsUp 9 = .ok (.aload_n 0, 1) := by decide +kernel
theorem d_Decimal_roundsUp_10 : decode b_Decimal_roundsUp 10 = .ok (.iload_n 1, 1) := by decide +kernel
theorem d_Decimal_roundsUp_11 : decode b_Decimal_roundsUp 11 = .ok (.invokevirtual 28, 3) := by decide +kernel
theorem d_Decimal_roundsUp_14 : decode b_Decimal_roundsUp 14 = .ok (.iconst 5, 1) := by decide +kernel
theorem d_Decimal_roundsUp_15 : decode b_Decimal_roundsUp 15 = .ok (.if_icmp .le 7, 3) := by decide +kernel
theorem d_Decimal_roundsUp_18 : decode b_Decimal_roundsUp 18 = .ok (.iconst 1, 1) := by decide +kernel
theorem d_Decimal_roundsUp_19 : decode b_Decimal_roundsUp 19 = .ok (.goto 4, 3) := by decide +kernel
theorem d_Decimal_roundsUp_22 : decode b_Decimal_roundsUp 22 = .ok (.iconst 0, 1) := by decide +kernel
theorem d_Decimal_roundsUp_23 : decode b_Decimal_roundsUp 23 = .ok (.ireturn, 1) := by decide +kernel
theorem d_Decimal_roundsUp_24 : decode b_Decimal_roundsUp 24 = .ok (.aload_n 0, 1) := by decide +kernel
theorem d_Decimal_roundsUp_25 : decode b_Decimal_roundsUp 25 = .ok (.getfield 21, 3) := by decide +kernel
theorem d_Decimal_roundsUp_28 : decode b_Decimal_roundsUp 28 = .ok (.iload_n 1, 1) := by decide +kernel
theorem d_Decimal_roundsUp_29 : decode b_Decimal_roundsUp 29 = .ok (.iconst 1, 1) := by decide +kernel
theorem d_Decimal_roundsUp_30 : decode b_Decimal_roundsUp 30 = .ok (.iadd, 1) := by decide +kernel
theorem d_Decimal_roundsUp_31 : decode b_Decimal_roundsUp 31 = .ok (.if_icmp .gt 15, 3) := by decide +kernel
theorem d_Decimal_roundsUp_34 : decode b_Decimal_roundsUp 34 = .ok (.aload_n 0, 1) := by decide +kernel
theorem d_Decimal_roundsUp_35 : decode b_Decimal_roundsUp 35 = .ok (.iload_n 1, 1) := by decide +kernel
theorem d_Decimal_roundsUp_36 : decode b_Decimal_roundsUp 36 = .ok (.iconst 1, 1) := by decide +kernel
theorem d_Decimal_roundsUp_37 : decode b_Decimal_roundsUp 37 = .ok (.isub, 1) := by decide +kernel
theorem d_Decimal_roundsUp_38 : decode b_Decimal_roundsUp 38 = .ok (.invokevirtual 28, 3) := by decide +kernel
theorem d_Decimal_roundsUp_41 : decode b_Decimal_roundsUp 41 = .ok (.iconst 1, 1) := by decide +kernel
theorem d_Decimal_roundsUp_42 : decode b_Decimal_roundsUp 42 = .ok (.iand, 1) := by decide +kernel
theorem d_Decimal_roundsUp_43 : decode b_Decimal_roundsUp 43 = .ok (.ifCond .eq 7, 3) := by decide +kernel
theorem d_Decimal_roundsUp_46 : decode b_Decimal_roundsUp 46 = .ok (.iconst 1, 1) := by decide +kernel
theorem d_Decimal_roundsUp_47 : decode b_Decimal_roundsUp 47 = .ok (.goto 4, 3) := by decide +kernel
theorem d_Decimal_roundsUp_50 : decode b_Decimal_roundsUp 50 = .ok (.iconst 0, 1) := by decide +kernel
theorem d_Decimal_roundsUp_51 : decode b_Decimal_roundsUp 51 = .ok (.ireturn, 1) := by decide +kernel
theorem d_Decimal_countUp_0 : decode b_Decimal_countUp 0 = .ok (.aload_n 0, 1) := by decide +kernel
theorem d_Decimal_countUp_1 : decode b_Decimal_countUp 1 = .ok (.getfield 21, 3) := by decide +kernel
theorem d_Decimal_countUp_4 : decode b_Decimal_countUp 4 = .ok (.iconst 1, 1) := by decide +kernel
theorem d_Decimal_countUp_5 : decode b_Decimal_countUp 5 = .ok (.isub, 1) := by decide +kernel
theorem d_Decimal_countUp_6 : decode b_Decimal_countUp 6 = .ok (.istore_n 1, 1) := by decide +kernel
theorem d_Decimal_countUp_7 : decode b_Decimal_countUp 7 = .ok (.iload_n 1, 1) := by decide +kernel
theorem d_Decimal_countUp_8 : decode b_Decimal_countUp 8 = .ok (.ifCond .lt 19, 3) := by decide +kernel
theorem d_Decimal_countUp_11 : decode b_Decimal_countUp 11 = .ok (.aload_n 0, 1) := by decide +kernel
theorem d_Decimal_countUp_12 : decode b_Decimal_countUp 12 = .ok (.iload_n 1, 1) := by decide +kernel
theorem d_Decimal_countUp_13 : decode b_Decimal_countUp 13 = .ok (.invokevirtual 28, 3) := by decide +kernel
theorem d_Decimal_countUp_16 : decode b_Decimal_countUp 16 = .ok (.bipush 9, 2) := by decide +kernel
theorem d_Decimal_countUp_18 : decode b_Decimal_countUp 18 = .ok (.if_icmp .ne 9, 3) := by decide +kernel
theorem d_Decimal_countUp_21 : decode b_Decimal_countUp 21 = .ok (.iinc 1 (-1), 3) := by decide +kernel
theorem d_Decimal_countUp_24 : decode b_Decimal_countUp 24 = .ok (.goto (-17), 3) := by decide +kernel
theorem d_Decimal_countUp_27 : decode b_Decimal_countUp 27 = .ok (.aload_n 0, 1) := by decide +kernel
theorem d_Decimal_countUp_28 : decode b_Decimal_countUp 28 = .ok (.iload_n 1, 1) := by decide +kernel
theorem d_Decimal_countUp_29 : decode b_Decimal_countUp 29 = .ok (.iconst 1, 1) := by decide +kernel
theorem d_Decimal_countUp_30 : decode b_Decimal_countUp 30 = .ok (.iadd, 1) := by decide +kernel
theorem d_Decimal_countUp_31 : decode b_Decimal_countUp 31 = .ok (.putfield 21, 3) := by decide +kernel
theorem d_Decimal_countUp_34 : decode b_Decimal_countUp 34 = .ok (.iload_n 1, 1) := by decide +kernel
theorem d_Decimal_countUp_35 : decode b_Decimal_countUp 35 = .ok (.ifCond .lt 26, 3) := by decide +kernel
theorem d_Decimal_countUp_38 : decode b_Decimal_countUp 38 = .ok (.iload_n 1, 1) := by decide +kernel
theorem d_Decimal_countUp_39 : decode b_Decimal_countUp 39 = .ok (.aload_n 0, 1) := by decide +kernel
theorem d_Decimal_countUp_40 : decode b_Decimal_countUp 40 = .ok (.getfield 15, 3) := by decide +kernel
theorem d_Decimal_countUp_43 : decode b_Decimal_countUp 43 = .ok (.arraylength, 1) := by decide +kernel
theorem d_Decimal_countUp_44 : decode b_Decimal_countUp 44 = .ok (.if_icmp .ge 17, 3) := by decide +kernel
theorem d_Decimal_countUp_47 : decode b_Decimal_countUp 47 = .ok (.aload_n 0, 1) := by decide +kernel
theorem d_Decimal_countUp_48 : decode b_Decimal_countUp 48 = .ok (.getfield 15, 3) := by decide +kernel
theorem d_Decimal_countUp_51 : decode b_Decimal_countUp 51 = .ok (.iload_n 1, 1) := by decide +kernel
theorem d_Decimal_countUp_52 : decode b_Decimal_countUp 52 = .ok (.dup2, 1) := by decide +kernel
theorem d_Decimal_countUp_53 : decode b_Decimal_countUp 53 = .ok (.baload, 1) := by decide +kernel
theorem d_Decimal_countUp_54 : decode b_Decimal_countUp 54 = .ok (.iconst 1, 1) := by decide +kernel
theorem d_Decimal_countUp_55 : decode b_Decimal_countUp 55 = .ok (.iadd, 1) := by decide +kernel
theorem d_Decimal_countUp_56 : decode b_Decimal_countUp 56 = .ok (.i2b, 1) := by decide +kernel
theorem d_Decimal_countUp_57 : decode b_Decimal_countUp 57 = .ok (.bastore, 1) := by decide +kernel
theorem d_Decimal_countUp_58 : decode b_Decimal_countUp 58 = .ok (.goto 18, 3) := by decide +kernel
theorem d_Decimal_countUp_61 : decode b_Decimal_countUp 61 = .ok (.aload_n 0, 1) := by decide +kernel
theorem d_Decimal_countUp_62 : decode b_Decimal_countUp 62 = .ok (.dup, 1) := by decide +kernel
theorem d_Decimal_countUp_63 : decode b_Decimal_countUp 63 = .ok (.getfield 25, 3) := by decide +kernel
theorem d_Decimal_countUp_66 : decode b_Decimal_countUp 66 = .ok (.iconst 1, 1) := by decide +kernel
theorem d_Decimal_countUp_67 : decode b_Decimal_countUp 67 = .ok (.iadd, 1) := by decide +kernel
theorem d_Decimal_countUp_68 : decode b_Decimal_countUp 68 = .ok (.putfield 25, 3) := by decide +kernel
theorem d_Decimal_countUp_71 : decode b_Decimal_countUp 71 = .ok (.aload_n 0, 1) := by decide +kernel
theorem d_Decimal_countUp_72 : decode b_Decimal_countUp 72 = .ok (.iconst 1, 1) := by decide +kernel
theorem d_Decimal_countUp_73 : decode b_Decimal_countUp 73 = .ok (.invokevirtual 39, 3) := by decide +kernel
theorem d_Decimal_countUp_76 : decode b_Decimal_countUp 76 = .ok (.return_, 1) := by decide +kernel
theorem d_Decimal_cut_0 : decode b_Decimal_cut 0 = .ok (.iload_n 1, 1) := by decide +kernel
theorem d_Decimal_cut_1 : decode b_Decimal_cut 1 = .ok (.aload_n 0, 1) := by decide +kernel
theorem d_Decimal_cut_2 : decode b_Decimal_cut 2 = .ok (.getfield 21, 3) := by decide +kernel
theorem d_Decimal_cut_5 : decode b_Decimal_cut 5 = .ok (.if_icmp .ge 7, 3) := by decide +kernel
theorem d_Decimal_cut_8 : decode b_Decimal_cut 8 = .ok (.iload_n 1, 1) := by decide +kernel
theorem d_Decimal_cut_9 : decode b_Decimal_cut 9 = .ok (.ifCond .ge 4, 3) := by decide +kernel
theorem d_Decimal_cut_12 : decode b_Decimal_cut 12 = .ok (.return_, 1) := by decide +kernel
theorem d_Decimal_cut_13 : decode b_Decimal_cut 13 = .ok (.aload_n 0, 1) := by decide +kernel
theorem d_Decimal_cut_14 : decode b_Decimal_cut 14 = .ok (.iload_n 1, 1) := by decide +kernel
theorem d_Decimal_cut_15 : decode b_Decimal_cut 15 = .ok (.putfield 21, 3) := by decide +kernel
theorem d_Decimal_cut_18 : decode b_Decimal_cut 18 = .ok (.iload_n 2, 1) := by decide +kernel
theorem d_Decimal_cut_19 : decode b_Decimal_cut 19 = .ok (.ifCond .eq 7, 3) := by decide +kernel
theorem d_Decimal_cut_22 : decode b_Decimal_cut 22 = .ok (.aload_n 0, 1) := by decide +kernel
theorem d_Decimal_cut_23 : decode b_Decimal_cut 23 = .ok (.invokevirtual 33, 3) := by decide +kernel
theorem d_Decimal_cut_26 : decode b_Decimal_cut 26 = .ok (.aload_n 0, 1) := by decide +kernel
theorem d_Decimal_cut_27 : decode b_Decimal_cut 27 = .ok (.invokevirtual 36, 3) := by decide +kernel
theorem d_Decimal_cut_30 : decode b_Decimal_cut 30 = .ok (.return_, 1) := by decide +kernel
theorem d_Decimal_isPlain_0 : decode b_Decimal_isPlain 0 = .ok (.aload_n 0, 1) := by decide +kernel
theorem d_Decimal_isPlain_1 : decode b_Decimal_isPlain 1 = .ok (.getfield 25, 3) := by decide +kernel
theorem d_Decimal_isPlain_4 : decode b_Decimal_isPlain 4 = .ok (.bipush (-3), 2) := by decide +kernel
theorem d_Decimal_isPlain_6 : decode b_Decimal_isPlain 6 = .ok (.if_icmp .lt 16, 3) := by decide +kernel
theorem d_Decimal_isPlain_9 : decode b_Decimal_isPlain 9 = .ok (.aload_n 0, 1) := by decide +kernel
theorem d_Decimal_isPlain_10 : decode b_Decimal_isPlain 10 = .ok (.getfield 25, 3) := by decide +kernel
theorem d_Decimal_isPlain_13 : decode b_Decimal_isPlain 13 = .ok (.bipush 16, 2) := by decide +kernel
theorem d_Decimal_isPlain_15 : decode b_Decimal_isPlain 15 = .ok (.if_icmp .gt 7, 3) := by decide +kernel
theorem d_Decimal_isPlain_18 : decode b_Decimal_isPlain 18 = .ok (.iconst 1, 1) := by decide +kernel
theorem d_Decimal_isPlain_19 : decode b_Decimal_isPlain 19 = .ok (.goto 4, 3) := by decide +kernel
theorem d_Decimal_isPlain_22 : decode b_Decimal_isPlain 22 = .ok (.iconst 0, 1) := by decide +kernel
theorem d_Decimal_isPlain_23 : decode b_Decimal_isPlain 23 = .ok (.ireturn, 1) := by decide +kernel
theorem d_Decimal_leastPlaces_0 : decode b_Decimal_leastPlaces 0 = .ok (.iconst 0, 1) := by decide +kernel
theorem d_Decimal_leastPlaces_1 : decode b_Decimal_leastPlaces 1 = .ok (.aload_n 0, 1) := by decide +kernel
theorem d_Decimal_leastPlaces_2 : decode b_Decimal_leastPlaces 2 = .ok (.getfield 21, 3) := by decide +kernel
theorem d_Decimal_leastPlaces_5 : decode b_Decimal_leastPlaces 5 = .ok (.aload_n 0, 1) := by decide +kernel
theorem d_Decimal_leastPlaces_6 : decode b_Decimal_leastPlaces 6 = .ok (.getfield 25, 3) := by decide +kernel
theorem d_Decimal_leastPlaces_9 : decode b_Decimal_leastPlaces 9 = .ok (.isub, 1) := by decide +kernel
theorem d_Decimal_leastPlaces_10 : decode b_Decimal_leastPlaces 10 = .ok (.invokestatic 9, 3) := by decide +kernel
theorem d_Decimal_leastPlaces_13 : decode b_Decimal_leastPlaces 13 = .ok (.ireturn, 1) := by decide +kernel
