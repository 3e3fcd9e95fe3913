theorem g_591 : (Cond.instanceMethod y_Writer_addRounded) ∈ xG := List.mem_filter.mpr ⟨List.mem_append_right _ (List.mem_of_getElem? (i := 591) (by decide +kernel)), by decide +kernel⟩
theorem g_592 : (Cond.selects R_Writer y_Writer_addRounded y_Writer_addRounded) ∈ xG := List.mem_filter.mpr ⟨List.mem_append_right _ (List.mem_of_getElem? (i := 592) (by decide +kernel)), by decide +kernel⟩
theorem g_590 : (Cond.methodLink R_NT 89 y_Writer_addRounded) ∈ xG := List.mem_filter.mpr ⟨List.mem_append_right _ (List.mem_of_getElem? (i := 590) (by decide +kernel)), by decide +kernel⟩
set_option maxRecDepth 100000 in
theorem g_593 : (Cond.code y_Writer_addRounded b_Writer_addRounded 5 none) ∈ xG := List.mem_filter.mpr ⟨List.mem_append_right _ (List.mem_append_right _ (List.mem_append_right _ (List.mem_append_left _ (List.mem_of_getElem? (i := 113) rfl)))), by decide +kernel⟩
theorem g_602 : (Cond.methodLink R_NT 95 y_Writer_addToPlaces) ∈ xG := List.mem_filter.mpr ⟨List.mem_append_right _ (List.mem_of_getElem? (i := 602) (by decide +kernel)), by decide +kernel⟩
theorem g_615 : (Cond.instanceMethod y_Table_renew) ∈ xG := List.mem_filter.mpr ⟨List.mem_append_right _ (List.mem_of_getElem? (i := 615) (by decide +kernel)), by decide +kernel⟩
theorem g_616 : (Cond.selects R_Table y_Table_renew y_Table_renew) ∈ xG := List.mem_filter.mpr ⟨List.mem_append_right _ (List.mem_of_getElem? (i := 616) (by decide +kernel)), by decide +kernel⟩
theorem g_614 : (Cond.methodLink R_NT 103 y_Table_renew) ∈ xG := List.mem_filter.mpr ⟨List.mem_append_right _ (List.mem_of_getElem? (i := 614) (by decide +kernel)), by decide +kernel⟩
set_option maxRecDepth 100000 in
theorem g_617 : (Cond.code y_Table_renew b_Table_renew 4 none) ∈ xG := List.mem_filter.mpr ⟨List.mem_append_right _ (List.mem_append_right _ (List.mem_append_right _ (List.mem_append_left _ (List.mem_of_getElem? (i := 137) rfl)))), by decide +kernel⟩
theorem g_658 : (Cond.instanceMethod y_Table_layOut) ∈ xG := List.mem_filter.mpr ⟨List.mem_append_right _ (List.mem_of_getElem? (i := 658) (by decide +kernel)), by decide +kernel⟩
theorem g_659 : (Cond.selects R_Table y_Table_layOut y_Table_layOut) ∈ xG := List.mem_filter.mpr ⟨List.mem_append_right _ (List.mem_of_getElem? (i := 659) (by decide +kernel)), by decide +kernel⟩
theorem g_657 : (Cond.methodLink R_NT 120 y_Table_layOut) ∈ xG := List.mem_filter.mpr ⟨List.mem_append_right _ (List.mem_of_getElem? (i := 657) (by decide +kernel)), by decide +kernel⟩
set_option maxRecDepth 100000 in
theorem g_660 : (Cond.code y_Table_layOut b_Table_layOut 4 (some .int)) ∈ xG := List.mem_filter.mpr ⟨List.mem_append_right _ (List.mem_append_right _ (List.mem_append_right _ (List.mem_append_left _ (List.mem_of_getElem? (i := 180) rfl)))), by decide +kernel⟩
theorem d_NT_read_0 : decode b_NT_read 0 = .ok (.aload_n 0, 1) := by decide +kernel
theorem d_NT_read_1 : decode b_NT_read 1 = .ok (.getfield 26, 3) := by decide +kernel
theorem d_NT_read_4 : decode b_NT_read 4 = .ok (.aload_n 0, 1) := by decide +kernel
theorem d_NT_read_5 : decode b_NT_read 5 = .ok (.getfield 14, 3) := by decide +kernel
theorem d_NT_read_8 : decode b_NT_read 8 = .ok (.invokevirtual 68, 3) := by decide +kernel
theorem d_NT_read_11 : decode b_NT_read 11 = .ok (.istore_n 1, 1) := by decide +kernel
theorem d_NT_read_12 : decode b_NT_read 12 = .ok (.iload_n 1, 1) := by decide +kernel
theorem d_NT_read_13 : decode b_NT_read 13 = .ok (.iconst (-1), 1) := by decide +kernel
theorem d_NT_read_14 : decode b_NT_read 14 = .ok (.if_icmp .eq 18, 3) := by decide +kernel
theorem d_NT_read_17 : decode b_NT_read 17 = .ok (.aload_n 0, 1) := by decide +kernel
theorem d_NT_read_18 : decode b_NT_read 18 = .ok (.iload_n 1, 1) := by decide +kernel
theorem d_NT_read_19 : decode b_NT_read 19 = .ok (.putfield 46, 3) := by decide +kernel
theorem d_NT_read_22 : decode b_NT_read 22 = .ok (.new 72, 3) := by decide +kernel
theorem d_NT_read_25 : decode b_NT_read 25 = .ok (.dup, 1) := by decide +kernel
theorem d_NT_read_26 : decode b_NT_read 26 = .ok (.ldc 74, 2) := by decide +kernel
theorem d_NT_read_28 : decode b_NT_read 28 = .ok (.invokespecial 76, 3) := by decide +kernel
theorem d_NT_read_31 : decode b_NT_read 31 = .ok (.athrow, 1) := by decide +kernel
theorem d_NT_read_32 : decode b_NT_read 32 = .ok (.aload_n 0, 1) := by decide +kernel
theorem d_NT_read_33 : decode b_NT_read 33 = .ok (.getfield 14, 3) := by decide +kernel
theorem d_NT_read_36 : decode b_NT_read 36 = .ok (.invokevirtual 61, 3) := by decide +kernel
theorem d_NT_read_39 : decode b_NT_read 39 = .ok (.aload_n 0, 1) := by decide +kernel
theorem d_NT_read_40 : decode b_NT_read 40 = .ok (.getfield 26, 3) := by decide +kernel
theorem d_NT_read_43 : decode b_NT_read 43 = .ok (.invokevirtual 79, 3) := by decide +kernel
theorem d_NT_read_46 : decode b_NT_read 46 = .ok (.lreturn, 1) := by decide +kernel
theorem d_NT_digits_0 : decode b_NT_digits 0 = .ok (.iload_n 3, 1) := by decide +kernel
theorem d_NT_digits_1 : decode b_NT_digits 1 = .ok (.iconst 1, 1) := by decide +kernel
theorem d_NT_digits_2 : decode b_NT_digits 2 = .ok (.if_icmp .lt 9, 3) := by decide +kernel
theorem d_NT_digits_5 : decode b_NT_digits 5 = .ok (.iload_n 3, 1) := by decide +kernel
theorem d_NT_digits_6 : decode b_NT_digits 6 = .ok (.bipush 17, 2) := by decide +kernel
theorem d_NT_digits_8 : decode b_NT_digits 8 = .ok (.if_icmp .le 13, 3) := by decide +kernel
theorem d_NT_digits_11 : decode b_NT_digits 11 = .ok (.new 72, 3) := by decide +kernel
theorem d_NT_digits_14 : decode b_NT_digits 14 = .ok (.dup, 1) := by decide +kernel
theorem d_NT_digits_15 : decode b_NT_digits 15 = .ok (.ldc 87, 2) := by decide +kernel
theorem d_NT_digits_17 : decode b_NT_digits 17 = .ok (.invokespecial 76, 3) := by decide +kernel
theorem d_NT_digits_20 : decode b_NT_digits 20 = .ok (.athrow, 1) := by decide +kernel
theorem d_NT_digits_21 : decode b_NT_digits 21 = .ok (.aload_n 0, 1) := by decide +kernel
theorem d_NT_digits_22 : decode b_NT_digits 22 = .ok (.getfield 14, 3) := by decide +kernel
theorem d_NT_digits_25 : decode b_NT_digits 25 = .ok (.invokevirtual 61, 3) := by decide +kernel
theorem d_NT_digits_28 : decode b_NT_digits 28 = .ok (.aload_n 0, 1) := by decide +kernel
theorem d_NT_digits_29 : decode b_NT_digits 29 = .ok (.getfield 33, 3) := by decide +kernel
theorem d_NT_digits_32 : decode b_NT_digits 32 = .ok (.aload_n 0, 1) := by decide +kernel
theorem d_NT_digits_33 : decode b_NT_digits 33 = .ok (.getfield 14, 3) := by decide +kernel
theorem d_NT_digits_36 : decode b_NT_digits 36 = .ok (.lload_n 1, 1) := by decide +kernel
theorem d_NT_digits_37 : decode b_NT_digits 37 = .ok (.iload_n 3, 1) := by decide +kernel
theorem d_NT_digits_38 : decode b_NT_digits 38 = .ok (.invokevirtual 89, 3) := by decide +kernel
theorem d_NT_digits_41 : decode b_NT_digits 41 = .ok (.aload_n 0, 1) := by decide +kernel
theorem d_NT_digits_42 : decode b_NT_digits 42 = .ok (.getfield 14, 3) := by decide +kernel
theorem d_NT_digits_45 : decode b_NT_digits 45 = .ok (.invokevirtual 50, 3) := by decide +kernel
theorem d_NT_digits_48 : decode b_NT_digits 48 = .ok (.ireturn, 1) := by decide +kernel
theorem d_NT_places_0 : decode b_NT_places 0 = .ok (.iload_n 3, 1) := by decide +kernel
theorem d_NT_places_1 : decode b_NT_places 1 = .ok (.ifCond .lt 9, 3) := by decide +kernel
theorem d_NT_places_4 : decode b_NT_places 4 = .ok (.iload_n 3, 1) := by decide +kernel
theorem d_NT_places_5 : decode b_NT_places 5 = .ok (.bipush 40, 2) := by decide +kernel
theorem d_NT_places_7 : decode b_NT_places 7 = .ok (.if_icmp .le 13, 3) := by decide +kernel
theorem d_NT_places_10 : decode b_NT_places 10 = .ok (.new 72, 3) := by decide +kernel
theorem d_NT_places_13 : decode b_NT_places 13 = .ok (.dup, 1) := by decide +kernel
theorem d_NT_places_14 : decode b_NT_places 14 = .ok (.ldc 93, 2) := by decide +kernel
theorem d_NT_places_16 : decode b_NT_places 16 = .ok (.invokespecial 76, 3) := by decide +kernel
theorem d_NT_places_19 : decode b_NT_places 19 = .ok (.athrow, 1) := by decide +kernel
theorem d_NT_places_20 : decode b_NT_places 20 = .ok (.aload_n 0, 1) := by decide +kernel
theorem d_NT_places_21 : decode b_NT_places 21 = .ok (.getfield 14, 3) := by decide +kernel
theorem d_NT_places_24 : decode b_NT_places 24 = .ok (.invokevirtual 61, 3) := by decide +kernel
theorem d_NT_places_27 : decode b_NT_places 27 = .ok (.aload_n 0, 1) := by decide +kernel
theorem d_NT_places_28 : decode b_NT_places 28 = .ok (.getfield 33, 3) := by decide +kernel
theorem d_NT_places_31 : decode b_NT_places 31 = .ok (.aload_n 0, 1) := by decide +kernel
theorem d_NT_places_32 : decode b_NT_places 32 = .ok (.getfield 14, 3) := by decide +kernel
theorem d_NT_places_35 : decode b_NT_places 35 = .ok (.lload_n 1, 1) := by decide +kernel
theorem d_NT_places_36 : decode b_NT_places 36 = .ok (.iload_n 3, 1) := by decide +kernel
theorem d_NT_places_37 : decode b_NT_places 37 = .ok (.invokevirtual 95, 3) := by decide +kernel
theorem d_NT_places_40 : decode b_NT_places 40 = .ok (.aload_n 0, 1) := by decide +kernel
theorem d_NT_places_41 : decode b_NT_places 41 = .ok (.getfield 14, 3) := by decide +kernel
theorem d_NT_places_44 : decode b_NT_places 44 = .ok (.invokevirtual 50, 3) := by decide +kernel
theorem d_NT_places_47 : decode b_NT_places 47 = .ok (.ireturn, 1) := by decide +kernel
theorem d_NT_table_0 : decode b_NT_table 0 = .ok (.iload_n 1, 1) := by decide +kernel
theorem d_NT_table_1 : decode b_NT_table 1 = .ok (.iconst 1, 1) := by decide +kernel
theorem d_NT_table_2 : decode b_NT_table 2 = .ok (.if_icmp .lt 20, 3) := by decide +kernel
theorem d_NT_table_5 : decode b_NT_table 5 = .ok (.iload_n 1, 1) := by decide +kernel
theorem d_NT_table_6 : decode b_NT_table 6 = .ok (.bipush 8, 2) := by decide +kernel
theorem d_NT_table_8 : decode b_NT_table 8 = .ok (.if_icmp .gt 14, 3) := by decide +kernel
theorem d_NT_table_11 : decode b_NT_table 11 = .ok (.iload_n 2, 1) := by decide +kernel
theorem d_NT_table_12 : decode b_NT_table 12 = .ok (.iconst 1, 1) := by decide +kernel
theorem d_NT_table_13 : decode b_NT_table 13 = .ok (.if_icmp .lt 9, 3) := by decide +kernel
theorem d_NT_table_16 : decode b_NT_table 16 = .ok (.iload_n 2, 1) := by decide +kernel
theorem d_NT_table_17 : decode b_NT_table 17 = .ok (.bipush 8, 2) := by decide +kernel
theorem d_NT_table_19 : decode b_NT_table 19 = .ok (.if_icmp .le 13, 3) := by decide +kernel
theorem d_NT_table_22 : decode b_NT_table 22 = .ok (.new 72, 3) := by decide +kernel
theorem d_NT_table_25 : decode b_NT_table 25 = .ok (.dup, 1) := by decide +kernel
theorem d_NT_table_26 : decode b_NT_table 26 = .ok (.ldc 101, 2) := by decide +kernel
theorem d_NT_table_28 : decode b_NT_table 28 = .ok (.invokespecial 76, 3) := by decide +kernel
theorem d_NT_table_31 : decode b_NT_table 31 = .ok (.athrow, 1) := by decide +kernel
theorem d_NT_table_32 : decode b_NT_table 32 = .ok (.aload_n 0, 1) := by decide +kernel
theorem d_NT_table_33 : decode b_NT_table 33 = .ok (.getfield 42, 3) := by decide +kernel
theorem d_NT_table_36 : decode b_NT_table 36 = .ok (.iload_n 1, 1) := by decide +kernel
theorem d_NT_table_37 : decode b_NT_table 37 = .ok (.iload_n 2, 1) := by decide +kernel
theorem d_NT_table_38 : decode b_NT_table 38 = .ok (.invokevirtual 103, 3) := by decide +kernel
theorem d_NT_table_41 : decode b_NT_table 41 = .ok (.return_, 1) := by decide +kernel
theorem d_NT_set_0 : decode b_NT_set 0 = .ok (.aload_n 0, 1) := by decide +kernel
theorem d_NT_set_1 : decode b_NT_set 1 = .ok (.getfield 42, 3) := by decide +kernel
theorem d_NT_set_4 : decode b_NT_set 4 = .ok (.iload_n 1, 1) := by decide +kernel
theorem d_NT_set_5 : decode b_NT_set 5 = .ok (.iload_n 2, 1) := by decide +kernel
theorem d_NT_set_6 : decode b_NT_set 6 = .ok (.invokevirtual 107, 3) := by decide +kernel
theorem d_NT_set_9 : decode b_NT_set 9 = .ok (.ifCond .ne 13, 3) := by decide +kernel
theorem d_NT_set_12 : decode b_NT_set 12 = .ok (.new 111, 3) := by decide +kernel
theorem d_NT_set_15 : decode b_NT_set 15 = .ok (.dup, 1) := by decide +kernel
theorem d_NT_set_16 : decode b_NT_set 16 = .ok (.ldc 113, 2) := by decide +kernel
theorem d_NT_set_18 : decode b_NT_set 18 = .ok (.invokespecial 115, 3) := by decide +kernel
theorem d_NT_set_21 : decode b_NT_set 21 = .ok (.athrow, 1) := by decide +kernel
theorem d_NT_set_22 : decode b_NT_set 22 = .ok (.aload_n 0, 1) := by decide +kernel
theorem d_NT_set_23 : decode b_NT_set 23 = .ok (.getfield 42, 3) := by decide +kernel
theorem d_NT_set_26 : decode b_NT_set 26 = .ok (.iload_n 1, 1) := by decide +kernel
theorem d_NT_set_27 : decode b_NT_set 27 = .ok (.iload_n 2, 1) := by decide +kernel
theorem d_NT_set_28 : decode b_NT_set 28 = .ok (.lload_n 3, 1) := by decide +kernel
theorem d_NT_set_29 : decode b_NT_set 29 = .ok (.invokevirtual 116, 3) := by decide +kernel
theorem d_NT_set_32 : decode b_NT_set 32 = .ok (.return_, 1) := by decide +kernel
theorem d_NT_layout_0 : decode b_NT_layout 0 = .ok (.iload_n 1, 1) := by decide +kernel
theorem d_NT_layout_1 : decode b_NT_layout 1 = .ok (.iconst 1, 1) := by decide +kernel
theorem d_NT_layout_2 : decode b_NT_layout 2 = .ok (.if_icmp .lt 9, 3) := by decide +kernel
theorem d_NT_layout_5 : decode b_NT_layout 5 = .ok (.iload_n 1, 1) := by decide +kernel
theorem d_NT_layout_6 : decode b_NT_layout 6 = .ok (.bipush 17, 2) := by decide +kernel
theorem d_NT_layout_8 : decode b_NT_layout 8 = .ok (.if_icmp .le 13, 3) := by decide +kernel
theorem d_NT_layout_11 : decode b_NT_layout 11 = .ok (.new 72, 3) := by decide +kernel
theorem d_NT_layout_14 : decode b_NT_layout 14 = .ok (.dup, 1) := by decide +kernel
theorem d_NT_layout_15 : decode b_NT_layout 15 = .ok (.ldc 87, 2) := by decide +kernel
theorem d_NT_layout_17 : decode b_NT_layout 17 = .ok (.invokespecial 76, 3) := by decide +kernel
theorem d_NT_layout_20 : decode b_NT_layout 20 = .ok (.athrow, 1) := by decide +kernel
theorem d_NT_layout_21 : decode b_NT_layout 21 = .ok (.aload_n 0, 1) := by decide +kernel
theorem d_NT_layout_22 : decode b_NT_layout 22 = .ok (.getfield 42, 3) := by decide +kernel
theorem d_NT_layout_25 : decode b_NT_layout 25 = .ok (.iload_n 1, 1) := by decide +kernel
theorem d_NT_layout_26 : decode b_NT_layout 26 = .ok (.invokevirtual 120, 3) := by decide +kernel
theorem d_NT_layout_29 : decode b_NT_layout 29 = .ok (.ireturn, 1) := by decide +kernel
