def R_Law : String := "NumberTextLaw"
def y_Law_read : MethodName := ⟨R_Law, "read", "(LNumberText;[J)I"⟩
abbrev b_Law_read : ByteArray := method_3_code
def y_Law_digits : MethodName := ⟨R_Law, "digits", "(LNumberText;JI[J)I"⟩
abbrev b_Law_digits : ByteArray := method_4_code
def y_Law_places : MethodName := ⟨R_Law, "places", "(LNumberText;JI[J)I"⟩
abbrev b_Law_places : ByteArray := method_5_code
def y_Law_table : MethodName := ⟨R_Law, "table", "(LNumberText;II)I"⟩
abbrev b_Law_table : ByteArray := method_6_code
def y_Law_set : MethodName := ⟨R_Law, "set", "(LNumberText;IIJ)I"⟩
abbrev b_Law_set : ByteArray := method_7_code
def y_Law_layout : MethodName := ⟨R_Law, "layout", "(LNumberText;I[J)I"⟩
abbrev b_Law_layout : ByteArray := method_8_code
theorem g_419 : (Cond.instanceMethod y_NT_read) ∈ xG := List.mem_filter.mpr ⟨List.mem_append_right _ (List.mem_of_getElem? (i := 419) (by decide +kernel)), by decide +kernel⟩
theorem g_420 : (Cond.selects R_NT y_NT_read y_NT_read) ∈ xG := List.mem_filter.mpr ⟨List.mem_append_right _ (List.mem_of_getElem? (i := 420) (by decide +kernel)), by decide +kernel⟩
theorem g_418 : (Cond.methodLink R_Law 7 y_NT_read) ∈ xG := List.mem_filter.mpr ⟨List.mem_append_right _ (List.mem_of_getElem? (i := 418) (by decide +kernel)), by decide +kernel⟩
set_option maxRecDepth 100000 in
theorem g_421 : (Cond.code y_NT_read b_NT_read 2 (some .long)) ∈ xG := List.mem_filter.mpr ⟨List.mem_append_right _ (List.mem_append_right _ (List.mem_append_left _ (List.mem_of_getElem? (i := 181) rfl))), by decide +kernel⟩
theorem g_417 : (Cond.classLink R_Law 13 xIA) ∈ xG := List.mem_filter.mpr ⟨List.mem_append_right _ (List.mem_of_getElem? (i := 417) (by decide +kernel)), by decide +kernel⟩
theorem g_586 : (Cond.instanceMethod y_NT_digits) ∈ xG := List.mem_filter.mpr ⟨List.mem_append_right _ (List.mem_of_getElem? (i := 586) (by decide +kernel)), by decide +kernel⟩
theorem g_587 : (Cond.selects R_NT y_NT_digits y_NT_digits) ∈ xG := List.mem_filter.mpr ⟨List.mem_append_right _ (List.mem_of_getElem? (i := 587) (by decide +kernel)), by decide +kernel⟩
theorem g_585 : (Cond.methodLink R_Law 15 y_NT_digits) ∈ xG := List.mem_filter.mpr ⟨List.mem_append_right _ (List.mem_of_getElem? (i := 585) (by decide +kernel)), by decide +kernel⟩
set_option maxRecDepth 100000 in
theorem g_588 : (Cond.code y_NT_digits b_NT_digits 4 (some .int)) ∈ xG := List.mem_filter.mpr ⟨List.mem_append_right _ (List.mem_append_right _ (List.mem_append_right _ (List.mem_append_left _ (List.mem_of_getElem? (i := 108) rfl)))), by decide +kernel⟩
theorem g_598 : (Cond.instanceMethod y_NT_places) ∈ xG := List.mem_filter.mpr ⟨List.mem_append_right _ (List.mem_of_getElem? (i := 598) (by decide +kernel)), by decide +kernel⟩
theorem g_599 : (Cond.selects R_NT y_NT_places y_NT_places) ∈ xG := List.mem_filter.mpr ⟨List.mem_append_right _ (List.mem_of_getElem? (i := 599) (by decide +kernel)), by decide +kernel⟩
theorem g_597 : (Cond.methodLink R_Law 19 y_NT_places) ∈ xG := List.mem_filter.mpr ⟨List.mem_append_right _ (List.mem_of_getElem? (i := 597) (by decide +kernel)), by decide +kernel⟩
set_option maxRecDepth 100000 in
theorem g_600 : (Cond.code y_NT_places b_NT_places 4 (some .int)) ∈ xG := List.mem_filter.mpr ⟨List.mem_append_right _ (List.mem_append_right _ (List.mem_append_right _ (List.mem_append_left _ (List.mem_of_getElem? (i := 120) rfl)))), by decide +kernel⟩
theorem g_610 : (Cond.instanceMethod y_NT_table) ∈ xG := List.mem_filter.mpr ⟨List.mem_append_right _ (List.mem_of_getElem? (i := 610) (by decide +kernel)), by decide +kernel⟩
theorem g_611 : (Cond.selects R_NT y_NT_table y_NT_table) ∈ xG := List.mem_filter.mpr ⟨List.mem_append_right _ (List.mem_of_getElem? (i := 611) (by decide +kernel)), by decide +kernel⟩
theorem g_609 : (Cond.methodLink R_Law 22 y_NT_table) ∈ xG := List.mem_filter.mpr ⟨List.mem_append_right _ (List.mem_of_getElem? (i := 609) (by decide +kernel)), by decide +kernel⟩
set_option maxRecDepth 100000 in
theorem g_612 : (Cond.code y_NT_table b_NT_table 3 none) ∈ xG := List.mem_filter.mpr ⟨List.mem_append_right _ (List.mem_append_right _ (List.mem_append_right _ (List.mem_append_left _ (List.mem_of_getElem? (i := 132) rfl)))), by decide +kernel⟩
theorem g_623 : (Cond.instanceMethod y_NT_set) ∈ xG := List.mem_filter.mpr ⟨List.mem_append_right _ (List.mem_of_getElem? (i := 623) (by decide +kernel)), by decide +kernel⟩
theorem g_624 : (Cond.selects R_NT y_NT_set y_NT_set) ∈ xG := List.mem_filter.mpr ⟨List.mem_append_right _ (List.mem_of_getElem? (i := 624) (by decide +kernel)), by decide +kernel⟩
theorem g_622 : (Cond.methodLink R_Law 26 y_NT_set) ∈ xG := List.mem_filter.mpr ⟨List.mem_append_right _ (List.mem_of_getElem? (i := 622) (by decide +kernel)), by decide +kernel⟩
set_option maxRecDepth 100000 in
theorem g_625 : (Cond.code y_NT_set b_NT_set 5 none) ∈ xG := List.mem_filter.mpr ⟨List.mem_append_right _ (List.mem_append_right _ (List.mem_append_right _ (List.mem_append_left _ (List.mem_of_getElem? (i := 145) rfl)))), by decide +kernel⟩
theorem g_621 : (Cond.classLink R_Law 30 xIO) ∈ xG := List.mem_filter.mpr ⟨List.mem_append_right _ (List.mem_of_getElem? (i := 621) (by decide +kernel)), by decide +kernel⟩
theorem g_654 : (Cond.instanceMethod y_NT_layout) ∈ xG := List.mem_filter.mpr ⟨List.mem_append_right _ (List.mem_of_getElem? (i := 654) (by decide +kernel)), by decide +kernel⟩
theorem g_655 : (Cond.selects R_NT y_NT_layout y_NT_layout) ∈ xG := List.mem_filter.mpr ⟨List.mem_append_right _ (List.mem_of_getElem? (i := 655) (by decide +kernel)), by decide +kernel⟩
theorem g_653 : (Cond.methodLink R_Law 32 y_NT_layout) ∈ xG := List.mem_filter.mpr ⟨List.mem_append_right _ (List.mem_of_getElem? (i := 653) (by decide +kernel)), by decide +kernel⟩
set_option maxRecDepth 100000 in
theorem g_656 : (Cond.code y_NT_layout b_NT_layout 2 (some .int)) ∈ xG := List.mem_filter.mpr ⟨List.mem_append_right _ (List.mem_append_right _ (List.mem_append_right _ (List.mem_append_left _ (List.mem_of_getElem? (i := 176) rfl)))), by decide +kernel⟩
theorem d_Law_read_0 : decode b_Law_read 0 = .ok (.aload_n 1, 1) := by decide +kernel
theorem d_Law_read_1 : decode b_Law_read 1 = .ok (.iconst 0, 1) := by decide +kernel
theorem d_Law_read_2 : decode b_Law_read 2 = .ok (.aload_n 0, 1) := by decide +kernel
theorem d_Law_read_3 : decode b_Law_read 3 = .ok (.invokevirtual 7, 3) := by decide +kernel
theorem d_Law_read_6 : decode b_Law_read 6 = .ok (.lastore, 1) := by decide +kernel
theorem d_Law_read_7 : decode b_Law_read 7 = .ok (.goto 6, 3) := by decide +kernel
theorem d_Law_read_10 : decode b_Law_read 10 = .ok (.astore_n 2, 1) := by decide +kernel
theorem d_Law_read_11 : decode b_Law_read 11 = .ok (.iconst 1, 1) := by decide +kernel
theorem d_Law_read_12 : decode b_Law_read 12 = .ok (.ireturn, 1) := by decide +kernel
theorem d_Law_read_13 : decode b_Law_read 13 = .ok (.iconst 0, 1) := by decide +kernel
theorem d_Law_read_14 : decode b_Law_read 14 = .ok (.ireturn, 1) := by decide +kernel
theorem d_Law_digits_0 : decode b_Law_digits 0 = .ok (.aload 4, 2) := by decide +kernel
theorem d_Law_digits_2 : decode b_Law_digits 2 = .ok (.iconst 0, 1) := by decide +kernel
theorem d_Law_digits_3 : decode b_Law_digits 3 = .ok (.aload_n 0, 1) := by decide +kernel
theorem d_Law_digits_4 : decode b_Law_digits 4 = .ok (.lload_n 1, 1) := by decide +kernel
theorem d_Law_digits_5 : decode b_Law_digits 5 = .ok (.iload_n 3, 1) := by decide +kernel
theorem d_Law_digits_6 : decode b_Law_digits 6 = .ok (.invokevirtual 15, 3) := by decide +kernel
theorem d_Law_digits_9 : decode b_Law_digits 9 = .ok (.i2l, 1) := by decide +kernel
theorem d_Law_digits_10 : decode b_Law_digits 10 = .ok (.lastore, 1) := by decide +kernel
theorem d_Law_digits_11 : decode b_Law_digits 11 = .ok (.goto 7, 3) := by decide +kernel
theorem d_Law_digits_14 : decode b_Law_digits 14 = .ok (.astore 5, 2) := by decide +kernel
theorem d_Law_digits_16 : decode b_Law_digits 16 = .ok (.iconst 1, 1) := by decide +kernel
theorem d_Law_digits_17 : decode b_Law_digits 17 = .ok (.ireturn, 1) := by decide +kernel
theorem d_Law_digits_18 : decode b_Law_digits 18 = .ok (.iconst 0, 1) := by decide +kernel
theorem d_Law_digits_19 : decode b_Law_digits 19 = .ok (.ireturn, 1) := by decide +kernel
theorem d_Law_places_0 : decode b_Law_places 0 = .ok (.aload 4, 2) := by decide +kernel
theorem d_Law_places_2 : decode b_Law_places 2 = .ok (.iconst 0, 1) := by decide +kernel
theorem d_Law_places_3 : decode b_Law_places 3 = .ok (.aload_n 0, 1) := by decide +kernel
theorem d_Law_places_4 : decode b_Law_places 4 = .ok (.lload_n 1, 1) := by decide +kernel
theorem d_Law_places_5 : decode b_Law_places 5 = .ok (.iload_n 3, 1) := by decide +kernel
theorem d_Law_places_6 : decode b_Law_places 6 = .ok (.invokevirtual 19, 3) := by decide +kernel
theorem d_Law_places_9 : decode b_Law_places 9 = .ok (.i2l, 1) := by decide +kernel
theorem d_Law_places_10 : decode b_Law_places 10 = .ok (.lastore, 1) := by decide +kernel
theorem d_Law_places_11 : decode b_Law_places 11 = .ok (.goto 7, 3) := by decide +kernel
theorem d_Law_places_14 : decode b_Law_places 14 = .ok (.astore 5, 2) := by decide +kernel
theorem d_Law_places_16 : decode b_Law_places 16 = .ok (.iconst 1, 1) := by decide +kernel
theorem d_Law_places_17 : decode b_Law_places 17 = .ok (.ireturn, 1) := by decide +kernel
theorem d_Law_places_18 : decode b_Law_places 18 = .ok (.iconst 0, 1) := by decide +kernel
theorem d_Law_places_19 : decode b_Law_places 19 = .ok (.ireturn, 1) := by decide +kernel
theorem d_Law_table_0 : decode b_Law_table 0 = .ok (.aload_n 0, 1) := by decide +kernel
theorem d_Law_table_1 : decode b_Law_table 1 = .ok (.iload_n 1, 1) := by decide +kernel
theorem d_Law_table_2 : decode b_Law_table 2 = .ok (.iload_n 2, 1) := by decide +kernel
theorem d_Law_table_3 : decode b_Law_table 3 = .ok (.invokevirtual 22, 3) := by decide +kernel
theorem d_Law_table_6 : decode b_Law_table 6 = .ok (.goto 6, 3) := by decide +kernel
theorem d_Law_table_9 : decode b_Law_table 9 = .ok (.astore_n 3, 1) := by decide +kernel
theorem d_Law_table_10 : decode b_Law_table 10 = .ok (.iconst 1, 1) := by decide +kernel
theorem d_Law_table_11 : decode b_Law_table 11 = .ok (.ireturn, 1) := by decide +kernel
theorem d_Law_table_12 : decode b_Law_table 12 = .ok (.iconst 0, 1) := by decide +kernel
theorem d_Law_table_13 : decode b_Law_table 13 = .ok (.ireturn, 1) := by decide +kernel
theorem d_Law_set_0 : decode b_Law_set 0 = .ok (.aload_n 0, 1) := by decide +kernel
theorem d_Law_set_1 : decode b_Law_set 1 = .ok (.iload_n 1, 1) := by decide +kernel
theorem d_Law_set_2 : decode b_Law_set 2 = .ok (.iload_n 2, 1) := by decide +kernel
theorem d_Law_set_3 : decode b_Law_set 3 = .ok (.lload_n 3, 1) := by decide +kernel
theorem d_Law_set_4 : decode b_Law_set 4 = .ok (.invokevirtual 26, 3) := by decide +kernel
theorem d_Law_set_7 : decode b_Law_set 7 = .ok (.goto 7, 3) := by decide +kernel
theorem d_Law_set_10 : decode b_Law_set 10 = .ok (.astore 5, 2) := by decide +kernel
theorem d_Law_set_12 : decode b_Law_set 12 = .ok (.iconst 1, 1) := by decide +kernel
theorem d_Law_set_13 : decode b_Law_set 13 = .ok (.ireturn, 1) := by decide +kernel
theorem d_Law_set_14 : decode b_Law_set 14 = .ok (.iconst 0, 1) := by decide +kernel
theorem d_Law_set_15 : decode b_Law_set 15 = .ok (.ireturn, 1) := by decide +kernel
theorem d_Law_layout_0 : decode b_Law_layout 0 = .ok (.aload_n 2, 1) := by decide +kernel
theorem d_Law_layout_1 : decode b_Law_layout 1 = .ok (.iconst 0, 1) := by decide +kernel
theorem d_Law_layout_2 : decode b_Law_layout 2 = .ok (.aload_n 0, 1) := by decide +kernel
theorem d_Law_layout_3 : decode b_Law_layout 3 = .ok (.iload_n 1, 1) := by decide +kernel
theorem d_Law_layout_4 : decode b_Law_layout 4 = .ok (.invokevirtual 32, 3) := by decide +kernel
theorem d_Law_layout_7 : decode b_Law_layout 7 = .ok (.i2l, 1) := by decide +kernel
theorem d_Law_layout_8 : decode b_Law_layout 8 = .ok (.lastore, 1) := by decide +kernel
theorem d_Law_layout_9 : decode b_Law_layout 9 = .ok (.goto 6, 3) := by decide +kernel
theorem d_Law_layout_12 : decode b_Law_layout 12 = .ok (.astore_n 3, 1) := by decide +kernel
theorem d_Law_layout_13 : decode b_Law_layout 13 = .ok (.iconst 1, 1) := by decide +kernel
theorem d_Law_layout_14 : decode b_Law_layout 14 = .ok (.ireturn, 1) := by decide +kernel
theorem d_Law_layout_15 : decode b_Law_layout 15 = .ok (.iconst 0, 1) := by decide +kernel
theorem d_Law_layout_16 : decode b_Law_layout 16 = .ok (.ireturn, 1) := by decide +kernel
