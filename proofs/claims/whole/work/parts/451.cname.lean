def y_Text_init : MethodName := ⟨R_Text, "<init>", "(I)V"⟩
abbrev b_Text_init : ByteArray := prog_7_method_1_code
def y_Decimal_init : MethodName := ⟨R_Decimal, "<init>", "(I)V"⟩
abbrev b_Decimal_init : ByteArray := prog_2_method_1_code
def y_Fixed_init : MethodName := ⟨R_Fixed, "<init>", "()V"⟩
abbrev b_Fixed_init : ByteArray := prog_3_method_1_code
def y_Nearest_init : MethodName := ⟨R_Nearest, "<init>", "(LNumberText$Fixed;)V"⟩
abbrev b_Nearest_init : ByteArray := prog_4_method_1_code
def y_Numeral_init : MethodName := ⟨R_Numeral, "<init>", "(LNumberText$Fixed;)V"⟩
abbrev b_Numeral_init : ByteArray := prog_5_method_1_code
def y_Writer_init : MethodName := ⟨R_Writer, "<init>", "(LNumberText$Fixed;)V"⟩
abbrev b_Writer_init : ByteArray := prog_8_method_1_code
def y_Table_init : MethodName := ⟨R_Table, "<init>", "(LNumberText$Writer;)V"⟩
abbrev b_Table_init : ByteArray := prog_6_method_1_code
def y_NT_init : MethodName := ⟨R_NT, "<init>", "()V"⟩
abbrev b_NT_init : ByteArray := prog_1_method_1_code
def y_Md_init : MethodName := ⟨R_Md, "<init>", "()V"⟩
abbrev b_Md_init : ByteArray := prog_10_method_1_code
theorem g_31 : (Cond.methodLink R_Text 3 Lib.objectInit) ∈ xG := List.mem_filter.mpr ⟨List.mem_append_right _ (List.mem_of_getElem? (i := 31) (by decide +kernel)), by decide +kernel⟩
theorem g_24 : (Cond.instanceMethod Lib.objectInit) ∈ xG := List.mem_filter.mpr ⟨List.mem_append_right _ (List.mem_of_getElem? (i := 24) (by decide +kernel)), by decide +kernel⟩
set_option maxRecDepth 100000 in
theorem g_25 : (Cond.code Lib.objectInit ⟨#[0xb1]⟩ 1 none) ∈ xG := List.mem_filter.mpr ⟨List.mem_append_right _ (List.mem_append_left _ (List.mem_of_getElem? (i := 25) rfl)), by decide +kernel⟩
theorem g_32 : (Cond.methodLink R_Text 9 Lib.Math.max.name) ∈ xG := List.mem_filter.mpr ⟨List.mem_append_right _ (List.mem_of_getElem? (i := 32) (by decide +kernel)), by decide +kernel⟩
theorem g_42 : (Cond.arrayClass .byte) ∈ xG := List.mem_filter.mpr ⟨List.mem_append_right _ (List.mem_of_getElem? (i := 42) (by decide +kernel)), by decide +kernel⟩
theorem g_71 : (Cond.methodLink R_Decimal 3 Lib.objectInit) ∈ xG := List.mem_filter.mpr ⟨List.mem_append_right _ (List.mem_of_getElem? (i := 71) (by decide +kernel)), by decide +kernel⟩
theorem g_48 : (Cond.methodLink R_Fixed 3 Lib.objectInit) ∈ xG := List.mem_filter.mpr ⟨List.mem_append_right _ (List.mem_of_getElem? (i := 48) (by decide +kernel)), by decide +kernel⟩
theorem g_59 : (Cond.arrayClass .int) ∈ xG := List.mem_filter.mpr ⟨List.mem_append_right _ (List.mem_of_getElem? (i := 59) (by decide +kernel)), by decide +kernel⟩
theorem g_88 : (Cond.methodLink R_Nearest 3 Lib.objectInit) ∈ xG := List.mem_filter.mpr ⟨List.mem_append_right _ (List.mem_of_getElem? (i := 88) (by decide +kernel)), by decide +kernel⟩
theorem g_65 : (Cond.methodLink R_Numeral 3 Lib.objectInit) ∈ xG := List.mem_filter.mpr ⟨List.mem_append_right _ (List.mem_of_getElem? (i := 65) (by decide +kernel)), by decide +kernel⟩
theorem g_66 : (Cond.classLink R_Numeral 9 R_Decimal) ∈ xG := List.mem_filter.mpr ⟨List.mem_append_right _ (List.mem_of_getElem? (i := 66) (by decide +kernel)), by decide +kernel⟩
theorem g_67 : (Cond.instantiable R_Decimal 3) ∈ xG := List.mem_filter.mpr ⟨List.mem_append_right _ (List.mem_of_getElem? (i := 67) (by decide +kernel)), by decide +kernel⟩
set_option maxRecDepth 100000 in
theorem g_70 : (Cond.code y_Decimal_init b_Decimal_init 2 none) ∈ xG := List.mem_filter.mpr ⟨List.mem_append_right _ (List.mem_append_left _ (List.mem_of_getElem? (i := 70) rfl)), by decide +kernel⟩
theorem g_68 : (Cond.methodLink R_Numeral 11 y_Decimal_init) ∈ xG := List.mem_filter.mpr ⟨List.mem_append_right _ (List.mem_of_getElem? (i := 68) (by decide +kernel)), by decide +kernel⟩
theorem g_69 : (Cond.instanceMethod y_Decimal_init) ∈ xG := List.mem_filter.mpr ⟨List.mem_append_right _ (List.mem_of_getElem? (i := 69) (by decide +kernel)), by decide +kernel⟩
theorem g_83 : (Cond.classLink R_Numeral 20 R_Nearest) ∈ xG := List.mem_filter.mpr ⟨List.mem_append_right _ (List.mem_of_getElem? (i := 83) (by decide +kernel)), by decide +kernel⟩
theorem g_84 : (Cond.instantiable R_Nearest 2) ∈ xG := List.mem_filter.mpr ⟨List.mem_append_right _ (List.mem_of_getElem? (i := 84) (by decide +kernel)), by decide +kernel⟩
set_option maxRecDepth 100000 in
theorem g_87 : (Cond.code y_Nearest_init b_Nearest_init 2 none) ∈ xG := List.mem_filter.mpr ⟨List.mem_append_right _ (List.mem_append_left _ (List.mem_of_getElem? (i := 87) rfl)), by decide +kernel⟩
theorem g_85 : (Cond.methodLink R_Numeral 22 y_Nearest_init) ∈ xG := List.mem_filter.mpr ⟨List.mem_append_right _ (List.mem_of_getElem? (i := 85) (by decide +kernel)), by decide +kernel⟩
theorem g_86 : (Cond.instanceMethod y_Nearest_init) ∈ xG := List.mem_filter.mpr ⟨List.mem_append_right _ (List.mem_of_getElem? (i := 86) (by decide +kernel)), by decide +kernel⟩
theorem g_120 : (Cond.methodLink R_Writer 3 Lib.objectInit) ∈ xG := List.mem_filter.mpr ⟨List.mem_append_right _ (List.mem_of_getElem? (i := 120) (by decide +kernel)), by decide +kernel⟩
theorem g_121 : (Cond.classLink R_Writer 15 R_Decimal) ∈ xG := List.mem_filter.mpr ⟨List.mem_append_right _ (List.mem_of_getElem? (i := 121) (by decide +kernel)), by decide +kernel⟩
theorem g_122 : (Cond.methodLink R_Writer 17 y_Decimal_init) ∈ xG := List.mem_filter.mpr ⟨List.mem_append_right _ (List.mem_of_getElem? (i := 122) (by decide +kernel)), by decide +kernel⟩
theorem g_141 : (Cond.methodLink R_Table 5 Lib.objectInit) ∈ xG := List.mem_filter.mpr ⟨List.mem_append_right _ (List.mem_of_getElem? (i := 141) (by decide +kernel)), by decide +kernel⟩
theorem g_169 : (Cond.arrayClass .long) ∈ xG := List.mem_filter.mpr ⟨List.mem_append_right _ (List.mem_of_getElem? (i := 169) (by decide +kernel)), by decide +kernel⟩
theorem g_142 : (Cond.classLink R_Table 26 R_Text) ∈ xG := List.mem_filter.mpr ⟨List.mem_append_right _ (List.mem_of_getElem? (i := 142) (by decide +kernel)), by decide +kernel⟩
theorem g_27 : (Cond.instantiable R_Text 2) ∈ xG := List.mem_filter.mpr ⟨List.mem_append_right _ (List.mem_of_getElem? (i := 27) (by decide +kernel)), by decide +kernel⟩
set_option maxRecDepth 100000 in
theorem g_30 : (Cond.code y_Text_init b_Text_init 2 none) ∈ xG := List.mem_filter.mpr ⟨List.mem_append_right _ (List.mem_append_left _ (List.mem_of_getElem? (i := 30) rfl)), by decide +kernel⟩
theorem g_143 : (Cond.methodLink R_Table 28 y_Text_init) ∈ xG := List.mem_filter.mpr ⟨List.mem_append_right _ (List.mem_of_getElem? (i := 143) (by decide +kernel)), by decide +kernel⟩
theorem g_29 : (Cond.instanceMethod y_Text_init) ∈ xG := List.mem_filter.mpr ⟨List.mem_append_right _ (List.mem_of_getElem? (i := 29) (by decide +kernel)), by decide +kernel⟩
theorem g_23 : (Cond.methodLink R_NT 1 Lib.objectInit) ∈ xG := List.mem_filter.mpr ⟨List.mem_append_right _ (List.mem_of_getElem? (i := 23) (by decide +kernel)), by decide +kernel⟩
theorem g_26 : (Cond.classLink R_NT 7 R_Text) ∈ xG := List.mem_filter.mpr ⟨List.mem_append_right _ (List.mem_of_getElem? (i := 26) (by decide +kernel)), by decide +kernel⟩
theorem g_28 : (Cond.methodLink R_NT 11 y_Text_init) ∈ xG := List.mem_filter.mpr ⟨List.mem_append_right _ (List.mem_of_getElem? (i := 28) (by decide +kernel)), by decide +kernel⟩
theorem g_43 : (Cond.classLink R_NT 18 R_Fixed) ∈ xG := List.mem_filter.mpr ⟨List.mem_append_right _ (List.mem_of_getElem? (i := 43) (by decide +kernel)), by decide +kernel⟩
theorem g_44 : (Cond.instantiable R_Fixed 3) ∈ xG := List.mem_filter.mpr ⟨List.mem_append_right _ (List.mem_of_getElem? (i := 44) (by decide +kernel)), by decide +kernel⟩
set_option maxRecDepth 100000 in
theorem g_47 : (Cond.code y_Fixed_init b_Fixed_init 1 none) ∈ xG := List.mem_filter.mpr ⟨List.mem_append_right _ (List.mem_append_left _ (List.mem_of_getElem? (i := 47) rfl)), by decide +kernel⟩
theorem g_45 : (Cond.methodLink R_NT 20 y_Fixed_init) ∈ xG := List.mem_filter.mpr ⟨List.mem_append_right _ (List.mem_of_getElem? (i := 45) (by decide +kernel)), by decide +kernel⟩
theorem g_46 : (Cond.instanceMethod y_Fixed_init) ∈ xG := List.mem_filter.mpr ⟨List.mem_append_right _ (List.mem_of_getElem? (i := 46) (by decide +kernel)), by decide +kernel⟩
theorem g_60 : (Cond.classLink R_NT 21 R_Numeral) ∈ xG := List.mem_filter.mpr ⟨List.mem_append_right _ (List.mem_of_getElem? (i := 60) (by decide +kernel)), by decide +kernel⟩
theorem g_61 : (Cond.instantiable R_Numeral 6) ∈ xG := List.mem_filter.mpr ⟨List.mem_append_right _ (List.mem_of_getElem? (i := 61) (by decide +kernel)), by decide +kernel⟩
set_option maxRecDepth 100000 in
theorem g_64 : (Cond.code y_Numeral_init b_Numeral_init 2 none) ∈ xG := List.mem_filter.mpr ⟨List.mem_append_right _ (List.mem_append_left _ (List.mem_of_getElem? (i := 64) rfl)), by decide +kernel⟩
theorem g_62 : (Cond.methodLink R_NT 23 y_Numeral_init) ∈ xG := List.mem_filter.mpr ⟨List.mem_append_right _ (List.mem_of_getElem? (i := 62) (by decide +kernel)), by decide +kernel⟩
theorem g_63 : (Cond.instanceMethod y_Numeral_init) ∈ xG := List.mem_filter.mpr ⟨List.mem_append_right _ (List.mem_of_getElem? (i := 63) (by decide +kernel)), by decide +kernel⟩
theorem g_115 : (Cond.classLink R_NT 30 R_Writer) ∈ xG := List.mem_filter.mpr ⟨List.mem_append_right _ (List.mem_of_getElem? (i := 115) (by decide +kernel)), by decide +kernel⟩
theorem g_116 : (Cond.instantiable R_Writer 4) ∈ xG := List.mem_filter.mpr ⟨List.mem_append_right _ (List.mem_of_getElem? (i := 116) (by decide +kernel)), by decide +kernel⟩
set_option maxRecDepth 100000 in
theorem g_119 : (Cond.code y_Writer_init b_Writer_init 2 none) ∈ xG := List.mem_filter.mpr ⟨List.mem_append_right _ (List.mem_append_left _ (List.mem_of_getElem? (i := 119) rfl)), by decide +kernel⟩
theorem g_117 : (Cond.methodLink R_NT 32 y_Writer_init) ∈ xG := List.mem_filter.mpr ⟨List.mem_append_right _ (List.mem_of_getElem? (i := 117) (by decide +kernel)), by decide +kernel⟩
theorem g_118 : (Cond.instanceMethod y_Writer_init) ∈ xG := List.mem_filter.mpr ⟨List.mem_append_right _ (List.mem_of_getElem? (i := 118) (by decide +kernel)), by decide +kernel⟩
theorem g_136 : (Cond.classLink R_NT 37 R_Table) ∈ xG := List.mem_filter.mpr ⟨List.mem_append_right _ (List.mem_of_getElem? (i := 136) (by decide +kernel)), by decide +kernel⟩
theorem g_137 : (Cond.instantiable R_Table 8) ∈ xG := List.mem_filter.mpr ⟨List.mem_append_right _ (List.mem_of_getElem? (i := 137) (by decide +kernel)), by decide +kernel⟩
set_option maxRecDepth 100000 in
theorem g_140 : (Cond.code y_Table_init b_Table_init 2 none) ∈ xG := List.mem_filter.mpr ⟨List.mem_append_right _ (List.mem_append_left _ (List.mem_of_getElem? (i := 140) rfl)), by decide +kernel⟩
theorem g_138 : (Cond.methodLink R_NT 39 y_Table_init) ∈ xG := List.mem_filter.mpr ⟨List.mem_append_right _ (List.mem_of_getElem? (i := 138) (by decide +kernel)), by decide +kernel⟩
theorem g_139 : (Cond.instanceMethod y_Table_init) ∈ xG := List.mem_filter.mpr ⟨List.mem_append_right _ (List.mem_of_getElem? (i := 139) (by decide +kernel)), by decide +kernel⟩
theorem g_705 : (Cond.methodLink R_Md 1 Lib.objectInit) ∈ xG := List.mem_filter.mpr ⟨List.mem_append_right _ (List.mem_of_getElem? (i := 705) (by decide +kernel)), by decide +kernel⟩
theorem d_Text_init_0 : decode b_Text_init 0 = .ok (.aload_n 0, 1) := by decide +kernel
theorem d_Text_init_1 : decode b_Text_init 1 = .ok (.invokespecial 3, 3) := by decide +kernel
theorem d_Text_init_4 : decode b_Text_init 4 = .ok (.aload_n 0, 1) := by decide +kernel
theorem d_Text_init_5 : decode b_Text_init 5 = .ok (.iconst 0, 1) := by decide +kernel
theorem d_Text_init_6 : decode b_Text_init 6 = .ok (.iload_n 1, 1) := by decide +kernel
theorem d_Text_init_7 : decode b_Text_init 7 = .ok (.invokestatic 9, 3) := by decide +kernel
theorem d_Text_init_10 : decode b_Text_init 10 = .ok (.newarray .byte, 2) := by decide +kernel
theorem d_Text_init_12 : decode b_Text_init 12 = .ok (.putfield 15, 3) := by decide +kernel
theorem d_Text_init_15 : decode b_Text_init 15 = .ok (.aload_n 0, 1) := by decide +kernel
theorem d_Text_init_16 : decode b_Text_init 16 = .ok (.iconst 0, 1) := by decide +kernel
theorem d_Text_init_17 : decode b_Text_init 17 = .ok (.putfield 21, 3) := by decide +kernel
theorem d_Text_init_20 : decode b_Text_init 20 = .ok (.return_, 1) := by decide +kernel
theorem d_Decimal_init_0 : decode b_Decimal_init 0 = .ok (.aload_n 0, 1) := by decide +kernel
theorem d_Decimal_init_1 : decode b_Decimal_init 1 = .ok (.invokespecial 3, 3) := by decide +kernel
theorem d_Decimal_init_4 : decode b_Decimal_init 4 = .ok (.aload_n 0, 1) := by decide +kernel
theorem d_Decimal_init_5 : decode b_Decimal_init 5 = .ok (.iconst 0, 1) := by decide +kernel
theorem d_Decimal_init_6 : decode b_Decimal_init 6 = .ok (.iload_n 1, 1) := by decide +kernel
theorem d_Decimal_init_7 : decode b_Decimal_init 7 = .ok (.invokestatic 9, 3) := by decide +kernel
theorem d_Decimal_init_10 : decode b_Decimal_init 10 = .ok (.newarray .byte, 2) := by decide +kernel
theorem d_Decimal_init_12 : decode b_Decimal_init 12 = .ok (.putfield 15, 3) := by decide +kernel
theorem d_Decimal_init_15 : decode b_Decimal_init 15 = .ok (.aload_n 0, 1) := by decide +kernel
theorem d_Decimal_init_16 : decode b_Decimal_init 16 = .ok (.iconst 0, 1) := by decide +kernel
theorem d_Decimal_init_17 : decode b_Decimal_init 17 = .ok (.putfield 21, 3) := by decide +kernel
theorem d_Decimal_init_20 : decode b_Decimal_init 20 = .ok (.aload_n 0, 1) := by decide +kernel
theorem d_Decimal_init_21 : decode b_Decimal_init 21 = .ok (.iconst 0, 1) := by decide +kernel
theorem d_Decimal_init_22 : decode b_Decimal_init 22 = .ok (.putfield 25, 3) := by decide +kernel
theorem d_Decimal_init_25 : decode b_Decimal_init 25 = .ok (.return_, 1) := by decide +kernel
theorem d_Fixed_init_0 : decode b_Fixed_init 0 = .ok (.aload_n 0, 1) := by decide +kernel
theorem d_Fixed_init_1 : decode b_Fixed_init 1 = .ok (.invokespecial 3, 3) := by decide +kernel
theorem d_Fixed_init_4 : decode b_Fixed_init 4 = .ok (.aload_n 0, 1) := by decide +kernel
theorem d_Fixed_init_5 : decode b_Fixed_init 5 = .ok (.sipush 255, 3) := by decide +kernel
theorem d_Fixed_init_8 : decode b_Fixed_init 8 = .ok (.newarray .int, 2) := by decide +kernel
theorem d_Fixed_init_10 : decode b_Fixed_init 10 = .ok (.putfield 11, 3) := by decide +kernel
theorem d_Fixed_init_13 : decode b_Fixed_init 13 = .ok (.aload_n 0, 1) := by decide +kernel
theorem d_Fixed_init_14 : decode b_Fixed_init 14 = .ok (.bipush 35, 2) := by decide +kernel
theorem d_Fixed_init_16 : decode b_Fixed_init 16 = .ok (.putfield 15, 3) := by decide +kernel
theorem d_Fixed_init_19 : decode b_Fixed_init 19 = .ok (.aload_n 0, 1) := by decide +kernel
theorem d_Fixed_init_20 : decode b_Fixed_init 20 = .ok (.bipush 35, 2) := by decide +kernel
theorem d_Fixed_init_22 : decode b_Fixed_init 22 = .ok (.putfield 19, 3) := by decide +kernel
theorem d_Fixed_init_25 : decode b_Fixed_init 25 = .ok (.return_, 1) := by decide +kernel
theorem d_Nearest_init_0 : decode b_Nearest_init 0 = .ok (.aload_n 0, 1) := by decide +kernel
theorem d_Nearest_init_1 : decode b_Nearest_init 1 = .ok (.invokespecial 3, 3) := by decide +kernel
theorem d_Nearest_init_4 : decode b_Nearest_init 4 = .ok (.aload_n 0, 1) := by decide +kernel
theorem d_Nearest_init_5 : decode b_Nearest_init 5 = .ok (.aload_n 1, 1) := by decide +kernel
theorem d_Nearest_init_6 : decode b_Nearest_init 6 = .ok (.putfield 9, 3) := by decide +kernel
theorem d_Nearest_init_9 : decode b_Nearest_init 9 = .ok (.aload_n 0, 1) := by decide +kernel
theorem d_Nearest_init_10 : decode b_Nearest_init 10 = .ok (.iconst 0, 1) := by decide +kernel
theorem d_Nearest_init_11 : decode b_Nearest_init 11 = .ok (.putfield 15, 3) := by decide +kernel
theorem d_Nearest_init_14 : decode b_Nearest_init 14 = .ok (.return_, 1) := by decide +kernel
theorem d_Numeral_init_0 : decode b_Numeral_init 0 = .ok (.aload_n 0, 1) := by decide +kernel
theorem d_Numeral_init_1 : decode b_Numeral_init 1 = .ok (.invokespecial 3, 3) := by decide +kernel
theorem d_Numeral_init_4 : decode b_Numeral_init 4 = .ok (.aload_n 0, 1) := by decide +kernel
theorem d_Numeral_init_5 : decode b_Numeral_init 5 = .ok (.new 9, 3) := by decide +kernel
theorem d_Numeral_init_8 : decode b_Numeral_init 8 = .ok (.dup, 1) := by decide +kernel
theorem d_Numeral_init_9 : decode b_Numeral_init 9 = .ok (.sipush 1200, 3) := by decide +kernel
theorem d_Numeral_init_12 : decode b_Numeral_init 12 = .ok (.invokespecial 11, 3) := by decide +kernel
theorem d_Numeral_init_15 : decode b_Numeral_init 15 = .ok (.putfield 14, 3) := by decide +kernel
theorem d_Numeral_init_18 : decode b_Numeral_init 18 = .ok (.aload_n 0, 1) := by decide +kernel
theorem d_Numeral_init_19 : decode b_Numeral_init 19 = .ok (.new 20, 3) := by decide +kernel
theorem d_Numeral_init_22 : decode b_Numeral_init 22 = .ok (.dup, 1) := by decide +kernel
theorem d_Numeral_init_23 : decode b_Numeral_init 23 = .ok (.aload_n 1, 1) := by decide +kernel
theorem d_Numeral_init_24 : decode b_Numeral_init 24 = .ok (.invokespecial 22, 3) := by decide +kernel
theorem d_Numeral_init_27 : decode b_Numeral_init 27 = .ok (.putfield 25, 3) := by decide +kernel
theorem d_Numeral_init_30 : decode b_Numeral_init 30 = .ok (.aload_n 0, 1) := by decide +kernel
theorem d_Numeral_init_31 : decode b_Numeral_init 31 = .ok (.iconst 0, 1) := by decide +kernel
theorem d_Numeral_init_32 : decode b_Numeral_init 32 = .ok (.putfield 29, 3) := by decide +kernel
theorem d_Numeral_init_35 : decode b_Numeral_init 35 = .ok (.aload_n 0, 1) := by decide +kernel
theorem d_Numeral_init_36 : decode b_Numeral_init 36 = .ok (.iconst 0, 1) := by decide +kernel
theorem d_Numeral_init_37 : decode b_Numeral_init 37 = .ok (.putfield 33, 3) := by decide +kernel
theorem d_Numeral_init_40 : decode b_Numeral_init 40 = .ok (.aload_n 0, 1) := by decide +kernel
theorem d_Numeral_init_41 : decode b_Numeral_init 41 = .ok (.iconst 0, 1) := by decide +kernel
theorem d_Numeral_init_42 : decode b_Numeral_init 42 = .ok (.putfield 37, 3) := by decide +kernel
theorem d_Numeral_init_45 : decode b_Numeral_init 45 = .ok (.aload_n 0, 1) := by decide +kernel
theorem d_Numeral_init_46 : decode b_Numeral_init 46 = .ok (.iconst 0, 1) := by decide +kernel
theorem d_Numeral_init_47 : decode b_Numeral_init 47 = .ok (.putfield 40, 3) := by decide +kernel
theorem d_Numeral_init_50 : decode b_Numeral_init 50 = .ok (.return_, 1) := by decide +kernel
theorem d_Writer_init_0 : decode b_Writer_init 0 = .ok (.aload_n 0, 1) := by decide +kernel
theorem d_Writer_init_1 : decode b_Writer_init 1 = .ok (.invokespecial 3, 3) := by decide +kernel
theorem d_Writer_init_4 : decode b_Writer_init 4 = .ok (.aload_n 0, 1) := by decide +kernel
theorem d_Writer_init_5 : decode b_Writer_init 5 = .ok (.aload_n 1, 1) := by decide +kernel
theorem d_Writer_init_6 : decode b_Writer_init 6 = .ok (.putfield 9, 3) := by decide +kernel
theorem d_Writer_init_9 : decode b_Writer_init 9 = .ok (.aload_n 0, 1) := by decide +kernel
theorem d_Writer_init_10 : decode b_Writer_init 10 = .ok (.new 15, 3) := by decide +kernel
theorem d_Writer_init_13 : decode b_Writer_init 13 = .ok (.dup, 1) := by decide +kernel
theorem d_Writer_init_14 : decode b_Writer_init 14 = .ok (.sipush 780, 3) := by decide +kernel
theorem d_Writer_init_17 : decode b_Writer_init 17 = .ok (.invokespecial 17, 3) := by decide +kernel
theorem d_Writer_init_20 : decode b_Writer_init 20 = .ok (.putfield 20, 3) := by decide +kernel
theorem d_Writer_init_23 : decode b_Writer_init 23 = .ok (.aload_n 0, 1) := by decide +kernel
theorem d_Writer_init_24 : decode b_Writer_init 24 = .ok (.new 15, 3) := by decide +kernel
theorem d_Writer_init_27 : decode b_Writer_init 27 = .ok (.dup, 1) := by decide +kernel
theorem d_Writer_init_28 : decode b_Writer_init 28 = .ok (.sipush 780, 3) := by decide +kernel
theorem d_Writer_init_31 : decode b_Writer_init 31 = .ok (.invokespecial 17, 3) := by decide +kernel
theorem d_Writer_init_34 : decode b_Writer_init 34 = .ok (.putfield 24, 3) := by decide +kernel
theorem d_Writer_init_37 : decode b_Writer_init 37 = .ok (.aload_n 0, 1) := by decide +kernel
theorem d_Writer_init_38 : decode b_Writer_init 38 = .ok (.new 15, 3) := by decide +kernel
theorem d_Writer_init_41 : decode b_Writer_init 41 = .ok (.dup, 1) := by decide +kernel
theorem d_Writer_init_42 : decode b_Writer_init 42 = .ok (.sipush 780, 3) := by decide +kernel
theorem d_Writer_init_45 : decode b_Writer_init 45 = .ok (.invokespecial 17, 3) := by decide +kernel
theorem d_Writer_init_48 : decode b_Writer_init 48 = .ok (.putfield 27, 3) := by decide +kernel
theorem d_Writer_init_51 : decode b_Writer_init 51 = .ok (.return_, 1) := by decide +kernel
theorem d_Table_init_0 : decode b_Table_init 0 = .ok (.aload_n 0, 1) := by decide +kernel
theorem d_Table_init_1 : decode b_Table_init 1 = .ok (.invokespecial 5, 3) := by decide +kernel
theorem d_Table_init_4 : decode b_Table_init 4 = .ok (.aload_n 0, 1) := by decide +kernel
theorem d_Table_init_5 : decode b_Table_init 5 = .ok (.aload_n 1, 1) := by decide +kernel
theorem d_Table_init_6 : decode b_Table_init 6 = .ok (.putfield 11, 3) := by decide +kernel
theorem d_Table_init_9 : decode b_Table_init 9 = .ok (.aload_n 0, 1) := by decide +kernel
theorem d_Table_init_10 : decode b_Table_init 10 = .ok (.bipush 64, 2) := by decide +kernel
theorem d_Table_init_12 : decode b_Table_init 12 = .ok (.newarray .long, 2) := by decide +kernel
theorem d_Table_init_14 : decode b_Table_init 14 = .ok (.putfield 15, 3) := by decide +kernel
theorem d_Table_init_17 : decode b_Table_init 17 = .ok (.aload_n 0, 1) := by decide +kernel
theorem d_Table_init_18 : decode b_Table_init 18 = .ok (.iconst 1, 1) := by decide +kernel
theorem d_Table_init_19 : decode b_Table_init 19 = .ok (.putfield 19, 3) := by decide +kernel
theorem d_Table_init_22 : decode b_Table_init 22 = .ok (.aload_n 0, 1) := by decide +kernel
theorem d_Table_init_23 : decode b_Table_init 23 = .ok (.iconst 1, 1) := by decide +kernel
theorem d_Table_init_24 : decode b_Table_init 24 = .ok (.putfield 23, 3) := by decide +kernel
theorem d_Table_init_27 : decode b_Table_init 27 = .ok (.aload_n 0, 1) := by decide +kernel
theorem d_Table_init_28 : decode b_Table_init 28 = .ok (.new 26, 3) := by decide +kernel
theorem d_Table_init_31 : decode b_Table_init 31 = .ok (.dup, 1) := by decide +kernel
theorem d_Table_init_32 : decode b_Table_init 32 = .ok (.sipush 304, 3) := by decide +kernel
theorem d_Table_init_35 : decode b_Table_init 35 = .ok (.invokespecial 28, 3) := by decide +kernel
theorem d_Table_init_38 : decode b_Table_init 38 = .ok (.putfield 31, 3) := by decide +kernel
theorem d_Table_init_41 : decode b_Table_init 41 = .ok (.aload_n 0, 1) := by decide +kernel
theorem d_Table_init_42 : decode b_Table_init 42 = .ok (.bipush 8, 2) := by decide +kernel
theorem d_Table_init_44 : decode b_Table_init 44 = .ok (.newarray .int, 2) := by decide +kernel
theorem d_Table_init_46 : decode b_Table_init 46 = .ok (.putfield 35, 3) := by decide +kernel
theorem d_Table_init_49 : decode b_Table_init 49 = .ok (.aload_n 0, 1) := by decide +kernel
theorem d_Table_init_50 : decode b_Table_init 50 = .ok (.sipush 2560, 3) := by decide +kernel
theorem d_Table_init_53 : decode b_Table_init 53 = .ok (.newarray .byte, 2) := by decide +kernel
theorem d_Table_init_55 : decode b_Table_init 55 = .ok (.putfield 39, 3) := by decide +kernel
theorem d_Table_init_58 : decode b_Table_init 58 = .ok (.aload_n 0, 1) := by decide +kernel
theorem d_Table_init_59 : decode b_Table_init 59 = .ok (.iconst 0, 1) := by decide +kernel
theorem d_Table_init_60 : decode b_Table_init 60 = .ok (.putfield 43, 3) := by decide +kernel
theorem d_Table_init_63 : decode b_Table_init 63 = .ok (.return_, 1) := by decide +kernel
theorem d_NT_init_0 : decode b_NT_init 0 = .ok (.aload_n 0, 1) := by decide +kernel
theorem d_NT_init_1 : decode b_NT_init 1 = .ok (.invokespecial 1, 3) := by decide +kernel
theorem d_NT_init_4 : decode b_NT_init 4 = .ok (.aload_n 0, 1) := by decide +kernel
theorem d_NT_init_5 : decode b_NT_init 5 = .ok (.new 7, 3) := by decide +kernel
theorem d_NT_init_8 : decode b_NT_init 8 = .ok (.dup, 1) := by decide +kernel
theorem d_NT_init_9 : decode b_NT_init 9 = .ok (.sipush 1200, 3) := by decide +kernel
theorem d_NT_init_12 : decode b_NT_init 12 = .ok (.invokespecial 11, 3) := by decide +kernel
theorem d_NT_init_15 : decode b_NT_init 15 = .ok (.putfield 14, 3) := by decide +kernel
theorem d_NT_init_18 : decode b_NT_init 18 = .ok (.new 18, 3) := by decide +kernel
theorem d_NT_init_21 : decode b_NT_init 21 = .ok (.dup, 1) := by decide +kernel
theorem d_NT_init_22 : decode b_NT_init 22 = .ok (.invokespecial 20, 3) := by decide +kernel
theorem d_NT_init_25 : decode b_NT_init 25 = .ok (.astore_n 1, 1) := by decide +kernel
theorem d_NT_init_26 : decode b_NT_init 26 = .ok (.aload_n 0, 1) := by decide +kernel
theorem d_NT_init_27 : decode b_NT_init 27 = .ok (.new 21, 3) := by decide +kernel
theorem d_NT_init_30 : decode b_NT_init 30 = .ok (.dup, 1) := by decide +kernel
theorem d_NT_init_31 : decode b_NT_init 31 = .ok (.aload_n 1, 1) := by decide +kernel
theorem d_NT_init_32 : decode b_NT_init 32 = .ok (.invokespecial 23, 3) := by decide +kernel
theorem d_NT_init_35 : decode b_NT_init 35 = .ok (.putfield 26, 3) := by decide +kernel
theorem d_NT_init_38 : decode b_NT_init 38 = .ok (.aload_n 0, 1) := by decide +kernel
theorem d_NT_init_39 : decode b_NT_init 39 = .ok (.new 30, 3) := by decide +kernel
theorem d_NT_init_42 : decode b_NT_init 42 = .ok (.dup, 1) := by decide +kernel
theorem d_NT_init_43 : decode b_NT_init 43 = .ok (.aload_n 1, 1) := by decide +kernel
theorem d_NT_init_44 : decode b_NT_init 44 = .ok (.invokespecial 32, 3) := by decide +kernel
theorem d_NT_init_47 : decode b_NT_init 47 = .ok (.putfield 33, 3) := by decide +kernel
theorem d_NT_init_50 : decode b_NT_init 50 = .ok (.aload_n 0, 1) := by decide +kernel
theorem d_NT_init_51 : decode b_NT_init 51 = .ok (.new 37, 3) := by decide +kernel
theorem d_NT_init_54 : decode b_NT_init 54 = .ok (.dup, 1) := by decide +kernel
theorem d_NT_init_55 : decode b_NT_init 55 = .ok (.aload_n 0, 1) := by decide +kernel
theorem d_NT_init_56 : decode b_NT_init 56 = .ok (.getfield 33, 3) := by decide +kernel
theorem d_NT_init_59 : decode b_NT_init 59 = .ok (.invokespecial 39, 3) := by decide +kernel
theorem d_NT_init_62 : decode b_NT_init 62 = .ok (.putfield 42, 3) := by decide +kernel
theorem d_NT_init_65 : decode b_NT_init 65 = .ok (.aload_n 0, 1) := by decide +kernel
theorem d_NT_init_66 : decode b_NT_init 66 = .ok (.iconst (-1), 1) := by decide +kernel
theorem d_NT_init_67 : decode b_NT_init 67 = .ok (.putfield 46, 3) := by decide +kernel
theorem d_NT_init_70 : decode b_NT_init 70 = .ok (.return_, 1) := by decide +kernel
theorem d_Md_init_0 : decode b_Md_init 0 = .ok (.aload_n 0, 1) := by decide +kernel
theorem d_Md_init_1 : decode b_Md_init 1 = .ok (.invokespecial 1, 3) := by decide +kernel
theorem d_Md_init_4 : decode b_Md_init 4 = .ok (.aload_n 0, 1) := by decide +kernel
theorem d_Md_init_5 : decode b_Md_init 5 = .ok (.sipush 1200, 3) := by decide +kernel
theorem d_Md_init_8 : decode b_Md_init 8 = .ok (.newarray .int, 2) := by decide +kernel
theorem d_Md_init_10 : decode b_Md_init 10 = .ok (.putfield 7, 3) := by decide +kernel
theorem d_Md_init_13 : decode b_Md_init 13 = .ok (.aload_n 0, 1) := by decide +kernel
theorem d_Md_init_14 : decode b_Md_init 14 = .ok (.iconst (-1), 1) := by decide +kernel
theorem d_Md_init_15 : decode b_Md_init 15 = .ok (.putfield 13, 3) := by decide +kernel
theorem d_Md_init_18 : decode b_Md_init 18 = .ok (.aload_n 0, 1) := by decide +kernel
theorem d_Md_init_19 : decode b_Md_init 19 = .ok (.sipush 5200, 3) := by decide +kernel
theorem d_Md_init_22 : decode b_Md_init 22 = .ok (.newarray .int, 2) := by decide +kernel
theorem d_Md_init_24 : decode b_Md_init 24 = .ok (.putfield 17, 3) := by decide +kernel
theorem d_Md_init_27 : decode b_Md_init 27 = .ok (.aload_n 0, 1) := by decide +kernel
theorem d_Md_init_28 : decode b_Md_init 28 = .ok (.iconst 4, 1) := by decide +kernel
theorem d_Md_init_29 : decode b_Md_init 29 = .ok (.newarray .int, 2) := by decide +kernel
theorem d_Md_init_31 : decode b_Md_init 31 = .ok (.putfield 20, 3) := by decide +kernel
theorem d_Md_init_34 : decode b_Md_init 34 = .ok (.aload_n 0, 1) := by decide +kernel
theorem d_Md_init_35 : decode b_Md_init 35 = .ok (.iconst 4, 1) := by decide +kernel
theorem d_Md_init_36 : decode b_Md_init 36 = .ok (.newarray .int, 2) := by decide +kernel
theorem d_Md_init_38 : decode b_Md_init 38 = .ok (.putfield 23, 3) := by decide +kernel
theorem d_Md_init_41 : decode b_Md_init 41 = .ok (.aload_n 0, 1) := by decide +kernel
theorem d_Md_init_42 : decode b_Md_init 42 = .ok (.bipush 110, 2) := by decide +kernel
theorem d_Md_init_44 : decode b_Md_init 44 = .ok (.newarray .int, 2) := by decide +kernel
theorem d_Md_init_46 : decode b_Md_init 46 = .ok (.putfield 26, 3) := by decide +kernel
theorem d_Md_init_49 : decode b_Md_init 49 = .ok (.aload_n 0, 1) := by decide +kernel
theorem d_Md_init_50 : decode b_Md_init 50 = .ok (.iconst 1, 1) := by decide +kernel
theorem d_Md_init_51 : decode b_Md_init 51 = .ok (.putfield 29, 3) := by decide +kernel
theorem d_Md_init_54 : decode b_Md_init 54 = .ok (.aload_n 0, 1) := by decide +kernel
theorem d_Md_init_55 : decode b_Md_init 55 = .ok (.iconst 1, 1) := by decide +kernel
theorem d_Md_init_56 : decode b_Md_init 56 = .ok (.putfield 32, 3) := by decide +kernel
theorem d_Md_init_59 : decode b_Md_init 59 = .ok (.aload_n 0, 1) := by decide +kernel
theorem d_Md_init_60 : decode b_Md_init 60 = .ok (.bipush 64, 2) := by decide +kernel
theorem d_Md_init_62 : decode b_Md_init 62 = .ok (.newarray .long, 2) := by decide +kernel
theorem d_Md_init_64 : decode b_Md_init 64 = .ok (.putfield 35, 3) := by decide +kernel
theorem d_Md_init_67 : decode b_Md_init 67 = .ok (.aload_n 0, 1) := by decide +kernel
theorem d_Md_init_68 : decode b_Md_init 68 = .ok (.sipush 9600, 3) := by decide +kernel
theorem d_Md_init_71 : decode b_Md_init 71 = .ok (.newarray .int, 2) := by decide +kernel
theorem d_Md_init_73 : decode b_Md_init 73 = .ok (.putfield 39, 3) := by decide +kernel
theorem d_Md_init_76 : decode b_Md_init 76 = .ok (.aload_n 0, 1) := by decide +kernel
theorem d_Md_init_77 : decode b_Md_init 77 = .ok (.sipush 1300, 3) := by decide +kernel
theorem d_Md_init_80 : decode b_Md_init 80 = .ok (.newarray .int, 2) := by decide +kernel
theorem d_Md_init_82 : decode b_Md_init 82 = .ok (.putfield 42, 3) := by decide +kernel
theorem d_Md_init_85 : decode b_Md_init 85 = .ok (.return_, 1) := by decide +kernel
