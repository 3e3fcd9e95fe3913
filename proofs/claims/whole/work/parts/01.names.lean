/-- the good ones of the tables' words: every contract's words are its own code and these -/
def xG : List Cond := lw_tbl.filter goodWord
theorem xG_good {w : Cond} (h : w ∈ xG) : goodWord w = true := (List.mem_filter.mp h).2
theorem xgood {c : Cond} (h : c ∈ xG) : GoodIn xG (c :: xG) := fun w hw => by
  rcases List.mem_cons.mp hw with h1 | h1
  · subst h1; exact ⟨h, good_of_word (xG_good h)⟩
  · exact ⟨h1, good_of_word (xG_good h1)⟩
theorem xgoodV {own C : String} {i : Nat} {y : MethodName} {c : Cond} (h1 : Cond.methodLink own i y ∈ xG) (h2 : Cond.instanceMethod y ∈ xG) (h3 : Cond.selects C y y ∈ xG) (h4 : Cond.initialized C ∈ xG) (h5 : c ∈ xG) : GoodIn xG (wsV own i C y (c :: xG)) := by
  have k : ∀ w ∈ wsV own i C y (c :: xG), w ∈ xG := by
    intro w hw
    simp only [wsV, List.cons_append, List.nil_append, List.mem_cons] at hw
    rcases hw with h | h | h | h | h | h
    · rw [h]; exact h1
    · rw [h]; exact h2
    · rw [h]; exact h3
    · rw [h]; exact h4
    · rw [h]; exact h5
    · exact h
  exact fun w hw => ⟨k w hw, good_of_word (xG_good (k w hw))⟩

def R_Decimal : String := "NumberText$Decimal"
def R_Fixed : String := "NumberText$Fixed"
def R_Nearest : String := "NumberText$Nearest"
def R_Numeral : String := "NumberText$Numeral"
def R_Table : String := "NumberText$Table"
def R_Text : String := "NumberText$Text"
def R_Writer : String := "NumberText$Writer"
def R_NT : String := "NumberText"
def R_Md : String := "NumberTextModel"
def R_Math : String := "java/lang/Math"
def R_Long : String := "java/lang/Long"
def R_Integer : String := "java/lang/Integer"
def T_Decimal : u_T := fun k => match k with
  | 0 => ("NumberText$Decimal", "digits", "[B", true)
  | 1 => ("NumberText$Decimal", "count", "I", false)
  | _ => ("NumberText$Decimal", "point", "I", false)
def ty_Decimal : Nat → FieldType := fun k => match k with
  | 0 => .array .byte
  | 1 => .int
  | _ => .int
theorem nn_Decimal : ∀ a, a < 3 → ∀ b, b < 3 → a ≠ b → (T_Decimal a).2.1 ≠ (T_Decimal b).2.1 := by decide +kernel
theorem tyok_Decimal : ∀ k, k < 3 → parseFieldDescriptor (T_Decimal k).2.2.1 = some (ty_Decimal k) := by decide +kernel
theorem in_Decimal : ∀ w ∈ u_ws R_Decimal T_Decimal 3, w ∈ xG := fun w h => List.mem_filter.mpr ⟨(show ∀ w ∈ u_ws R_Decimal T_Decimal 3, w ∈ lw_tbl by decide +kernel) w h, (show ∀ w ∈ u_ws R_Decimal T_Decimal 3, goodWord w = true by decide +kernel) w h⟩
def T_Fixed : u_T := fun k => match k with
  | 0 => ("NumberText$Fixed", "limbs", "[I", true)
  | 1 => ("NumberText$Fixed", "first", "I", false)
  | _ => ("NumberText$Fixed", "end", "I", false)
def ty_Fixed : Nat → FieldType := fun k => match k with
  | 0 => .array .int
  | 1 => .int
  | _ => .int
theorem nn_Fixed : ∀ a, a < 3 → ∀ b, b < 3 → a ≠ b → (T_Fixed a).2.1 ≠ (T_Fixed b).2.1 := by decide +kernel
theorem tyok_Fixed : ∀ k, k < 3 → parseFieldDescriptor (T_Fixed k).2.2.1 = some (ty_Fixed k) := by decide +kernel
theorem in_Fixed : ∀ w ∈ u_ws R_Fixed T_Fixed 3, w ∈ xG := fun w h => List.mem_filter.mpr ⟨(show ∀ w ∈ u_ws R_Fixed T_Fixed 3, w ∈ lw_tbl by decide +kernel) w h, (show ∀ w ∈ u_ws R_Fixed T_Fixed 3, goodWord w = true by decide +kernel) w h⟩
def T_Nearest : u_T := fun k => match k with
  | 0 => ("NumberText$Nearest", "fixed", "LNumberText$Fixed;", true)
  | _ => ("NumberText$Nearest", "power", "I", false)
def ty_Nearest : Nat → FieldType := fun k => match k with
  | 0 => .object "NumberText$Fixed"
  | _ => .int
theorem nn_Nearest : ∀ a, a < 2 → ∀ b, b < 2 → a ≠ b → (T_Nearest a).2.1 ≠ (T_Nearest b).2.1 := by decide +kernel
theorem tyok_Nearest : ∀ k, k < 2 → parseFieldDescriptor (T_Nearest k).2.2.1 = some (ty_Nearest k) := by decide +kernel
theorem in_Nearest : ∀ w ∈ u_ws R_Nearest T_Nearest 2, w ∈ xG := fun w h => List.mem_filter.mpr ⟨(show ∀ w ∈ u_ws R_Nearest T_Nearest 2, w ∈ lw_tbl by decide +kernel) w h, (show ∀ w ∈ u_ws R_Nearest T_Nearest 2, goodWord w = true by decide +kernel) w h⟩
def T_Numeral : u_T := fun k => match k with
  | 0 => ("NumberText$Numeral", "decimal", "LNumberText$Decimal;", true)
  | 1 => ("NumberText$Numeral", "nearest", "LNumberText$Nearest;", true)
  | 2 => ("NumberText$Numeral", "state", "I", false)
  | 3 => ("NumberText$Numeral", "negative", "Z", false)
  | 4 => ("NumberText$Numeral", "exponentNegative", "Z", false)
  | _ => ("NumberText$Numeral", "exponent", "I", false)
def ty_Numeral : Nat → FieldType := fun k => match k with
  | 0 => .object "NumberText$Decimal"
  | 1 => .object "NumberText$Nearest"
  | 2 => .int
  | 3 => .boolean
  | 4 => .boolean
  | _ => .int
theorem nn_Numeral : ∀ a, a < 6 → ∀ b, b < 6 → a ≠ b → (T_Numeral a).2.1 ≠ (T_Numeral b).2.1 := by decide +kernel
theorem tyok_Numeral : ∀ k, k < 6 → parseFieldDescriptor (T_Numeral k).2.2.1 = some (ty_Numeral k) := by decide +kernel
theorem in_Numeral : ∀ w ∈ u_ws R_Numeral T_Numeral 6, w ∈ xG := fun w h => List.mem_filter.mpr ⟨(show ∀ w ∈ u_ws R_Numeral T_Numeral 6, w ∈ lw_tbl by decide +kernel) w h, (show ∀ w ∈ u_ws R_Numeral T_Numeral 6, goodWord w = true by decide +kernel) w h⟩
def T_Table : u_T := fun k => match k with
  | 0 => ("NumberText$Table", "writer", "LNumberText$Writer;", true)
  | 1 => ("NumberText$Table", "numbers", "[J", true)
  | 2 => ("NumberText$Table", "rows", "I", false)
  | 3 => ("NumberText$Table", "columns", "I", false)
  | 4 => ("NumberText$Table", "texts", "LNumberText$Text;", true)
  | 5 => ("NumberText$Table", "ends", "[I", true)
  | 6 => ("NumberText$Table", "lines", "[B", true)
  | _ => ("NumberText$Table", "lineLength", "I", false)
def ty_Table : Nat → FieldType := fun k => match k with
  | 0 => .object "NumberText$Writer"
  | 1 => .array .long
  | 2 => .int
  | 3 => .int
  | 4 => .object "NumberText$Text"
  | 5 => .array .int
  | 6 => .array .byte
  | _ => .int
theorem nn_Table : ∀ a, a < 8 → ∀ b, b < 8 → a ≠ b → (T_Table a).2.1 ≠ (T_Table b).2.1 := by decide +kernel
theorem tyok_Table : ∀ k, k < 8 → parseFieldDescriptor (T_Table k).2.2.1 = some (ty_Table k) := by decide +kernel
theorem in_Table : ∀ w ∈ u_ws R_Table T_Table 8, w ∈ xG := fun w h => List.mem_filter.mpr ⟨(show ∀ w ∈ u_ws R_Table T_Table 8, w ∈ lw_tbl by decide +kernel) w h, (show ∀ w ∈ u_ws R_Table T_Table 8, goodWord w = true by decide +kernel) w h⟩
def T_Text : u_T := fun k => match k with
  | 0 => ("NumberText$Text", "characters", "[B", true)
  | _ => ("NumberText$Text", "length", "I", false)
def ty_Text : Nat → FieldType := fun k => match k with
  | 0 => .array .byte
  | _ => .int
theorem nn_Text : ∀ a, a < 2 → ∀ b, b < 2 → a ≠ b → (T_Text a).2.1 ≠ (T_Text b).2.1 := by decide +kernel
theorem tyok_Text : ∀ k, k < 2 → parseFieldDescriptor (T_Text k).2.2.1 = some (ty_Text k) := by decide +kernel
theorem in_Text : ∀ w ∈ u_ws R_Text T_Text 2, w ∈ xG := fun w h => List.mem_filter.mpr ⟨(show ∀ w ∈ u_ws R_Text T_Text 2, w ∈ lw_tbl by decide +kernel) w h, (show ∀ w ∈ u_ws R_Text T_Text 2, goodWord w = true by decide +kernel) w h⟩
def T_Writer : u_T := fun k => match k with
  | 0 => ("NumberText$Writer", "fixed", "LNumberText$Fixed;", true)
  | 1 => ("NumberText$Writer", "decimal", "LNumberText$Decimal;", true)
  | 2 => ("NumberText$Writer", "low", "LNumberText$Decimal;", true)
  | _ => ("NumberText$Writer", "high", "LNumberText$Decimal;", true)
def ty_Writer : Nat → FieldType := fun k => match k with
  | 0 => .object "NumberText$Fixed"
  | 1 => .object "NumberText$Decimal"
  | 2 => .object "NumberText$Decimal"
  | _ => .object "NumberText$Decimal"
theorem nn_Writer : ∀ a, a < 4 → ∀ b, b < 4 → a ≠ b → (T_Writer a).2.1 ≠ (T_Writer b).2.1 := by decide +kernel
theorem tyok_Writer : ∀ k, k < 4 → parseFieldDescriptor (T_Writer k).2.2.1 = some (ty_Writer k) := by decide +kernel
theorem in_Writer : ∀ w ∈ u_ws R_Writer T_Writer 4, w ∈ xG := fun w h => List.mem_filter.mpr ⟨(show ∀ w ∈ u_ws R_Writer T_Writer 4, w ∈ lw_tbl by decide +kernel) w h, (show ∀ w ∈ u_ws R_Writer T_Writer 4, goodWord w = true by decide +kernel) w h⟩
def T_NT : u_T := fun k => match k with
  | 0 => ("NumberText", "text", "LNumberText$Text;", true)
  | 1 => ("NumberText", "numeral", "LNumberText$Numeral;", true)
  | 2 => ("NumberText", "writer", "LNumberText$Writer;", true)
  | 3 => ("NumberText", "grid", "LNumberText$Table;", true)
  | _ => ("NumberText", "wrongPlace", "I", false)
def ty_NT : Nat → FieldType := fun k => match k with
  | 0 => .object "NumberText$Text"
  | 1 => .object "NumberText$Numeral"
  | 2 => .object "NumberText$Writer"
  | 3 => .object "NumberText$Table"
  | _ => .int
theorem nn_NT : ∀ a, a < 5 → ∀ b, b < 5 → a ≠ b → (T_NT a).2.1 ≠ (T_NT b).2.1 := by decide +kernel
theorem tyok_NT : ∀ k, k < 5 → parseFieldDescriptor (T_NT k).2.2.1 = some (ty_NT k) := by decide +kernel
theorem in_NT : ∀ w ∈ u_ws R_NT T_NT 5, w ∈ xG := fun w h => List.mem_filter.mpr ⟨(show ∀ w ∈ u_ws R_NT T_NT 5, w ∈ lw_tbl by decide +kernel) w h, (show ∀ w ∈ u_ws R_NT T_NT 5, goodWord w = true by decide +kernel) w h⟩
def T_Md : u_T := fun k => match k with
  | 0 => ("NumberTextModel", "thrown", "I", false)
  | 1 => ("NumberTextModel", "length", "I", false)
  | 2 => ("NumberTextModel", "text", "[I", true)
  | 3 => ("NumberTextModel", "place", "I", false)
  | 4 => ("NumberTextModel", "digits", "[I", true)
  | 5 => ("NumberTextModel", "counts", "[I", true)
  | 6 => ("NumberTextModel", "points", "[I", true)
  | 7 => ("NumberTextModel", "limbs", "[I", true)
  | 8 => ("NumberTextModel", "limbCount", "I", false)
  | 9 => ("NumberTextModel", "rows", "I", false)
  | 10 => ("NumberTextModel", "columns", "I", false)
  | 11 => ("NumberTextModel", "cells", "[J", true)
  | 12 => ("NumberTextModel", "laid", "I", false)
  | 13 => ("NumberTextModel", "lines", "[I", true)
  | 14 => ("NumberTextModel", "size", "I", false)
  | _ => ("NumberTextModel", "draft", "[I", true)
def ty_Md : Nat → FieldType := fun k => match k with
  | 0 => .int
  | 1 => .int
  | 2 => .array .int
  | 3 => .int
  | 4 => .array .int
  | 5 => .array .int
  | 6 => .array .int
  | 7 => .array .int
  | 8 => .int
  | 9 => .int
  | 10 => .int
  | 11 => .array .long
  | 12 => .int
  | 13 => .array .int
  | 14 => .int
  | _ => .array .int
theorem nn_Md : ∀ a, a < 16 → ∀ b, b < 16 → a ≠ b → (T_Md a).2.1 ≠ (T_Md b).2.1 := by decide +kernel
theorem tyok_Md : ∀ k, k < 16 → parseFieldDescriptor (T_Md k).2.2.1 = some (ty_Md k) := by decide +kernel
theorem in_Md : ∀ w ∈ u_ws R_Md T_Md 16, w ∈ xG := fun w h => List.mem_filter.mpr ⟨(show ∀ w ∈ u_ws R_Md T_Md 16, w ∈ lw_tbl by decide +kernel) w h, (show ∀ w ∈ u_ws R_Md T_Md 16, goodWord w = true by decide +kernel) w h⟩
abbrev x_cl : List vw_C := [(R_Decimal, T_Decimal, 3), (R_Fixed, T_Fixed, 3), (R_Nearest, T_Nearest, 2), (R_Numeral, T_Numeral, 6), (R_Table, T_Table, 8), (R_Text, T_Text, 2), (R_Writer, T_Writer, 4), (R_NT, T_NT, 5), (R_Md, T_Md, 16)]
def y_Text_length : MethodName := ⟨R_Text, "length", "()I"⟩
abbrev b_Text_length : ByteArray := prog_7_method_2_code
def y_NT_byteOf : MethodName := ⟨R_NT, "byteOf", "(JI)I"⟩
abbrev b_NT_byteOf : ByteArray := prog_1_method_15_code
def y_Text_add : MethodName := ⟨R_Text, "add", "(I)V"⟩
abbrev b_Text_add : ByteArray := prog_7_method_5_code
def y_NT_type : MethodName := ⟨R_NT, "type", "(JI)I"⟩
abbrev b_NT_type : ByteArray := prog_1_method_2_code
def y_Text_clear : MethodName := ⟨R_Text, "clear", "()V"⟩
abbrev b_Text_clear : ByteArray := prog_7_method_3_code
def y_NT_wipe : MethodName := ⟨R_NT, "wipe", "()I"⟩
abbrev b_NT_wipe : ByteArray := prog_1_method_3_code
def y_Text_at : MethodName := ⟨R_Text, "at", "(I)I"⟩
abbrev b_Text_at : ByteArray := prog_7_method_4_code
def y_NT_character : MethodName := ⟨R_NT, "character", "(I)I"⟩
abbrev b_NT_character : ByteArray := prog_1_method_4_code
def y_Decimal_clear : MethodName := ⟨R_Decimal, "clear", "()V"⟩
abbrev b_Decimal_clear : ByteArray := prog_2_method_9_code
def y_Numeral_isDigit : MethodName := ⟨R_Numeral, "isDigit", "(I)Z"⟩
abbrev b_Numeral_isDigit : ByteArray := prog_5_method_5_code
def y_Numeral_isSign : MethodName := ⟨R_Numeral, "isSign", "(I)Z"⟩
abbrev b_Numeral_isSign : ByteArray := prog_5_method_6_code
def y_Numeral_exponentFor : MethodName := ⟨R_Numeral, "exponentFor", "(I)I"⟩
abbrev b_Numeral_exponentFor : ByteArray := prog_5_method_9_code
def y_Numeral_afterSign : MethodName := ⟨R_Numeral, "afterSign", "(I)I"⟩
abbrev b_Numeral_afterSign : ByteArray := prog_5_method_8_code
def y_Numeral_after : MethodName := ⟨R_Numeral, "after", "(II)I"⟩
abbrev b_Numeral_after : ByteArray := prog_5_method_7_code
def y_Decimal_add : MethodName := ⟨R_Decimal, "add", "(I)V"⟩
abbrev b_Decimal_add : ByteArray := prog_2_method_10_code
def y_Decimal_count : MethodName := ⟨R_Decimal, "count", "()I"⟩
abbrev b_Decimal_count : ByteArray := prog_2_method_2_code
def y_Decimal_movePoint : MethodName := ⟨R_Decimal, "movePoint", "(I)V"⟩
abbrev b_Decimal_movePoint : ByteArray := prog_2_method_12_code
def y_Numeral_take : MethodName := ⟨R_Numeral, "take", "(II)V"⟩
abbrev b_Numeral_take : ByteArray := prog_5_method_10_code
def y_Numeral_isEnd : MethodName := ⟨R_Numeral, "isEnd", "(I)Z"⟩
abbrev b_Numeral_isEnd : ByteArray := prog_5_method_4_code
def y_Numeral_scan : MethodName := ⟨R_Numeral, "scan", "(LNumberText$Text;)I"⟩
abbrev b_Numeral_scan : ByteArray := prog_5_method_2_code
def y_Decimal_digit : MethodName := ⟨R_Decimal, "digit", "(I)I"⟩
abbrev b_Decimal_digit : ByteArray := prog_2_method_4_code
def y_Decimal_dropZerosBehind : MethodName := ⟨R_Decimal, "dropZerosBehind", "()V"⟩
abbrev b_Decimal_dropZerosBehind : ByteArray := prog_2_method_13_code
def y_Decimal_point : MethodName := ⟨R_Decimal, "point", "()I"⟩
abbrev b_Decimal_point : ByteArray := prog_2_method_3_code
def y_Math_floorDiv : MethodName := ⟨R_Math, "floorDiv", "(II)I"⟩
abbrev b_Math_floorDiv : ByteArray := prog_16_method_47_code
def y_Fixed_limbOf : MethodName := ⟨R_Fixed, "limbOf", "(LNumberText$Decimal;I)I"⟩
abbrev b_Fixed_limbOf : ByteArray := prog_3_method_4_code
def y_Fixed_setDecimal : MethodName := ⟨R_Fixed, "setDecimal", "(LNumberText$Decimal;)V"⟩
abbrev b_Fixed_setDecimal : ByteArray := prog_3_method_3_code
def y_Fixed_isAboveHead : MethodName := ⟨R_Fixed, "isAboveHead", "()Z"⟩
abbrev b_Fixed_isAboveHead : ByteArray := prog_3_method_6_code
def y_Fixed_limb : MethodName := ⟨R_Fixed, "limb", "(I)J"⟩
abbrev b_Fixed_limb : ByteArray := prog_3_method_9_code
def y_Fixed_multiply : MethodName := ⟨R_Fixed, "multiply", "(I)V"⟩
abbrev b_Fixed_multiply : ByteArray := prog_3_method_11_code
def y_Fixed_divide : MethodName := ⟨R_Fixed, "divide", "(I)V"⟩
abbrev b_Fixed_divide : ByteArray := prog_3_method_12_code
def y_Fixed_scale : MethodName := ⟨R_Fixed, "scale", "(I)V"⟩
abbrev b_Fixed_scale : ByteArray := prog_3_method_10_code
def y_Nearest_raisePower : MethodName := ⟨R_Nearest, "raisePower", "(I)V"⟩
abbrev b_Nearest_raisePower : ByteArray := prog_4_method_4_code
def y_Fixed_head : MethodName := ⟨R_Fixed, "head", "()J"⟩
abbrev b_Fixed_head : ByteArray := prog_3_method_7_code
def y_Integer_numberOfLeadingZeros : MethodName := ⟨R_Integer, "numberOfLeadingZeros", "(I)I"⟩
abbrev b_Integer_numberOfLeadingZeros : ByteArray := prog_14_method_47_code
def y_Long_numberOfLeadingZeros : MethodName := ⟨R_Long, "numberOfLeadingZeros", "(J)I"⟩
abbrev b_Long_numberOfLeadingZeros : ByteArray := prog_15_method_48_code
def y_Nearest_scaleToHead : MethodName := ⟨R_Nearest, "scaleToHead", "()V"⟩
abbrev b_Nearest_scaleToHead : ByteArray := prog_4_method_3_code
def y_Fixed_hasPlaces : MethodName := ⟨R_Fixed, "hasPlaces", "()Z"⟩
abbrev b_Fixed_hasPlaces : ByteArray := prog_3_method_8_code
def y_Nearest_rounded : MethodName := ⟨R_Nearest, "rounded", "()J"⟩
abbrev b_Nearest_rounded : ByteArray := prog_4_method_5_code
def y_Nearest_bits : MethodName := ⟨R_Nearest, "bits", "(LNumberText$Decimal;)J"⟩
abbrev b_Nearest_bits : ByteArray := prog_4_method_2_code
def y_Numeral_bits : MethodName := ⟨R_Numeral, "bits", "()J"⟩
abbrev b_Numeral_bits : ByteArray := prog_5_method_3_code
def y_NT_read : MethodName := ⟨R_NT, "read", "()J"⟩
abbrev b_NT_read : ByteArray := prog_1_method_5_code
def y_NT_place : MethodName := ⟨R_NT, "place", "()I"⟩
abbrev b_NT_place : ByteArray := prog_1_method_6_code
def y_NT_isNoNumber : MethodName := ⟨R_NT, "isNoNumber", "(J)Z"⟩
abbrev b_NT_isNoNumber : ByteArray := prog_1_method_17_code
def y_Text_addWord : MethodName := ⟨R_Text, "addWord", "(III)V"⟩
abbrev b_Text_addWord : ByteArray := prog_7_method_6_code
def y_NT_isFinite : MethodName := ⟨R_NT, "isFinite", "(J)Z"⟩
abbrev b_NT_isFinite : ByteArray := prog_1_method_16_code
def y_Writer_addsDigits : MethodName := ⟨R_Writer, "addsDigits", "(LNumberText$Text;J)Z"⟩
abbrev b_Writer_addsDigits : ByteArray := prog_8_method_8_code
def y_NT_isZero : MethodName := ⟨R_NT, "isZero", "(J)Z"⟩
abbrev b_NT_isZero : ByteArray := prog_1_method_18_code
def y_Writer_addedZero : MethodName := ⟨R_Writer, "addedZero", "(LNumberText$Text;J)Z"⟩
abbrev b_Writer_addedZero : ByteArray := prog_8_method_9_code
def y_NT_fractionField : MethodName := ⟨R_NT, "fractionField", "(J)J"⟩
abbrev b_NT_fractionField : ByteArray := prog_1_method_20_code
def y_NT_exponentField : MethodName := ⟨R_NT, "exponentField", "(J)I"⟩
abbrev b_NT_exponentField : ByteArray := prog_1_method_19_code
def y_NT_multiple : MethodName := ⟨R_NT, "multiple", "(J)J"⟩
abbrev b_NT_multiple : ByteArray := prog_1_method_21_code
def y_NT_power : MethodName := ⟨R_NT, "power", "(J)I"⟩
abbrev b_NT_power : ByteArray := prog_1_method_22_code
def y_Fixed_setWhole : MethodName := ⟨R_Fixed, "setWhole", "(J)V"⟩
abbrev b_Fixed_setWhole : ByteArray := prog_3_method_2_code
def y_Decimal_addLimb : MethodName := ⟨R_Decimal, "addLimb", "(I)V"⟩
abbrev b_Decimal_addLimb : ByteArray := prog_2_method_11_code
def y_Fixed_addTo : MethodName := ⟨R_Fixed, "addTo", "(LNumberText$Decimal;)V"⟩
abbrev b_Fixed_addTo : ByteArray := prog_3_method_5_code
def y_Writer_expand : MethodName := ⟨R_Writer, "expand", "(LNumberText$Decimal;JI)V"⟩
abbrev b_Writer_expand : ByteArray := prog_8_method_10_code
def y_Decimal_digitOf : MethodName := ⟨R_Decimal, "digitOf", "(I)I"⟩
abbrev b_Decimal_digitOf : ByteArray := prog_2_method_5_code
def y_Decimal_endsAt : MethodName := ⟨R_Decimal, "endsAt", "(I)Z"⟩
abbrev b_Decimal_endsAt : ByteArray := prog_2_method_6_code
def y_Decimal_roundsUp : MethodName := ⟨R_Decimal, "roundsUp", "(I)Z"⟩
abbrev b_Decimal_roundsUp : ByteArray := prog_2_method_14_code
def y_Decimal_countUp : MethodName := ⟨R_Decimal, "countUp", "()V"⟩
abbrev b_Decimal_countUp : ByteArray := prog_2_method_16_code
def y_Decimal_cut : MethodName := ⟨R_Decimal, "cut", "(IZ)V"⟩
abbrev b_Decimal_cut : ByteArray := prog_2_method_15_code
def y_Writer_shorten : MethodName := ⟨R_Writer, "shorten", "(Z)V"⟩
abbrev b_Writer_shorten : ByteArray := prog_8_method_12_code
def y_Writer_findShort : MethodName := ⟨R_Writer, "findShort", "(J)V"⟩
abbrev b_Writer_findShort : ByteArray := prog_8_method_11_code
def y_Decimal_isPlain : MethodName := ⟨R_Decimal, "isPlain", "()Z"⟩
abbrev b_Decimal_isPlain : ByteArray := prog_2_method_7_code
def y_Writer_addDigits : MethodName := ⟨R_Writer, "addDigits", "(LNumberText$Text;II)V"⟩
abbrev b_Writer_addDigits : ByteArray := prog_8_method_16_code
def y_Writer_addPlaces : MethodName := ⟨R_Writer, "addPlaces", "(LNumberText$Text;I)V"⟩
abbrev b_Writer_addPlaces : ByteArray := prog_8_method_14_code
def y_Text_addNumber : MethodName := ⟨R_Text, "addNumber", "(I)V"⟩
abbrev b_Text_addNumber : ByteArray := prog_7_method_7_code
def y_Writer_addWithExponent : MethodName := ⟨R_Writer, "addWithExponent", "(LNumberText$Text;I)V"⟩
abbrev b_Writer_addWithExponent : ByteArray := prog_8_method_15_code
def y_Writer_addDecimal : MethodName := ⟨R_Writer, "addDecimal", "(LNumberText$Text;I)V"⟩
abbrev b_Writer_addDecimal : ByteArray := prog_8_method_13_code
def y_Writer_addShort : MethodName := ⟨R_Writer, "addShort", "(LNumberText$Text;J)V"⟩
abbrev b_Writer_addShort : ByteArray := prog_8_method_2_code
def y_NT_write : MethodName := ⟨R_NT, "write", "(J)I"⟩
abbrev b_NT_write : ByteArray := prog_1_method_7_code
def y_Writer_addRounded : MethodName := ⟨R_Writer, "addRounded", "(LNumberText$Text;JI)V"⟩
abbrev b_Writer_addRounded : ByteArray := prog_8_method_3_code
def y_NT_digits : MethodName := ⟨R_NT, "digits", "(JI)I"⟩
abbrev b_NT_digits : ByteArray := prog_1_method_8_code
def y_Writer_addToPlaces : MethodName := ⟨R_Writer, "addToPlaces", "(LNumberText$Text;JI)V"⟩
abbrev b_Writer_addToPlaces : ByteArray := prog_8_method_4_code
def y_NT_places : MethodName := ⟨R_NT, "places", "(JI)I"⟩
abbrev b_NT_places : ByteArray := prog_1_method_9_code
def y_Decimal_leastPlaces : MethodName := ⟨R_Decimal, "leastPlaces", "()I"⟩
abbrev b_Decimal_leastPlaces : ByteArray := prog_2_method_8_code
def y_Writer_addInFull : MethodName := ⟨R_Writer, "addInFull", "(LNumberText$Text;J)V"⟩
abbrev b_Writer_addInFull : ByteArray := prog_8_method_5_code
def y_NT_full : MethodName := ⟨R_NT, "full", "(J)I"⟩
abbrev b_NT_full : ByteArray := prog_1_method_10_code
def y_Table_renew : MethodName := ⟨R_Table, "renew", "(II)V"⟩
abbrev b_Table_renew : ByteArray := prog_6_method_2_code
def y_NT_table : MethodName := ⟨R_NT, "table", "(II)V"⟩
abbrev b_NT_table : ByteArray := prog_1_method_11_code
def y_Table_has : MethodName := ⟨R_Table, "has", "(II)Z"⟩
abbrev b_Table_has : ByteArray := prog_6_method_3_code
def y_Table_put : MethodName := ⟨R_Table, "put", "(IIJ)V"⟩
abbrev b_Table_put : ByteArray := prog_6_method_4_code
def y_NT_set : MethodName := ⟨R_NT, "set", "(IIJ)V"⟩
abbrev b_NT_set : ByteArray := prog_1_method_12_code
def y_Table_number : MethodName := ⟨R_Table, "number", "(II)J"⟩
abbrev b_Table_number : ByteArray := prog_6_method_9_code
def y_Writer_addScientific : MethodName := ⟨R_Writer, "addScientific", "(LNumberText$Text;JI)V"⟩
abbrev b_Writer_addScientific : ByteArray := prog_8_method_6_code
def y_Writer_decimal : MethodName := ⟨R_Writer, "decimal", "()LNumberText$Decimal;"⟩
abbrev b_Writer_decimal : ByteArray := prog_8_method_7_code
def y_Table_writeScientific : MethodName := ⟨R_Table, "writeScientific", "(II)I"⟩
abbrev b_Table_writeScientific : ByteArray := prog_6_method_7_code
def y_Table_writeToPlaces : MethodName := ⟨R_Table, "writeToPlaces", "(II)V"⟩
abbrev b_Table_writeToPlaces : ByteArray := prog_6_method_8_code
def y_Table_endOf : MethodName := ⟨R_Table, "endOf", "(I)I"⟩
abbrev b_Table_endOf : ByteArray := prog_6_method_11_code
def y_Table_putLineCharacter : MethodName := ⟨R_Table, "putLineCharacter", "(III)V"⟩
abbrev b_Table_putLineCharacter : ByteArray := prog_6_method_12_code
def y_Table_addColumn : MethodName := ⟨R_Table, "addColumn", "(I)V"⟩
abbrev b_Table_addColumn : ByteArray := prog_6_method_10_code
def y_Table_layOut : MethodName := ⟨R_Table, "layOut", "(I)I"⟩
abbrev b_Table_layOut : ByteArray := prog_6_method_6_code
def y_NT_layout : MethodName := ⟨R_NT, "layout", "(I)I"⟩
abbrev b_NT_layout : ByteArray := prog_1_method_13_code
def y_Table_lineCharacter : MethodName := ⟨R_Table, "lineCharacter", "(II)I"⟩
abbrev b_Table_lineCharacter : ByteArray := prog_6_method_5_code
def y_NT_shown : MethodName := ⟨R_NT, "shown", "(II)I"⟩
abbrev b_NT_shown : ByteArray := prog_1_method_14_code
def y_Md_thrown : MethodName := ⟨R_Md, "thrown", "()I"⟩
abbrev b_Md_thrown : ByteArray := prog_10_method_2_code
def y_Md_goes : MethodName := ⟨R_Md, "goes", "(Z)Z"⟩
abbrev b_Md_goes : ByteArray := prog_10_method_3_code
def y_Md_in : MethodName := ⟨R_Md, "in", "(III)Z"⟩
abbrev b_Md_in : ByteArray := prog_10_method_4_code
def y_Md_times : MethodName := ⟨R_Md, "times", "(I)V"⟩
abbrev b_Md_times : ByteArray := prog_10_method_5_code
def y_Md_timesPower : MethodName := ⟨R_Md, "timesPower", "(II)V"⟩
abbrev b_Md_timesPower : ByteArray := prog_10_method_6_code
def y_Md_cutZeros : MethodName := ⟨R_Md, "cutZeros", "(I)V"⟩
abbrev b_Md_cutZeros : ByteArray := prog_10_method_7_code
def y_Md_expand : MethodName := ⟨R_Md, "expand", "(IJI)V"⟩
abbrev b_Md_expand : ByteArray := prog_10_method_8_code
def y_Md_exponent : MethodName := ⟨R_Md, "exponent", "(J)I"⟩
abbrev b_Md_exponent : ByteArray := prog_10_method_10_code
def y_Md_mantissa : MethodName := ⟨R_Md, "mantissa", "(J)J"⟩
abbrev b_Md_mantissa : ByteArray := prog_10_method_9_code
def y_Md_power : MethodName := ⟨R_Md, "power", "(J)I"⟩
abbrev b_Md_power : ByteArray := prog_10_method_11_code
def y_Md_value : MethodName := ⟨R_Md, "value", "(IJ)V"⟩
abbrev b_Md_value : ByteArray := prog_10_method_12_code
def y_Md_between : MethodName := ⟨R_Md, "between", "(IJ)V"⟩
abbrev b_Md_between : ByteArray := prog_10_method_13_code
def y_Md_against : MethodName := ⟨R_Md, "against", "(II)I"⟩
abbrev b_Md_against : ByteArray := prog_10_method_14_code
def y_Md_type : MethodName := ⟨R_Md, "type", "(JI)I"⟩
abbrev b_Md_type : ByteArray := prog_10_method_15_code
def y_Md_wipe : MethodName := ⟨R_Md, "wipe", "()I"⟩
abbrev b_Md_wipe : ByteArray := prog_10_method_16_code
def y_Md_character : MethodName := ⟨R_Md, "character", "(I)I"⟩
abbrev b_Md_character : ByteArray := prog_10_method_17_code
def y_Md_place : MethodName := ⟨R_Md, "place", "()I"⟩
abbrev b_Md_place : ByteArray := prog_10_method_18_code
def y_Md_next : MethodName := ⟨R_Md, "next", "(II)I"⟩
abbrev b_Md_next : ByteArray := prog_10_method_19_code
def y_Md_ends : MethodName := ⟨R_Md, "ends", "(I)Z"⟩
abbrev b_Md_ends : ByteArray := prog_10_method_20_code
def y_Md_nearest : MethodName := ⟨R_Md, "nearest", "()J"⟩
abbrev b_Md_nearest : ByteArray := prog_10_method_22_code
def y_Md_read : MethodName := ⟨R_Md, "read", "()J"⟩
abbrev b_Md_read : ByteArray := prog_10_method_21_code
def y_Md_cut : MethodName := ⟨R_Md, "cut", "(IIIZ)V"⟩
abbrev b_Md_cut : ByteArray := prog_10_method_23_code
def y_Md_rest : MethodName := ⟨R_Md, "rest", "(II)I"⟩
abbrev b_Md_rest : ByteArray := prog_10_method_24_code
def y_Md_round : MethodName := ⟨R_Md, "round", "(III)V"⟩
abbrev b_Md_round : ByteArray := prog_10_method_25_code
def y_Md_isBetween : MethodName := ⟨R_Md, "isBetween", "(JIZZ)Z"⟩
abbrev b_Md_isBetween : ByteArray := prog_10_method_27_code
def y_Md_shortest : MethodName := ⟨R_Md, "shortest", "(J)V"⟩
abbrev b_Md_shortest : ByteArray := prog_10_method_26_code
def y_Md_put : MethodName := ⟨R_Md, "put", "(I)V"⟩
abbrev b_Md_put : ByteArray := prog_10_method_28_code
def y_Md_putZeros : MethodName := ⟨R_Md, "putZeros", "(I)V"⟩
abbrev b_Md_putZeros : ByteArray := prog_10_method_29_code
def y_Md_putDigits : MethodName := ⟨R_Md, "putDigits", "(III)V"⟩
abbrev b_Md_putDigits : ByteArray := prog_10_method_30_code
def y_Md_sign : MethodName := ⟨R_Md, "sign", "(J)V"⟩
abbrev b_Md_sign : ByteArray := prog_10_method_31_code
def y_Md_special : MethodName := ⟨R_Md, "special", "(J)Z"⟩
abbrev b_Md_special : ByteArray := prog_10_method_32_code
def y_Md_scientific : MethodName := ⟨R_Md, "scientific", "(I)V"⟩
abbrev b_Md_scientific : ByteArray := prog_10_method_33_code
def y_Md_isPlain : MethodName := ⟨R_Md, "isPlain", "(I)Z"⟩
abbrev b_Md_isPlain : ByteArray := prog_10_method_34_code
def y_Md_written : MethodName := ⟨R_Md, "written", "(I)V"⟩
abbrev b_Md_written : ByteArray := prog_10_method_35_code
def y_Md_done : MethodName := ⟨R_Md, "done", "()I"⟩
abbrev b_Md_done : ByteArray := prog_10_method_36_code
def y_Md_isZero : MethodName := ⟨R_Md, "isZero", "(J)Z"⟩
abbrev b_Md_isZero : ByteArray := prog_10_method_37_code
def y_Md_write : MethodName := ⟨R_Md, "write", "(J)I"⟩
abbrev b_Md_write : ByteArray := prog_10_method_38_code
def y_Md_digits : MethodName := ⟨R_Md, "digits", "(JI)I"⟩
abbrev b_Md_digits : ByteArray := prog_10_method_39_code
def y_Md_toPlaces : MethodName := ⟨R_Md, "toPlaces", "(JI)V"⟩
abbrev b_Md_toPlaces : ByteArray := prog_10_method_40_code
def y_Md_places : MethodName := ⟨R_Md, "places", "(JI)I"⟩
abbrev b_Md_places : ByteArray := prog_10_method_41_code
def y_Md_full : MethodName := ⟨R_Md, "full", "(J)I"⟩
abbrev b_Md_full : ByteArray := prog_10_method_42_code
def y_Md_table : MethodName := ⟨R_Md, "table", "(II)V"⟩
abbrev b_Md_table : ByteArray := prog_10_method_43_code
def y_Md_set : MethodName := ⟨R_Md, "set", "(IIJ)V"⟩
abbrev b_Md_set : ByteArray := prog_10_method_44_code
def y_Md_isFinite : MethodName := ⟨R_Md, "isFinite", "(J)Z"⟩
abbrev b_Md_isFinite : ByteArray := prog_10_method_45_code
def y_Md_placesOf : MethodName := ⟨R_Md, "placesOf", "(II)I"⟩
abbrev b_Md_placesOf : ByteArray := prog_10_method_46_code
def y_Md_cell : MethodName := ⟨R_Md, "cell", "(JII)V"⟩
abbrev b_Md_cell : ByteArray := prog_10_method_47_code
def y_Md_layout : MethodName := ⟨R_Md, "layout", "(I)I"⟩
abbrev b_Md_layout : ByteArray := prog_10_method_48_code
def y_Md_shown : MethodName := ⟨R_Md, "shown", "(II)I"⟩
abbrev b_Md_shown : ByteArray := prog_10_method_49_code
def x_nz : List Cond := [.methodLinkNest R_Writer 84 y_NT_isNoNumber "NumberText", .methodLinkNest R_Writer 97 y_NT_isFinite "NumberText", .methodLinkNest R_Writer 100 y_NT_isZero "NumberText", .methodLinkNest R_Writer 49 y_NT_multiple "NumberText", .methodLinkNest R_Writer 53 y_NT_power "NumberText", .methodLinkNest R_Writer 120 y_NT_fractionField "NumberText", .methodLinkNest R_Writer 123 y_NT_exponentField "NumberText"]
