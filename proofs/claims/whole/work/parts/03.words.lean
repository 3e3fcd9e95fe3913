theorem g_36 : (Cond.fieldLink R_Text 21 R_Text "length" "I") ∈ xG := List.mem_filter.mpr ⟨List.mem_append_right _ (List.mem_of_getElem? (i := 36) (by decide +kernel)), by decide +kernel⟩
theorem g_35 : (Cond.fieldLink R_Text 15 R_Text "characters" "[B") ∈ xG := List.mem_filter.mpr ⟨List.mem_append_right _ (List.mem_of_getElem? (i := 35) (by decide +kernel)), by decide +kernel⟩
theorem g_170 : (Cond.fieldLink R_NT 14 R_NT "text" "LNumberText$Text;") ∈ xG := List.mem_filter.mpr ⟨List.mem_append_right _ (List.mem_of_getElem? (i := 170) (by decide +kernel)), by decide +kernel⟩
theorem g_191 : (Cond.instanceMethod y_Text_length) ∈ xG := List.mem_filter.mpr ⟨List.mem_append_right _ (List.mem_of_getElem? (i := 191) (by decide +kernel)), by decide +kernel⟩
theorem g_192 : (Cond.selects R_Text y_Text_length y_Text_length) ∈ xG := List.mem_filter.mpr ⟨List.mem_append_right _ (List.mem_of_getElem? (i := 192) (by decide +kernel)), by decide +kernel⟩
theorem g_190 : (Cond.methodLink R_NT 50 y_Text_length) ∈ xG := List.mem_filter.mpr ⟨List.mem_append_right _ (List.mem_of_getElem? (i := 190) (by decide +kernel)), by decide +kernel⟩
theorem g_2 : (Cond.initialized R_Text) ∈ xG := List.mem_filter.mpr ⟨List.mem_append_right _ (List.mem_of_getElem? (i := 2) (by decide +kernel)), by decide +kernel⟩
set_option maxRecDepth 100000 in
theorem g_193 : (Cond.code y_Text_length b_Text_length 1 (some .int)) ∈ xG := List.mem_filter.mpr ⟨List.mem_append_right _ (List.mem_append_left _ (List.mem_of_getElem? (i := 193) rfl)), by decide +kernel⟩
theorem g_195 : (Cond.static y_NT_byteOf) ∈ xG := List.mem_filter.mpr ⟨List.mem_append_right _ (List.mem_of_getElem? (i := 195) (by decide +kernel)), by decide +kernel⟩
set_option maxRecDepth 100000 in
theorem g_196 : (Cond.code y_NT_byteOf b_NT_byteOf 3 (some .int)) ∈ xG := List.mem_filter.mpr ⟨List.mem_append_right _ (List.mem_append_left _ (List.mem_of_getElem? (i := 196) rfl)), by decide +kernel⟩
theorem g_1 : (Cond.initialized R_NT) ∈ xG := List.mem_filter.mpr ⟨List.mem_append_right _ (List.mem_of_getElem? (i := 1) (by decide +kernel)), by decide +kernel⟩
theorem g_194 : (Cond.methodLink R_NT 54 y_NT_byteOf) ∈ xG := List.mem_filter.mpr ⟨List.mem_append_right _ (List.mem_of_getElem? (i := 194) (by decide +kernel)), by decide +kernel⟩
theorem g_198 : (Cond.instanceMethod y_Text_add) ∈ xG := List.mem_filter.mpr ⟨List.mem_append_right _ (List.mem_of_getElem? (i := 198) (by decide +kernel)), by decide +kernel⟩
theorem g_199 : (Cond.selects R_Text y_Text_add y_Text_add) ∈ xG := List.mem_filter.mpr ⟨List.mem_append_right _ (List.mem_of_getElem? (i := 199) (by decide +kernel)), by decide +kernel⟩
theorem g_197 : (Cond.methodLink R_NT 58 y_Text_add) ∈ xG := List.mem_filter.mpr ⟨List.mem_append_right _ (List.mem_of_getElem? (i := 197) (by decide +kernel)), by decide +kernel⟩
set_option maxRecDepth 100000 in
theorem g_200 : (Cond.code y_Text_add b_Text_add 2 none) ∈ xG := List.mem_filter.mpr ⟨List.mem_append_right _ (List.mem_append_left _ (List.mem_of_getElem? (i := 200) rfl)), by decide +kernel⟩
theorem g_206 : (Cond.instanceMethod y_Text_clear) ∈ xG := List.mem_filter.mpr ⟨List.mem_append_right _ (List.mem_of_getElem? (i := 206) (by decide +kernel)), by decide +kernel⟩
theorem g_207 : (Cond.selects R_Text y_Text_clear y_Text_clear) ∈ xG := List.mem_filter.mpr ⟨List.mem_append_right _ (List.mem_of_getElem? (i := 207) (by decide +kernel)), by decide +kernel⟩
theorem g_205 : (Cond.methodLink R_NT 61 y_Text_clear) ∈ xG := List.mem_filter.mpr ⟨List.mem_append_right _ (List.mem_of_getElem? (i := 205) (by decide +kernel)), by decide +kernel⟩
set_option maxRecDepth 100000 in
theorem g_208 : (Cond.code y_Text_clear b_Text_clear 1 none) ∈ xG := List.mem_filter.mpr ⟨List.mem_append_right _ (List.mem_append_left _ (List.mem_of_getElem? (i := 208) rfl)), by decide +kernel⟩
theorem g_214 : (Cond.instanceMethod y_Text_at) ∈ xG := List.mem_filter.mpr ⟨List.mem_append_right _ (List.mem_of_getElem? (i := 214) (by decide +kernel)), by decide +kernel⟩
theorem g_215 : (Cond.selects R_Text y_Text_at y_Text_at) ∈ xG := List.mem_filter.mpr ⟨List.mem_append_right _ (List.mem_of_getElem? (i := 215) (by decide +kernel)), by decide +kernel⟩
theorem g_213 : (Cond.methodLink R_NT 64 y_Text_at) ∈ xG := List.mem_filter.mpr ⟨List.mem_append_right _ (List.mem_of_getElem? (i := 213) (by decide +kernel)), by decide +kernel⟩
set_option maxRecDepth 100000 in
theorem g_216 : (Cond.code y_Text_at b_Text_at 2 (some .int)) ∈ xG := List.mem_filter.mpr ⟨List.mem_append_right _ (List.mem_append_left _ (List.mem_of_getElem? (i := 216) rfl)), by decide +kernel⟩
theorem g_74 : (Cond.fieldLink R_Decimal 21 R_Decimal "count" "I") ∈ xG := List.mem_filter.mpr ⟨List.mem_append_right _ (List.mem_of_getElem? (i := 74) (by decide +kernel)), by decide +kernel⟩
theorem g_75 : (Cond.fieldLink R_Decimal 25 R_Decimal "point" "I") ∈ xG := List.mem_filter.mpr ⟨List.mem_append_right _ (List.mem_of_getElem? (i := 75) (by decide +kernel)), by decide +kernel⟩
theorem g_439 : (Cond.static y_Numeral_isDigit) ∈ xG := List.mem_filter.mpr ⟨List.mem_append_right _ (List.mem_of_getElem? (i := 439) (by decide +kernel)), by decide +kernel⟩
set_option maxRecDepth 100000 in
theorem g_440 : (Cond.code y_Numeral_isDigit b_Numeral_isDigit 1 (some .boolean)) ∈ xG := List.mem_filter.mpr ⟨List.mem_append_right _ (List.mem_append_right _ (List.mem_append_left _ (List.mem_of_getElem? (i := 200) rfl))), by decide +kernel⟩
theorem g_5 : (Cond.initialized R_Numeral) ∈ xG := List.mem_filter.mpr ⟨List.mem_append_right _ (List.mem_of_getElem? (i := 5) (by decide +kernel)), by decide +kernel⟩
theorem g_438 : (Cond.methodLink R_Numeral 90 y_Numeral_isDigit) ∈ xG := List.mem_filter.mpr ⟨List.mem_append_right _ (List.mem_of_getElem? (i := 438) (by decide +kernel)), by decide +kernel⟩
theorem g_433 : (Cond.static y_Numeral_isSign) ∈ xG := List.mem_filter.mpr ⟨List.mem_append_right _ (List.mem_of_getElem? (i := 433) (by decide +kernel)), by decide +kernel⟩
set_option maxRecDepth 100000 in
theorem g_434 : (Cond.code y_Numeral_isSign b_Numeral_isSign 1 (some .boolean)) ∈ xG := List.mem_filter.mpr ⟨List.mem_append_right _ (List.mem_append_right _ (List.mem_append_left _ (List.mem_of_getElem? (i := 194) rfl))), by decide +kernel⟩
theorem g_432 : (Cond.methodLink R_Numeral 84 y_Numeral_isSign) ∈ xG := List.mem_filter.mpr ⟨List.mem_append_right _ (List.mem_of_getElem? (i := 432) (by decide +kernel)), by decide +kernel⟩
theorem g_436 : (Cond.static y_Numeral_afterSign) ∈ xG := List.mem_filter.mpr ⟨List.mem_append_right _ (List.mem_of_getElem? (i := 436) (by decide +kernel)), by decide +kernel⟩
set_option maxRecDepth 100000 in
theorem g_437 : (Cond.code y_Numeral_afterSign b_Numeral_afterSign 1 (some .int)) ∈ xG := List.mem_filter.mpr ⟨List.mem_append_right _ (List.mem_append_right _ (List.mem_append_left _ (List.mem_of_getElem? (i := 197) rfl))), by decide +kernel⟩
theorem g_435 : (Cond.methodLink R_Numeral 87 y_Numeral_afterSign) ∈ xG := List.mem_filter.mpr ⟨List.mem_append_right _ (List.mem_of_getElem? (i := 435) (by decide +kernel)), by decide +kernel⟩
theorem g_442 : (Cond.static y_Numeral_exponentFor) ∈ xG := List.mem_filter.mpr ⟨List.mem_append_right _ (List.mem_of_getElem? (i := 442) (by decide +kernel)), by decide +kernel⟩
set_option maxRecDepth 100000 in
theorem g_443 : (Cond.code y_Numeral_exponentFor b_Numeral_exponentFor 1 (some .int)) ∈ xG := List.mem_filter.mpr ⟨List.mem_append_right _ (List.mem_append_right _ (List.mem_append_left _ (List.mem_of_getElem? (i := 203) rfl))), by decide +kernel⟩
theorem g_441 : (Cond.methodLink R_Numeral 93 y_Numeral_exponentFor) ∈ xG := List.mem_filter.mpr ⟨List.mem_append_right _ (List.mem_of_getElem? (i := 441) (by decide +kernel)), by decide +kernel⟩
theorem g_73 : (Cond.fieldLink R_Decimal 15 R_Decimal "digits" "[B") ∈ xG := List.mem_filter.mpr ⟨List.mem_append_right _ (List.mem_of_getElem? (i := 73) (by decide +kernel)), by decide +kernel⟩
theorem g_451 : (Cond.constant R_Numeral 102 (99999)) ∈ xG := List.mem_filter.mpr ⟨List.mem_append_right _ (List.mem_of_getElem? (i := 451) (by decide +kernel)), by decide +kernel⟩
theorem g_101 : (Cond.fieldLink R_Numeral 40 R_Numeral "exponent" "I") ∈ xG := List.mem_filter.mpr ⟨List.mem_append_right _ (List.mem_of_getElem? (i := 101) (by decide +kernel)), by decide +kernel⟩
theorem g_452 : (Cond.methodLink R_Numeral 103 Lib.Math.min.name) ∈ xG := List.mem_filter.mpr ⟨List.mem_append_right _ (List.mem_of_getElem? (i := 452) (by decide +kernel)), by decide +kernel⟩
theorem g_288 : (Cond.static Lib.Math.min.name) ∈ xG := List.mem_filter.mpr ⟨List.mem_append_right _ (List.mem_of_getElem? (i := 288) (by decide +kernel)), by decide +kernel⟩
theorem g_3 : (Cond.initialized "java/lang/Math") ∈ xG := List.mem_filter.mpr ⟨List.mem_append_right _ (List.mem_of_getElem? (i := 3) (by decide +kernel)), by decide +kernel⟩
set_option maxRecDepth 100000 in
theorem g_289 : (Cond.code Lib.Math.min.name Lib.Math.min.code 2 (some .int)) ∈ xG := List.mem_filter.mpr ⟨List.mem_append_right _ (List.mem_append_right _ (List.mem_append_left _ (List.mem_of_getElem? (i := 49) rfl))), by decide +kernel⟩
theorem g_100 : (Cond.fieldLink R_Numeral 37 R_Numeral "exponentNegative" "Z") ∈ xG := List.mem_filter.mpr ⟨List.mem_append_right _ (List.mem_of_getElem? (i := 100) (by decide +kernel)), by decide +kernel⟩
theorem g_96 : (Cond.fieldLink R_Numeral 14 R_Numeral "decimal" "LNumberText$Decimal;") ∈ xG := List.mem_filter.mpr ⟨List.mem_append_right _ (List.mem_of_getElem? (i := 96) (by decide +kernel)), by decide +kernel⟩
theorem g_363 : (Cond.instanceMethod y_Decimal_add) ∈ xG := List.mem_filter.mpr ⟨List.mem_append_right _ (List.mem_of_getElem? (i := 363) (by decide +kernel)), by decide +kernel⟩
theorem g_364 : (Cond.selects R_Decimal y_Decimal_add y_Decimal_add) ∈ xG := List.mem_filter.mpr ⟨List.mem_append_right _ (List.mem_of_getElem? (i := 364) (by decide +kernel)), by decide +kernel⟩
theorem g_448 : (Cond.methodLink R_Numeral 96 y_Decimal_add) ∈ xG := List.mem_filter.mpr ⟨List.mem_append_right _ (List.mem_of_getElem? (i := 448) (by decide +kernel)), by decide +kernel⟩
theorem g_6 : (Cond.initialized R_Decimal) ∈ xG := List.mem_filter.mpr ⟨List.mem_append_right _ (List.mem_of_getElem? (i := 6) (by decide +kernel)), by decide +kernel⟩
set_option maxRecDepth 100000 in
theorem g_365 : (Cond.code y_Decimal_add b_Decimal_add 2 none) ∈ xG := List.mem_filter.mpr ⟨List.mem_append_right _ (List.mem_append_right _ (List.mem_append_left _ (List.mem_of_getElem? (i := 125) rfl))), by decide +kernel⟩
theorem g_317 : (Cond.instanceMethod y_Decimal_count) ∈ xG := List.mem_filter.mpr ⟨List.mem_append_right _ (List.mem_of_getElem? (i := 317) (by decide +kernel)), by decide +kernel⟩
theorem g_318 : (Cond.selects R_Decimal y_Decimal_count y_Decimal_count) ∈ xG := List.mem_filter.mpr ⟨List.mem_append_right _ (List.mem_of_getElem? (i := 318) (by decide +kernel)), by decide +kernel⟩
theorem g_449 : (Cond.methodLink R_Numeral 99 y_Decimal_count) ∈ xG := List.mem_filter.mpr ⟨List.mem_append_right _ (List.mem_of_getElem? (i := 449) (by decide +kernel)), by decide +kernel⟩
set_option maxRecDepth 100000 in
theorem g_319 : (Cond.code y_Decimal_count b_Decimal_count 1 (some .int)) ∈ xG := List.mem_filter.mpr ⟨List.mem_append_right _ (List.mem_append_right _ (List.mem_append_left _ (List.mem_of_getElem? (i := 79) rfl))), by decide +kernel⟩
theorem g_321 : (Cond.instanceMethod y_Decimal_movePoint) ∈ xG := List.mem_filter.mpr ⟨List.mem_append_right _ (List.mem_of_getElem? (i := 321) (by decide +kernel)), by decide +kernel⟩
theorem g_322 : (Cond.selects R_Decimal y_Decimal_movePoint y_Decimal_movePoint) ∈ xG := List.mem_filter.mpr ⟨List.mem_append_right _ (List.mem_of_getElem? (i := 322) (by decide +kernel)), by decide +kernel⟩
theorem g_450 : (Cond.methodLink R_Numeral 72 y_Decimal_movePoint) ∈ xG := List.mem_filter.mpr ⟨List.mem_append_right _ (List.mem_of_getElem? (i := 450) (by decide +kernel)), by decide +kernel⟩
set_option maxRecDepth 100000 in
theorem g_323 : (Cond.code y_Decimal_movePoint b_Decimal_movePoint 2 none) ∈ xG := List.mem_filter.mpr ⟨List.mem_append_right _ (List.mem_append_right _ (List.mem_append_left _ (List.mem_of_getElem? (i := 83) rfl))), by decide +kernel⟩
theorem g_99 : (Cond.fieldLink R_Numeral 33 R_Numeral "negative" "Z") ∈ xG := List.mem_filter.mpr ⟨List.mem_append_right _ (List.mem_of_getElem? (i := 99) (by decide +kernel)), by decide +kernel⟩
theorem g_98 : (Cond.fieldLink R_Numeral 29 R_Numeral "state" "I") ∈ xG := List.mem_filter.mpr ⟨List.mem_append_right _ (List.mem_of_getElem? (i := 98) (by decide +kernel)), by decide +kernel⟩
theorem g_304 : (Cond.instanceMethod y_Decimal_clear) ∈ xG := List.mem_filter.mpr ⟨List.mem_append_right _ (List.mem_of_getElem? (i := 304) (by decide +kernel)), by decide +kernel⟩
theorem g_305 : (Cond.selects R_Decimal y_Decimal_clear y_Decimal_clear) ∈ xG := List.mem_filter.mpr ⟨List.mem_append_right _ (List.mem_of_getElem? (i := 305) (by decide +kernel)), by decide +kernel⟩
theorem g_426 : (Cond.methodLink R_Numeral 43 y_Decimal_clear) ∈ xG := List.mem_filter.mpr ⟨List.mem_append_right _ (List.mem_of_getElem? (i := 426) (by decide +kernel)), by decide +kernel⟩
set_option maxRecDepth 100000 in
theorem g_306 : (Cond.code y_Decimal_clear b_Decimal_clear 1 none) ∈ xG := List.mem_filter.mpr ⟨List.mem_append_right _ (List.mem_append_right _ (List.mem_append_left _ (List.mem_of_getElem? (i := 66) rfl))), by decide +kernel⟩
theorem g_454 : (Cond.static y_Numeral_isEnd) ∈ xG := List.mem_filter.mpr ⟨List.mem_append_right _ (List.mem_of_getElem? (i := 454) (by decide +kernel)), by decide +kernel⟩
set_option maxRecDepth 100000 in
theorem g_455 : (Cond.code y_Numeral_isEnd b_Numeral_isEnd 1 (some .boolean)) ∈ xG := List.mem_filter.mpr ⟨List.mem_append_right _ (List.mem_append_right _ (List.mem_append_left _ (List.mem_of_getElem? (i := 215) rfl))), by decide +kernel⟩
theorem g_453 : (Cond.methodLink R_Numeral 64 y_Numeral_isEnd) ∈ xG := List.mem_filter.mpr ⟨List.mem_append_right _ (List.mem_of_getElem? (i := 453) (by decide +kernel)), by decide +kernel⟩
theorem g_427 : (Cond.methodLink R_Numeral 46 y_Text_length) ∈ xG := List.mem_filter.mpr ⟨List.mem_append_right _ (List.mem_of_getElem? (i := 427) (by decide +kernel)), by decide +kernel⟩
theorem g_428 : (Cond.methodLink R_Numeral 52 y_Text_at) ∈ xG := List.mem_filter.mpr ⟨List.mem_append_right _ (List.mem_of_getElem? (i := 428) (by decide +kernel)), by decide +kernel⟩
theorem g_430 : (Cond.static y_Numeral_after) ∈ xG := List.mem_filter.mpr ⟨List.mem_append_right _ (List.mem_of_getElem? (i := 430) (by decide +kernel)), by decide +kernel⟩
set_option maxRecDepth 100000 in
theorem g_431 : (Cond.code y_Numeral_after b_Numeral_after 2 (some .int)) ∈ xG := List.mem_filter.mpr ⟨List.mem_append_right _ (List.mem_append_right _ (List.mem_append_left _ (List.mem_of_getElem? (i := 191) rfl))), by decide +kernel⟩
theorem g_429 : (Cond.methodLink R_Numeral 56 y_Numeral_after) ∈ xG := List.mem_filter.mpr ⟨List.mem_append_right _ (List.mem_of_getElem? (i := 429) (by decide +kernel)), by decide +kernel⟩
theorem g_446 : (Cond.instanceMethod y_Numeral_take) ∈ xG := List.mem_filter.mpr ⟨List.mem_append_right _ (List.mem_of_getElem? (i := 446) (by decide +kernel)), by decide +kernel⟩
theorem gp_11 : (Cond.selects R_Numeral y_Numeral_take y_Numeral_take) ∈ xG := List.mem_filter.mpr ⟨List.mem_append_left _ (List.mem_of_getElem? (i := 11) (by decide +kernel)), by decide +kernel⟩
theorem g_444 : (Cond.methodLink R_Numeral 60 y_Numeral_take) ∈ xG := List.mem_filter.mpr ⟨List.mem_append_right _ (List.mem_of_getElem? (i := 444) (by decide +kernel)), by decide +kernel⟩
set_option maxRecDepth 100000 in
theorem g_447 : (Cond.code y_Numeral_take b_Numeral_take 3 none) ∈ xG := List.mem_filter.mpr ⟨List.mem_append_right _ (List.mem_append_right _ (List.mem_append_left _ (List.mem_of_getElem? (i := 207) rfl))), by decide +kernel⟩
theorem g_329 : (Cond.instanceMethod y_Decimal_digit) ∈ xG := List.mem_filter.mpr ⟨List.mem_append_right _ (List.mem_of_getElem? (i := 329) (by decide +kernel)), by decide +kernel⟩
theorem g_330 : (Cond.selects R_Decimal y_Decimal_digit y_Decimal_digit) ∈ xG := List.mem_filter.mpr ⟨List.mem_append_right _ (List.mem_of_getElem? (i := 330) (by decide +kernel)), by decide +kernel⟩
theorem g_328 : (Cond.methodLink R_Decimal 28 y_Decimal_digit) ∈ xG := List.mem_filter.mpr ⟨List.mem_append_right _ (List.mem_of_getElem? (i := 328) (by decide +kernel)), by decide +kernel⟩
set_option maxRecDepth 100000 in
theorem g_331 : (Cond.code y_Decimal_digit b_Decimal_digit 2 (some .int)) ∈ xG := List.mem_filter.mpr ⟨List.mem_append_right _ (List.mem_append_right _ (List.mem_append_left _ (List.mem_of_getElem? (i := 91) rfl))), by decide +kernel⟩
theorem g_547 : (Cond.methodLink R_Fixed 49 y_Decimal_digit) ∈ xG := List.mem_filter.mpr ⟨List.mem_append_right _ (List.mem_of_getElem? (i := 547) (by decide +kernel)), by decide +kernel⟩
theorem g_338 : (Cond.instanceMethod y_Decimal_point) ∈ xG := List.mem_filter.mpr ⟨List.mem_append_right _ (List.mem_of_getElem? (i := 338) (by decide +kernel)), by decide +kernel⟩
theorem g_339 : (Cond.selects R_Decimal y_Decimal_point y_Decimal_point) ∈ xG := List.mem_filter.mpr ⟨List.mem_append_right _ (List.mem_of_getElem? (i := 339) (by decide +kernel)), by decide +kernel⟩
theorem g_540 : (Cond.methodLink R_Fixed 24 y_Decimal_point) ∈ xG := List.mem_filter.mpr ⟨List.mem_append_right _ (List.mem_of_getElem? (i := 540) (by decide +kernel)), by decide +kernel⟩
set_option maxRecDepth 100000 in
theorem g_340 : (Cond.code y_Decimal_point b_Decimal_point 1 (some .int)) ∈ xG := List.mem_filter.mpr ⟨List.mem_append_right _ (List.mem_append_right _ (List.mem_append_left _ (List.mem_of_getElem? (i := 100) rfl))), by decide +kernel⟩
theorem g_542 : (Cond.static y_Math_floorDiv) ∈ xG := List.mem_filter.mpr ⟨List.mem_append_right _ (List.mem_of_getElem? (i := 542) (by decide +kernel)), by decide +kernel⟩
set_option maxRecDepth 100000 in
theorem g_543 : (Cond.code y_Math_floorDiv b_Math_floorDiv 3 (some .int)) ∈ xG := List.mem_filter.mpr ⟨List.mem_append_right _ (List.mem_append_right _ (List.mem_append_right _ (List.mem_append_left _ (List.mem_of_getElem? (i := 63) rfl)))), by decide +kernel⟩
theorem g_541 : (Cond.methodLink R_Fixed 30 y_Math_floorDiv) ∈ xG := List.mem_filter.mpr ⟨List.mem_append_right _ (List.mem_of_getElem? (i := 541) (by decide +kernel)), by decide +kernel⟩
theorem g_302 : (Cond.methodLink R_Fixed 36 Lib.Math.max.name) ∈ xG := List.mem_filter.mpr ⟨List.mem_append_right _ (List.mem_of_getElem? (i := 302) (by decide +kernel)), by decide +kernel⟩
theorem g_33 : (Cond.static Lib.Math.max.name) ∈ xG := List.mem_filter.mpr ⟨List.mem_append_right _ (List.mem_of_getElem? (i := 33) (by decide +kernel)), by decide +kernel⟩
set_option maxRecDepth 100000 in
theorem g_34 : (Cond.code Lib.Math.max.name Lib.Math.max.code 2 (some .int)) ∈ xG := List.mem_filter.mpr ⟨List.mem_append_right _ (List.mem_append_left _ (List.mem_of_getElem? (i := 34) rfl)), by decide +kernel⟩
theorem g_50 : (Cond.fieldLink R_Fixed 15 R_Fixed "first" "I") ∈ xG := List.mem_filter.mpr ⟨List.mem_append_right _ (List.mem_of_getElem? (i := 50) (by decide +kernel)), by decide +kernel⟩
theorem g_316 : (Cond.methodLink R_Fixed 39 y_Decimal_count) ∈ xG := List.mem_filter.mpr ⟨List.mem_append_right _ (List.mem_of_getElem? (i := 316) (by decide +kernel)), by decide +kernel⟩
theorem g_49 : (Cond.fieldLink R_Fixed 11 R_Fixed "limbs" "[I") ∈ xG := List.mem_filter.mpr ⟨List.mem_append_right _ (List.mem_of_getElem? (i := 49) (by decide +kernel)), by decide +kernel⟩
theorem g_287 : (Cond.methodLink R_Fixed 42 Lib.Math.min.name) ∈ xG := List.mem_filter.mpr ⟨List.mem_append_right _ (List.mem_of_getElem? (i := 287) (by decide +kernel)), by decide +kernel⟩
theorem g_51 : (Cond.fieldLink R_Fixed 19 R_Fixed "end" "I") ∈ xG := List.mem_filter.mpr ⟨List.mem_append_right _ (List.mem_of_getElem? (i := 51) (by decide +kernel)), by decide +kernel⟩
theorem g_545 : (Cond.static y_Fixed_limbOf) ∈ xG := List.mem_filter.mpr ⟨List.mem_append_right _ (List.mem_of_getElem? (i := 545) (by decide +kernel)), by decide +kernel⟩
set_option maxRecDepth 100000 in
theorem g_546 : (Cond.code y_Fixed_limbOf b_Fixed_limbOf 4 (some .int)) ∈ xG := List.mem_filter.mpr ⟨List.mem_append_right _ (List.mem_append_right _ (List.mem_append_right _ (List.mem_append_left _ (List.mem_of_getElem? (i := 66) rfl)))), by decide +kernel⟩
theorem g_4 : (Cond.initialized R_Fixed) ∈ xG := List.mem_filter.mpr ⟨List.mem_append_right _ (List.mem_of_getElem? (i := 4) (by decide +kernel)), by decide +kernel⟩
theorem g_544 : (Cond.methodLink R_Fixed 45 y_Fixed_limbOf) ∈ xG := List.mem_filter.mpr ⟨List.mem_append_right _ (List.mem_of_getElem? (i := 544) (by decide +kernel)), by decide +kernel⟩
theorem g_296 : (Cond.instanceMethod y_Fixed_limb) ∈ xG := List.mem_filter.mpr ⟨List.mem_append_right _ (List.mem_of_getElem? (i := 296) (by decide +kernel)), by decide +kernel⟩
theorem gp_3 : (Cond.selects R_Fixed y_Fixed_limb y_Fixed_limb) ∈ xG := List.mem_filter.mpr ⟨List.mem_append_left _ (List.mem_of_getElem? (i := 3) (by decide +kernel)), by decide +kernel⟩
theorem g_294 : (Cond.methodLink R_Fixed 60 y_Fixed_limb) ∈ xG := List.mem_filter.mpr ⟨List.mem_append_right _ (List.mem_of_getElem? (i := 294) (by decide +kernel)), by decide +kernel⟩
set_option maxRecDepth 100000 in
theorem g_297 : (Cond.code y_Fixed_limb b_Fixed_limb 2 (some .long)) ∈ xG := List.mem_filter.mpr ⟨List.mem_append_right _ (List.mem_append_right _ (List.mem_append_left _ (List.mem_of_getElem? (i := 57) rfl))), by decide +kernel⟩
theorem g_282 : (Cond.constantLong R_Fixed 22 (1000000000)) ∈ xG := List.mem_filter.mpr ⟨List.mem_append_right _ (List.mem_of_getElem? (i := 282) (by decide +kernel)), by decide +kernel⟩
theorem g_300 : (Cond.instanceMethod y_Fixed_divide) ∈ xG := List.mem_filter.mpr ⟨List.mem_append_right _ (List.mem_of_getElem? (i := 300) (by decide +kernel)), by decide +kernel⟩
theorem gp_4 : (Cond.selects R_Fixed y_Fixed_divide y_Fixed_divide) ∈ xG := List.mem_filter.mpr ⟨List.mem_append_left _ (List.mem_of_getElem? (i := 4) (by decide +kernel)), by decide +kernel⟩
theorem g_298 : (Cond.methodLink R_Fixed 67 y_Fixed_divide) ∈ xG := List.mem_filter.mpr ⟨List.mem_append_right _ (List.mem_of_getElem? (i := 298) (by decide +kernel)), by decide +kernel⟩
set_option maxRecDepth 100000 in
theorem g_301 : (Cond.code y_Fixed_divide b_Fixed_divide 9 none) ∈ xG := List.mem_filter.mpr ⟨List.mem_append_right _ (List.mem_append_right _ (List.mem_append_left _ (List.mem_of_getElem? (i := 61) rfl))), by decide +kernel⟩
theorem g_292 : (Cond.instanceMethod y_Fixed_multiply) ∈ xG := List.mem_filter.mpr ⟨List.mem_append_right _ (List.mem_of_getElem? (i := 292) (by decide +kernel)), by decide +kernel⟩
theorem gp_2 : (Cond.selects R_Fixed y_Fixed_multiply y_Fixed_multiply) ∈ xG := List.mem_filter.mpr ⟨List.mem_append_left _ (List.mem_of_getElem? (i := 2) (by decide +kernel)), by decide +kernel⟩
theorem g_290 : (Cond.methodLink R_Fixed 64 y_Fixed_multiply) ∈ xG := List.mem_filter.mpr ⟨List.mem_append_right _ (List.mem_of_getElem? (i := 290) (by decide +kernel)), by decide +kernel⟩
set_option maxRecDepth 100000 in
theorem g_293 : (Cond.code y_Fixed_multiply b_Fixed_multiply 7 none) ∈ xG := List.mem_filter.mpr ⟨List.mem_append_right _ (List.mem_append_right _ (List.mem_append_left _ (List.mem_of_getElem? (i := 53) rfl))), by decide +kernel⟩
theorem g_89 : (Cond.fieldLink R_Nearest 9 R_Nearest "fixed" "LNumberText$Fixed;") ∈ xG := List.mem_filter.mpr ⟨List.mem_append_right _ (List.mem_of_getElem? (i := 89) (by decide +kernel)), by decide +kernel⟩
theorem g_284 : (Cond.instanceMethod y_Fixed_scale) ∈ xG := List.mem_filter.mpr ⟨List.mem_append_right _ (List.mem_of_getElem? (i := 284) (by decide +kernel)), by decide +kernel⟩
theorem g_285 : (Cond.selects R_Fixed y_Fixed_scale y_Fixed_scale) ∈ xG := List.mem_filter.mpr ⟨List.mem_append_right _ (List.mem_of_getElem? (i := 285) (by decide +kernel)), by decide +kernel⟩
theorem g_560 : (Cond.methodLink R_Nearest 66 y_Fixed_scale) ∈ xG := List.mem_filter.mpr ⟨List.mem_append_right _ (List.mem_of_getElem? (i := 560) (by decide +kernel)), by decide +kernel⟩
set_option maxRecDepth 100000 in
theorem g_286 : (Cond.code y_Fixed_scale b_Fixed_scale 3 none) ∈ xG := List.mem_filter.mpr ⟨List.mem_append_right _ (List.mem_append_right _ (List.mem_append_left _ (List.mem_of_getElem? (i := 46) rfl))), by decide +kernel⟩
theorem g_90 : (Cond.fieldLink R_Nearest 15 R_Nearest "power" "I") ∈ xG := List.mem_filter.mpr ⟨List.mem_append_right _ (List.mem_of_getElem? (i := 90) (by decide +kernel)), by decide +kernel⟩
theorem g_571 : (Cond.constant R_Integer 264 (65536)) ∈ xG := List.mem_filter.mpr ⟨List.mem_append_right _ (List.mem_of_getElem? (i := 571) (by decide +kernel)), by decide +kernel⟩
theorem g_569 : (Cond.static y_Integer_numberOfLeadingZeros) ∈ xG := List.mem_filter.mpr ⟨List.mem_append_right _ (List.mem_of_getElem? (i := 569) (by decide +kernel)), by decide +kernel⟩
set_option maxRecDepth 100000 in
theorem g_570 : (Cond.code y_Integer_numberOfLeadingZeros b_Integer_numberOfLeadingZeros 2 (some .int)) ∈ xG := List.mem_filter.mpr ⟨List.mem_append_right _ (List.mem_append_right _ (List.mem_append_right _ (List.mem_append_left _ (List.mem_of_getElem? (i := 90) rfl)))), by decide +kernel⟩
theorem g_16 : (Cond.initialized R_Integer) ∈ xG := List.mem_filter.mpr ⟨List.mem_append_right _ (List.mem_of_getElem? (i := 16) (by decide +kernel)), by decide +kernel⟩
theorem g_568 : (Cond.methodLink R_Long 308 y_Integer_numberOfLeadingZeros) ∈ xG := List.mem_filter.mpr ⟨List.mem_append_right _ (List.mem_of_getElem? (i := 568) (by decide +kernel)), by decide +kernel⟩
theorem g_562 : (Cond.instanceMethod y_Fixed_head) ∈ xG := List.mem_filter.mpr ⟨List.mem_append_right _ (List.mem_of_getElem? (i := 562) (by decide +kernel)), by decide +kernel⟩
theorem g_563 : (Cond.selects R_Fixed y_Fixed_head y_Fixed_head) ∈ xG := List.mem_filter.mpr ⟨List.mem_append_right _ (List.mem_of_getElem? (i := 563) (by decide +kernel)), by decide +kernel⟩
theorem g_561 : (Cond.methodLink R_Nearest 51 y_Fixed_head) ∈ xG := List.mem_filter.mpr ⟨List.mem_append_right _ (List.mem_of_getElem? (i := 561) (by decide +kernel)), by decide +kernel⟩
set_option maxRecDepth 100000 in
theorem g_564 : (Cond.code y_Fixed_head b_Fixed_head 1 (some .long)) ∈ xG := List.mem_filter.mpr ⟨List.mem_append_right _ (List.mem_append_right _ (List.mem_append_right _ (List.mem_append_left _ (List.mem_of_getElem? (i := 84) rfl)))), by decide +kernel⟩
theorem g_566 : (Cond.static y_Long_numberOfLeadingZeros) ∈ xG := List.mem_filter.mpr ⟨List.mem_append_right _ (List.mem_of_getElem? (i := 566) (by decide +kernel)), by decide +kernel⟩
set_option maxRecDepth 100000 in
theorem g_567 : (Cond.code y_Long_numberOfLeadingZeros b_Long_numberOfLeadingZeros 3 (some .int)) ∈ xG := List.mem_filter.mpr ⟨List.mem_append_right _ (List.mem_append_right _ (List.mem_append_right _ (List.mem_append_left _ (List.mem_of_getElem? (i := 87) rfl)))), by decide +kernel⟩
theorem g_15 : (Cond.initialized R_Long) ∈ xG := List.mem_filter.mpr ⟨List.mem_append_right _ (List.mem_of_getElem? (i := 15) (by decide +kernel)), by decide +kernel⟩
theorem g_565 : (Cond.methodLink R_Nearest 54 y_Long_numberOfLeadingZeros) ∈ xG := List.mem_filter.mpr ⟨List.mem_append_right _ (List.mem_of_getElem? (i := 565) (by decide +kernel)), by decide +kernel⟩
theorem g_572 : (Cond.methodLink R_Nearest 60 Lib.Math.min.name) ∈ xG := List.mem_filter.mpr ⟨List.mem_append_right _ (List.mem_of_getElem? (i := 572) (by decide +kernel)), by decide +kernel⟩
theorem g_558 : (Cond.instanceMethod y_Nearest_raisePower) ∈ xG := List.mem_filter.mpr ⟨List.mem_append_right _ (List.mem_of_getElem? (i := 558) (by decide +kernel)), by decide +kernel⟩
theorem gp_14 : (Cond.selects R_Nearest y_Nearest_raisePower y_Nearest_raisePower) ∈ xG := List.mem_filter.mpr ⟨List.mem_append_left _ (List.mem_of_getElem? (i := 14) (by decide +kernel)), by decide +kernel⟩
theorem g_556 : (Cond.methodLink R_Nearest 47 y_Nearest_raisePower) ∈ xG := List.mem_filter.mpr ⟨List.mem_append_right _ (List.mem_of_getElem? (i := 556) (by decide +kernel)), by decide +kernel⟩
theorem g_7 : (Cond.initialized R_Nearest) ∈ xG := List.mem_filter.mpr ⟨List.mem_append_right _ (List.mem_of_getElem? (i := 7) (by decide +kernel)), by decide +kernel⟩
set_option maxRecDepth 100000 in
theorem g_559 : (Cond.code y_Nearest_raisePower b_Nearest_raisePower 2 none) ∈ xG := List.mem_filter.mpr ⟨List.mem_append_right _ (List.mem_append_right _ (List.mem_append_right _ (List.mem_append_left _ (List.mem_of_getElem? (i := 79) rfl)))), by decide +kernel⟩
theorem g_553 : (Cond.instanceMethod y_Fixed_isAboveHead) ∈ xG := List.mem_filter.mpr ⟨List.mem_append_right _ (List.mem_of_getElem? (i := 553) (by decide +kernel)), by decide +kernel⟩
theorem g_554 : (Cond.selects R_Fixed y_Fixed_isAboveHead y_Fixed_isAboveHead) ∈ xG := List.mem_filter.mpr ⟨List.mem_append_right _ (List.mem_of_getElem? (i := 554) (by decide +kernel)), by decide +kernel⟩
theorem g_552 : (Cond.methodLink R_Nearest 43 y_Fixed_isAboveHead) ∈ xG := List.mem_filter.mpr ⟨List.mem_append_right _ (List.mem_of_getElem? (i := 552) (by decide +kernel)), by decide +kernel⟩
set_option maxRecDepth 100000 in
theorem g_555 : (Cond.code y_Fixed_isAboveHead b_Fixed_isAboveHead 1 (some .boolean)) ∈ xG := List.mem_filter.mpr ⟨List.mem_append_right _ (List.mem_append_right _ (List.mem_append_right _ (List.mem_append_left _ (List.mem_of_getElem? (i := 75) rfl)))), by decide +kernel⟩
theorem g_578 : (Cond.instanceMethod y_Fixed_hasPlaces) ∈ xG := List.mem_filter.mpr ⟨List.mem_append_right _ (List.mem_of_getElem? (i := 578) (by decide +kernel)), by decide +kernel⟩
theorem g_579 : (Cond.selects R_Fixed y_Fixed_hasPlaces y_Fixed_hasPlaces) ∈ xG := List.mem_filter.mpr ⟨List.mem_append_right _ (List.mem_of_getElem? (i := 579) (by decide +kernel)), by decide +kernel⟩
theorem g_577 : (Cond.methodLink R_Nearest 69 y_Fixed_hasPlaces) ∈ xG := List.mem_filter.mpr ⟨List.mem_append_right _ (List.mem_of_getElem? (i := 577) (by decide +kernel)), by decide +kernel⟩
set_option maxRecDepth 100000 in
theorem g_580 : (Cond.code y_Fixed_hasPlaces b_Fixed_hasPlaces 1 (some .boolean)) ∈ xG := List.mem_filter.mpr ⟨List.mem_append_right _ (List.mem_append_right _ (List.mem_append_right _ (List.mem_append_left _ (List.mem_of_getElem? (i := 100) rfl)))), by decide +kernel⟩
theorem g_533 : (Cond.methodLink R_Nearest 19 y_Decimal_count) ∈ xG := List.mem_filter.mpr ⟨List.mem_append_right _ (List.mem_of_getElem? (i := 533) (by decide +kernel)), by decide +kernel⟩
theorem g_534 : (Cond.methodLink R_Nearest 25 y_Decimal_point) ∈ xG := List.mem_filter.mpr ⟨List.mem_append_right _ (List.mem_of_getElem? (i := 534) (by decide +kernel)), by decide +kernel⟩
theorem g_537 : (Cond.instanceMethod y_Fixed_setDecimal) ∈ xG := List.mem_filter.mpr ⟨List.mem_append_right _ (List.mem_of_getElem? (i := 537) (by decide +kernel)), by decide +kernel⟩
theorem g_538 : (Cond.selects R_Fixed y_Fixed_setDecimal y_Fixed_setDecimal) ∈ xG := List.mem_filter.mpr ⟨List.mem_append_right _ (List.mem_of_getElem? (i := 538) (by decide +kernel)), by decide +kernel⟩
theorem g_536 : (Cond.methodLink R_Nearest 30 y_Fixed_setDecimal) ∈ xG := List.mem_filter.mpr ⟨List.mem_append_right _ (List.mem_of_getElem? (i := 536) (by decide +kernel)), by decide +kernel⟩
set_option maxRecDepth 100000 in
theorem g_539 : (Cond.code y_Fixed_setDecimal b_Fixed_setDecimal 5 none) ∈ xG := List.mem_filter.mpr ⟨List.mem_append_right _ (List.mem_append_right _ (List.mem_append_right _ (List.mem_append_left _ (List.mem_of_getElem? (i := 59) rfl)))), by decide +kernel⟩
theorem g_550 : (Cond.instanceMethod y_Nearest_scaleToHead) ∈ xG := List.mem_filter.mpr ⟨List.mem_append_right _ (List.mem_of_getElem? (i := 550) (by decide +kernel)), by decide +kernel⟩
theorem gp_13 : (Cond.selects R_Nearest y_Nearest_scaleToHead y_Nearest_scaleToHead) ∈ xG := List.mem_filter.mpr ⟨List.mem_append_left _ (List.mem_of_getElem? (i := 13) (by decide +kernel)), by decide +kernel⟩
theorem g_548 : (Cond.methodLink R_Nearest 36 y_Nearest_scaleToHead) ∈ xG := List.mem_filter.mpr ⟨List.mem_append_right _ (List.mem_of_getElem? (i := 548) (by decide +kernel)), by decide +kernel⟩
set_option maxRecDepth 100000 in
theorem g_551 : (Cond.code y_Nearest_scaleToHead b_Nearest_scaleToHead 4 none) ∈ xG := List.mem_filter.mpr ⟨List.mem_append_right _ (List.mem_append_right _ (List.mem_append_right _ (List.mem_append_left _ (List.mem_of_getElem? (i := 71) rfl)))), by decide +kernel⟩
theorem g_575 : (Cond.instanceMethod y_Nearest_rounded) ∈ xG := List.mem_filter.mpr ⟨List.mem_append_right _ (List.mem_of_getElem? (i := 575) (by decide +kernel)), by decide +kernel⟩
theorem gp_15 : (Cond.selects R_Nearest y_Nearest_rounded y_Nearest_rounded) ∈ xG := List.mem_filter.mpr ⟨List.mem_append_left _ (List.mem_of_getElem? (i := 15) (by decide +kernel)), by decide +kernel⟩
theorem g_573 : (Cond.methodLink R_Nearest 39 y_Nearest_rounded) ∈ xG := List.mem_filter.mpr ⟨List.mem_append_right _ (List.mem_of_getElem? (i := 573) (by decide +kernel)), by decide +kernel⟩
set_option maxRecDepth 100000 in
theorem g_576 : (Cond.code y_Nearest_rounded b_Nearest_rounded 6 (some .long)) ∈ xG := List.mem_filter.mpr ⟨List.mem_append_right _ (List.mem_append_right _ (List.mem_append_right _ (List.mem_append_left _ (List.mem_of_getElem? (i := 96) rfl)))), by decide +kernel⟩
theorem g_535 : (Cond.constantLong R_Nearest 28 (9218868437227405312)) ∈ xG := List.mem_filter.mpr ⟨List.mem_append_right _ (List.mem_of_getElem? (i := 535) (by decide +kernel)), by decide +kernel⟩
theorem g_526 : (Cond.constantLong R_Numeral 68 (9221120237041090560)) ∈ xG := List.mem_filter.mpr ⟨List.mem_append_right _ (List.mem_of_getElem? (i := 526) (by decide +kernel)), by decide +kernel⟩
theorem g_581 : (Cond.constantLong R_Numeral 82 (-9223372036854775808)) ∈ xG := List.mem_filter.mpr ⟨List.mem_append_right _ (List.mem_of_getElem? (i := 581) (by decide +kernel)), by decide +kernel⟩
theorem g_325 : (Cond.instanceMethod y_Decimal_dropZerosBehind) ∈ xG := List.mem_filter.mpr ⟨List.mem_append_right _ (List.mem_of_getElem? (i := 325) (by decide +kernel)), by decide +kernel⟩
theorem g_326 : (Cond.selects R_Decimal y_Decimal_dropZerosBehind y_Decimal_dropZerosBehind) ∈ xG := List.mem_filter.mpr ⟨List.mem_append_right _ (List.mem_of_getElem? (i := 326) (by decide +kernel)), by decide +kernel⟩
theorem g_528 : (Cond.methodLink R_Numeral 75 y_Decimal_dropZerosBehind) ∈ xG := List.mem_filter.mpr ⟨List.mem_append_right _ (List.mem_of_getElem? (i := 528) (by decide +kernel)), by decide +kernel⟩
set_option maxRecDepth 100000 in
theorem g_327 : (Cond.code y_Decimal_dropZerosBehind b_Decimal_dropZerosBehind 3 none) ∈ xG := List.mem_filter.mpr ⟨List.mem_append_right _ (List.mem_append_right _ (List.mem_append_left _ (List.mem_of_getElem? (i := 87) rfl))), by decide +kernel⟩
theorem g_97 : (Cond.fieldLink R_Numeral 25 R_Numeral "nearest" "LNumberText$Nearest;") ∈ xG := List.mem_filter.mpr ⟨List.mem_append_right _ (List.mem_of_getElem? (i := 97) (by decide +kernel)), by decide +kernel⟩
theorem g_530 : (Cond.instanceMethod y_Nearest_bits) ∈ xG := List.mem_filter.mpr ⟨List.mem_append_right _ (List.mem_of_getElem? (i := 530) (by decide +kernel)), by decide +kernel⟩
theorem g_531 : (Cond.selects R_Nearest y_Nearest_bits y_Nearest_bits) ∈ xG := List.mem_filter.mpr ⟨List.mem_append_right _ (List.mem_of_getElem? (i := 531) (by decide +kernel)), by decide +kernel⟩
theorem g_529 : (Cond.methodLink R_Numeral 78 y_Nearest_bits) ∈ xG := List.mem_filter.mpr ⟨List.mem_append_right _ (List.mem_of_getElem? (i := 529) (by decide +kernel)), by decide +kernel⟩
set_option maxRecDepth 100000 in
theorem g_532 : (Cond.code y_Nearest_bits b_Nearest_bits 2 (some .long)) ∈ xG := List.mem_filter.mpr ⟨List.mem_append_right _ (List.mem_append_right _ (List.mem_append_right _ (List.mem_append_left _ (List.mem_of_getElem? (i := 52) rfl)))), by decide +kernel⟩
theorem g_527 : (Cond.constantLong R_Numeral 70 (9218868437227405312)) ∈ xG := List.mem_filter.mpr ⟨List.mem_append_right _ (List.mem_of_getElem? (i := 527) (by decide +kernel)), by decide +kernel⟩
theorem g_171 : (Cond.fieldLink R_NT 26 R_NT "numeral" "LNumberText$Numeral;") ∈ xG := List.mem_filter.mpr ⟨List.mem_append_right _ (List.mem_of_getElem? (i := 171) (by decide +kernel)), by decide +kernel⟩
theorem g_423 : (Cond.instanceMethod y_Numeral_scan) ∈ xG := List.mem_filter.mpr ⟨List.mem_append_right _ (List.mem_of_getElem? (i := 423) (by decide +kernel)), by decide +kernel⟩
theorem g_424 : (Cond.selects R_Numeral y_Numeral_scan y_Numeral_scan) ∈ xG := List.mem_filter.mpr ⟨List.mem_append_right _ (List.mem_of_getElem? (i := 424) (by decide +kernel)), by decide +kernel⟩
theorem g_422 : (Cond.methodLink R_NT 68 y_Numeral_scan) ∈ xG := List.mem_filter.mpr ⟨List.mem_append_right _ (List.mem_of_getElem? (i := 422) (by decide +kernel)), by decide +kernel⟩
set_option maxRecDepth 100000 in
theorem g_425 : (Cond.code y_Numeral_scan b_Numeral_scan 5 (some .int)) ∈ xG := List.mem_filter.mpr ⟨List.mem_append_right _ (List.mem_append_right _ (List.mem_append_left _ (List.mem_of_getElem? (i := 185) rfl))), by decide +kernel⟩
theorem g_523 : (Cond.instanceMethod y_Numeral_bits) ∈ xG := List.mem_filter.mpr ⟨List.mem_append_right _ (List.mem_of_getElem? (i := 523) (by decide +kernel)), by decide +kernel⟩
theorem g_524 : (Cond.selects R_Numeral y_Numeral_bits y_Numeral_bits) ∈ xG := List.mem_filter.mpr ⟨List.mem_append_right _ (List.mem_of_getElem? (i := 524) (by decide +kernel)), by decide +kernel⟩
theorem g_522 : (Cond.methodLink R_NT 79 y_Numeral_bits) ∈ xG := List.mem_filter.mpr ⟨List.mem_append_right _ (List.mem_of_getElem? (i := 522) (by decide +kernel)), by decide +kernel⟩
set_option maxRecDepth 100000 in
theorem g_525 : (Cond.code y_Numeral_bits b_Numeral_bits 3 (some .long)) ∈ xG := List.mem_filter.mpr ⟨List.mem_append_right _ (List.mem_append_right _ (List.mem_append_right _ (List.mem_append_left _ (List.mem_of_getElem? (i := 45) rfl)))), by decide +kernel⟩
theorem g_174 : (Cond.fieldLink R_NT 46 R_NT "wrongPlace" "I") ∈ xG := List.mem_filter.mpr ⟨List.mem_append_right _ (List.mem_of_getElem? (i := 174) (by decide +kernel)), by decide +kernel⟩
theorem g_235 : (Cond.constantLong R_NT 129 (9223372036854775807)) ∈ xG := List.mem_filter.mpr ⟨List.mem_append_right _ (List.mem_of_getElem? (i := 235) (by decide +kernel)), by decide +kernel⟩
theorem g_236 : (Cond.constantLong R_NT 127 (9218868437227405312)) ∈ xG := List.mem_filter.mpr ⟨List.mem_append_right _ (List.mem_of_getElem? (i := 236) (by decide +kernel)), by decide +kernel⟩
theorem g_241 : (Cond.methodLink R_Text 25 y_Text_add) ∈ xG := List.mem_filter.mpr ⟨List.mem_append_right _ (List.mem_of_getElem? (i := 241) (by decide +kernel)), by decide +kernel⟩
theorem g_233 : (Cond.static y_NT_isNoNumber) ∈ xG := List.mem_filter.mpr ⟨List.mem_append_right _ (List.mem_of_getElem? (i := 233) (by decide +kernel)), by decide +kernel⟩
set_option maxRecDepth 100000 in
theorem g_234 : (Cond.code y_NT_isNoNumber b_NT_isNoNumber 2 (some .boolean)) ∈ xG := List.mem_filter.mpr ⟨List.mem_append_right _ (List.mem_append_left _ (List.mem_of_getElem? (i := 234) rfl)), by decide +kernel⟩
theorem g_244 : (Cond.static y_NT_isFinite) ∈ xG := List.mem_filter.mpr ⟨List.mem_append_right _ (List.mem_of_getElem? (i := 244) (by decide +kernel)), by decide +kernel⟩
set_option maxRecDepth 100000 in
theorem g_245 : (Cond.code y_NT_isFinite b_NT_isFinite 2 (some .boolean)) ∈ xG := List.mem_filter.mpr ⟨List.mem_append_right _ (List.mem_append_right _ (List.mem_append_left _ (List.mem_of_getElem? (i := 5) rfl))), by decide +kernel⟩
theorem g_238 : (Cond.instanceMethod y_Text_addWord) ∈ xG := List.mem_filter.mpr ⟨List.mem_append_right _ (List.mem_of_getElem? (i := 238) (by decide +kernel)), by decide +kernel⟩
theorem g_239 : (Cond.selects R_Text y_Text_addWord y_Text_addWord) ∈ xG := List.mem_filter.mpr ⟨List.mem_append_right _ (List.mem_of_getElem? (i := 239) (by decide +kernel)), by decide +kernel⟩
theorem g_237 : (Cond.methodLink R_Writer 88 y_Text_addWord) ∈ xG := List.mem_filter.mpr ⟨List.mem_append_right _ (List.mem_of_getElem? (i := 237) (by decide +kernel)), by decide +kernel⟩
set_option maxRecDepth 100000 in
theorem g_240 : (Cond.code y_Text_addWord b_Text_addWord 4 none) ∈ xG := List.mem_filter.mpr ⟨List.mem_append_right _ (List.mem_append_right _ (List.mem_append_left _ (List.mem_of_getElem? (i := 0) rfl))), by decide +kernel⟩
theorem g_242 : (Cond.methodLink R_Writer 94 y_Text_add) ∈ xG := List.mem_filter.mpr ⟨List.mem_append_right _ (List.mem_of_getElem? (i := 242) (by decide +kernel)), by decide +kernel⟩
theorem g_250 : (Cond.static y_NT_isZero) ∈ xG := List.mem_filter.mpr ⟨List.mem_append_right _ (List.mem_of_getElem? (i := 250) (by decide +kernel)), by decide +kernel⟩
set_option maxRecDepth 100000 in
theorem g_251 : (Cond.code y_NT_isZero b_NT_isZero 2 (some .boolean)) ∈ xG := List.mem_filter.mpr ⟨List.mem_append_right _ (List.mem_append_right _ (List.mem_append_left _ (List.mem_of_getElem? (i := 11) rfl))), by decide +kernel⟩
theorem g_263 : (Cond.constantLong R_NT 131 (4503599627370495)) ∈ xG := List.mem_filter.mpr ⟨List.mem_append_right _ (List.mem_of_getElem? (i := 263) (by decide +kernel)), by decide +kernel⟩
theorem g_261 : (Cond.static y_NT_fractionField) ∈ xG := List.mem_filter.mpr ⟨List.mem_append_right _ (List.mem_of_getElem? (i := 261) (by decide +kernel)), by decide +kernel⟩
set_option maxRecDepth 100000 in
theorem g_262 : (Cond.code y_NT_fractionField b_NT_fractionField 2 (some .long)) ∈ xG := List.mem_filter.mpr ⟨List.mem_append_right _ (List.mem_append_right _ (List.mem_append_left _ (List.mem_of_getElem? (i := 22) rfl))), by decide +kernel⟩
theorem g_260 : (Cond.methodLink R_NT 133 y_NT_fractionField) ∈ xG := List.mem_filter.mpr ⟨List.mem_append_right _ (List.mem_of_getElem? (i := 260) (by decide +kernel)), by decide +kernel⟩
theorem g_265 : (Cond.static y_NT_exponentField) ∈ xG := List.mem_filter.mpr ⟨List.mem_append_right _ (List.mem_of_getElem? (i := 265) (by decide +kernel)), by decide +kernel⟩
set_option maxRecDepth 100000 in
theorem g_266 : (Cond.code y_NT_exponentField b_NT_exponentField 2 (some .int)) ∈ xG := List.mem_filter.mpr ⟨List.mem_append_right _ (List.mem_append_right _ (List.mem_append_left _ (List.mem_of_getElem? (i := 26) rfl))), by decide +kernel⟩
theorem g_264 : (Cond.methodLink R_NT 137 y_NT_exponentField) ∈ xG := List.mem_filter.mpr ⟨List.mem_append_right _ (List.mem_of_getElem? (i := 264) (by decide +kernel)), by decide +kernel⟩
theorem g_267 : (Cond.constantLong R_NT 141 (4503599627370496)) ∈ xG := List.mem_filter.mpr ⟨List.mem_append_right _ (List.mem_of_getElem? (i := 267) (by decide +kernel)), by decide +kernel⟩
theorem g_271 : (Cond.methodLink R_NT 143 Lib.Math.max.name) ∈ xG := List.mem_filter.mpr ⟨List.mem_append_right _ (List.mem_of_getElem? (i := 271) (by decide +kernel)), by decide +kernel⟩
theorem g_315 : (Cond.constant R_Decimal 32 (100000000)) ∈ xG := List.mem_filter.mpr ⟨List.mem_append_right _ (List.mem_of_getElem? (i := 315) (by decide +kernel)), by decide +kernel⟩
theorem g_320 : (Cond.methodLink R_Fixed 57 y_Decimal_movePoint) ∈ xG := List.mem_filter.mpr ⟨List.mem_append_right _ (List.mem_of_getElem? (i := 320) (by decide +kernel)), by decide +kernel⟩
theorem g_312 : (Cond.instanceMethod y_Decimal_addLimb) ∈ xG := List.mem_filter.mpr ⟨List.mem_append_right _ (List.mem_of_getElem? (i := 312) (by decide +kernel)), by decide +kernel⟩
theorem g_313 : (Cond.selects R_Decimal y_Decimal_addLimb y_Decimal_addLimb) ∈ xG := List.mem_filter.mpr ⟨List.mem_append_right _ (List.mem_of_getElem? (i := 313) (by decide +kernel)), by decide +kernel⟩
theorem g_311 : (Cond.methodLink R_Fixed 53 y_Decimal_addLimb) ∈ xG := List.mem_filter.mpr ⟨List.mem_append_right _ (List.mem_of_getElem? (i := 311) (by decide +kernel)), by decide +kernel⟩
set_option maxRecDepth 100000 in
theorem g_314 : (Cond.code y_Decimal_addLimb b_Decimal_addLimb 4 none) ∈ xG := List.mem_filter.mpr ⟨List.mem_append_right _ (List.mem_append_right _ (List.mem_append_left _ (List.mem_of_getElem? (i := 74) rfl))), by decide +kernel⟩
theorem g_123 : (Cond.fieldLink R_Writer 9 R_Writer "fixed" "LNumberText$Fixed;") ∈ xG := List.mem_filter.mpr ⟨List.mem_append_right _ (List.mem_of_getElem? (i := 123) (by decide +kernel)), by decide +kernel⟩
theorem g_279 : (Cond.instanceMethod y_Fixed_setWhole) ∈ xG := List.mem_filter.mpr ⟨List.mem_append_right _ (List.mem_of_getElem? (i := 279) (by decide +kernel)), by decide +kernel⟩
theorem g_280 : (Cond.selects R_Fixed y_Fixed_setWhole y_Fixed_setWhole) ∈ xG := List.mem_filter.mpr ⟨List.mem_append_right _ (List.mem_of_getElem? (i := 280) (by decide +kernel)), by decide +kernel⟩
theorem g_278 : (Cond.methodLink R_Writer 103 y_Fixed_setWhole) ∈ xG := List.mem_filter.mpr ⟨List.mem_append_right _ (List.mem_of_getElem? (i := 278) (by decide +kernel)), by decide +kernel⟩
set_option maxRecDepth 100000 in
theorem g_281 : (Cond.code y_Fixed_setWhole b_Fixed_setWhole 5 none) ∈ xG := List.mem_filter.mpr ⟨List.mem_append_right _ (List.mem_append_right _ (List.mem_append_left _ (List.mem_of_getElem? (i := 41) rfl))), by decide +kernel⟩
theorem g_283 : (Cond.methodLink R_Writer 108 y_Fixed_scale) ∈ xG := List.mem_filter.mpr ⟨List.mem_append_right _ (List.mem_of_getElem? (i := 283) (by decide +kernel)), by decide +kernel⟩
theorem g_303 : (Cond.methodLink R_Writer 72 y_Decimal_clear) ∈ xG := List.mem_filter.mpr ⟨List.mem_append_right _ (List.mem_of_getElem? (i := 303) (by decide +kernel)), by decide +kernel⟩
theorem g_308 : (Cond.instanceMethod y_Fixed_addTo) ∈ xG := List.mem_filter.mpr ⟨List.mem_append_right _ (List.mem_of_getElem? (i := 308) (by decide +kernel)), by decide +kernel⟩
theorem g_309 : (Cond.selects R_Fixed y_Fixed_addTo y_Fixed_addTo) ∈ xG := List.mem_filter.mpr ⟨List.mem_append_right _ (List.mem_of_getElem? (i := 309) (by decide +kernel)), by decide +kernel⟩
theorem g_307 : (Cond.methodLink R_Writer 111 y_Fixed_addTo) ∈ xG := List.mem_filter.mpr ⟨List.mem_append_right _ (List.mem_of_getElem? (i := 307) (by decide +kernel)), by decide +kernel⟩
set_option maxRecDepth 100000 in
theorem g_310 : (Cond.code y_Fixed_addTo b_Fixed_addTo 3 none) ∈ xG := List.mem_filter.mpr ⟨List.mem_append_right _ (List.mem_append_right _ (List.mem_append_left _ (List.mem_of_getElem? (i := 70) rfl))), by decide +kernel⟩
theorem g_324 : (Cond.methodLink R_Writer 115 y_Decimal_dropZerosBehind) ∈ xG := List.mem_filter.mpr ⟨List.mem_append_right _ (List.mem_of_getElem? (i := 324) (by decide +kernel)), by decide +kernel⟩
theorem g_362 : (Cond.methodLink R_Decimal 39 y_Decimal_add) ∈ xG := List.mem_filter.mpr ⟨List.mem_append_right _ (List.mem_of_getElem? (i := 362) (by decide +kernel)), by decide +kernel⟩
theorem g_366 : (Cond.methodLink R_Decimal 36 y_Decimal_dropZerosBehind) ∈ xG := List.mem_filter.mpr ⟨List.mem_append_right _ (List.mem_of_getElem? (i := 366) (by decide +kernel)), by decide +kernel⟩
theorem g_360 : (Cond.instanceMethod y_Decimal_countUp) ∈ xG := List.mem_filter.mpr ⟨List.mem_append_right _ (List.mem_of_getElem? (i := 360) (by decide +kernel)), by decide +kernel⟩
theorem gp_6 : (Cond.selects R_Decimal y_Decimal_countUp y_Decimal_countUp) ∈ xG := List.mem_filter.mpr ⟨List.mem_append_left _ (List.mem_of_getElem? (i := 6) (by decide +kernel)), by decide +kernel⟩
theorem g_358 : (Cond.methodLink R_Decimal 33 y_Decimal_countUp) ∈ xG := List.mem_filter.mpr ⟨List.mem_append_right _ (List.mem_of_getElem? (i := 358) (by decide +kernel)), by decide +kernel⟩
set_option maxRecDepth 100000 in
theorem g_361 : (Cond.code y_Decimal_countUp b_Decimal_countUp 2 none) ∈ xG := List.mem_filter.mpr ⟨List.mem_append_right _ (List.mem_append_right _ (List.mem_append_left _ (List.mem_of_getElem? (i := 121) rfl))), by decide +kernel⟩
theorem g_124 : (Cond.fieldLink R_Writer 20 R_Writer "decimal" "LNumberText$Decimal;") ∈ xG := List.mem_filter.mpr ⟨List.mem_append_right _ (List.mem_of_getElem? (i := 124) (by decide +kernel)), by decide +kernel⟩
theorem g_337 : (Cond.methodLink R_Writer 69 y_Decimal_point) ∈ xG := List.mem_filter.mpr ⟨List.mem_append_right _ (List.mem_of_getElem? (i := 337) (by decide +kernel)), by decide +kernel⟩
theorem g_126 : (Cond.fieldLink R_Writer 27 R_Writer "high" "LNumberText$Decimal;") ∈ xG := List.mem_filter.mpr ⟨List.mem_append_right _ (List.mem_of_getElem? (i := 126) (by decide +kernel)), by decide +kernel⟩
theorem g_342 : (Cond.instanceMethod y_Decimal_digitOf) ∈ xG := List.mem_filter.mpr ⟨List.mem_append_right _ (List.mem_of_getElem? (i := 342) (by decide +kernel)), by decide +kernel⟩
theorem g_343 : (Cond.selects R_Decimal y_Decimal_digitOf y_Decimal_digitOf) ∈ xG := List.mem_filter.mpr ⟨List.mem_append_right _ (List.mem_of_getElem? (i := 343) (by decide +kernel)), by decide +kernel⟩
theorem g_341 : (Cond.methodLink R_Writer 132 y_Decimal_digitOf) ∈ xG := List.mem_filter.mpr ⟨List.mem_append_right _ (List.mem_of_getElem? (i := 341) (by decide +kernel)), by decide +kernel⟩
set_option maxRecDepth 100000 in
theorem g_344 : (Cond.code y_Decimal_digitOf b_Decimal_digitOf 2 (some .int)) ∈ xG := List.mem_filter.mpr ⟨List.mem_append_right _ (List.mem_append_right _ (List.mem_append_left _ (List.mem_of_getElem? (i := 104) rfl))), by decide +kernel⟩
theorem g_345 : (Cond.constantLong R_Writer 136 (10)) ∈ xG := List.mem_filter.mpr ⟨List.mem_append_right _ (List.mem_of_getElem? (i := 345) (by decide +kernel)), by decide +kernel⟩
theorem g_125 : (Cond.fieldLink R_Writer 24 R_Writer "low" "LNumberText$Decimal;") ∈ xG := List.mem_filter.mpr ⟨List.mem_append_right _ (List.mem_of_getElem? (i := 125) (by decide +kernel)), by decide +kernel⟩
theorem g_355 : (Cond.instanceMethod y_Decimal_cut) ∈ xG := List.mem_filter.mpr ⟨List.mem_append_right _ (List.mem_of_getElem? (i := 355) (by decide +kernel)), by decide +kernel⟩
theorem g_356 : (Cond.selects R_Decimal y_Decimal_cut y_Decimal_cut) ∈ xG := List.mem_filter.mpr ⟨List.mem_append_right _ (List.mem_of_getElem? (i := 356) (by decide +kernel)), by decide +kernel⟩
theorem g_354 : (Cond.methodLink R_Writer 65 y_Decimal_cut) ∈ xG := List.mem_filter.mpr ⟨List.mem_append_right _ (List.mem_of_getElem? (i := 354) (by decide +kernel)), by decide +kernel⟩
set_option maxRecDepth 100000 in
theorem g_357 : (Cond.code y_Decimal_cut b_Decimal_cut 3 none) ∈ xG := List.mem_filter.mpr ⟨List.mem_append_right _ (List.mem_append_right _ (List.mem_append_left _ (List.mem_of_getElem? (i := 117) rfl))), by decide +kernel⟩
theorem g_351 : (Cond.instanceMethod y_Decimal_roundsUp) ∈ xG := List.mem_filter.mpr ⟨List.mem_append_right _ (List.mem_of_getElem? (i := 351) (by decide +kernel)), by decide +kernel⟩
theorem g_352 : (Cond.selects R_Decimal y_Decimal_roundsUp y_Decimal_roundsUp) ∈ xG := List.mem_filter.mpr ⟨List.mem_append_right _ (List.mem_of_getElem? (i := 352) (by decide +kernel)), by decide +kernel⟩
theorem g_350 : (Cond.methodLink R_Writer 61 y_Decimal_roundsUp) ∈ xG := List.mem_filter.mpr ⟨List.mem_append_right _ (List.mem_of_getElem? (i := 350) (by decide +kernel)), by decide +kernel⟩
set_option maxRecDepth 100000 in
theorem g_353 : (Cond.code y_Decimal_roundsUp b_Decimal_roundsUp 2 (some .boolean)) ∈ xG := List.mem_filter.mpr ⟨List.mem_append_right _ (List.mem_append_right _ (List.mem_append_left _ (List.mem_of_getElem? (i := 113) rfl))), by decide +kernel⟩
theorem g_347 : (Cond.instanceMethod y_Decimal_endsAt) ∈ xG := List.mem_filter.mpr ⟨List.mem_append_right _ (List.mem_of_getElem? (i := 347) (by decide +kernel)), by decide +kernel⟩
theorem g_348 : (Cond.selects R_Decimal y_Decimal_endsAt y_Decimal_endsAt) ∈ xG := List.mem_filter.mpr ⟨List.mem_append_right _ (List.mem_of_getElem? (i := 348) (by decide +kernel)), by decide +kernel⟩
theorem g_346 : (Cond.methodLink R_Writer 138 y_Decimal_endsAt) ∈ xG := List.mem_filter.mpr ⟨List.mem_append_right _ (List.mem_of_getElem? (i := 346) (by decide +kernel)), by decide +kernel⟩
set_option maxRecDepth 100000 in
theorem g_349 : (Cond.code y_Decimal_endsAt b_Decimal_endsAt 2 (some .boolean)) ∈ xG := List.mem_filter.mpr ⟨List.mem_append_right _ (List.mem_append_right _ (List.mem_append_left _ (List.mem_of_getElem? (i := 109) rfl))), by decide +kernel⟩
theorem g_256 : (Cond.constantLong R_Writer 118 (4)) ∈ xG := List.mem_filter.mpr ⟨List.mem_append_right _ (List.mem_of_getElem? (i := 256) (by decide +kernel)), by decide +kernel⟩
theorem g_258 : (Cond.static y_NT_multiple) ∈ xG := List.mem_filter.mpr ⟨List.mem_append_right _ (List.mem_of_getElem? (i := 258) (by decide +kernel)), by decide +kernel⟩
set_option maxRecDepth 100000 in
theorem g_259 : (Cond.code y_NT_multiple b_NT_multiple 4 (some .long)) ∈ xG := List.mem_filter.mpr ⟨List.mem_append_right _ (List.mem_append_right _ (List.mem_append_left _ (List.mem_of_getElem? (i := 19) rfl))), by decide +kernel⟩
theorem g_269 : (Cond.static y_NT_power) ∈ xG := List.mem_filter.mpr ⟨List.mem_append_right _ (List.mem_of_getElem? (i := 269) (by decide +kernel)), by decide +kernel⟩
set_option maxRecDepth 100000 in
theorem g_270 : (Cond.code y_NT_power b_NT_power 2 (some .int)) ∈ xG := List.mem_filter.mpr ⟨List.mem_append_right _ (List.mem_append_right _ (List.mem_append_left _ (List.mem_of_getElem? (i := 30) rfl))), by decide +kernel⟩
theorem g_276 : (Cond.instanceMethod y_Writer_expand) ∈ xG := List.mem_filter.mpr ⟨List.mem_append_right _ (List.mem_of_getElem? (i := 276) (by decide +kernel)), by decide +kernel⟩
theorem gp_1 : (Cond.selects R_Writer y_Writer_expand y_Writer_expand) ∈ xG := List.mem_filter.mpr ⟨List.mem_append_left _ (List.mem_of_getElem? (i := 1) (by decide +kernel)), by decide +kernel⟩
theorem g_274 : (Cond.methodLink R_Writer 57 y_Writer_expand) ∈ xG := List.mem_filter.mpr ⟨List.mem_append_right _ (List.mem_of_getElem? (i := 274) (by decide +kernel)), by decide +kernel⟩
theorem g_8 : (Cond.initialized R_Writer) ∈ xG := List.mem_filter.mpr ⟨List.mem_append_right _ (List.mem_of_getElem? (i := 8) (by decide +kernel)), by decide +kernel⟩
set_option maxRecDepth 100000 in
theorem g_277 : (Cond.code y_Writer_expand b_Writer_expand 5 none) ∈ xG := List.mem_filter.mpr ⟨List.mem_append_right _ (List.mem_append_right _ (List.mem_append_left _ (List.mem_of_getElem? (i := 37) rfl))), by decide +kernel⟩
theorem g_332 : (Cond.constantLong R_Writer 126 (2)) ∈ xG := List.mem_filter.mpr ⟨List.mem_append_right _ (List.mem_of_getElem? (i := 332) (by decide +kernel)), by decide +kernel⟩
theorem g_335 : (Cond.instanceMethod y_Writer_shorten) ∈ xG := List.mem_filter.mpr ⟨List.mem_append_right _ (List.mem_of_getElem? (i := 335) (by decide +kernel)), by decide +kernel⟩
theorem gp_5 : (Cond.selects R_Writer y_Writer_shorten y_Writer_shorten) ∈ xG := List.mem_filter.mpr ⟨List.mem_append_left _ (List.mem_of_getElem? (i := 5) (by decide +kernel)), by decide +kernel⟩
theorem g_333 : (Cond.methodLink R_Writer 128 y_Writer_shorten) ∈ xG := List.mem_filter.mpr ⟨List.mem_append_right _ (List.mem_of_getElem? (i := 333) (by decide +kernel)), by decide +kernel⟩
set_option maxRecDepth 100000 in
theorem g_336 : (Cond.code y_Writer_shorten b_Writer_shorten 15 none) ∈ xG := List.mem_filter.mpr ⟨List.mem_append_right _ (List.mem_append_right _ (List.mem_append_left _ (List.mem_of_getElem? (i := 96) rfl))), by decide +kernel⟩
theorem g_385 : (Cond.methodLink R_Writer 158 y_Decimal_digit) ∈ xG := List.mem_filter.mpr ⟨List.mem_append_right _ (List.mem_of_getElem? (i := 385) (by decide +kernel)), by decide +kernel⟩
theorem g_383 : (Cond.instanceMethod y_Writer_addDigits) ∈ xG := List.mem_filter.mpr ⟨List.mem_append_right _ (List.mem_of_getElem? (i := 383) (by decide +kernel)), by decide +kernel⟩
theorem gp_9 : (Cond.selects R_Writer y_Writer_addDigits y_Writer_addDigits) ∈ xG := List.mem_filter.mpr ⟨List.mem_append_left _ (List.mem_of_getElem? (i := 9) (by decide +kernel)), by decide +kernel⟩
theorem g_381 : (Cond.methodLink R_Writer 151 y_Writer_addDigits) ∈ xG := List.mem_filter.mpr ⟨List.mem_append_right _ (List.mem_of_getElem? (i := 381) (by decide +kernel)), by decide +kernel⟩
set_option maxRecDepth 100000 in
theorem g_384 : (Cond.code y_Writer_addDigits b_Writer_addDigits 5 none) ∈ xG := List.mem_filter.mpr ⟨List.mem_append_right _ (List.mem_append_right _ (List.mem_append_left _ (List.mem_of_getElem? (i := 144) rfl))), by decide +kernel⟩
theorem g_391 : (Cond.instanceMethod y_Text_addNumber) ∈ xG := List.mem_filter.mpr ⟨List.mem_append_right _ (List.mem_of_getElem? (i := 391) (by decide +kernel)), by decide +kernel⟩
theorem g_392 : (Cond.selects R_Text y_Text_addNumber y_Text_addNumber) ∈ xG := List.mem_filter.mpr ⟨List.mem_append_right _ (List.mem_of_getElem? (i := 392) (by decide +kernel)), by decide +kernel⟩
theorem g_390 : (Cond.methodLink R_Writer 155 y_Text_addNumber) ∈ xG := List.mem_filter.mpr ⟨List.mem_append_right _ (List.mem_of_getElem? (i := 390) (by decide +kernel)), by decide +kernel⟩
set_option maxRecDepth 100000 in
theorem g_393 : (Cond.code y_Text_addNumber b_Text_addNumber 3 none) ∈ xG := List.mem_filter.mpr ⟨List.mem_append_right _ (List.mem_append_right _ (List.mem_append_left _ (List.mem_of_getElem? (i := 153) rfl))), by decide +kernel⟩
theorem g_373 : (Cond.instanceMethod y_Decimal_isPlain) ∈ xG := List.mem_filter.mpr ⟨List.mem_append_right _ (List.mem_of_getElem? (i := 373) (by decide +kernel)), by decide +kernel⟩
theorem g_374 : (Cond.selects R_Decimal y_Decimal_isPlain y_Decimal_isPlain) ∈ xG := List.mem_filter.mpr ⟨List.mem_append_right _ (List.mem_of_getElem? (i := 374) (by decide +kernel)), by decide +kernel⟩
theorem g_372 : (Cond.methodLink R_Writer 141 y_Decimal_isPlain) ∈ xG := List.mem_filter.mpr ⟨List.mem_append_right _ (List.mem_of_getElem? (i := 372) (by decide +kernel)), by decide +kernel⟩
set_option maxRecDepth 100000 in
theorem g_375 : (Cond.code y_Decimal_isPlain b_Decimal_isPlain 1 (some .boolean)) ∈ xG := List.mem_filter.mpr ⟨List.mem_append_right _ (List.mem_append_right _ (List.mem_append_left _ (List.mem_of_getElem? (i := 135) rfl))), by decide +kernel⟩
theorem g_388 : (Cond.instanceMethod y_Writer_addWithExponent) ∈ xG := List.mem_filter.mpr ⟨List.mem_append_right _ (List.mem_of_getElem? (i := 388) (by decide +kernel)), by decide +kernel⟩
theorem gp_10 : (Cond.selects R_Writer y_Writer_addWithExponent y_Writer_addWithExponent) ∈ xG := List.mem_filter.mpr ⟨List.mem_append_left _ (List.mem_of_getElem? (i := 10) (by decide +kernel)), by decide +kernel⟩
theorem g_386 : (Cond.methodLink R_Writer 81 y_Writer_addWithExponent) ∈ xG := List.mem_filter.mpr ⟨List.mem_append_right _ (List.mem_of_getElem? (i := 386) (by decide +kernel)), by decide +kernel⟩
set_option maxRecDepth 100000 in
theorem g_389 : (Cond.code y_Writer_addWithExponent b_Writer_addWithExponent 3 none) ∈ xG := List.mem_filter.mpr ⟨List.mem_append_right _ (List.mem_append_right _ (List.mem_append_left _ (List.mem_of_getElem? (i := 149) rfl))), by decide +kernel⟩
theorem g_376 : (Cond.methodLink R_Writer 145 Lib.Math.max.name) ∈ xG := List.mem_filter.mpr ⟨List.mem_append_right _ (List.mem_of_getElem? (i := 376) (by decide +kernel)), by decide +kernel⟩
theorem g_379 : (Cond.instanceMethod y_Writer_addPlaces) ∈ xG := List.mem_filter.mpr ⟨List.mem_append_right _ (List.mem_of_getElem? (i := 379) (by decide +kernel)), by decide +kernel⟩
theorem gp_8 : (Cond.selects R_Writer y_Writer_addPlaces y_Writer_addPlaces) ∈ xG := List.mem_filter.mpr ⟨List.mem_append_left _ (List.mem_of_getElem? (i := 8) (by decide +kernel)), by decide +kernel⟩
theorem g_377 : (Cond.methodLink R_Writer 75 y_Writer_addPlaces) ∈ xG := List.mem_filter.mpr ⟨List.mem_append_right _ (List.mem_of_getElem? (i := 377) (by decide +kernel)), by decide +kernel⟩
set_option maxRecDepth 100000 in
theorem g_380 : (Cond.code y_Writer_addPlaces b_Writer_addPlaces 4 none) ∈ xG := List.mem_filter.mpr ⟨List.mem_append_right _ (List.mem_append_right _ (List.mem_append_left _ (List.mem_of_getElem? (i := 140) rfl))), by decide +kernel⟩
theorem g_230 : (Cond.static y_Writer_addsDigits) ∈ xG := List.mem_filter.mpr ⟨List.mem_append_right _ (List.mem_of_getElem? (i := 230) (by decide +kernel)), by decide +kernel⟩
set_option maxRecDepth 100000 in
theorem g_231 : (Cond.code y_Writer_addsDigits b_Writer_addsDigits 3 (some .boolean)) ∈ xG := List.mem_filter.mpr ⟨List.mem_append_right _ (List.mem_append_left _ (List.mem_of_getElem? (i := 231) rfl)), by decide +kernel⟩
theorem g_229 : (Cond.methodLink R_Writer 30 y_Writer_addsDigits) ∈ xG := List.mem_filter.mpr ⟨List.mem_append_right _ (List.mem_of_getElem? (i := 229) (by decide +kernel)), by decide +kernel⟩
theorem g_247 : (Cond.static y_Writer_addedZero) ∈ xG := List.mem_filter.mpr ⟨List.mem_append_right _ (List.mem_of_getElem? (i := 247) (by decide +kernel)), by decide +kernel⟩
set_option maxRecDepth 100000 in
theorem g_248 : (Cond.code y_Writer_addedZero b_Writer_addedZero 3 (some .boolean)) ∈ xG := List.mem_filter.mpr ⟨List.mem_append_right _ (List.mem_append_right _ (List.mem_append_left _ (List.mem_of_getElem? (i := 8) rfl))), by decide +kernel⟩
theorem g_246 : (Cond.methodLink R_Writer 34 y_Writer_addedZero) ∈ xG := List.mem_filter.mpr ⟨List.mem_append_right _ (List.mem_of_getElem? (i := 246) (by decide +kernel)), by decide +kernel⟩
theorem g_254 : (Cond.instanceMethod y_Writer_findShort) ∈ xG := List.mem_filter.mpr ⟨List.mem_append_right _ (List.mem_of_getElem? (i := 254) (by decide +kernel)), by decide +kernel⟩
theorem gp_0 : (Cond.selects R_Writer y_Writer_findShort y_Writer_findShort) ∈ xG := List.mem_filter.mpr ⟨List.mem_append_left _ (List.mem_of_getElem? (i := 0) (by decide +kernel)), by decide +kernel⟩
theorem g_252 : (Cond.methodLink R_Writer 37 y_Writer_findShort) ∈ xG := List.mem_filter.mpr ⟨List.mem_append_right _ (List.mem_of_getElem? (i := 252) (by decide +kernel)), by decide +kernel⟩
set_option maxRecDepth 100000 in
theorem g_255 : (Cond.code y_Writer_findShort b_Writer_findShort 7 none) ∈ xG := List.mem_filter.mpr ⟨List.mem_append_right _ (List.mem_append_right _ (List.mem_append_left _ (List.mem_of_getElem? (i := 15) rfl))), by decide +kernel⟩
theorem g_367 : (Cond.methodLink R_Writer 41 y_Decimal_count) ∈ xG := List.mem_filter.mpr ⟨List.mem_append_right _ (List.mem_of_getElem? (i := 367) (by decide +kernel)), by decide +kernel⟩
theorem g_370 : (Cond.instanceMethod y_Writer_addDecimal) ∈ xG := List.mem_filter.mpr ⟨List.mem_append_right _ (List.mem_of_getElem? (i := 370) (by decide +kernel)), by decide +kernel⟩
theorem gp_7 : (Cond.selects R_Writer y_Writer_addDecimal y_Writer_addDecimal) ∈ xG := List.mem_filter.mpr ⟨List.mem_append_left _ (List.mem_of_getElem? (i := 7) (by decide +kernel)), by decide +kernel⟩
theorem g_368 : (Cond.methodLink R_Writer 45 y_Writer_addDecimal) ∈ xG := List.mem_filter.mpr ⟨List.mem_append_right _ (List.mem_of_getElem? (i := 368) (by decide +kernel)), by decide +kernel⟩
set_option maxRecDepth 100000 in
theorem g_371 : (Cond.code y_Writer_addDecimal b_Writer_addDecimal 3 none) ∈ xG := List.mem_filter.mpr ⟨List.mem_append_right _ (List.mem_append_right _ (List.mem_append_left _ (List.mem_of_getElem? (i := 131) rfl))), by decide +kernel⟩
theorem g_172 : (Cond.fieldLink R_NT 33 R_NT "writer" "LNumberText$Writer;") ∈ xG := List.mem_filter.mpr ⟨List.mem_append_right _ (List.mem_of_getElem? (i := 172) (by decide +kernel)), by decide +kernel⟩
theorem g_226 : (Cond.instanceMethod y_Writer_addShort) ∈ xG := List.mem_filter.mpr ⟨List.mem_append_right _ (List.mem_of_getElem? (i := 226) (by decide +kernel)), by decide +kernel⟩
theorem g_227 : (Cond.selects R_Writer y_Writer_addShort y_Writer_addShort) ∈ xG := List.mem_filter.mpr ⟨List.mem_append_right _ (List.mem_of_getElem? (i := 227) (by decide +kernel)), by decide +kernel⟩
theorem g_225 : (Cond.methodLink R_NT 83 y_Writer_addShort) ∈ xG := List.mem_filter.mpr ⟨List.mem_append_right _ (List.mem_of_getElem? (i := 225) (by decide +kernel)), by decide +kernel⟩
set_option maxRecDepth 100000 in
theorem g_228 : (Cond.code y_Writer_addShort b_Writer_addShort 4 none) ∈ xG := List.mem_filter.mpr ⟨List.mem_append_right _ (List.mem_append_left _ (List.mem_of_getElem? (i := 228) rfl)), by decide +kernel⟩
theorem g_72 : (Cond.methodLink R_Decimal 9 Lib.Math.max.name) ∈ xG := List.mem_filter.mpr ⟨List.mem_append_right _ (List.mem_of_getElem? (i := 72) (by decide +kernel)), by decide +kernel⟩
theorem g_403 : (Cond.instanceMethod y_Decimal_leastPlaces) ∈ xG := List.mem_filter.mpr ⟨List.mem_append_right _ (List.mem_of_getElem? (i := 403) (by decide +kernel)), by decide +kernel⟩
theorem g_404 : (Cond.selects R_Decimal y_Decimal_leastPlaces y_Decimal_leastPlaces) ∈ xG := List.mem_filter.mpr ⟨List.mem_append_right _ (List.mem_of_getElem? (i := 404) (by decide +kernel)), by decide +kernel⟩
theorem g_402 : (Cond.methodLink R_Writer 78 y_Decimal_leastPlaces) ∈ xG := List.mem_filter.mpr ⟨List.mem_append_right _ (List.mem_of_getElem? (i := 402) (by decide +kernel)), by decide +kernel⟩
set_option maxRecDepth 100000 in
theorem g_405 : (Cond.code y_Decimal_leastPlaces b_Decimal_leastPlaces 1 (some .int)) ∈ xG := List.mem_filter.mpr ⟨List.mem_append_right _ (List.mem_append_right _ (List.mem_append_left _ (List.mem_of_getElem? (i := 165) rfl))), by decide +kernel⟩
theorem g_399 : (Cond.instanceMethod y_Writer_addInFull) ∈ xG := List.mem_filter.mpr ⟨List.mem_append_right _ (List.mem_of_getElem? (i := 399) (by decide +kernel)), by decide +kernel⟩
theorem g_400 : (Cond.selects R_Writer y_Writer_addInFull y_Writer_addInFull) ∈ xG := List.mem_filter.mpr ⟨List.mem_append_right _ (List.mem_of_getElem? (i := 400) (by decide +kernel)), by decide +kernel⟩
theorem g_398 : (Cond.methodLink R_NT 98 y_Writer_addInFull) ∈ xG := List.mem_filter.mpr ⟨List.mem_append_right _ (List.mem_of_getElem? (i := 398) (by decide +kernel)), by decide +kernel⟩
set_option maxRecDepth 100000 in
theorem g_401 : (Cond.code y_Writer_addInFull b_Writer_addInFull 4 none) ∈ xG := List.mem_filter.mpr ⟨List.mem_append_right _ (List.mem_append_right _ (List.mem_append_left _ (List.mem_of_getElem? (i := 161) rfl))), by decide +kernel⟩
theorem g_146 : (Cond.fieldLink R_Table 19 R_Table "rows" "I") ∈ xG := List.mem_filter.mpr ⟨List.mem_append_right _ (List.mem_of_getElem? (i := 146) (by decide +kernel)), by decide +kernel⟩
theorem g_147 : (Cond.fieldLink R_Table 23 R_Table "columns" "I") ∈ xG := List.mem_filter.mpr ⟨List.mem_append_right _ (List.mem_of_getElem? (i := 147) (by decide +kernel)), by decide +kernel⟩
theorem g_151 : (Cond.fieldLink R_Table 43 R_Table "lineLength" "I") ∈ xG := List.mem_filter.mpr ⟨List.mem_append_right _ (List.mem_of_getElem? (i := 151) (by decide +kernel)), by decide +kernel⟩
theorem g_145 : (Cond.fieldLink R_Table 15 R_Table "numbers" "[J") ∈ xG := List.mem_filter.mpr ⟨List.mem_append_right _ (List.mem_of_getElem? (i := 145) (by decide +kernel)), by decide +kernel⟩
theorem g_173 : (Cond.fieldLink R_NT 42 R_NT "grid" "LNumberText$Table;") ∈ xG := List.mem_filter.mpr ⟨List.mem_append_right _ (List.mem_of_getElem? (i := 173) (by decide +kernel)), by decide +kernel⟩
theorem g_627 : (Cond.instanceMethod y_Table_has) ∈ xG := List.mem_filter.mpr ⟨List.mem_append_right _ (List.mem_of_getElem? (i := 627) (by decide +kernel)), by decide +kernel⟩
theorem g_628 : (Cond.selects R_Table y_Table_has y_Table_has) ∈ xG := List.mem_filter.mpr ⟨List.mem_append_right _ (List.mem_of_getElem? (i := 628) (by decide +kernel)), by decide +kernel⟩
theorem g_626 : (Cond.methodLink R_NT 107 y_Table_has) ∈ xG := List.mem_filter.mpr ⟨List.mem_append_right _ (List.mem_of_getElem? (i := 626) (by decide +kernel)), by decide +kernel⟩
theorem g_9 : (Cond.initialized R_Table) ∈ xG := List.mem_filter.mpr ⟨List.mem_append_right _ (List.mem_of_getElem? (i := 9) (by decide +kernel)), by decide +kernel⟩
set_option maxRecDepth 100000 in
theorem g_629 : (Cond.code y_Table_has b_Table_has 3 (some .boolean)) ∈ xG := List.mem_filter.mpr ⟨List.mem_append_right _ (List.mem_append_right _ (List.mem_append_right _ (List.mem_append_left _ (List.mem_of_getElem? (i := 149) rfl)))), by decide +kernel⟩
theorem g_647 : (Cond.instanceMethod y_Table_put) ∈ xG := List.mem_filter.mpr ⟨List.mem_append_right _ (List.mem_of_getElem? (i := 647) (by decide +kernel)), by decide +kernel⟩
theorem g_648 : (Cond.selects R_Table y_Table_put y_Table_put) ∈ xG := List.mem_filter.mpr ⟨List.mem_append_right _ (List.mem_of_getElem? (i := 648) (by decide +kernel)), by decide +kernel⟩
theorem g_646 : (Cond.methodLink R_NT 116 y_Table_put) ∈ xG := List.mem_filter.mpr ⟨List.mem_append_right _ (List.mem_of_getElem? (i := 646) (by decide +kernel)), by decide +kernel⟩
set_option maxRecDepth 100000 in
theorem g_649 : (Cond.code y_Table_put b_Table_put 6 none) ∈ xG := List.mem_filter.mpr ⟨List.mem_append_right _ (List.mem_append_right _ (List.mem_append_right _ (List.mem_append_left _ (List.mem_of_getElem? (i := 169) rfl)))), by decide +kernel⟩
theorem g_148 : (Cond.fieldLink R_Table 31 R_Table "texts" "LNumberText$Text;") ∈ xG := List.mem_filter.mpr ⟨List.mem_append_right _ (List.mem_of_getElem? (i := 148) (by decide +kernel)), by decide +kernel⟩
theorem g_665 : (Cond.methodLink R_Table 57 y_Text_clear) ∈ xG := List.mem_filter.mpr ⟨List.mem_append_right _ (List.mem_of_getElem? (i := 665) (by decide +kernel)), by decide +kernel⟩
theorem g_149 : (Cond.fieldLink R_Table 35 R_Table "ends" "[I") ∈ xG := List.mem_filter.mpr ⟨List.mem_append_right _ (List.mem_of_getElem? (i := 149) (by decide +kernel)), by decide +kernel⟩
theorem g_144 : (Cond.fieldLink R_Table 11 R_Table "writer" "LNumberText$Writer;") ∈ xG := List.mem_filter.mpr ⟨List.mem_append_right _ (List.mem_of_getElem? (i := 144) (by decide +kernel)), by decide +kernel⟩
theorem g_668 : (Cond.instanceMethod y_Table_number) ∈ xG := List.mem_filter.mpr ⟨List.mem_append_right _ (List.mem_of_getElem? (i := 668) (by decide +kernel)), by decide +kernel⟩
theorem gp_17 : (Cond.selects R_Table y_Table_number y_Table_number) ∈ xG := List.mem_filter.mpr ⟨List.mem_append_left _ (List.mem_of_getElem? (i := 17) (by decide +kernel)), by decide +kernel⟩
theorem g_666 : (Cond.methodLink R_Table 60 y_Table_number) ∈ xG := List.mem_filter.mpr ⟨List.mem_append_right _ (List.mem_of_getElem? (i := 666) (by decide +kernel)), by decide +kernel⟩
set_option maxRecDepth 100000 in
theorem g_669 : (Cond.code y_Table_number b_Table_number 4 (some .long)) ∈ xG := List.mem_filter.mpr ⟨List.mem_append_right _ (List.mem_append_right _ (List.mem_append_right _ (List.mem_append_left _ (List.mem_of_getElem? (i := 189) rfl)))), by decide +kernel⟩
theorem g_671 : (Cond.instanceMethod y_Writer_addScientific) ∈ xG := List.mem_filter.mpr ⟨List.mem_append_right _ (List.mem_of_getElem? (i := 671) (by decide +kernel)), by decide +kernel⟩
theorem g_672 : (Cond.selects R_Writer y_Writer_addScientific y_Writer_addScientific) ∈ xG := List.mem_filter.mpr ⟨List.mem_append_right _ (List.mem_of_getElem? (i := 672) (by decide +kernel)), by decide +kernel⟩
theorem g_670 : (Cond.methodLink R_Table 64 y_Writer_addScientific) ∈ xG := List.mem_filter.mpr ⟨List.mem_append_right _ (List.mem_of_getElem? (i := 670) (by decide +kernel)), by decide +kernel⟩
set_option maxRecDepth 100000 in
theorem g_673 : (Cond.code y_Writer_addScientific b_Writer_addScientific 5 none) ∈ xG := List.mem_filter.mpr ⟨List.mem_append_right _ (List.mem_append_right _ (List.mem_append_right _ (List.mem_append_left _ (List.mem_of_getElem? (i := 193) rfl)))), by decide +kernel⟩
theorem g_674 : (Cond.methodLink R_Table 70 y_Text_length) ∈ xG := List.mem_filter.mpr ⟨List.mem_append_right _ (List.mem_of_getElem? (i := 674) (by decide +kernel)), by decide +kernel⟩
theorem g_676 : (Cond.instanceMethod y_Writer_decimal) ∈ xG := List.mem_filter.mpr ⟨List.mem_append_right _ (List.mem_of_getElem? (i := 676) (by decide +kernel)), by decide +kernel⟩
theorem g_677 : (Cond.selects R_Writer y_Writer_decimal y_Writer_decimal) ∈ xG := List.mem_filter.mpr ⟨List.mem_append_right _ (List.mem_of_getElem? (i := 677) (by decide +kernel)), by decide +kernel⟩
theorem g_675 : (Cond.methodLink R_Table 74 y_Writer_decimal) ∈ xG := List.mem_filter.mpr ⟨List.mem_append_right _ (List.mem_of_getElem? (i := 675) (by decide +kernel)), by decide +kernel⟩
set_option maxRecDepth 100000 in
theorem g_678 : (Cond.code y_Writer_decimal b_Writer_decimal 1 (some (.object "NumberText$Decimal"))) ∈ xG := List.mem_filter.mpr ⟨List.mem_append_right _ (List.mem_append_right _ (List.mem_append_right _ (List.mem_append_left _ (List.mem_of_getElem? (i := 198) rfl)))), by decide +kernel⟩
theorem g_680 : (Cond.methodLink R_Table 84 y_Decimal_leastPlaces) ∈ xG := List.mem_filter.mpr ⟨List.mem_append_right _ (List.mem_of_getElem? (i := 680) (by decide +kernel)), by decide +kernel⟩
theorem g_681 : (Cond.methodLink R_Table 87 Lib.Math.max.name) ∈ xG := List.mem_filter.mpr ⟨List.mem_append_right _ (List.mem_of_getElem? (i := 681) (by decide +kernel)), by decide +kernel⟩
theorem g_679 : (Cond.methodLink R_Table 78 y_Decimal_isPlain) ∈ xG := List.mem_filter.mpr ⟨List.mem_append_right _ (List.mem_of_getElem? (i := 679) (by decide +kernel)), by decide +kernel⟩
theorem g_603 : (Cond.instanceMethod y_Writer_addToPlaces) ∈ xG := List.mem_filter.mpr ⟨List.mem_append_right _ (List.mem_of_getElem? (i := 603) (by decide +kernel)), by decide +kernel⟩
theorem g_604 : (Cond.selects R_Writer y_Writer_addToPlaces y_Writer_addToPlaces) ∈ xG := List.mem_filter.mpr ⟨List.mem_append_right _ (List.mem_of_getElem? (i := 604) (by decide +kernel)), by decide +kernel⟩
theorem g_686 : (Cond.methodLink R_Table 92 y_Writer_addToPlaces) ∈ xG := List.mem_filter.mpr ⟨List.mem_append_right _ (List.mem_of_getElem? (i := 686) (by decide +kernel)), by decide +kernel⟩
set_option maxRecDepth 100000 in
theorem g_605 : (Cond.code y_Writer_addToPlaces b_Writer_addToPlaces 6 none) ∈ xG := List.mem_filter.mpr ⟨List.mem_append_right _ (List.mem_append_right _ (List.mem_append_right _ (List.mem_append_left _ (List.mem_of_getElem? (i := 125) rfl)))), by decide +kernel⟩
theorem g_150 : (Cond.fieldLink R_Table 39 R_Table "lines" "[B") ∈ xG := List.mem_filter.mpr ⟨List.mem_append_right _ (List.mem_of_getElem? (i := 150) (by decide +kernel)), by decide +kernel⟩
theorem g_693 : (Cond.instanceMethod y_Table_endOf) ∈ xG := List.mem_filter.mpr ⟨List.mem_append_right _ (List.mem_of_getElem? (i := 693) (by decide +kernel)), by decide +kernel⟩
theorem gp_20 : (Cond.selects R_Table y_Table_endOf y_Table_endOf) ∈ xG := List.mem_filter.mpr ⟨List.mem_append_left _ (List.mem_of_getElem? (i := 20) (by decide +kernel)), by decide +kernel⟩
theorem g_691 : (Cond.methodLink R_Table 95 y_Table_endOf) ∈ xG := List.mem_filter.mpr ⟨List.mem_append_right _ (List.mem_of_getElem? (i := 691) (by decide +kernel)), by decide +kernel⟩
set_option maxRecDepth 100000 in
theorem g_694 : (Cond.code y_Table_endOf b_Table_endOf 2 (some .int)) ∈ xG := List.mem_filter.mpr ⟨List.mem_append_right _ (List.mem_append_right _ (List.mem_append_right _ (List.mem_append_left _ (List.mem_of_getElem? (i := 214) rfl)))), by decide +kernel⟩
theorem g_698 : (Cond.instanceMethod y_Table_putLineCharacter) ∈ xG := List.mem_filter.mpr ⟨List.mem_append_right _ (List.mem_of_getElem? (i := 698) (by decide +kernel)), by decide +kernel⟩
theorem gp_21 : (Cond.selects R_Table y_Table_putLineCharacter y_Table_putLineCharacter) ∈ xG := List.mem_filter.mpr ⟨List.mem_append_left _ (List.mem_of_getElem? (i := 21) (by decide +kernel)), by decide +kernel⟩
theorem g_696 : (Cond.methodLink R_Table 102 y_Table_putLineCharacter) ∈ xG := List.mem_filter.mpr ⟨List.mem_append_right _ (List.mem_of_getElem? (i := 696) (by decide +kernel)), by decide +kernel⟩
set_option maxRecDepth 100000 in
theorem g_699 : (Cond.code y_Table_putLineCharacter b_Table_putLineCharacter 5 none) ∈ xG := List.mem_filter.mpr ⟨List.mem_append_right _ (List.mem_append_right _ (List.mem_append_right _ (List.mem_append_left _ (List.mem_of_getElem? (i := 219) rfl)))), by decide +kernel⟩
theorem g_695 : (Cond.methodLink R_Table 99 y_Text_at) ∈ xG := List.mem_filter.mpr ⟨List.mem_append_right _ (List.mem_of_getElem? (i := 695) (by decide +kernel)), by decide +kernel⟩
theorem g_663 : (Cond.instanceMethod y_Table_writeScientific) ∈ xG := List.mem_filter.mpr ⟨List.mem_append_right _ (List.mem_of_getElem? (i := 663) (by decide +kernel)), by decide +kernel⟩
theorem gp_16 : (Cond.selects R_Table y_Table_writeScientific y_Table_writeScientific) ∈ xG := List.mem_filter.mpr ⟨List.mem_append_left _ (List.mem_of_getElem? (i := 16) (by decide +kernel)), by decide +kernel⟩
theorem g_661 : (Cond.methodLink R_Table 46 y_Table_writeScientific) ∈ xG := List.mem_filter.mpr ⟨List.mem_append_right _ (List.mem_of_getElem? (i := 661) (by decide +kernel)), by decide +kernel⟩
set_option maxRecDepth 100000 in
theorem g_664 : (Cond.code y_Table_writeScientific b_Table_writeScientific 6 (some .int)) ∈ xG := List.mem_filter.mpr ⟨List.mem_append_right _ (List.mem_append_right _ (List.mem_append_right _ (List.mem_append_left _ (List.mem_of_getElem? (i := 184) rfl)))), by decide +kernel⟩
theorem g_689 : (Cond.instanceMethod y_Table_addColumn) ∈ xG := List.mem_filter.mpr ⟨List.mem_append_right _ (List.mem_of_getElem? (i := 689) (by decide +kernel)), by decide +kernel⟩
theorem gp_19 : (Cond.selects R_Table y_Table_addColumn y_Table_addColumn) ∈ xG := List.mem_filter.mpr ⟨List.mem_append_left _ (List.mem_of_getElem? (i := 19) (by decide +kernel)), by decide +kernel⟩
theorem g_687 : (Cond.methodLink R_Table 54 y_Table_addColumn) ∈ xG := List.mem_filter.mpr ⟨List.mem_append_right _ (List.mem_of_getElem? (i := 687) (by decide +kernel)), by decide +kernel⟩
set_option maxRecDepth 100000 in
theorem g_690 : (Cond.code y_Table_addColumn b_Table_addColumn 8 none) ∈ xG := List.mem_filter.mpr ⟨List.mem_append_right _ (List.mem_append_right _ (List.mem_append_right _ (List.mem_append_left _ (List.mem_of_getElem? (i := 210) rfl)))), by decide +kernel⟩
theorem g_684 : (Cond.instanceMethod y_Table_writeToPlaces) ∈ xG := List.mem_filter.mpr ⟨List.mem_append_right _ (List.mem_of_getElem? (i := 684) (by decide +kernel)), by decide +kernel⟩
theorem gp_18 : (Cond.selects R_Table y_Table_writeToPlaces y_Table_writeToPlaces) ∈ xG := List.mem_filter.mpr ⟨List.mem_append_left _ (List.mem_of_getElem? (i := 18) (by decide +kernel)), by decide +kernel⟩
theorem g_682 : (Cond.methodLink R_Table 50 y_Table_writeToPlaces) ∈ xG := List.mem_filter.mpr ⟨List.mem_append_right _ (List.mem_of_getElem? (i := 682) (by decide +kernel)), by decide +kernel⟩
set_option maxRecDepth 100000 in
theorem g_685 : (Cond.code y_Table_writeToPlaces b_Table_writeToPlaces 4 none) ∈ xG := List.mem_filter.mpr ⟨List.mem_append_right _ (List.mem_append_right _ (List.mem_append_right _ (List.mem_append_left _ (List.mem_of_getElem? (i := 205) rfl)))), by decide +kernel⟩
theorem g_411 : (Cond.instanceMethod y_Table_lineCharacter) ∈ xG := List.mem_filter.mpr ⟨List.mem_append_right _ (List.mem_of_getElem? (i := 411) (by decide +kernel)), by decide +kernel⟩
theorem g_412 : (Cond.selects R_Table y_Table_lineCharacter y_Table_lineCharacter) ∈ xG := List.mem_filter.mpr ⟨List.mem_append_right _ (List.mem_of_getElem? (i := 412) (by decide +kernel)), by decide +kernel⟩
theorem g_410 : (Cond.methodLink R_NT 123 y_Table_lineCharacter) ∈ xG := List.mem_filter.mpr ⟨List.mem_append_right _ (List.mem_of_getElem? (i := 410) (by decide +kernel)), by decide +kernel⟩
set_option maxRecDepth 100000 in
theorem g_413 : (Cond.code y_Table_lineCharacter b_Table_lineCharacter 4 (some .int)) ∈ xG := List.mem_filter.mpr ⟨List.mem_append_right _ (List.mem_append_right _ (List.mem_append_left _ (List.mem_of_getElem? (i := 173) rfl))), by decide +kernel⟩
theorem g_706 : (Cond.fieldLink R_Md 45 R_Md "thrown" "I") ∈ xG := List.mem_filter.mpr ⟨List.mem_append_right _ (List.mem_of_getElem? (i := 706) (by decide +kernel)), by decide +kernel⟩
theorem g_713 : (Cond.fieldLink R_Md 26 R_Md "limbs" "[I") ∈ xG := List.mem_filter.mpr ⟨List.mem_append_right _ (List.mem_of_getElem? (i := 713) (by decide +kernel)), by decide +kernel⟩
theorem g_714 : (Cond.fieldLink R_Md 48 R_Md "limbCount" "I") ∈ xG := List.mem_filter.mpr ⟨List.mem_append_right _ (List.mem_of_getElem? (i := 714) (by decide +kernel)), by decide +kernel⟩
theorem g_826 : (Cond.constantLong R_Md 51 (1000000000)) ∈ xG := List.mem_filter.mpr ⟨List.mem_append_right _ (List.mem_of_getElem? (i := 826) (by decide +kernel)), by decide +kernel⟩
theorem g_833 : (Cond.instanceMethod y_Md_times) ∈ xG := List.mem_filter.mpr ⟨List.mem_append_right _ (List.mem_of_getElem? (i := 833) (by decide +kernel)), by decide +kernel⟩
theorem gp_28 : (Cond.selects R_Md y_Md_times y_Md_times) ∈ xG := List.mem_filter.mpr ⟨List.mem_append_left _ (List.mem_of_getElem? (i := 28) (by decide +kernel)), by decide +kernel⟩
theorem g_831 : (Cond.methodLink R_Md 53 y_Md_times) ∈ xG := List.mem_filter.mpr ⟨List.mem_append_right _ (List.mem_of_getElem? (i := 831) (by decide +kernel)), by decide +kernel⟩
theorem g_10 : (Cond.initialized R_Md) ∈ xG := List.mem_filter.mpr ⟨List.mem_append_right _ (List.mem_of_getElem? (i := 10) (by decide +kernel)), by decide +kernel⟩
set_option maxRecDepth 100000 in
theorem g_834 : (Cond.code y_Md_times b_Md_times 7 none) ∈ xG := List.mem_filter.mpr ⟨List.mem_append_right _ (List.mem_append_right _ (List.mem_append_right _ (List.mem_append_right _ (List.mem_of_getElem? (i := 114) rfl)))), by decide +kernel⟩
theorem g_711 : (Cond.fieldLink R_Md 20 R_Md "counts" "[I") ∈ xG := List.mem_filter.mpr ⟨List.mem_append_right _ (List.mem_of_getElem? (i := 711) (by decide +kernel)), by decide +kernel⟩
theorem g_710 : (Cond.fieldLink R_Md 17 R_Md "digits" "[I") ∈ xG := List.mem_filter.mpr ⟨List.mem_append_right _ (List.mem_of_getElem? (i := 710) (by decide +kernel)), by decide +kernel⟩
theorem g_829 : (Cond.instanceMethod y_Md_timesPower) ∈ xG := List.mem_filter.mpr ⟨List.mem_append_right _ (List.mem_of_getElem? (i := 829) (by decide +kernel)), by decide +kernel⟩
theorem gp_27 : (Cond.selects R_Md y_Md_timesPower y_Md_timesPower) ∈ xG := List.mem_filter.mpr ⟨List.mem_append_left _ (List.mem_of_getElem? (i := 27) (by decide +kernel)), by decide +kernel⟩
theorem g_827 : (Cond.methodLink R_Md 57 y_Md_timesPower) ∈ xG := List.mem_filter.mpr ⟨List.mem_append_right _ (List.mem_of_getElem? (i := 827) (by decide +kernel)), by decide +kernel⟩
set_option maxRecDepth 100000 in
theorem g_830 : (Cond.code y_Md_timesPower b_Md_timesPower 6 none) ∈ xG := List.mem_filter.mpr ⟨List.mem_append_right _ (List.mem_append_right _ (List.mem_append_right _ (List.mem_append_right _ (List.mem_of_getElem? (i := 110) rfl)))), by decide +kernel⟩
theorem g_712 : (Cond.fieldLink R_Md 23 R_Md "points" "[I") ∈ xG := List.mem_filter.mpr ⟨List.mem_append_right _ (List.mem_of_getElem? (i := 712) (by decide +kernel)), by decide +kernel⟩
theorem g_799 : (Cond.instanceMethod y_Md_cutZeros) ∈ xG := List.mem_filter.mpr ⟨List.mem_append_right _ (List.mem_of_getElem? (i := 799) (by decide +kernel)), by decide +kernel⟩
theorem gp_23 : (Cond.selects R_Md y_Md_cutZeros y_Md_cutZeros) ∈ xG := List.mem_filter.mpr ⟨List.mem_append_left _ (List.mem_of_getElem? (i := 23) (by decide +kernel)), by decide +kernel⟩
theorem g_797 : (Cond.methodLink R_Md 62 y_Md_cutZeros) ∈ xG := List.mem_filter.mpr ⟨List.mem_append_right _ (List.mem_of_getElem? (i := 797) (by decide +kernel)), by decide +kernel⟩
set_option maxRecDepth 100000 in
theorem g_800 : (Cond.code y_Md_cutZeros b_Md_cutZeros 2 none) ∈ xG := List.mem_filter.mpr ⟨List.mem_append_right _ (List.mem_append_right _ (List.mem_append_right _ (List.mem_append_right _ (List.mem_of_getElem? (i := 80) rfl)))), by decide +kernel⟩
theorem g_835 : (Cond.constant R_Md 61 (100000000)) ∈ xG := List.mem_filter.mpr ⟨List.mem_append_right _ (List.mem_of_getElem? (i := 835) (by decide +kernel)), by decide +kernel⟩
theorem g_817 : (Cond.constantLong R_Md 73 (2047)) ∈ xG := List.mem_filter.mpr ⟨List.mem_append_right _ (List.mem_of_getElem? (i := 817) (by decide +kernel)), by decide +kernel⟩
theorem g_813 : (Cond.constantLong R_Md 65 (4503599627370495)) ∈ xG := List.mem_filter.mpr ⟨List.mem_append_right _ (List.mem_of_getElem? (i := 813) (by decide +kernel)), by decide +kernel⟩
theorem g_815 : (Cond.static y_Md_exponent) ∈ xG := List.mem_filter.mpr ⟨List.mem_append_right _ (List.mem_of_getElem? (i := 815) (by decide +kernel)), by decide +kernel⟩
set_option maxRecDepth 100000 in
theorem g_816 : (Cond.code y_Md_exponent b_Md_exponent 2 (some .int)) ∈ xG := List.mem_filter.mpr ⟨List.mem_append_right _ (List.mem_append_right _ (List.mem_append_right _ (List.mem_append_right _ (List.mem_of_getElem? (i := 96) rfl)))), by decide +kernel⟩
theorem g_814 : (Cond.methodLink R_Md 67 y_Md_exponent) ∈ xG := List.mem_filter.mpr ⟨List.mem_append_right _ (List.mem_of_getElem? (i := 814) (by decide +kernel)), by decide +kernel⟩
theorem g_818 : (Cond.constantLong R_Md 71 (4503599627370496)) ∈ xG := List.mem_filter.mpr ⟨List.mem_append_right _ (List.mem_of_getElem? (i := 818) (by decide +kernel)), by decide +kernel⟩
theorem g_811 : (Cond.static y_Md_mantissa) ∈ xG := List.mem_filter.mpr ⟨List.mem_append_right _ (List.mem_of_getElem? (i := 811) (by decide +kernel)), by decide +kernel⟩
set_option maxRecDepth 100000 in
theorem g_812 : (Cond.code y_Md_mantissa b_Md_mantissa 4 (some .long)) ∈ xG := List.mem_filter.mpr ⟨List.mem_append_right _ (List.mem_append_right _ (List.mem_append_right _ (List.mem_append_right _ (List.mem_of_getElem? (i := 92) rfl)))), by decide +kernel⟩
theorem g_810 : (Cond.methodLink R_Md 75 y_Md_mantissa) ∈ xG := List.mem_filter.mpr ⟨List.mem_append_right _ (List.mem_of_getElem? (i := 810) (by decide +kernel)), by decide +kernel⟩
theorem g_820 : (Cond.static y_Md_power) ∈ xG := List.mem_filter.mpr ⟨List.mem_append_right _ (List.mem_of_getElem? (i := 820) (by decide +kernel)), by decide +kernel⟩
set_option maxRecDepth 100000 in
theorem g_821 : (Cond.code y_Md_power b_Md_power 2 (some .int)) ∈ xG := List.mem_filter.mpr ⟨List.mem_append_right _ (List.mem_append_right _ (List.mem_append_right _ (List.mem_append_right _ (List.mem_of_getElem? (i := 101) rfl)))), by decide +kernel⟩
theorem g_819 : (Cond.methodLink R_Md 79 y_Md_power) ∈ xG := List.mem_filter.mpr ⟨List.mem_append_right _ (List.mem_of_getElem? (i := 819) (by decide +kernel)), by decide +kernel⟩
theorem g_824 : (Cond.instanceMethod y_Md_expand) ∈ xG := List.mem_filter.mpr ⟨List.mem_append_right _ (List.mem_of_getElem? (i := 824) (by decide +kernel)), by decide +kernel⟩
theorem gp_26 : (Cond.selects R_Md y_Md_expand y_Md_expand) ∈ xG := List.mem_filter.mpr ⟨List.mem_append_left _ (List.mem_of_getElem? (i := 26) (by decide +kernel)), by decide +kernel⟩
theorem g_822 : (Cond.methodLink R_Md 82 y_Md_expand) ∈ xG := List.mem_filter.mpr ⟨List.mem_append_right _ (List.mem_of_getElem? (i := 822) (by decide +kernel)), by decide +kernel⟩
set_option maxRecDepth 100000 in
theorem g_825 : (Cond.code y_Md_expand b_Md_expand 11 none) ∈ xG := List.mem_filter.mpr ⟨List.mem_append_right _ (List.mem_append_right _ (List.mem_append_right _ (List.mem_append_right _ (List.mem_of_getElem? (i := 105) rfl)))), by decide +kernel⟩
theorem g_805 : (Cond.constantLong R_Md 86 (2)) ∈ xG := List.mem_filter.mpr ⟨List.mem_append_right _ (List.mem_of_getElem? (i := 805) (by decide +kernel)), by decide +kernel⟩
theorem g_764 : (Cond.static y_Md_in) ∈ xG := List.mem_filter.mpr ⟨List.mem_append_right _ (List.mem_of_getElem? (i := 764) (by decide +kernel)), by decide +kernel⟩
set_option maxRecDepth 100000 in
theorem g_765 : (Cond.code y_Md_in b_Md_in 3 (some .boolean)) ∈ xG := List.mem_filter.mpr ⟨List.mem_append_right _ (List.mem_append_right _ (List.mem_append_right _ (List.mem_append_right _ (List.mem_of_getElem? (i := 45) rfl)))), by decide +kernel⟩
theorem g_763 : (Cond.methodLink R_Md 88 y_Md_in) ∈ xG := List.mem_filter.mpr ⟨List.mem_append_right _ (List.mem_of_getElem? (i := 763) (by decide +kernel)), by decide +kernel⟩
theorem g_707 : (Cond.fieldLink R_Md 92 R_Md "length" "I") ∈ xG := List.mem_filter.mpr ⟨List.mem_append_right _ (List.mem_of_getElem? (i := 707) (by decide +kernel)), by decide +kernel⟩
theorem g_708 : (Cond.fieldLink R_Md 7 R_Md "text" "[I") ∈ xG := List.mem_filter.mpr ⟨List.mem_append_right _ (List.mem_of_getElem? (i := 708) (by decide +kernel)), by decide +kernel⟩
theorem g_766 : (Cond.constantLong R_Md 95 (255)) ∈ xG := List.mem_filter.mpr ⟨List.mem_append_right _ (List.mem_of_getElem? (i := 766) (by decide +kernel)), by decide +kernel⟩
theorem g_709 : (Cond.fieldLink R_Md 13 R_Md "place" "I") ∈ xG := List.mem_filter.mpr ⟨List.mem_append_right _ (List.mem_of_getElem? (i := 709) (by decide +kernel)), by decide +kernel⟩
theorem g_796 : (Cond.constantLong R_Md 116 (9218868437227405312)) ∈ xG := List.mem_filter.mpr ⟨List.mem_append_right _ (List.mem_of_getElem? (i := 796) (by decide +kernel)), by decide +kernel⟩
theorem g_842 : (Cond.instanceMethod y_Md_between) ∈ xG := List.mem_filter.mpr ⟨List.mem_append_right _ (List.mem_of_getElem? (i := 842) (by decide +kernel)), by decide +kernel⟩
theorem gp_30 : (Cond.selects R_Md y_Md_between y_Md_between) ∈ xG := List.mem_filter.mpr ⟨List.mem_append_left _ (List.mem_of_getElem? (i := 30) (by decide +kernel)), by decide +kernel⟩
theorem g_840 : (Cond.methodLink R_Md 129 y_Md_between) ∈ xG := List.mem_filter.mpr ⟨List.mem_append_right _ (List.mem_of_getElem? (i := 840) (by decide +kernel)), by decide +kernel⟩
set_option maxRecDepth 100000 in
theorem g_843 : (Cond.code y_Md_between b_Md_between 4 none) ∈ xG := List.mem_filter.mpr ⟨List.mem_append_right _ (List.mem_append_right _ (List.mem_append_right _ (List.mem_append_right _ (List.mem_of_getElem? (i := 123) rfl)))), by decide +kernel⟩
theorem g_838 : (Cond.instanceMethod y_Md_against) ∈ xG := List.mem_filter.mpr ⟨List.mem_append_right _ (List.mem_of_getElem? (i := 838) (by decide +kernel)), by decide +kernel⟩
theorem gp_29 : (Cond.selects R_Md y_Md_against y_Md_against) ∈ xG := List.mem_filter.mpr ⟨List.mem_append_left _ (List.mem_of_getElem? (i := 29) (by decide +kernel)), by decide +kernel⟩
theorem g_836 : (Cond.methodLink R_Md 126 y_Md_against) ∈ xG := List.mem_filter.mpr ⟨List.mem_append_right _ (List.mem_of_getElem? (i := 836) (by decide +kernel)), by decide +kernel⟩
set_option maxRecDepth 100000 in
theorem g_839 : (Cond.code y_Md_against b_Md_against 6 (some .int)) ∈ xG := List.mem_filter.mpr ⟨List.mem_append_right _ (List.mem_append_right _ (List.mem_append_right _ (List.mem_append_right _ (List.mem_of_getElem? (i := 119) rfl)))), by decide +kernel⟩
theorem g_808 : (Cond.instanceMethod y_Md_value) ∈ xG := List.mem_filter.mpr ⟨List.mem_append_right _ (List.mem_of_getElem? (i := 808) (by decide +kernel)), by decide +kernel⟩
theorem gp_25 : (Cond.selects R_Md y_Md_value y_Md_value) ∈ xG := List.mem_filter.mpr ⟨List.mem_append_left _ (List.mem_of_getElem? (i := 25) (by decide +kernel)), by decide +kernel⟩
theorem g_806 : (Cond.methodLink R_Md 122 y_Md_value) ∈ xG := List.mem_filter.mpr ⟨List.mem_append_right _ (List.mem_of_getElem? (i := 806) (by decide +kernel)), by decide +kernel⟩
set_option maxRecDepth 100000 in
theorem g_809 : (Cond.code y_Md_value b_Md_value 4 none) ∈ xG := List.mem_filter.mpr ⟨List.mem_append_right _ (List.mem_append_right _ (List.mem_append_right _ (List.mem_append_right _ (List.mem_of_getElem? (i := 89) rfl)))), by decide +kernel⟩
theorem g_792 : (Cond.instanceMethod y_Md_goes) ∈ xG := List.mem_filter.mpr ⟨List.mem_append_right _ (List.mem_of_getElem? (i := 792) (by decide +kernel)), by decide +kernel⟩
theorem gp_22 : (Cond.selects R_Md y_Md_goes y_Md_goes) ∈ xG := List.mem_filter.mpr ⟨List.mem_append_left _ (List.mem_of_getElem? (i := 22) (by decide +kernel)), by decide +kernel⟩
theorem g_790 : (Cond.methodLink R_Md 106 y_Md_goes) ∈ xG := List.mem_filter.mpr ⟨List.mem_append_right _ (List.mem_of_getElem? (i := 790) (by decide +kernel)), by decide +kernel⟩
set_option maxRecDepth 100000 in
theorem g_793 : (Cond.code y_Md_goes b_Md_goes 2 (some .boolean)) ∈ xG := List.mem_filter.mpr ⟨List.mem_append_right _ (List.mem_append_right _ (List.mem_append_right _ (List.mem_append_right _ (List.mem_of_getElem? (i := 73) rfl)))), by decide +kernel⟩
theorem g_803 : (Cond.instanceMethod y_Md_nearest) ∈ xG := List.mem_filter.mpr ⟨List.mem_append_right _ (List.mem_of_getElem? (i := 803) (by decide +kernel)), by decide +kernel⟩
theorem gp_24 : (Cond.selects R_Md y_Md_nearest y_Md_nearest) ∈ xG := List.mem_filter.mpr ⟨List.mem_append_left _ (List.mem_of_getElem? (i := 24) (by decide +kernel)), by decide +kernel⟩
theorem g_801 : (Cond.methodLink R_Md 118 y_Md_nearest) ∈ xG := List.mem_filter.mpr ⟨List.mem_append_right _ (List.mem_of_getElem? (i := 801) (by decide +kernel)), by decide +kernel⟩
set_option maxRecDepth 100000 in
theorem g_804 : (Cond.code y_Md_nearest b_Md_nearest 8 (some .long)) ∈ xG := List.mem_filter.mpr ⟨List.mem_append_right _ (List.mem_append_right _ (List.mem_append_right _ (List.mem_append_right _ (List.mem_of_getElem? (i := 84) rfl)))), by decide +kernel⟩
theorem g_795 : (Cond.constantLong R_Md 114 (9221120237041090560)) ∈ xG := List.mem_filter.mpr ⟨List.mem_append_right _ (List.mem_of_getElem? (i := 795) (by decide +kernel)), by decide +kernel⟩
theorem g_794 : (Cond.constantLong R_Md 112 (-9223372036854775808)) ∈ xG := List.mem_filter.mpr ⟨List.mem_append_right _ (List.mem_of_getElem? (i := 794) (by decide +kernel)), by decide +kernel⟩
theorem g_788 : (Cond.static y_Md_ends) ∈ xG := List.mem_filter.mpr ⟨List.mem_append_right _ (List.mem_of_getElem? (i := 788) (by decide +kernel)), by decide +kernel⟩
set_option maxRecDepth 100000 in
theorem g_789 : (Cond.code y_Md_ends b_Md_ends 1 (some .boolean)) ∈ xG := List.mem_filter.mpr ⟨List.mem_append_right _ (List.mem_append_right _ (List.mem_append_right _ (List.mem_append_right _ (List.mem_of_getElem? (i := 69) rfl)))), by decide +kernel⟩
theorem g_787 : (Cond.methodLink R_Md 102 y_Md_ends) ∈ xG := List.mem_filter.mpr ⟨List.mem_append_right _ (List.mem_of_getElem? (i := 787) (by decide +kernel)), by decide +kernel⟩
theorem g_784 : (Cond.static y_Md_next) ∈ xG := List.mem_filter.mpr ⟨List.mem_append_right _ (List.mem_of_getElem? (i := 784) (by decide +kernel)), by decide +kernel⟩
set_option maxRecDepth 100000 in
theorem g_785 : (Cond.code y_Md_next b_Md_next 4 (some .int)) ∈ xG := List.mem_filter.mpr ⟨List.mem_append_right _ (List.mem_append_right _ (List.mem_append_right _ (List.mem_append_right _ (List.mem_of_getElem? (i := 65) rfl)))), by decide +kernel⟩
theorem g_783 : (Cond.methodLink R_Md 97 y_Md_next) ∈ xG := List.mem_filter.mpr ⟨List.mem_append_right _ (List.mem_of_getElem? (i := 783) (by decide +kernel)), by decide +kernel⟩
theorem g_786 : (Cond.constant R_Md 101 (99999)) ∈ xG := List.mem_filter.mpr ⟨List.mem_append_right _ (List.mem_of_getElem? (i := 786) (by decide +kernel)), by decide +kernel⟩
theorem g_878 : (Cond.instanceMethod y_Md_rest) ∈ xG := List.mem_filter.mpr ⟨List.mem_append_right _ (List.mem_of_getElem? (i := 878) (by decide +kernel)), by decide +kernel⟩
theorem gp_37 : (Cond.selects R_Md y_Md_rest y_Md_rest) ∈ xG := List.mem_filter.mpr ⟨List.mem_append_left _ (List.mem_of_getElem? (i := 37) (by decide +kernel)), by decide +kernel⟩
theorem g_876 : (Cond.methodLink R_Md 132 y_Md_rest) ∈ xG := List.mem_filter.mpr ⟨List.mem_append_right _ (List.mem_of_getElem? (i := 876) (by decide +kernel)), by decide +kernel⟩
set_option maxRecDepth 100000 in
theorem g_879 : (Cond.code y_Md_rest b_Md_rest 4 (some .int)) ∈ xG := List.mem_filter.mpr ⟨List.mem_append_right _ (List.mem_append_right _ (List.mem_append_right _ (List.mem_append_right _ (List.mem_of_getElem? (i := 159) rfl)))), by decide +kernel⟩
theorem g_874 : (Cond.instanceMethod y_Md_cut) ∈ xG := List.mem_filter.mpr ⟨List.mem_append_right _ (List.mem_of_getElem? (i := 874) (by decide +kernel)), by decide +kernel⟩
theorem gp_36 : (Cond.selects R_Md y_Md_cut y_Md_cut) ∈ xG := List.mem_filter.mpr ⟨List.mem_append_left _ (List.mem_of_getElem? (i := 36) (by decide +kernel)), by decide +kernel⟩
theorem g_872 : (Cond.methodLink R_Md 135 y_Md_cut) ∈ xG := List.mem_filter.mpr ⟨List.mem_append_right _ (List.mem_of_getElem? (i := 872) (by decide +kernel)), by decide +kernel⟩
set_option maxRecDepth 100000 in
theorem g_875 : (Cond.code y_Md_cut b_Md_cut 8 none) ∈ xG := List.mem_filter.mpr ⟨List.mem_append_right _ (List.mem_append_right _ (List.mem_append_right _ (List.mem_append_right _ (List.mem_of_getElem? (i := 155) rfl)))), by decide +kernel⟩
theorem g_852 : (Cond.constantLong R_Md 139 (9223372036854775807)) ∈ xG := List.mem_filter.mpr ⟨List.mem_append_right _ (List.mem_of_getElem? (i := 852) (by decide +kernel)), by decide +kernel⟩
theorem g_870 : (Cond.instanceMethod y_Md_isBetween) ∈ xG := List.mem_filter.mpr ⟨List.mem_append_right _ (List.mem_of_getElem? (i := 870) (by decide +kernel)), by decide +kernel⟩
theorem gp_35 : (Cond.selects R_Md y_Md_isBetween y_Md_isBetween) ∈ xG := List.mem_filter.mpr ⟨List.mem_append_left _ (List.mem_of_getElem? (i := 35) (by decide +kernel)), by decide +kernel⟩
theorem g_868 : (Cond.methodLink R_Md 141 y_Md_isBetween) ∈ xG := List.mem_filter.mpr ⟨List.mem_append_right _ (List.mem_of_getElem? (i := 868) (by decide +kernel)), by decide +kernel⟩
set_option maxRecDepth 100000 in
theorem g_871 : (Cond.code y_Md_isBetween b_Md_isBetween 8 (some .boolean)) ∈ xG := List.mem_filter.mpr ⟨List.mem_append_right _ (List.mem_append_right _ (List.mem_append_right _ (List.mem_append_right _ (List.mem_of_getElem? (i := 151) rfl)))), by decide +kernel⟩
theorem g_721 : (Cond.fieldLink R_Md 42 R_Md "draft" "[I") ∈ xG := List.mem_filter.mpr ⟨List.mem_append_right _ (List.mem_of_getElem? (i := 721) (by decide +kernel)), by decide +kernel⟩
theorem g_720 : (Cond.fieldLink R_Md 145 R_Md "size" "I") ∈ xG := List.mem_filter.mpr ⟨List.mem_append_right _ (List.mem_of_getElem? (i := 720) (by decide +kernel)), by decide +kernel⟩
theorem g_859 : (Cond.instanceMethod y_Md_put) ∈ xG := List.mem_filter.mpr ⟨List.mem_append_right _ (List.mem_of_getElem? (i := 859) (by decide +kernel)), by decide +kernel⟩
theorem gp_33 : (Cond.selects R_Md y_Md_put y_Md_put) ∈ xG := List.mem_filter.mpr ⟨List.mem_append_left _ (List.mem_of_getElem? (i := 33) (by decide +kernel)), by decide +kernel⟩
theorem g_857 : (Cond.methodLink R_Md 148 y_Md_put) ∈ xG := List.mem_filter.mpr ⟨List.mem_append_right _ (List.mem_of_getElem? (i := 857) (by decide +kernel)), by decide +kernel⟩
set_option maxRecDepth 100000 in
theorem g_860 : (Cond.code y_Md_put b_Md_put 2 none) ∈ xG := List.mem_filter.mpr ⟨List.mem_append_right _ (List.mem_append_right _ (List.mem_append_right _ (List.mem_append_right _ (List.mem_of_getElem? (i := 140) rfl)))), by decide +kernel⟩
theorem g_855 : (Cond.instanceMethod y_Md_sign) ∈ xG := List.mem_filter.mpr ⟨List.mem_append_right _ (List.mem_of_getElem? (i := 855) (by decide +kernel)), by decide +kernel⟩
theorem gp_32 : (Cond.selects R_Md y_Md_sign y_Md_sign) ∈ xG := List.mem_filter.mpr ⟨List.mem_append_left _ (List.mem_of_getElem? (i := 32) (by decide +kernel)), by decide +kernel⟩
theorem g_853 : (Cond.methodLink R_Md 151 y_Md_sign) ∈ xG := List.mem_filter.mpr ⟨List.mem_append_right _ (List.mem_of_getElem? (i := 853) (by decide +kernel)), by decide +kernel⟩
set_option maxRecDepth 100000 in
theorem g_856 : (Cond.code y_Md_sign b_Md_sign 3 none) ∈ xG := List.mem_filter.mpr ⟨List.mem_append_right _ (List.mem_append_right _ (List.mem_append_right _ (List.mem_append_right _ (List.mem_of_getElem? (i := 136) rfl)))), by decide +kernel⟩
theorem g_894 : (Cond.instanceMethod y_Md_putDigits) ∈ xG := List.mem_filter.mpr ⟨List.mem_append_right _ (List.mem_of_getElem? (i := 894) (by decide +kernel)), by decide +kernel⟩
theorem gp_41 : (Cond.selects R_Md y_Md_putDigits y_Md_putDigits) ∈ xG := List.mem_filter.mpr ⟨List.mem_append_left _ (List.mem_of_getElem? (i := 41) (by decide +kernel)), by decide +kernel⟩
theorem g_892 : (Cond.methodLink R_Md 155 y_Md_putDigits) ∈ xG := List.mem_filter.mpr ⟨List.mem_append_right _ (List.mem_of_getElem? (i := 892) (by decide +kernel)), by decide +kernel⟩
set_option maxRecDepth 100000 in
theorem g_895 : (Cond.code y_Md_putDigits b_Md_putDigits 5 none) ∈ xG := List.mem_filter.mpr ⟨List.mem_append_right _ (List.mem_append_right _ (List.mem_append_right _ (List.mem_append_right _ (List.mem_of_getElem? (i := 175) rfl)))), by decide +kernel⟩
theorem g_886 : (Cond.instanceMethod y_Md_isPlain) ∈ xG := List.mem_filter.mpr ⟨List.mem_append_right _ (List.mem_of_getElem? (i := 886) (by decide +kernel)), by decide +kernel⟩
theorem gp_39 : (Cond.selects R_Md y_Md_isPlain y_Md_isPlain) ∈ xG := List.mem_filter.mpr ⟨List.mem_append_left _ (List.mem_of_getElem? (i := 39) (by decide +kernel)), by decide +kernel⟩
theorem g_884 : (Cond.methodLink R_Md 159 y_Md_isPlain) ∈ xG := List.mem_filter.mpr ⟨List.mem_append_right _ (List.mem_of_getElem? (i := 884) (by decide +kernel)), by decide +kernel⟩
set_option maxRecDepth 100000 in
theorem g_887 : (Cond.code y_Md_isPlain b_Md_isPlain 2 (some .boolean)) ∈ xG := List.mem_filter.mpr ⟨List.mem_append_right _ (List.mem_append_right _ (List.mem_append_right _ (List.mem_append_right _ (List.mem_of_getElem? (i := 167) rfl)))), by decide +kernel⟩
theorem g_898 : (Cond.instanceMethod y_Md_putZeros) ∈ xG := List.mem_filter.mpr ⟨List.mem_append_right _ (List.mem_of_getElem? (i := 898) (by decide +kernel)), by decide +kernel⟩
theorem gp_42 : (Cond.selects R_Md y_Md_putZeros y_Md_putZeros) ∈ xG := List.mem_filter.mpr ⟨List.mem_append_left _ (List.mem_of_getElem? (i := 42) (by decide +kernel)), by decide +kernel⟩
theorem g_896 : (Cond.methodLink R_Md 165 y_Md_putZeros) ∈ xG := List.mem_filter.mpr ⟨List.mem_append_right _ (List.mem_of_getElem? (i := 896) (by decide +kernel)), by decide +kernel⟩
set_option maxRecDepth 100000 in
theorem g_899 : (Cond.code y_Md_putZeros b_Md_putZeros 3 none) ∈ xG := List.mem_filter.mpr ⟨List.mem_append_right _ (List.mem_append_right _ (List.mem_append_right _ (List.mem_append_right _ (List.mem_of_getElem? (i := 179) rfl)))), by decide +kernel⟩
theorem g_890 : (Cond.instanceMethod y_Md_scientific) ∈ xG := List.mem_filter.mpr ⟨List.mem_append_right _ (List.mem_of_getElem? (i := 890) (by decide +kernel)), by decide +kernel⟩
theorem gp_40 : (Cond.selects R_Md y_Md_scientific y_Md_scientific) ∈ xG := List.mem_filter.mpr ⟨List.mem_append_left _ (List.mem_of_getElem? (i := 40) (by decide +kernel)), by decide +kernel⟩
theorem g_888 : (Cond.methodLink R_Md 162 y_Md_scientific) ∈ xG := List.mem_filter.mpr ⟨List.mem_append_right _ (List.mem_of_getElem? (i := 888) (by decide +kernel)), by decide +kernel⟩
set_option maxRecDepth 100000 in
theorem g_891 : (Cond.code y_Md_scientific b_Md_scientific 3 none) ∈ xG := List.mem_filter.mpr ⟨List.mem_append_right _ (List.mem_append_right _ (List.mem_append_right _ (List.mem_append_right _ (List.mem_of_getElem? (i := 171) rfl)))), by decide +kernel⟩
theorem g_850 : (Cond.instanceMethod y_Md_special) ∈ xG := List.mem_filter.mpr ⟨List.mem_append_right _ (List.mem_of_getElem? (i := 850) (by decide +kernel)), by decide +kernel⟩
theorem gp_31 : (Cond.selects R_Md y_Md_special y_Md_special) ∈ xG := List.mem_filter.mpr ⟨List.mem_append_left _ (List.mem_of_getElem? (i := 31) (by decide +kernel)), by decide +kernel⟩
theorem g_848 : (Cond.methodLink R_Md 168 y_Md_special) ∈ xG := List.mem_filter.mpr ⟨List.mem_append_right _ (List.mem_of_getElem? (i := 848) (by decide +kernel)), by decide +kernel⟩
set_option maxRecDepth 100000 in
theorem g_851 : (Cond.code y_Md_special b_Md_special 5 (some .boolean)) ∈ xG := List.mem_filter.mpr ⟨List.mem_append_right _ (List.mem_append_right _ (List.mem_append_right _ (List.mem_append_right _ (List.mem_of_getElem? (i := 131) rfl)))), by decide +kernel⟩
theorem g_902 : (Cond.instanceMethod y_Md_done) ∈ xG := List.mem_filter.mpr ⟨List.mem_append_right _ (List.mem_of_getElem? (i := 902) (by decide +kernel)), by decide +kernel⟩
theorem gp_43 : (Cond.selects R_Md y_Md_done y_Md_done) ∈ xG := List.mem_filter.mpr ⟨List.mem_append_left _ (List.mem_of_getElem? (i := 43) (by decide +kernel)), by decide +kernel⟩
theorem g_900 : (Cond.methodLink R_Md 181 y_Md_done) ∈ xG := List.mem_filter.mpr ⟨List.mem_append_right _ (List.mem_of_getElem? (i := 900) (by decide +kernel)), by decide +kernel⟩
set_option maxRecDepth 100000 in
theorem g_903 : (Cond.code y_Md_done b_Md_done 2 (some .int)) ∈ xG := List.mem_filter.mpr ⟨List.mem_append_right _ (List.mem_append_right _ (List.mem_append_right _ (List.mem_append_right _ (List.mem_of_getElem? (i := 183) rfl)))), by decide +kernel⟩
theorem g_862 : (Cond.static y_Md_isZero) ∈ xG := List.mem_filter.mpr ⟨List.mem_append_right _ (List.mem_of_getElem? (i := 862) (by decide +kernel)), by decide +kernel⟩
set_option maxRecDepth 100000 in
theorem g_863 : (Cond.code y_Md_isZero b_Md_isZero 2 (some .boolean)) ∈ xG := List.mem_filter.mpr ⟨List.mem_append_right _ (List.mem_append_right _ (List.mem_append_right _ (List.mem_append_right _ (List.mem_of_getElem? (i := 143) rfl)))), by decide +kernel⟩
theorem g_861 : (Cond.methodLink R_Md 172 y_Md_isZero) ∈ xG := List.mem_filter.mpr ⟨List.mem_append_right _ (List.mem_of_getElem? (i := 861) (by decide +kernel)), by decide +kernel⟩
theorem g_866 : (Cond.instanceMethod y_Md_shortest) ∈ xG := List.mem_filter.mpr ⟨List.mem_append_right _ (List.mem_of_getElem? (i := 866) (by decide +kernel)), by decide +kernel⟩
theorem gp_34 : (Cond.selects R_Md y_Md_shortest y_Md_shortest) ∈ xG := List.mem_filter.mpr ⟨List.mem_append_left _ (List.mem_of_getElem? (i := 34) (by decide +kernel)), by decide +kernel⟩
theorem g_864 : (Cond.methodLink R_Md 175 y_Md_shortest) ∈ xG := List.mem_filter.mpr ⟨List.mem_append_right _ (List.mem_of_getElem? (i := 864) (by decide +kernel)), by decide +kernel⟩
set_option maxRecDepth 100000 in
theorem g_867 : (Cond.code y_Md_shortest b_Md_shortest 13 none) ∈ xG := List.mem_filter.mpr ⟨List.mem_append_right _ (List.mem_append_right _ (List.mem_append_right _ (List.mem_append_right _ (List.mem_of_getElem? (i := 147) rfl)))), by decide +kernel⟩
theorem g_882 : (Cond.instanceMethod y_Md_written) ∈ xG := List.mem_filter.mpr ⟨List.mem_append_right _ (List.mem_of_getElem? (i := 882) (by decide +kernel)), by decide +kernel⟩
theorem gp_38 : (Cond.selects R_Md y_Md_written y_Md_written) ∈ xG := List.mem_filter.mpr ⟨List.mem_append_left _ (List.mem_of_getElem? (i := 38) (by decide +kernel)), by decide +kernel⟩
theorem g_880 : (Cond.methodLink R_Md 178 y_Md_written) ∈ xG := List.mem_filter.mpr ⟨List.mem_append_right _ (List.mem_of_getElem? (i := 880) (by decide +kernel)), by decide +kernel⟩
set_option maxRecDepth 100000 in
theorem g_883 : (Cond.code y_Md_written b_Md_written 3 none) ∈ xG := List.mem_filter.mpr ⟨List.mem_append_right _ (List.mem_append_right _ (List.mem_append_right _ (List.mem_append_right _ (List.mem_of_getElem? (i := 163) rfl)))), by decide +kernel⟩
theorem g_910 : (Cond.instanceMethod y_Md_round) ∈ xG := List.mem_filter.mpr ⟨List.mem_append_right _ (List.mem_of_getElem? (i := 910) (by decide +kernel)), by decide +kernel⟩
theorem gp_44 : (Cond.selects R_Md y_Md_round y_Md_round) ∈ xG := List.mem_filter.mpr ⟨List.mem_append_left _ (List.mem_of_getElem? (i := 44) (by decide +kernel)), by decide +kernel⟩
theorem g_908 : (Cond.methodLink R_Md 185 y_Md_round) ∈ xG := List.mem_filter.mpr ⟨List.mem_append_right _ (List.mem_of_getElem? (i := 908) (by decide +kernel)), by decide +kernel⟩
set_option maxRecDepth 100000 in
theorem g_911 : (Cond.code y_Md_round b_Md_round 6 none) ∈ xG := List.mem_filter.mpr ⟨List.mem_append_right _ (List.mem_append_right _ (List.mem_append_right _ (List.mem_append_right _ (List.mem_of_getElem? (i := 191) rfl)))), by decide +kernel⟩
theorem g_918 : (Cond.instanceMethod y_Md_toPlaces) ∈ xG := List.mem_filter.mpr ⟨List.mem_append_right _ (List.mem_of_getElem? (i := 918) (by decide +kernel)), by decide +kernel⟩
theorem gp_45 : (Cond.selects R_Md y_Md_toPlaces y_Md_toPlaces) ∈ xG := List.mem_filter.mpr ⟨List.mem_append_left _ (List.mem_of_getElem? (i := 45) (by decide +kernel)), by decide +kernel⟩
theorem g_916 : (Cond.methodLink R_Md 188 y_Md_toPlaces) ∈ xG := List.mem_filter.mpr ⟨List.mem_append_right _ (List.mem_of_getElem? (i := 916) (by decide +kernel)), by decide +kernel⟩
set_option maxRecDepth 100000 in
theorem g_919 : (Cond.code y_Md_toPlaces b_Md_toPlaces 7 none) ∈ xG := List.mem_filter.mpr ⟨List.mem_append_right _ (List.mem_append_right _ (List.mem_append_right _ (List.mem_append_right _ (List.mem_of_getElem? (i := 199) rfl)))), by decide +kernel⟩
theorem g_715 : (Cond.fieldLink R_Md 29 R_Md "rows" "I") ∈ xG := List.mem_filter.mpr ⟨List.mem_append_right _ (List.mem_of_getElem? (i := 715) (by decide +kernel)), by decide +kernel⟩
theorem g_716 : (Cond.fieldLink R_Md 32 R_Md "columns" "I") ∈ xG := List.mem_filter.mpr ⟨List.mem_append_right _ (List.mem_of_getElem? (i := 716) (by decide +kernel)), by decide +kernel⟩
theorem g_718 : (Cond.fieldLink R_Md 192 R_Md "laid" "I") ∈ xG := List.mem_filter.mpr ⟨List.mem_append_right _ (List.mem_of_getElem? (i := 718) (by decide +kernel)), by decide +kernel⟩
theorem g_717 : (Cond.fieldLink R_Md 35 R_Md "cells" "[J") ∈ xG := List.mem_filter.mpr ⟨List.mem_append_right _ (List.mem_of_getElem? (i := 717) (by decide +kernel)), by decide +kernel⟩
theorem g_941 : (Cond.static y_Md_isFinite) ∈ xG := List.mem_filter.mpr ⟨List.mem_append_right _ (List.mem_of_getElem? (i := 941) (by decide +kernel)), by decide +kernel⟩
set_option maxRecDepth 100000 in
theorem g_942 : (Cond.code y_Md_isFinite b_Md_isFinite 2 (some .boolean)) ∈ xG := List.mem_filter.mpr ⟨List.mem_append_right _ (List.mem_append_right _ (List.mem_append_right _ (List.mem_append_right _ (List.mem_of_getElem? (i := 222) rfl)))), by decide +kernel⟩
theorem g_940 : (Cond.methodLink R_Md 195 y_Md_isFinite) ∈ xG := List.mem_filter.mpr ⟨List.mem_append_right _ (List.mem_of_getElem? (i := 940) (by decide +kernel)), by decide +kernel⟩
theorem g_938 : (Cond.instanceMethod y_Md_placesOf) ∈ xG := List.mem_filter.mpr ⟨List.mem_append_right _ (List.mem_of_getElem? (i := 938) (by decide +kernel)), by decide +kernel⟩
theorem gp_46 : (Cond.selects R_Md y_Md_placesOf y_Md_placesOf) ∈ xG := List.mem_filter.mpr ⟨List.mem_append_left _ (List.mem_of_getElem? (i := 46) (by decide +kernel)), by decide +kernel⟩
theorem g_936 : (Cond.methodLink R_Md 198 y_Md_placesOf) ∈ xG := List.mem_filter.mpr ⟨List.mem_append_right _ (List.mem_of_getElem? (i := 936) (by decide +kernel)), by decide +kernel⟩
set_option maxRecDepth 100000 in
theorem g_939 : (Cond.code y_Md_placesOf b_Md_placesOf 7 (some .int)) ∈ xG := List.mem_filter.mpr ⟨List.mem_append_right _ (List.mem_append_right _ (List.mem_append_right _ (List.mem_append_right _ (List.mem_of_getElem? (i := 219) rfl)))), by decide +kernel⟩
theorem g_945 : (Cond.instanceMethod y_Md_cell) ∈ xG := List.mem_filter.mpr ⟨List.mem_append_right _ (List.mem_of_getElem? (i := 945) (by decide +kernel)), by decide +kernel⟩
theorem gp_47 : (Cond.selects R_Md y_Md_cell y_Md_cell) ∈ xG := List.mem_filter.mpr ⟨List.mem_append_left _ (List.mem_of_getElem? (i := 47) (by decide +kernel)), by decide +kernel⟩
theorem g_943 : (Cond.methodLink R_Md 201 y_Md_cell) ∈ xG := List.mem_filter.mpr ⟨List.mem_append_right _ (List.mem_of_getElem? (i := 943) (by decide +kernel)), by decide +kernel⟩
set_option maxRecDepth 100000 in
theorem g_946 : (Cond.code y_Md_cell b_Md_cell 5 none) ∈ xG := List.mem_filter.mpr ⟨List.mem_append_right _ (List.mem_append_right _ (List.mem_append_right _ (List.mem_append_right _ (List.mem_of_getElem? (i := 226) rfl)))), by decide +kernel⟩
theorem g_719 : (Cond.fieldLink R_Md 39 R_Md "lines" "[I") ∈ xG := List.mem_filter.mpr ⟨List.mem_append_right _ (List.mem_of_getElem? (i := 719) (by decide +kernel)), by decide +kernel⟩
