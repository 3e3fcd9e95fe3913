theorem g_951 : (Cond.constantLong R_Law 40 (4294967295)) ∈ xG := List.mem_filter.mpr ⟨List.mem_append_right _ (List.mem_of_getElem? (i := 951) (by decide +kernel)), by decide +kernel⟩
theorem g_187 : (Cond.instanceMethod y_NT_type) ∈ xG := List.mem_filter.mpr ⟨List.mem_append_right _ (List.mem_of_getElem? (i := 187) (by decide +kernel)), by decide +kernel⟩
theorem g_188 : (Cond.selects R_NT y_NT_type y_NT_type) ∈ xG := List.mem_filter.mpr ⟨List.mem_append_right _ (List.mem_of_getElem? (i := 188) (by decide +kernel)), by decide +kernel⟩
theorem g_186 : (Cond.methodLink R_Law 42 y_NT_type) ∈ xG := List.mem_filter.mpr ⟨List.mem_append_right _ (List.mem_of_getElem? (i := 186) (by decide +kernel)), by decide +kernel⟩
set_option maxRecDepth 100000 in
theorem g_189 : (Cond.code y_NT_type b_NT_type 6 (some .int)) ∈ xG := List.mem_filter.mpr ⟨List.mem_append_right _ (List.mem_append_left _ (List.mem_of_getElem? (i := 189) rfl)), by decide +kernel⟩
theorem g_760 : (Cond.instanceMethod y_Md_type) ∈ xG := List.mem_filter.mpr ⟨List.mem_append_right _ (List.mem_of_getElem? (i := 760) (by decide +kernel)), by decide +kernel⟩
theorem g_761 : (Cond.selects R_Md y_Md_type y_Md_type) ∈ xG := List.mem_filter.mpr ⟨List.mem_append_right _ (List.mem_of_getElem? (i := 761) (by decide +kernel)), by decide +kernel⟩
theorem g_759 : (Cond.methodLink R_Law 45 y_Md_type) ∈ xG := List.mem_filter.mpr ⟨List.mem_append_right _ (List.mem_of_getElem? (i := 759) (by decide +kernel)), by decide +kernel⟩
set_option maxRecDepth 100000 in
theorem g_762 : (Cond.code y_Md_type b_Md_type 6 (some .int)) ∈ xG := List.mem_filter.mpr ⟨List.mem_append_right _ (List.mem_append_right _ (List.mem_append_right _ (List.mem_append_right _ (List.mem_of_getElem? (i := 42) rfl)))), by decide +kernel⟩
theorem g_202 : (Cond.instanceMethod y_NT_wipe) ∈ xG := List.mem_filter.mpr ⟨List.mem_append_right _ (List.mem_of_getElem? (i := 202) (by decide +kernel)), by decide +kernel⟩
theorem g_203 : (Cond.selects R_NT y_NT_wipe y_NT_wipe) ∈ xG := List.mem_filter.mpr ⟨List.mem_append_right _ (List.mem_of_getElem? (i := 203) (by decide +kernel)), by decide +kernel⟩
theorem g_201 : (Cond.methodLink R_Law 46 y_NT_wipe) ∈ xG := List.mem_filter.mpr ⟨List.mem_append_right _ (List.mem_of_getElem? (i := 201) (by decide +kernel)), by decide +kernel⟩
set_option maxRecDepth 100000 in
theorem g_204 : (Cond.code y_NT_wipe b_NT_wipe 2 (some .int)) ∈ xG := List.mem_filter.mpr ⟨List.mem_append_right _ (List.mem_append_left _ (List.mem_of_getElem? (i := 204) rfl)), by decide +kernel⟩
theorem g_768 : (Cond.instanceMethod y_Md_wipe) ∈ xG := List.mem_filter.mpr ⟨List.mem_append_right _ (List.mem_of_getElem? (i := 768) (by decide +kernel)), by decide +kernel⟩
theorem g_769 : (Cond.selects R_Md y_Md_wipe y_Md_wipe) ∈ xG := List.mem_filter.mpr ⟨List.mem_append_right _ (List.mem_of_getElem? (i := 769) (by decide +kernel)), by decide +kernel⟩
theorem g_767 : (Cond.methodLink R_Law 50 y_Md_wipe) ∈ xG := List.mem_filter.mpr ⟨List.mem_append_right _ (List.mem_of_getElem? (i := 767) (by decide +kernel)), by decide +kernel⟩
set_option maxRecDepth 100000 in
theorem g_770 : (Cond.code y_Md_wipe b_Md_wipe 2 (some .int)) ∈ xG := List.mem_filter.mpr ⟨List.mem_append_right _ (List.mem_append_right _ (List.mem_append_right _ (List.mem_append_right _ (List.mem_of_getElem? (i := 50) rfl)))), by decide +kernel⟩
theorem g_210 : (Cond.instanceMethod y_NT_character) ∈ xG := List.mem_filter.mpr ⟨List.mem_append_right _ (List.mem_of_getElem? (i := 210) (by decide +kernel)), by decide +kernel⟩
theorem g_211 : (Cond.selects R_NT y_NT_character y_NT_character) ∈ xG := List.mem_filter.mpr ⟨List.mem_append_right _ (List.mem_of_getElem? (i := 211) (by decide +kernel)), by decide +kernel⟩
theorem g_209 : (Cond.methodLink R_Law 51 y_NT_character) ∈ xG := List.mem_filter.mpr ⟨List.mem_append_right _ (List.mem_of_getElem? (i := 209) (by decide +kernel)), by decide +kernel⟩
set_option maxRecDepth 100000 in
theorem g_212 : (Cond.code y_NT_character b_NT_character 2 (some .int)) ∈ xG := List.mem_filter.mpr ⟨List.mem_append_right _ (List.mem_append_left _ (List.mem_of_getElem? (i := 212) rfl)), by decide +kernel⟩
theorem g_772 : (Cond.instanceMethod y_Md_character) ∈ xG := List.mem_filter.mpr ⟨List.mem_append_right _ (List.mem_of_getElem? (i := 772) (by decide +kernel)), by decide +kernel⟩
theorem g_773 : (Cond.selects R_Md y_Md_character y_Md_character) ∈ xG := List.mem_filter.mpr ⟨List.mem_append_right _ (List.mem_of_getElem? (i := 773) (by decide +kernel)), by decide +kernel⟩
theorem g_771 : (Cond.methodLink R_Law 54 y_Md_character) ∈ xG := List.mem_filter.mpr ⟨List.mem_append_right _ (List.mem_of_getElem? (i := 771) (by decide +kernel)), by decide +kernel⟩
set_option maxRecDepth 100000 in
theorem g_774 : (Cond.code y_Md_character b_Md_character 2 (some .int)) ∈ xG := List.mem_filter.mpr ⟨List.mem_append_right _ (List.mem_append_right _ (List.mem_append_right _ (List.mem_append_right _ (List.mem_of_getElem? (i := 54) rfl)))), by decide +kernel⟩
set_option maxRecDepth 100000 in
theorem g_416 : (Cond.codeWith y_Law_read b_Law_read 3 (some .int) [(0, 7, 10, 13)]) ∈ xG := List.mem_filter.mpr ⟨List.mem_append_right _ (List.mem_append_right _ (List.mem_append_left _ (List.mem_of_getElem? (i := 176) rfl))), by decide +kernel⟩
theorem g_414 : (Cond.methodLink R_Law 55 y_Law_read) ∈ xG := List.mem_filter.mpr ⟨List.mem_append_right _ (List.mem_of_getElem? (i := 414) (by decide +kernel)), by decide +kernel⟩
theorem g_415 : (Cond.static y_Law_read) ∈ xG := List.mem_filter.mpr ⟨List.mem_append_right _ (List.mem_of_getElem? (i := 415) (by decide +kernel)), by decide +kernel⟩
theorem g_0 : (Cond.initialized R_Law) ∈ xG := List.mem_filter.mpr ⟨List.mem_append_right _ (List.mem_of_getElem? (i := 0) (by decide +kernel)), by decide +kernel⟩
theorem g_780 : (Cond.instanceMethod y_Md_read) ∈ xG := List.mem_filter.mpr ⟨List.mem_append_right _ (List.mem_of_getElem? (i := 780) (by decide +kernel)), by decide +kernel⟩
theorem g_781 : (Cond.selects R_Md y_Md_read y_Md_read) ∈ xG := List.mem_filter.mpr ⟨List.mem_append_right _ (List.mem_of_getElem? (i := 781) (by decide +kernel)), by decide +kernel⟩
theorem g_779 : (Cond.methodLink R_Law 60 y_Md_read) ∈ xG := List.mem_filter.mpr ⟨List.mem_append_right _ (List.mem_of_getElem? (i := 779) (by decide +kernel)), by decide +kernel⟩
set_option maxRecDepth 100000 in
theorem g_782 : (Cond.code y_Md_read b_Md_read 10 (some .long)) ∈ xG := List.mem_filter.mpr ⟨List.mem_append_right _ (List.mem_append_right _ (List.mem_append_right _ (List.mem_append_right _ (List.mem_of_getElem? (i := 62) rfl)))), by decide +kernel⟩
theorem g_756 : (Cond.instanceMethod y_Md_thrown) ∈ xG := List.mem_filter.mpr ⟨List.mem_append_right _ (List.mem_of_getElem? (i := 756) (by decide +kernel)), by decide +kernel⟩
theorem g_757 : (Cond.selects R_Md y_Md_thrown y_Md_thrown) ∈ xG := List.mem_filter.mpr ⟨List.mem_append_right _ (List.mem_of_getElem? (i := 757) (by decide +kernel)), by decide +kernel⟩
theorem g_755 : (Cond.methodLink R_Law 61 y_Md_thrown) ∈ xG := List.mem_filter.mpr ⟨List.mem_append_right _ (List.mem_of_getElem? (i := 755) (by decide +kernel)), by decide +kernel⟩
set_option maxRecDepth 100000 in
theorem g_758 : (Cond.code y_Md_thrown b_Md_thrown 1 (some .int)) ∈ xG := List.mem_filter.mpr ⟨List.mem_append_right _ (List.mem_append_right _ (List.mem_append_right _ (List.mem_append_right _ (List.mem_of_getElem? (i := 38) rfl)))), by decide +kernel⟩
theorem g_218 : (Cond.instanceMethod y_NT_place) ∈ xG := List.mem_filter.mpr ⟨List.mem_append_right _ (List.mem_of_getElem? (i := 218) (by decide +kernel)), by decide +kernel⟩
theorem g_219 : (Cond.selects R_NT y_NT_place y_NT_place) ∈ xG := List.mem_filter.mpr ⟨List.mem_append_right _ (List.mem_of_getElem? (i := 219) (by decide +kernel)), by decide +kernel⟩
theorem g_217 : (Cond.methodLink R_Law 64 y_NT_place) ∈ xG := List.mem_filter.mpr ⟨List.mem_append_right _ (List.mem_of_getElem? (i := 217) (by decide +kernel)), by decide +kernel⟩
set_option maxRecDepth 100000 in
theorem g_220 : (Cond.code y_NT_place b_NT_place 1 (some .int)) ∈ xG := List.mem_filter.mpr ⟨List.mem_append_right _ (List.mem_append_left _ (List.mem_of_getElem? (i := 220) rfl)), by decide +kernel⟩
theorem g_776 : (Cond.instanceMethod y_Md_place) ∈ xG := List.mem_filter.mpr ⟨List.mem_append_right _ (List.mem_of_getElem? (i := 776) (by decide +kernel)), by decide +kernel⟩
theorem g_777 : (Cond.selects R_Md y_Md_place y_Md_place) ∈ xG := List.mem_filter.mpr ⟨List.mem_append_right _ (List.mem_of_getElem? (i := 777) (by decide +kernel)), by decide +kernel⟩
theorem g_775 : (Cond.methodLink R_Law 67 y_Md_place) ∈ xG := List.mem_filter.mpr ⟨List.mem_append_right _ (List.mem_of_getElem? (i := 775) (by decide +kernel)), by decide +kernel⟩
set_option maxRecDepth 100000 in
theorem g_778 : (Cond.code y_Md_place b_Md_place 1 (some .int)) ∈ xG := List.mem_filter.mpr ⟨List.mem_append_right _ (List.mem_append_right _ (List.mem_append_right _ (List.mem_append_right _ (List.mem_of_getElem? (i := 58) rfl)))), by decide +kernel⟩
theorem g_222 : (Cond.instanceMethod y_NT_write) ∈ xG := List.mem_filter.mpr ⟨List.mem_append_right _ (List.mem_of_getElem? (i := 222) (by decide +kernel)), by decide +kernel⟩
theorem g_223 : (Cond.selects R_NT y_NT_write y_NT_write) ∈ xG := List.mem_filter.mpr ⟨List.mem_append_right _ (List.mem_of_getElem? (i := 223) (by decide +kernel)), by decide +kernel⟩
theorem g_221 : (Cond.methodLink R_Law 68 y_NT_write) ∈ xG := List.mem_filter.mpr ⟨List.mem_append_right _ (List.mem_of_getElem? (i := 221) (by decide +kernel)), by decide +kernel⟩
set_option maxRecDepth 100000 in
theorem g_224 : (Cond.code y_NT_write b_NT_write 3 (some .int)) ∈ xG := List.mem_filter.mpr ⟨List.mem_append_right _ (List.mem_append_left _ (List.mem_of_getElem? (i := 224) rfl)), by decide +kernel⟩
theorem g_845 : (Cond.instanceMethod y_Md_write) ∈ xG := List.mem_filter.mpr ⟨List.mem_append_right _ (List.mem_of_getElem? (i := 845) (by decide +kernel)), by decide +kernel⟩
theorem g_846 : (Cond.selects R_Md y_Md_write y_Md_write) ∈ xG := List.mem_filter.mpr ⟨List.mem_append_right _ (List.mem_of_getElem? (i := 846) (by decide +kernel)), by decide +kernel⟩
theorem g_844 : (Cond.methodLink R_Law 72 y_Md_write) ∈ xG := List.mem_filter.mpr ⟨List.mem_append_right _ (List.mem_of_getElem? (i := 844) (by decide +kernel)), by decide +kernel⟩
set_option maxRecDepth 100000 in
theorem g_847 : (Cond.code y_Md_write b_Md_write 3 (some .int)) ∈ xG := List.mem_filter.mpr ⟨List.mem_append_right _ (List.mem_append_right _ (List.mem_append_right _ (List.mem_append_right _ (List.mem_of_getElem? (i := 127) rfl)))), by decide +kernel⟩
set_option maxRecDepth 100000 in
theorem g_584 : (Cond.codeWith y_Law_digits b_Law_digits 6 (some .int) [(0, 11, 14, 13)]) ∈ xG := List.mem_filter.mpr ⟨List.mem_append_right _ (List.mem_append_right _ (List.mem_append_right _ (List.mem_append_left _ (List.mem_of_getElem? (i := 104) rfl)))), by decide +kernel⟩
theorem g_582 : (Cond.methodLink R_Law 73 y_Law_digits) ∈ xG := List.mem_filter.mpr ⟨List.mem_append_right _ (List.mem_of_getElem? (i := 582) (by decide +kernel)), by decide +kernel⟩
theorem g_583 : (Cond.static y_Law_digits) ∈ xG := List.mem_filter.mpr ⟨List.mem_append_right _ (List.mem_of_getElem? (i := 583) (by decide +kernel)), by decide +kernel⟩
theorem g_905 : (Cond.instanceMethod y_Md_digits) ∈ xG := List.mem_filter.mpr ⟨List.mem_append_right _ (List.mem_of_getElem? (i := 905) (by decide +kernel)), by decide +kernel⟩
theorem g_906 : (Cond.selects R_Md y_Md_digits y_Md_digits) ∈ xG := List.mem_filter.mpr ⟨List.mem_append_right _ (List.mem_of_getElem? (i := 906) (by decide +kernel)), by decide +kernel⟩
theorem g_904 : (Cond.methodLink R_Law 76 y_Md_digits) ∈ xG := List.mem_filter.mpr ⟨List.mem_append_right _ (List.mem_of_getElem? (i := 904) (by decide +kernel)), by decide +kernel⟩
set_option maxRecDepth 100000 in
theorem g_907 : (Cond.code y_Md_digits b_Md_digits 4 (some .int)) ∈ xG := List.mem_filter.mpr ⟨List.mem_append_right _ (List.mem_append_right _ (List.mem_append_right _ (List.mem_append_right _ (List.mem_of_getElem? (i := 187) rfl)))), by decide +kernel⟩
set_option maxRecDepth 100000 in
theorem g_596 : (Cond.codeWith y_Law_places b_Law_places 6 (some .int) [(0, 11, 14, 13)]) ∈ xG := List.mem_filter.mpr ⟨List.mem_append_right _ (List.mem_append_right _ (List.mem_append_right _ (List.mem_append_left _ (List.mem_of_getElem? (i := 116) rfl)))), by decide +kernel⟩
theorem g_594 : (Cond.methodLink R_Law 77 y_Law_places) ∈ xG := List.mem_filter.mpr ⟨List.mem_append_right _ (List.mem_of_getElem? (i := 594) (by decide +kernel)), by decide +kernel⟩
theorem g_595 : (Cond.static y_Law_places) ∈ xG := List.mem_filter.mpr ⟨List.mem_append_right _ (List.mem_of_getElem? (i := 595) (by decide +kernel)), by decide +kernel⟩
theorem g_913 : (Cond.instanceMethod y_Md_places) ∈ xG := List.mem_filter.mpr ⟨List.mem_append_right _ (List.mem_of_getElem? (i := 913) (by decide +kernel)), by decide +kernel⟩
theorem g_914 : (Cond.selects R_Md y_Md_places y_Md_places) ∈ xG := List.mem_filter.mpr ⟨List.mem_append_right _ (List.mem_of_getElem? (i := 914) (by decide +kernel)), by decide +kernel⟩
theorem g_912 : (Cond.methodLink R_Law 79 y_Md_places) ∈ xG := List.mem_filter.mpr ⟨List.mem_append_right _ (List.mem_of_getElem? (i := 912) (by decide +kernel)), by decide +kernel⟩
set_option maxRecDepth 100000 in
theorem g_915 : (Cond.code y_Md_places b_Md_places 4 (some .int)) ∈ xG := List.mem_filter.mpr ⟨List.mem_append_right _ (List.mem_append_right _ (List.mem_append_right _ (List.mem_append_right _ (List.mem_of_getElem? (i := 195) rfl)))), by decide +kernel⟩
theorem g_395 : (Cond.instanceMethod y_NT_full) ∈ xG := List.mem_filter.mpr ⟨List.mem_append_right _ (List.mem_of_getElem? (i := 395) (by decide +kernel)), by decide +kernel⟩
theorem g_396 : (Cond.selects R_NT y_NT_full y_NT_full) ∈ xG := List.mem_filter.mpr ⟨List.mem_append_right _ (List.mem_of_getElem? (i := 396) (by decide +kernel)), by decide +kernel⟩
theorem g_394 : (Cond.methodLink R_Law 80 y_NT_full) ∈ xG := List.mem_filter.mpr ⟨List.mem_append_right _ (List.mem_of_getElem? (i := 394) (by decide +kernel)), by decide +kernel⟩
set_option maxRecDepth 100000 in
theorem g_397 : (Cond.code y_NT_full b_NT_full 3 (some .int)) ∈ xG := List.mem_filter.mpr ⟨List.mem_append_right _ (List.mem_append_right _ (List.mem_append_left _ (List.mem_of_getElem? (i := 157) rfl))), by decide +kernel⟩
theorem g_921 : (Cond.instanceMethod y_Md_full) ∈ xG := List.mem_filter.mpr ⟨List.mem_append_right _ (List.mem_of_getElem? (i := 921) (by decide +kernel)), by decide +kernel⟩
theorem g_922 : (Cond.selects R_Md y_Md_full y_Md_full) ∈ xG := List.mem_filter.mpr ⟨List.mem_append_right _ (List.mem_of_getElem? (i := 922) (by decide +kernel)), by decide +kernel⟩
theorem g_920 : (Cond.methodLink R_Law 83 y_Md_full) ∈ xG := List.mem_filter.mpr ⟨List.mem_append_right _ (List.mem_of_getElem? (i := 920) (by decide +kernel)), by decide +kernel⟩
set_option maxRecDepth 100000 in
theorem g_923 : (Cond.code y_Md_full b_Md_full 4 (some .int)) ∈ xG := List.mem_filter.mpr ⟨List.mem_append_right _ (List.mem_append_right _ (List.mem_append_right _ (List.mem_append_right _ (List.mem_of_getElem? (i := 203) rfl)))), by decide +kernel⟩
set_option maxRecDepth 100000 in
theorem g_608 : (Cond.codeWith y_Law_table b_Law_table 4 (some .int) [(0, 6, 9, 13)]) ∈ xG := List.mem_filter.mpr ⟨List.mem_append_right _ (List.mem_append_right _ (List.mem_append_right _ (List.mem_append_left _ (List.mem_of_getElem? (i := 128) rfl)))), by decide +kernel⟩
theorem g_606 : (Cond.methodLink R_Law 84 y_Law_table) ∈ xG := List.mem_filter.mpr ⟨List.mem_append_right _ (List.mem_of_getElem? (i := 606) (by decide +kernel)), by decide +kernel⟩
theorem g_607 : (Cond.static y_Law_table) ∈ xG := List.mem_filter.mpr ⟨List.mem_append_right _ (List.mem_of_getElem? (i := 607) (by decide +kernel)), by decide +kernel⟩
theorem g_925 : (Cond.instanceMethod y_Md_table) ∈ xG := List.mem_filter.mpr ⟨List.mem_append_right _ (List.mem_of_getElem? (i := 925) (by decide +kernel)), by decide +kernel⟩
theorem g_926 : (Cond.selects R_Md y_Md_table y_Md_table) ∈ xG := List.mem_filter.mpr ⟨List.mem_append_right _ (List.mem_of_getElem? (i := 926) (by decide +kernel)), by decide +kernel⟩
theorem g_924 : (Cond.methodLink R_Law 87 y_Md_table) ∈ xG := List.mem_filter.mpr ⟨List.mem_append_right _ (List.mem_of_getElem? (i := 924) (by decide +kernel)), by decide +kernel⟩
set_option maxRecDepth 100000 in
theorem g_927 : (Cond.code y_Md_table b_Md_table 4 none) ∈ xG := List.mem_filter.mpr ⟨List.mem_append_right _ (List.mem_append_right _ (List.mem_append_right _ (List.mem_append_right _ (List.mem_of_getElem? (i := 207) rfl)))), by decide +kernel⟩
set_option maxRecDepth 100000 in
theorem g_620 : (Cond.codeWith y_Law_set b_Law_set 6 (some .int) [(0, 7, 10, 30)]) ∈ xG := List.mem_filter.mpr ⟨List.mem_append_right _ (List.mem_append_right _ (List.mem_append_right _ (List.mem_append_left _ (List.mem_of_getElem? (i := 140) rfl)))), by decide +kernel⟩
theorem g_618 : (Cond.methodLink R_Law 88 y_Law_set) ∈ xG := List.mem_filter.mpr ⟨List.mem_append_right _ (List.mem_of_getElem? (i := 618) (by decide +kernel)), by decide +kernel⟩
theorem g_619 : (Cond.static y_Law_set) ∈ xG := List.mem_filter.mpr ⟨List.mem_append_right _ (List.mem_of_getElem? (i := 619) (by decide +kernel)), by decide +kernel⟩
theorem g_929 : (Cond.instanceMethod y_Md_set) ∈ xG := List.mem_filter.mpr ⟨List.mem_append_right _ (List.mem_of_getElem? (i := 929) (by decide +kernel)), by decide +kernel⟩
theorem g_930 : (Cond.selects R_Md y_Md_set y_Md_set) ∈ xG := List.mem_filter.mpr ⟨List.mem_append_right _ (List.mem_of_getElem? (i := 930) (by decide +kernel)), by decide +kernel⟩
theorem g_928 : (Cond.methodLink R_Law 91 y_Md_set) ∈ xG := List.mem_filter.mpr ⟨List.mem_append_right _ (List.mem_of_getElem? (i := 928) (by decide +kernel)), by decide +kernel⟩
set_option maxRecDepth 100000 in
theorem g_931 : (Cond.code y_Md_set b_Md_set 5 none) ∈ xG := List.mem_filter.mpr ⟨List.mem_append_right _ (List.mem_append_right _ (List.mem_append_right _ (List.mem_append_right _ (List.mem_of_getElem? (i := 211) rfl)))), by decide +kernel⟩
set_option maxRecDepth 100000 in
theorem g_652 : (Cond.codeWith y_Law_layout b_Law_layout 4 (some .int) [(0, 9, 12, 13)]) ∈ xG := List.mem_filter.mpr ⟨List.mem_append_right _ (List.mem_append_right _ (List.mem_append_right _ (List.mem_append_left _ (List.mem_of_getElem? (i := 172) rfl)))), by decide +kernel⟩
theorem g_650 : (Cond.methodLink R_Law 92 y_Law_layout) ∈ xG := List.mem_filter.mpr ⟨List.mem_append_right _ (List.mem_of_getElem? (i := 650) (by decide +kernel)), by decide +kernel⟩
theorem g_651 : (Cond.static y_Law_layout) ∈ xG := List.mem_filter.mpr ⟨List.mem_append_right _ (List.mem_of_getElem? (i := 651) (by decide +kernel)), by decide +kernel⟩
theorem g_933 : (Cond.instanceMethod y_Md_layout) ∈ xG := List.mem_filter.mpr ⟨List.mem_append_right _ (List.mem_of_getElem? (i := 933) (by decide +kernel)), by decide +kernel⟩
theorem g_934 : (Cond.selects R_Md y_Md_layout y_Md_layout) ∈ xG := List.mem_filter.mpr ⟨List.mem_append_right _ (List.mem_of_getElem? (i := 934) (by decide +kernel)), by decide +kernel⟩
theorem g_932 : (Cond.methodLink R_Law 95 y_Md_layout) ∈ xG := List.mem_filter.mpr ⟨List.mem_append_right _ (List.mem_of_getElem? (i := 932) (by decide +kernel)), by decide +kernel⟩
set_option maxRecDepth 100000 in
theorem g_935 : (Cond.code y_Md_layout b_Md_layout 8 (some .int)) ∈ xG := List.mem_filter.mpr ⟨List.mem_append_right _ (List.mem_append_right _ (List.mem_append_right _ (List.mem_append_right _ (List.mem_of_getElem? (i := 215) rfl)))), by decide +kernel⟩
theorem g_407 : (Cond.instanceMethod y_NT_shown) ∈ xG := List.mem_filter.mpr ⟨List.mem_append_right _ (List.mem_of_getElem? (i := 407) (by decide +kernel)), by decide +kernel⟩
theorem g_408 : (Cond.selects R_NT y_NT_shown y_NT_shown) ∈ xG := List.mem_filter.mpr ⟨List.mem_append_right _ (List.mem_of_getElem? (i := 408) (by decide +kernel)), by decide +kernel⟩
theorem g_406 : (Cond.methodLink R_Law 96 y_NT_shown) ∈ xG := List.mem_filter.mpr ⟨List.mem_append_right _ (List.mem_of_getElem? (i := 406) (by decide +kernel)), by decide +kernel⟩
set_option maxRecDepth 100000 in
theorem g_409 : (Cond.code y_NT_shown b_NT_shown 3 (some .int)) ∈ xG := List.mem_filter.mpr ⟨List.mem_append_right _ (List.mem_append_right _ (List.mem_append_left _ (List.mem_of_getElem? (i := 169) rfl))), by decide +kernel⟩
theorem g_948 : (Cond.instanceMethod y_Md_shown) ∈ xG := List.mem_filter.mpr ⟨List.mem_append_right _ (List.mem_of_getElem? (i := 948) (by decide +kernel)), by decide +kernel⟩
theorem g_949 : (Cond.selects R_Md y_Md_shown y_Md_shown) ∈ xG := List.mem_filter.mpr ⟨List.mem_append_right _ (List.mem_of_getElem? (i := 949) (by decide +kernel)), by decide +kernel⟩
theorem g_947 : (Cond.methodLink R_Law 100 y_Md_shown) ∈ xG := List.mem_filter.mpr ⟨List.mem_append_right _ (List.mem_of_getElem? (i := 947) (by decide +kernel)), by decide +kernel⟩
set_option maxRecDepth 100000 in
theorem g_950 : (Cond.code y_Md_shown b_Md_shown 3 (some .int)) ∈ xG := List.mem_filter.mpr ⟨List.mem_append_right _ (List.mem_append_right _ (List.mem_append_right _ (List.mem_append_right _ (List.mem_of_getElem? (i := 230) rfl)))), by decide +kernel⟩
