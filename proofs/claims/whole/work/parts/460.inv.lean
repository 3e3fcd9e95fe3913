/-! THE TWO SIDES SIDE BY SIDE -/
/-- wp l rw cl ll et ln nb: the class's place, length, rows, columns, length of a line, text, lines, numbers; the others: the reference's -/
def Inv0 (wp l rw cl ll : Int32) (et ln : Nat → Int32) (nb : Nat → Int64) (ml pl mr mk ld : Int32) (mt mn : Nat → Int32) (mc : Nat → Int64) : Prop :=
  ∃ (cs : List Nat) (R C L : Nat), xT 1200 et l cs ∧ xT 1200 mt ml cs ∧ wp = pl ∧ rw = iI R ∧ cl = iI C ∧ ll = iI L ∧ mr = iI R ∧ mk = iI C ∧ ld = iI L ∧ R ≤ 8 ∧ C ≤ 8 ∧ L ≤ 320 ∧ (∀ i, i < 64 → nb i = mc i) ∧ ∀ r j, r < R → j < L → ln (320 * r + j) = mn (1200 * r + j)
theorem i32r (x : Int32) : ∃ k : Int, x = iI k ∧ -2147483648 ≤ k ∧ k < 2147483648 := ⟨x.toInt, (iI_of x).symm, by have := x.le_toInt; omega, by have := x.toInt_lt; omega⟩
theorem i64r (v : Int64) : ∃ n : Nat, v = lN n ∧ n < 18446744073709551616 := ⟨bitsOf v, (bits_eq v).symm, bits_lt v⟩
section OP
variable {wp l rw cl ll : Int32} {et ln : Nat → Int32} {nb : Nat → Int64} {ml pl mr mk ld : Int32} {mt mn : Nat → Int32} {mc : Nat → Int64} {th lc sz : Int32} {e ec ep el ed : Nat → Int32}
theorem o_type (I : Inv0 wp l rw cl ll et ln nb ml pl mr mk ld mt mn mc) (v : Int64) (k : Int32) : ∃ r l' et' ml' mt', f_NT_type 1200 wp l et v k = some (r, l', et') ∧ f_Md_type 1200 th ml pl lc mr mk ld sz mt v k = some (r, ml', iI 0, mt') ∧ Inv0 wp l' rw cl ll et' ln nb ml' pl mr mk ld mt' mn mc := by
  obtain ⟨cs, R, C, L, h1, h2, h3⟩ := I
  obtain ⟨n, rfl, hn⟩ := i64r v
  obtain ⟨k, rfl, k1, k2⟩ := i32r k
  obtain ⟨e1, l1, q1, q2⟩ := type_s (w := wp) hn k1 k2 h1
  obtain ⟨e2, l2, q3, q4⟩ := mtype_s (a1 := th) (a3 := pl) (a4 := lc) (a5 := mr) (a6 := mk) (a7 := ld) (a8 := sz) hn k1 k2 h2
  exact ⟨_, _, _, _, _, q1, q3, _, R, C, L, q2, q4, h3⟩
theorem o_wipe (I : Inv0 wp l rw cl ll et ln nb ml pl mr mk ld mt mn mc) : f_NT_wipe wp l = some (l, iI 0) ∧ f_Md_wipe th ml pl lc mr mk ld sz = some (l, iI 0, iI 0) ∧ Inv0 wp (iI 0) rw cl ll et ln nb (iI 0) pl mr mk ld mt mn mc := by
  obtain ⟨cs, R, C, L, h1, h2, h3⟩ := I
  have : ml = l := by rw [h1.2.1, h2.2.1]
  subst this
  exact ⟨rfl, rfl, [], R, C, L, xT_nil, xT_nil, h3⟩
theorem o_char (I : Inv0 wp l rw cl ll et ln nb ml pl mr mk ld mt mn mc) (k : Int32) : ∃ r, f_NT_character 1200 wp l et k = some r ∧ f_Md_character 1200 th ml pl lc mr mk ld sz mt k = some (r, iI 0) := by
  obtain ⟨cs, R, C, L, h1, h2, h3⟩ := I
  obtain ⟨k, rfl, k1, k2⟩ := i32r k
  exact ⟨_, char_s k1 k2 h1, mchar_s k1 k2 h2⟩
theorem o_place (I : Inv0 wp l rw cl ll et ln nb ml pl mr mk ld mt mn mc) : f_NT_place wp = some wp ∧ f_Md_place th ml pl lc mr mk ld sz = some (wp, iI 0) := by
  obtain ⟨cs, R, C, L, h1, h2, rfl, h3⟩ := I
  exact ⟨rfl, rfl⟩
theorem o_shown (I : Inv0 wp l rw cl ll et ln nb ml pl mr mk ld mt mn mc) (x y : Int32) : ∃ r, f_NT_shown 2560 wp rw cl ll ln x y = some r ∧ f_Md_shown 9600 th ml pl lc mr mk ld sz mn x y = some (r, iI 0) := by
  obtain ⟨cs, R, C, L, h1, h2, h3, rfl, rfl, rfl, rfl, rfl, rfl, hR, hC, hL, h4, h5⟩ := I
  obtain ⟨x, rfl, x1, x2⟩ := i32r x
  obtain ⟨y, rfl, y1, y2⟩ := i32r y
  refine ⟨_, shown_s hR hL x1 x2 y1 y2, ?_⟩
  rw [mshown_s hR hL x1 x2 y1 y2]
  by_cases h : 0 ≤ x ∧ x < R ∧ 0 ≤ y ∧ y < L
  · rw [if_pos h, if_pos h, h5 _ _ (by omega) (by omega)]
  · rw [if_neg h, if_neg h]
theorem o_write (I : Inv0 wp l rw cl ll et ln nb ml pl mr mk ld mt mn mc) (v : Int64) {fa fb dc dp lc1 lp hc hp : Int32} {fe de le he : Nat → Int32} : ∃ r l' et' x1 x2 x3 x4 x5 x6 x7 x8 x9 x10 x11 x12 ml' mt' y1 y2 y3 y4 y5 y6 y7, f_NT_write 1200 255 780 780 780 wp l et fa fb fe dc dp de lc1 lp le hc hp he v = some (r, l', et', x1, x2, x3, x4, x5, x6, x7, x8, x9, x10, x11, x12) ∧ f_Md_write 1200 5200 4 4 110 1300 th ml pl lc mr mk ld sz mt e ec ep el ed v = some (r, ml', y1, y2, iI 0, mt', y3, y4, y5, y6, y7) ∧ Inv0 wp l' rw cl ll et' ln nb ml' pl mr mk ld mt' mn mc := by
  obtain ⟨cs, R, C, L, h1, h2, h3⟩ := I
  obtain ⟨n, rfl, hn⟩ := i64r v
  obtain ⟨r1, r2, r3, r4, r5, r6, r7, r8, r9, r10, r11, r12, e1, l1, q1, q2⟩ := addShort_s (N := 1200) (fa := fa) (fb := fb) (fe := fe) (dc := dc) (dp := dp) (de := de) (lc := lc1) (lp := lp) (le := le) (hc := hc) (hp := hp) (he := he) hn (by decide) (xT_nil (e := et)) (by decide)
  obtain ⟨s1, s2, s3, f1, f2, f3, f4, f5, et2, q3, rfl, q4⟩ := mwrite_s (a1 := th) (a2 := ml) (a3 := pl) (a4 := lc) (a5 := mr) (a6 := mk) (a7 := ld) (a8 := sz) (et := mt) (e := e) (ec := ec) (ep := ep) (el := el) (ed := ed) hn
  rw [List.nil_append] at q2
  refine ⟨iI (wrtT n).length, l1, e1, r1, r2, r3, r4, r5, r6, r7, r8, r9, r10, r11, r12, _, _, _, _, _, _, _, _, _, ?_, q3, _, R, C, L, q2, q4, h3⟩
  unfold f_NT_write f_Text_clear f_Text_length
  simp only [xob]
  have q1' : f_Writer_addShort 255 780 780 780 1200 fa fb fe dc dp de lc1 lp le hc hp he (0 : Int32) et (lN n) = _ := q1
  rw [q1']
  simp only []
  rw [q2.2.1]
theorem o_full (I : Inv0 wp l rw cl ll et ln nb ml pl mr mk ld mt mn mc) (v : Int64) {fa fb dc dp : Int32} {fe de : Nat → Int32} : ∃ r l' et' x1 x2 x3 x4 x5 x6 ml' mt' y1 y2 y3 y4 y5 y6 y7, f_NT_full 1200 255 780 wp l et fa fb fe dc dp de v = some (r, l', et', x1, x2, x3, x4, x5, x6) ∧ f_Md_full 1200 5200 4 4 110 1300 th ml pl lc mr mk ld sz mt e ec ep el ed v = some (r, ml', y1, y2, iI 0, mt', y3, y4, y5, y6, y7) ∧ Inv0 wp l' rw cl ll et' ln nb ml' pl mr mk ld mt' mn mc := by
  obtain ⟨cs, R, C, L, h1, h2, h3⟩ := I
  obtain ⟨n, rfl, hn⟩ := i64r v
  obtain ⟨r1, r2, r3, r4, r5, r6, e1, l1, q1, q2⟩ := addFull_s (N := 1200) (fa := fa) (fb := fb) (fe := fe) (dc := dc) (dp := dp) (de := de) hn (by decide) (xT_nil (e := et)) (by decide)
  obtain ⟨s1, s2, s3, f1, f2, f3, f4, f5, et2, q3, rfl, q4⟩ := mfull_s (a1 := th) (a2 := ml) (a3 := pl) (a4 := lc) (a5 := mr) (a6 := mk) (a7 := ld) (a8 := sz) (et := mt) (e := e) (ec := ec) (ep := ep) (el := el) (ed := ed) hn
  rw [List.nil_append] at q2
  refine ⟨iI (fullT n).length, l1, e1, r1, r2, r3, r4, r5, r6, _, _, _, _, _, _, _, _, _, ?_, q3, _, R, C, L, q2, q4, h3⟩
  unfold f_NT_full f_Text_clear f_Text_length
  simp only [xob]
  have q1' : f_Writer_addInFull 255 780 1200 fa fb fe dc dp de (0 : Int32) et (lN n) = _ := q1
  rw [q1']
  simp only []
  rw [q2.2.1]
end OP
