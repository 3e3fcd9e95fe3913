def lp_Table_writeToPlaces_9 (x1 : Int32) (x2 : Int32) (s_t_rows : Int32) (s_t_columns : Int32) (s_t_lineLength : Int32) (e_t_numbers : Nat → Int64) (n_t_writer_fixed_limbs : Nat) (n_t_writer_decimal_digits : Nat) (n_t_numbers : Nat) (n_t_texts_characters : Nat) (n_t_ends : Nat) : Nat → Int32 → Int32 → Int32 → (Nat → Int32) → Int32 → Int32 → (Nat → Int32) → Int32 → (Nat → Int32) → (Nat → Int32) → Option (Int32 × Int32 × (Nat → Int32) × Int32 × Int32 × (Nat → Int32) × Int32 × (Nat → Int32) × (Nat → Int32))
  | 0, _, _, _, _, _, _, _, _, _, _ => none
  | n_ + 1, x3_3, s_t_writer_fixed_end_4, s_t_writer_fixed_first_5, e_t_writer_fixed_limbs_6, s_t_writer_decimal_count_7, s_t_writer_decimal_point_8, e_t_writer_decimal_digits_9, s_t_texts_length_10, e_t_texts_characters_11, e_t_ends_12 =>
    if s_t_rows ≤ x3_3 then (some (s_t_writer_fixed_end_4, s_t_writer_fixed_first_5, e_t_writer_fixed_limbs_6, s_t_writer_decimal_count_7, s_t_writer_decimal_point_8, e_t_writer_decimal_digits_9, s_t_texts_length_10, e_t_texts_characters_11, e_t_ends_12)) else (if (nI n_t_ends) ≤ x3_3 then (some (s_t_writer_fixed_end_4, s_t_writer_fixed_first_5, e_t_writer_fixed_limbs_6, s_t_writer_decimal_count_7, s_t_writer_decimal_point_8, e_t_writer_decimal_digits_9, s_t_texts_length_10, e_t_texts_characters_11, e_t_ends_12)) else (xob (f_Table_number n_t_numbers s_t_rows s_t_columns s_t_lineLength e_t_numbers x3_3 x1) fun r_27 => xob (f_Writer_addToPlaces n_t_writer_fixed_limbs n_t_writer_decimal_digits n_t_texts_characters s_t_writer_fixed_first_5 s_t_writer_fixed_end_4 e_t_writer_fixed_limbs_6 s_t_writer_decimal_count_7 s_t_writer_decimal_point_8 e_t_writer_decimal_digits_9 s_t_texts_length_10 e_t_texts_characters_11 r_27 x2) fun (s_t_writer_fixed_end_29, s_t_writer_fixed_first_30, e_t_writer_fixed_limbs_31, s_t_writer_decimal_count_32, s_t_writer_decimal_point_33, e_t_writer_decimal_digits_34, s_t_texts_length_35, e_t_texts_characters_36) => xob (f_Text_length s_t_texts_length_35) fun r_38 => if (x3_3 < 0 ∨ n_t_ends ≤ x3_3.toNatClampNeg) then none else xnm (x3_3 + (1 : Int32)) fun x3_41 => lp_Table_writeToPlaces_9 x1 x2 s_t_rows s_t_columns s_t_lineLength e_t_numbers n_t_writer_fixed_limbs n_t_writer_decimal_digits n_t_numbers n_t_texts_characters n_t_ends n_ x3_41 s_t_writer_fixed_end_29 s_t_writer_fixed_first_30 e_t_writer_fixed_limbs_31 s_t_writer_decimal_count_32 s_t_writer_decimal_point_33 e_t_writer_decimal_digits_34 s_t_texts_length_35 e_t_texts_characters_36 (upd e_t_ends_12 x3_3.toNatClampNeg r_38)))
def f_Table_writeToPlaces (n_t_writer_fixed_limbs : Nat) (n_t_writer_decimal_digits : Nat) (n_t_numbers : Nat) (n_t_texts_characters : Nat) (n_t_ends : Nat) (s_t_rows : Int32) (s_t_columns : Int32) (s_t_lineLength : Int32) (s_t_writer_fixed_first : Int32) (s_t_writer_fixed_end : Int32) (e_t_writer_fixed_limbs : Nat → Int32) (s_t_writer_decimal_count : Int32) (s_t_writer_decimal_point : Int32) (e_t_writer_decimal_digits : Nat → Int32) (e_t_numbers : Nat → Int64) (s_t_texts_length : Int32) (e_t_texts_characters : Nat → Int32) (e_t_ends : Nat → Int32) (x1 : Int32) (x2 : Int32) : Option (Int32 × Int32 × (Nat → Int32) × Int32 × Int32 × (Nat → Int32) × Int32 × (Nat → Int32) × (Nat → Int32)) :=
  xob (f_Text_clear s_t_texts_length) fun s_t_texts_length_1 => xob (lp_Table_writeToPlaces_9 x1 x2 s_t_rows s_t_columns s_t_lineLength e_t_numbers n_t_writer_fixed_limbs n_t_writer_decimal_digits n_t_numbers n_t_texts_characters n_t_ends xF (0 : Int32) s_t_writer_fixed_end s_t_writer_fixed_first e_t_writer_fixed_limbs s_t_writer_decimal_count s_t_writer_decimal_point e_t_writer_decimal_digits s_t_texts_length_1 e_t_texts_characters e_t_ends) fun (s_t_writer_fixed_end_13, s_t_writer_fixed_first_14, e_t_writer_fixed_limbs_15, s_t_writer_decimal_count_16, s_t_writer_decimal_point_17, e_t_writer_decimal_digits_18, s_t_texts_length_19, e_t_texts_characters_20, e_t_ends_21) => some (s_t_writer_fixed_end_13, s_t_writer_fixed_first_14, e_t_writer_fixed_limbs_15, s_t_writer_decimal_count_16, s_t_writer_decimal_point_17, e_t_writer_decimal_digits_18, s_t_texts_length_19, e_t_texts_characters_20, e_t_ends_21)
def rm_Table_writeToPlaces : Room := { frames := 5, cells := 0, slots := 0, locals := 120 }
set_option maxHeartbeats 4000000 in
set_option maxRecDepth 100000 in
theorem c_Table_writeToPlaces (l : Launch) (dC : Nat → ClassId) (dI : Nat → Nat → Nat) (a_t a_t_writer a_t_numbers a_t_texts a_t_ends a_t_lines a_t_writer_fixed a_t_writer_decimal a_t_writer_low a_t_writer_high a_t_writer_fixed_limbs a_t_writer_decimal_digits a_t_texts_characters : Nat) (c_t_writer_fixed_limbs c_t_writer_decimal_digits c_t_numbers c_t_texts_characters c_t_ends : ClassId) (n_t_writer_fixed_limbs : Nat) (n_t_writer_decimal_digits : Nat) (n_t_numbers : Nat) (n_t_texts_characters : Nat) (n_t_ends : Nat) (s_t_rows : Int32) (s_t_columns : Int32) (s_t_lineLength : Int32) (s_t_writer_fixed_first : Int32) (s_t_writer_fixed_end : Int32) (e_t_writer_fixed_limbs : Nat → Int32) (s_t_writer_decimal_count : Int32) (s_t_writer_decimal_point : Int32) (e_t_writer_decimal_digits : Nat → Int32) (e_t_numbers : Nat → Int64) (s_t_texts_length : Int32) (e_t_texts_characters : Nat → Int32) (e_t_ends : Nat → Int32) (x1 : Int32) (x2 : Int32) (s_t_writer_fixed_end_o : Int32) (s_t_writer_fixed_first_o : Int32) (e_t_writer_fixed_limbs_o : Nat → Int32) (s_t_writer_decimal_count_o : Int32) (s_t_writer_decimal_point_o : Int32) (e_t_writer_decimal_digits_o : Nat → Int32) (s_t_texts_length_o : Int32) (e_t_texts_characters_o : Nat → Int32) (e_t_ends_o : Nat → Int32) (h : f_Table_writeToPlaces n_t_writer_fixed_limbs n_t_writer_decimal_digits n_t_numbers n_t_texts_characters n_t_ends s_t_rows s_t_columns s_t_lineLength s_t_writer_fixed_first s_t_writer_fixed_end e_t_writer_fixed_limbs s_t_writer_decimal_count s_t_writer_decimal_point e_t_writer_decimal_digits e_t_numbers s_t_texts_length e_t_texts_characters e_t_ends x1 x2 = some (s_t_writer_fixed_end_o, s_t_writer_fixed_first_o, e_t_writer_fixed_limbs_o, s_t_writer_decimal_count_o, s_t_writer_decimal_point_o, e_t_writer_decimal_digits_o, s_t_texts_length_o, e_t_texts_characters_o, e_t_ends_o)) : xM l y_Table_writeToPlaces (Cond.code y_Table_writeToPlaces b_Table_writeToPlaces 4 none :: xG) rm_Table_writeToPlaces (dC, dI) x_cl x_nz [.ref a_t, .int x1, .int x2] [(c_t_writer_fixed_limbs, .int), (c_t_writer_decimal_digits, .byte), (c_t_numbers, .long), (c_t_texts_characters, .byte), (c_t_ends, .int)] [(a_t, .inr (4, [.ref a_t_writer, .ref a_t_numbers, .int s_t_rows, .int s_t_columns, .ref a_t_texts, .ref a_t_ends, .ref a_t_lines, .int s_t_lineLength])), (a_t_writer, .inr (6, [.ref a_t_writer_fixed, .ref a_t_writer_decimal, .ref a_t_writer_low, .ref a_t_writer_high])), (a_t_writer_fixed, .inr (1, [.ref a_t_writer_fixed_limbs, .int s_t_writer_fixed_first, .int s_t_writer_fixed_end])), (a_t_writer_fixed_limbs, .inl (c_t_writer_fixed_limbs, n_t_writer_fixed_limbs, .inl e_t_writer_fixed_limbs)), (a_t_writer_decimal, .inr (0, [.ref a_t_writer_decimal_digits, .int s_t_writer_decimal_count, .int s_t_writer_decimal_point])), (a_t_writer_decimal_digits, .inl (c_t_writer_decimal_digits, n_t_writer_decimal_digits, .inl e_t_writer_decimal_digits)), (a_t_numbers, .inl (c_t_numbers, n_t_numbers, .inr (.inl e_t_numbers))), (a_t_texts, .inr (5, [.ref a_t_texts_characters, .int s_t_texts_length])), (a_t_texts_characters, .inl (c_t_texts_characters, n_t_texts_characters, .inl e_t_texts_characters)), (a_t_ends, .inl (c_t_ends, n_t_ends, .inl e_t_ends))] none [(a_t, .inr (4, [.ref a_t_writer, .ref a_t_numbers, .int s_t_rows, .int s_t_columns, .ref a_t_texts, .ref a_t_ends, .ref a_t_lines, .int s_t_lineLength])), (a_t_writer, .inr (6, [.ref a_t_writer_fixed, .ref a_t_writer_decimal, .ref a_t_writer_low, .ref a_t_writer_high])), (a_t_writer_fixed, .inr (1, [.ref a_t_writer_fixed_limbs, .int s_t_writer_fixed_first_o, .int s_t_writer_fixed_end_o])), (a_t_writer_fixed_limbs, .inl (c_t_writer_fixed_limbs, n_t_writer_fixed_limbs, .inl e_t_writer_fixed_limbs_o)), (a_t_writer_decimal, .inr (0, [.ref a_t_writer_decimal_digits, .int s_t_writer_decimal_count_o, .int s_t_writer_decimal_point_o])), (a_t_writer_decimal_digits, .inl (c_t_writer_decimal_digits, n_t_writer_decimal_digits, .inl e_t_writer_decimal_digits_o)), (a_t_numbers, .inl (c_t_numbers, n_t_numbers, .inr (.inl e_t_numbers))), (a_t_texts, .inr (5, [.ref a_t_texts_characters, .int s_t_texts_length_o])), (a_t_texts_characters, .inl (c_t_texts_characters, n_t_texts_characters, .inl e_t_texts_characters_o)), (a_t_ends, .inl (c_t_ends, n_t_ends, .inl e_t_ends_o))] := by
  unfold f_Table_writeToPlaces at h
  refine xM.mkV (cc := b_Table_writeToPlaces) (maxL := 4)  (by decide +kernel) rfl (Nat.le_of_ble_eq_true rfl) ?_
  intro p e s m args below meth c A Q ls hx hb hml hown hts hNz hA hP hD hK hl hret
  have hS : va_S A s.heap s.heap [] := va_S.rf
  have hl : lv_has ls 4 [(0, .ref a_t), (1, .int x1), (2, .int x2)] := hl
  refine lv_aload_n hx hb d_Table_writeToPlaces_0 rfl (lv_at hl 0 rfl) ?_
  refine va_get (D := (dC, dI)) (ci := 4) (v := .ref a_t_texts) (C := R_Table) (T := T_Table) (N := 8) hx hb hts in_Table hown hK hP 0 rfl rfl 4 (by decide) (hts _ g_148) (fun _ h9 => h9) rfl d_Table_writeToPlaces_1 ?_
  replace h := xob_s h
  obtain ⟨s_t_texts_length_1, hc_2, h⟩ := h
  try dsimp only at h
  refine xcV (As := []) (rest := []) (st1 := []) (wr := [(a_t, .inr (4, [.ref a_t_writer, .ref a_t_numbers, .int s_t_rows, .int s_t_columns, .ref a_t_texts, .ref a_t_ends, .ref a_t_lines, .int s_t_lineLength])), (a_t_writer, .inr (6, [.ref a_t_writer_fixed, .ref a_t_writer_decimal, .ref a_t_writer_low, .ref a_t_writer_high])), (a_t_writer_fixed, .inr (1, [.ref a_t_writer_fixed_limbs, .int s_t_writer_fixed_first, .int s_t_writer_fixed_end])), (a_t_writer_fixed_limbs, .inl (c_t_writer_fixed_limbs, n_t_writer_fixed_limbs, .inl e_t_writer_fixed_limbs)), (a_t_writer_decimal, .inr (0, [.ref a_t_writer_decimal_digits, .int s_t_writer_decimal_count, .int s_t_writer_decimal_point])), (a_t_writer_decimal_digits, .inl (c_t_writer_decimal_digits, n_t_writer_decimal_digits, .inl e_t_writer_decimal_digits)), (a_t_numbers, .inl (c_t_numbers, n_t_numbers, .inr (.inl e_t_numbers))), (a_t_texts_characters, .inl (c_t_texts_characters, n_t_texts_characters, .inl e_t_texts_characters)), (a_t_ends, .inl (c_t_ends, n_t_ends, .inl e_t_ends))]) ⟨hx, hb, hml, hown, hts⟩ (c_Text_clear l dC dI a_t_texts a_t_texts_characters s_t_texts_length s_t_texts_length_1 hc_2) (cwV 0 hts (xgoodV g_665 g_206 g_207 g_2 g_208) rfl rfl rfl (by decide +kernel) ⟨Nat.le_of_ble_eq_true rfl, Nat.le_of_ble_eq_true rfl⟩) hNz (ci := 5) (q0 := 7) rfl rfl hA hP hD hS hK [7] [0, 1, 2, 3, 4, 5, 6, 8, 9] [] rfl rfl rfl rfl (by decide) rfl rfl rfl rfl hl.1 (Nat.le_of_ble_eq_true rfl) ⟨Nat.zero_le _, Nat.zero_le _⟩ d_Table_writeToPlaces_4 (fun H locs hP hD hS => ?_)
  have hP : va_P (dC, dI) x_cl [(a_t, .inr (4, [.ref a_t_writer, .ref a_t_numbers, .int s_t_rows, .int s_t_columns, .ref a_t_texts, .ref a_t_ends, .ref a_t_lines, .int s_t_lineLength])), (a_t_writer, .inr (6, [.ref a_t_writer_fixed, .ref a_t_writer_decimal, .ref a_t_writer_low, .ref a_t_writer_high])), (a_t_writer_fixed, .inr (1, [.ref a_t_writer_fixed_limbs, .int s_t_writer_fixed_first, .int s_t_writer_fixed_end])), (a_t_writer_fixed_limbs, .inl (c_t_writer_fixed_limbs, n_t_writer_fixed_limbs, .inl e_t_writer_fixed_limbs)), (a_t_writer_decimal, .inr (0, [.ref a_t_writer_decimal_digits, .int s_t_writer_decimal_count, .int s_t_writer_decimal_point])), (a_t_writer_decimal_digits, .inl (c_t_writer_decimal_digits, n_t_writer_decimal_digits, .inl e_t_writer_decimal_digits)), (a_t_numbers, .inl (c_t_numbers, n_t_numbers, .inr (.inl e_t_numbers))), (a_t_texts_characters, .inl (c_t_texts_characters, n_t_texts_characters, .inl e_t_texts_characters)), (a_t_ends, .inl (c_t_ends, n_t_ends, .inl e_t_ends)), (a_t_texts, .inr (5, [.ref a_t_texts_characters, .int s_t_texts_length_1]))] H := hP
  have hD : va_D A [(a_t, .inr (4, [.ref a_t_writer, .ref a_t_numbers, .int s_t_rows, .int s_t_columns, .ref a_t_texts, .ref a_t_ends, .ref a_t_lines, .int s_t_lineLength])), (a_t_writer, .inr (6, [.ref a_t_writer_fixed, .ref a_t_writer_decimal, .ref a_t_writer_low, .ref a_t_writer_high])), (a_t_writer_fixed, .inr (1, [.ref a_t_writer_fixed_limbs, .int s_t_writer_fixed_first, .int s_t_writer_fixed_end])), (a_t_writer_fixed_limbs, .inl (c_t_writer_fixed_limbs, n_t_writer_fixed_limbs, .inl e_t_writer_fixed_limbs)), (a_t_writer_decimal, .inr (0, [.ref a_t_writer_decimal_digits, .int s_t_writer_decimal_count, .int s_t_writer_decimal_point])), (a_t_writer_decimal_digits, .inl (c_t_writer_decimal_digits, n_t_writer_decimal_digits, .inl e_t_writer_decimal_digits)), (a_t_numbers, .inl (c_t_numbers, n_t_numbers, .inr (.inl e_t_numbers))), (a_t_texts_characters, .inl (c_t_texts_characters, n_t_texts_characters, .inl e_t_texts_characters)), (a_t_ends, .inl (c_t_ends, n_t_ends, .inl e_t_ends)), (a_t_texts, .inr (5, [.ref a_t_texts_characters, .int s_t_texts_length_1]))] := hD
  refine lv_iconst (v := 0) hx hb d_Table_writeToPlaces_7 (by decide) ?_
  refine lv_istore_n (lv' := [(3, .int (0 : Int32)), (0, .ref a_t), (1, .int x1), (2, .int x2)]) hx hb d_Table_writeToPlaces_8 rfl hl (by decide) rfl (fun ls hl => ?_)
  replace h := xob_s h
  obtain ⟨⟨s_t_writer_fixed_end_13, s_t_writer_fixed_first_14, e_t_writer_fixed_limbs_15, s_t_writer_decimal_count_16, s_t_writer_decimal_point_17, e_t_writer_decimal_digits_18, s_t_texts_length_19, e_t_texts_characters_20, e_t_ends_21⟩, hlp_22, h⟩ := h
  try dsimp only at h
  have hX_23 : ∀ (H : Heap) (locs : List Loc) (ls : Array Slot), va_P (dC, dI) x_cl [(a_t, .inr (4, [.ref a_t_writer, .ref a_t_numbers, .int s_t_rows, .int s_t_columns, .ref a_t_texts, .ref a_t_ends, .ref a_t_lines, .int s_t_lineLength])), (a_t_writer, .inr (6, [.ref a_t_writer_fixed, .ref a_t_writer_decimal, .ref a_t_writer_low, .ref a_t_writer_high])), (a_t_writer_fixed, .inr (1, [.ref a_t_writer_fixed_limbs, .int s_t_writer_fixed_first_14, .int s_t_writer_fixed_end_13])), (a_t_writer_fixed_limbs, .inl (c_t_writer_fixed_limbs, n_t_writer_fixed_limbs, .inl e_t_writer_fixed_limbs_15)), (a_t_writer_decimal, .inr (0, [.ref a_t_writer_decimal_digits, .int s_t_writer_decimal_count_16, .int s_t_writer_decimal_point_17])), (a_t_writer_decimal_digits, .inl (c_t_writer_decimal_digits, n_t_writer_decimal_digits, .inl e_t_writer_decimal_digits_18)), (a_t_numbers, .inl (c_t_numbers, n_t_numbers, .inr (.inl e_t_numbers))), (a_t_texts, .inr (5, [.ref a_t_texts_characters, .int s_t_texts_length_19])), (a_t_texts_characters, .inl (c_t_texts_characters, n_t_texts_characters, .inl e_t_texts_characters_20)), (a_t_ends, .inl (c_t_ends, n_t_ends, .inl e_t_ends_21))] H → va_D A [(a_t, .inr (4, [.ref a_t_writer, .ref a_t_numbers, .int s_t_rows, .int s_t_columns, .ref a_t_texts, .ref a_t_ends, .ref a_t_lines, .int s_t_lineLength])), (a_t_writer, .inr (6, [.ref a_t_writer_fixed, .ref a_t_writer_decimal, .ref a_t_writer_low, .ref a_t_writer_high])), (a_t_writer_fixed, .inr (1, [.ref a_t_writer_fixed_limbs, .int s_t_writer_fixed_first_14, .int s_t_writer_fixed_end_13])), (a_t_writer_fixed_limbs, .inl (c_t_writer_fixed_limbs, n_t_writer_fixed_limbs, .inl e_t_writer_fixed_limbs_15)), (a_t_writer_decimal, .inr (0, [.ref a_t_writer_decimal_digits, .int s_t_writer_decimal_count_16, .int s_t_writer_decimal_point_17])), (a_t_writer_decimal_digits, .inl (c_t_writer_decimal_digits, n_t_writer_decimal_digits, .inl e_t_writer_decimal_digits_18)), (a_t_numbers, .inl (c_t_numbers, n_t_numbers, .inr (.inl e_t_numbers))), (a_t_texts, .inr (5, [.ref a_t_texts_characters, .int s_t_texts_length_19])), (a_t_texts_characters, .inl (c_t_texts_characters, n_t_texts_characters, .inl e_t_texts_characters_20)), (a_t_ends, .inl (c_t_ends, n_t_ends, .inl e_t_ends_21))] → va_S A s.heap H locs → lv_has ls 4 [] → W p l e rm_Table_writeToPlaces s m args below meth c H locs 0 0 Q (F0 m 63 ls []) := by
    intro H locs ls hP hD hS hl
    replace h := Option.some.inj h
    replace h := Prod.mk.inj h
    obtain ⟨h1, h⟩ := h
    subst h1
    replace h := Prod.mk.inj h
    obtain ⟨h1, h⟩ := h
    subst h1
    replace h := Prod.mk.inj h
    obtain ⟨h1, h⟩ := h
    subst h1
    replace h := Prod.mk.inj h
    obtain ⟨h1, h⟩ := h
    subst h1
    replace h := Prod.mk.inj h
    obtain ⟨h1, h⟩ := h
    subst h1
    replace h := Prod.mk.inj h
    obtain ⟨h1, h⟩ := h
    subst h1
    replace h := Prod.mk.inj h
    obtain ⟨h1, h⟩ := h
    subst h1
    replace h := Prod.mk.inj h
    obtain ⟨h1, h⟩ := h
    subst h1
    subst h
    exact hret _ _ hP hD hS _ _ d_Table_writeToPlaces_63
  clear h
  have hL_24 : ∀ (n_ : Nat) (x3_3 : Int32) (s_t_writer_fixed_end_4 : Int32) (s_t_writer_fixed_first_5 : Int32) (e_t_writer_fixed_limbs_6 : Nat → Int32) (s_t_writer_decimal_count_7 : Int32) (s_t_writer_decimal_point_8 : Int32) (e_t_writer_decimal_digits_9 : Nat → Int32) (s_t_texts_length_10 : Int32) (e_t_texts_characters_11 : Nat → Int32) (e_t_ends_12 : Nat → Int32) (H : Heap) (locs : List Loc) (ls : Array Slot), lp_Table_writeToPlaces_9 x1 x2 s_t_rows s_t_columns s_t_lineLength e_t_numbers n_t_writer_fixed_limbs n_t_writer_decimal_digits n_t_numbers n_t_texts_characters n_t_ends n_ x3_3 s_t_writer_fixed_end_4 s_t_writer_fixed_first_5 e_t_writer_fixed_limbs_6 s_t_writer_decimal_count_7 s_t_writer_decimal_point_8 e_t_writer_decimal_digits_9 s_t_texts_length_10 e_t_texts_characters_11 e_t_ends_12 = some (s_t_writer_fixed_end_13, s_t_writer_fixed_first_14, e_t_writer_fixed_limbs_15, s_t_writer_decimal_count_16, s_t_writer_decimal_point_17, e_t_writer_decimal_digits_18, s_t_texts_length_19, e_t_texts_characters_20, e_t_ends_21) → va_P (dC, dI) x_cl [(a_t, .inr (4, [.ref a_t_writer, .ref a_t_numbers, .int s_t_rows, .int s_t_columns, .ref a_t_texts, .ref a_t_ends, .ref a_t_lines, .int s_t_lineLength])), (a_t_writer, .inr (6, [.ref a_t_writer_fixed, .ref a_t_writer_decimal, .ref a_t_writer_low, .ref a_t_writer_high])), (a_t_writer_fixed, .inr (1, [.ref a_t_writer_fixed_limbs, .int s_t_writer_fixed_first_5, .int s_t_writer_fixed_end_4])), (a_t_writer_fixed_limbs, .inl (c_t_writer_fixed_limbs, n_t_writer_fixed_limbs, .inl e_t_writer_fixed_limbs_6)), (a_t_writer_decimal, .inr (0, [.ref a_t_writer_decimal_digits, .int s_t_writer_decimal_count_7, .int s_t_writer_decimal_point_8])), (a_t_writer_decimal_digits, .inl (c_t_writer_decimal_digits, n_t_writer_decimal_digits, .inl e_t_writer_decimal_digits_9)), (a_t_numbers, .inl (c_t_numbers, n_t_numbers, .inr (.inl e_t_numbers))), (a_t_texts, .inr (5, [.ref a_t_texts_characters, .int s_t_texts_length_10])), (a_t_texts_characters, .inl (c_t_texts_characters, n_t_texts_characters, .inl e_t_texts_characters_11)), (a_t_ends, .inl (c_t_ends, n_t_ends, .inl e_t_ends_12))] H → va_D A [(a_t, .inr (4, [.ref a_t_writer, .ref a_t_numbers, .int s_t_rows, .int s_t_columns, .ref a_t_texts, .ref a_t_ends, .ref a_t_lines, .int s_t_lineLength])), (a_t_writer, .inr (6, [.ref a_t_writer_fixed, .ref a_t_writer_decimal, .ref a_t_writer_low, .ref a_t_writer_high])), (a_t_writer_fixed, .inr (1, [.ref a_t_writer_fixed_limbs, .int s_t_writer_fixed_first_5, .int s_t_writer_fixed_end_4])), (a_t_writer_fixed_limbs, .inl (c_t_writer_fixed_limbs, n_t_writer_fixed_limbs, .inl e_t_writer_fixed_limbs_6)), (a_t_writer_decimal, .inr (0, [.ref a_t_writer_decimal_digits, .int s_t_writer_decimal_count_7, .int s_t_writer_decimal_point_8])), (a_t_writer_decimal_digits, .inl (c_t_writer_decimal_digits, n_t_writer_decimal_digits, .inl e_t_writer_decimal_digits_9)), (a_t_numbers, .inl (c_t_numbers, n_t_numbers, .inr (.inl e_t_numbers))), (a_t_texts, .inr (5, [.ref a_t_texts_characters, .int s_t_texts_length_10])), (a_t_texts_characters, .inl (c_t_texts_characters, n_t_texts_characters, .inl e_t_texts_characters_11)), (a_t_ends, .inl (c_t_ends, n_t_ends, .inl e_t_ends_12))] → va_S A s.heap H locs → lv_has ls 4 [(0, .ref a_t), (1, .int x1), (2, .int x2), (3, .int x3_3)] → W p l e rm_Table_writeToPlaces s m args below meth c H locs 0 0 Q (F0 m 9 ls []) := by
    intro n_
    induction n_ with
    | zero => intro x3_3 s_t_writer_fixed_end_4 s_t_writer_fixed_first_5 e_t_writer_fixed_limbs_6 s_t_writer_decimal_count_7 s_t_writer_decimal_point_8 e_t_writer_decimal_digits_9 s_t_texts_length_10 e_t_texts_characters_11 e_t_ends_12 H locs ls h; cases h
    | succ n_ ih =>
      intro x3_3 s_t_writer_fixed_end_4 s_t_writer_fixed_first_5 e_t_writer_fixed_limbs_6 s_t_writer_decimal_count_7 s_t_writer_decimal_point_8 e_t_writer_decimal_digits_9 s_t_texts_length_10 e_t_texts_characters_11 e_t_ends_12 H locs ls h hP hD hS hl
      rw [lp_Table_writeToPlaces_9] at h
      refine lv_iload_n hx hb d_Table_writeToPlaces_9 rfl (lv_at hl 3 rfl) ?_
      refine lv_aload_n hx hb d_Table_writeToPlaces_10 rfl (lv_at hl 0 rfl) ?_
      refine va_get (D := (dC, dI)) (ci := 4) (v := .int s_t_rows) (C := R_Table) (T := T_Table) (N := 8) hx hb hts in_Table hown hK hP 0 rfl rfl 2 (by decide) (hts _ g_146) (fun _ h9 => h9) rfl d_Table_writeToPlaces_11 ?_
      refine lv_icmp_ge (tgt := 63) hx hb d_Table_writeToPlaces_14 (by decide) (fun c_25 => ?_) (fun c_25 => ?_)
      · rw [if_pos c_25] at h
        replace h := Option.some.inj h
        replace h := Prod.mk.inj h
        obtain ⟨h1, h⟩ := h
        subst h1
        replace h := Prod.mk.inj h
        obtain ⟨h1, h⟩ := h
        subst h1
        replace h := Prod.mk.inj h
        obtain ⟨h1, h⟩ := h
        subst h1
        replace h := Prod.mk.inj h
        obtain ⟨h1, h⟩ := h
        subst h1
        replace h := Prod.mk.inj h
        obtain ⟨h1, h⟩ := h
        subst h1
        replace h := Prod.mk.inj h
        obtain ⟨h1, h⟩ := h
        subst h1
        replace h := Prod.mk.inj h
        obtain ⟨h1, h⟩ := h
        subst h1
        replace h := Prod.mk.inj h
        obtain ⟨h1, h⟩ := h
        subst h1
        subst h
        exact hX_23 _ _ _ hP hD hS (lv_sub hl [] rfl)
      · rw [if_neg c_25] at h
        refine lv_iload_n hx hb d_Table_writeToPlaces_17 rfl (lv_at hl 3 rfl) ?_
        refine lv_aload_n hx hb d_Table_writeToPlaces_18 rfl (lv_at hl 0 rfl) ?_
        refine va_get (D := (dC, dI)) (ci := 4) (v := .ref a_t_ends) (C := R_Table) (T := T_Table) (N := 8) hx hb hts in_Table hown hK hP 0 rfl rfl 5 (by decide) (hts _ g_149) (fun _ h9 => h9) rfl d_Table_writeToPlaces_19 ?_
        refine va_alen (v := nI n_t_ends) hx hb hK hP 9 4 rfl rfl rfl d_Table_writeToPlaces_22 ?_
        refine lv_icmp_ge (tgt := 63) hx hb d_Table_writeToPlaces_23 (by decide) (fun c_26 => ?_) (fun c_26 => ?_)
        · rw [if_pos c_26] at h
          replace h := Option.some.inj h
          replace h := Prod.mk.inj h
          obtain ⟨h1, h⟩ := h
          subst h1
          replace h := Prod.mk.inj h
          obtain ⟨h1, h⟩ := h
          subst h1
          replace h := Prod.mk.inj h
          obtain ⟨h1, h⟩ := h
          subst h1
          replace h := Prod.mk.inj h
          obtain ⟨h1, h⟩ := h
          subst h1
          replace h := Prod.mk.inj h
          obtain ⟨h1, h⟩ := h
          subst h1
          replace h := Prod.mk.inj h
          obtain ⟨h1, h⟩ := h
          subst h1
          replace h := Prod.mk.inj h
          obtain ⟨h1, h⟩ := h
          subst h1
          replace h := Prod.mk.inj h
          obtain ⟨h1, h⟩ := h
          subst h1
          subst h
          exact hX_23 _ _ _ hP hD hS (lv_sub hl [] rfl)
        · rw [if_neg c_26] at h
          refine lv_aload_n hx hb d_Table_writeToPlaces_26 rfl (lv_at hl 0 rfl) ?_
          refine va_get (D := (dC, dI)) (ci := 4) (v := .ref a_t_writer) (C := R_Table) (T := T_Table) (N := 8) hx hb hts in_Table hown hK hP 0 rfl rfl 0 (by decide) (hts _ g_144) (fun _ h9 => h9) rfl d_Table_writeToPlaces_27 ?_
          refine lv_aload_n hx hb d_Table_writeToPlaces_30 rfl (lv_at hl 0 rfl) ?_
          refine va_get (D := (dC, dI)) (ci := 4) (v := .ref a_t_texts) (C := R_Table) (T := T_Table) (N := 8) hx hb hts in_Table hown hK hP 0 rfl rfl 4 (by decide) (hts _ g_148) (fun _ h9 => h9) rfl d_Table_writeToPlaces_31 ?_
          refine lv_aload_n hx hb d_Table_writeToPlaces_34 rfl (lv_at hl 0 rfl) ?_
          refine lv_iload_n hx hb d_Table_writeToPlaces_35 rfl (lv_at hl 3 rfl) ?_
          refine lv_iload_n hx hb d_Table_writeToPlaces_36 rfl (lv_at hl 1 rfl) ?_
          replace h := xob_s h
          obtain ⟨r_27, hc_28, h⟩ := h
          try dsimp only at h
          refine xcV (As := [.int x3_3, .int x1]) (rest := [.ref a_t_texts, .ref a_t_writer]) (st1 := [.long r_27, .ref a_t_texts, .ref a_t_writer]) (wr := [(a_t_writer, .inr (6, [.ref a_t_writer_fixed, .ref a_t_writer_decimal, .ref a_t_writer_low, .ref a_t_writer_high])), (a_t_writer_fixed, .inr (1, [.ref a_t_writer_fixed_limbs, .int s_t_writer_fixed_first_5, .int s_t_writer_fixed_end_4])), (a_t_writer_fixed_limbs, .inl (c_t_writer_fixed_limbs, n_t_writer_fixed_limbs, .inl e_t_writer_fixed_limbs_6)), (a_t_writer_decimal, .inr (0, [.ref a_t_writer_decimal_digits, .int s_t_writer_decimal_count_7, .int s_t_writer_decimal_point_8])), (a_t_writer_decimal_digits, .inl (c_t_writer_decimal_digits, n_t_writer_decimal_digits, .inl e_t_writer_decimal_digits_9)), (a_t_texts, .inr (5, [.ref a_t_texts_characters, .int s_t_texts_length_10])), (a_t_texts_characters, .inl (c_t_texts_characters, n_t_texts_characters, .inl e_t_texts_characters_11)), (a_t_ends, .inl (c_t_ends, n_t_ends, .inl e_t_ends_12))]) ⟨hx, hb, hml, hown, hts⟩ (c_Table_number l dC dI a_t a_t_writer a_t_numbers a_t_texts a_t_ends a_t_lines c_t_numbers n_t_numbers s_t_rows s_t_columns s_t_lineLength e_t_numbers x3_3 x1 r_27 hc_28) (cwV 2 hts (xgoodV g_666 g_668 gp_17 g_9 g_669) rfl rfl rfl (by decide +kernel) ⟨Nat.le_of_ble_eq_true rfl, Nat.le_of_ble_eq_true rfl⟩) hNz (ci := 4) (q0 := 0) rfl rfl hA hP hD hS hK [0, 6] [1, 2, 3, 4, 5, 7, 8, 9] [2] rfl rfl rfl rfl (by decide) rfl rfl rfl rfl hl.1 (Nat.le_of_ble_eq_true rfl) ⟨Nat.zero_le _, Nat.zero_le _⟩ d_Table_writeToPlaces_37 (fun H locs hP hD hS => ?_)
          have hP : va_P (dC, dI) x_cl [(a_t_writer, .inr (6, [.ref a_t_writer_fixed, .ref a_t_writer_decimal, .ref a_t_writer_low, .ref a_t_writer_high])), (a_t_writer_fixed, .inr (1, [.ref a_t_writer_fixed_limbs, .int s_t_writer_fixed_first_5, .int s_t_writer_fixed_end_4])), (a_t_writer_fixed_limbs, .inl (c_t_writer_fixed_limbs, n_t_writer_fixed_limbs, .inl e_t_writer_fixed_limbs_6)), (a_t_writer_decimal, .inr (0, [.ref a_t_writer_decimal_digits, .int s_t_writer_decimal_count_7, .int s_t_writer_decimal_point_8])), (a_t_writer_decimal_digits, .inl (c_t_writer_decimal_digits, n_t_writer_decimal_digits, .inl e_t_writer_decimal_digits_9)), (a_t_texts, .inr (5, [.ref a_t_texts_characters, .int s_t_texts_length_10])), (a_t_texts_characters, .inl (c_t_texts_characters, n_t_texts_characters, .inl e_t_texts_characters_11)), (a_t_ends, .inl (c_t_ends, n_t_ends, .inl e_t_ends_12)), (a_t, .inr (4, [.ref a_t_writer, .ref a_t_numbers, .int s_t_rows, .int s_t_columns, .ref a_t_texts, .ref a_t_ends, .ref a_t_lines, .int s_t_lineLength])), (a_t_numbers, .inl (c_t_numbers, n_t_numbers, .inr (.inl e_t_numbers)))] H := hP
          have hD : va_D A [(a_t_writer, .inr (6, [.ref a_t_writer_fixed, .ref a_t_writer_decimal, .ref a_t_writer_low, .ref a_t_writer_high])), (a_t_writer_fixed, .inr (1, [.ref a_t_writer_fixed_limbs, .int s_t_writer_fixed_first_5, .int s_t_writer_fixed_end_4])), (a_t_writer_fixed_limbs, .inl (c_t_writer_fixed_limbs, n_t_writer_fixed_limbs, .inl e_t_writer_fixed_limbs_6)), (a_t_writer_decimal, .inr (0, [.ref a_t_writer_decimal_digits, .int s_t_writer_decimal_count_7, .int s_t_writer_decimal_point_8])), (a_t_writer_decimal_digits, .inl (c_t_writer_decimal_digits, n_t_writer_decimal_digits, .inl e_t_writer_decimal_digits_9)), (a_t_texts, .inr (5, [.ref a_t_texts_characters, .int s_t_texts_length_10])), (a_t_texts_characters, .inl (c_t_texts_characters, n_t_texts_characters, .inl e_t_texts_characters_11)), (a_t_ends, .inl (c_t_ends, n_t_ends, .inl e_t_ends_12)), (a_t, .inr (4, [.ref a_t_writer, .ref a_t_numbers, .int s_t_rows, .int s_t_columns, .ref a_t_texts, .ref a_t_ends, .ref a_t_lines, .int s_t_lineLength])), (a_t_numbers, .inl (c_t_numbers, n_t_numbers, .inr (.inl e_t_numbers)))] := hD
          refine lv_iload_n hx hb d_Table_writeToPlaces_40 rfl (lv_at hl 2 rfl) ?_
          replace h := xob_s h
          obtain ⟨⟨s_t_writer_fixed_end_29, s_t_writer_fixed_first_30, e_t_writer_fixed_limbs_31, s_t_writer_decimal_count_32, s_t_writer_decimal_point_33, e_t_writer_decimal_digits_34, s_t_texts_length_35, e_t_texts_characters_36⟩, hc_37, h⟩ := h
          try dsimp only at h
          refine xcV (As := [.ref a_t_texts, .long r_27, .int x2]) (rest := []) (st1 := []) (wr := [(a_t_ends, .inl (c_t_ends, n_t_ends, .inl e_t_ends_12)), (a_t, .inr (4, [.ref a_t_writer, .ref a_t_numbers, .int s_t_rows, .int s_t_columns, .ref a_t_texts, .ref a_t_ends, .ref a_t_lines, .int s_t_lineLength])), (a_t_numbers, .inl (c_t_numbers, n_t_numbers, .inr (.inl e_t_numbers)))]) ⟨hx, hb, hml, hown, hts⟩ (c_Writer_addToPlaces l dC dI a_t_writer a_t_texts a_t_writer_fixed a_t_writer_decimal a_t_writer_low a_t_writer_high a_t_writer_fixed_limbs a_t_writer_decimal_digits a_t_texts_characters c_t_writer_fixed_limbs c_t_writer_decimal_digits c_t_texts_characters n_t_writer_fixed_limbs n_t_writer_decimal_digits n_t_texts_characters s_t_writer_fixed_first_5 s_t_writer_fixed_end_4 e_t_writer_fixed_limbs_6 s_t_writer_decimal_count_7 s_t_writer_decimal_point_8 e_t_writer_decimal_digits_9 s_t_texts_length_10 e_t_texts_characters_11 r_27 x2 s_t_writer_fixed_end_29 s_t_writer_fixed_first_30 e_t_writer_fixed_limbs_31 s_t_writer_decimal_count_32 s_t_writer_decimal_point_33 e_t_writer_decimal_digits_34 s_t_texts_length_35 e_t_texts_characters_36 hc_37) (cwV 3 hts (xgoodV g_686 g_603 g_604 g_8 g_605) rfl rfl rfl (by decide +kernel) ⟨Nat.le_of_ble_eq_true rfl, Nat.le_of_ble_eq_true rfl⟩) hNz (ci := 6) (q0 := 0) rfl rfl hA hP hD hS hK [0, 1, 2, 3, 4, 5, 6] [7, 8, 9] [0, 1, 3] rfl rfl rfl rfl (by decide) rfl rfl rfl rfl hl.1 (Nat.le_of_ble_eq_true rfl) ⟨Nat.zero_le _, Nat.zero_le _⟩ d_Table_writeToPlaces_41 (fun H locs hP hD hS => ?_)
          have hP : va_P (dC, dI) x_cl [(a_t_ends, .inl (c_t_ends, n_t_ends, .inl e_t_ends_12)), (a_t, .inr (4, [.ref a_t_writer, .ref a_t_numbers, .int s_t_rows, .int s_t_columns, .ref a_t_texts, .ref a_t_ends, .ref a_t_lines, .int s_t_lineLength])), (a_t_numbers, .inl (c_t_numbers, n_t_numbers, .inr (.inl e_t_numbers))), (a_t_writer, .inr (6, [.ref a_t_writer_fixed, .ref a_t_writer_decimal, .ref a_t_writer_low, .ref a_t_writer_high])), (a_t_writer_fixed, .inr (1, [.ref a_t_writer_fixed_limbs, .int s_t_writer_fixed_first_30, .int s_t_writer_fixed_end_29])), (a_t_writer_fixed_limbs, .inl (c_t_writer_fixed_limbs, n_t_writer_fixed_limbs, .inl e_t_writer_fixed_limbs_31)), (a_t_writer_decimal, .inr (0, [.ref a_t_writer_decimal_digits, .int s_t_writer_decimal_count_32, .int s_t_writer_decimal_point_33])), (a_t_writer_decimal_digits, .inl (c_t_writer_decimal_digits, n_t_writer_decimal_digits, .inl e_t_writer_decimal_digits_34)), (a_t_texts, .inr (5, [.ref a_t_texts_characters, .int s_t_texts_length_35])), (a_t_texts_characters, .inl (c_t_texts_characters, n_t_texts_characters, .inl e_t_texts_characters_36))] H := hP
          have hD : va_D A [(a_t_ends, .inl (c_t_ends, n_t_ends, .inl e_t_ends_12)), (a_t, .inr (4, [.ref a_t_writer, .ref a_t_numbers, .int s_t_rows, .int s_t_columns, .ref a_t_texts, .ref a_t_ends, .ref a_t_lines, .int s_t_lineLength])), (a_t_numbers, .inl (c_t_numbers, n_t_numbers, .inr (.inl e_t_numbers))), (a_t_writer, .inr (6, [.ref a_t_writer_fixed, .ref a_t_writer_decimal, .ref a_t_writer_low, .ref a_t_writer_high])), (a_t_writer_fixed, .inr (1, [.ref a_t_writer_fixed_limbs, .int s_t_writer_fixed_first_30, .int s_t_writer_fixed_end_29])), (a_t_writer_fixed_limbs, .inl (c_t_writer_fixed_limbs, n_t_writer_fixed_limbs, .inl e_t_writer_fixed_limbs_31)), (a_t_writer_decimal, .inr (0, [.ref a_t_writer_decimal_digits, .int s_t_writer_decimal_count_32, .int s_t_writer_decimal_point_33])), (a_t_writer_decimal_digits, .inl (c_t_writer_decimal_digits, n_t_writer_decimal_digits, .inl e_t_writer_decimal_digits_34)), (a_t_texts, .inr (5, [.ref a_t_texts_characters, .int s_t_texts_length_35])), (a_t_texts_characters, .inl (c_t_texts_characters, n_t_texts_characters, .inl e_t_texts_characters_36))] := hD
          refine lv_aload_n hx hb d_Table_writeToPlaces_44 rfl (lv_at hl 0 rfl) ?_
          refine va_get (D := (dC, dI)) (ci := 4) (v := .ref a_t_ends) (C := R_Table) (T := T_Table) (N := 8) hx hb hts in_Table hown hK hP 1 rfl rfl 5 (by decide) (hts _ g_149) (fun _ h9 => h9) rfl d_Table_writeToPlaces_45 ?_
          refine lv_iload_n hx hb d_Table_writeToPlaces_48 rfl (lv_at hl 3 rfl) ?_
          refine lv_aload_n hx hb d_Table_writeToPlaces_49 rfl (lv_at hl 0 rfl) ?_
          refine va_get (D := (dC, dI)) (ci := 4) (v := .ref a_t_texts) (C := R_Table) (T := T_Table) (N := 8) hx hb hts in_Table hown hK hP 1 rfl rfl 4 (by decide) (hts _ g_148) (fun _ h9 => h9) rfl d_Table_writeToPlaces_50 ?_
          replace h := xob_s h
          obtain ⟨r_38, hc_39, h⟩ := h
          try dsimp only at h
          refine xcV (As := []) (rest := [.int x3_3, .ref a_t_ends]) (st1 := [.int r_38, .int x3_3, .ref a_t_ends]) (wr := [(a_t_ends, .inl (c_t_ends, n_t_ends, .inl e_t_ends_12)), (a_t, .inr (4, [.ref a_t_writer, .ref a_t_numbers, .int s_t_rows, .int s_t_columns, .ref a_t_texts, .ref a_t_ends, .ref a_t_lines, .int s_t_lineLength])), (a_t_numbers, .inl (c_t_numbers, n_t_numbers, .inr (.inl e_t_numbers))), (a_t_writer, .inr (6, [.ref a_t_writer_fixed, .ref a_t_writer_decimal, .ref a_t_writer_low, .ref a_t_writer_high])), (a_t_writer_fixed, .inr (1, [.ref a_t_writer_fixed_limbs, .int s_t_writer_fixed_first_30, .int s_t_writer_fixed_end_29])), (a_t_writer_fixed_limbs, .inl (c_t_writer_fixed_limbs, n_t_writer_fixed_limbs, .inl e_t_writer_fixed_limbs_31)), (a_t_writer_decimal, .inr (0, [.ref a_t_writer_decimal_digits, .int s_t_writer_decimal_count_32, .int s_t_writer_decimal_point_33])), (a_t_writer_decimal_digits, .inl (c_t_writer_decimal_digits, n_t_writer_decimal_digits, .inl e_t_writer_decimal_digits_34)), (a_t_texts_characters, .inl (c_t_texts_characters, n_t_texts_characters, .inl e_t_texts_characters_36))]) ⟨hx, hb, hml, hown, hts⟩ (c_Text_length l dC dI a_t_texts a_t_texts_characters s_t_texts_length_35 r_38 hc_39) (cwV 0 hts (xgoodV g_674 g_191 g_192 g_2 g_193) rfl rfl rfl (by decide +kernel) ⟨Nat.le_of_ble_eq_true rfl, Nat.le_of_ble_eq_true rfl⟩) hNz (ci := 5) (q0 := 8) rfl rfl hA hP hD hS hK [8] [0, 1, 2, 3, 4, 5, 6, 7, 9] [] rfl rfl rfl rfl (by decide) rfl rfl rfl rfl hl.1 (Nat.le_of_ble_eq_true rfl) ⟨Nat.zero_le _, Nat.zero_le _⟩ d_Table_writeToPlaces_53 (fun H locs hP hD hS => ?_)
          have hP : va_P (dC, dI) x_cl [(a_t_ends, .inl (c_t_ends, n_t_ends, .inl e_t_ends_12)), (a_t, .inr (4, [.ref a_t_writer, .ref a_t_numbers, .int s_t_rows, .int s_t_columns, .ref a_t_texts, .ref a_t_ends, .ref a_t_lines, .int s_t_lineLength])), (a_t_numbers, .inl (c_t_numbers, n_t_numbers, .inr (.inl e_t_numbers))), (a_t_writer, .inr (6, [.ref a_t_writer_fixed, .ref a_t_writer_decimal, .ref a_t_writer_low, .ref a_t_writer_high])), (a_t_writer_fixed, .inr (1, [.ref a_t_writer_fixed_limbs, .int s_t_writer_fixed_first_30, .int s_t_writer_fixed_end_29])), (a_t_writer_fixed_limbs, .inl (c_t_writer_fixed_limbs, n_t_writer_fixed_limbs, .inl e_t_writer_fixed_limbs_31)), (a_t_writer_decimal, .inr (0, [.ref a_t_writer_decimal_digits, .int s_t_writer_decimal_count_32, .int s_t_writer_decimal_point_33])), (a_t_writer_decimal_digits, .inl (c_t_writer_decimal_digits, n_t_writer_decimal_digits, .inl e_t_writer_decimal_digits_34)), (a_t_texts_characters, .inl (c_t_texts_characters, n_t_texts_characters, .inl e_t_texts_characters_36)), (a_t_texts, .inr (5, [.ref a_t_texts_characters, .int s_t_texts_length_35]))] H := hP
          have hD : va_D A [(a_t_ends, .inl (c_t_ends, n_t_ends, .inl e_t_ends_12)), (a_t, .inr (4, [.ref a_t_writer, .ref a_t_numbers, .int s_t_rows, .int s_t_columns, .ref a_t_texts, .ref a_t_ends, .ref a_t_lines, .int s_t_lineLength])), (a_t_numbers, .inl (c_t_numbers, n_t_numbers, .inr (.inl e_t_numbers))), (a_t_writer, .inr (6, [.ref a_t_writer_fixed, .ref a_t_writer_decimal, .ref a_t_writer_low, .ref a_t_writer_high])), (a_t_writer_fixed, .inr (1, [.ref a_t_writer_fixed_limbs, .int s_t_writer_fixed_first_30, .int s_t_writer_fixed_end_29])), (a_t_writer_fixed_limbs, .inl (c_t_writer_fixed_limbs, n_t_writer_fixed_limbs, .inl e_t_writer_fixed_limbs_31)), (a_t_writer_decimal, .inr (0, [.ref a_t_writer_decimal_digits, .int s_t_writer_decimal_count_32, .int s_t_writer_decimal_point_33])), (a_t_writer_decimal_digits, .inl (c_t_writer_decimal_digits, n_t_writer_decimal_digits, .inl e_t_writer_decimal_digits_34)), (a_t_texts_characters, .inl (c_t_texts_characters, n_t_texts_characters, .inl e_t_texts_characters_36)), (a_t_texts, .inr (5, [.ref a_t_texts_characters, .int s_t_texts_length_35]))] := hD
          replace h := xg h
          obtain ⟨hg_40, h⟩ := h
          refine va_iast hx hb hK hP hD hS 0 4 rfl rfl hg_40 d_Table_writeToPlaces_56 (fun H locs hP hD hS => ?_)
          have hP : va_P (dC, dI) x_cl [(a_t_ends, .inl (c_t_ends, n_t_ends, .inl ((upd e_t_ends_12 x3_3.toNatClampNeg r_38)))), (a_t, .inr (4, [.ref a_t_writer, .ref a_t_numbers, .int s_t_rows, .int s_t_columns, .ref a_t_texts, .ref a_t_ends, .ref a_t_lines, .int s_t_lineLength])), (a_t_numbers, .inl (c_t_numbers, n_t_numbers, .inr (.inl e_t_numbers))), (a_t_writer, .inr (6, [.ref a_t_writer_fixed, .ref a_t_writer_decimal, .ref a_t_writer_low, .ref a_t_writer_high])), (a_t_writer_fixed, .inr (1, [.ref a_t_writer_fixed_limbs, .int s_t_writer_fixed_first_30, .int s_t_writer_fixed_end_29])), (a_t_writer_fixed_limbs, .inl (c_t_writer_fixed_limbs, n_t_writer_fixed_limbs, .inl e_t_writer_fixed_limbs_31)), (a_t_writer_decimal, .inr (0, [.ref a_t_writer_decimal_digits, .int s_t_writer_decimal_count_32, .int s_t_writer_decimal_point_33])), (a_t_writer_decimal_digits, .inl (c_t_writer_decimal_digits, n_t_writer_decimal_digits, .inl e_t_writer_decimal_digits_34)), (a_t_texts_characters, .inl (c_t_texts_characters, n_t_texts_characters, .inl e_t_texts_characters_36)), (a_t_texts, .inr (5, [.ref a_t_texts_characters, .int s_t_texts_length_35]))] H := hP
          have hD : va_D A [(a_t_ends, .inl (c_t_ends, n_t_ends, .inl ((upd e_t_ends_12 x3_3.toNatClampNeg r_38)))), (a_t, .inr (4, [.ref a_t_writer, .ref a_t_numbers, .int s_t_rows, .int s_t_columns, .ref a_t_texts, .ref a_t_ends, .ref a_t_lines, .int s_t_lineLength])), (a_t_numbers, .inl (c_t_numbers, n_t_numbers, .inr (.inl e_t_numbers))), (a_t_writer, .inr (6, [.ref a_t_writer_fixed, .ref a_t_writer_decimal, .ref a_t_writer_low, .ref a_t_writer_high])), (a_t_writer_fixed, .inr (1, [.ref a_t_writer_fixed_limbs, .int s_t_writer_fixed_first_30, .int s_t_writer_fixed_end_29])), (a_t_writer_fixed_limbs, .inl (c_t_writer_fixed_limbs, n_t_writer_fixed_limbs, .inl e_t_writer_fixed_limbs_31)), (a_t_writer_decimal, .inr (0, [.ref a_t_writer_decimal_digits, .int s_t_writer_decimal_count_32, .int s_t_writer_decimal_point_33])), (a_t_writer_decimal_digits, .inl (c_t_writer_decimal_digits, n_t_writer_decimal_digits, .inl e_t_writer_decimal_digits_34)), (a_t_texts_characters, .inl (c_t_texts_characters, n_t_texts_characters, .inl e_t_texts_characters_36)), (a_t_texts, .inr (5, [.ref a_t_texts_characters, .int s_t_texts_length_35]))] := hD
          replace h := xnm_s h
          obtain ⟨x3_41, ex3_41, h⟩ := h
          refine lv_iinc (v := x3_41) (lv' := [(3, .int x3_41), (0, .ref a_t), (1, .int x1), (2, .int x2)]) hx hb d_Table_writeToPlaces_57 hl (k := 3) rfl (by rw [← ex3_41]; rfl) (by decide) rfl (fun ls hl => ?_)
          refine lv_goto (tgt := 9) hx hb d_Table_writeToPlaces_60 (by decide) ?_
          exact ih _ _ _ _ _ _ _ _ _ _ _ _ _ h (hP.sub [1, 3, 4, 5, 6, 7, 2, 9, 8, 0] rfl) (hD.sub [1, 3, 4, 5, 6, 7, 2, 9, 8, 0] (by decide) rfl) hS (lv_sub hl [1, 2, 3, 0] rfl)
  exact hL_24 xF _ _ _ _ _ _ _ _ _ _ _ _ _ hlp_22 (hP.sub [0, 1, 2, 3, 4, 5, 6, 9, 7, 8] rfl) (hD.sub [0, 1, 2, 3, 4, 5, 6, 9, 7, 8] (by decide) rfl) hS (lv_sub hl [1, 2, 3, 0] rfl)
def f_Table_endOf (n_t_ends : Nat) (s_t_rows : Int32) (s_t_columns : Int32) (s_t_lineLength : Int32) (e_t_ends : Nat → Int32) (x1 : Int32) : Option (Int32) :=
  if x1 < 0 then (some (0 : Int32)) else (if (nI n_t_ends) ≤ x1 then (some (0 : Int32)) else (if (x1 < 0 ∨ n_t_ends ≤ x1.toNatClampNeg) then none else some (e_t_ends x1.toNatClampNeg)))
def rm_Table_endOf : Room := { frames := 0, cells := 0, slots := 0, locals := 0 }
set_option maxHeartbeats 4000000 in
set_option maxRecDepth 100000 in
theorem c_Table_endOf (l : Launch) (dC : Nat → ClassId) (dI : Nat → Nat → Nat) (a_t a_t_writer a_t_numbers a_t_texts a_t_ends a_t_lines : Nat) (c_t_ends : ClassId) (n_t_ends : Nat) (s_t_rows : Int32) (s_t_columns : Int32) (s_t_lineLength : Int32) (e_t_ends : Nat → Int32) (x1 : Int32) (r_ : Int32) (h : f_Table_endOf n_t_ends s_t_rows s_t_columns s_t_lineLength e_t_ends x1 = some r_) : xM l y_Table_endOf (Cond.code y_Table_endOf b_Table_endOf 2 (some .int) :: xG) rm_Table_endOf (dC, dI) x_cl x_nz [.ref a_t, .int x1] [(c_t_ends, .int)] [(a_t, .inr (4, [.ref a_t_writer, .ref a_t_numbers, .int s_t_rows, .int s_t_columns, .ref a_t_texts, .ref a_t_ends, .ref a_t_lines, .int s_t_lineLength])), (a_t_ends, .inl (c_t_ends, n_t_ends, .inl e_t_ends))] (some (.int r_)) [(a_t, .inr (4, [.ref a_t_writer, .ref a_t_numbers, .int s_t_rows, .int s_t_columns, .ref a_t_texts, .ref a_t_ends, .ref a_t_lines, .int s_t_lineLength])), (a_t_ends, .inl (c_t_ends, n_t_ends, .inl e_t_ends))] := by
  unfold f_Table_endOf at h
  refine xM.mkI (cc := b_Table_endOf) (maxL := 2)  (by decide +kernel) rfl (Nat.le_of_ble_eq_true rfl) ?_
  intro p e s m args below meth c A Q ls hx hb hml hown hts hNz hA hP hD hK hl hret
  have hS : va_S A s.heap s.heap [] := va_S.rf
  have hl : lv_has ls 2 [(0, .ref a_t), (1, .int x1)] := hl
  refine lv_iload_n hx hb d_Table_endOf_0 rfl (lv_at hl 1 rfl) ?_
  refine lv_if_lt (tgt := 22) hx hb d_Table_endOf_1 (by decide) (fun c_1 => ?_) (fun c_1 => ?_)
  · rw [if_pos c_1] at h
    refine lv_iconst (v := 0) hx hb d_Table_endOf_22 (by decide) ?_
    replace h := Option.some.inj h
    subst h
    exact hret _ _ hP hD hS _ _ d_Table_endOf_23
  · rw [if_neg c_1] at h
    refine lv_iload_n hx hb d_Table_endOf_4 rfl (lv_at hl 1 rfl) ?_
    refine lv_aload_n hx hb d_Table_endOf_5 rfl (lv_at hl 0 rfl) ?_
    refine va_get (D := (dC, dI)) (ci := 4) (v := .ref a_t_ends) (C := R_Table) (T := T_Table) (N := 8) hx hb hts in_Table hown hK hP 0 rfl rfl 5 (by decide) (hts _ g_149) (fun _ h9 => h9) rfl d_Table_endOf_6 ?_
    refine va_alen (v := nI n_t_ends) hx hb hK hP 1 0 rfl rfl rfl d_Table_endOf_9 ?_
    refine lv_icmp_ge (tgt := 22) hx hb d_Table_endOf_10 (by decide) (fun c_2 => ?_) (fun c_2 => ?_)
    · rw [if_pos c_2] at h
      refine lv_iconst (v := 0) hx hb d_Table_endOf_22 (by decide) ?_
      replace h := Option.some.inj h
      subst h
      exact hret _ _ hP hD hS _ _ d_Table_endOf_23
    · rw [if_neg c_2] at h
      refine lv_aload_n hx hb d_Table_endOf_13 rfl (lv_at hl 0 rfl) ?_
      refine va_get (D := (dC, dI)) (ci := 4) (v := .ref a_t_ends) (C := R_Table) (T := T_Table) (N := 8) hx hb hts in_Table hown hK hP 0 rfl rfl 5 (by decide) (hts _ g_149) (fun _ h9 => h9) rfl d_Table_endOf_14 ?_
      refine lv_iload_n hx hb d_Table_endOf_17 rfl (lv_at hl 1 rfl) ?_
      replace h := xg h
      obtain ⟨hg_3, h⟩ := h
      refine va_iald hx hb hK hP 1 0 rfl rfl hg_3 d_Table_endOf_18 ?_
      refine lv_goto (tgt := 23) hx hb d_Table_endOf_19 (by decide) ?_
      replace h := Option.some.inj h
      subst h
      exact hret _ _ hP hD hS _ _ d_Table_endOf_23
def f_Table_putLineCharacter (n_t_lines : Nat) (s_t_rows : Int32) (s_t_columns : Int32) (s_t_lineLength : Int32) (e_t_lines : Nat → Int32) (x1 : Int32) (x2 : Int32) (x3 : Int32) : Option ((Nat → Int32)) :=
  xnm ((x1 * (320 : Int32)) + x2) fun x4_1 => if x4_1 < 0 then (some e_t_lines) else (if (nI n_t_lines) ≤ x4_1 then (some e_t_lines) else (if (x4_1 < 0 ∨ n_t_lines ≤ x4_1.toNatClampNeg) then none else some (upd e_t_lines x4_1.toNatClampNeg (vp_nar .byte (x3.toInt8.toInt32)))))
def rm_Table_putLineCharacter : Room := { frames := 0, cells := 0, slots := 0, locals := 0 }
set_option maxHeartbeats 4000000 in
set_option maxRecDepth 100000 in
theorem c_Table_putLineCharacter (l : Launch) (dC : Nat → ClassId) (dI : Nat → Nat → Nat) (a_t a_t_writer a_t_numbers a_t_texts a_t_ends a_t_lines : Nat) (c_t_lines : ClassId) (n_t_lines : Nat) (s_t_rows : Int32) (s_t_columns : Int32) (s_t_lineLength : Int32) (e_t_lines : Nat → Int32) (x1 : Int32) (x2 : Int32) (x3 : Int32) (e_t_lines_o : Nat → Int32) (h : f_Table_putLineCharacter n_t_lines s_t_rows s_t_columns s_t_lineLength e_t_lines x1 x2 x3 = some e_t_lines_o) : xM l y_Table_putLineCharacter (Cond.code y_Table_putLineCharacter b_Table_putLineCharacter 5 none :: xG) rm_Table_putLineCharacter (dC, dI) x_cl x_nz [.ref a_t, .int x1, .int x2, .int x3] [(c_t_lines, .byte)] [(a_t, .inr (4, [.ref a_t_writer, .ref a_t_numbers, .int s_t_rows, .int s_t_columns, .ref a_t_texts, .ref a_t_ends, .ref a_t_lines, .int s_t_lineLength])), (a_t_lines, .inl (c_t_lines, n_t_lines, .inl e_t_lines))] none [(a_t, .inr (4, [.ref a_t_writer, .ref a_t_numbers, .int s_t_rows, .int s_t_columns, .ref a_t_texts, .ref a_t_ends, .ref a_t_lines, .int s_t_lineLength])), (a_t_lines, .inl (c_t_lines, n_t_lines, .inl e_t_lines_o))] := by
  unfold f_Table_putLineCharacter at h
  refine xM.mkV (cc := b_Table_putLineCharacter) (maxL := 5)  (by decide +kernel) rfl (Nat.le_of_ble_eq_true rfl) ?_
  intro p e s m args below meth c A Q ls hx hb hml hown hts hNz hA hP hD hK hl hret
  have hS : va_S A s.heap s.heap [] := va_S.rf
  have hl : lv_has ls 5 [(0, .ref a_t), (1, .int x1), (2, .int x2), (3, .int x3)] := hl
  refine lv_iload_n hx hb d_Table_putLineCharacter_0 rfl (lv_at hl 1 rfl) ?_
  refine lv_sipush (v := 320) hx hb d_Table_putLineCharacter_1 (by decide) ?_
  refine lv_imul hx hb d_Table_putLineCharacter_4 ?_
  refine lv_iload_n hx hb d_Table_putLineCharacter_5 rfl (lv_at hl 2 rfl) ?_
  refine lv_iadd hx hb d_Table_putLineCharacter_6 ?_
  replace h := xnm_s h
  obtain ⟨x4_1, ex4_1, h⟩ := h
  refine x_topi ex4_1 ?_
  refine lv_istore (lv' := [(4, .int x4_1), (0, .ref a_t), (1, .int x1), (2, .int x2), (3, .int x3)]) hx hb d_Table_putLineCharacter_7 hl (by decide) rfl (fun ls hl => ?_)
  refine lv_iload hx hb d_Table_putLineCharacter_9 (lv_at hl 0 rfl) ?_
  refine lv_if_lt (tgt := 33) hx hb d_Table_putLineCharacter_11 (by decide) (fun c_2 => ?_) (fun c_2 => ?_)
  · rw [if_pos c_2] at h
    replace h := Option.some.inj h
    subst h
    exact hret _ _ hP hD hS _ _ d_Table_putLineCharacter_33
  · rw [if_neg c_2] at h
    refine lv_iload hx hb d_Table_putLineCharacter_14 (lv_at hl 0 rfl) ?_
    refine lv_aload_n hx hb d_Table_putLineCharacter_16 rfl (lv_at hl 1 rfl) ?_
    refine va_get (D := (dC, dI)) (ci := 4) (v := .ref a_t_lines) (C := R_Table) (T := T_Table) (N := 8) hx hb hts in_Table hown hK hP 0 rfl rfl 6 (by decide) (hts _ g_150) (fun _ h9 => h9) rfl d_Table_putLineCharacter_17 ?_
    refine va_alen (v := nI n_t_lines) hx hb hK hP 1 0 rfl rfl rfl d_Table_putLineCharacter_20 ?_
    refine lv_icmp_ge (tgt := 33) hx hb d_Table_putLineCharacter_21 (by decide) (fun c_3 => ?_) (fun c_3 => ?_)
    · rw [if_pos c_3] at h
      replace h := Option.some.inj h
      subst h
      exact hret _ _ hP hD hS _ _ d_Table_putLineCharacter_33
    · rw [if_neg c_3] at h
      refine lv_aload_n hx hb d_Table_putLineCharacter_24 rfl (lv_at hl 1 rfl) ?_
      refine va_get (D := (dC, dI)) (ci := 4) (v := .ref a_t_lines) (C := R_Table) (T := T_Table) (N := 8) hx hb hts in_Table hown hK hP 0 rfl rfl 6 (by decide) (hts _ g_150) (fun _ h9 => h9) rfl d_Table_putLineCharacter_25 ?_
      refine lv_iload hx hb d_Table_putLineCharacter_28 (lv_at hl 0 rfl) ?_
      refine lv_iload_n hx hb d_Table_putLineCharacter_30 rfl (lv_at hl 4 rfl) ?_
      refine lv_i2b hx hb d_Table_putLineCharacter_31 rfl ?_
      replace h := xg h
      obtain ⟨hg_4, h⟩ := h
      refine va_bast hx hb hK hP hD hS 1 0 rfl rfl hg_4 d_Table_putLineCharacter_32 (fun H locs hP hD hS => ?_)
      have hP : va_P (dC, dI) x_cl [(a_t, .inr (4, [.ref a_t_writer, .ref a_t_numbers, .int s_t_rows, .int s_t_columns, .ref a_t_texts, .ref a_t_ends, .ref a_t_lines, .int s_t_lineLength])), (a_t_lines, .inl (c_t_lines, n_t_lines, .inl ((upd e_t_lines x4_1.toNatClampNeg (vp_nar .byte (x3.toInt8.toInt32))))))] H := hP
      have hD : va_D A [(a_t, .inr (4, [.ref a_t_writer, .ref a_t_numbers, .int s_t_rows, .int s_t_columns, .ref a_t_texts, .ref a_t_ends, .ref a_t_lines, .int s_t_lineLength])), (a_t_lines, .inl (c_t_lines, n_t_lines, .inl ((upd e_t_lines x4_1.toNatClampNeg (vp_nar .byte (x3.toInt8.toInt32))))))] := hD
      replace h := Option.some.inj h
      subst h
      exact hret _ _ hP hD hS _ _ d_Table_putLineCharacter_33
def lp_Table_addColumn_82 (x3_7 : Int32) (x4_8 : Int32) (x5_19 : Int32) (s_t_rows : Int32) (s_t_columns : Int32) (s_t_lineLength : Int32) (s_t_texts_length : Int32) (e_t_texts_characters : Nat → Int32) (e_t_ends : Nat → Int32) (n_t_texts_characters : Nat) (n_t_ends : Nat) (n_t_lines : Nat) : Nat → Int32 → (Nat → Int32) → Option ((Nat → Int32))
  | 0, _, _ => none
  | n_ + 1, x6_20, e_t_lines_21 =>
    if x3_7 ≤ x6_20 then (some e_t_lines_21) else (xob (if x5_19 ≤ x6_20 then (xob (f_Table_endOf n_t_ends s_t_rows s_t_columns s_t_lineLength e_t_ends x4_8) fun r_35 => xob (f_Text_at n_t_texts_characters s_t_texts_length e_t_texts_characters ((r_35 - x3_7) + x6_20)) fun r_37 => some r_37) else (some (32 : Int32))) fun z_28 => xob (f_Table_putLineCharacter n_t_lines s_t_rows s_t_columns s_t_lineLength e_t_lines_21 x4_8 x6_20 z_28) fun e_t_lines_31 => xnm (x6_20 + (1 : Int32)) fun x6_33 => lp_Table_addColumn_82 x3_7 x4_8 x5_19 s_t_rows s_t_columns s_t_lineLength s_t_texts_length e_t_texts_characters e_t_ends n_t_texts_characters n_t_ends n_t_lines n_ x6_33 e_t_lines_31)
def lp_Table_addColumn_48 (x3_7 : Int32) (s_t_rows : Int32) (s_t_columns : Int32) (s_t_lineLength : Int32) (s_t_texts_length : Int32) (e_t_texts_characters : Nat → Int32) (e_t_ends : Nat → Int32) (n_t_texts_characters : Nat) (n_t_ends : Nat) (n_t_lines : Nat) : Nat → Int32 → (Nat → Int32) → Option ((Nat → Int32))
  | 0, _, _ => none
  | n_ + 1, x4_8, e_t_lines_9 =>
    if s_t_rows ≤ x4_8 then (some e_t_lines_9) else (xob (f_Table_endOf n_t_ends s_t_rows s_t_columns s_t_lineLength e_t_ends x4_8) fun r_15 => xob (f_Table_endOf n_t_ends s_t_rows s_t_columns s_t_lineLength e_t_ends (x4_8 - (1 : Int32))) fun r_17 => xnm (x3_7 - (r_15 - r_17)) fun x5_19 => xob (lp_Table_addColumn_82 x3_7 x4_8 x5_19 s_t_rows s_t_columns s_t_lineLength s_t_texts_length e_t_texts_characters e_t_ends n_t_texts_characters n_t_ends n_t_lines xF s_t_lineLength e_t_lines_9) fun e_t_lines_22 => xnm (x4_8 + (1 : Int32)) fun x4_26 => lp_Table_addColumn_48 x3_7 s_t_rows s_t_columns s_t_lineLength s_t_texts_length e_t_texts_characters e_t_ends n_t_texts_characters n_t_ends n_t_lines n_ x4_26 e_t_lines_22)
def lp_Table_addColumn_4 (x1 : Int32) (s_t_rows : Int32) (s_t_columns : Int32) (s_t_lineLength : Int32) (e_t_ends : Nat → Int32) (n_t_ends : Nat) : Nat → Int32 → Int32 → Option (Int32)
  | 0, _, _ => none
  | n_ + 1, x2_1, x3_2 =>
    if s_t_rows ≤ x3_2 then (some x2_1) else (xob (f_Table_endOf n_t_ends s_t_rows s_t_columns s_t_lineLength e_t_ends x3_2) fun r_40 => xob (f_Table_endOf n_t_ends s_t_rows s_t_columns s_t_lineLength e_t_ends (x3_2 - (1 : Int32))) fun r_42 => xnm (if x2_1 < (r_40 - r_42) then (r_40 - r_42) else x2_1) fun x2_44 => xnm (x3_2 + (1 : Int32)) fun x3_45 => lp_Table_addColumn_4 x1 s_t_rows s_t_columns s_t_lineLength e_t_ends n_t_ends n_ x2_44 x3_45)
def f_Table_addColumn (n_t_texts_characters : Nat) (n_t_ends : Nat) (n_t_lines : Nat) (s_t_rows : Int32) (s_t_columns : Int32) (s_t_lineLength : Int32) (s_t_texts_length : Int32) (e_t_texts_characters : Nat → Int32) (e_t_ends : Nat → Int32) (e_t_lines : Nat → Int32) (x1 : Int32) : Option (Int32 × (Nat → Int32)) :=
  xob (lp_Table_addColumn_4 x1 s_t_rows s_t_columns s_t_lineLength e_t_ends n_t_ends xF (0 : Int32) (0 : Int32)) fun x2_3 => xnm ((s_t_lineLength + x1) + x2_3) fun x3_7 => xob (lp_Table_addColumn_48 x3_7 s_t_rows s_t_columns s_t_lineLength s_t_texts_length e_t_texts_characters e_t_ends n_t_texts_characters n_t_ends n_t_lines xF (0 : Int32) e_t_lines) fun e_t_lines_10 => some (x3_7, e_t_lines_10)
def rm_Table_addColumn : Room := { frames := 1, cells := 0, slots := 0, locals := 24 }
set_option maxHeartbeats 4000000 in
set_option maxRecDepth 100000 in
theorem c_Table_addColumn (l : Launch) (dC : Nat → ClassId) (dI : Nat → Nat → Nat) (a_t a_t_writer a_t_numbers a_t_texts a_t_ends a_t_lines a_t_texts_characters : Nat) (c_t_texts_characters c_t_ends c_t_lines : ClassId) (n_t_texts_characters : Nat) (n_t_ends : Nat) (n_t_lines : Nat) (s_t_rows : Int32) (s_t_columns : Int32) (s_t_lineLength : Int32) (s_t_texts_length : Int32) (e_t_texts_characters : Nat → Int32) (e_t_ends : Nat → Int32) (e_t_lines : Nat → Int32) (x1 : Int32) (s_t_lineLength_o : Int32) (e_t_lines_o : Nat → Int32) (h : f_Table_addColumn n_t_texts_characters n_t_ends n_t_lines s_t_rows s_t_columns s_t_lineLength s_t_texts_length e_t_texts_characters e_t_ends e_t_lines x1 = some (s_t_lineLength_o, e_t_lines_o)) : xM l y_Table_addColumn (Cond.code y_Table_addColumn b_Table_addColumn 8 none :: xG) rm_Table_addColumn (dC, dI) x_cl x_nz [.ref a_t, .int x1] [(c_t_texts_characters, .byte), (c_t_ends, .int), (c_t_lines, .byte)] [(a_t, .inr (4, [.ref a_t_writer, .ref a_t_numbers, .int s_t_rows, .int s_t_columns, .ref a_t_texts, .ref a_t_ends, .ref a_t_lines, .int s_t_lineLength])), (a_t_texts, .inr (5, [.ref a_t_texts_characters, .int s_t_texts_length])), (a_t_texts_characters, .inl (c_t_texts_characters, n_t_texts_characters, .inl e_t_texts_characters)), (a_t_ends, .inl (c_t_ends, n_t_ends, .inl e_t_ends)), (a_t_lines, .inl (c_t_lines, n_t_lines, .inl e_t_lines))] none [(a_t, .inr (4, [.ref a_t_writer, .ref a_t_numbers, .int s_t_rows, .int s_t_columns, .ref a_t_texts, .ref a_t_ends, .ref a_t_lines, .int s_t_lineLength_o])), (a_t_texts, .inr (5, [.ref a_t_texts_characters, .int s_t_texts_length])), (a_t_texts_characters, .inl (c_t_texts_characters, n_t_texts_characters, .inl e_t_texts_characters)), (a_t_ends, .inl (c_t_ends, n_t_ends, .inl e_t_ends)), (a_t_lines, .inl (c_t_lines, n_t_lines, .inl e_t_lines_o))] := by
  unfold f_Table_addColumn at h
  refine xM.mkV (cc := b_Table_addColumn) (maxL := 8)  (by decide +kernel) rfl (Nat.le_of_ble_eq_true rfl) ?_
  intro p e s m args below meth c A Q ls hx hb hml hown hts hNz hA hP hD hK hl hret
  have hS : va_S A s.heap s.heap [] := va_S.rf
  have hl : lv_has ls 8 [(0, .ref a_t), (1, .int x1)] := hl
  refine lv_iconst (v := 0) hx hb d_Table_addColumn_0 (by decide) ?_
  refine lv_istore_n (lv' := [(2, .int (0 : Int32)), (0, .ref a_t), (1, .int x1)]) hx hb d_Table_addColumn_1 rfl hl (by decide) rfl (fun ls hl => ?_)
  refine lv_iconst (v := 0) hx hb d_Table_addColumn_2 (by decide) ?_
  refine lv_istore_n (lv' := [(3, .int (0 : Int32)), (2, .int (0 : Int32)), (0, .ref a_t), (1, .int x1)]) hx hb d_Table_addColumn_3 rfl hl (by decide) rfl (fun ls hl => ?_)
  replace h := xob_s h
  obtain ⟨x2_3, hlp_4, h⟩ := h
  try dsimp only at h
  have hX_5 : ∀ (H : Heap) (locs : List Loc) (ls : Array Slot), va_P (dC, dI) x_cl [(a_t, .inr (4, [.ref a_t_writer, .ref a_t_numbers, .int s_t_rows, .int s_t_columns, .ref a_t_texts, .ref a_t_ends, .ref a_t_lines, .int s_t_lineLength])), (a_t_texts, .inr (5, [.ref a_t_texts_characters, .int s_t_texts_length])), (a_t_texts_characters, .inl (c_t_texts_characters, n_t_texts_characters, .inl e_t_texts_characters)), (a_t_ends, .inl (c_t_ends, n_t_ends, .inl e_t_ends)), (a_t_lines, .inl (c_t_lines, n_t_lines, .inl e_t_lines))] H → va_D A [(a_t, .inr (4, [.ref a_t_writer, .ref a_t_numbers, .int s_t_rows, .int s_t_columns, .ref a_t_texts, .ref a_t_ends, .ref a_t_lines, .int s_t_lineLength])), (a_t_texts, .inr (5, [.ref a_t_texts_characters, .int s_t_texts_length])), (a_t_texts_characters, .inl (c_t_texts_characters, n_t_texts_characters, .inl e_t_texts_characters)), (a_t_ends, .inl (c_t_ends, n_t_ends, .inl e_t_ends)), (a_t_lines, .inl (c_t_lines, n_t_lines, .inl e_t_lines))] → va_S A s.heap H locs → lv_has ls 8 [(0, .ref a_t), (1, .int x1), (2, .int x2_3)] → W p l e rm_Table_addColumn s m args below meth c H locs 0 0 Q (F0 m 36 ls []) := by
    intro H locs ls hP hD hS hl
    refine lv_aload_n hx hb d_Table_addColumn_36 rfl (lv_at hl 0 rfl) ?_
    refine va_get (D := (dC, dI)) (ci := 4) (v := .int s_t_lineLength) (C := R_Table) (T := T_Table) (N := 8) hx hb hts in_Table hown hK hP 0 rfl rfl 7 (by decide) (hts _ g_151) (fun _ h9 => h9) rfl d_Table_addColumn_37 ?_
    refine lv_iload_n hx hb d_Table_addColumn_40 rfl (lv_at hl 1 rfl) ?_
    refine lv_iadd hx hb d_Table_addColumn_41 ?_
    refine lv_iload_n hx hb d_Table_addColumn_42 rfl (lv_at hl 2 rfl) ?_
    refine lv_iadd hx hb d_Table_addColumn_43 ?_
    replace h := xnm_s h
    obtain ⟨x3_7, ex3_7, h⟩ := h
    refine x_topi ex3_7 ?_
    refine lv_istore_n (lv' := [(3, .int x3_7), (0, .ref a_t), (1, .int x1), (2, .int x2_3)]) hx hb d_Table_addColumn_44 rfl hl (by decide) rfl (fun ls hl => ?_)
    refine lv_iconst (v := 0) hx hb d_Table_addColumn_45 (by decide) ?_
    refine lv_istore (lv' := [(4, .int (0 : Int32)), (3, .int x3_7), (0, .ref a_t), (1, .int x1), (2, .int x2_3)]) hx hb d_Table_addColumn_46 hl (by decide) rfl (fun ls hl => ?_)
    replace h := xob_s h
    obtain ⟨e_t_lines_10, hlp_11, h⟩ := h
    try dsimp only at h
    have hX_12 : ∀ (H : Heap) (locs : List Loc) (ls : Array Slot), va_P (dC, dI) x_cl [(a_t, .inr (4, [.ref a_t_writer, .ref a_t_numbers, .int s_t_rows, .int s_t_columns, .ref a_t_texts, .ref a_t_ends, .ref a_t_lines, .int s_t_lineLength])), (a_t_texts, .inr (5, [.ref a_t_texts_characters, .int s_t_texts_length])), (a_t_texts_characters, .inl (c_t_texts_characters, n_t_texts_characters, .inl e_t_texts_characters)), (a_t_ends, .inl (c_t_ends, n_t_ends, .inl e_t_ends)), (a_t_lines, .inl (c_t_lines, n_t_lines, .inl e_t_lines_10))] H → va_D A [(a_t, .inr (4, [.ref a_t_writer, .ref a_t_numbers, .int s_t_rows, .int s_t_columns, .ref a_t_texts, .ref a_t_ends, .ref a_t_lines, .int s_t_lineLength])), (a_t_texts, .inr (5, [.ref a_t_texts_characters, .int s_t_texts_length])), (a_t_texts_characters, .inl (c_t_texts_characters, n_t_texts_characters, .inl e_t_texts_characters)), (a_t_ends, .inl (c_t_ends, n_t_ends, .inl e_t_ends)), (a_t_lines, .inl (c_t_lines, n_t_lines, .inl e_t_lines_10))] → va_S A s.heap H locs → lv_has ls 8 [(0, .ref a_t), (3, .int x3_7)] → W p l e rm_Table_addColumn s m args below meth c H locs 0 0 Q (F0 m 142 ls []) := by
      intro H locs ls hP hD hS hl
      refine lv_aload_n hx hb d_Table_addColumn_142 rfl (lv_at hl 0 rfl) ?_
      refine lv_iload_n hx hb d_Table_addColumn_143 rfl (lv_at hl 1 rfl) ?_
      refine va_put (D := (dC, dI)) (ci := 4) (v := .int x3_7) (ty := .int) (C := R_Table) (T := T_Table) (N := 8) hx hb hts in_Table ty_Table tyok_Table nn_Table hown hK hP hD hS 0 rfl rfl 7 (by decide) (hts _ g_151) (fun _ h9 => h9) rfl (by decide +kernel) rfl rfl (Nat.le_of_ble_eq_true rfl) d_Table_addColumn_144 (fun H locs hP hD hS => ?_)
      have hP : va_P (dC, dI) x_cl [(a_t, .inr (4, [.ref a_t_writer, .ref a_t_numbers, .int s_t_rows, .int s_t_columns, .ref a_t_texts, .ref a_t_ends, .ref a_t_lines, .int x3_7])), (a_t_texts, .inr (5, [.ref a_t_texts_characters, .int s_t_texts_length])), (a_t_texts_characters, .inl (c_t_texts_characters, n_t_texts_characters, .inl e_t_texts_characters)), (a_t_ends, .inl (c_t_ends, n_t_ends, .inl e_t_ends)), (a_t_lines, .inl (c_t_lines, n_t_lines, .inl e_t_lines_10))] H := hP
      have hD : va_D A [(a_t, .inr (4, [.ref a_t_writer, .ref a_t_numbers, .int s_t_rows, .int s_t_columns, .ref a_t_texts, .ref a_t_ends, .ref a_t_lines, .int x3_7])), (a_t_texts, .inr (5, [.ref a_t_texts_characters, .int s_t_texts_length])), (a_t_texts_characters, .inl (c_t_texts_characters, n_t_texts_characters, .inl e_t_texts_characters)), (a_t_ends, .inl (c_t_ends, n_t_ends, .inl e_t_ends)), (a_t_lines, .inl (c_t_lines, n_t_lines, .inl e_t_lines_10))] := hD
      replace h := Option.some.inj h
      replace h := Prod.mk.inj h
      obtain ⟨h1, h⟩ := h
      subst h1
      subst h
      exact hret _ _ hP hD hS _ _ d_Table_addColumn_147
    clear h
    have hL_13 : ∀ (n_ : Nat) (x4_8 : Int32) (e_t_lines_9 : Nat → Int32) (H : Heap) (locs : List Loc) (ls : Array Slot), lp_Table_addColumn_48 x3_7 s_t_rows s_t_columns s_t_lineLength s_t_texts_length e_t_texts_characters e_t_ends n_t_texts_characters n_t_ends n_t_lines n_ x4_8 e_t_lines_9 = some e_t_lines_10 → va_P (dC, dI) x_cl [(a_t, .inr (4, [.ref a_t_writer, .ref a_t_numbers, .int s_t_rows, .int s_t_columns, .ref a_t_texts, .ref a_t_ends, .ref a_t_lines, .int s_t_lineLength])), (a_t_texts, .inr (5, [.ref a_t_texts_characters, .int s_t_texts_length])), (a_t_texts_characters, .inl (c_t_texts_characters, n_t_texts_characters, .inl e_t_texts_characters)), (a_t_ends, .inl (c_t_ends, n_t_ends, .inl e_t_ends)), (a_t_lines, .inl (c_t_lines, n_t_lines, .inl e_t_lines_9))] H → va_D A [(a_t, .inr (4, [.ref a_t_writer, .ref a_t_numbers, .int s_t_rows, .int s_t_columns, .ref a_t_texts, .ref a_t_ends, .ref a_t_lines, .int s_t_lineLength])), (a_t_texts, .inr (5, [.ref a_t_texts_characters, .int s_t_texts_length])), (a_t_texts_characters, .inl (c_t_texts_characters, n_t_texts_characters, .inl e_t_texts_characters)), (a_t_ends, .inl (c_t_ends, n_t_ends, .inl e_t_ends)), (a_t_lines, .inl (c_t_lines, n_t_lines, .inl e_t_lines_9))] → va_S A s.heap H locs → lv_has ls 8 [(0, .ref a_t), (3, .int x3_7), (4, .int x4_8)] → W p l e rm_Table_addColumn s m args below meth c H locs 0 0 Q (F0 m 48 ls []) := by
      intro n_
      induction n_ with
      | zero => intro x4_8 e_t_lines_9 H locs ls h; cases h
      | succ n_ ih =>
        intro x4_8 e_t_lines_9 H locs ls h hP hD hS hl
        rw [lp_Table_addColumn_48] at h
        refine lv_iload hx hb d_Table_addColumn_48 (lv_at hl 2 rfl) ?_
        refine lv_aload_n hx hb d_Table_addColumn_50 rfl (lv_at hl 0 rfl) ?_
        refine va_get (D := (dC, dI)) (ci := 4) (v := .int s_t_rows) (C := R_Table) (T := T_Table) (N := 8) hx hb hts in_Table hown hK hP 0 rfl rfl 2 (by decide) (hts _ g_146) (fun _ h9 => h9) rfl d_Table_addColumn_51 ?_
        refine lv_icmp_ge (tgt := 142) hx hb d_Table_addColumn_54 (by decide) (fun c_14 => ?_) (fun c_14 => ?_)
        · rw [if_pos c_14] at h
          replace h := Option.some.inj h
          subst h
          exact hX_12 _ _ _ hP hD hS (lv_sub hl [0, 1] rfl)
        · rw [if_neg c_14] at h
          refine lv_iload_n hx hb d_Table_addColumn_57 rfl (lv_at hl 1 rfl) ?_
          refine lv_aload_n hx hb d_Table_addColumn_58 rfl (lv_at hl 0 rfl) ?_
          refine lv_iload hx hb d_Table_addColumn_59 (lv_at hl 2 rfl) ?_
          replace h := xob_s h
          obtain ⟨r_15, hc_16, h⟩ := h
          try dsimp only at h
          refine xcV (As := [.int x4_8]) (rest := [.int x3_7]) (st1 := [.int r_15, .int x3_7]) (wr := [(a_t_texts, .inr (5, [.ref a_t_texts_characters, .int s_t_texts_length])), (a_t_texts_characters, .inl (c_t_texts_characters, n_t_texts_characters, .inl e_t_texts_characters)), (a_t_lines, .inl (c_t_lines, n_t_lines, .inl e_t_lines_9))]) ⟨hx, hb, hml, hown, hts⟩ (c_Table_endOf l dC dI a_t a_t_writer a_t_numbers a_t_texts a_t_ends a_t_lines c_t_ends n_t_ends s_t_rows s_t_columns s_t_lineLength e_t_ends x4_8 r_15 hc_16) (cwV 1 hts (xgoodV g_691 g_693 gp_20 g_9 g_694) rfl rfl rfl (by decide +kernel) ⟨Nat.le_of_ble_eq_true rfl, Nat.le_of_ble_eq_true rfl⟩) hNz (ci := 4) (q0 := 0) rfl rfl hA hP hD hS hK [0, 3] [1, 2, 4] [1] rfl rfl rfl rfl (by decide) rfl rfl rfl rfl hl.1 (Nat.le_of_ble_eq_true rfl) ⟨Nat.zero_le _, Nat.zero_le _⟩ d_Table_addColumn_61 (fun H locs hP hD hS => ?_)
          have hP : va_P (dC, dI) x_cl [(a_t_texts, .inr (5, [.ref a_t_texts_characters, .int s_t_texts_length])), (a_t_texts_characters, .inl (c_t_texts_characters, n_t_texts_characters, .inl e_t_texts_characters)), (a_t_lines, .inl (c_t_lines, n_t_lines, .inl e_t_lines_9)), (a_t, .inr (4, [.ref a_t_writer, .ref a_t_numbers, .int s_t_rows, .int s_t_columns, .ref a_t_texts, .ref a_t_ends, .ref a_t_lines, .int s_t_lineLength])), (a_t_ends, .inl (c_t_ends, n_t_ends, .inl e_t_ends))] H := hP
          have hD : va_D A [(a_t_texts, .inr (5, [.ref a_t_texts_characters, .int s_t_texts_length])), (a_t_texts_characters, .inl (c_t_texts_characters, n_t_texts_characters, .inl e_t_texts_characters)), (a_t_lines, .inl (c_t_lines, n_t_lines, .inl e_t_lines_9)), (a_t, .inr (4, [.ref a_t_writer, .ref a_t_numbers, .int s_t_rows, .int s_t_columns, .ref a_t_texts, .ref a_t_ends, .ref a_t_lines, .int s_t_lineLength])), (a_t_ends, .inl (c_t_ends, n_t_ends, .inl e_t_ends))] := hD
          refine lv_aload_n hx hb d_Table_addColumn_64 rfl (lv_at hl 0 rfl) ?_
          refine lv_iload hx hb d_Table_addColumn_65 (lv_at hl 2 rfl) ?_
          refine lv_iconst (v := 1) hx hb d_Table_addColumn_67 (by decide) ?_
          refine lv_isub hx hb d_Table_addColumn_68 ?_
          replace h := xob_s h
          obtain ⟨r_17, hc_18, h⟩ := h
          try dsimp only at h
          refine xcV (As := [.int (x4_8 - (1 : Int32))]) (rest := [.int r_15, .int x3_7]) (st1 := [.int r_17, .int r_15, .int x3_7]) (wr := [(a_t_texts, .inr (5, [.ref a_t_texts_characters, .int s_t_texts_length])), (a_t_texts_characters, .inl (c_t_texts_characters, n_t_texts_characters, .inl e_t_texts_characters)), (a_t_lines, .inl (c_t_lines, n_t_lines, .inl e_t_lines_9))]) ⟨hx, hb, hml, hown, hts⟩ (c_Table_endOf l dC dI a_t a_t_writer a_t_numbers a_t_texts a_t_ends a_t_lines c_t_ends n_t_ends s_t_rows s_t_columns s_t_lineLength e_t_ends (x4_8 - (1 : Int32)) r_17 hc_18) (cwV 1 hts (xgoodV g_691 g_693 gp_20 g_9 g_694) rfl rfl rfl (by decide +kernel) ⟨Nat.le_of_ble_eq_true rfl, Nat.le_of_ble_eq_true rfl⟩) hNz (ci := 4) (q0 := 3) rfl rfl hA hP hD hS hK [3, 4] [0, 1, 2] [1] rfl rfl rfl rfl (by decide) rfl rfl rfl rfl hl.1 (Nat.le_of_ble_eq_true rfl) ⟨Nat.zero_le _, Nat.zero_le _⟩ d_Table_addColumn_69 (fun H locs hP hD hS => ?_)
          have hP : va_P (dC, dI) x_cl [(a_t_texts, .inr (5, [.ref a_t_texts_characters, .int s_t_texts_length])), (a_t_texts_characters, .inl (c_t_texts_characters, n_t_texts_characters, .inl e_t_texts_characters)), (a_t_lines, .inl (c_t_lines, n_t_lines, .inl e_t_lines_9)), (a_t, .inr (4, [.ref a_t_writer, .ref a_t_numbers, .int s_t_rows, .int s_t_columns, .ref a_t_texts, .ref a_t_ends, .ref a_t_lines, .int s_t_lineLength])), (a_t_ends, .inl (c_t_ends, n_t_ends, .inl e_t_ends))] H := hP
          have hD : va_D A [(a_t_texts, .inr (5, [.ref a_t_texts_characters, .int s_t_texts_length])), (a_t_texts_characters, .inl (c_t_texts_characters, n_t_texts_characters, .inl e_t_texts_characters)), (a_t_lines, .inl (c_t_lines, n_t_lines, .inl e_t_lines_9)), (a_t, .inr (4, [.ref a_t_writer, .ref a_t_numbers, .int s_t_rows, .int s_t_columns, .ref a_t_texts, .ref a_t_ends, .ref a_t_lines, .int s_t_lineLength])), (a_t_ends, .inl (c_t_ends, n_t_ends, .inl e_t_ends))] := hD
          refine lv_isub hx hb d_Table_addColumn_72 ?_
          refine lv_isub hx hb d_Table_addColumn_73 ?_
          replace h := xnm_s h
          obtain ⟨x5_19, ex5_19, h⟩ := h
          refine x_topi ex5_19 ?_
          refine lv_istore (lv' := [(5, .int x5_19), (0, .ref a_t), (3, .int x3_7), (4, .int x4_8)]) hx hb d_Table_addColumn_74 hl (by decide) rfl (fun ls hl => ?_)
          refine lv_aload_n hx hb d_Table_addColumn_76 rfl (lv_at hl 1 rfl) ?_
          refine va_get (D := (dC, dI)) (ci := 4) (v := .int s_t_lineLength) (C := R_Table) (T := T_Table) (N := 8) hx hb hts in_Table hown hK hP 3 rfl rfl 7 (by decide) (hts _ g_151) (fun _ h9 => h9) rfl d_Table_addColumn_77 ?_
          refine lv_istore (lv' := [(6, .int s_t_lineLength), (5, .int x5_19), (0, .ref a_t), (3, .int x3_7), (4, .int x4_8)]) hx hb d_Table_addColumn_80 hl (by decide) rfl (fun ls hl => ?_)
          replace h := xob_s h
          obtain ⟨e_t_lines_22, hlp_23, h⟩ := h
          try dsimp only at h
          have hX_24 : ∀ (H : Heap) (locs : List Loc) (ls : Array Slot), va_P (dC, dI) x_cl [(a_t, .inr (4, [.ref a_t_writer, .ref a_t_numbers, .int s_t_rows, .int s_t_columns, .ref a_t_texts, .ref a_t_ends, .ref a_t_lines, .int s_t_lineLength])), (a_t_texts, .inr (5, [.ref a_t_texts_characters, .int s_t_texts_length])), (a_t_texts_characters, .inl (c_t_texts_characters, n_t_texts_characters, .inl e_t_texts_characters)), (a_t_ends, .inl (c_t_ends, n_t_ends, .inl e_t_ends)), (a_t_lines, .inl (c_t_lines, n_t_lines, .inl e_t_lines_22))] H → va_D A [(a_t, .inr (4, [.ref a_t_writer, .ref a_t_numbers, .int s_t_rows, .int s_t_columns, .ref a_t_texts, .ref a_t_ends, .ref a_t_lines, .int s_t_lineLength])), (a_t_texts, .inr (5, [.ref a_t_texts_characters, .int s_t_texts_length])), (a_t_texts_characters, .inl (c_t_texts_characters, n_t_texts_characters, .inl e_t_texts_characters)), (a_t_ends, .inl (c_t_ends, n_t_ends, .inl e_t_ends)), (a_t_lines, .inl (c_t_lines, n_t_lines, .inl e_t_lines_22))] → va_S A s.heap H locs → lv_has ls 8 [(0, .ref a_t), (3, .int x3_7), (4, .int x4_8)] → W p l e rm_Table_addColumn s m args below meth c H locs 0 0 Q (F0 m 136 ls []) := by
            intro H locs ls hP hD hS hl
            replace h := xnm_s h
            obtain ⟨x4_26, ex4_26, h⟩ := h
            refine lv_iinc (v := x4_26) (lv' := [(4, .int x4_26), (0, .ref a_t), (3, .int x3_7)]) hx hb d_Table_addColumn_136 hl (k := 2) rfl (by rw [← ex4_26]; rfl) (by decide) rfl (fun ls hl => ?_)
            refine lv_goto (tgt := 48) hx hb d_Table_addColumn_139 (by decide) ?_
            exact ih _ _ _ _ _ h hP hD hS (lv_sub hl [1, 2, 0] rfl)
          clear h
          have hL_25 : ∀ (n_ : Nat) (x6_20 : Int32) (e_t_lines_21 : Nat → Int32) (H : Heap) (locs : List Loc) (ls : Array Slot), lp_Table_addColumn_82 x3_7 x4_8 x5_19 s_t_rows s_t_columns s_t_lineLength s_t_texts_length e_t_texts_characters e_t_ends n_t_texts_characters n_t_ends n_t_lines n_ x6_20 e_t_lines_21 = some e_t_lines_22 → va_P (dC, dI) x_cl [(a_t, .inr (4, [.ref a_t_writer, .ref a_t_numbers, .int s_t_rows, .int s_t_columns, .ref a_t_texts, .ref a_t_ends, .ref a_t_lines, .int s_t_lineLength])), (a_t_texts, .inr (5, [.ref a_t_texts_characters, .int s_t_texts_length])), (a_t_texts_characters, .inl (c_t_texts_characters, n_t_texts_characters, .inl e_t_texts_characters)), (a_t_ends, .inl (c_t_ends, n_t_ends, .inl e_t_ends)), (a_t_lines, .inl (c_t_lines, n_t_lines, .inl e_t_lines_21))] H → va_D A [(a_t, .inr (4, [.ref a_t_writer, .ref a_t_numbers, .int s_t_rows, .int s_t_columns, .ref a_t_texts, .ref a_t_ends, .ref a_t_lines, .int s_t_lineLength])), (a_t_texts, .inr (5, [.ref a_t_texts_characters, .int s_t_texts_length])), (a_t_texts_characters, .inl (c_t_texts_characters, n_t_texts_characters, .inl e_t_texts_characters)), (a_t_ends, .inl (c_t_ends, n_t_ends, .inl e_t_ends)), (a_t_lines, .inl (c_t_lines, n_t_lines, .inl e_t_lines_21))] → va_S A s.heap H locs → lv_has ls 8 [(0, .ref a_t), (3, .int x3_7), (4, .int x4_8), (5, .int x5_19), (6, .int x6_20)] → W p l e rm_Table_addColumn s m args below meth c H locs 0 0 Q (F0 m 82 ls []) := by
            intro n_
            induction n_ with
            | zero => intro x6_20 e_t_lines_21 H locs ls h; cases h
            | succ n_ ih =>
              intro x6_20 e_t_lines_21 H locs ls h hP hD hS hl
              rw [lp_Table_addColumn_82] at h
              refine lv_iload hx hb d_Table_addColumn_82 (lv_at hl 4 rfl) ?_
              refine lv_iload_n hx hb d_Table_addColumn_84 rfl (lv_at hl 1 rfl) ?_
              refine lv_icmp_ge (tgt := 136) hx hb d_Table_addColumn_85 (by decide) (fun c_27 => ?_) (fun c_27 => ?_)
              · rw [if_pos c_27] at h
                replace h := Option.some.inj h
                subst h
                exact hX_24 _ _ _ hP hD hS (lv_sub hl [0, 1, 2] rfl)
              · rw [if_neg c_27] at h
                refine lv_iload hx hb d_Table_addColumn_88 (lv_at hl 4 rfl) ?_
                refine lv_iload hx hb d_Table_addColumn_90 (lv_at hl 3 rfl) ?_
                replace h := xob_s h
                obtain ⟨z_28, hj_29, h⟩ := h
                try dsimp only at h
                have hJ_30 : ∀ (H : Heap) (locs : List Loc) (ls : Array Slot), va_P (dC, dI) x_cl [(a_t, .inr (4, [.ref a_t_writer, .ref a_t_numbers, .int s_t_rows, .int s_t_columns, .ref a_t_texts, .ref a_t_ends, .ref a_t_lines, .int s_t_lineLength])), (a_t_texts, .inr (5, [.ref a_t_texts_characters, .int s_t_texts_length])), (a_t_texts_characters, .inl (c_t_texts_characters, n_t_texts_characters, .inl e_t_texts_characters)), (a_t_ends, .inl (c_t_ends, n_t_ends, .inl e_t_ends)), (a_t_lines, .inl (c_t_lines, n_t_lines, .inl e_t_lines_21))] H → va_D A [(a_t, .inr (4, [.ref a_t_writer, .ref a_t_numbers, .int s_t_rows, .int s_t_columns, .ref a_t_texts, .ref a_t_ends, .ref a_t_lines, .int s_t_lineLength])), (a_t_texts, .inr (5, [.ref a_t_texts_characters, .int s_t_texts_length])), (a_t_texts_characters, .inl (c_t_texts_characters, n_t_texts_characters, .inl e_t_texts_characters)), (a_t_ends, .inl (c_t_ends, n_t_ends, .inl e_t_ends)), (a_t_lines, .inl (c_t_lines, n_t_lines, .inl e_t_lines_21))] → va_S A s.heap H locs → lv_has ls 8 [(0, .ref a_t), (3, .int x3_7), (4, .int x4_8), (5, .int x5_19), (6, .int x6_20)] → W p l e rm_Table_addColumn s m args below meth c H locs 0 0 Q (F0 m 118 ls [.int z_28]) := by
                  intro H locs ls hP hD hS hl
                  refine lv_istore (lv' := [(7, .int z_28), (0, .ref a_t), (3, .int x3_7), (4, .int x4_8), (5, .int x5_19), (6, .int x6_20)]) hx hb d_Table_addColumn_118 hl (by decide) rfl (fun ls hl => ?_)
                  refine lv_aload_n hx hb d_Table_addColumn_120 rfl (lv_at hl 1 rfl) ?_
                  refine lv_iload hx hb d_Table_addColumn_121 (lv_at hl 3 rfl) ?_
                  refine lv_iload hx hb d_Table_addColumn_123 (lv_at hl 5 rfl) ?_
                  refine lv_iload hx hb d_Table_addColumn_125 (lv_at hl 0 rfl) ?_
                  replace h := xob_s h
                  obtain ⟨e_t_lines_31, hc_32, h⟩ := h
                  try dsimp only at h
                  refine xcV (As := [.int x4_8, .int x6_20, .int z_28]) (rest := []) (st1 := []) (wr := [(a_t_texts, .inr (5, [.ref a_t_texts_characters, .int s_t_texts_length])), (a_t_texts_characters, .inl (c_t_texts_characters, n_t_texts_characters, .inl e_t_texts_characters)), (a_t_ends, .inl (c_t_ends, n_t_ends, .inl e_t_ends))]) ⟨hx, hb, hml, hown, hts⟩ (c_Table_putLineCharacter l dC dI a_t a_t_writer a_t_numbers a_t_texts a_t_ends a_t_lines c_t_lines n_t_lines s_t_rows s_t_columns s_t_lineLength e_t_lines_21 x4_8 x6_20 z_28 e_t_lines_31 hc_32) (cwV 3 hts (xgoodV g_696 g_698 gp_21 g_9 g_699) rfl rfl rfl (by decide +kernel) ⟨Nat.le_of_ble_eq_true rfl, Nat.le_of_ble_eq_true rfl⟩) hNz (ci := 4) (q0 := 0) rfl rfl hA hP hD hS hK [0, 4] [1, 2, 3] [2] rfl rfl rfl rfl (by decide) rfl rfl rfl rfl hl.1 (Nat.le_of_ble_eq_true rfl) ⟨Nat.zero_le _, Nat.zero_le _⟩ d_Table_addColumn_127 (fun H locs hP hD hS => ?_)
                  have hP : va_P (dC, dI) x_cl [(a_t_texts, .inr (5, [.ref a_t_texts_characters, .int s_t_texts_length])), (a_t_texts_characters, .inl (c_t_texts_characters, n_t_texts_characters, .inl e_t_texts_characters)), (a_t_ends, .inl (c_t_ends, n_t_ends, .inl e_t_ends)), (a_t, .inr (4, [.ref a_t_writer, .ref a_t_numbers, .int s_t_rows, .int s_t_columns, .ref a_t_texts, .ref a_t_ends, .ref a_t_lines, .int s_t_lineLength])), (a_t_lines, .inl (c_t_lines, n_t_lines, .inl e_t_lines_31))] H := hP
                  have hD : va_D A [(a_t_texts, .inr (5, [.ref a_t_texts_characters, .int s_t_texts_length])), (a_t_texts_characters, .inl (c_t_texts_characters, n_t_texts_characters, .inl e_t_texts_characters)), (a_t_ends, .inl (c_t_ends, n_t_ends, .inl e_t_ends)), (a_t, .inr (4, [.ref a_t_writer, .ref a_t_numbers, .int s_t_rows, .int s_t_columns, .ref a_t_texts, .ref a_t_ends, .ref a_t_lines, .int s_t_lineLength])), (a_t_lines, .inl (c_t_lines, n_t_lines, .inl e_t_lines_31))] := hD
                  replace h := xnm_s h
                  obtain ⟨x6_33, ex6_33, h⟩ := h
                  refine lv_iinc (v := x6_33) (lv' := [(6, .int x6_33), (7, .int z_28), (0, .ref a_t), (3, .int x3_7), (4, .int x4_8), (5, .int x5_19)]) hx hb d_Table_addColumn_130 hl (k := 5) rfl (by rw [← ex6_33]; rfl) (by decide) rfl (fun ls hl => ?_)
                  refine lv_goto (tgt := 82) hx hb d_Table_addColumn_133 (by decide) ?_
                  exact ih _ _ _ _ _ h (hP.sub [3, 0, 1, 2, 4] rfl) (hD.sub [3, 0, 1, 2, 4] (by decide) rfl) hS (lv_sub hl [2, 3, 4, 5, 0] rfl)
                replace h := hj_29
                clear hj_29
                refine lv_icmp_ge (tgt := 100) hx hb d_Table_addColumn_92 (by decide) (fun c_34 => ?_) (fun c_34 => ?_)
                · rw [if_pos c_34] at h
                  refine lv_aload_n hx hb d_Table_addColumn_100 rfl (lv_at hl 0 rfl) ?_
                  refine va_get (D := (dC, dI)) (ci := 4) (v := .ref a_t_texts) (C := R_Table) (T := T_Table) (N := 8) hx hb hts in_Table hown hK hP 0 rfl rfl 4 (by decide) (hts _ g_148) (fun _ h9 => h9) rfl d_Table_addColumn_101 ?_
                  refine lv_aload_n hx hb d_Table_addColumn_104 rfl (lv_at hl 0 rfl) ?_
                  refine lv_iload hx hb d_Table_addColumn_105 (lv_at hl 2 rfl) ?_
                  replace h := xob_s h
                  obtain ⟨r_35, hc_36, h⟩ := h
                  try dsimp only at h
                  refine xcV (As := [.int x4_8]) (rest := [.ref a_t_texts]) (st1 := [.int r_35, .ref a_t_texts]) (wr := [(a_t_texts, .inr (5, [.ref a_t_texts_characters, .int s_t_texts_length])), (a_t_texts_characters, .inl (c_t_texts_characters, n_t_texts_characters, .inl e_t_texts_characters)), (a_t_lines, .inl (c_t_lines, n_t_lines, .inl e_t_lines_21))]) ⟨hx, hb, hml, hown, hts⟩ (c_Table_endOf l dC dI a_t a_t_writer a_t_numbers a_t_texts a_t_ends a_t_lines c_t_ends n_t_ends s_t_rows s_t_columns s_t_lineLength e_t_ends x4_8 r_35 hc_36) (cwV 1 hts (xgoodV g_691 g_693 gp_20 g_9 g_694) rfl rfl rfl (by decide +kernel) ⟨Nat.le_of_ble_eq_true rfl, Nat.le_of_ble_eq_true rfl⟩) hNz (ci := 4) (q0 := 0) rfl rfl hA hP hD hS hK [0, 3] [1, 2, 4] [1] rfl rfl rfl rfl (by decide) rfl rfl rfl rfl hl.1 (Nat.le_of_ble_eq_true rfl) ⟨Nat.zero_le _, Nat.zero_le _⟩ d_Table_addColumn_107 (fun H locs hP hD hS => ?_)
                  have hP : va_P (dC, dI) x_cl [(a_t_texts, .inr (5, [.ref a_t_texts_characters, .int s_t_texts_length])), (a_t_texts_characters, .inl (c_t_texts_characters, n_t_texts_characters, .inl e_t_texts_characters)), (a_t_lines, .inl (c_t_lines, n_t_lines, .inl e_t_lines_21)), (a_t, .inr (4, [.ref a_t_writer, .ref a_t_numbers, .int s_t_rows, .int s_t_columns, .ref a_t_texts, .ref a_t_ends, .ref a_t_lines, .int s_t_lineLength])), (a_t_ends, .inl (c_t_ends, n_t_ends, .inl e_t_ends))] H := hP
                  have hD : va_D A [(a_t_texts, .inr (5, [.ref a_t_texts_characters, .int s_t_texts_length])), (a_t_texts_characters, .inl (c_t_texts_characters, n_t_texts_characters, .inl e_t_texts_characters)), (a_t_lines, .inl (c_t_lines, n_t_lines, .inl e_t_lines_21)), (a_t, .inr (4, [.ref a_t_writer, .ref a_t_numbers, .int s_t_rows, .int s_t_columns, .ref a_t_texts, .ref a_t_ends, .ref a_t_lines, .int s_t_lineLength])), (a_t_ends, .inl (c_t_ends, n_t_ends, .inl e_t_ends))] := hD
                  refine lv_iload_n hx hb d_Table_addColumn_110 rfl (lv_at hl 1 rfl) ?_
                  refine lv_isub hx hb d_Table_addColumn_111 ?_
                  refine lv_iload hx hb d_Table_addColumn_112 (lv_at hl 4 rfl) ?_
                  refine lv_iadd hx hb d_Table_addColumn_114 ?_
                  replace h := xob_s h
                  obtain ⟨r_37, hc_38, h⟩ := h
                  try dsimp only at h
                  refine xcV (As := [.int ((r_35 - x3_7) + x6_20)]) (rest := []) (st1 := [.int r_37]) (wr := [(a_t_lines, .inl (c_t_lines, n_t_lines, .inl e_t_lines_21)), (a_t, .inr (4, [.ref a_t_writer, .ref a_t_numbers, .int s_t_rows, .int s_t_columns, .ref a_t_texts, .ref a_t_ends, .ref a_t_lines, .int s_t_lineLength])), (a_t_ends, .inl (c_t_ends, n_t_ends, .inl e_t_ends))]) ⟨hx, hb, hml, hown, hts⟩ (c_Text_at l dC dI a_t_texts a_t_texts_characters c_t_texts_characters n_t_texts_characters s_t_texts_length e_t_texts_characters ((r_35 - x3_7) + x6_20) r_37 hc_38) (cwV 1 hts (xgoodV g_695 g_214 g_215 g_2 g_216) rfl rfl rfl (by decide +kernel) ⟨Nat.le_of_ble_eq_true rfl, Nat.le_of_ble_eq_true rfl⟩) hNz (ci := 5) (q0 := 0) rfl rfl hA hP hD hS hK [0, 1] [2, 3, 4] [0] rfl rfl rfl rfl (by decide) rfl rfl rfl rfl hl.1 (Nat.le_of_ble_eq_true rfl) ⟨Nat.zero_le _, Nat.zero_le _⟩ d_Table_addColumn_115 (fun H locs hP hD hS => ?_)
                  have hP : va_P (dC, dI) x_cl [(a_t_lines, .inl (c_t_lines, n_t_lines, .inl e_t_lines_21)), (a_t, .inr (4, [.ref a_t_writer, .ref a_t_numbers, .int s_t_rows, .int s_t_columns, .ref a_t_texts, .ref a_t_ends, .ref a_t_lines, .int s_t_lineLength])), (a_t_ends, .inl (c_t_ends, n_t_ends, .inl e_t_ends)), (a_t_texts, .inr (5, [.ref a_t_texts_characters, .int s_t_texts_length])), (a_t_texts_characters, .inl (c_t_texts_characters, n_t_texts_characters, .inl e_t_texts_characters))] H := hP
                  have hD : va_D A [(a_t_lines, .inl (c_t_lines, n_t_lines, .inl e_t_lines_21)), (a_t, .inr (4, [.ref a_t_writer, .ref a_t_numbers, .int s_t_rows, .int s_t_columns, .ref a_t_texts, .ref a_t_ends, .ref a_t_lines, .int s_t_lineLength])), (a_t_ends, .inl (c_t_ends, n_t_ends, .inl e_t_ends)), (a_t_texts, .inr (5, [.ref a_t_texts_characters, .int s_t_texts_length])), (a_t_texts_characters, .inl (c_t_texts_characters, n_t_texts_characters, .inl e_t_texts_characters))] := hD
                  replace h := Option.some.inj h
                  subst h
                  exact hJ_30 _ _ _ (hP.sub [1, 3, 4, 2, 0] rfl) (hD.sub [1, 3, 4, 2, 0] (by decide) rfl) hS hl
                · rw [if_neg c_34] at h
                  refine lv_bipush (v := 32) hx hb d_Table_addColumn_95 (by decide) ?_
                  refine lv_goto (tgt := 118) hx hb d_Table_addColumn_97 (by decide) ?_
                  replace h := Option.some.inj h
                  subst h
                  exact hJ_30 _ _ _ hP hD hS hl
          exact hL_25 xF _ _ _ _ _ hlp_23 (hP.sub [3, 0, 1, 4, 2] rfl) (hD.sub [3, 0, 1, 4, 2] (by decide) rfl) hS (lv_sub hl [2, 3, 4, 1, 0] rfl)
    exact hL_13 xF _ _ _ _ _ hlp_11 hP hD hS (lv_sub hl [2, 1, 0] rfl)
  clear h
  have hL_6 : ∀ (n_ : Nat) (x2_1 : Int32) (x3_2 : Int32) (H : Heap) (locs : List Loc) (ls : Array Slot), lp_Table_addColumn_4 x1 s_t_rows s_t_columns s_t_lineLength e_t_ends n_t_ends n_ x2_1 x3_2 = some x2_3 → va_P (dC, dI) x_cl [(a_t, .inr (4, [.ref a_t_writer, .ref a_t_numbers, .int s_t_rows, .int s_t_columns, .ref a_t_texts, .ref a_t_ends, .ref a_t_lines, .int s_t_lineLength])), (a_t_texts, .inr (5, [.ref a_t_texts_characters, .int s_t_texts_length])), (a_t_texts_characters, .inl (c_t_texts_characters, n_t_texts_characters, .inl e_t_texts_characters)), (a_t_ends, .inl (c_t_ends, n_t_ends, .inl e_t_ends)), (a_t_lines, .inl (c_t_lines, n_t_lines, .inl e_t_lines))] H → va_D A [(a_t, .inr (4, [.ref a_t_writer, .ref a_t_numbers, .int s_t_rows, .int s_t_columns, .ref a_t_texts, .ref a_t_ends, .ref a_t_lines, .int s_t_lineLength])), (a_t_texts, .inr (5, [.ref a_t_texts_characters, .int s_t_texts_length])), (a_t_texts_characters, .inl (c_t_texts_characters, n_t_texts_characters, .inl e_t_texts_characters)), (a_t_ends, .inl (c_t_ends, n_t_ends, .inl e_t_ends)), (a_t_lines, .inl (c_t_lines, n_t_lines, .inl e_t_lines))] → va_S A s.heap H locs → lv_has ls 8 [(0, .ref a_t), (1, .int x1), (2, .int x2_1), (3, .int x3_2)] → W p l e rm_Table_addColumn s m args below meth c H locs 0 0 Q (F0 m 4 ls []) := by
    intro n_
    induction n_ with
    | zero => intro x2_1 x3_2 H locs ls h; cases h
    | succ n_ ih =>
      intro x2_1 x3_2 H locs ls h hP hD hS hl
      rw [lp_Table_addColumn_4] at h
      refine lv_iload_n hx hb d_Table_addColumn_4 rfl (lv_at hl 3 rfl) ?_
      refine lv_aload_n hx hb d_Table_addColumn_5 rfl (lv_at hl 0 rfl) ?_
      refine va_get (D := (dC, dI)) (ci := 4) (v := .int s_t_rows) (C := R_Table) (T := T_Table) (N := 8) hx hb hts in_Table hown hK hP 0 rfl rfl 2 (by decide) (hts _ g_146) (fun _ h9 => h9) rfl d_Table_addColumn_6 ?_
      refine lv_icmp_ge (tgt := 36) hx hb d_Table_addColumn_9 (by decide) (fun c_39 => ?_) (fun c_39 => ?_)
      · rw [if_pos c_39] at h
        replace h := Option.some.inj h
        subst h
        exact hX_5 _ _ _ hP hD hS (lv_sub hl [0, 1, 2] rfl)
      · rw [if_neg c_39] at h
        refine lv_iload_n hx hb d_Table_addColumn_12 rfl (lv_at hl 2 rfl) ?_
        refine lv_aload_n hx hb d_Table_addColumn_13 rfl (lv_at hl 0 rfl) ?_
        refine lv_iload_n hx hb d_Table_addColumn_14 rfl (lv_at hl 3 rfl) ?_
        replace h := xob_s h
        obtain ⟨r_40, hc_41, h⟩ := h
        try dsimp only at h
        refine xcV (As := [.int x3_2]) (rest := [.int x2_1]) (st1 := [.int r_40, .int x2_1]) (wr := [(a_t_texts, .inr (5, [.ref a_t_texts_characters, .int s_t_texts_length])), (a_t_texts_characters, .inl (c_t_texts_characters, n_t_texts_characters, .inl e_t_texts_characters)), (a_t_lines, .inl (c_t_lines, n_t_lines, .inl e_t_lines))]) ⟨hx, hb, hml, hown, hts⟩ (c_Table_endOf l dC dI a_t a_t_writer a_t_numbers a_t_texts a_t_ends a_t_lines c_t_ends n_t_ends s_t_rows s_t_columns s_t_lineLength e_t_ends x3_2 r_40 hc_41) (cwV 1 hts (xgoodV g_691 g_693 gp_20 g_9 g_694) rfl rfl rfl (by decide +kernel) ⟨Nat.le_of_ble_eq_true rfl, Nat.le_of_ble_eq_true rfl⟩) hNz (ci := 4) (q0 := 0) rfl rfl hA hP hD hS hK [0, 3] [1, 2, 4] [1] rfl rfl rfl rfl (by decide) rfl rfl rfl rfl hl.1 (Nat.le_of_ble_eq_true rfl) ⟨Nat.zero_le _, Nat.zero_le _⟩ d_Table_addColumn_15 (fun H locs hP hD hS => ?_)
        have hP : va_P (dC, dI) x_cl [(a_t_texts, .inr (5, [.ref a_t_texts_characters, .int s_t_texts_length])), (a_t_texts_characters, .inl (c_t_texts_characters, n_t_texts_characters, .inl e_t_texts_characters)), (a_t_lines, .inl (c_t_lines, n_t_lines, .inl e_t_lines)), (a_t, .inr (4, [.ref a_t_writer, .ref a_t_numbers, .int s_t_rows, .int s_t_columns, .ref a_t_texts, .ref a_t_ends, .ref a_t_lines, .int s_t_lineLength])), (a_t_ends, .inl (c_t_ends, n_t_ends, .inl e_t_ends))] H := hP
        have hD : va_D A [(a_t_texts, .inr (5, [.ref a_t_texts_characters, .int s_t_texts_length])), (a_t_texts_characters, .inl (c_t_texts_characters, n_t_texts_characters, .inl e_t_texts_characters)), (a_t_lines, .inl (c_t_lines, n_t_lines, .inl e_t_lines)), (a_t, .inr (4, [.ref a_t_writer, .ref a_t_numbers, .int s_t_rows, .int s_t_columns, .ref a_t_texts, .ref a_t_ends, .ref a_t_lines, .int s_t_lineLength])), (a_t_ends, .inl (c_t_ends, n_t_ends, .inl e_t_ends))] := hD
        refine lv_aload_n hx hb d_Table_addColumn_18 rfl (lv_at hl 0 rfl) ?_
        refine lv_iload_n hx hb d_Table_addColumn_19 rfl (lv_at hl 3 rfl) ?_
        refine lv_iconst (v := 1) hx hb d_Table_addColumn_20 (by decide) ?_
        refine lv_isub hx hb d_Table_addColumn_21 ?_
        replace h := xob_s h
        obtain ⟨r_42, hc_43, h⟩ := h
        try dsimp only at h
        refine xcV (As := [.int (x3_2 - (1 : Int32))]) (rest := [.int r_40, .int x2_1]) (st1 := [.int r_42, .int r_40, .int x2_1]) (wr := [(a_t_texts, .inr (5, [.ref a_t_texts_characters, .int s_t_texts_length])), (a_t_texts_characters, .inl (c_t_texts_characters, n_t_texts_characters, .inl e_t_texts_characters)), (a_t_lines, .inl (c_t_lines, n_t_lines, .inl e_t_lines))]) ⟨hx, hb, hml, hown, hts⟩ (c_Table_endOf l dC dI a_t a_t_writer a_t_numbers a_t_texts a_t_ends a_t_lines c_t_ends n_t_ends s_t_rows s_t_columns s_t_lineLength e_t_ends (x3_2 - (1 : Int32)) r_42 hc_43) (cwV 1 hts (xgoodV g_691 g_693 gp_20 g_9 g_694) rfl rfl rfl (by decide +kernel) ⟨Nat.le_of_ble_eq_true rfl, Nat.le_of_ble_eq_true rfl⟩) hNz (ci := 4) (q0 := 3) rfl rfl hA hP hD hS hK [3, 4] [0, 1, 2] [1] rfl rfl rfl rfl (by decide) rfl rfl rfl rfl hl.1 (Nat.le_of_ble_eq_true rfl) ⟨Nat.zero_le _, Nat.zero_le _⟩ d_Table_addColumn_22 (fun H locs hP hD hS => ?_)
        have hP : va_P (dC, dI) x_cl [(a_t_texts, .inr (5, [.ref a_t_texts_characters, .int s_t_texts_length])), (a_t_texts_characters, .inl (c_t_texts_characters, n_t_texts_characters, .inl e_t_texts_characters)), (a_t_lines, .inl (c_t_lines, n_t_lines, .inl e_t_lines)), (a_t, .inr (4, [.ref a_t_writer, .ref a_t_numbers, .int s_t_rows, .int s_t_columns, .ref a_t_texts, .ref a_t_ends, .ref a_t_lines, .int s_t_lineLength])), (a_t_ends, .inl (c_t_ends, n_t_ends, .inl e_t_ends))] H := hP
        have hD : va_D A [(a_t_texts, .inr (5, [.ref a_t_texts_characters, .int s_t_texts_length])), (a_t_texts_characters, .inl (c_t_texts_characters, n_t_texts_characters, .inl e_t_texts_characters)), (a_t_lines, .inl (c_t_lines, n_t_lines, .inl e_t_lines)), (a_t, .inr (4, [.ref a_t_writer, .ref a_t_numbers, .int s_t_rows, .int s_t_columns, .ref a_t_texts, .ref a_t_ends, .ref a_t_lines, .int s_t_lineLength])), (a_t_ends, .inl (c_t_ends, n_t_ends, .inl e_t_ends))] := hD
        refine lv_isub hx hb d_Table_addColumn_25 ?_
        refine va_mmax hx hb (by rw [hml]; exact hl.1.symm) hown (hts _ g_681) (hts _ g_33) (hts _ g_3) (hts _ g_34) (Nat.le_of_ble_eq_true rfl) (Nat.le_of_ble_eq_true rfl) (Nat.le_of_ble_eq_true rfl) (Nat.le_of_ble_eq_true rfl) d_Table_addColumn_26 ?_
        replace h := xnm_s h
        obtain ⟨x2_44, ex2_44, h⟩ := h
        refine x_topi ex2_44 ?_
        refine lv_istore_n (lv' := [(2, .int x2_44), (0, .ref a_t), (1, .int x1), (3, .int x3_2)]) hx hb d_Table_addColumn_29 rfl hl (by decide) rfl (fun ls hl => ?_)
        replace h := xnm_s h
        obtain ⟨x3_45, ex3_45, h⟩ := h
        refine lv_iinc (v := x3_45) (lv' := [(3, .int x3_45), (2, .int x2_44), (0, .ref a_t), (1, .int x1)]) hx hb d_Table_addColumn_30 hl (k := 3) rfl (by rw [← ex3_45]; rfl) (by decide) rfl (fun ls hl => ?_)
        refine lv_goto (tgt := 4) hx hb d_Table_addColumn_33 (by decide) ?_
        exact ih _ _ _ _ _ h (hP.sub [3, 0, 1, 4, 2] rfl) (hD.sub [3, 0, 1, 4, 2] (by decide) rfl) hS (lv_sub hl [2, 3, 1, 0] rfl)
  exact hL_6 xF _ _ _ _ _ hlp_4 hP hD hS (lv_sub hl [2, 3, 1, 0] rfl)
def lp_Table_layOut_7 (x1 : Int32) (s_t_rows : Int32) (s_t_columns : Int32) (e_t_numbers : Nat → Int64) (n_t_writer_fixed_limbs : Nat) (n_t_writer_decimal_digits : Nat) (n_t_numbers : Nat) (n_t_texts_characters : Nat) (n_t_ends : Nat) (n_t_lines : Nat) : Nat → Int32 → Int32 → Int32 → Int32 → (Nat → Int32) → Int32 → Int32 → (Nat → Int32) → Int32 → (Nat → Int32) → (Nat → Int32) → (Nat → Int32) → Option (Int32 × Int32 × Int32 × (Nat → Int32) × Int32 × Int32 × (Nat → Int32) × Int32 × (Nat → Int32) × (Nat → Int32) × (Nat → Int32))
  | 0, _, _, _, _, _, _, _, _, _, _, _, _ => none
  | n_ + 1, x2_1, s_t_lineLength_2, s_t_writer_fixed_end_3, s_t_writer_fixed_first_4, e_t_writer_fixed_limbs_5, s_t_writer_decimal_count_6, s_t_writer_decimal_point_7, e_t_writer_decimal_digits_8, s_t_texts_length_9, e_t_texts_characters_10, e_t_ends_11, e_t_lines_12 =>
    if s_t_columns ≤ x2_1 then (some (s_t_lineLength_2, s_t_writer_fixed_end_3, s_t_writer_fixed_first_4, e_t_writer_fixed_limbs_5, s_t_writer_decimal_count_6, s_t_writer_decimal_point_7, e_t_writer_decimal_digits_8, s_t_texts_length_9, e_t_texts_characters_10, e_t_ends_11, e_t_lines_12)) else (xob (f_Table_writeScientific n_t_writer_fixed_limbs n_t_writer_decimal_digits n_t_numbers n_t_texts_characters n_t_ends s_t_rows s_t_columns s_t_lineLength_2 s_t_writer_fixed_first_4 s_t_writer_fixed_end_3 e_t_writer_fixed_limbs_5 s_t_writer_decimal_count_6 s_t_writer_decimal_point_7 e_t_writer_decimal_digits_8 e_t_numbers s_t_texts_length_9 e_t_texts_characters_10 e_t_ends_11 x2_1 x1) fun (r_28, s_t_writer_fixed_end_29, s_t_writer_fixed_first_30, e_t_writer_fixed_limbs_31, s_t_writer_decimal_count_32, s_t_writer_decimal_point_33, e_t_writer_decimal_digits_34, s_t_texts_length_35, e_t_texts_characters_36, e_t_ends_37) => xob (if r_28 = (-1 : Int32) then (some (s_t_writer_fixed_end_29, s_t_writer_fixed_first_30, e_t_writer_fixed_limbs_31, s_t_writer_decimal_count_32, s_t_writer_decimal_point_33, e_t_writer_decimal_digits_34, s_t_texts_length_35, e_t_texts_characters_36, e_t_ends_37)) else (xob (f_Table_writeToPlaces n_t_writer_fixed_limbs n_t_writer_decimal_digits n_t_numbers n_t_texts_characters n_t_ends s_t_rows s_t_columns s_t_lineLength_2 s_t_writer_fixed_first_30 s_t_writer_fixed_end_29 e_t_writer_fixed_limbs_31 s_t_writer_decimal_count_32 s_t_writer_decimal_point_33 e_t_writer_decimal_digits_34 e_t_numbers s_t_texts_length_35 e_t_texts_characters_36 e_t_ends_37 x2_1 r_28) fun (s_t_writer_fixed_end_59, s_t_writer_fixed_first_60, e_t_writer_fixed_limbs_61, s_t_writer_decimal_count_62, s_t_writer_decimal_point_63, e_t_writer_decimal_digits_64, s_t_texts_length_65, e_t_texts_characters_66, e_t_ends_67) => some (s_t_writer_fixed_end_59, s_t_writer_fixed_first_60, e_t_writer_fixed_limbs_61, s_t_writer_decimal_count_62, s_t_writer_decimal_point_63, e_t_writer_decimal_digits_64, s_t_texts_length_65, e_t_texts_characters_66, e_t_ends_67))) fun (s_t_writer_fixed_end_39, s_t_writer_fixed_first_40, e_t_writer_fixed_limbs_41, s_t_writer_decimal_count_42, s_t_writer_decimal_point_43, e_t_writer_decimal_digits_44, s_t_texts_length_45, e_t_texts_characters_46, e_t_ends_47) => xob (if x2_1 ≤ 0 then (some (0 : Int32)) else (some (2 : Int32))) fun z_50 => xob (f_Table_addColumn n_t_texts_characters n_t_ends n_t_lines s_t_rows s_t_columns s_t_lineLength_2 s_t_texts_length_45 e_t_texts_characters_46 e_t_ends_47 e_t_lines_12 z_50) fun (s_t_lineLength_53, e_t_lines_54) => xnm (x2_1 + (1 : Int32)) fun x2_56 => lp_Table_layOut_7 x1 s_t_rows s_t_columns e_t_numbers n_t_writer_fixed_limbs n_t_writer_decimal_digits n_t_numbers n_t_texts_characters n_t_ends n_t_lines n_ x2_56 s_t_lineLength_53 s_t_writer_fixed_end_39 s_t_writer_fixed_first_40 e_t_writer_fixed_limbs_41 s_t_writer_decimal_count_42 s_t_writer_decimal_point_43 e_t_writer_decimal_digits_44 s_t_texts_length_45 e_t_texts_characters_46 e_t_ends_47 e_t_lines_54)
def f_Table_layOut (n_t_writer_fixed_limbs : Nat) (n_t_writer_decimal_digits : Nat) (n_t_numbers : Nat) (n_t_texts_characters : Nat) (n_t_ends : Nat) (n_t_lines : Nat) (s_t_rows : Int32) (s_t_columns : Int32) (s_t_lineLength : Int32) (s_t_writer_fixed_first : Int32) (s_t_writer_fixed_end : Int32) (e_t_writer_fixed_limbs : Nat → Int32) (s_t_writer_decimal_count : Int32) (s_t_writer_decimal_point : Int32) (e_t_writer_decimal_digits : Nat → Int32) (e_t_numbers : Nat → Int64) (s_t_texts_length : Int32) (e_t_texts_characters : Nat → Int32) (e_t_ends : Nat → Int32) (e_t_lines : Nat → Int32) (x1 : Int32) : Option (Int32 × Int32 × Int32 × Int32 × (Nat → Int32) × Int32 × Int32 × (Nat → Int32) × Int32 × (Nat → Int32) × (Nat → Int32) × (Nat → Int32)) :=
  xob (lp_Table_layOut_7 x1 s_t_rows s_t_columns e_t_numbers n_t_writer_fixed_limbs n_t_writer_decimal_digits n_t_numbers n_t_texts_characters n_t_ends n_t_lines xF (0 : Int32) (0 : Int32) s_t_writer_fixed_end s_t_writer_fixed_first e_t_writer_fixed_limbs s_t_writer_decimal_count s_t_writer_decimal_point e_t_writer_decimal_digits s_t_texts_length e_t_texts_characters e_t_ends e_t_lines) fun (s_t_lineLength_13, s_t_writer_fixed_end_14, s_t_writer_fixed_first_15, e_t_writer_fixed_limbs_16, s_t_writer_decimal_count_17, s_t_writer_decimal_point_18, e_t_writer_decimal_digits_19, s_t_texts_length_20, e_t_texts_characters_21, e_t_ends_22, e_t_lines_23) => some (s_t_lineLength_13, s_t_lineLength_13, s_t_writer_fixed_end_14, s_t_writer_fixed_first_15, e_t_writer_fixed_limbs_16, s_t_writer_decimal_count_17, s_t_writer_decimal_point_18, e_t_writer_decimal_digits_19, s_t_texts_length_20, e_t_texts_characters_21, e_t_ends_22, e_t_lines_23)
def rm_Table_layOut : Room := { frames := 6, cells := 0, slots := 0, locals := 144 }
set_option maxHeartbeats 4000000 in
set_option maxRecDepth 100000 in
theorem c_Table_layOut (l : Launch) (dC : Nat → ClassId) (dI : Nat → Nat → Nat) (a_t a_t_writer a_t_numbers a_t_texts a_t_ends a_t_lines a_t_writer_fixed a_t_writer_decimal a_t_writer_low a_t_writer_high a_t_writer_fixed_limbs a_t_writer_decimal_digits a_t_texts_characters : Nat) (c_t_writer_fixed_limbs c_t_writer_decimal_digits c_t_numbers c_t_texts_characters c_t_ends c_t_lines : ClassId) (n_t_writer_fixed_limbs : Nat) (n_t_writer_decimal_digits : Nat) (n_t_numbers : Nat) (n_t_texts_characters : Nat) (n_t_ends : Nat) (n_t_lines : Nat) (s_t_rows : Int32) (s_t_columns : Int32) (s_t_lineLength : Int32) (s_t_writer_fixed_first : Int32) (s_t_writer_fixed_end : Int32) (e_t_writer_fixed_limbs : Nat → Int32) (s_t_writer_decimal_count : Int32) (s_t_writer_decimal_point : Int32) (e_t_writer_decimal_digits : Nat → Int32) (e_t_numbers : Nat → Int64) (s_t_texts_length : Int32) (e_t_texts_characters : Nat → Int32) (e_t_ends : Nat → Int32) (e_t_lines : Nat → Int32) (x1 : Int32) (r_ : Int32) (s_t_lineLength_o : Int32) (s_t_writer_fixed_end_o : Int32) (s_t_writer_fixed_first_o : Int32) (e_t_writer_fixed_limbs_o : Nat → Int32) (s_t_writer_decimal_count_o : Int32) (s_t_writer_decimal_point_o : Int32) (e_t_writer_decimal_digits_o : Nat → Int32) (s_t_texts_length_o : Int32) (e_t_texts_characters_o : Nat → Int32) (e_t_ends_o : Nat → Int32) (e_t_lines_o : Nat → Int32) (h : f_Table_layOut n_t_writer_fixed_limbs n_t_writer_decimal_digits n_t_numbers n_t_texts_characters n_t_ends n_t_lines s_t_rows s_t_columns s_t_lineLength s_t_writer_fixed_first s_t_writer_fixed_end e_t_writer_fixed_limbs s_t_writer_decimal_count s_t_writer_decimal_point e_t_writer_decimal_digits e_t_numbers s_t_texts_length e_t_texts_characters e_t_ends e_t_lines x1 = some (r_, s_t_lineLength_o, s_t_writer_fixed_end_o, s_t_writer_fixed_first_o, e_t_writer_fixed_limbs_o, s_t_writer_decimal_count_o, s_t_writer_decimal_point_o, e_t_writer_decimal_digits_o, s_t_texts_length_o, e_t_texts_characters_o, e_t_ends_o, e_t_lines_o)) : xM l y_Table_layOut (Cond.code y_Table_layOut b_Table_layOut 4 (some .int) :: xG) rm_Table_layOut (dC, dI) x_cl x_nz [.ref a_t, .int x1] [(c_t_writer_fixed_limbs, .int), (c_t_writer_decimal_digits, .byte), (c_t_numbers, .long), (c_t_texts_characters, .byte), (c_t_ends, .int), (c_t_lines, .byte)] [(a_t, .inr (4, [.ref a_t_writer, .ref a_t_numbers, .int s_t_rows, .int s_t_columns, .ref a_t_texts, .ref a_t_ends, .ref a_t_lines, .int s_t_lineLength])), (a_t_writer, .inr (6, [.ref a_t_writer_fixed, .ref a_t_writer_decimal, .ref a_t_writer_low, .ref a_t_writer_high])), (a_t_writer_fixed, .inr (1, [.ref a_t_writer_fixed_limbs, .int s_t_writer_fixed_first, .int s_t_writer_fixed_end])), (a_t_writer_fixed_limbs, .inl (c_t_writer_fixed_limbs, n_t_writer_fixed_limbs, .inl e_t_writer_fixed_limbs)), (a_t_writer_decimal, .inr (0, [.ref a_t_writer_decimal_digits, .int s_t_writer_decimal_count, .int s_t_writer_decimal_point])), (a_t_writer_decimal_digits, .inl (c_t_writer_decimal_digits, n_t_writer_decimal_digits, .inl e_t_writer_decimal_digits)), (a_t_numbers, .inl (c_t_numbers, n_t_numbers, .inr (.inl e_t_numbers))), (a_t_texts, .inr (5, [.ref a_t_texts_characters, .int s_t_texts_length])), (a_t_texts_characters, .inl (c_t_texts_characters, n_t_texts_characters, .inl e_t_texts_characters)), (a_t_ends, .inl (c_t_ends, n_t_ends, .inl e_t_ends)), (a_t_lines, .inl (c_t_lines, n_t_lines, .inl e_t_lines))] (some (.int r_)) [(a_t, .inr (4, [.ref a_t_writer, .ref a_t_numbers, .int s_t_rows, .int s_t_columns, .ref a_t_texts, .ref a_t_ends, .ref a_t_lines, .int s_t_lineLength_o])), (a_t_writer, .inr (6, [.ref a_t_writer_fixed, .ref a_t_writer_decimal, .ref a_t_writer_low, .ref a_t_writer_high])), (a_t_writer_fixed, .inr (1, [.ref a_t_writer_fixed_limbs, .int s_t_writer_fixed_first_o, .int s_t_writer_fixed_end_o])), (a_t_writer_fixed_limbs, .inl (c_t_writer_fixed_limbs, n_t_writer_fixed_limbs, .inl e_t_writer_fixed_limbs_o)), (a_t_writer_decimal, .inr (0, [.ref a_t_writer_decimal_digits, .int s_t_writer_decimal_count_o, .int s_t_writer_decimal_point_o])), (a_t_writer_decimal_digits, .inl (c_t_writer_decimal_digits, n_t_writer_decimal_digits, .inl e_t_writer_decimal_digits_o)), (a_t_numbers, .inl (c_t_numbers, n_t_numbers, .inr (.inl e_t_numbers))), (a_t_texts, .inr (5, [.ref a_t_texts_characters, .int s_t_texts_length_o])), (a_t_texts_characters, .inl (c_t_texts_characters, n_t_texts_characters, .inl e_t_texts_characters_o)), (a_t_ends, .inl (c_t_ends, n_t_ends, .inl e_t_ends_o)), (a_t_lines, .inl (c_t_lines, n_t_lines, .inl e_t_lines_o))] := by
  unfold f_Table_layOut at h
  refine xM.mkI (cc := b_Table_layOut) (maxL := 4)  (by decide +kernel) rfl (Nat.le_of_ble_eq_true rfl) ?_
  intro p e s m args below meth c A Q ls hx hb hml hown hts hNz hA hP hD hK hl hret
  have hS : va_S A s.heap s.heap [] := va_S.rf
  have hl : lv_has ls 4 [(0, .ref a_t), (1, .int x1)] := hl
  refine lv_aload_n hx hb d_Table_layOut_0 rfl (lv_at hl 0 rfl) ?_
  refine lv_iconst (v := 0) hx hb d_Table_layOut_1 (by decide) ?_
  refine va_put (D := (dC, dI)) (ci := 4) (v := .int (0 : Int32)) (ty := .int) (C := R_Table) (T := T_Table) (N := 8) hx hb hts in_Table ty_Table tyok_Table nn_Table hown hK hP hD hS 0 rfl rfl 7 (by decide) (hts _ g_151) (fun _ h9 => h9) rfl (by decide +kernel) rfl rfl (Nat.le_of_ble_eq_true rfl) d_Table_layOut_2 (fun H locs hP hD hS => ?_)
  have hP : va_P (dC, dI) x_cl [(a_t, .inr (4, [.ref a_t_writer, .ref a_t_numbers, .int s_t_rows, .int s_t_columns, .ref a_t_texts, .ref a_t_ends, .ref a_t_lines, .int (0 : Int32)])), (a_t_writer, .inr (6, [.ref a_t_writer_fixed, .ref a_t_writer_decimal, .ref a_t_writer_low, .ref a_t_writer_high])), (a_t_writer_fixed, .inr (1, [.ref a_t_writer_fixed_limbs, .int s_t_writer_fixed_first, .int s_t_writer_fixed_end])), (a_t_writer_fixed_limbs, .inl (c_t_writer_fixed_limbs, n_t_writer_fixed_limbs, .inl e_t_writer_fixed_limbs)), (a_t_writer_decimal, .inr (0, [.ref a_t_writer_decimal_digits, .int s_t_writer_decimal_count, .int s_t_writer_decimal_point])), (a_t_writer_decimal_digits, .inl (c_t_writer_decimal_digits, n_t_writer_decimal_digits, .inl e_t_writer_decimal_digits)), (a_t_numbers, .inl (c_t_numbers, n_t_numbers, .inr (.inl e_t_numbers))), (a_t_texts, .inr (5, [.ref a_t_texts_characters, .int s_t_texts_length])), (a_t_texts_characters, .inl (c_t_texts_characters, n_t_texts_characters, .inl e_t_texts_characters)), (a_t_ends, .inl (c_t_ends, n_t_ends, .inl e_t_ends)), (a_t_lines, .inl (c_t_lines, n_t_lines, .inl e_t_lines))] H := hP
  have hD : va_D A [(a_t, .inr (4, [.ref a_t_writer, .ref a_t_numbers, .int s_t_rows, .int s_t_columns, .ref a_t_texts, .ref a_t_ends, .ref a_t_lines, .int (0 : Int32)])), (a_t_writer, .inr (6, [.ref a_t_writer_fixed, .ref a_t_writer_decimal, .ref a_t_writer_low, .ref a_t_writer_high])), (a_t_writer_fixed, .inr (1, [.ref a_t_writer_fixed_limbs, .int s_t_writer_fixed_first, .int s_t_writer_fixed_end])), (a_t_writer_fixed_limbs, .inl (c_t_writer_fixed_limbs, n_t_writer_fixed_limbs, .inl e_t_writer_fixed_limbs)), (a_t_writer_decimal, .inr (0, [.ref a_t_writer_decimal_digits, .int s_t_writer_decimal_count, .int s_t_writer_decimal_point])), (a_t_writer_decimal_digits, .inl (c_t_writer_decimal_digits, n_t_writer_decimal_digits, .inl e_t_writer_decimal_digits)), (a_t_numbers, .inl (c_t_numbers, n_t_numbers, .inr (.inl e_t_numbers))), (a_t_texts, .inr (5, [.ref a_t_texts_characters, .int s_t_texts_length])), (a_t_texts_characters, .inl (c_t_texts_characters, n_t_texts_characters, .inl e_t_texts_characters)), (a_t_ends, .inl (c_t_ends, n_t_ends, .inl e_t_ends)), (a_t_lines, .inl (c_t_lines, n_t_lines, .inl e_t_lines))] := hD
  refine lv_iconst (v := 0) hx hb d_Table_layOut_5 (by decide) ?_
  refine lv_istore_n (lv' := [(2, .int (0 : Int32)), (0, .ref a_t), (1, .int x1)]) hx hb d_Table_layOut_6 rfl hl (by decide) rfl (fun ls hl => ?_)
  replace h := xob_s h
  obtain ⟨⟨s_t_lineLength_13, s_t_writer_fixed_end_14, s_t_writer_fixed_first_15, e_t_writer_fixed_limbs_16, s_t_writer_decimal_count_17, s_t_writer_decimal_point_18, e_t_writer_decimal_digits_19, s_t_texts_length_20, e_t_texts_characters_21, e_t_ends_22, e_t_lines_23⟩, hlp_24, h⟩ := h
  try dsimp only at h
  have hX_25 : ∀ (H : Heap) (locs : List Loc) (ls : Array Slot), va_P (dC, dI) x_cl [(a_t, .inr (4, [.ref a_t_writer, .ref a_t_numbers, .int s_t_rows, .int s_t_columns, .ref a_t_texts, .ref a_t_ends, .ref a_t_lines, .int s_t_lineLength_13])), (a_t_writer, .inr (6, [.ref a_t_writer_fixed, .ref a_t_writer_decimal, .ref a_t_writer_low, .ref a_t_writer_high])), (a_t_writer_fixed, .inr (1, [.ref a_t_writer_fixed_limbs, .int s_t_writer_fixed_first_15, .int s_t_writer_fixed_end_14])), (a_t_writer_fixed_limbs, .inl (c_t_writer_fixed_limbs, n_t_writer_fixed_limbs, .inl e_t_writer_fixed_limbs_16)), (a_t_writer_decimal, .inr (0, [.ref a_t_writer_decimal_digits, .int s_t_writer_decimal_count_17, .int s_t_writer_decimal_point_18])), (a_t_writer_decimal_digits, .inl (c_t_writer_decimal_digits, n_t_writer_decimal_digits, .inl e_t_writer_decimal_digits_19)), (a_t_numbers, .inl (c_t_numbers, n_t_numbers, .inr (.inl e_t_numbers))), (a_t_texts, .inr (5, [.ref a_t_texts_characters, .int s_t_texts_length_20])), (a_t_texts_characters, .inl (c_t_texts_characters, n_t_texts_characters, .inl e_t_texts_characters_21)), (a_t_ends, .inl (c_t_ends, n_t_ends, .inl e_t_ends_22)), (a_t_lines, .inl (c_t_lines, n_t_lines, .inl e_t_lines_23))] H → va_D A [(a_t, .inr (4, [.ref a_t_writer, .ref a_t_numbers, .int s_t_rows, .int s_t_columns, .ref a_t_texts, .ref a_t_ends, .ref a_t_lines, .int s_t_lineLength_13])), (a_t_writer, .inr (6, [.ref a_t_writer_fixed, .ref a_t_writer_decimal, .ref a_t_writer_low, .ref a_t_writer_high])), (a_t_writer_fixed, .inr (1, [.ref a_t_writer_fixed_limbs, .int s_t_writer_fixed_first_15, .int s_t_writer_fixed_end_14])), (a_t_writer_fixed_limbs, .inl (c_t_writer_fixed_limbs, n_t_writer_fixed_limbs, .inl e_t_writer_fixed_limbs_16)), (a_t_writer_decimal, .inr (0, [.ref a_t_writer_decimal_digits, .int s_t_writer_decimal_count_17, .int s_t_writer_decimal_point_18])), (a_t_writer_decimal_digits, .inl (c_t_writer_decimal_digits, n_t_writer_decimal_digits, .inl e_t_writer_decimal_digits_19)), (a_t_numbers, .inl (c_t_numbers, n_t_numbers, .inr (.inl e_t_numbers))), (a_t_texts, .inr (5, [.ref a_t_texts_characters, .int s_t_texts_length_20])), (a_t_texts_characters, .inl (c_t_texts_characters, n_t_texts_characters, .inl e_t_texts_characters_21)), (a_t_ends, .inl (c_t_ends, n_t_ends, .inl e_t_ends_22)), (a_t_lines, .inl (c_t_lines, n_t_lines, .inl e_t_lines_23))] → va_S A s.heap H locs → lv_has ls 4 [(0, .ref a_t)] → W p l e rm_Table_layOut s m args below meth c H locs 0 0 Q (F0 m 52 ls []) := by
    intro H locs ls hP hD hS hl
    refine lv_aload_n hx hb d_Table_layOut_52 rfl (lv_at hl 0 rfl) ?_
    refine va_get (D := (dC, dI)) (ci := 4) (v := .int s_t_lineLength_13) (C := R_Table) (T := T_Table) (N := 8) hx hb hts in_Table hown hK hP 0 rfl rfl 7 (by decide) (hts _ g_151) (fun _ h9 => h9) rfl d_Table_layOut_53 ?_
    replace h := Option.some.inj h
    replace h := Prod.mk.inj h
    obtain ⟨h1, h⟩ := h
    subst h1
    replace h := Prod.mk.inj h
    obtain ⟨h1, h⟩ := h
    subst h1
    replace h := Prod.mk.inj h
    obtain ⟨h1, h⟩ := h
    subst h1
    replace h := Prod.mk.inj h
    obtain ⟨h1, h⟩ := h
    subst h1
    replace h := Prod.mk.inj h
    obtain ⟨h1, h⟩ := h
    subst h1
    replace h := Prod.mk.inj h
    obtain ⟨h1, h⟩ := h
    subst h1
    replace h := Prod.mk.inj h
    obtain ⟨h1, h⟩ := h
    subst h1
    replace h := Prod.mk.inj h
    obtain ⟨h1, h⟩ := h
    subst h1
    replace h := Prod.mk.inj h
    obtain ⟨h1, h⟩ := h
    subst h1
    replace h := Prod.mk.inj h
    obtain ⟨h1, h⟩ := h
    subst h1
    replace h := Prod.mk.inj h
    obtain ⟨h1, h⟩ := h
    subst h1
    subst h
    exact hret _ _ hP hD hS _ _ d_Table_layOut_56
  clear h
  have hL_26 : ∀ (n_ : Nat) (x2_1 : Int32) (s_t_lineLength_2 : Int32) (s_t_writer_fixed_end_3 : Int32) (s_t_writer_fixed_first_4 : Int32) (e_t_writer_fixed_limbs_5 : Nat → Int32) (s_t_writer_decimal_count_6 : Int32) (s_t_writer_decimal_point_7 : Int32) (e_t_writer_decimal_digits_8 : Nat → Int32) (s_t_texts_length_9 : Int32) (e_t_texts_characters_10 : Nat → Int32) (e_t_ends_11 : Nat → Int32) (e_t_lines_12 : Nat → Int32) (H : Heap) (locs : List Loc) (ls : Array Slot), lp_Table_layOut_7 x1 s_t_rows s_t_columns e_t_numbers n_t_writer_fixed_limbs n_t_writer_decimal_digits n_t_numbers n_t_texts_characters n_t_ends n_t_lines n_ x2_1 s_t_lineLength_2 s_t_writer_fixed_end_3 s_t_writer_fixed_first_4 e_t_writer_fixed_limbs_5 s_t_writer_decimal_count_6 s_t_writer_decimal_point_7 e_t_writer_decimal_digits_8 s_t_texts_length_9 e_t_texts_characters_10 e_t_ends_11 e_t_lines_12 = some (s_t_lineLength_13, s_t_writer_fixed_end_14, s_t_writer_fixed_first_15, e_t_writer_fixed_limbs_16, s_t_writer_decimal_count_17, s_t_writer_decimal_point_18, e_t_writer_decimal_digits_19, s_t_texts_length_20, e_t_texts_characters_21, e_t_ends_22, e_t_lines_23) → va_P (dC, dI) x_cl [(a_t, .inr (4, [.ref a_t_writer, .ref a_t_numbers, .int s_t_rows, .int s_t_columns, .ref a_t_texts, .ref a_t_ends, .ref a_t_lines, .int s_t_lineLength_2])), (a_t_writer, .inr (6, [.ref a_t_writer_fixed, .ref a_t_writer_decimal, .ref a_t_writer_low, .ref a_t_writer_high])), (a_t_writer_fixed, .inr (1, [.ref a_t_writer_fixed_limbs, .int s_t_writer_fixed_first_4, .int s_t_writer_fixed_end_3])), (a_t_writer_fixed_limbs, .inl (c_t_writer_fixed_limbs, n_t_writer_fixed_limbs, .inl e_t_writer_fixed_limbs_5)), (a_t_writer_decimal, .inr (0, [.ref a_t_writer_decimal_digits, .int s_t_writer_decimal_count_6, .int s_t_writer_decimal_point_7])), (a_t_writer_decimal_digits, .inl (c_t_writer_decimal_digits, n_t_writer_decimal_digits, .inl e_t_writer_decimal_digits_8)), (a_t_numbers, .inl (c_t_numbers, n_t_numbers, .inr (.inl e_t_numbers))), (a_t_texts, .inr (5, [.ref a_t_texts_characters, .int s_t_texts_length_9])), (a_t_texts_characters, .inl (c_t_texts_characters, n_t_texts_characters, .inl e_t_texts_characters_10)), (a_t_ends, .inl (c_t_ends, n_t_ends, .inl e_t_ends_11)), (a_t_lines, .inl (c_t_lines, n_t_lines, .inl e_t_lines_12))] H → va_D A [(a_t, .inr (4, [.ref a_t_writer, .ref a_t_numbers, .int s_t_rows, .int s_t_columns, .ref a_t_texts, .ref a_t_ends, .ref a_t_lines, .int s_t_lineLength_2])), (a_t_writer, .inr (6, [.ref a_t_writer_fixed, .ref a_t_writer_decimal, .ref a_t_writer_low, .ref a_t_writer_high])), (a_t_writer_fixed, .inr (1, [.ref a_t_writer_fixed_limbs, .int s_t_writer_fixed_first_4, .int s_t_writer_fixed_end_3])), (a_t_writer_fixed_limbs, .inl (c_t_writer_fixed_limbs, n_t_writer_fixed_limbs, .inl e_t_writer_fixed_limbs_5)), (a_t_writer_decimal, .inr (0, [.ref a_t_writer_decimal_digits, .int s_t_writer_decimal_count_6, .int s_t_writer_decimal_point_7])), (a_t_writer_decimal_digits, .inl (c_t_writer_decimal_digits, n_t_writer_decimal_digits, .inl e_t_writer_decimal_digits_8)), (a_t_numbers, .inl (c_t_numbers, n_t_numbers, .inr (.inl e_t_numbers))), (a_t_texts, .inr (5, [.ref a_t_texts_characters, .int s_t_texts_length_9])), (a_t_texts_characters, .inl (c_t_texts_characters, n_t_texts_characters, .inl e_t_texts_characters_10)), (a_t_ends, .inl (c_t_ends, n_t_ends, .inl e_t_ends_11)), (a_t_lines, .inl (c_t_lines, n_t_lines, .inl e_t_lines_12))] → va_S A s.heap H locs → lv_has ls 4 [(0, .ref a_t), (1, .int x1), (2, .int x2_1)] → W p l e rm_Table_layOut s m args below meth c H locs 0 0 Q (F0 m 7 ls []) := by
    intro n_
    induction n_ with
    | zero => intro x2_1 s_t_lineLength_2 s_t_writer_fixed_end_3 s_t_writer_fixed_first_4 e_t_writer_fixed_limbs_5 s_t_writer_decimal_count_6 s_t_writer_decimal_point_7 e_t_writer_decimal_digits_8 s_t_texts_length_9 e_t_texts_characters_10 e_t_ends_11 e_t_lines_12 H locs ls h; cases h
    | succ n_ ih =>
      intro x2_1 s_t_lineLength_2 s_t_writer_fixed_end_3 s_t_writer_fixed_first_4 e_t_writer_fixed_limbs_5 s_t_writer_decimal_count_6 s_t_writer_decimal_point_7 e_t_writer_decimal_digits_8 s_t_texts_length_9 e_t_texts_characters_10 e_t_ends_11 e_t_lines_12 H locs ls h hP hD hS hl
      rw [lp_Table_layOut_7] at h
      refine lv_iload_n hx hb d_Table_layOut_7 rfl (lv_at hl 2 rfl) ?_
      refine lv_aload_n hx hb d_Table_layOut_8 rfl (lv_at hl 0 rfl) ?_
      refine va_get (D := (dC, dI)) (ci := 4) (v := .int s_t_columns) (C := R_Table) (T := T_Table) (N := 8) hx hb hts in_Table hown hK hP 0 rfl rfl 3 (by decide) (hts _ g_147) (fun _ h9 => h9) rfl d_Table_layOut_9 ?_
      refine lv_icmp_ge (tgt := 52) hx hb d_Table_layOut_12 (by decide) (fun c_27 => ?_) (fun c_27 => ?_)
      · rw [if_pos c_27] at h
        replace h := Option.some.inj h
        replace h := Prod.mk.inj h
        obtain ⟨h1, h⟩ := h
        subst h1
        replace h := Prod.mk.inj h
        obtain ⟨h1, h⟩ := h
        subst h1
        replace h := Prod.mk.inj h
        obtain ⟨h1, h⟩ := h
        subst h1
        replace h := Prod.mk.inj h
        obtain ⟨h1, h⟩ := h
        subst h1
        replace h := Prod.mk.inj h
        obtain ⟨h1, h⟩ := h
        subst h1
        replace h := Prod.mk.inj h
        obtain ⟨h1, h⟩ := h
        subst h1
        replace h := Prod.mk.inj h
        obtain ⟨h1, h⟩ := h
        subst h1
        replace h := Prod.mk.inj h
        obtain ⟨h1, h⟩ := h
        subst h1
        replace h := Prod.mk.inj h
        obtain ⟨h1, h⟩ := h
        subst h1
        replace h := Prod.mk.inj h
        obtain ⟨h1, h⟩ := h
        subst h1
        subst h
        exact hX_25 _ _ _ hP hD hS (lv_sub hl [0] rfl)
      · rw [if_neg c_27] at h
        refine lv_aload_n hx hb d_Table_layOut_15 rfl (lv_at hl 0 rfl) ?_
        refine lv_iload_n hx hb d_Table_layOut_16 rfl (lv_at hl 2 rfl) ?_
        refine lv_iload_n hx hb d_Table_layOut_17 rfl (lv_at hl 1 rfl) ?_
        replace h := xob_s h
        obtain ⟨⟨r_28, s_t_writer_fixed_end_29, s_t_writer_fixed_first_30, e_t_writer_fixed_limbs_31, s_t_writer_decimal_count_32, s_t_writer_decimal_point_33, e_t_writer_decimal_digits_34, s_t_texts_length_35, e_t_texts_characters_36, e_t_ends_37⟩, hc_38, h⟩ := h
        try dsimp only at h
        refine xcV (As := [.int x2_1, .int x1]) (rest := []) (st1 := [.int r_28]) (wr := [(a_t_lines, .inl (c_t_lines, n_t_lines, .inl e_t_lines_12))]) ⟨hx, hb, hml, hown, hts⟩ (c_Table_writeScientific l dC dI a_t a_t_writer a_t_numbers a_t_texts a_t_ends a_t_lines a_t_writer_fixed a_t_writer_decimal a_t_writer_low a_t_writer_high a_t_writer_fixed_limbs a_t_writer_decimal_digits a_t_texts_characters c_t_writer_fixed_limbs c_t_writer_decimal_digits c_t_numbers c_t_texts_characters c_t_ends n_t_writer_fixed_limbs n_t_writer_decimal_digits n_t_numbers n_t_texts_characters n_t_ends s_t_rows s_t_columns s_t_lineLength_2 s_t_writer_fixed_first_4 s_t_writer_fixed_end_3 e_t_writer_fixed_limbs_5 s_t_writer_decimal_count_6 s_t_writer_decimal_point_7 e_t_writer_decimal_digits_8 e_t_numbers s_t_texts_length_9 e_t_texts_characters_10 e_t_ends_11 x2_1 x1 r_28 s_t_writer_fixed_end_29 s_t_writer_fixed_first_30 e_t_writer_fixed_limbs_31 s_t_writer_decimal_count_32 s_t_writer_decimal_point_33 e_t_writer_decimal_digits_34 s_t_texts_length_35 e_t_texts_characters_36 e_t_ends_37 hc_38) (cwV 2 hts (xgoodV g_661 g_663 gp_16 g_9 g_664) rfl rfl rfl (by decide +kernel) ⟨Nat.le_of_ble_eq_true rfl, Nat.le_of_ble_eq_true rfl⟩) hNz (ci := 4) (q0 := 0) rfl rfl hA hP hD hS hK [0, 1, 2, 3, 4, 5, 6, 7, 8, 9] [10] [0, 1, 2, 3, 4] rfl rfl rfl rfl (by decide) rfl rfl rfl rfl hl.1 (Nat.le_of_ble_eq_true rfl) ⟨Nat.zero_le _, Nat.zero_le _⟩ d_Table_layOut_18 (fun H locs hP hD hS => ?_)
        have hP : va_P (dC, dI) x_cl [(a_t_lines, .inl (c_t_lines, n_t_lines, .inl e_t_lines_12)), (a_t, .inr (4, [.ref a_t_writer, .ref a_t_numbers, .int s_t_rows, .int s_t_columns, .ref a_t_texts, .ref a_t_ends, .ref a_t_lines, .int s_t_lineLength_2])), (a_t_writer, .inr (6, [.ref a_t_writer_fixed, .ref a_t_writer_decimal, .ref a_t_writer_low, .ref a_t_writer_high])), (a_t_writer_fixed, .inr (1, [.ref a_t_writer_fixed_limbs, .int s_t_writer_fixed_first_30, .int s_t_writer_fixed_end_29])), (a_t_writer_fixed_limbs, .inl (c_t_writer_fixed_limbs, n_t_writer_fixed_limbs, .inl e_t_writer_fixed_limbs_31)), (a_t_writer_decimal, .inr (0, [.ref a_t_writer_decimal_digits, .int s_t_writer_decimal_count_32, .int s_t_writer_decimal_point_33])), (a_t_writer_decimal_digits, .inl (c_t_writer_decimal_digits, n_t_writer_decimal_digits, .inl e_t_writer_decimal_digits_34)), (a_t_numbers, .inl (c_t_numbers, n_t_numbers, .inr (.inl e_t_numbers))), (a_t_texts, .inr (5, [.ref a_t_texts_characters, .int s_t_texts_length_35])), (a_t_texts_characters, .inl (c_t_texts_characters, n_t_texts_characters, .inl e_t_texts_characters_36)), (a_t_ends, .inl (c_t_ends, n_t_ends, .inl e_t_ends_37))] H := hP
        have hD : va_D A [(a_t_lines, .inl (c_t_lines, n_t_lines, .inl e_t_lines_12)), (a_t, .inr (4, [.ref a_t_writer, .ref a_t_numbers, .int s_t_rows, .int s_t_columns, .ref a_t_texts, .ref a_t_ends, .ref a_t_lines, .int s_t_lineLength_2])), (a_t_writer, .inr (6, [.ref a_t_writer_fixed, .ref a_t_writer_decimal, .ref a_t_writer_low, .ref a_t_writer_high])), (a_t_writer_fixed, .inr (1, [.ref a_t_writer_fixed_limbs, .int s_t_writer_fixed_first_30, .int s_t_writer_fixed_end_29])), (a_t_writer_fixed_limbs, .inl (c_t_writer_fixed_limbs, n_t_writer_fixed_limbs, .inl e_t_writer_fixed_limbs_31)), (a_t_writer_decimal, .inr (0, [.ref a_t_writer_decimal_digits, .int s_t_writer_decimal_count_32, .int s_t_writer_decimal_point_33])), (a_t_writer_decimal_digits, .inl (c_t_writer_decimal_digits, n_t_writer_decimal_digits, .inl e_t_writer_decimal_digits_34)), (a_t_numbers, .inl (c_t_numbers, n_t_numbers, .inr (.inl e_t_numbers))), (a_t_texts, .inr (5, [.ref a_t_texts_characters, .int s_t_texts_length_35])), (a_t_texts_characters, .inl (c_t_texts_characters, n_t_texts_characters, .inl e_t_texts_characters_36)), (a_t_ends, .inl (c_t_ends, n_t_ends, .inl e_t_ends_37))] := hD
        refine lv_istore_n (lv' := [(3, .int r_28), (0, .ref a_t), (1, .int x1), (2, .int x2_1)]) hx hb d_Table_layOut_21 rfl hl (by decide) rfl (fun ls hl => ?_)
        refine lv_iload_n hx hb d_Table_layOut_22 rfl (lv_at hl 0 rfl) ?_
        refine lv_iconst (v := -1) hx hb d_Table_layOut_23 (by decide) ?_
        replace h := xob_s h
        obtain ⟨⟨s_t_writer_fixed_end_39, s_t_writer_fixed_first_40, e_t_writer_fixed_limbs_41, s_t_writer_decimal_count_42, s_t_writer_decimal_point_43, e_t_writer_decimal_digits_44, s_t_texts_length_45, e_t_texts_characters_46, e_t_ends_47⟩, hj_48, h⟩ := h
        try dsimp only at h
        have hJ_49 : ∀ (H : Heap) (locs : List Loc) (ls : Array Slot), va_P (dC, dI) x_cl [(a_t, .inr (4, [.ref a_t_writer, .ref a_t_numbers, .int s_t_rows, .int s_t_columns, .ref a_t_texts, .ref a_t_ends, .ref a_t_lines, .int s_t_lineLength_2])), (a_t_writer, .inr (6, [.ref a_t_writer_fixed, .ref a_t_writer_decimal, .ref a_t_writer_low, .ref a_t_writer_high])), (a_t_writer_fixed, .inr (1, [.ref a_t_writer_fixed_limbs, .int s_t_writer_fixed_first_40, .int s_t_writer_fixed_end_39])), (a_t_writer_fixed_limbs, .inl (c_t_writer_fixed_limbs, n_t_writer_fixed_limbs, .inl e_t_writer_fixed_limbs_41)), (a_t_writer_decimal, .inr (0, [.ref a_t_writer_decimal_digits, .int s_t_writer_decimal_count_42, .int s_t_writer_decimal_point_43])), (a_t_writer_decimal_digits, .inl (c_t_writer_decimal_digits, n_t_writer_decimal_digits, .inl e_t_writer_decimal_digits_44)), (a_t_numbers, .inl (c_t_numbers, n_t_numbers, .inr (.inl e_t_numbers))), (a_t_texts, .inr (5, [.ref a_t_texts_characters, .int s_t_texts_length_45])), (a_t_texts_characters, .inl (c_t_texts_characters, n_t_texts_characters, .inl e_t_texts_characters_46)), (a_t_ends, .inl (c_t_ends, n_t_ends, .inl e_t_ends_47)), (a_t_lines, .inl (c_t_lines, n_t_lines, .inl e_t_lines_12))] H → va_D A [(a_t, .inr (4, [.ref a_t_writer, .ref a_t_numbers, .int s_t_rows, .int s_t_columns, .ref a_t_texts, .ref a_t_ends, .ref a_t_lines, .int s_t_lineLength_2])), (a_t_writer, .inr (6, [.ref a_t_writer_fixed, .ref a_t_writer_decimal, .ref a_t_writer_low, .ref a_t_writer_high])), (a_t_writer_fixed, .inr (1, [.ref a_t_writer_fixed_limbs, .int s_t_writer_fixed_first_40, .int s_t_writer_fixed_end_39])), (a_t_writer_fixed_limbs, .inl (c_t_writer_fixed_limbs, n_t_writer_fixed_limbs, .inl e_t_writer_fixed_limbs_41)), (a_t_writer_decimal, .inr (0, [.ref a_t_writer_decimal_digits, .int s_t_writer_decimal_count_42, .int s_t_writer_decimal_point_43])), (a_t_writer_decimal_digits, .inl (c_t_writer_decimal_digits, n_t_writer_decimal_digits, .inl e_t_writer_decimal_digits_44)), (a_t_numbers, .inl (c_t_numbers, n_t_numbers, .inr (.inl e_t_numbers))), (a_t_texts, .inr (5, [.ref a_t_texts_characters, .int s_t_texts_length_45])), (a_t_texts_characters, .inl (c_t_texts_characters, n_t_texts_characters, .inl e_t_texts_characters_46)), (a_t_ends, .inl (c_t_ends, n_t_ends, .inl e_t_ends_47)), (a_t_lines, .inl (c_t_lines, n_t_lines, .inl e_t_lines_12))] → va_S A s.heap H locs → lv_has ls 4 [(0, .ref a_t), (1, .int x1), (2, .int x2_1)] → W p l e rm_Table_layOut s m args below meth c H locs 0 0 Q (F0 m 33 ls []) := by
          intro H locs ls hP hD hS hl
          refine lv_aload_n hx hb d_Table_layOut_33 rfl (lv_at hl 0 rfl) ?_
          refine lv_iload_n hx hb d_Table_layOut_34 rfl (lv_at hl 2 rfl) ?_
          replace h := xob_s h
          obtain ⟨z_50, hj_51, h⟩ := h
          try dsimp only at h
          have hJ_52 : ∀ (H : Heap) (locs : List Loc) (ls : Array Slot), va_P (dC, dI) x_cl [(a_t, .inr (4, [.ref a_t_writer, .ref a_t_numbers, .int s_t_rows, .int s_t_columns, .ref a_t_texts, .ref a_t_ends, .ref a_t_lines, .int s_t_lineLength_2])), (a_t_writer, .inr (6, [.ref a_t_writer_fixed, .ref a_t_writer_decimal, .ref a_t_writer_low, .ref a_t_writer_high])), (a_t_writer_fixed, .inr (1, [.ref a_t_writer_fixed_limbs, .int s_t_writer_fixed_first_40, .int s_t_writer_fixed_end_39])), (a_t_writer_fixed_limbs, .inl (c_t_writer_fixed_limbs, n_t_writer_fixed_limbs, .inl e_t_writer_fixed_limbs_41)), (a_t_writer_decimal, .inr (0, [.ref a_t_writer_decimal_digits, .int s_t_writer_decimal_count_42, .int s_t_writer_decimal_point_43])), (a_t_writer_decimal_digits, .inl (c_t_writer_decimal_digits, n_t_writer_decimal_digits, .inl e_t_writer_decimal_digits_44)), (a_t_numbers, .inl (c_t_numbers, n_t_numbers, .inr (.inl e_t_numbers))), (a_t_texts, .inr (5, [.ref a_t_texts_characters, .int s_t_texts_length_45])), (a_t_texts_characters, .inl (c_t_texts_characters, n_t_texts_characters, .inl e_t_texts_characters_46)), (a_t_ends, .inl (c_t_ends, n_t_ends, .inl e_t_ends_47)), (a_t_lines, .inl (c_t_lines, n_t_lines, .inl e_t_lines_12))] H → va_D A [(a_t, .inr (4, [.ref a_t_writer, .ref a_t_numbers, .int s_t_rows, .int s_t_columns, .ref a_t_texts, .ref a_t_ends, .ref a_t_lines, .int s_t_lineLength_2])), (a_t_writer, .inr (6, [.ref a_t_writer_fixed, .ref a_t_writer_decimal, .ref a_t_writer_low, .ref a_t_writer_high])), (a_t_writer_fixed, .inr (1, [.ref a_t_writer_fixed_limbs, .int s_t_writer_fixed_first_40, .int s_t_writer_fixed_end_39])), (a_t_writer_fixed_limbs, .inl (c_t_writer_fixed_limbs, n_t_writer_fixed_limbs, .inl e_t_writer_fixed_limbs_41)), (a_t_writer_decimal, .inr (0, [.ref a_t_writer_decimal_digits, .int s_t_writer_decimal_count_42, .int s_t_writer_decimal_point_43])), (a_t_writer_decimal_digits, .inl (c_t_writer_decimal_digits, n_t_writer_decimal_digits, .inl e_t_writer_decimal_digits_44)), (a_t_numbers, .inl (c_t_numbers, n_t_numbers, .inr (.inl e_t_numbers))), (a_t_texts, .inr (5, [.ref a_t_texts_characters, .int s_t_texts_length_45])), (a_t_texts_characters, .inl (c_t_texts_characters, n_t_texts_characters, .inl e_t_texts_characters_46)), (a_t_ends, .inl (c_t_ends, n_t_ends, .inl e_t_ends_47)), (a_t_lines, .inl (c_t_lines, n_t_lines, .inl e_t_lines_12))] → va_S A s.heap H locs → lv_has ls 4 [(0, .ref a_t), (1, .int x1), (2, .int x2_1)] → W p l e rm_Table_layOut s m args below meth c H locs 0 0 Q (F0 m 43 ls [.int z_50, .ref a_t]) := by
            intro H locs ls hP hD hS hl
            replace h := xob_s h
            obtain ⟨⟨s_t_lineLength_53, e_t_lines_54⟩, hc_55, h⟩ := h
            try dsimp only at h
            refine xcV (As := [.int z_50]) (rest := []) (st1 := []) (wr := [(a_t_writer, .inr (6, [.ref a_t_writer_fixed, .ref a_t_writer_decimal, .ref a_t_writer_low, .ref a_t_writer_high])), (a_t_writer_fixed, .inr (1, [.ref a_t_writer_fixed_limbs, .int s_t_writer_fixed_first_40, .int s_t_writer_fixed_end_39])), (a_t_writer_fixed_limbs, .inl (c_t_writer_fixed_limbs, n_t_writer_fixed_limbs, .inl e_t_writer_fixed_limbs_41)), (a_t_writer_decimal, .inr (0, [.ref a_t_writer_decimal_digits, .int s_t_writer_decimal_count_42, .int s_t_writer_decimal_point_43])), (a_t_writer_decimal_digits, .inl (c_t_writer_decimal_digits, n_t_writer_decimal_digits, .inl e_t_writer_decimal_digits_44)), (a_t_numbers, .inl (c_t_numbers, n_t_numbers, .inr (.inl e_t_numbers)))]) ⟨hx, hb, hml, hown, hts⟩ (c_Table_addColumn l dC dI a_t a_t_writer a_t_numbers a_t_texts a_t_ends a_t_lines a_t_texts_characters c_t_texts_characters c_t_ends c_t_lines n_t_texts_characters n_t_ends n_t_lines s_t_rows s_t_columns s_t_lineLength_2 s_t_texts_length_45 e_t_texts_characters_46 e_t_ends_47 e_t_lines_12 z_50 s_t_lineLength_53 e_t_lines_54 hc_55) (cwV 1 hts (xgoodV g_687 g_689 gp_19 g_9 g_690) rfl rfl rfl (by decide +kernel) ⟨Nat.le_of_ble_eq_true rfl, Nat.le_of_ble_eq_true rfl⟩) hNz (ci := 4) (q0 := 0) rfl rfl hA hP hD hS hK [0, 7, 8, 9, 10] [1, 2, 3, 4, 5, 6] [3, 4, 5] rfl rfl rfl rfl (by decide) rfl rfl rfl rfl hl.1 (Nat.le_of_ble_eq_true rfl) ⟨Nat.zero_le _, Nat.zero_le _⟩ d_Table_layOut_43 (fun H locs hP hD hS => ?_)
            have hP : va_P (dC, dI) x_cl [(a_t_writer, .inr (6, [.ref a_t_writer_fixed, .ref a_t_writer_decimal, .ref a_t_writer_low, .ref a_t_writer_high])), (a_t_writer_fixed, .inr (1, [.ref a_t_writer_fixed_limbs, .int s_t_writer_fixed_first_40, .int s_t_writer_fixed_end_39])), (a_t_writer_fixed_limbs, .inl (c_t_writer_fixed_limbs, n_t_writer_fixed_limbs, .inl e_t_writer_fixed_limbs_41)), (a_t_writer_decimal, .inr (0, [.ref a_t_writer_decimal_digits, .int s_t_writer_decimal_count_42, .int s_t_writer_decimal_point_43])), (a_t_writer_decimal_digits, .inl (c_t_writer_decimal_digits, n_t_writer_decimal_digits, .inl e_t_writer_decimal_digits_44)), (a_t_numbers, .inl (c_t_numbers, n_t_numbers, .inr (.inl e_t_numbers))), (a_t, .inr (4, [.ref a_t_writer, .ref a_t_numbers, .int s_t_rows, .int s_t_columns, .ref a_t_texts, .ref a_t_ends, .ref a_t_lines, .int s_t_lineLength_53])), (a_t_texts, .inr (5, [.ref a_t_texts_characters, .int s_t_texts_length_45])), (a_t_texts_characters, .inl (c_t_texts_characters, n_t_texts_characters, .inl e_t_texts_characters_46)), (a_t_ends, .inl (c_t_ends, n_t_ends, .inl e_t_ends_47)), (a_t_lines, .inl (c_t_lines, n_t_lines, .inl e_t_lines_54))] H := hP
            have hD : va_D A [(a_t_writer, .inr (6, [.ref a_t_writer_fixed, .ref a_t_writer_decimal, .ref a_t_writer_low, .ref a_t_writer_high])), (a_t_writer_fixed, .inr (1, [.ref a_t_writer_fixed_limbs, .int s_t_writer_fixed_first_40, .int s_t_writer_fixed_end_39])), (a_t_writer_fixed_limbs, .inl (c_t_writer_fixed_limbs, n_t_writer_fixed_limbs, .inl e_t_writer_fixed_limbs_41)), (a_t_writer_decimal, .inr (0, [.ref a_t_writer_decimal_digits, .int s_t_writer_decimal_count_42, .int s_t_writer_decimal_point_43])), (a_t_writer_decimal_digits, .inl (c_t_writer_decimal_digits, n_t_writer_decimal_digits, .inl e_t_writer_decimal_digits_44)), (a_t_numbers, .inl (c_t_numbers, n_t_numbers, .inr (.inl e_t_numbers))), (a_t, .inr (4, [.ref a_t_writer, .ref a_t_numbers, .int s_t_rows, .int s_t_columns, .ref a_t_texts, .ref a_t_ends, .ref a_t_lines, .int s_t_lineLength_53])), (a_t_texts, .inr (5, [.ref a_t_texts_characters, .int s_t_texts_length_45])), (a_t_texts_characters, .inl (c_t_texts_characters, n_t_texts_characters, .inl e_t_texts_characters_46)), (a_t_ends, .inl (c_t_ends, n_t_ends, .inl e_t_ends_47)), (a_t_lines, .inl (c_t_lines, n_t_lines, .inl e_t_lines_54))] := hD
            replace h := xnm_s h
            obtain ⟨x2_56, ex2_56, h⟩ := h
            refine lv_iinc (v := x2_56) (lv' := [(2, .int x2_56), (0, .ref a_t), (1, .int x1)]) hx hb d_Table_layOut_46 hl (k := 2) rfl (by rw [← ex2_56]; rfl) (by decide) rfl (fun ls hl => ?_)
            refine lv_goto (tgt := 7) hx hb d_Table_layOut_49 (by decide) ?_
            exact ih _ _ _ _ _ _ _ _ _ _ _ _ _ _ _ h (hP.sub [6, 0, 1, 2, 3, 4, 5, 7, 8, 9, 10] rfl) (hD.sub [6, 0, 1, 2, 3, 4, 5, 7, 8, 9, 10] (by decide) rfl) hS (lv_sub hl [1, 2, 0] rfl)
          replace h := hj_51
          clear hj_51
          refine lv_if_le (tgt := 42) hx hb d_Table_layOut_35 (by decide) (fun c_57 => ?_) (fun c_57 => ?_)
          · rw [if_pos c_57] at h
            refine lv_iconst (v := 0) hx hb d_Table_layOut_42 (by decide) ?_
            replace h := Option.some.inj h
            subst h
            exact hJ_52 _ _ _ hP hD hS hl
          · rw [if_neg c_57] at h
            refine lv_iconst (v := 2) hx hb d_Table_layOut_38 (by decide) ?_
            refine lv_goto (tgt := 43) hx hb d_Table_layOut_39 (by decide) ?_
            replace h := Option.some.inj h
            subst h
            exact hJ_52 _ _ _ hP hD hS hl
        replace h := hj_48
        clear hj_48
        refine lv_icmp_eq (tgt := 33) hx hb d_Table_layOut_24 (by decide) (fun c_58 => ?_) (fun c_58 => ?_)
        · rw [if_pos c_58] at h
          replace h := Option.some.inj h
          replace h := Prod.mk.inj h
          obtain ⟨h1, h⟩ := h
          subst h1
          replace h := Prod.mk.inj h
          obtain ⟨h1, h⟩ := h
          subst h1
          replace h := Prod.mk.inj h
          obtain ⟨h1, h⟩ := h
          subst h1
          replace h := Prod.mk.inj h
          obtain ⟨h1, h⟩ := h
          subst h1
          replace h := Prod.mk.inj h
          obtain ⟨h1, h⟩ := h
          subst h1
          replace h := Prod.mk.inj h
          obtain ⟨h1, h⟩ := h
          subst h1
          replace h := Prod.mk.inj h
          obtain ⟨h1, h⟩ := h
          subst h1
          replace h := Prod.mk.inj h
          obtain ⟨h1, h⟩ := h
          subst h1
          subst h
          exact hJ_49 _ _ _ (hP.sub [1, 2, 3, 4, 5, 6, 7, 8, 9, 10, 0] rfl) (hD.sub [1, 2, 3, 4, 5, 6, 7, 8, 9, 10, 0] (by decide) rfl) hS (lv_sub hl [1, 2, 3] rfl)
        · rw [if_neg c_58] at h
          refine lv_aload_n hx hb d_Table_layOut_27 rfl (lv_at hl 1 rfl) ?_
          refine lv_iload_n hx hb d_Table_layOut_28 rfl (lv_at hl 3 rfl) ?_
          refine lv_iload_n hx hb d_Table_layOut_29 rfl (lv_at hl 0 rfl) ?_
          replace h := xob_s h
          obtain ⟨⟨s_t_writer_fixed_end_59, s_t_writer_fixed_first_60, e_t_writer_fixed_limbs_61, s_t_writer_decimal_count_62, s_t_writer_decimal_point_63, e_t_writer_decimal_digits_64, s_t_texts_length_65, e_t_texts_characters_66, e_t_ends_67⟩, hc_68, h⟩ := h
          try dsimp only at h
          refine xcV (As := [.int x2_1, .int r_28]) (rest := []) (st1 := []) (wr := [(a_t_lines, .inl (c_t_lines, n_t_lines, .inl e_t_lines_12))]) ⟨hx, hb, hml, hown, hts⟩ (c_Table_writeToPlaces l dC dI a_t a_t_writer a_t_numbers a_t_texts a_t_ends a_t_lines a_t_writer_fixed a_t_writer_decimal a_t_writer_low a_t_writer_high a_t_writer_fixed_limbs a_t_writer_decimal_digits a_t_texts_characters c_t_writer_fixed_limbs c_t_writer_decimal_digits c_t_numbers c_t_texts_characters c_t_ends n_t_writer_fixed_limbs n_t_writer_decimal_digits n_t_numbers n_t_texts_characters n_t_ends s_t_rows s_t_columns s_t_lineLength_2 s_t_writer_fixed_first_30 s_t_writer_fixed_end_29 e_t_writer_fixed_limbs_31 s_t_writer_decimal_count_32 s_t_writer_decimal_point_33 e_t_writer_decimal_digits_34 e_t_numbers s_t_texts_length_35 e_t_texts_characters_36 e_t_ends_37 x2_1 r_28 s_t_writer_fixed_end_59 s_t_writer_fixed_first_60 e_t_writer_fixed_limbs_61 s_t_writer_decimal_count_62 s_t_writer_decimal_point_63 e_t_writer_decimal_digits_64 s_t_texts_length_65 e_t_texts_characters_66 e_t_ends_67 hc_68) (cwV 2 hts (xgoodV g_682 g_684 gp_18 g_9 g_685) rfl rfl rfl (by decide +kernel) ⟨Nat.le_of_ble_eq_true rfl, Nat.le_of_ble_eq_true rfl⟩) hNz (ci := 4) (q0 := 1) rfl rfl hA hP hD hS hK [1, 2, 3, 4, 5, 6, 7, 8, 9, 10] [0] [0, 1, 2, 3, 4] rfl rfl rfl rfl (by decide) rfl rfl rfl rfl hl.1 (Nat.le_of_ble_eq_true rfl) ⟨Nat.zero_le _, Nat.zero_le _⟩ d_Table_layOut_30 (fun H locs hP hD hS => ?_)
          have hP : va_P (dC, dI) x_cl [(a_t_lines, .inl (c_t_lines, n_t_lines, .inl e_t_lines_12)), (a_t, .inr (4, [.ref a_t_writer, .ref a_t_numbers, .int s_t_rows, .int s_t_columns, .ref a_t_texts, .ref a_t_ends, .ref a_t_lines, .int s_t_lineLength_2])), (a_t_writer, .inr (6, [.ref a_t_writer_fixed, .ref a_t_writer_decimal, .ref a_t_writer_low, .ref a_t_writer_high])), (a_t_writer_fixed, .inr (1, [.ref a_t_writer_fixed_limbs, .int s_t_writer_fixed_first_60, .int s_t_writer_fixed_end_59])), (a_t_writer_fixed_limbs, .inl (c_t_writer_fixed_limbs, n_t_writer_fixed_limbs, .inl e_t_writer_fixed_limbs_61)), (a_t_writer_decimal, .inr (0, [.ref a_t_writer_decimal_digits, .int s_t_writer_decimal_count_62, .int s_t_writer_decimal_point_63])), (a_t_writer_decimal_digits, .inl (c_t_writer_decimal_digits, n_t_writer_decimal_digits, .inl e_t_writer_decimal_digits_64)), (a_t_numbers, .inl (c_t_numbers, n_t_numbers, .inr (.inl e_t_numbers))), (a_t_texts, .inr (5, [.ref a_t_texts_characters, .int s_t_texts_length_65])), (a_t_texts_characters, .inl (c_t_texts_characters, n_t_texts_characters, .inl e_t_texts_characters_66)), (a_t_ends, .inl (c_t_ends, n_t_ends, .inl e_t_ends_67))] H := hP
          have hD : va_D A [(a_t_lines, .inl (c_t_lines, n_t_lines, .inl e_t_lines_12)), (a_t, .inr (4, [.ref a_t_writer, .ref a_t_numbers, .int s_t_rows, .int s_t_columns, .ref a_t_texts, .ref a_t_ends, .ref a_t_lines, .int s_t_lineLength_2])), (a_t_writer, .inr (6, [.ref a_t_writer_fixed, .ref a_t_writer_decimal, .ref a_t_writer_low, .ref a_t_writer_high])), (a_t_writer_fixed, .inr (1, [.ref a_t_writer_fixed_limbs, .int s_t_writer_fixed_first_60, .int s_t_writer_fixed_end_59])), (a_t_writer_fixed_limbs, .inl (c_t_writer_fixed_limbs, n_t_writer_fixed_limbs, .inl e_t_writer_fixed_limbs_61)), (a_t_writer_decimal, .inr (0, [.ref a_t_writer_decimal_digits, .int s_t_writer_decimal_count_62, .int s_t_writer_decimal_point_63])), (a_t_writer_decimal_digits, .inl (c_t_writer_decimal_digits, n_t_writer_decimal_digits, .inl e_t_writer_decimal_digits_64)), (a_t_numbers, .inl (c_t_numbers, n_t_numbers, .inr (.inl e_t_numbers))), (a_t_texts, .inr (5, [.ref a_t_texts_characters, .int s_t_texts_length_65])), (a_t_texts_characters, .inl (c_t_texts_characters, n_t_texts_characters, .inl e_t_texts_characters_66)), (a_t_ends, .inl (c_t_ends, n_t_ends, .inl e_t_ends_67))] := hD
          replace h := Option.some.inj h
          replace h := Prod.mk.inj h
          obtain ⟨h1, h⟩ := h
          subst h1
          replace h := Prod.mk.inj h
          obtain ⟨h1, h⟩ := h
          subst h1
          replace h := Prod.mk.inj h
          obtain ⟨h1, h⟩ := h
          subst h1
          replace h := Prod.mk.inj h
          obtain ⟨h1, h⟩ := h
          subst h1
          replace h := Prod.mk.inj h
          obtain ⟨h1, h⟩ := h
          subst h1
          replace h := Prod.mk.inj h
          obtain ⟨h1, h⟩ := h
          subst h1
          replace h := Prod.mk.inj h
          obtain ⟨h1, h⟩ := h
          subst h1
          replace h := Prod.mk.inj h
          obtain ⟨h1, h⟩ := h
          subst h1
          subst h
          exact hJ_49 _ _ _ (hP.sub [1, 2, 3, 4, 5, 6, 7, 8, 9, 10, 0] rfl) (hD.sub [1, 2, 3, 4, 5, 6, 7, 8, 9, 10, 0] (by decide) rfl) hS (lv_sub hl [1, 2, 3] rfl)
  exact hL_26 xF _ _ _ _ _ _ _ _ _ _ _ _ _ _ _ hlp_24 hP hD hS (lv_sub hl [1, 2, 0] rfl)
