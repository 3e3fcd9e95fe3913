def t_NT_read (n_t_text_characters : Nat) (n_t_numeral_decimal_digits : Nat) (n_t_numeral_nearest_fixed_limbs : Nat) (s_t_wrongPlace : Int32) (s_t_text_length : Int32) (e_t_text_characters : Nat → Int32) (s_t_numeral_state : Int32) (s_t_numeral_negative : Int32) (s_t_numeral_exponentNegative : Int32) (s_t_numeral_exponent : Int32) (s_t_numeral_decimal_count : Int32) (s_t_numeral_decimal_point : Int32) (e_t_numeral_decimal_digits : Nat → Int32) (s_t_numeral_nearest_power : Int32) (s_t_numeral_nearest_fixed_first : Int32) (s_t_numeral_nearest_fixed_end : Int32) (e_t_numeral_nearest_fixed_limbs : Nat → Int32) : Option (Int32 × Int32 × Int32 × Int32 × Int32 × Int32 × Int32 × Int32 × (Nat → Int32) × Int32 × Int32 × Int32 × (Nat → Int32)) :=
  xob (f_Numeral_scan n_t_numeral_decimal_digits n_t_text_characters s_t_numeral_state s_t_numeral_negative s_t_numeral_exponentNegative s_t_numeral_exponent s_t_numeral_decimal_count s_t_numeral_decimal_point e_t_numeral_decimal_digits s_t_text_length e_t_text_characters) fun (r_1, s_t_numeral_exponent_2, s_t_numeral_exponentNegative_3, s_t_numeral_negative_4, s_t_numeral_state_5, s_t_numeral_decimal_count_6, s_t_numeral_decimal_point_7, e_t_numeral_decimal_digits_8) => if r_1 = (-1 : Int32) then (xob (f_Text_clear s_t_text_length) fun s_t_text_length_11 => xob (f_Numeral_bits n_t_numeral_decimal_digits n_t_numeral_nearest_fixed_limbs s_t_numeral_state_5 s_t_numeral_negative_4 s_t_numeral_exponentNegative_3 s_t_numeral_exponent_2 s_t_numeral_decimal_count_6 s_t_numeral_decimal_point_7 e_t_numeral_decimal_digits_8 s_t_numeral_nearest_power s_t_numeral_nearest_fixed_first s_t_numeral_nearest_fixed_end e_t_numeral_nearest_fixed_limbs) fun (r_13, s_t_numeral_decimal_count_14, s_t_numeral_decimal_point_15, s_t_numeral_nearest_power_16, s_t_numeral_nearest_fixed_end_17, s_t_numeral_nearest_fixed_first_18, e_t_numeral_nearest_fixed_limbs_19) => none) else (some (r_1, s_t_text_length, s_t_numeral_exponent_2, s_t_numeral_exponentNegative_3, s_t_numeral_negative_4, s_t_numeral_state_5, s_t_numeral_decimal_count_6, s_t_numeral_decimal_point_7, e_t_numeral_decimal_digits_8, s_t_numeral_nearest_power, s_t_numeral_nearest_fixed_end, s_t_numeral_nearest_fixed_first, e_t_numeral_nearest_fixed_limbs))
def rmt_NT_read : Room := { frames := 7, cells := 1, slots := 6, locals := 158 }
set_option maxHeartbeats 4000000 in
set_option maxRecDepth 100000 in
theorem ct_NT_read (l : Launch) (htr : l.stackTraces = false) (dC : Nat → ClassId) (dI : Nat → Nat → Nat) (a_t a_t_text a_t_numeral a_t_writer a_t_grid a_t_text_characters a_t_numeral_decimal a_t_numeral_nearest a_t_numeral_decimal_digits a_t_numeral_nearest_fixed a_t_numeral_nearest_fixed_limbs : Nat) (c_t_text_characters c_t_numeral_decimal_digits c_t_numeral_nearest_fixed_limbs : ClassId) (n_t_text_characters : Nat) (n_t_numeral_decimal_digits : Nat) (n_t_numeral_nearest_fixed_limbs : Nat) (s_t_wrongPlace : Int32) (s_t_text_length : Int32) (e_t_text_characters : Nat → Int32) (s_t_numeral_state : Int32) (s_t_numeral_negative : Int32) (s_t_numeral_exponentNegative : Int32) (s_t_numeral_exponent : Int32) (s_t_numeral_decimal_count : Int32) (s_t_numeral_decimal_point : Int32) (e_t_numeral_decimal_digits : Nat → Int32) (s_t_numeral_nearest_power : Int32) (s_t_numeral_nearest_fixed_first : Int32) (s_t_numeral_nearest_fixed_end : Int32) (e_t_numeral_nearest_fixed_limbs : Nat → Int32) (s_t_wrongPlace_o : Int32) (s_t_text_length_o : Int32) (s_t_numeral_exponent_o : Int32) (s_t_numeral_exponentNegative_o : Int32) (s_t_numeral_negative_o : Int32) (s_t_numeral_state_o : Int32) (s_t_numeral_decimal_count_o : Int32) (s_t_numeral_decimal_point_o : Int32) (e_t_numeral_decimal_digits_o : Nat → Int32) (s_t_numeral_nearest_power_o : Int32) (s_t_numeral_nearest_fixed_end_o : Int32) (s_t_numeral_nearest_fixed_first_o : Int32) (e_t_numeral_nearest_fixed_limbs_o : Nat → Int32) (h : t_NT_read n_t_text_characters n_t_numeral_decimal_digits n_t_numeral_nearest_fixed_limbs s_t_wrongPlace s_t_text_length e_t_text_characters s_t_numeral_state s_t_numeral_negative s_t_numeral_exponentNegative s_t_numeral_exponent s_t_numeral_decimal_count s_t_numeral_decimal_point e_t_numeral_decimal_digits s_t_numeral_nearest_power s_t_numeral_nearest_fixed_first s_t_numeral_nearest_fixed_end e_t_numeral_nearest_fixed_limbs = some (s_t_wrongPlace_o, s_t_text_length_o, s_t_numeral_exponent_o, s_t_numeral_exponentNegative_o, s_t_numeral_negative_o, s_t_numeral_state_o, s_t_numeral_decimal_count_o, s_t_numeral_decimal_point_o, e_t_numeral_decimal_digits_o, s_t_numeral_nearest_power_o, s_t_numeral_nearest_fixed_end_o, s_t_numeral_nearest_fixed_first_o, e_t_numeral_nearest_fixed_limbs_o)) : xTh l y_NT_read (Cond.code y_NT_read b_NT_read 2 (some .long) :: xG) rmt_NT_read (dC, dI) x_cl x_nz [.ref a_t] [(c_t_text_characters, .byte), (c_t_numeral_decimal_digits, .byte), (c_t_numeral_nearest_fixed_limbs, .int)] [(a_t, .inr (7, [.ref a_t_text, .ref a_t_numeral, .ref a_t_writer, .ref a_t_grid, .int s_t_wrongPlace])), (a_t_text, .inr (5, [.ref a_t_text_characters, .int s_t_text_length])), (a_t_text_characters, .inl (c_t_text_characters, n_t_text_characters, .inl e_t_text_characters)), (a_t_numeral, .inr (3, [.ref a_t_numeral_decimal, .ref a_t_numeral_nearest, .int s_t_numeral_state, .int s_t_numeral_negative, .int s_t_numeral_exponentNegative, .int s_t_numeral_exponent])), (a_t_numeral_decimal, .inr (0, [.ref a_t_numeral_decimal_digits, .int s_t_numeral_decimal_count, .int s_t_numeral_decimal_point])), (a_t_numeral_decimal_digits, .inl (c_t_numeral_decimal_digits, n_t_numeral_decimal_digits, .inl e_t_numeral_decimal_digits)), (a_t_numeral_nearest, .inr (2, [.ref a_t_numeral_nearest_fixed, .int s_t_numeral_nearest_power])), (a_t_numeral_nearest_fixed, .inr (1, [.ref a_t_numeral_nearest_fixed_limbs, .int s_t_numeral_nearest_fixed_first, .int s_t_numeral_nearest_fixed_end])), (a_t_numeral_nearest_fixed_limbs, .inl (c_t_numeral_nearest_fixed_limbs, n_t_numeral_nearest_fixed_limbs, .inl e_t_numeral_nearest_fixed_limbs))] [(a_t, .inr (7, [.ref a_t_text, .ref a_t_numeral, .ref a_t_writer, .ref a_t_grid, .int s_t_wrongPlace_o])), (a_t_text, .inr (5, [.ref a_t_text_characters, .int s_t_text_length_o])), (a_t_text_characters, .inl (c_t_text_characters, n_t_text_characters, .inl e_t_text_characters)), (a_t_numeral, .inr (3, [.ref a_t_numeral_decimal, .ref a_t_numeral_nearest, .int s_t_numeral_state_o, .int s_t_numeral_negative_o, .int s_t_numeral_exponentNegative_o, .int s_t_numeral_exponent_o])), (a_t_numeral_decimal, .inr (0, [.ref a_t_numeral_decimal_digits, .int s_t_numeral_decimal_count_o, .int s_t_numeral_decimal_point_o])), (a_t_numeral_decimal_digits, .inl (c_t_numeral_decimal_digits, n_t_numeral_decimal_digits, .inl e_t_numeral_decimal_digits_o)), (a_t_numeral_nearest, .inr (2, [.ref a_t_numeral_nearest_fixed, .int s_t_numeral_nearest_power_o])), (a_t_numeral_nearest_fixed, .inr (1, [.ref a_t_numeral_nearest_fixed_limbs, .int s_t_numeral_nearest_fixed_first_o, .int s_t_numeral_nearest_fixed_end_o])), (a_t_numeral_nearest_fixed_limbs, .inl (c_t_numeral_nearest_fixed_limbs, n_t_numeral_nearest_fixed_limbs, .inl e_t_numeral_nearest_fixed_limbs_o))] xIA := by
  unfold t_NT_read at h
  refine xTh.mk (cc := b_NT_read) (maxL := 2) htr rfl (by decide +kernel) rfl (Nat.le_of_ble_eq_true rfl) ⟨rfl, rfl, Nat.le_of_ble_eq_true rfl, Nat.le_of_ble_eq_true rfl⟩ ?_
  intro p e s m args below meth c A Q ls hx hb hml hown hts hNz hA hP hD hK hl hret
  have hS : va_S A s.heap s.heap [] := va_S.rf
  have hl : lv_has ls 2 [(0, .ref a_t)] := hl
  refine lv_aload_n hx hb d_NT_read_0 rfl (lv_at hl 0 rfl) ?_
  refine va_get (D := (dC, dI)) (ci := 7) (v := .ref a_t_numeral) (C := R_NT) (T := T_NT) (N := 5) hx hb hts in_NT hown hK hP 0 rfl rfl 1 (by decide) (hts _ g_171) (fun _ h9 => h9) rfl d_NT_read_1 ?_
  refine lv_aload_n hx hb d_NT_read_4 rfl (lv_at hl 0 rfl) ?_
  refine va_get (D := (dC, dI)) (ci := 7) (v := .ref a_t_text) (C := R_NT) (T := T_NT) (N := 5) hx hb hts in_NT hown hK hP 0 rfl rfl 0 (by decide) (hts _ g_170) (fun _ h9 => h9) rfl d_NT_read_5 ?_
  replace h := xob_s h
  obtain ⟨⟨r_1, s_t_numeral_exponent_2, s_t_numeral_exponentNegative_3, s_t_numeral_negative_4, s_t_numeral_state_5, s_t_numeral_decimal_count_6, s_t_numeral_decimal_point_7, e_t_numeral_decimal_digits_8⟩, hc_9, h⟩ := h
  try dsimp only at h
  refine xcV (As := [.ref a_t_text]) (rest := []) (st1 := [.int r_1]) (wr := [(a_t, .inr (7, [.ref a_t_text, .ref a_t_numeral, .ref a_t_writer, .ref a_t_grid, .int s_t_wrongPlace])), (a_t_numeral_nearest, .inr (2, [.ref a_t_numeral_nearest_fixed, .int s_t_numeral_nearest_power])), (a_t_numeral_nearest_fixed, .inr (1, [.ref a_t_numeral_nearest_fixed_limbs, .int s_t_numeral_nearest_fixed_first, .int s_t_numeral_nearest_fixed_end])), (a_t_numeral_nearest_fixed_limbs, .inl (c_t_numeral_nearest_fixed_limbs, n_t_numeral_nearest_fixed_limbs, .inl e_t_numeral_nearest_fixed_limbs))]) ⟨hx, hb, hml, hown, hts⟩ (c_Numeral_scan l dC dI a_t_numeral a_t_text a_t_numeral_decimal a_t_numeral_nearest a_t_numeral_decimal_digits a_t_text_characters c_t_numeral_decimal_digits c_t_text_characters n_t_numeral_decimal_digits n_t_text_characters s_t_numeral_state s_t_numeral_negative s_t_numeral_exponentNegative s_t_numeral_exponent s_t_numeral_decimal_count s_t_numeral_decimal_point e_t_numeral_decimal_digits s_t_text_length e_t_text_characters r_1 s_t_numeral_exponent_2 s_t_numeral_exponentNegative_3 s_t_numeral_negative_4 s_t_numeral_state_5 s_t_numeral_decimal_count_6 s_t_numeral_decimal_point_7 e_t_numeral_decimal_digits_8 hc_9) (cwV 1 hts (xgoodV g_422 g_423 g_424 g_5 g_425) rfl rfl rfl (by decide +kernel) ⟨Nat.le_of_ble_eq_true rfl, Nat.le_of_ble_eq_true rfl⟩) hNz (ci := 3) (q0 := 3) rfl rfl hA hP hD hS hK [3, 4, 5, 1, 2] [0, 6, 7, 8] [1, 0] rfl rfl rfl rfl (by decide) rfl rfl rfl rfl hl.1 (Nat.le_of_ble_eq_true rfl) ⟨Nat.zero_le _, Nat.zero_le _⟩ d_NT_read_8 (fun H locs hP hD hS => ?_)
  have hP : va_P (dC, dI) x_cl [(a_t, .inr (7, [.ref a_t_text, .ref a_t_numeral, .ref a_t_writer, .ref a_t_grid, .int s_t_wrongPlace])), (a_t_numeral_nearest, .inr (2, [.ref a_t_numeral_nearest_fixed, .int s_t_numeral_nearest_power])), (a_t_numeral_nearest_fixed, .inr (1, [.ref a_t_numeral_nearest_fixed_limbs, .int s_t_numeral_nearest_fixed_first, .int s_t_numeral_nearest_fixed_end])), (a_t_numeral_nearest_fixed_limbs, .inl (c_t_numeral_nearest_fixed_limbs, n_t_numeral_nearest_fixed_limbs, .inl e_t_numeral_nearest_fixed_limbs)), (a_t_numeral, .inr (3, [.ref a_t_numeral_decimal, .ref a_t_numeral_nearest, .int s_t_numeral_state_5, .int s_t_numeral_negative_4, .int s_t_numeral_exponentNegative_3, .int s_t_numeral_exponent_2])), (a_t_numeral_decimal, .inr (0, [.ref a_t_numeral_decimal_digits, .int s_t_numeral_decimal_count_6, .int s_t_numeral_decimal_point_7])), (a_t_numeral_decimal_digits, .inl (c_t_numeral_decimal_digits, n_t_numeral_decimal_digits, .inl e_t_numeral_decimal_digits_8)), (a_t_text, .inr (5, [.ref a_t_text_characters, .int s_t_text_length])), (a_t_text_characters, .inl (c_t_text_characters, n_t_text_characters, .inl e_t_text_characters))] H := hP
  have hD : va_D A [(a_t, .inr (7, [.ref a_t_text, .ref a_t_numeral, .ref a_t_writer, .ref a_t_grid, .int s_t_wrongPlace])), (a_t_numeral_nearest, .inr (2, [.ref a_t_numeral_nearest_fixed, .int s_t_numeral_nearest_power])), (a_t_numeral_nearest_fixed, .inr (1, [.ref a_t_numeral_nearest_fixed_limbs, .int s_t_numeral_nearest_fixed_first, .int s_t_numeral_nearest_fixed_end])), (a_t_numeral_nearest_fixed_limbs, .inl (c_t_numeral_nearest_fixed_limbs, n_t_numeral_nearest_fixed_limbs, .inl e_t_numeral_nearest_fixed_limbs)), (a_t_numeral, .inr (3, [.ref a_t_numeral_decimal, .ref a_t_numeral_nearest, .int s_t_numeral_state_5, .int s_t_numeral_negative_4, .int s_t_numeral_exponentNegative_3, .int s_t_numeral_exponent_2])), (a_t_numeral_decimal, .inr (0, [.ref a_t_numeral_decimal_digits, .int s_t_numeral_decimal_count_6, .int s_t_numeral_decimal_point_7])), (a_t_numeral_decimal_digits, .inl (c_t_numeral_decimal_digits, n_t_numeral_decimal_digits, .inl e_t_numeral_decimal_digits_8)), (a_t_text, .inr (5, [.ref a_t_text_characters, .int s_t_text_length])), (a_t_text_characters, .inl (c_t_text_characters, n_t_text_characters, .inl e_t_text_characters))] := hD
  refine lv_istore_n (lv' := [(1, .int r_1), (0, .ref a_t)]) hx hb d_NT_read_11 rfl hl (by decide) rfl (fun ls hl => ?_)
  refine lv_iload_n hx hb d_NT_read_12 rfl (lv_at hl 0 rfl) ?_
  refine lv_iconst (v := -1) hx hb d_NT_read_13 (by decide) ?_
  refine lv_icmp_eq (tgt := 32) hx hb d_NT_read_14 (by decide) (fun c_10 => ?_) (fun c_10 => ?_)
  · rw [if_pos c_10] at h
    refine lv_aload_n hx hb d_NT_read_32 rfl (lv_at hl 1 rfl) ?_
    refine va_get (D := (dC, dI)) (ci := 7) (v := .ref a_t_text) (C := R_NT) (T := T_NT) (N := 5) hx hb hts in_NT hown hK hP 0 rfl rfl 0 (by decide) (hts _ g_170) (fun _ h9 => h9) rfl d_NT_read_33 ?_
    replace h := xob_s h
    obtain ⟨s_t_text_length_11, hc_12, h⟩ := h
    try dsimp only at h
    refine xcV (As := []) (rest := []) (st1 := []) (wr := [(a_t, .inr (7, [.ref a_t_text, .ref a_t_numeral, .ref a_t_writer, .ref a_t_grid, .int s_t_wrongPlace])), (a_t_numeral_nearest, .inr (2, [.ref a_t_numeral_nearest_fixed, .int s_t_numeral_nearest_power])), (a_t_numeral_nearest_fixed, .inr (1, [.ref a_t_numeral_nearest_fixed_limbs, .int s_t_numeral_nearest_fixed_first, .int s_t_numeral_nearest_fixed_end])), (a_t_numeral_nearest_fixed_limbs, .inl (c_t_numeral_nearest_fixed_limbs, n_t_numeral_nearest_fixed_limbs, .inl e_t_numeral_nearest_fixed_limbs)), (a_t_numeral, .inr (3, [.ref a_t_numeral_decimal, .ref a_t_numeral_nearest, .int s_t_numeral_state_5, .int s_t_numeral_negative_4, .int s_t_numeral_exponentNegative_3, .int s_t_numeral_exponent_2])), (a_t_numeral_decimal, .inr (0, [.ref a_t_numeral_decimal_digits, .int s_t_numeral_decimal_count_6, .int s_t_numeral_decimal_point_7])), (a_t_numeral_decimal_digits, .inl (c_t_numeral_decimal_digits, n_t_numeral_decimal_digits, .inl e_t_numeral_decimal_digits_8)), (a_t_text_characters, .inl (c_t_text_characters, n_t_text_characters, .inl e_t_text_characters))]) ⟨hx, hb, hml, hown, hts⟩ (c_Text_clear l dC dI a_t_text a_t_text_characters s_t_text_length s_t_text_length_11 hc_12) (cwV 0 hts (xgoodV g_205 g_206 g_207 g_2 g_208) rfl rfl rfl (by decide +kernel) ⟨Nat.le_of_ble_eq_true rfl, Nat.le_of_ble_eq_true rfl⟩) hNz (ci := 5) (q0 := 7) rfl rfl hA hP hD hS hK [7] [0, 1, 2, 3, 4, 5, 6, 8] [] rfl rfl rfl rfl (by decide) rfl rfl rfl rfl hl.1 (Nat.le_of_ble_eq_true rfl) ⟨Nat.zero_le _, Nat.zero_le _⟩ d_NT_read_36 (fun H locs hP hD hS => ?_)
    have hP : va_P (dC, dI) x_cl [(a_t, .inr (7, [.ref a_t_text, .ref a_t_numeral, .ref a_t_writer, .ref a_t_grid, .int s_t_wrongPlace])), (a_t_numeral_nearest, .inr (2, [.ref a_t_numeral_nearest_fixed, .int s_t_numeral_nearest_power])), (a_t_numeral_nearest_fixed, .inr (1, [.ref a_t_numeral_nearest_fixed_limbs, .int s_t_numeral_nearest_fixed_first, .int s_t_numeral_nearest_fixed_end])), (a_t_numeral_nearest_fixed_limbs, .inl (c_t_numeral_nearest_fixed_limbs, n_t_numeral_nearest_fixed_limbs, .inl e_t_numeral_nearest_fixed_limbs)), (a_t_numeral, .inr (3, [.ref a_t_numeral_decimal, .ref a_t_numeral_nearest, .int s_t_numeral_state_5, .int s_t_numeral_negative_4, .int s_t_numeral_exponentNegative_3, .int s_t_numeral_exponent_2])), (a_t_numeral_decimal, .inr (0, [.ref a_t_numeral_decimal_digits, .int s_t_numeral_decimal_count_6, .int s_t_numeral_decimal_point_7])), (a_t_numeral_decimal_digits, .inl (c_t_numeral_decimal_digits, n_t_numeral_decimal_digits, .inl e_t_numeral_decimal_digits_8)), (a_t_text_characters, .inl (c_t_text_characters, n_t_text_characters, .inl e_t_text_characters)), (a_t_text, .inr (5, [.ref a_t_text_characters, .int s_t_text_length_11]))] H := hP
    have hD : va_D A [(a_t, .inr (7, [.ref a_t_text, .ref a_t_numeral, .ref a_t_writer, .ref a_t_grid, .int s_t_wrongPlace])), (a_t_numeral_nearest, .inr (2, [.ref a_t_numeral_nearest_fixed, .int s_t_numeral_nearest_power])), (a_t_numeral_nearest_fixed, .inr (1, [.ref a_t_numeral_nearest_fixed_limbs, .int s_t_numeral_nearest_fixed_first, .int s_t_numeral_nearest_fixed_end])), (a_t_numeral_nearest_fixed_limbs, .inl (c_t_numeral_nearest_fixed_limbs, n_t_numeral_nearest_fixed_limbs, .inl e_t_numeral_nearest_fixed_limbs)), (a_t_numeral, .inr (3, [.ref a_t_numeral_decimal, .ref a_t_numeral_nearest, .int s_t_numeral_state_5, .int s_t_numeral_negative_4, .int s_t_numeral_exponentNegative_3, .int s_t_numeral_exponent_2])), (a_t_numeral_decimal, .inr (0, [.ref a_t_numeral_decimal_digits, .int s_t_numeral_decimal_count_6, .int s_t_numeral_decimal_point_7])), (a_t_numeral_decimal_digits, .inl (c_t_numeral_decimal_digits, n_t_numeral_decimal_digits, .inl e_t_numeral_decimal_digits_8)), (a_t_text_characters, .inl (c_t_text_characters, n_t_text_characters, .inl e_t_text_characters)), (a_t_text, .inr (5, [.ref a_t_text_characters, .int s_t_text_length_11]))] := hD
    refine lv_aload_n hx hb d_NT_read_39 rfl (lv_at hl 1 rfl) ?_
    refine va_get (D := (dC, dI)) (ci := 7) (v := .ref a_t_numeral) (C := R_NT) (T := T_NT) (N := 5) hx hb hts in_NT hown hK hP 0 rfl rfl 1 (by decide) (hts _ g_171) (fun _ h9 => h9) rfl d_NT_read_40 ?_
    replace h := xob_s h
    obtain ⟨⟨r_13, s_t_numeral_decimal_count_14, s_t_numeral_decimal_point_15, s_t_numeral_nearest_power_16, s_t_numeral_nearest_fixed_end_17, s_t_numeral_nearest_fixed_first_18, e_t_numeral_nearest_fixed_limbs_19⟩, hc_20, h⟩ := h
    try dsimp only at h
    refine xcV (As := []) (rest := []) (st1 := [.long r_13]) (wr := [(a_t, .inr (7, [.ref a_t_text, .ref a_t_numeral, .ref a_t_writer, .ref a_t_grid, .int s_t_wrongPlace])), (a_t_text_characters, .inl (c_t_text_characters, n_t_text_characters, .inl e_t_text_characters)), (a_t_text, .inr (5, [.ref a_t_text_characters, .int s_t_text_length_11]))]) ⟨hx, hb, hml, hown, hts⟩ (c_Numeral_bits l dC dI a_t_numeral a_t_numeral_decimal a_t_numeral_nearest a_t_numeral_decimal_digits a_t_numeral_nearest_fixed a_t_numeral_nearest_fixed_limbs c_t_numeral_decimal_digits c_t_numeral_nearest_fixed_limbs n_t_numeral_decimal_digits n_t_numeral_nearest_fixed_limbs s_t_numeral_state_5 s_t_numeral_negative_4 s_t_numeral_exponentNegative_3 s_t_numeral_exponent_2 s_t_numeral_decimal_count_6 s_t_numeral_decimal_point_7 e_t_numeral_decimal_digits_8 s_t_numeral_nearest_power s_t_numeral_nearest_fixed_first s_t_numeral_nearest_fixed_end e_t_numeral_nearest_fixed_limbs r_13 s_t_numeral_decimal_count_14 s_t_numeral_decimal_point_15 s_t_numeral_nearest_power_16 s_t_numeral_nearest_fixed_end_17 s_t_numeral_nearest_fixed_first_18 e_t_numeral_nearest_fixed_limbs_19 hc_20) (cwV 0 hts (xgoodV g_522 g_523 g_524 g_5 g_525) rfl rfl rfl (by decide +kernel) ⟨Nat.le_of_ble_eq_true rfl, Nat.le_of_ble_eq_true rfl⟩) hNz (ci := 3) (q0 := 4) rfl rfl hA hP hD hS hK [4, 5, 6, 1, 2, 3] [0, 7, 8] [1, 2] rfl rfl rfl rfl (by decide) rfl rfl rfl rfl hl.1 (Nat.le_of_ble_eq_true rfl) ⟨Nat.zero_le _, Nat.zero_le _⟩ d_NT_read_43 (fun H locs hP hD hS => ?_)
    have hP : va_P (dC, dI) x_cl [(a_t, .inr (7, [.ref a_t_text, .ref a_t_numeral, .ref a_t_writer, .ref a_t_grid, .int s_t_wrongPlace])), (a_t_text_characters, .inl (c_t_text_characters, n_t_text_characters, .inl e_t_text_characters)), (a_t_text, .inr (5, [.ref a_t_text_characters, .int s_t_text_length_11])), (a_t_numeral, .inr (3, [.ref a_t_numeral_decimal, .ref a_t_numeral_nearest, .int s_t_numeral_state_5, .int s_t_numeral_negative_4, .int s_t_numeral_exponentNegative_3, .int s_t_numeral_exponent_2])), (a_t_numeral_decimal, .inr (0, [.ref a_t_numeral_decimal_digits, .int s_t_numeral_decimal_count_14, .int s_t_numeral_decimal_point_15])), (a_t_numeral_decimal_digits, .inl (c_t_numeral_decimal_digits, n_t_numeral_decimal_digits, .inl e_t_numeral_decimal_digits_8)), (a_t_numeral_nearest, .inr (2, [.ref a_t_numeral_nearest_fixed, .int s_t_numeral_nearest_power_16])), (a_t_numeral_nearest_fixed, .inr (1, [.ref a_t_numeral_nearest_fixed_limbs, .int s_t_numeral_nearest_fixed_first_18, .int s_t_numeral_nearest_fixed_end_17])), (a_t_numeral_nearest_fixed_limbs, .inl (c_t_numeral_nearest_fixed_limbs, n_t_numeral_nearest_fixed_limbs, .inl e_t_numeral_nearest_fixed_limbs_19))] H := hP
    have hD : va_D A [(a_t, .inr (7, [.ref a_t_text, .ref a_t_numeral, .ref a_t_writer, .ref a_t_grid, .int s_t_wrongPlace])), (a_t_text_characters, .inl (c_t_text_characters, n_t_text_characters, .inl e_t_text_characters)), (a_t_text, .inr (5, [.ref a_t_text_characters, .int s_t_text_length_11])), (a_t_numeral, .inr (3, [.ref a_t_numeral_decimal, .ref a_t_numeral_nearest, .int s_t_numeral_state_5, .int s_t_numeral_negative_4, .int s_t_numeral_exponentNegative_3, .int s_t_numeral_exponent_2])), (a_t_numeral_decimal, .inr (0, [.ref a_t_numeral_decimal_digits, .int s_t_numeral_decimal_count_14, .int s_t_numeral_decimal_point_15])), (a_t_numeral_decimal_digits, .inl (c_t_numeral_decimal_digits, n_t_numeral_decimal_digits, .inl e_t_numeral_decimal_digits_8)), (a_t_numeral_nearest, .inr (2, [.ref a_t_numeral_nearest_fixed, .int s_t_numeral_nearest_power_16])), (a_t_numeral_nearest_fixed, .inr (1, [.ref a_t_numeral_nearest_fixed_limbs, .int s_t_numeral_nearest_fixed_first_18, .int s_t_numeral_nearest_fixed_end_17])), (a_t_numeral_nearest_fixed_limbs, .inl (c_t_numeral_nearest_fixed_limbs, n_t_numeral_nearest_fixed_limbs, .inl e_t_numeral_nearest_fixed_limbs_19))] := hD
    cases h
  · rw [if_neg c_10] at h
    refine lv_aload_n hx hb d_NT_read_17 rfl (lv_at hl 1 rfl) ?_
    refine lv_iload_n hx hb d_NT_read_18 rfl (lv_at hl 0 rfl) ?_
    refine va_put (D := (dC, dI)) (ci := 7) (v := .int r_1) (ty := .int) (C := R_NT) (T := T_NT) (N := 5) hx hb hts in_NT ty_NT tyok_NT nn_NT hown hK hP hD hS 0 rfl rfl 4 (by decide) (hts _ g_174) (fun _ h9 => h9) rfl (by decide +kernel) rfl rfl (Nat.le_of_ble_eq_true rfl) d_NT_read_19 (fun H locs hP hD hS => ?_)
    have hP : va_P (dC, dI) x_cl [(a_t, .inr (7, [.ref a_t_text, .ref a_t_numeral, .ref a_t_writer, .ref a_t_grid, .int r_1])), (a_t_numeral_nearest, .inr (2, [.ref a_t_numeral_nearest_fixed, .int s_t_numeral_nearest_power])), (a_t_numeral_nearest_fixed, .inr (1, [.ref a_t_numeral_nearest_fixed_limbs, .int s_t_numeral_nearest_fixed_first, .int s_t_numeral_nearest_fixed_end])), (a_t_numeral_nearest_fixed_limbs, .inl (c_t_numeral_nearest_fixed_limbs, n_t_numeral_nearest_fixed_limbs, .inl e_t_numeral_nearest_fixed_limbs)), (a_t_numeral, .inr (3, [.ref a_t_numeral_decimal, .ref a_t_numeral_nearest, .int s_t_numeral_state_5, .int s_t_numeral_negative_4, .int s_t_numeral_exponentNegative_3, .int s_t_numeral_exponent_2])), (a_t_numeral_decimal, .inr (0, [.ref a_t_numeral_decimal_digits, .int s_t_numeral_decimal_count_6, .int s_t_numeral_decimal_point_7])), (a_t_numeral_decimal_digits, .inl (c_t_numeral_decimal_digits, n_t_numeral_decimal_digits, .inl e_t_numeral_decimal_digits_8)), (a_t_text, .inr (5, [.ref a_t_text_characters, .int s_t_text_length])), (a_t_text_characters, .inl (c_t_text_characters, n_t_text_characters, .inl e_t_text_characters))] H := hP
    have hD : va_D A [(a_t, .inr (7, [.ref a_t_text, .ref a_t_numeral, .ref a_t_writer, .ref a_t_grid, .int r_1])), (a_t_numeral_nearest, .inr (2, [.ref a_t_numeral_nearest_fixed, .int s_t_numeral_nearest_power])), (a_t_numeral_nearest_fixed, .inr (1, [.ref a_t_numeral_nearest_fixed_limbs, .int s_t_numeral_nearest_fixed_first, .int s_t_numeral_nearest_fixed_end])), (a_t_numeral_nearest_fixed_limbs, .inl (c_t_numeral_nearest_fixed_limbs, n_t_numeral_nearest_fixed_limbs, .inl e_t_numeral_nearest_fixed_limbs)), (a_t_numeral, .inr (3, [.ref a_t_numeral_decimal, .ref a_t_numeral_nearest, .int s_t_numeral_state_5, .int s_t_numeral_negative_4, .int s_t_numeral_exponentNegative_3, .int s_t_numeral_exponent_2])), (a_t_numeral_decimal, .inr (0, [.ref a_t_numeral_decimal_digits, .int s_t_numeral_decimal_count_6, .int s_t_numeral_decimal_point_7])), (a_t_numeral_decimal_digits, .inl (c_t_numeral_decimal_digits, n_t_numeral_decimal_digits, .inl e_t_numeral_decimal_digits_8)), (a_t_text, .inr (5, [.ref a_t_text_characters, .int s_t_text_length])), (a_t_text_characters, .inl (c_t_text_characters, n_t_text_characters, .inl e_t_text_characters))] := hD
    replace h := Option.some.inj h
    replace h := Prod.mk.inj h
    obtain ⟨h1, h⟩ := h
    subst h1
    replace h := Prod.mk.inj h
    obtain ⟨h1, h⟩ := h
    subst h1
    replace h := Prod.mk.inj h
    obtain ⟨h1, h⟩ := h
    subst h1
    replace h := Prod.mk.inj h
    obtain ⟨h1, h⟩ := h
    subst h1
    replace h := Prod.mk.inj h
    obtain ⟨h1, h⟩ := h
    subst h1
    replace h := Prod.mk.inj h
    obtain ⟨h1, h⟩ := h
    subst h1
    replace h := Prod.mk.inj h
    obtain ⟨h1, h⟩ := h
    subst h1
    replace h := Prod.mk.inj h
    obtain ⟨h1, h⟩ := h
    subst h1
    replace h := Prod.mk.inj h
    obtain ⟨h1, h⟩ := h
    subst h1
    replace h := Prod.mk.inj h
    obtain ⟨h1, h⟩ := h
    subst h1
    replace h := Prod.mk.inj h
    obtain ⟨h1, h⟩ := h
    subst h1
    replace h := Prod.mk.inj h
    obtain ⟨h1, h⟩ := h
    subst h1
    subst h
    exact hret _ _ (hP.sub [0, 7, 8, 4, 5, 6, 1, 2, 3] rfl) (hD.sub [0, 7, 8, 4, 5, 6, 1, 2, 3] (by decide) rfl) hS _ _ _ _ _ "the text is no numeral" hl.1 (Or.inl ⟨rfl, rfl, rfl⟩) (by decide) d_NT_read_22 d_NT_read_25 d_NT_read_26 d_NT_read_28 d_NT_read_31
def t_NT_digits (n_t_text_characters : Nat) (n_t_writer_fixed_limbs : Nat) (n_t_writer_decimal_digits : Nat) (s_t_wrongPlace : Int32) (s_t_text_length : Int32) (e_t_text_characters : Nat → Int32) (s_t_writer_fixed_first : Int32) (s_t_writer_fixed_end : Int32) (e_t_writer_fixed_limbs : Nat → Int32) (s_t_writer_decimal_count : Int32) (s_t_writer_decimal_point : Int32) (e_t_writer_decimal_digits : Nat → Int32) (x1 : Int64) (x3 : Int32) : Option (Int32 × (Nat → Int32) × Int32 × Int32 × (Nat → Int32) × Int32 × Int32 × (Nat → Int32)) :=
  if x3 < (1 : Int32) then (some (s_t_text_length, e_t_text_characters, s_t_writer_fixed_end, s_t_writer_fixed_first, e_t_writer_fixed_limbs, s_t_writer_decimal_count, s_t_writer_decimal_point, e_t_writer_decimal_digits)) else (if x3 ≤ (17 : Int32) then (xob (f_Text_clear s_t_text_length) fun s_t_text_length_3 => xob (f_Writer_addRounded n_t_writer_fixed_limbs n_t_writer_decimal_digits n_t_text_characters s_t_writer_fixed_first s_t_writer_fixed_end e_t_writer_fixed_limbs s_t_writer_decimal_count s_t_writer_decimal_point e_t_writer_decimal_digits s_t_text_length_3 e_t_text_characters x1 x3) fun (s_t_writer_fixed_end_5, s_t_writer_fixed_first_6, e_t_writer_fixed_limbs_7, s_t_writer_decimal_count_8, s_t_writer_decimal_point_9, e_t_writer_decimal_digits_10, s_t_text_length_11, e_t_text_characters_12) => xob (f_Text_length s_t_text_length_11) fun r_14 => none) else (some (s_t_text_length, e_t_text_characters, s_t_writer_fixed_end, s_t_writer_fixed_first, e_t_writer_fixed_limbs, s_t_writer_decimal_count, s_t_writer_decimal_point, e_t_writer_decimal_digits)))
def rmt_NT_digits : Room := { frames := 6, cells := 1, slots := 6, locals := 119 }
set_option maxHeartbeats 4000000 in
set_option maxRecDepth 100000 in
theorem ct_NT_digits (l : Launch) (htr : l.stackTraces = false) (dC : Nat → ClassId) (dI : Nat → Nat → Nat) (a_t a_t_text a_t_numeral a_t_writer a_t_grid a_t_text_characters a_t_writer_fixed a_t_writer_decimal a_t_writer_low a_t_writer_high a_t_writer_fixed_limbs a_t_writer_decimal_digits : Nat) (c_t_text_characters c_t_writer_fixed_limbs c_t_writer_decimal_digits : ClassId) (n_t_text_characters : Nat) (n_t_writer_fixed_limbs : Nat) (n_t_writer_decimal_digits : Nat) (s_t_wrongPlace : Int32) (s_t_text_length : Int32) (e_t_text_characters : Nat → Int32) (s_t_writer_fixed_first : Int32) (s_t_writer_fixed_end : Int32) (e_t_writer_fixed_limbs : Nat → Int32) (s_t_writer_decimal_count : Int32) (s_t_writer_decimal_point : Int32) (e_t_writer_decimal_digits : Nat → Int32) (x1 : Int64) (x3 : Int32) (s_t_text_length_o : Int32) (e_t_text_characters_o : Nat → Int32) (s_t_writer_fixed_end_o : Int32) (s_t_writer_fixed_first_o : Int32) (e_t_writer_fixed_limbs_o : Nat → Int32) (s_t_writer_decimal_count_o : Int32) (s_t_writer_decimal_point_o : Int32) (e_t_writer_decimal_digits_o : Nat → Int32) (h : t_NT_digits n_t_text_characters n_t_writer_fixed_limbs n_t_writer_decimal_digits s_t_wrongPlace s_t_text_length e_t_text_characters s_t_writer_fixed_first s_t_writer_fixed_end e_t_writer_fixed_limbs s_t_writer_decimal_count s_t_writer_decimal_point e_t_writer_decimal_digits x1 x3 = some (s_t_text_length_o, e_t_text_characters_o, s_t_writer_fixed_end_o, s_t_writer_fixed_first_o, e_t_writer_fixed_limbs_o, s_t_writer_decimal_count_o, s_t_writer_decimal_point_o, e_t_writer_decimal_digits_o)) : xTh l y_NT_digits (Cond.code y_NT_digits b_NT_digits 4 (some .int) :: xG) rmt_NT_digits (dC, dI) x_cl x_nz [.ref a_t, .long x1, .int x3] [(c_t_text_characters, .byte), (c_t_writer_fixed_limbs, .int), (c_t_writer_decimal_digits, .byte)] [(a_t, .inr (7, [.ref a_t_text, .ref a_t_numeral, .ref a_t_writer, .ref a_t_grid, .int s_t_wrongPlace])), (a_t_text, .inr (5, [.ref a_t_text_characters, .int s_t_text_length])), (a_t_text_characters, .inl (c_t_text_characters, n_t_text_characters, .inl e_t_text_characters)), (a_t_writer, .inr (6, [.ref a_t_writer_fixed, .ref a_t_writer_decimal, .ref a_t_writer_low, .ref a_t_writer_high])), (a_t_writer_fixed, .inr (1, [.ref a_t_writer_fixed_limbs, .int s_t_writer_fixed_first, .int s_t_writer_fixed_end])), (a_t_writer_fixed_limbs, .inl (c_t_writer_fixed_limbs, n_t_writer_fixed_limbs, .inl e_t_writer_fixed_limbs)), (a_t_writer_decimal, .inr (0, [.ref a_t_writer_decimal_digits, .int s_t_writer_decimal_count, .int s_t_writer_decimal_point])), (a_t_writer_decimal_digits, .inl (c_t_writer_decimal_digits, n_t_writer_decimal_digits, .inl e_t_writer_decimal_digits))] [(a_t, .inr (7, [.ref a_t_text, .ref a_t_numeral, .ref a_t_writer, .ref a_t_grid, .int s_t_wrongPlace])), (a_t_text, .inr (5, [.ref a_t_text_characters, .int s_t_text_length_o])), (a_t_text_characters, .inl (c_t_text_characters, n_t_text_characters, .inl e_t_text_characters_o)), (a_t_writer, .inr (6, [.ref a_t_writer_fixed, .ref a_t_writer_decimal, .ref a_t_writer_low, .ref a_t_writer_high])), (a_t_writer_fixed, .inr (1, [.ref a_t_writer_fixed_limbs, .int s_t_writer_fixed_first_o, .int s_t_writer_fixed_end_o])), (a_t_writer_fixed_limbs, .inl (c_t_writer_fixed_limbs, n_t_writer_fixed_limbs, .inl e_t_writer_fixed_limbs_o)), (a_t_writer_decimal, .inr (0, [.ref a_t_writer_decimal_digits, .int s_t_writer_decimal_count_o, .int s_t_writer_decimal_point_o])), (a_t_writer_decimal_digits, .inl (c_t_writer_decimal_digits, n_t_writer_decimal_digits, .inl e_t_writer_decimal_digits_o))] xIA := by
  unfold t_NT_digits at h
  refine xTh.mk (cc := b_NT_digits) (maxL := 4) htr rfl (by decide +kernel) rfl (Nat.le_of_ble_eq_true rfl) ⟨rfl, rfl, Nat.le_of_ble_eq_true rfl, Nat.le_of_ble_eq_true rfl⟩ ?_
  intro p e s m args below meth c A Q ls hx hb hml hown hts hNz hA hP hD hK hl hret
  have hS : va_S A s.heap s.heap [] := va_S.rf
  have hl : lv_has ls 4 [(0, .ref a_t), (1, .long x1), (3, .int x3)] := hl
  refine lv_iload_n hx hb d_NT_digits_0 rfl (lv_at hl 2 rfl) ?_
  refine lv_iconst (v := 1) hx hb d_NT_digits_1 (by decide) ?_
  refine lv_icmp_lt (tgt := 11) hx hb d_NT_digits_2 (by decide) (fun c_1 => ?_) (fun c_1 => ?_)
  · rw [if_pos c_1] at h
    replace h := Option.some.inj h
    replace h := Prod.mk.inj h
    obtain ⟨h1, h⟩ := h
    subst h1
    replace h := Prod.mk.inj h
    obtain ⟨h1, h⟩ := h
    subst h1
    replace h := Prod.mk.inj h
    obtain ⟨h1, h⟩ := h
    subst h1
    replace h := Prod.mk.inj h
    obtain ⟨h1, h⟩ := h
    subst h1
    replace h := Prod.mk.inj h
    obtain ⟨h1, h⟩ := h
    subst h1
    replace h := Prod.mk.inj h
    obtain ⟨h1, h⟩ := h
    subst h1
    replace h := Prod.mk.inj h
    obtain ⟨h1, h⟩ := h
    subst h1
    subst h
    exact hret _ _ hP hD hS _ _ _ _ _ "digits are 1 to 17" hl.1 (Or.inl ⟨rfl, rfl, rfl⟩) (by decide) d_NT_digits_11 d_NT_digits_14 d_NT_digits_15 d_NT_digits_17 d_NT_digits_20
  · rw [if_neg c_1] at h
    refine lv_iload_n hx hb d_NT_digits_5 rfl (lv_at hl 2 rfl) ?_
    refine lv_bipush (v := 17) hx hb d_NT_digits_6 (by decide) ?_
    refine lv_icmp_le (tgt := 21) hx hb d_NT_digits_8 (by decide) (fun c_2 => ?_) (fun c_2 => ?_)
    · rw [if_pos c_2] at h
      refine lv_aload_n hx hb d_NT_digits_21 rfl (lv_at hl 0 rfl) ?_
      refine va_get (D := (dC, dI)) (ci := 7) (v := .ref a_t_text) (C := R_NT) (T := T_NT) (N := 5) hx hb hts in_NT hown hK hP 0 rfl rfl 0 (by decide) (hts _ g_170) (fun _ h9 => h9) rfl d_NT_digits_22 ?_
      replace h := xob_s h
      obtain ⟨s_t_text_length_3, hc_4, h⟩ := h
      try dsimp only at h
      refine xcV (As := []) (rest := []) (st1 := []) (wr := [(a_t, .inr (7, [.ref a_t_text, .ref a_t_numeral, .ref a_t_writer, .ref a_t_grid, .int s_t_wrongPlace])), (a_t_text_characters, .inl (c_t_text_characters, n_t_text_characters, .inl e_t_text_characters)), (a_t_writer, .inr (6, [.ref a_t_writer_fixed, .ref a_t_writer_decimal, .ref a_t_writer_low, .ref a_t_writer_high])), (a_t_writer_fixed, .inr (1, [.ref a_t_writer_fixed_limbs, .int s_t_writer_fixed_first, .int s_t_writer_fixed_end])), (a_t_writer_fixed_limbs, .inl (c_t_writer_fixed_limbs, n_t_writer_fixed_limbs, .inl e_t_writer_fixed_limbs)), (a_t_writer_decimal, .inr (0, [.ref a_t_writer_decimal_digits, .int s_t_writer_decimal_count, .int s_t_writer_decimal_point])), (a_t_writer_decimal_digits, .inl (c_t_writer_decimal_digits, n_t_writer_decimal_digits, .inl e_t_writer_decimal_digits))]) ⟨hx, hb, hml, hown, hts⟩ (c_Text_clear l dC dI a_t_text a_t_text_characters s_t_text_length s_t_text_length_3 hc_4) (cwV 0 hts (xgoodV g_205 g_206 g_207 g_2 g_208) rfl rfl rfl (by decide +kernel) ⟨Nat.le_of_ble_eq_true rfl, Nat.le_of_ble_eq_true rfl⟩) hNz (ci := 5) (q0 := 1) rfl rfl hA hP hD hS hK [1] [0, 2, 3, 4, 5, 6, 7] [] rfl rfl rfl rfl (by decide) rfl rfl rfl rfl hl.1 (Nat.le_of_ble_eq_true rfl) ⟨Nat.zero_le _, Nat.zero_le _⟩ d_NT_digits_25 (fun H locs hP hD hS => ?_)
      have hP : va_P (dC, dI) x_cl [(a_t, .inr (7, [.ref a_t_text, .ref a_t_numeral, .ref a_t_writer, .ref a_t_grid, .int s_t_wrongPlace])), (a_t_text_characters, .inl (c_t_text_characters, n_t_text_characters, .inl e_t_text_characters)), (a_t_writer, .inr (6, [.ref a_t_writer_fixed, .ref a_t_writer_decimal, .ref a_t_writer_low, .ref a_t_writer_high])), (a_t_writer_fixed, .inr (1, [.ref a_t_writer_fixed_limbs, .int s_t_writer_fixed_first, .int s_t_writer_fixed_end])), (a_t_writer_fixed_limbs, .inl (c_t_writer_fixed_limbs, n_t_writer_fixed_limbs, .inl e_t_writer_fixed_limbs)), (a_t_writer_decimal, .inr (0, [.ref a_t_writer_decimal_digits, .int s_t_writer_decimal_count, .int s_t_writer_decimal_point])), (a_t_writer_decimal_digits, .inl (c_t_writer_decimal_digits, n_t_writer_decimal_digits, .inl e_t_writer_decimal_digits)), (a_t_text, .inr (5, [.ref a_t_text_characters, .int s_t_text_length_3]))] H := hP
      have hD : va_D A [(a_t, .inr (7, [.ref a_t_text, .ref a_t_numeral, .ref a_t_writer, .ref a_t_grid, .int s_t_wrongPlace])), (a_t_text_characters, .inl (c_t_text_characters, n_t_text_characters, .inl e_t_text_characters)), (a_t_writer, .inr (6, [.ref a_t_writer_fixed, .ref a_t_writer_decimal, .ref a_t_writer_low, .ref a_t_writer_high])), (a_t_writer_fixed, .inr (1, [.ref a_t_writer_fixed_limbs, .int s_t_writer_fixed_first, .int s_t_writer_fixed_end])), (a_t_writer_fixed_limbs, .inl (c_t_writer_fixed_limbs, n_t_writer_fixed_limbs, .inl e_t_writer_fixed_limbs)), (a_t_writer_decimal, .inr (0, [.ref a_t_writer_decimal_digits, .int s_t_writer_decimal_count, .int s_t_writer_decimal_point])), (a_t_writer_decimal_digits, .inl (c_t_writer_decimal_digits, n_t_writer_decimal_digits, .inl e_t_writer_decimal_digits)), (a_t_text, .inr (5, [.ref a_t_text_characters, .int s_t_text_length_3]))] := hD
      refine lv_aload_n hx hb d_NT_digits_28 rfl (lv_at hl 0 rfl) ?_
      refine va_get (D := (dC, dI)) (ci := 7) (v := .ref a_t_writer) (C := R_NT) (T := T_NT) (N := 5) hx hb hts in_NT hown hK hP 0 rfl rfl 2 (by decide) (hts _ g_172) (fun _ h9 => h9) rfl d_NT_digits_29 ?_
      refine lv_aload_n hx hb d_NT_digits_32 rfl (lv_at hl 0 rfl) ?_
      refine va_get (D := (dC, dI)) (ci := 7) (v := .ref a_t_text) (C := R_NT) (T := T_NT) (N := 5) hx hb hts in_NT hown hK hP 0 rfl rfl 0 (by decide) (hts _ g_170) (fun _ h9 => h9) rfl d_NT_digits_33 ?_
      refine lv_lload_n hx hb d_NT_digits_36 rfl (lv_at hl 1 rfl) ?_
      refine lv_iload_n hx hb d_NT_digits_37 rfl (lv_at hl 2 rfl) ?_
      replace h := xob_s h
      obtain ⟨⟨s_t_writer_fixed_end_5, s_t_writer_fixed_first_6, e_t_writer_fixed_limbs_7, s_t_writer_decimal_count_8, s_t_writer_decimal_point_9, e_t_writer_decimal_digits_10, s_t_text_length_11, e_t_text_characters_12⟩, hc_13, h⟩ := h
      try dsimp only at h
      refine xcV (As := [.ref a_t_text, .long x1, .int x3]) (rest := []) (st1 := []) (wr := [(a_t, .inr (7, [.ref a_t_text, .ref a_t_numeral, .ref a_t_writer, .ref a_t_grid, .int s_t_wrongPlace]))]) ⟨hx, hb, hml, hown, hts⟩ (c_Writer_addRounded l dC dI a_t_writer a_t_text a_t_writer_fixed a_t_writer_decimal a_t_writer_low a_t_writer_high a_t_writer_fixed_limbs a_t_writer_decimal_digits a_t_text_characters c_t_writer_fixed_limbs c_t_writer_decimal_digits c_t_text_characters n_t_writer_fixed_limbs n_t_writer_decimal_digits n_t_text_characters s_t_writer_fixed_first s_t_writer_fixed_end e_t_writer_fixed_limbs s_t_writer_decimal_count s_t_writer_decimal_point e_t_writer_decimal_digits s_t_text_length_3 e_t_text_characters x1 x3 s_t_writer_fixed_end_5 s_t_writer_fixed_first_6 e_t_writer_fixed_limbs_7 s_t_writer_decimal_count_8 s_t_writer_decimal_point_9 e_t_writer_decimal_digits_10 s_t_text_length_11 e_t_text_characters_12 hc_13) (cwV 3 hts (xgoodV g_590 g_591 g_592 g_8 g_593) rfl rfl rfl (by decide +kernel) ⟨Nat.le_of_ble_eq_true rfl, Nat.le_of_ble_eq_true rfl⟩) hNz (ci := 6) (q0 := 2) rfl rfl hA hP hD hS hK [2, 3, 4, 5, 6, 7, 1] [0] [1, 2, 0] rfl rfl rfl rfl (by decide) rfl rfl rfl rfl hl.1 (Nat.le_of_ble_eq_true rfl) ⟨Nat.zero_le _, Nat.zero_le _⟩ d_NT_digits_38 (fun H locs hP hD hS => ?_)
      have hP : va_P (dC, dI) x_cl [(a_t, .inr (7, [.ref a_t_text, .ref a_t_numeral, .ref a_t_writer, .ref a_t_grid, .int s_t_wrongPlace])), (a_t_writer, .inr (6, [.ref a_t_writer_fixed, .ref a_t_writer_decimal, .ref a_t_writer_low, .ref a_t_writer_high])), (a_t_writer_fixed, .inr (1, [.ref a_t_writer_fixed_limbs, .int s_t_writer_fixed_first_6, .int s_t_writer_fixed_end_5])), (a_t_writer_fixed_limbs, .inl (c_t_writer_fixed_limbs, n_t_writer_fixed_limbs, .inl e_t_writer_fixed_limbs_7)), (a_t_writer_decimal, .inr (0, [.ref a_t_writer_decimal_digits, .int s_t_writer_decimal_count_8, .int s_t_writer_decimal_point_9])), (a_t_writer_decimal_digits, .inl (c_t_writer_decimal_digits, n_t_writer_decimal_digits, .inl e_t_writer_decimal_digits_10)), (a_t_text, .inr (5, [.ref a_t_text_characters, .int s_t_text_length_11])), (a_t_text_characters, .inl (c_t_text_characters, n_t_text_characters, .inl e_t_text_characters_12))] H := hP
      have hD : va_D A [(a_t, .inr (7, [.ref a_t_text, .ref a_t_numeral, .ref a_t_writer, .ref a_t_grid, .int s_t_wrongPlace])), (a_t_writer, .inr (6, [.ref a_t_writer_fixed, .ref a_t_writer_decimal, .ref a_t_writer_low, .ref a_t_writer_high])), (a_t_writer_fixed, .inr (1, [.ref a_t_writer_fixed_limbs, .int s_t_writer_fixed_first_6, .int s_t_writer_fixed_end_5])), (a_t_writer_fixed_limbs, .inl (c_t_writer_fixed_limbs, n_t_writer_fixed_limbs, .inl e_t_writer_fixed_limbs_7)), (a_t_writer_decimal, .inr (0, [.ref a_t_writer_decimal_digits, .int s_t_writer_decimal_count_8, .int s_t_writer_decimal_point_9])), (a_t_writer_decimal_digits, .inl (c_t_writer_decimal_digits, n_t_writer_decimal_digits, .inl e_t_writer_decimal_digits_10)), (a_t_text, .inr (5, [.ref a_t_text_characters, .int s_t_text_length_11])), (a_t_text_characters, .inl (c_t_text_characters, n_t_text_characters, .inl e_t_text_characters_12))] := hD
      refine lv_aload_n hx hb d_NT_digits_41 rfl (lv_at hl 0 rfl) ?_
      refine va_get (D := (dC, dI)) (ci := 7) (v := .ref a_t_text) (C := R_NT) (T := T_NT) (N := 5) hx hb hts in_NT hown hK hP 0 rfl rfl 0 (by decide) (hts _ g_170) (fun _ h9 => h9) rfl d_NT_digits_42 ?_
      replace h := xob_s h
      obtain ⟨r_14, hc_15, h⟩ := h
      try dsimp only at h
      refine xcV (As := []) (rest := []) (st1 := [.int r_14]) (wr := [(a_t, .inr (7, [.ref a_t_text, .ref a_t_numeral, .ref a_t_writer, .ref a_t_grid, .int s_t_wrongPlace])), (a_t_writer, .inr (6, [.ref a_t_writer_fixed, .ref a_t_writer_decimal, .ref a_t_writer_low, .ref a_t_writer_high])), (a_t_writer_fixed, .inr (1, [.ref a_t_writer_fixed_limbs, .int s_t_writer_fixed_first_6, .int s_t_writer_fixed_end_5])), (a_t_writer_fixed_limbs, .inl (c_t_writer_fixed_limbs, n_t_writer_fixed_limbs, .inl e_t_writer_fixed_limbs_7)), (a_t_writer_decimal, .inr (0, [.ref a_t_writer_decimal_digits, .int s_t_writer_decimal_count_8, .int s_t_writer_decimal_point_9])), (a_t_writer_decimal_digits, .inl (c_t_writer_decimal_digits, n_t_writer_decimal_digits, .inl e_t_writer_decimal_digits_10)), (a_t_text_characters, .inl (c_t_text_characters, n_t_text_characters, .inl e_t_text_characters_12))]) ⟨hx, hb, hml, hown, hts⟩ (c_Text_length l dC dI a_t_text a_t_text_characters s_t_text_length_11 r_14 hc_15) (cwV 0 hts (xgoodV g_190 g_191 g_192 g_2 g_193) rfl rfl rfl (by decide +kernel) ⟨Nat.le_of_ble_eq_true rfl, Nat.le_of_ble_eq_true rfl⟩) hNz (ci := 5) (q0 := 6) rfl rfl hA hP hD hS hK [6] [0, 1, 2, 3, 4, 5, 7] [] rfl rfl rfl rfl (by decide) rfl rfl rfl rfl hl.1 (Nat.le_of_ble_eq_true rfl) ⟨Nat.zero_le _, Nat.zero_le _⟩ d_NT_digits_45 (fun H locs hP hD hS => ?_)
      have hP : va_P (dC, dI) x_cl [(a_t, .inr (7, [.ref a_t_text, .ref a_t_numeral, .ref a_t_writer, .ref a_t_grid, .int s_t_wrongPlace])), (a_t_writer, .inr (6, [.ref a_t_writer_fixed, .ref a_t_writer_decimal, .ref a_t_writer_low, .ref a_t_writer_high])), (a_t_writer_fixed, .inr (1, [.ref a_t_writer_fixed_limbs, .int s_t_writer_fixed_first_6, .int s_t_writer_fixed_end_5])), (a_t_writer_fixed_limbs, .inl (c_t_writer_fixed_limbs, n_t_writer_fixed_limbs, .inl e_t_writer_fixed_limbs_7)), (a_t_writer_decimal, .inr (0, [.ref a_t_writer_decimal_digits, .int s_t_writer_decimal_count_8, .int s_t_writer_decimal_point_9])), (a_t_writer_decimal_digits, .inl (c_t_writer_decimal_digits, n_t_writer_decimal_digits, .inl e_t_writer_decimal_digits_10)), (a_t_text_characters, .inl (c_t_text_characters, n_t_text_characters, .inl e_t_text_characters_12)), (a_t_text, .inr (5, [.ref a_t_text_characters, .int s_t_text_length_11]))] H := hP
      have hD : va_D A [(a_t, .inr (7, [.ref a_t_text, .ref a_t_numeral, .ref a_t_writer, .ref a_t_grid, .int s_t_wrongPlace])), (a_t_writer, .inr (6, [.ref a_t_writer_fixed, .ref a_t_writer_decimal, .ref a_t_writer_low, .ref a_t_writer_high])), (a_t_writer_fixed, .inr (1, [.ref a_t_writer_fixed_limbs, .int s_t_writer_fixed_first_6, .int s_t_writer_fixed_end_5])), (a_t_writer_fixed_limbs, .inl (c_t_writer_fixed_limbs, n_t_writer_fixed_limbs, .inl e_t_writer_fixed_limbs_7)), (a_t_writer_decimal, .inr (0, [.ref a_t_writer_decimal_digits, .int s_t_writer_decimal_count_8, .int s_t_writer_decimal_point_9])), (a_t_writer_decimal_digits, .inl (c_t_writer_decimal_digits, n_t_writer_decimal_digits, .inl e_t_writer_decimal_digits_10)), (a_t_text_characters, .inl (c_t_text_characters, n_t_text_characters, .inl e_t_text_characters_12)), (a_t_text, .inr (5, [.ref a_t_text_characters, .int s_t_text_length_11]))] := hD
      cases h
    · rw [if_neg c_2] at h
      replace h := Option.some.inj h
      replace h := Prod.mk.inj h
      obtain ⟨h1, h⟩ := h
      subst h1
      replace h := Prod.mk.inj h
      obtain ⟨h1, h⟩ := h
      subst h1
      replace h := Prod.mk.inj h
      obtain ⟨h1, h⟩ := h
      subst h1
      replace h := Prod.mk.inj h
      obtain ⟨h1, h⟩ := h
      subst h1
      replace h := Prod.mk.inj h
      obtain ⟨h1, h⟩ := h
      subst h1
      replace h := Prod.mk.inj h
      obtain ⟨h1, h⟩ := h
      subst h1
      replace h := Prod.mk.inj h
      obtain ⟨h1, h⟩ := h
      subst h1
      subst h
      exact hret _ _ hP hD hS _ _ _ _ _ "digits are 1 to 17" hl.1 (Or.inl ⟨rfl, rfl, rfl⟩) (by decide) d_NT_digits_11 d_NT_digits_14 d_NT_digits_15 d_NT_digits_17 d_NT_digits_20
def t_NT_places (n_t_text_characters : Nat) (n_t_writer_fixed_limbs : Nat) (n_t_writer_decimal_digits : Nat) (s_t_wrongPlace : Int32) (s_t_text_length : Int32) (e_t_text_characters : Nat → Int32) (s_t_writer_fixed_first : Int32) (s_t_writer_fixed_end : Int32) (e_t_writer_fixed_limbs : Nat → Int32) (s_t_writer_decimal_count : Int32) (s_t_writer_decimal_point : Int32) (e_t_writer_decimal_digits : Nat → Int32) (x1 : Int64) (x3 : Int32) : Option (Int32 × (Nat → Int32) × Int32 × Int32 × (Nat → Int32) × Int32 × Int32 × (Nat → Int32)) :=
  if x3 < 0 then (some (s_t_text_length, e_t_text_characters, s_t_writer_fixed_end, s_t_writer_fixed_first, e_t_writer_fixed_limbs, s_t_writer_decimal_count, s_t_writer_decimal_point, e_t_writer_decimal_digits)) else (if x3 ≤ (40 : Int32) then (xob (f_Text_clear s_t_text_length) fun s_t_text_length_3 => xob (f_Writer_addToPlaces n_t_writer_fixed_limbs n_t_writer_decimal_digits n_t_text_characters s_t_writer_fixed_first s_t_writer_fixed_end e_t_writer_fixed_limbs s_t_writer_decimal_count s_t_writer_decimal_point e_t_writer_decimal_digits s_t_text_length_3 e_t_text_characters x1 x3) fun (s_t_writer_fixed_end_5, s_t_writer_fixed_first_6, e_t_writer_fixed_limbs_7, s_t_writer_decimal_count_8, s_t_writer_decimal_point_9, e_t_writer_decimal_digits_10, s_t_text_length_11, e_t_text_characters_12) => xob (f_Text_length s_t_text_length_11) fun r_14 => none) else (some (s_t_text_length, e_t_text_characters, s_t_writer_fixed_end, s_t_writer_fixed_first, e_t_writer_fixed_limbs, s_t_writer_decimal_count, s_t_writer_decimal_point, e_t_writer_decimal_digits)))
def rmt_NT_places : Room := { frames := 6, cells := 1, slots := 6, locals := 120 }
set_option maxHeartbeats 4000000 in
set_option maxRecDepth 100000 in
theorem ct_NT_places (l : Launch) (htr : l.stackTraces = false) (dC : Nat → ClassId) (dI : Nat → Nat → Nat) (a_t a_t_text a_t_numeral a_t_writer a_t_grid a_t_text_characters a_t_writer_fixed a_t_writer_decimal a_t_writer_low a_t_writer_high a_t_writer_fixed_limbs a_t_writer_decimal_digits : Nat) (c_t_text_characters c_t_writer_fixed_limbs c_t_writer_decimal_digits : ClassId) (n_t_text_characters : Nat) (n_t_writer_fixed_limbs : Nat) (n_t_writer_decimal_digits : Nat) (s_t_wrongPlace : Int32) (s_t_text_length : Int32) (e_t_text_characters : Nat → Int32) (s_t_writer_fixed_first : Int32) (s_t_writer_fixed_end : Int32) (e_t_writer_fixed_limbs : Nat → Int32) (s_t_writer_decimal_count : Int32) (s_t_writer_decimal_point : Int32) (e_t_writer_decimal_digits : Nat → Int32) (x1 : Int64) (x3 : Int32) (s_t_text_length_o : Int32) (e_t_text_characters_o : Nat → Int32) (s_t_writer_fixed_end_o : Int32) (s_t_writer_fixed_first_o : Int32) (e_t_writer_fixed_limbs_o : Nat → Int32) (s_t_writer_decimal_count_o : Int32) (s_t_writer_decimal_point_o : Int32) (e_t_writer_decimal_digits_o : Nat → Int32) (h : t_NT_places n_t_text_characters n_t_writer_fixed_limbs n_t_writer_decimal_digits s_t_wrongPlace s_t_text_length e_t_text_characters s_t_writer_fixed_first s_t_writer_fixed_end e_t_writer_fixed_limbs s_t_writer_decimal_count s_t_writer_decimal_point e_t_writer_decimal_digits x1 x3 = some (s_t_text_length_o, e_t_text_characters_o, s_t_writer_fixed_end_o, s_t_writer_fixed_first_o, e_t_writer_fixed_limbs_o, s_t_writer_decimal_count_o, s_t_writer_decimal_point_o, e_t_writer_decimal_digits_o)) : xTh l y_NT_places (Cond.code y_NT_places b_NT_places 4 (some .int) :: xG) rmt_NT_places (dC, dI) x_cl x_nz [.ref a_t, .long x1, .int x3] [(c_t_text_characters, .byte), (c_t_writer_fixed_limbs, .int), (c_t_writer_decimal_digits, .byte)] [(a_t, .inr (7, [.ref a_t_text, .ref a_t_numeral, .ref a_t_writer, .ref a_t_grid, .int s_t_wrongPlace])), (a_t_text, .inr (5, [.ref a_t_text_characters, .int s_t_text_length])), (a_t_text_characters, .inl (c_t_text_characters, n_t_text_characters, .inl e_t_text_characters)), (a_t_writer, .inr (6, [.ref a_t_writer_fixed, .ref a_t_writer_decimal, .ref a_t_writer_low, .ref a_t_writer_high])), (a_t_writer_fixed, .inr (1, [.ref a_t_writer_fixed_limbs, .int s_t_writer_fixed_first, .int s_t_writer_fixed_end])), (a_t_writer_fixed_limbs, .inl (c_t_writer_fixed_limbs, n_t_writer_fixed_limbs, .inl e_t_writer_fixed_limbs)), (a_t_writer_decimal, .inr (0, [.ref a_t_writer_decimal_digits, .int s_t_writer_decimal_count, .int s_t_writer_decimal_point])), (a_t_writer_decimal_digits, .inl (c_t_writer_decimal_digits, n_t_writer_decimal_digits, .inl e_t_writer_decimal_digits))] [(a_t, .inr (7, [.ref a_t_text, .ref a_t_numeral, .ref a_t_writer, .ref a_t_grid, .int s_t_wrongPlace])), (a_t_text, .inr (5, [.ref a_t_text_characters, .int s_t_text_length_o])), (a_t_text_characters, .inl (c_t_text_characters, n_t_text_characters, .inl e_t_text_characters_o)), (a_t_writer, .inr (6, [.ref a_t_writer_fixed, .ref a_t_writer_decimal, .ref a_t_writer_low, .ref a_t_writer_high])), (a_t_writer_fixed, .inr (1, [.ref a_t_writer_fixed_limbs, .int s_t_writer_fixed_first_o, .int s_t_writer_fixed_end_o])), (a_t_writer_fixed_limbs, .inl (c_t_writer_fixed_limbs, n_t_writer_fixed_limbs, .inl e_t_writer_fixed_limbs_o)), (a_t_writer_decimal, .inr (0, [.ref a_t_writer_decimal_digits, .int s_t_writer_decimal_count_o, .int s_t_writer_decimal_point_o])), (a_t_writer_decimal_digits, .inl (c_t_writer_decimal_digits, n_t_writer_decimal_digits, .inl e_t_writer_decimal_digits_o))] xIA := by
  unfold t_NT_places at h
  refine xTh.mk (cc := b_NT_places) (maxL := 4) htr rfl (by decide +kernel) rfl (Nat.le_of_ble_eq_true rfl) ⟨rfl, rfl, Nat.le_of_ble_eq_true rfl, Nat.le_of_ble_eq_true rfl⟩ ?_
  intro p e s m args below meth c A Q ls hx hb hml hown hts hNz hA hP hD hK hl hret
  have hS : va_S A s.heap s.heap [] := va_S.rf
  have hl : lv_has ls 4 [(0, .ref a_t), (1, .long x1), (3, .int x3)] := hl
  refine lv_iload_n hx hb d_NT_places_0 rfl (lv_at hl 2 rfl) ?_
  refine lv_if_lt (tgt := 10) hx hb d_NT_places_1 (by decide) (fun c_1 => ?_) (fun c_1 => ?_)
  · rw [if_pos c_1] at h
    replace h := Option.some.inj h
    replace h := Prod.mk.inj h
    obtain ⟨h1, h⟩ := h
    subst h1
    replace h := Prod.mk.inj h
    obtain ⟨h1, h⟩ := h
    subst h1
    replace h := Prod.mk.inj h
    obtain ⟨h1, h⟩ := h
    subst h1
    replace h := Prod.mk.inj h
    obtain ⟨h1, h⟩ := h
    subst h1
    replace h := Prod.mk.inj h
    obtain ⟨h1, h⟩ := h
    subst h1
    replace h := Prod.mk.inj h
    obtain ⟨h1, h⟩ := h
    subst h1
    replace h := Prod.mk.inj h
    obtain ⟨h1, h⟩ := h
    subst h1
    subst h
    exact hret _ _ hP hD hS _ _ _ _ _ "places are 0 to 40" hl.1 (Or.inl ⟨rfl, rfl, rfl⟩) (by decide) d_NT_places_10 d_NT_places_13 d_NT_places_14 d_NT_places_16 d_NT_places_19
  · rw [if_neg c_1] at h
    refine lv_iload_n hx hb d_NT_places_4 rfl (lv_at hl 2 rfl) ?_
    refine lv_bipush (v := 40) hx hb d_NT_places_5 (by decide) ?_
    refine lv_icmp_le (tgt := 20) hx hb d_NT_places_7 (by decide) (fun c_2 => ?_) (fun c_2 => ?_)
    · rw [if_pos c_2] at h
      refine lv_aload_n hx hb d_NT_places_20 rfl (lv_at hl 0 rfl) ?_
      refine va_get (D := (dC, dI)) (ci := 7) (v := .ref a_t_text) (C := R_NT) (T := T_NT) (N := 5) hx hb hts in_NT hown hK hP 0 rfl rfl 0 (by decide) (hts _ g_170) (fun _ h9 => h9) rfl d_NT_places_21 ?_
      replace h := xob_s h
      obtain ⟨s_t_text_length_3, hc_4, h⟩ := h
      try dsimp only at h
      refine xcV (As := []) (rest := []) (st1 := []) (wr := [(a_t, .inr (7, [.ref a_t_text, .ref a_t_numeral, .ref a_t_writer, .ref a_t_grid, .int s_t_wrongPlace])), (a_t_text_characters, .inl (c_t_text_characters, n_t_text_characters, .inl e_t_text_characters)), (a_t_writer, .inr (6, [.ref a_t_writer_fixed, .ref a_t_writer_decimal, .ref a_t_writer_low, .ref a_t_writer_high])), (a_t_writer_fixed, .inr (1, [.ref a_t_writer_fixed_limbs, .int s_t_writer_fixed_first, .int s_t_writer_fixed_end])), (a_t_writer_fixed_limbs, .inl (c_t_writer_fixed_limbs, n_t_writer_fixed_limbs, .inl e_t_writer_fixed_limbs)), (a_t_writer_decimal, .inr (0, [.ref a_t_writer_decimal_digits, .int s_t_writer_decimal_count, .int s_t_writer_decimal_point])), (a_t_writer_decimal_digits, .inl (c_t_writer_decimal_digits, n_t_writer_decimal_digits, .inl e_t_writer_decimal_digits))]) ⟨hx, hb, hml, hown, hts⟩ (c_Text_clear l dC dI a_t_text a_t_text_characters s_t_text_length s_t_text_length_3 hc_4) (cwV 0 hts (xgoodV g_205 g_206 g_207 g_2 g_208) rfl rfl rfl (by decide +kernel) ⟨Nat.le_of_ble_eq_true rfl, Nat.le_of_ble_eq_true rfl⟩) hNz (ci := 5) (q0 := 1) rfl rfl hA hP hD hS hK [1] [0, 2, 3, 4, 5, 6, 7] [] rfl rfl rfl rfl (by decide) rfl rfl rfl rfl hl.1 (Nat.le_of_ble_eq_true rfl) ⟨Nat.zero_le _, Nat.zero_le _⟩ d_NT_places_24 (fun H locs hP hD hS => ?_)
      have hP : va_P (dC, dI) x_cl [(a_t, .inr (7, [.ref a_t_text, .ref a_t_numeral, .ref a_t_writer, .ref a_t_grid, .int s_t_wrongPlace])), (a_t_text_characters, .inl (c_t_text_characters, n_t_text_characters, .inl e_t_text_characters)), (a_t_writer, .inr (6, [.ref a_t_writer_fixed, .ref a_t_writer_decimal, .ref a_t_writer_low, .ref a_t_writer_high])), (a_t_writer_fixed, .inr (1, [.ref a_t_writer_fixed_limbs, .int s_t_writer_fixed_first, .int s_t_writer_fixed_end])), (a_t_writer_fixed_limbs, .inl (c_t_writer_fixed_limbs, n_t_writer_fixed_limbs, .inl e_t_writer_fixed_limbs)), (a_t_writer_decimal, .inr (0, [.ref a_t_writer_decimal_digits, .int s_t_writer_decimal_count, .int s_t_writer_decimal_point])), (a_t_writer_decimal_digits, .inl (c_t_writer_decimal_digits, n_t_writer_decimal_digits, .inl e_t_writer_decimal_digits)), (a_t_text, .inr (5, [.ref a_t_text_characters, .int s_t_text_length_3]))] H := hP
      have hD : va_D A [(a_t, .inr (7, [.ref a_t_text, .ref a_t_numeral, .ref a_t_writer, .ref a_t_grid, .int s_t_wrongPlace])), (a_t_text_characters, .inl (c_t_text_characters, n_t_text_characters, .inl e_t_text_characters)), (a_t_writer, .inr (6, [.ref a_t_writer_fixed, .ref a_t_writer_decimal, .ref a_t_writer_low, .ref a_t_writer_high])), (a_t_writer_fixed, .inr (1, [.ref a_t_writer_fixed_limbs, .int s_t_writer_fixed_first, .int s_t_writer_fixed_end])), (a_t_writer_fixed_limbs, .inl (c_t_writer_fixed_limbs, n_t_writer_fixed_limbs, .inl e_t_writer_fixed_limbs)), (a_t_writer_decimal, .inr (0, [.ref a_t_writer_decimal_digits, .int s_t_writer_decimal_count, .int s_t_writer_decimal_point])), (a_t_writer_decimal_digits, .inl (c_t_writer_decimal_digits, n_t_writer_decimal_digits, .inl e_t_writer_decimal_digits)), (a_t_text, .inr (5, [.ref a_t_text_characters, .int s_t_text_length_3]))] := hD
      refine lv_aload_n hx hb d_NT_places_27 rfl (lv_at hl 0 rfl) ?_
      refine va_get (D := (dC, dI)) (ci := 7) (v := .ref a_t_writer) (C := R_NT) (T := T_NT) (N := 5) hx hb hts in_NT hown hK hP 0 rfl rfl 2 (by decide) (hts _ g_172) (fun _ h9 => h9) rfl d_NT_places_28 ?_
      refine lv_aload_n hx hb d_NT_places_31 rfl (lv_at hl 0 rfl) ?_
      refine va_get (D := (dC, dI)) (ci := 7) (v := .ref a_t_text) (C := R_NT) (T := T_NT) (N := 5) hx hb hts in_NT hown hK hP 0 rfl rfl 0 (by decide) (hts _ g_170) (fun _ h9 => h9) rfl d_NT_places_32 ?_
      refine lv_lload_n hx hb d_NT_places_35 rfl (lv_at hl 1 rfl) ?_
      refine lv_iload_n hx hb d_NT_places_36 rfl (lv_at hl 2 rfl) ?_
      replace h := xob_s h
      obtain ⟨⟨s_t_writer_fixed_end_5, s_t_writer_fixed_first_6, e_t_writer_fixed_limbs_7, s_t_writer_decimal_count_8, s_t_writer_decimal_point_9, e_t_writer_decimal_digits_10, s_t_text_length_11, e_t_text_characters_12⟩, hc_13, h⟩ := h
      try dsimp only at h
      refine xcV (As := [.ref a_t_text, .long x1, .int x3]) (rest := []) (st1 := []) (wr := [(a_t, .inr (7, [.ref a_t_text, .ref a_t_numeral, .ref a_t_writer, .ref a_t_grid, .int s_t_wrongPlace]))]) ⟨hx, hb, hml, hown, hts⟩ (c_Writer_addToPlaces l dC dI a_t_writer a_t_text a_t_writer_fixed a_t_writer_decimal a_t_writer_low a_t_writer_high a_t_writer_fixed_limbs a_t_writer_decimal_digits a_t_text_characters c_t_writer_fixed_limbs c_t_writer_decimal_digits c_t_text_characters n_t_writer_fixed_limbs n_t_writer_decimal_digits n_t_text_characters s_t_writer_fixed_first s_t_writer_fixed_end e_t_writer_fixed_limbs s_t_writer_decimal_count s_t_writer_decimal_point e_t_writer_decimal_digits s_t_text_length_3 e_t_text_characters x1 x3 s_t_writer_fixed_end_5 s_t_writer_fixed_first_6 e_t_writer_fixed_limbs_7 s_t_writer_decimal_count_8 s_t_writer_decimal_point_9 e_t_writer_decimal_digits_10 s_t_text_length_11 e_t_text_characters_12 hc_13) (cwV 3 hts (xgoodV g_602 g_603 g_604 g_8 g_605) rfl rfl rfl (by decide +kernel) ⟨Nat.le_of_ble_eq_true rfl, Nat.le_of_ble_eq_true rfl⟩) hNz (ci := 6) (q0 := 2) rfl rfl hA hP hD hS hK [2, 3, 4, 5, 6, 7, 1] [0] [1, 2, 0] rfl rfl rfl rfl (by decide) rfl rfl rfl rfl hl.1 (Nat.le_of_ble_eq_true rfl) ⟨Nat.zero_le _, Nat.zero_le _⟩ d_NT_places_37 (fun H locs hP hD hS => ?_)
      have hP : va_P (dC, dI) x_cl [(a_t, .inr (7, [.ref a_t_text, .ref a_t_numeral, .ref a_t_writer, .ref a_t_grid, .int s_t_wrongPlace])), (a_t_writer, .inr (6, [.ref a_t_writer_fixed, .ref a_t_writer_decimal, .ref a_t_writer_low, .ref a_t_writer_high])), (a_t_writer_fixed, .inr (1, [.ref a_t_writer_fixed_limbs, .int s_t_writer_fixed_first_6, .int s_t_writer_fixed_end_5])), (a_t_writer_fixed_limbs, .inl (c_t_writer_fixed_limbs, n_t_writer_fixed_limbs, .inl e_t_writer_fixed_limbs_7)), (a_t_writer_decimal, .inr (0, [.ref a_t_writer_decimal_digits, .int s_t_writer_decimal_count_8, .int s_t_writer_decimal_point_9])), (a_t_writer_decimal_digits, .inl (c_t_writer_decimal_digits, n_t_writer_decimal_digits, .inl e_t_writer_decimal_digits_10)), (a_t_text, .inr (5, [.ref a_t_text_characters, .int s_t_text_length_11])), (a_t_text_characters, .inl (c_t_text_characters, n_t_text_characters, .inl e_t_text_characters_12))] H := hP
      have hD : va_D A [(a_t, .inr (7, [.ref a_t_text, .ref a_t_numeral, .ref a_t_writer, .ref a_t_grid, .int s_t_wrongPlace])), (a_t_writer, .inr (6, [.ref a_t_writer_fixed, .ref a_t_writer_decimal, .ref a_t_writer_low, .ref a_t_writer_high])), (a_t_writer_fixed, .inr (1, [.ref a_t_writer_fixed_limbs, .int s_t_writer_fixed_first_6, .int s_t_writer_fixed_end_5])), (a_t_writer_fixed_limbs, .inl (c_t_writer_fixed_limbs, n_t_writer_fixed_limbs, .inl e_t_writer_fixed_limbs_7)), (a_t_writer_decimal, .inr (0, [.ref a_t_writer_decimal_digits, .int s_t_writer_decimal_count_8, .int s_t_writer_decimal_point_9])), (a_t_writer_decimal_digits, .inl (c_t_writer_decimal_digits, n_t_writer_decimal_digits, .inl e_t_writer_decimal_digits_10)), (a_t_text, .inr (5, [.ref a_t_text_characters, .int s_t_text_length_11])), (a_t_text_characters, .inl (c_t_text_characters, n_t_text_characters, .inl e_t_text_characters_12))] := hD
      refine lv_aload_n hx hb d_NT_places_40 rfl (lv_at hl 0 rfl) ?_
      refine va_get (D := (dC, dI)) (ci := 7) (v := .ref a_t_text) (C := R_NT) (T := T_NT) (N := 5) hx hb hts in_NT hown hK hP 0 rfl rfl 0 (by decide) (hts _ g_170) (fun _ h9 => h9) rfl d_NT_places_41 ?_
      replace h := xob_s h
      obtain ⟨r_14, hc_15, h⟩ := h
      try dsimp only at h
      refine xcV (As := []) (rest := []) (st1 := [.int r_14]) (wr := [(a_t, .inr (7, [.ref a_t_text, .ref a_t_numeral, .ref a_t_writer, .ref a_t_grid, .int s_t_wrongPlace])), (a_t_writer, .inr (6, [.ref a_t_writer_fixed, .ref a_t_writer_decimal, .ref a_t_writer_low, .ref a_t_writer_high])), (a_t_writer_fixed, .inr (1, [.ref a_t_writer_fixed_limbs, .int s_t_writer_fixed_first_6, .int s_t_writer_fixed_end_5])), (a_t_writer_fixed_limbs, .inl (c_t_writer_fixed_limbs, n_t_writer_fixed_limbs, .inl e_t_writer_fixed_limbs_7)), (a_t_writer_decimal, .inr (0, [.ref a_t_writer_decimal_digits, .int s_t_writer_decimal_count_8, .int s_t_writer_decimal_point_9])), (a_t_writer_decimal_digits, .inl (c_t_writer_decimal_digits, n_t_writer_decimal_digits, .inl e_t_writer_decimal_digits_10)), (a_t_text_characters, .inl (c_t_text_characters, n_t_text_characters, .inl e_t_text_characters_12))]) ⟨hx, hb, hml, hown, hts⟩ (c_Text_length l dC dI a_t_text a_t_text_characters s_t_text_length_11 r_14 hc_15) (cwV 0 hts (xgoodV g_190 g_191 g_192 g_2 g_193) rfl rfl rfl (by decide +kernel) ⟨Nat.le_of_ble_eq_true rfl, Nat.le_of_ble_eq_true rfl⟩) hNz (ci := 5) (q0 := 6) rfl rfl hA hP hD hS hK [6] [0, 1, 2, 3, 4, 5, 7] [] rfl rfl rfl rfl (by decide) rfl rfl rfl rfl hl.1 (Nat.le_of_ble_eq_true rfl) ⟨Nat.zero_le _, Nat.zero_le _⟩ d_NT_places_44 (fun H locs hP hD hS => ?_)
      have hP : va_P (dC, dI) x_cl [(a_t, .inr (7, [.ref a_t_text, .ref a_t_numeral, .ref a_t_writer, .ref a_t_grid, .int s_t_wrongPlace])), (a_t_writer, .inr (6, [.ref a_t_writer_fixed, .ref a_t_writer_decimal, .ref a_t_writer_low, .ref a_t_writer_high])), (a_t_writer_fixed, .inr (1, [.ref a_t_writer_fixed_limbs, .int s_t_writer_fixed_first_6, .int s_t_writer_fixed_end_5])), (a_t_writer_fixed_limbs, .inl (c_t_writer_fixed_limbs, n_t_writer_fixed_limbs, .inl e_t_writer_fixed_limbs_7)), (a_t_writer_decimal, .inr (0, [.ref a_t_writer_decimal_digits, .int s_t_writer_decimal_count_8, .int s_t_writer_decimal_point_9])), (a_t_writer_decimal_digits, .inl (c_t_writer_decimal_digits, n_t_writer_decimal_digits, .inl e_t_writer_decimal_digits_10)), (a_t_text_characters, .inl (c_t_text_characters, n_t_text_characters, .inl e_t_text_characters_12)), (a_t_text, .inr (5, [.ref a_t_text_characters, .int s_t_text_length_11]))] H := hP
      have hD : va_D A [(a_t, .inr (7, [.ref a_t_text, .ref a_t_numeral, .ref a_t_writer, .ref a_t_grid, .int s_t_wrongPlace])), (a_t_writer, .inr (6, [.ref a_t_writer_fixed, .ref a_t_writer_decimal, .ref a_t_writer_low, .ref a_t_writer_high])), (a_t_writer_fixed, .inr (1, [.ref a_t_writer_fixed_limbs, .int s_t_writer_fixed_first_6, .int s_t_writer_fixed_end_5])), (a_t_writer_fixed_limbs, .inl (c_t_writer_fixed_limbs, n_t_writer_fixed_limbs, .inl e_t_writer_fixed_limbs_7)), (a_t_writer_decimal, .inr (0, [.ref a_t_writer_decimal_digits, .int s_t_writer_decimal_count_8, .int s_t_writer_decimal_point_9])), (a_t_writer_decimal_digits, .inl (c_t_writer_decimal_digits, n_t_writer_decimal_digits, .inl e_t_writer_decimal_digits_10)), (a_t_text_characters, .inl (c_t_text_characters, n_t_text_characters, .inl e_t_text_characters_12)), (a_t_text, .inr (5, [.ref a_t_text_characters, .int s_t_text_length_11]))] := hD
      cases h
    · rw [if_neg c_2] at h
      replace h := Option.some.inj h
      replace h := Prod.mk.inj h
      obtain ⟨h1, h⟩ := h
      subst h1
      replace h := Prod.mk.inj h
      obtain ⟨h1, h⟩ := h
      subst h1
      replace h := Prod.mk.inj h
      obtain ⟨h1, h⟩ := h
      subst h1
      replace h := Prod.mk.inj h
      obtain ⟨h1, h⟩ := h
      subst h1
      replace h := Prod.mk.inj h
      obtain ⟨h1, h⟩ := h
      subst h1
      replace h := Prod.mk.inj h
      obtain ⟨h1, h⟩ := h
      subst h1
      replace h := Prod.mk.inj h
      obtain ⟨h1, h⟩ := h
      subst h1
      subst h
      exact hret _ _ hP hD hS _ _ _ _ _ "places are 0 to 40" hl.1 (Or.inl ⟨rfl, rfl, rfl⟩) (by decide) d_NT_places_10 d_NT_places_13 d_NT_places_14 d_NT_places_16 d_NT_places_19
def t_NT_table (n_t_grid_numbers : Nat) (s_t_wrongPlace : Int32) (s_t_grid_rows : Int32) (s_t_grid_columns : Int32) (s_t_grid_lineLength : Int32) (e_t_grid_numbers : Nat → Int64) (x1 : Int32) (x2 : Int32) : Option (Int32 × Int32 × Int32 × (Nat → Int64)) :=
  if x1 < (1 : Int32) then (some (s_t_grid_columns, s_t_grid_lineLength, s_t_grid_rows, e_t_grid_numbers)) else (if (8 : Int32) < x1 then (some (s_t_grid_columns, s_t_grid_lineLength, s_t_grid_rows, e_t_grid_numbers)) else (if x2 < (1 : Int32) then (some (s_t_grid_columns, s_t_grid_lineLength, s_t_grid_rows, e_t_grid_numbers)) else (if x2 ≤ (8 : Int32) then (xob (f_Table_renew n_t_grid_numbers s_t_grid_rows s_t_grid_columns s_t_grid_lineLength e_t_grid_numbers x1 x2) fun (s_t_grid_columns_5, s_t_grid_lineLength_6, s_t_grid_rows_7, e_t_grid_numbers_8) => none) else (some (s_t_grid_columns, s_t_grid_lineLength, s_t_grid_rows, e_t_grid_numbers)))))
def rmt_NT_table : Room := { frames := 6, cells := 1, slots := 6, locals := 90 }
set_option maxHeartbeats 4000000 in
set_option maxRecDepth 100000 in
theorem ct_NT_table (l : Launch) (htr : l.stackTraces = false) (dC : Nat → ClassId) (dI : Nat → Nat → Nat) (a_t a_t_text a_t_numeral a_t_writer a_t_grid a_t_grid_writer a_t_grid_numbers a_t_grid_texts a_t_grid_ends a_t_grid_lines : Nat) (c_t_grid_numbers : ClassId) (n_t_grid_numbers : Nat) (s_t_wrongPlace : Int32) (s_t_grid_rows : Int32) (s_t_grid_columns : Int32) (s_t_grid_lineLength : Int32) (e_t_grid_numbers : Nat → Int64) (x1 : Int32) (x2 : Int32) (s_t_grid_columns_o : Int32) (s_t_grid_lineLength_o : Int32) (s_t_grid_rows_o : Int32) (e_t_grid_numbers_o : Nat → Int64) (h : t_NT_table n_t_grid_numbers s_t_wrongPlace s_t_grid_rows s_t_grid_columns s_t_grid_lineLength e_t_grid_numbers x1 x2 = some (s_t_grid_columns_o, s_t_grid_lineLength_o, s_t_grid_rows_o, e_t_grid_numbers_o)) : xTh l y_NT_table (Cond.code y_NT_table b_NT_table 3 none :: xG) rmt_NT_table (dC, dI) x_cl x_nz [.ref a_t, .int x1, .int x2] [(c_t_grid_numbers, .long)] [(a_t, .inr (7, [.ref a_t_text, .ref a_t_numeral, .ref a_t_writer, .ref a_t_grid, .int s_t_wrongPlace])), (a_t_grid, .inr (4, [.ref a_t_grid_writer, .ref a_t_grid_numbers, .int s_t_grid_rows, .int s_t_grid_columns, .ref a_t_grid_texts, .ref a_t_grid_ends, .ref a_t_grid_lines, .int s_t_grid_lineLength])), (a_t_grid_numbers, .inl (c_t_grid_numbers, n_t_grid_numbers, .inr (.inl e_t_grid_numbers)))] [(a_t, .inr (7, [.ref a_t_text, .ref a_t_numeral, .ref a_t_writer, .ref a_t_grid, .int s_t_wrongPlace])), (a_t_grid, .inr (4, [.ref a_t_grid_writer, .ref a_t_grid_numbers, .int s_t_grid_rows_o, .int s_t_grid_columns_o, .ref a_t_grid_texts, .ref a_t_grid_ends, .ref a_t_grid_lines, .int s_t_grid_lineLength_o])), (a_t_grid_numbers, .inl (c_t_grid_numbers, n_t_grid_numbers, .inr (.inl e_t_grid_numbers_o)))] xIA := by
  unfold t_NT_table at h
  refine xTh.mk (cc := b_NT_table) (maxL := 3) htr rfl (by decide +kernel) rfl (Nat.le_of_ble_eq_true rfl) ⟨rfl, rfl, Nat.le_of_ble_eq_true rfl, Nat.le_of_ble_eq_true rfl⟩ ?_
  intro p e s m args below meth c A Q ls hx hb hml hown hts hNz hA hP hD hK hl hret
  have hS : va_S A s.heap s.heap [] := va_S.rf
  have hl : lv_has ls 3 [(0, .ref a_t), (1, .int x1), (2, .int x2)] := hl
  refine lv_iload_n hx hb d_NT_table_0 rfl (lv_at hl 1 rfl) ?_
  refine lv_iconst (v := 1) hx hb d_NT_table_1 (by decide) ?_
  refine lv_icmp_lt (tgt := 22) hx hb d_NT_table_2 (by decide) (fun c_1 => ?_) (fun c_1 => ?_)
  · rw [if_pos c_1] at h
    replace h := Option.some.inj h
    replace h := Prod.mk.inj h
    obtain ⟨h1, h⟩ := h
    subst h1
    replace h := Prod.mk.inj h
    obtain ⟨h1, h⟩ := h
    subst h1
    replace h := Prod.mk.inj h
    obtain ⟨h1, h⟩ := h
    subst h1
    subst h
    exact hret _ _ hP hD hS _ _ _ _ _ "rows and columns are 1 to 8" hl.1 (Or.inl ⟨rfl, rfl, rfl⟩) (by decide) d_NT_table_22 d_NT_table_25 d_NT_table_26 d_NT_table_28 d_NT_table_31
  · rw [if_neg c_1] at h
    refine lv_iload_n hx hb d_NT_table_5 rfl (lv_at hl 1 rfl) ?_
    refine lv_bipush (v := 8) hx hb d_NT_table_6 (by decide) ?_
    refine lv_icmp_gt (tgt := 22) hx hb d_NT_table_8 (by decide) (fun c_2 => ?_) (fun c_2 => ?_)
    · rw [if_pos c_2] at h
      replace h := Option.some.inj h
      replace h := Prod.mk.inj h
      obtain ⟨h1, h⟩ := h
      subst h1
      replace h := Prod.mk.inj h
      obtain ⟨h1, h⟩ := h
      subst h1
      replace h := Prod.mk.inj h
      obtain ⟨h1, h⟩ := h
      subst h1
      subst h
      exact hret _ _ hP hD hS _ _ _ _ _ "rows and columns are 1 to 8" hl.1 (Or.inl ⟨rfl, rfl, rfl⟩) (by decide) d_NT_table_22 d_NT_table_25 d_NT_table_26 d_NT_table_28 d_NT_table_31
    · rw [if_neg c_2] at h
      refine lv_iload_n hx hb d_NT_table_11 rfl (lv_at hl 2 rfl) ?_
      refine lv_iconst (v := 1) hx hb d_NT_table_12 (by decide) ?_
      refine lv_icmp_lt (tgt := 22) hx hb d_NT_table_13 (by decide) (fun c_3 => ?_) (fun c_3 => ?_)
      · rw [if_pos c_3] at h
        replace h := Option.some.inj h
        replace h := Prod.mk.inj h
        obtain ⟨h1, h⟩ := h
        subst h1
        replace h := Prod.mk.inj h
        obtain ⟨h1, h⟩ := h
        subst h1
        replace h := Prod.mk.inj h
        obtain ⟨h1, h⟩ := h
        subst h1
        subst h
        exact hret _ _ hP hD hS _ _ _ _ _ "rows and columns are 1 to 8" hl.1 (Or.inl ⟨rfl, rfl, rfl⟩) (by decide) d_NT_table_22 d_NT_table_25 d_NT_table_26 d_NT_table_28 d_NT_table_31
      · rw [if_neg c_3] at h
        refine lv_iload_n hx hb d_NT_table_16 rfl (lv_at hl 2 rfl) ?_
        refine lv_bipush (v := 8) hx hb d_NT_table_17 (by decide) ?_
        refine lv_icmp_le (tgt := 32) hx hb d_NT_table_19 (by decide) (fun c_4 => ?_) (fun c_4 => ?_)
        · rw [if_pos c_4] at h
          refine lv_aload_n hx hb d_NT_table_32 rfl (lv_at hl 0 rfl) ?_
          refine va_get (D := (dC, dI)) (ci := 7) (v := .ref a_t_grid) (C := R_NT) (T := T_NT) (N := 5) hx hb hts in_NT hown hK hP 0 rfl rfl 3 (by decide) (hts _ g_173) (fun _ h9 => h9) rfl d_NT_table_33 ?_
          refine lv_iload_n hx hb d_NT_table_36 rfl (lv_at hl 1 rfl) ?_
          refine lv_iload_n hx hb d_NT_table_37 rfl (lv_at hl 2 rfl) ?_
          replace h := xob_s h
          obtain ⟨⟨s_t_grid_columns_5, s_t_grid_lineLength_6, s_t_grid_rows_7, e_t_grid_numbers_8⟩, hc_9, h⟩ := h
          try dsimp only at h
          refine xcV (As := [.int x1, .int x2]) (rest := []) (st1 := []) (wr := [(a_t, .inr (7, [.ref a_t_text, .ref a_t_numeral, .ref a_t_writer, .ref a_t_grid, .int s_t_wrongPlace]))]) ⟨hx, hb, hml, hown, hts⟩ (c_Table_renew l dC dI a_t_grid a_t_grid_writer a_t_grid_numbers a_t_grid_texts a_t_grid_ends a_t_grid_lines c_t_grid_numbers n_t_grid_numbers s_t_grid_rows s_t_grid_columns s_t_grid_lineLength e_t_grid_numbers x1 x2 s_t_grid_columns_5 s_t_grid_lineLength_6 s_t_grid_rows_7 e_t_grid_numbers_8 hc_9) (cwV 2 hts (xgoodV g_614 g_615 g_616 g_9 g_617) rfl rfl rfl (by decide +kernel) ⟨Nat.le_of_ble_eq_true rfl, Nat.le_of_ble_eq_true rfl⟩) hNz (ci := 4) (q0 := 1) rfl rfl hA hP hD hS hK [1, 2] [0] [0] rfl rfl rfl rfl (by decide) rfl rfl rfl rfl hl.1 (Nat.le_of_ble_eq_true rfl) ⟨Nat.zero_le _, Nat.zero_le _⟩ d_NT_table_38 (fun H locs hP hD hS => ?_)
          have hP : va_P (dC, dI) x_cl [(a_t, .inr (7, [.ref a_t_text, .ref a_t_numeral, .ref a_t_writer, .ref a_t_grid, .int s_t_wrongPlace])), (a_t_grid, .inr (4, [.ref a_t_grid_writer, .ref a_t_grid_numbers, .int s_t_grid_rows_7, .int s_t_grid_columns_5, .ref a_t_grid_texts, .ref a_t_grid_ends, .ref a_t_grid_lines, .int s_t_grid_lineLength_6])), (a_t_grid_numbers, .inl (c_t_grid_numbers, n_t_grid_numbers, .inr (.inl e_t_grid_numbers_8)))] H := hP
          have hD : va_D A [(a_t, .inr (7, [.ref a_t_text, .ref a_t_numeral, .ref a_t_writer, .ref a_t_grid, .int s_t_wrongPlace])), (a_t_grid, .inr (4, [.ref a_t_grid_writer, .ref a_t_grid_numbers, .int s_t_grid_rows_7, .int s_t_grid_columns_5, .ref a_t_grid_texts, .ref a_t_grid_ends, .ref a_t_grid_lines, .int s_t_grid_lineLength_6])), (a_t_grid_numbers, .inl (c_t_grid_numbers, n_t_grid_numbers, .inr (.inl e_t_grid_numbers_8)))] := hD
          cases h
        · rw [if_neg c_4] at h
          replace h := Option.some.inj h
          replace h := Prod.mk.inj h
          obtain ⟨h1, h⟩ := h
          subst h1
          replace h := Prod.mk.inj h
          obtain ⟨h1, h⟩ := h
          subst h1
          replace h := Prod.mk.inj h
          obtain ⟨h1, h⟩ := h
          subst h1
          subst h
          exact hret _ _ hP hD hS _ _ _ _ _ "rows and columns are 1 to 8" hl.1 (Or.inl ⟨rfl, rfl, rfl⟩) (by decide) d_NT_table_22 d_NT_table_25 d_NT_table_26 d_NT_table_28 d_NT_table_31
def t_NT_set (n_t_grid_numbers : Nat) (s_t_wrongPlace : Int32) (s_t_grid_rows : Int32) (s_t_grid_columns : Int32) (s_t_grid_lineLength : Int32) (e_t_grid_numbers : Nat → Int64) (x1 : Int32) (x2 : Int32) (x3 : Int64) : Option ((Nat → Int64)) :=
  xob (f_Table_has s_t_grid_rows s_t_grid_columns s_t_grid_lineLength x1 x2) fun r_1 => if r_1 = 0 then (some e_t_grid_numbers) else (xob (f_Table_put n_t_grid_numbers s_t_grid_rows s_t_grid_columns s_t_grid_lineLength e_t_grid_numbers x1 x2 x3) fun e_t_grid_numbers_4 => none)
def rmt_NT_set : Room := { frames := 6, cells := 1, slots := 6, locals := 90 }
set_option maxHeartbeats 4000000 in
set_option maxRecDepth 100000 in
theorem ct_NT_set (l : Launch) (htr : l.stackTraces = false) (dC : Nat → ClassId) (dI : Nat → Nat → Nat) (a_t a_t_text a_t_numeral a_t_writer a_t_grid a_t_grid_writer a_t_grid_numbers a_t_grid_texts a_t_grid_ends a_t_grid_lines : Nat) (c_t_grid_numbers : ClassId) (n_t_grid_numbers : Nat) (s_t_wrongPlace : Int32) (s_t_grid_rows : Int32) (s_t_grid_columns : Int32) (s_t_grid_lineLength : Int32) (e_t_grid_numbers : Nat → Int64) (x1 : Int32) (x2 : Int32) (x3 : Int64) (e_t_grid_numbers_o : Nat → Int64) (h : t_NT_set n_t_grid_numbers s_t_wrongPlace s_t_grid_rows s_t_grid_columns s_t_grid_lineLength e_t_grid_numbers x1 x2 x3 = some e_t_grid_numbers_o) : xTh l y_NT_set (Cond.code y_NT_set b_NT_set 5 none :: xG) rmt_NT_set (dC, dI) x_cl x_nz [.ref a_t, .int x1, .int x2, .long x3] [(c_t_grid_numbers, .long)] [(a_t, .inr (7, [.ref a_t_text, .ref a_t_numeral, .ref a_t_writer, .ref a_t_grid, .int s_t_wrongPlace])), (a_t_grid, .inr (4, [.ref a_t_grid_writer, .ref a_t_grid_numbers, .int s_t_grid_rows, .int s_t_grid_columns, .ref a_t_grid_texts, .ref a_t_grid_ends, .ref a_t_grid_lines, .int s_t_grid_lineLength])), (a_t_grid_numbers, .inl (c_t_grid_numbers, n_t_grid_numbers, .inr (.inl e_t_grid_numbers)))] [(a_t, .inr (7, [.ref a_t_text, .ref a_t_numeral, .ref a_t_writer, .ref a_t_grid, .int s_t_wrongPlace])), (a_t_grid, .inr (4, [.ref a_t_grid_writer, .ref a_t_grid_numbers, .int s_t_grid_rows, .int s_t_grid_columns, .ref a_t_grid_texts, .ref a_t_grid_ends, .ref a_t_grid_lines, .int s_t_grid_lineLength])), (a_t_grid_numbers, .inl (c_t_grid_numbers, n_t_grid_numbers, .inr (.inl e_t_grid_numbers_o)))] xIO := by
  unfold t_NT_set at h
  refine xTh.mk (cc := b_NT_set) (maxL := 5) htr rfl (by decide +kernel) rfl (Nat.le_of_ble_eq_true rfl) ⟨rfl, rfl, Nat.le_of_ble_eq_true rfl, Nat.le_of_ble_eq_true rfl⟩ ?_
  intro p e s m args below meth c A Q ls hx hb hml hown hts hNz hA hP hD hK hl hret
  have hS : va_S A s.heap s.heap [] := va_S.rf
  have hl : lv_has ls 5 [(0, .ref a_t), (1, .int x1), (2, .int x2), (3, .long x3)] := hl
  refine lv_aload_n hx hb d_NT_set_0 rfl (lv_at hl 0 rfl) ?_
  refine va_get (D := (dC, dI)) (ci := 7) (v := .ref a_t_grid) (C := R_NT) (T := T_NT) (N := 5) hx hb hts in_NT hown hK hP 0 rfl rfl 3 (by decide) (hts _ g_173) (fun _ h9 => h9) rfl d_NT_set_1 ?_
  refine lv_iload_n hx hb d_NT_set_4 rfl (lv_at hl 1 rfl) ?_
  refine lv_iload_n hx hb d_NT_set_5 rfl (lv_at hl 2 rfl) ?_
  replace h := xob_s h
  obtain ⟨r_1, hc_2, h⟩ := h
  try dsimp only at h
  refine xcV (As := [.int x1, .int x2]) (rest := []) (st1 := [.int r_1]) (wr := [(a_t, .inr (7, [.ref a_t_text, .ref a_t_numeral, .ref a_t_writer, .ref a_t_grid, .int s_t_wrongPlace])), (a_t_grid_numbers, .inl (c_t_grid_numbers, n_t_grid_numbers, .inr (.inl e_t_grid_numbers)))]) ⟨hx, hb, hml, hown, hts⟩ (c_Table_has l dC dI a_t_grid a_t_grid_writer a_t_grid_numbers a_t_grid_texts a_t_grid_ends a_t_grid_lines s_t_grid_rows s_t_grid_columns s_t_grid_lineLength x1 x2 r_1 hc_2) (cwV 2 hts (xgoodV g_626 g_627 g_628 g_9 g_629) rfl rfl rfl (by decide +kernel) ⟨Nat.le_of_ble_eq_true rfl, Nat.le_of_ble_eq_true rfl⟩) hNz (ci := 4) (q0 := 1) rfl rfl hA hP hD hS hK [1] [0, 2] [] rfl rfl rfl rfl (by decide) rfl rfl rfl rfl hl.1 (Nat.le_of_ble_eq_true rfl) ⟨Nat.zero_le _, Nat.zero_le _⟩ d_NT_set_6 (fun H locs hP hD hS => ?_)
  have hP : va_P (dC, dI) x_cl [(a_t, .inr (7, [.ref a_t_text, .ref a_t_numeral, .ref a_t_writer, .ref a_t_grid, .int s_t_wrongPlace])), (a_t_grid_numbers, .inl (c_t_grid_numbers, n_t_grid_numbers, .inr (.inl e_t_grid_numbers))), (a_t_grid, .inr (4, [.ref a_t_grid_writer, .ref a_t_grid_numbers, .int s_t_grid_rows, .int s_t_grid_columns, .ref a_t_grid_texts, .ref a_t_grid_ends, .ref a_t_grid_lines, .int s_t_grid_lineLength]))] H := hP
  have hD : va_D A [(a_t, .inr (7, [.ref a_t_text, .ref a_t_numeral, .ref a_t_writer, .ref a_t_grid, .int s_t_wrongPlace])), (a_t_grid_numbers, .inl (c_t_grid_numbers, n_t_grid_numbers, .inr (.inl e_t_grid_numbers))), (a_t_grid, .inr (4, [.ref a_t_grid_writer, .ref a_t_grid_numbers, .int s_t_grid_rows, .int s_t_grid_columns, .ref a_t_grid_texts, .ref a_t_grid_ends, .ref a_t_grid_lines, .int s_t_grid_lineLength]))] := hD
  refine lv_if_ne (tgt := 22) hx hb d_NT_set_9 (by decide) (fun c_3 => ?_) (fun c_3 => ?_)
  · rw [if_neg c_3] at h
    refine lv_aload_n hx hb d_NT_set_22 rfl (lv_at hl 0 rfl) ?_
    refine va_get (D := (dC, dI)) (ci := 7) (v := .ref a_t_grid) (C := R_NT) (T := T_NT) (N := 5) hx hb hts in_NT hown hK hP 0 rfl rfl 3 (by decide) (hts _ g_173) (fun _ h9 => h9) rfl d_NT_set_23 ?_
    refine lv_iload_n hx hb d_NT_set_26 rfl (lv_at hl 1 rfl) ?_
    refine lv_iload_n hx hb d_NT_set_27 rfl (lv_at hl 2 rfl) ?_
    refine lv_lload_n hx hb d_NT_set_28 rfl (lv_at hl 3 rfl) ?_
    replace h := xob_s h
    obtain ⟨e_t_grid_numbers_4, hc_5, h⟩ := h
    try dsimp only at h
    refine xcV (As := [.int x1, .int x2, .long x3]) (rest := []) (st1 := []) (wr := [(a_t, .inr (7, [.ref a_t_text, .ref a_t_numeral, .ref a_t_writer, .ref a_t_grid, .int s_t_wrongPlace]))]) ⟨hx, hb, hml, hown, hts⟩ (c_Table_put l dC dI a_t_grid a_t_grid_writer a_t_grid_numbers a_t_grid_texts a_t_grid_ends a_t_grid_lines c_t_grid_numbers n_t_grid_numbers s_t_grid_rows s_t_grid_columns s_t_grid_lineLength e_t_grid_numbers x1 x2 x3 e_t_grid_numbers_4 hc_5) (cwV 3 hts (xgoodV g_646 g_647 g_648 g_9 g_649) rfl rfl rfl (by decide +kernel) ⟨Nat.le_of_ble_eq_true rfl, Nat.le_of_ble_eq_true rfl⟩) hNz (ci := 4) (q0 := 2) rfl rfl hA hP hD hS hK [2, 1] [0] [0] rfl rfl rfl rfl (by decide) rfl rfl rfl rfl hl.1 (Nat.le_of_ble_eq_true rfl) ⟨Nat.zero_le _, Nat.zero_le _⟩ d_NT_set_29 (fun H locs hP hD hS => ?_)
    have hP : va_P (dC, dI) x_cl [(a_t, .inr (7, [.ref a_t_text, .ref a_t_numeral, .ref a_t_writer, .ref a_t_grid, .int s_t_wrongPlace])), (a_t_grid, .inr (4, [.ref a_t_grid_writer, .ref a_t_grid_numbers, .int s_t_grid_rows, .int s_t_grid_columns, .ref a_t_grid_texts, .ref a_t_grid_ends, .ref a_t_grid_lines, .int s_t_grid_lineLength])), (a_t_grid_numbers, .inl (c_t_grid_numbers, n_t_grid_numbers, .inr (.inl e_t_grid_numbers_4)))] H := hP
    have hD : va_D A [(a_t, .inr (7, [.ref a_t_text, .ref a_t_numeral, .ref a_t_writer, .ref a_t_grid, .int s_t_wrongPlace])), (a_t_grid, .inr (4, [.ref a_t_grid_writer, .ref a_t_grid_numbers, .int s_t_grid_rows, .int s_t_grid_columns, .ref a_t_grid_texts, .ref a_t_grid_ends, .ref a_t_grid_lines, .int s_t_grid_lineLength])), (a_t_grid_numbers, .inl (c_t_grid_numbers, n_t_grid_numbers, .inr (.inl e_t_grid_numbers_4)))] := hD
    cases h
  · rw [if_pos c_3] at h
    replace h := Option.some.inj h
    subst h
    exact hret _ _ (hP.sub [0, 2, 1] rfl) (hD.sub [0, 2, 1] (by decide) rfl) hS _ _ _ _ _ "no such row or column" hl.1 (Or.inr ⟨rfl, rfl, rfl⟩) (by decide) d_NT_set_12 d_NT_set_15 d_NT_set_16 d_NT_set_18 d_NT_set_21
def t_NT_layout (n_t_grid_writer_fixed_limbs : Nat) (n_t_grid_writer_decimal_digits : Nat) (n_t_grid_numbers : Nat) (n_t_grid_texts_characters : Nat) (n_t_grid_ends : Nat) (n_t_grid_lines : Nat) (s_t_wrongPlace : Int32) (s_t_grid_rows : Int32) (s_t_grid_columns : Int32) (s_t_grid_lineLength : Int32) (s_t_grid_writer_fixed_first : Int32) (s_t_grid_writer_fixed_end : Int32) (e_t_grid_writer_fixed_limbs : Nat → Int32) (s_t_grid_writer_decimal_count : Int32) (s_t_grid_writer_decimal_point : Int32) (e_t_grid_writer_decimal_digits : Nat → Int32) (e_t_grid_numbers : Nat → Int64) (s_t_grid_texts_length : Int32) (e_t_grid_texts_characters : Nat → Int32) (e_t_grid_ends : Nat → Int32) (e_t_grid_lines : Nat → Int32) (x1 : Int32) : Option (Int32 × Int32 × Int32 × (Nat → Int32) × Int32 × Int32 × (Nat → Int32) × Int32 × (Nat → Int32) × (Nat → Int32) × (Nat → Int32)) :=
  if x1 < (1 : Int32) then (some (s_t_grid_lineLength, s_t_grid_writer_fixed_end, s_t_grid_writer_fixed_first, e_t_grid_writer_fixed_limbs, s_t_grid_writer_decimal_count, s_t_grid_writer_decimal_point, e_t_grid_writer_decimal_digits, s_t_grid_texts_length, e_t_grid_texts_characters, e_t_grid_ends, e_t_grid_lines)) else (if x1 ≤ (17 : Int32) then (xob (f_Table_layOut n_t_grid_writer_fixed_limbs n_t_grid_writer_decimal_digits n_t_grid_numbers n_t_grid_texts_characters n_t_grid_ends n_t_grid_lines s_t_grid_rows s_t_grid_columns s_t_grid_lineLength s_t_grid_writer_fixed_first s_t_grid_writer_fixed_end e_t_grid_writer_fixed_limbs s_t_grid_writer_decimal_count s_t_grid_writer_decimal_point e_t_grid_writer_decimal_digits e_t_grid_numbers s_t_grid_texts_length e_t_grid_texts_characters e_t_grid_ends e_t_grid_lines x1) fun (r_3, s_t_grid_lineLength_4, s_t_grid_writer_fixed_end_5, s_t_grid_writer_fixed_first_6, e_t_grid_writer_fixed_limbs_7, s_t_grid_writer_decimal_count_8, s_t_grid_writer_decimal_point_9, e_t_grid_writer_decimal_digits_10, s_t_grid_texts_length_11, e_t_grid_texts_characters_12, e_t_grid_ends_13, e_t_grid_lines_14) => none) else (some (s_t_grid_lineLength, s_t_grid_writer_fixed_end, s_t_grid_writer_fixed_first, e_t_grid_writer_fixed_limbs, s_t_grid_writer_decimal_count, s_t_grid_writer_decimal_point, e_t_grid_writer_decimal_digits, s_t_grid_texts_length, e_t_grid_texts_characters, e_t_grid_ends, e_t_grid_lines)))
def rmt_NT_layout : Room := { frames := 7, cells := 1, slots := 6, locals := 167 }
set_option maxHeartbeats 4000000 in
set_option maxRecDepth 100000 in
theorem ct_NT_layout (l : Launch) (htr : l.stackTraces = false) (dC : Nat → ClassId) (dI : Nat → Nat → Nat) (a_t a_t_text a_t_numeral a_t_writer a_t_grid a_t_grid_writer a_t_grid_numbers a_t_grid_texts a_t_grid_ends a_t_grid_lines a_t_grid_writer_fixed a_t_grid_writer_decimal a_t_grid_writer_low a_t_grid_writer_high a_t_grid_writer_fixed_limbs a_t_grid_writer_decimal_digits a_t_grid_texts_characters : Nat) (c_t_grid_writer_fixed_limbs c_t_grid_writer_decimal_digits c_t_grid_numbers c_t_grid_texts_characters c_t_grid_ends c_t_grid_lines : ClassId) (n_t_grid_writer_fixed_limbs : Nat) (n_t_grid_writer_decimal_digits : Nat) (n_t_grid_numbers : Nat) (n_t_grid_texts_characters : Nat) (n_t_grid_ends : Nat) (n_t_grid_lines : Nat) (s_t_wrongPlace : Int32) (s_t_grid_rows : Int32) (s_t_grid_columns : Int32) (s_t_grid_lineLength : Int32) (s_t_grid_writer_fixed_first : Int32) (s_t_grid_writer_fixed_end : Int32) (e_t_grid_writer_fixed_limbs : Nat → Int32) (s_t_grid_writer_decimal_count : Int32) (s_t_grid_writer_decimal_point : Int32) (e_t_grid_writer_decimal_digits : Nat → Int32) (e_t_grid_numbers : Nat → Int64) (s_t_grid_texts_length : Int32) (e_t_grid_texts_characters : Nat → Int32) (e_t_grid_ends : Nat → Int32) (e_t_grid_lines : Nat → Int32) (x1 : Int32) (s_t_grid_lineLength_o : Int32) (s_t_grid_writer_fixed_end_o : Int32) (s_t_grid_writer_fixed_first_o : Int32) (e_t_grid_writer_fixed_limbs_o : Nat → Int32) (s_t_grid_writer_decimal_count_o : Int32) (s_t_grid_writer_decimal_point_o : Int32) (e_t_grid_writer_decimal_digits_o : Nat → Int32) (s_t_grid_texts_length_o : Int32) (e_t_grid_texts_characters_o : Nat → Int32) (e_t_grid_ends_o : Nat → Int32) (e_t_grid_lines_o : Nat → Int32) (h : t_NT_layout n_t_grid_writer_fixed_limbs n_t_grid_writer_decimal_digits n_t_grid_numbers n_t_grid_texts_characters n_t_grid_ends n_t_grid_lines s_t_wrongPlace s_t_grid_rows s_t_grid_columns s_t_grid_lineLength s_t_grid_writer_fixed_first s_t_grid_writer_fixed_end e_t_grid_writer_fixed_limbs s_t_grid_writer_decimal_count s_t_grid_writer_decimal_point e_t_grid_writer_decimal_digits e_t_grid_numbers s_t_grid_texts_length e_t_grid_texts_characters e_t_grid_ends e_t_grid_lines x1 = some (s_t_grid_lineLength_o, s_t_grid_writer_fixed_end_o, s_t_grid_writer_fixed_first_o, e_t_grid_writer_fixed_limbs_o, s_t_grid_writer_decimal_count_o, s_t_grid_writer_decimal_point_o, e_t_grid_writer_decimal_digits_o, s_t_grid_texts_length_o, e_t_grid_texts_characters_o, e_t_grid_ends_o, e_t_grid_lines_o)) : xTh l y_NT_layout (Cond.code y_NT_layout b_NT_layout 2 (some .int) :: xG) rmt_NT_layout (dC, dI) x_cl x_nz [.ref a_t, .int x1] [(c_t_grid_writer_fixed_limbs, .int), (c_t_grid_writer_decimal_digits, .byte), (c_t_grid_numbers, .long), (c_t_grid_texts_characters, .byte), (c_t_grid_ends, .int), (c_t_grid_lines, .byte)] [(a_t, .inr (7, [.ref a_t_text, .ref a_t_numeral, .ref a_t_writer, .ref a_t_grid, .int s_t_wrongPlace])), (a_t_grid, .inr (4, [.ref a_t_grid_writer, .ref a_t_grid_numbers, .int s_t_grid_rows, .int s_t_grid_columns, .ref a_t_grid_texts, .ref a_t_grid_ends, .ref a_t_grid_lines, .int s_t_grid_lineLength])), (a_t_grid_writer, .inr (6, [.ref a_t_grid_writer_fixed, .ref a_t_grid_writer_decimal, .ref a_t_grid_writer_low, .ref a_t_grid_writer_high])), (a_t_grid_writer_fixed, .inr (1, [.ref a_t_grid_writer_fixed_limbs, .int s_t_grid_writer_fixed_first, .int s_t_grid_writer_fixed_end])), (a_t_grid_writer_fixed_limbs, .inl (c_t_grid_writer_fixed_limbs, n_t_grid_writer_fixed_limbs, .inl e_t_grid_writer_fixed_limbs)), (a_t_grid_writer_decimal, .inr (0, [.ref a_t_grid_writer_decimal_digits, .int s_t_grid_writer_decimal_count, .int s_t_grid_writer_decimal_point])), (a_t_grid_writer_decimal_digits, .inl (c_t_grid_writer_decimal_digits, n_t_grid_writer_decimal_digits, .inl e_t_grid_writer_decimal_digits)), (a_t_grid_numbers, .inl (c_t_grid_numbers, n_t_grid_numbers, .inr (.inl e_t_grid_numbers))), (a_t_grid_texts, .inr (5, [.ref a_t_grid_texts_characters, .int s_t_grid_texts_length])), (a_t_grid_texts_characters, .inl (c_t_grid_texts_characters, n_t_grid_texts_characters, .inl e_t_grid_texts_characters)), (a_t_grid_ends, .inl (c_t_grid_ends, n_t_grid_ends, .inl e_t_grid_ends)), (a_t_grid_lines, .inl (c_t_grid_lines, n_t_grid_lines, .inl e_t_grid_lines))] [(a_t, .inr (7, [.ref a_t_text, .ref a_t_numeral, .ref a_t_writer, .ref a_t_grid, .int s_t_wrongPlace])), (a_t_grid, .inr (4, [.ref a_t_grid_writer, .ref a_t_grid_numbers, .int s_t_grid_rows, .int s_t_grid_columns, .ref a_t_grid_texts, .ref a_t_grid_ends, .ref a_t_grid_lines, .int s_t_grid_lineLength_o])), (a_t_grid_writer, .inr (6, [.ref a_t_grid_writer_fixed, .ref a_t_grid_writer_decimal, .ref a_t_grid_writer_low, .ref a_t_grid_writer_high])), (a_t_grid_writer_fixed, .inr (1, [.ref a_t_grid_writer_fixed_limbs, .int s_t_grid_writer_fixed_first_o, .int s_t_grid_writer_fixed_end_o])), (a_t_grid_writer_fixed_limbs, .inl (c_t_grid_writer_fixed_limbs, n_t_grid_writer_fixed_limbs, .inl e_t_grid_writer_fixed_limbs_o)), (a_t_grid_writer_decimal, .inr (0, [.ref a_t_grid_writer_decimal_digits, .int s_t_grid_writer_decimal_count_o, .int s_t_grid_writer_decimal_point_o])), (a_t_grid_writer_decimal_digits, .inl (c_t_grid_writer_decimal_digits, n_t_grid_writer_decimal_digits, .inl e_t_grid_writer_decimal_digits_o)), (a_t_grid_numbers, .inl (c_t_grid_numbers, n_t_grid_numbers, .inr (.inl e_t_grid_numbers))), (a_t_grid_texts, .inr (5, [.ref a_t_grid_texts_characters, .int s_t_grid_texts_length_o])), (a_t_grid_texts_characters, .inl (c_t_grid_texts_characters, n_t_grid_texts_characters, .inl e_t_grid_texts_characters_o)), (a_t_grid_ends, .inl (c_t_grid_ends, n_t_grid_ends, .inl e_t_grid_ends_o)), (a_t_grid_lines, .inl (c_t_grid_lines, n_t_grid_lines, .inl e_t_grid_lines_o))] xIA := by
  unfold t_NT_layout at h
  refine xTh.mk (cc := b_NT_layout) (maxL := 2) htr rfl (by decide +kernel) rfl (Nat.le_of_ble_eq_true rfl) ⟨rfl, rfl, Nat.le_of_ble_eq_true rfl, Nat.le_of_ble_eq_true rfl⟩ ?_
  intro p e s m args below meth c A Q ls hx hb hml hown hts hNz hA hP hD hK hl hret
  have hS : va_S A s.heap s.heap [] := va_S.rf
  have hl : lv_has ls 2 [(0, .ref a_t), (1, .int x1)] := hl
  refine lv_iload_n hx hb d_NT_layout_0 rfl (lv_at hl 1 rfl) ?_
  refine lv_iconst (v := 1) hx hb d_NT_layout_1 (by decide) ?_
  refine lv_icmp_lt (tgt := 11) hx hb d_NT_layout_2 (by decide) (fun c_1 => ?_) (fun c_1 => ?_)
  · rw [if_pos c_1] at h
    replace h := Option.some.inj h
    replace h := Prod.mk.inj h
    obtain ⟨h1, h⟩ := h
    subst h1
    replace h := Prod.mk.inj h
    obtain ⟨h1, h⟩ := h
    subst h1
    replace h := Prod.mk.inj h
    obtain ⟨h1, h⟩ := h
    subst h1
    replace h := Prod.mk.inj h
    obtain ⟨h1, h⟩ := h
    subst h1
    replace h := Prod.mk.inj h
    obtain ⟨h1, h⟩ := h
    subst h1
    replace h := Prod.mk.inj h
    obtain ⟨h1, h⟩ := h
    subst h1
    replace h := Prod.mk.inj h
    obtain ⟨h1, h⟩ := h
    subst h1
    replace h := Prod.mk.inj h
    obtain ⟨h1, h⟩ := h
    subst h1
    replace h := Prod.mk.inj h
    obtain ⟨h1, h⟩ := h
    subst h1
    replace h := Prod.mk.inj h
    obtain ⟨h1, h⟩ := h
    subst h1
    subst h
    exact hret _ _ hP hD hS _ _ _ _ _ "digits are 1 to 17" hl.1 (Or.inl ⟨rfl, rfl, rfl⟩) (by decide) d_NT_layout_11 d_NT_layout_14 d_NT_layout_15 d_NT_layout_17 d_NT_layout_20
  · rw [if_neg c_1] at h
    refine lv_iload_n hx hb d_NT_layout_5 rfl (lv_at hl 1 rfl) ?_
    refine lv_bipush (v := 17) hx hb d_NT_layout_6 (by decide) ?_
    refine lv_icmp_le (tgt := 21) hx hb d_NT_layout_8 (by decide) (fun c_2 => ?_) (fun c_2 => ?_)
    · rw [if_pos c_2] at h
      refine lv_aload_n hx hb d_NT_layout_21 rfl (lv_at hl 0 rfl) ?_
      refine va_get (D := (dC, dI)) (ci := 7) (v := .ref a_t_grid) (C := R_NT) (T := T_NT) (N := 5) hx hb hts in_NT hown hK hP 0 rfl rfl 3 (by decide) (hts _ g_173) (fun _ h9 => h9) rfl d_NT_layout_22 ?_
      refine lv_iload_n hx hb d_NT_layout_25 rfl (lv_at hl 1 rfl) ?_
      replace h := xob_s h
      obtain ⟨⟨r_3, s_t_grid_lineLength_4, s_t_grid_writer_fixed_end_5, s_t_grid_writer_fixed_first_6, e_t_grid_writer_fixed_limbs_7, s_t_grid_writer_decimal_count_8, s_t_grid_writer_decimal_point_9, e_t_grid_writer_decimal_digits_10, s_t_grid_texts_length_11, e_t_grid_texts_characters_12, e_t_grid_ends_13, e_t_grid_lines_14⟩, hc_15, h⟩ := h
      try dsimp only at h
      refine xcV (As := [.int x1]) (rest := []) (st1 := [.int r_3]) (wr := [(a_t, .inr (7, [.ref a_t_text, .ref a_t_numeral, .ref a_t_writer, .ref a_t_grid, .int s_t_wrongPlace]))]) ⟨hx, hb, hml, hown, hts⟩ (c_Table_layOut l dC dI a_t_grid a_t_grid_writer a_t_grid_numbers a_t_grid_texts a_t_grid_ends a_t_grid_lines a_t_grid_writer_fixed a_t_grid_writer_decimal a_t_grid_writer_low a_t_grid_writer_high a_t_grid_writer_fixed_limbs a_t_grid_writer_decimal_digits a_t_grid_texts_characters c_t_grid_writer_fixed_limbs c_t_grid_writer_decimal_digits c_t_grid_numbers c_t_grid_texts_characters c_t_grid_ends c_t_grid_lines n_t_grid_writer_fixed_limbs n_t_grid_writer_decimal_digits n_t_grid_numbers n_t_grid_texts_characters n_t_grid_ends n_t_grid_lines s_t_grid_rows s_t_grid_columns s_t_grid_lineLength s_t_grid_writer_fixed_first s_t_grid_writer_fixed_end e_t_grid_writer_fixed_limbs s_t_grid_writer_decimal_count s_t_grid_writer_decimal_point e_t_grid_writer_decimal_digits e_t_grid_numbers s_t_grid_texts_length e_t_grid_texts_characters e_t_grid_ends e_t_grid_lines x1 r_3 s_t_grid_lineLength_4 s_t_grid_writer_fixed_end_5 s_t_grid_writer_fixed_first_6 e_t_grid_writer_fixed_limbs_7 s_t_grid_writer_decimal_count_8 s_t_grid_writer_decimal_point_9 e_t_grid_writer_decimal_digits_10 s_t_grid_texts_length_11 e_t_grid_texts_characters_12 e_t_grid_ends_13 e_t_grid_lines_14 hc_15) (cwV 1 hts (xgoodV g_657 g_658 g_659 g_9 g_660) rfl rfl rfl (by decide +kernel) ⟨Nat.le_of_ble_eq_true rfl, Nat.le_of_ble_eq_true rfl⟩) hNz (ci := 4) (q0 := 1) rfl rfl hA hP hD hS hK [1, 2, 3, 4, 5, 6, 7, 8, 9, 10, 11] [0] [0, 1, 2, 3, 4, 5] rfl rfl rfl rfl (by decide) rfl rfl rfl rfl hl.1 (Nat.le_of_ble_eq_true rfl) ⟨Nat.zero_le _, Nat.zero_le _⟩ d_NT_layout_26 (fun H locs hP hD hS => ?_)
      have hP : va_P (dC, dI) x_cl [(a_t, .inr (7, [.ref a_t_text, .ref a_t_numeral, .ref a_t_writer, .ref a_t_grid, .int s_t_wrongPlace])), (a_t_grid, .inr (4, [.ref a_t_grid_writer, .ref a_t_grid_numbers, .int s_t_grid_rows, .int s_t_grid_columns, .ref a_t_grid_texts, .ref a_t_grid_ends, .ref a_t_grid_lines, .int s_t_grid_lineLength_4])), (a_t_grid_writer, .inr (6, [.ref a_t_grid_writer_fixed, .ref a_t_grid_writer_decimal, .ref a_t_grid_writer_low, .ref a_t_grid_writer_high])), (a_t_grid_writer_fixed, .inr (1, [.ref a_t_grid_writer_fixed_limbs, .int s_t_grid_writer_fixed_first_6, .int s_t_grid_writer_fixed_end_5])), (a_t_grid_writer_fixed_limbs, .inl (c_t_grid_writer_fixed_limbs, n_t_grid_writer_fixed_limbs, .inl e_t_grid_writer_fixed_limbs_7)), (a_t_grid_writer_decimal, .inr (0, [.ref a_t_grid_writer_decimal_digits, .int s_t_grid_writer_decimal_count_8, .int s_t_grid_writer_decimal_point_9])), (a_t_grid_writer_decimal_digits, .inl (c_t_grid_writer_decimal_digits, n_t_grid_writer_decimal_digits, .inl e_t_grid_writer_decimal_digits_10)), (a_t_grid_numbers, .inl (c_t_grid_numbers, n_t_grid_numbers, .inr (.inl e_t_grid_numbers))), (a_t_grid_texts, .inr (5, [.ref a_t_grid_texts_characters, .int s_t_grid_texts_length_11])), (a_t_grid_texts_characters, .inl (c_t_grid_texts_characters, n_t_grid_texts_characters, .inl e_t_grid_texts_characters_12)), (a_t_grid_ends, .inl (c_t_grid_ends, n_t_grid_ends, .inl e_t_grid_ends_13)), (a_t_grid_lines, .inl (c_t_grid_lines, n_t_grid_lines, .inl e_t_grid_lines_14))] H := hP
      have hD : va_D A [(a_t, .inr (7, [.ref a_t_text, .ref a_t_numeral, .ref a_t_writer, .ref a_t_grid, .int s_t_wrongPlace])), (a_t_grid, .inr (4, [.ref a_t_grid_writer, .ref a_t_grid_numbers, .int s_t_grid_rows, .int s_t_grid_columns, .ref a_t_grid_texts, .ref a_t_grid_ends, .ref a_t_grid_lines, .int s_t_grid_lineLength_4])), (a_t_grid_writer, .inr (6, [.ref a_t_grid_writer_fixed, .ref a_t_grid_writer_decimal, .ref a_t_grid_writer_low, .ref a_t_grid_writer_high])), (a_t_grid_writer_fixed, .inr (1, [.ref a_t_grid_writer_fixed_limbs, .int s_t_grid_writer_fixed_first_6, .int s_t_grid_writer_fixed_end_5])), (a_t_grid_writer_fixed_limbs, .inl (c_t_grid_writer_fixed_limbs, n_t_grid_writer_fixed_limbs, .inl e_t_grid_writer_fixed_limbs_7)), (a_t_grid_writer_decimal, .inr (0, [.ref a_t_grid_writer_decimal_digits, .int s_t_grid_writer_decimal_count_8, .int s_t_grid_writer_decimal_point_9])), (a_t_grid_writer_decimal_digits, .inl (c_t_grid_writer_decimal_digits, n_t_grid_writer_decimal_digits, .inl e_t_grid_writer_decimal_digits_10)), (a_t_grid_numbers, .inl (c_t_grid_numbers, n_t_grid_numbers, .inr (.inl e_t_grid_numbers))), (a_t_grid_texts, .inr (5, [.ref a_t_grid_texts_characters, .int s_t_grid_texts_length_11])), (a_t_grid_texts_characters, .inl (c_t_grid_texts_characters, n_t_grid_texts_characters, .inl e_t_grid_texts_characters_12)), (a_t_grid_ends, .inl (c_t_grid_ends, n_t_grid_ends, .inl e_t_grid_ends_13)), (a_t_grid_lines, .inl (c_t_grid_lines, n_t_grid_lines, .inl e_t_grid_lines_14))] := hD
      cases h
    · rw [if_neg c_2] at h
      replace h := Option.some.inj h
      replace h := Prod.mk.inj h
      obtain ⟨h1, h⟩ := h
      subst h1
      replace h := Prod.mk.inj h
      obtain ⟨h1, h⟩ := h
      subst h1
      replace h := Prod.mk.inj h
      obtain ⟨h1, h⟩ := h
      subst h1
      replace h := Prod.mk.inj h
      obtain ⟨h1, h⟩ := h
      subst h1
      replace h := Prod.mk.inj h
      obtain ⟨h1, h⟩ := h
      subst h1
      replace h := Prod.mk.inj h
      obtain ⟨h1, h⟩ := h
      subst h1
      replace h := Prod.mk.inj h
      obtain ⟨h1, h⟩ := h
      subst h1
      replace h := Prod.mk.inj h
      obtain ⟨h1, h⟩ := h
      subst h1
      replace h := Prod.mk.inj h
      obtain ⟨h1, h⟩ := h
      subst h1
      replace h := Prod.mk.inj h
      obtain ⟨h1, h⟩ := h
      subst h1
      subst h
      exact hret _ _ hP hD hS _ _ _ _ _ "digits are 1 to 17" hl.1 (Or.inl ⟨rfl, rfl, rfl⟩) (by decide) d_NT_layout_11 d_NT_layout_14 d_NT_layout_15 d_NT_layout_17 d_NT_layout_20
