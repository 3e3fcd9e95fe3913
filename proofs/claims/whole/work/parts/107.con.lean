def f_Writer_findShort (n_t_fixed_limbs : Nat) (n_t_decimal_digits : Nat) (n_t_low_digits : Nat) (n_t_high_digits : Nat) (s_t_fixed_first : Int32) (s_t_fixed_end : Int32) (e_t_fixed_limbs : Nat → Int32) (s_t_decimal_count : Int32) (s_t_decimal_point : Int32) (e_t_decimal_digits : Nat → Int32) (s_t_low_count : Int32) (s_t_low_point : Int32) (e_t_low_digits : Nat → Int32) (s_t_high_count : Int32) (s_t_high_point : Int32) (e_t_high_digits : Nat → Int32) (x1 : Int64) : Option (Int32 × Int32 × (Nat → Int32) × Int32 × Int32 × (Nat → Int32) × Int32 × Int32 × (Nat → Int32) × Int32 × Int32 × (Nat → Int32)) :=
  xob (f_NT_multiple x1) fun r_1 => xnm ((4 : Int64) * r_1) fun x3_3 => xob (f_NT_power x1) fun r_4 => xnm (r_4 - (2 : Int32)) fun x5_6 => xob (f_NT_fractionField x1) fun r_7 => xob (if (lg_cmp r_7 (0 : Int64)) = 0 then (xob (f_NT_exponentField x1) fun r_48 => if r_48 ≤ (1 : Int32) then (some (0 : Int32)) else (some (1 : Int32))) else (some (0 : Int32))) fun z_9 => xob (if z_9 = 0 then (some (2 : Int32)) else (some (1 : Int32))) fun z_12 => xob (f_Writer_expand n_t_fixed_limbs n_t_low_digits s_t_fixed_first s_t_fixed_end e_t_fixed_limbs s_t_low_count s_t_low_point e_t_low_digits (x3_3 - (z_12.toInt64)) x5_6) fun (s_t_fixed_end_15, s_t_fixed_first_16, e_t_fixed_limbs_17, s_t_low_count_18, s_t_low_point_19, e_t_low_digits_20) => xob (f_Writer_expand n_t_fixed_limbs n_t_decimal_digits s_t_fixed_first_16 s_t_fixed_end_15 e_t_fixed_limbs_17 s_t_decimal_count s_t_decimal_point e_t_decimal_digits x3_3 x5_6) fun (s_t_fixed_end_22, s_t_fixed_first_23, e_t_fixed_limbs_24, s_t_decimal_count_25, s_t_decimal_point_26, e_t_decimal_digits_27) => xob (f_Writer_expand n_t_fixed_limbs n_t_high_digits s_t_fixed_first_23 s_t_fixed_end_22 e_t_fixed_limbs_24 s_t_high_count s_t_high_point e_t_high_digits (x3_3 + (2 : Int64)) x5_6) fun (s_t_fixed_end_29, s_t_fixed_first_30, e_t_fixed_limbs_31, s_t_high_count_32, s_t_high_point_33, e_t_high_digits_34) => xob (f_NT_fractionField x1) fun r_36 => xob (if (lg_cmp (r_36 &&& (1 : Int64)) (0 : Int64)) = 0 then (some (1 : Int32)) else (some (0 : Int32))) fun z_38 => xob (f_Writer_shorten n_t_decimal_digits n_t_low_digits n_t_high_digits s_t_decimal_count_25 s_t_decimal_point_26 e_t_decimal_digits_27 s_t_low_count_18 s_t_low_point_19 e_t_low_digits_20 s_t_high_count_32 s_t_high_point_33 e_t_high_digits_34 z_38) fun (s_t_decimal_count_41, s_t_decimal_point_42, e_t_decimal_digits_43) => some (s_t_fixed_end_29, s_t_fixed_first_30, e_t_fixed_limbs_31, s_t_decimal_count_41, s_t_decimal_point_42, e_t_decimal_digits_43, s_t_low_count_18, s_t_low_point_19, e_t_low_digits_20, s_t_high_count_32, s_t_high_point_33, e_t_high_digits_34)
def rm_Writer_findShort : Room := { frames := 4, cells := 0, slots := 0, locals := 99 }
set_option maxHeartbeats 4000000 in
set_option maxRecDepth 100000 in
theorem c_Writer_findShort (l : Launch) (dC : Nat → ClassId) (dI : Nat → Nat → Nat) (a_t a_t_fixed a_t_decimal a_t_low a_t_high a_t_fixed_limbs a_t_decimal_digits a_t_low_digits a_t_high_digits : Nat) (c_t_fixed_limbs c_t_decimal_digits c_t_low_digits c_t_high_digits : ClassId) (n_t_fixed_limbs : Nat) (n_t_decimal_digits : Nat) (n_t_low_digits : Nat) (n_t_high_digits : Nat) (s_t_fixed_first : Int32) (s_t_fixed_end : Int32) (e_t_fixed_limbs : Nat → Int32) (s_t_decimal_count : Int32) (s_t_decimal_point : Int32) (e_t_decimal_digits : Nat → Int32) (s_t_low_count : Int32) (s_t_low_point : Int32) (e_t_low_digits : Nat → Int32) (s_t_high_count : Int32) (s_t_high_point : Int32) (e_t_high_digits : Nat → Int32) (x1 : Int64) (s_t_fixed_end_o : Int32) (s_t_fixed_first_o : Int32) (e_t_fixed_limbs_o : Nat → Int32) (s_t_decimal_count_o : Int32) (s_t_decimal_point_o : Int32) (e_t_decimal_digits_o : Nat → Int32) (s_t_low_count_o : Int32) (s_t_low_point_o : Int32) (e_t_low_digits_o : Nat → Int32) (s_t_high_count_o : Int32) (s_t_high_point_o : Int32) (e_t_high_digits_o : Nat → Int32) (h : f_Writer_findShort n_t_fixed_limbs n_t_decimal_digits n_t_low_digits n_t_high_digits s_t_fixed_first s_t_fixed_end e_t_fixed_limbs s_t_decimal_count s_t_decimal_point e_t_decimal_digits s_t_low_count s_t_low_point e_t_low_digits s_t_high_count s_t_high_point e_t_high_digits x1 = some (s_t_fixed_end_o, s_t_fixed_first_o, e_t_fixed_limbs_o, s_t_decimal_count_o, s_t_decimal_point_o, e_t_decimal_digits_o, s_t_low_count_o, s_t_low_point_o, e_t_low_digits_o, s_t_high_count_o, s_t_high_point_o, e_t_high_digits_o)) : xM l y_Writer_findShort (Cond.code y_Writer_findShort b_Writer_findShort 7 none :: xG) rm_Writer_findShort (dC, dI) x_cl x_nz [.ref a_t, .long x1] [(c_t_fixed_limbs, .int), (c_t_decimal_digits, .byte), (c_t_low_digits, .byte), (c_t_high_digits, .byte)] [(a_t, .inr (6, [.ref a_t_fixed, .ref a_t_decimal, .ref a_t_low, .ref a_t_high])), (a_t_fixed, .inr (1, [.ref a_t_fixed_limbs, .int s_t_fixed_first, .int s_t_fixed_end])), (a_t_fixed_limbs, .inl (c_t_fixed_limbs, n_t_fixed_limbs, .inl e_t_fixed_limbs)), (a_t_decimal, .inr (0, [.ref a_t_decimal_digits, .int s_t_decimal_count, .int s_t_decimal_point])), (a_t_decimal_digits, .inl (c_t_decimal_digits, n_t_decimal_digits, .inl e_t_decimal_digits)), (a_t_low, .inr (0, [.ref a_t_low_digits, .int s_t_low_count, .int s_t_low_point])), (a_t_low_digits, .inl (c_t_low_digits, n_t_low_digits, .inl e_t_low_digits)), (a_t_high, .inr (0, [.ref a_t_high_digits, .int s_t_high_count, .int s_t_high_point])), (a_t_high_digits, .inl (c_t_high_digits, n_t_high_digits, .inl e_t_high_digits))] none [(a_t, .inr (6, [.ref a_t_fixed, .ref a_t_decimal, .ref a_t_low, .ref a_t_high])), (a_t_fixed, .inr (1, [.ref a_t_fixed_limbs, .int s_t_fixed_first_o, .int s_t_fixed_end_o])), (a_t_fixed_limbs, .inl (c_t_fixed_limbs, n_t_fixed_limbs, .inl e_t_fixed_limbs_o)), (a_t_decimal, .inr (0, [.ref a_t_decimal_digits, .int s_t_decimal_count_o, .int s_t_decimal_point_o])), (a_t_decimal_digits, .inl (c_t_decimal_digits, n_t_decimal_digits, .inl e_t_decimal_digits_o)), (a_t_low, .inr (0, [.ref a_t_low_digits, .int s_t_low_count_o, .int s_t_low_point_o])), (a_t_low_digits, .inl (c_t_low_digits, n_t_low_digits, .inl e_t_low_digits_o)), (a_t_high, .inr (0, [.ref a_t_high_digits, .int s_t_high_count_o, .int s_t_high_point_o])), (a_t_high_digits, .inl (c_t_high_digits, n_t_high_digits, .inl e_t_high_digits_o))] := by
  unfold f_Writer_findShort at h
  refine xM.mkV (cc := b_Writer_findShort) (maxL := 7)  (by decide +kernel) rfl (Nat.le_of_ble_eq_true rfl) ?_
  intro p e s m args below meth c A Q ls hx hb hml hown hts hNz hA hP hD hK hl hret
  have hS : va_S A s.heap s.heap [] := va_S.rf
  have hl : lv_has ls 7 [(0, .ref a_t), (1, .long x1)] := hl
  refine lv_ldc2 (v := 4) hx hb hown (hts _ g_256) d_Writer_findShort_0 ?_
  refine lv_lload_n hx hb d_Writer_findShort_3 rfl (lv_at hl 1 rfl) ?_
  replace h := xob_s h
  obtain ⟨r_1, hc_2, h⟩ := h
  try dsimp only at h
  refine xcSN (As := [.long x1]) (rest := [.long (4 : Int64)]) (st1 := [.long r_1, .long (4 : Int64)]) (wr := [(a_t, .inr (6, [.ref a_t_fixed, .ref a_t_decimal, .ref a_t_low, .ref a_t_high])), (a_t_fixed, .inr (1, [.ref a_t_fixed_limbs, .int s_t_fixed_first, .int s_t_fixed_end])), (a_t_fixed_limbs, .inl (c_t_fixed_limbs, n_t_fixed_limbs, .inl e_t_fixed_limbs)), (a_t_decimal, .inr (0, [.ref a_t_decimal_digits, .int s_t_decimal_count, .int s_t_decimal_point])), (a_t_decimal_digits, .inl (c_t_decimal_digits, n_t_decimal_digits, .inl e_t_decimal_digits)), (a_t_low, .inr (0, [.ref a_t_low_digits, .int s_t_low_count, .int s_t_low_point])), (a_t_low_digits, .inl (c_t_low_digits, n_t_low_digits, .inl e_t_low_digits)), (a_t_high, .inr (0, [.ref a_t_high_digits, .int s_t_high_count, .int s_t_high_point])), (a_t_high_digits, .inl (c_t_high_digits, n_t_high_digits, .inl e_t_high_digits))]) ⟨hx, hb, hml, hown, hts⟩ (c_NT_multiple l dC dI x1 r_1 hc_2) (⟨va_cnB 1 hts (xgood g_259) rfl rfl rfl (hNz.at 3 rfl) (hts _ g_1) (by decide +kernel) ⟨Nat.le_of_ble_eq_true rfl, Nat.le_of_ble_eq_true rfl⟩, (hts _ g_258), trivial⟩) hNz hA hP hD hS hK [] [0, 1, 2, 3, 4, 5, 6, 7, 8] [] rfl rfl rfl rfl (by decide) rfl rfl rfl rfl hl.1 (Nat.le_of_ble_eq_true rfl) ⟨Nat.zero_le _, Nat.zero_le _⟩ d_Writer_findShort_4 (fun H locs hP hD hS => ?_)
  have hP : va_P (dC, dI) x_cl [(a_t, .inr (6, [.ref a_t_fixed, .ref a_t_decimal, .ref a_t_low, .ref a_t_high])), (a_t_fixed, .inr (1, [.ref a_t_fixed_limbs, .int s_t_fixed_first, .int s_t_fixed_end])), (a_t_fixed_limbs, .inl (c_t_fixed_limbs, n_t_fixed_limbs, .inl e_t_fixed_limbs)), (a_t_decimal, .inr (0, [.ref a_t_decimal_digits, .int s_t_decimal_count, .int s_t_decimal_point])), (a_t_decimal_digits, .inl (c_t_decimal_digits, n_t_decimal_digits, .inl e_t_decimal_digits)), (a_t_low, .inr (0, [.ref a_t_low_digits, .int s_t_low_count, .int s_t_low_point])), (a_t_low_digits, .inl (c_t_low_digits, n_t_low_digits, .inl e_t_low_digits)), (a_t_high, .inr (0, [.ref a_t_high_digits, .int s_t_high_count, .int s_t_high_point])), (a_t_high_digits, .inl (c_t_high_digits, n_t_high_digits, .inl e_t_high_digits))] H := hP
  have hD : va_D A [(a_t, .inr (6, [.ref a_t_fixed, .ref a_t_decimal, .ref a_t_low, .ref a_t_high])), (a_t_fixed, .inr (1, [.ref a_t_fixed_limbs, .int s_t_fixed_first, .int s_t_fixed_end])), (a_t_fixed_limbs, .inl (c_t_fixed_limbs, n_t_fixed_limbs, .inl e_t_fixed_limbs)), (a_t_decimal, .inr (0, [.ref a_t_decimal_digits, .int s_t_decimal_count, .int s_t_decimal_point])), (a_t_decimal_digits, .inl (c_t_decimal_digits, n_t_decimal_digits, .inl e_t_decimal_digits)), (a_t_low, .inr (0, [.ref a_t_low_digits, .int s_t_low_count, .int s_t_low_point])), (a_t_low_digits, .inl (c_t_low_digits, n_t_low_digits, .inl e_t_low_digits)), (a_t_high, .inr (0, [.ref a_t_high_digits, .int s_t_high_count, .int s_t_high_point])), (a_t_high_digits, .inl (c_t_high_digits, n_t_high_digits, .inl e_t_high_digits))] := hD
  refine lv_lmul hx hb d_Writer_findShort_7 ?_
  replace h := xnm_s h
  obtain ⟨x3_3, ex3_3, h⟩ := h
  refine x_topl ex3_3 ?_
  refine lv_lstore_n (lv' := [(3, .long x3_3), (0, .ref a_t), (1, .long x1)]) hx hb d_Writer_findShort_8 rfl hl (by decide) rfl (fun ls hl => ?_)
  refine lv_lload_n hx hb d_Writer_findShort_9 rfl (lv_at hl 2 rfl) ?_
  replace h := xob_s h
  obtain ⟨r_4, hc_5, h⟩ := h
  try dsimp only at h
  refine xcSN (As := [.long x1]) (rest := []) (st1 := [.int r_4]) (wr := [(a_t, .inr (6, [.ref a_t_fixed, .ref a_t_decimal, .ref a_t_low, .ref a_t_high])), (a_t_fixed, .inr (1, [.ref a_t_fixed_limbs, .int s_t_fixed_first, .int s_t_fixed_end])), (a_t_fixed_limbs, .inl (c_t_fixed_limbs, n_t_fixed_limbs, .inl e_t_fixed_limbs)), (a_t_decimal, .inr (0, [.ref a_t_decimal_digits, .int s_t_decimal_count, .int s_t_decimal_point])), (a_t_decimal_digits, .inl (c_t_decimal_digits, n_t_decimal_digits, .inl e_t_decimal_digits)), (a_t_low, .inr (0, [.ref a_t_low_digits, .int s_t_low_count, .int s_t_low_point])), (a_t_low_digits, .inl (c_t_low_digits, n_t_low_digits, .inl e_t_low_digits)), (a_t_high, .inr (0, [.ref a_t_high_digits, .int s_t_high_count, .int s_t_high_point])), (a_t_high_digits, .inl (c_t_high_digits, n_t_high_digits, .inl e_t_high_digits))]) ⟨hx, hb, hml, hown, hts⟩ (c_NT_power l dC dI x1 r_4 hc_5) (⟨va_cnB 1 hts (xgood g_270) rfl rfl rfl (hNz.at 4 rfl) (hts _ g_1) (by decide +kernel) ⟨Nat.le_of_ble_eq_true rfl, Nat.le_of_ble_eq_true rfl⟩, (hts _ g_269), trivial⟩) hNz hA hP hD hS hK [] [0, 1, 2, 3, 4, 5, 6, 7, 8] [] rfl rfl rfl rfl (by decide) rfl rfl rfl rfl hl.1 (Nat.le_of_ble_eq_true rfl) ⟨Nat.zero_le _, Nat.zero_le _⟩ d_Writer_findShort_10 (fun H locs hP hD hS => ?_)
  have hP : va_P (dC, dI) x_cl [(a_t, .inr (6, [.ref a_t_fixed, .ref a_t_decimal, .ref a_t_low, .ref a_t_high])), (a_t_fixed, .inr (1, [.ref a_t_fixed_limbs, .int s_t_fixed_first, .int s_t_fixed_end])), (a_t_fixed_limbs, .inl (c_t_fixed_limbs, n_t_fixed_limbs, .inl e_t_fixed_limbs)), (a_t_decimal, .inr (0, [.ref a_t_decimal_digits, .int s_t_decimal_count, .int s_t_decimal_point])), (a_t_decimal_digits, .inl (c_t_decimal_digits, n_t_decimal_digits, .inl e_t_decimal_digits)), (a_t_low, .inr (0, [.ref a_t_low_digits, .int s_t_low_count, .int s_t_low_point])), (a_t_low_digits, .inl (c_t_low_digits, n_t_low_digits, .inl e_t_low_digits)), (a_t_high, .inr (0, [.ref a_t_high_digits, .int s_t_high_count, .int s_t_high_point])), (a_t_high_digits, .inl (c_t_high_digits, n_t_high_digits, .inl e_t_high_digits))] H := hP
  have hD : va_D A [(a_t, .inr (6, [.ref a_t_fixed, .ref a_t_decimal, .ref a_t_low, .ref a_t_high])), (a_t_fixed, .inr (1, [.ref a_t_fixed_limbs, .int s_t_fixed_first, .int s_t_fixed_end])), (a_t_fixed_limbs, .inl (c_t_fixed_limbs, n_t_fixed_limbs, .inl e_t_fixed_limbs)), (a_t_decimal, .inr (0, [.ref a_t_decimal_digits, .int s_t_decimal_count, .int s_t_decimal_point])), (a_t_decimal_digits, .inl (c_t_decimal_digits, n_t_decimal_digits, .inl e_t_decimal_digits)), (a_t_low, .inr (0, [.ref a_t_low_digits, .int s_t_low_count, .int s_t_low_point])), (a_t_low_digits, .inl (c_t_low_digits, n_t_low_digits, .inl e_t_low_digits)), (a_t_high, .inr (0, [.ref a_t_high_digits, .int s_t_high_count, .int s_t_high_point])), (a_t_high_digits, .inl (c_t_high_digits, n_t_high_digits, .inl e_t_high_digits))] := hD
  refine lv_iconst (v := 2) hx hb d_Writer_findShort_13 (by decide) ?_
  refine lv_isub hx hb d_Writer_findShort_14 ?_
  replace h := xnm_s h
  obtain ⟨x5_6, ex5_6, h⟩ := h
  refine x_topi ex5_6 ?_
  refine lv_istore (lv' := [(5, .int x5_6), (3, .long x3_3), (0, .ref a_t), (1, .long x1)]) hx hb d_Writer_findShort_15 hl (by decide) rfl (fun ls hl => ?_)
  refine lv_lload_n hx hb d_Writer_findShort_17 rfl (lv_at hl 3 rfl) ?_
  replace h := xob_s h
  obtain ⟨r_7, hc_8, h⟩ := h
  try dsimp only at h
  refine xcSN (As := [.long x1]) (rest := []) (st1 := [.long r_7]) (wr := [(a_t, .inr (6, [.ref a_t_fixed, .ref a_t_decimal, .ref a_t_low, .ref a_t_high])), (a_t_fixed, .inr (1, [.ref a_t_fixed_limbs, .int s_t_fixed_first, .int s_t_fixed_end])), (a_t_fixed_limbs, .inl (c_t_fixed_limbs, n_t_fixed_limbs, .inl e_t_fixed_limbs)), (a_t_decimal, .inr (0, [.ref a_t_decimal_digits, .int s_t_decimal_count, .int s_t_decimal_point])), (a_t_decimal_digits, .inl (c_t_decimal_digits, n_t_decimal_digits, .inl e_t_decimal_digits)), (a_t_low, .inr (0, [.ref a_t_low_digits, .int s_t_low_count, .int s_t_low_point])), (a_t_low_digits, .inl (c_t_low_digits, n_t_low_digits, .inl e_t_low_digits)), (a_t_high, .inr (0, [.ref a_t_high_digits, .int s_t_high_count, .int s_t_high_point])), (a_t_high_digits, .inl (c_t_high_digits, n_t_high_digits, .inl e_t_high_digits))]) ⟨hx, hb, hml, hown, hts⟩ (c_NT_fractionField l dC dI x1 r_7 hc_8) (⟨va_cnB 1 hts (xgood g_262) rfl rfl rfl (hNz.at 5 rfl) (hts _ g_1) (by decide +kernel) ⟨Nat.le_of_ble_eq_true rfl, Nat.le_of_ble_eq_true rfl⟩, (hts _ g_261), trivial⟩) hNz hA hP hD hS hK [] [0, 1, 2, 3, 4, 5, 6, 7, 8] [] rfl rfl rfl rfl (by decide) rfl rfl rfl rfl hl.1 (Nat.le_of_ble_eq_true rfl) ⟨Nat.zero_le _, Nat.zero_le _⟩ d_Writer_findShort_18 (fun H locs hP hD hS => ?_)
  have hP : va_P (dC, dI) x_cl [(a_t, .inr (6, [.ref a_t_fixed, .ref a_t_decimal, .ref a_t_low, .ref a_t_high])), (a_t_fixed, .inr (1, [.ref a_t_fixed_limbs, .int s_t_fixed_first, .int s_t_fixed_end])), (a_t_fixed_limbs, .inl (c_t_fixed_limbs, n_t_fixed_limbs, .inl e_t_fixed_limbs)), (a_t_decimal, .inr (0, [.ref a_t_decimal_digits, .int s_t_decimal_count, .int s_t_decimal_point])), (a_t_decimal_digits, .inl (c_t_decimal_digits, n_t_decimal_digits, .inl e_t_decimal_digits)), (a_t_low, .inr (0, [.ref a_t_low_digits, .int s_t_low_count, .int s_t_low_point])), (a_t_low_digits, .inl (c_t_low_digits, n_t_low_digits, .inl e_t_low_digits)), (a_t_high, .inr (0, [.ref a_t_high_digits, .int s_t_high_count, .int s_t_high_point])), (a_t_high_digits, .inl (c_t_high_digits, n_t_high_digits, .inl e_t_high_digits))] H := hP
  have hD : va_D A [(a_t, .inr (6, [.ref a_t_fixed, .ref a_t_decimal, .ref a_t_low, .ref a_t_high])), (a_t_fixed, .inr (1, [.ref a_t_fixed_limbs, .int s_t_fixed_first, .int s_t_fixed_end])), (a_t_fixed_limbs, .inl (c_t_fixed_limbs, n_t_fixed_limbs, .inl e_t_fixed_limbs)), (a_t_decimal, .inr (0, [.ref a_t_decimal_digits, .int s_t_decimal_count, .int s_t_decimal_point])), (a_t_decimal_digits, .inl (c_t_decimal_digits, n_t_decimal_digits, .inl e_t_decimal_digits)), (a_t_low, .inr (0, [.ref a_t_low_digits, .int s_t_low_count, .int s_t_low_point])), (a_t_low_digits, .inl (c_t_low_digits, n_t_low_digits, .inl e_t_low_digits)), (a_t_high, .inr (0, [.ref a_t_high_digits, .int s_t_high_count, .int s_t_high_point])), (a_t_high_digits, .inl (c_t_high_digits, n_t_high_digits, .inl e_t_high_digits))] := hD
  refine lv_lconst (v := 0) hx hb d_Writer_findShort_21 (by decide) ?_
  refine W.lcmp hx hb d_Writer_findShort_22 ?_
  replace h := xob_s h
  obtain ⟨z_9, hj_10, h⟩ := h
  try dsimp only at h
  have hJ_11 : ∀ (H : Heap) (locs : List Loc) (ls : Array Slot), va_P (dC, dI) x_cl [(a_t, .inr (6, [.ref a_t_fixed, .ref a_t_decimal, .ref a_t_low, .ref a_t_high])), (a_t_fixed, .inr (1, [.ref a_t_fixed_limbs, .int s_t_fixed_first, .int s_t_fixed_end])), (a_t_fixed_limbs, .inl (c_t_fixed_limbs, n_t_fixed_limbs, .inl e_t_fixed_limbs)), (a_t_decimal, .inr (0, [.ref a_t_decimal_digits, .int s_t_decimal_count, .int s_t_decimal_point])), (a_t_decimal_digits, .inl (c_t_decimal_digits, n_t_decimal_digits, .inl e_t_decimal_digits)), (a_t_low, .inr (0, [.ref a_t_low_digits, .int s_t_low_count, .int s_t_low_point])), (a_t_low_digits, .inl (c_t_low_digits, n_t_low_digits, .inl e_t_low_digits)), (a_t_high, .inr (0, [.ref a_t_high_digits, .int s_t_high_count, .int s_t_high_point])), (a_t_high_digits, .inl (c_t_high_digits, n_t_high_digits, .inl e_t_high_digits))] H → va_D A [(a_t, .inr (6, [.ref a_t_fixed, .ref a_t_decimal, .ref a_t_low, .ref a_t_high])), (a_t_fixed, .inr (1, [.ref a_t_fixed_limbs, .int s_t_fixed_first, .int s_t_fixed_end])), (a_t_fixed_limbs, .inl (c_t_fixed_limbs, n_t_fixed_limbs, .inl e_t_fixed_limbs)), (a_t_decimal, .inr (0, [.ref a_t_decimal_digits, .int s_t_decimal_count, .int s_t_decimal_point])), (a_t_decimal_digits, .inl (c_t_decimal_digits, n_t_decimal_digits, .inl e_t_decimal_digits)), (a_t_low, .inr (0, [.ref a_t_low_digits, .int s_t_low_count, .int s_t_low_point])), (a_t_low_digits, .inl (c_t_low_digits, n_t_low_digits, .inl e_t_low_digits)), (a_t_high, .inr (0, [.ref a_t_high_digits, .int s_t_high_count, .int s_t_high_point])), (a_t_high_digits, .inl (c_t_high_digits, n_t_high_digits, .inl e_t_high_digits))] → va_S A s.heap H locs → lv_has ls 7 [(0, .ref a_t), (1, .long x1), (3, .long x3_3), (5, .int x5_6)] → W p l e rm_Writer_findShort s m args below meth c H locs 0 0 Q (F0 m 39 ls [.int z_9]) := by
    intro H locs ls hP hD hS hl
    refine lv_istore (lv' := [(6, .int z_9), (0, .ref a_t), (1, .long x1), (3, .long x3_3), (5, .int x5_6)]) hx hb d_Writer_findShort_39 hl (by decide) rfl (fun ls hl => ?_)
    refine lv_aload_n hx hb d_Writer_findShort_41 rfl (lv_at hl 1 rfl) ?_
    refine lv_aload_n hx hb d_Writer_findShort_42 rfl (lv_at hl 1 rfl) ?_
    refine va_get (D := (dC, dI)) (ci := 6) (v := .ref a_t_low) (C := R_Writer) (T := T_Writer) (N := 4) hx hb hts in_Writer hown hK hP 0 rfl rfl 2 (by decide) (hts _ g_125) (fun _ h9 => h9) rfl d_Writer_findShort_43 ?_
    refine lv_lload_n hx hb d_Writer_findShort_46 rfl (lv_at hl 3 rfl) ?_
    refine lv_iload hx hb d_Writer_findShort_47 (lv_at hl 0 rfl) ?_
    replace h := xob_s h
    obtain ⟨z_12, hj_13, h⟩ := h
    try dsimp only at h
    have hJ_14 : ∀ (H : Heap) (locs : List Loc) (ls : Array Slot), va_P (dC, dI) x_cl [(a_t, .inr (6, [.ref a_t_fixed, .ref a_t_decimal, .ref a_t_low, .ref a_t_high])), (a_t_fixed, .inr (1, [.ref a_t_fixed_limbs, .int s_t_fixed_first, .int s_t_fixed_end])), (a_t_fixed_limbs, .inl (c_t_fixed_limbs, n_t_fixed_limbs, .inl e_t_fixed_limbs)), (a_t_decimal, .inr (0, [.ref a_t_decimal_digits, .int s_t_decimal_count, .int s_t_decimal_point])), (a_t_decimal_digits, .inl (c_t_decimal_digits, n_t_decimal_digits, .inl e_t_decimal_digits)), (a_t_low, .inr (0, [.ref a_t_low_digits, .int s_t_low_count, .int s_t_low_point])), (a_t_low_digits, .inl (c_t_low_digits, n_t_low_digits, .inl e_t_low_digits)), (a_t_high, .inr (0, [.ref a_t_high_digits, .int s_t_high_count, .int s_t_high_point])), (a_t_high_digits, .inl (c_t_high_digits, n_t_high_digits, .inl e_t_high_digits))] H → va_D A [(a_t, .inr (6, [.ref a_t_fixed, .ref a_t_decimal, .ref a_t_low, .ref a_t_high])), (a_t_fixed, .inr (1, [.ref a_t_fixed_limbs, .int s_t_fixed_first, .int s_t_fixed_end])), (a_t_fixed_limbs, .inl (c_t_fixed_limbs, n_t_fixed_limbs, .inl e_t_fixed_limbs)), (a_t_decimal, .inr (0, [.ref a_t_decimal_digits, .int s_t_decimal_count, .int s_t_decimal_point])), (a_t_decimal_digits, .inl (c_t_decimal_digits, n_t_decimal_digits, .inl e_t_decimal_digits)), (a_t_low, .inr (0, [.ref a_t_low_digits, .int s_t_low_count, .int s_t_low_point])), (a_t_low_digits, .inl (c_t_low_digits, n_t_low_digits, .inl e_t_low_digits)), (a_t_high, .inr (0, [.ref a_t_high_digits, .int s_t_high_count, .int s_t_high_point])), (a_t_high_digits, .inl (c_t_high_digits, n_t_high_digits, .inl e_t_high_digits))] → va_S A s.heap H locs → lv_has ls 7 [(0, .ref a_t), (1, .long x1), (3, .long x3_3), (5, .int x5_6)] → W p l e rm_Writer_findShort s m args below meth c H locs 0 0 Q (F0 m 57 ls [.int z_12, .long x3_3, .ref a_t_low, .ref a_t]) := by
      intro H locs ls hP hD hS hl
      refine lv_i2l hx hb d_Writer_findShort_57 rfl ?_
      refine lv_lsub hx hb d_Writer_findShort_58 ?_
      refine lv_iload hx hb d_Writer_findShort_59 (lv_at hl 3 rfl) ?_
      replace h := xob_s h
      obtain ⟨⟨s_t_fixed_end_15, s_t_fixed_first_16, e_t_fixed_limbs_17, s_t_low_count_18, s_t_low_point_19, e_t_low_digits_20⟩, hc_21, h⟩ := h
      try dsimp only at h
      refine xcV (As := [.ref a_t_low, .long (x3_3 - (z_12.toInt64)), .int x5_6]) (rest := []) (st1 := []) (wr := [(a_t_decimal, .inr (0, [.ref a_t_decimal_digits, .int s_t_decimal_count, .int s_t_decimal_point])), (a_t_decimal_digits, .inl (c_t_decimal_digits, n_t_decimal_digits, .inl e_t_decimal_digits)), (a_t_high, .inr (0, [.ref a_t_high_digits, .int s_t_high_count, .int s_t_high_point])), (a_t_high_digits, .inl (c_t_high_digits, n_t_high_digits, .inl e_t_high_digits))]) ⟨hx, hb, hml, hown, hts⟩ (c_Writer_expand l dC dI a_t a_t_low a_t_fixed a_t_decimal a_t_low a_t_high a_t_fixed_limbs a_t_low_digits c_t_fixed_limbs c_t_low_digits n_t_fixed_limbs n_t_low_digits s_t_fixed_first s_t_fixed_end e_t_fixed_limbs s_t_low_count s_t_low_point e_t_low_digits (x3_3 - (z_12.toInt64)) x5_6 s_t_fixed_end_15 s_t_fixed_first_16 e_t_fixed_limbs_17 s_t_low_count_18 s_t_low_point_19 e_t_low_digits_20 hc_21) (cwV 3 hts (xgoodV g_274 g_276 gp_1 g_8 g_277) rfl rfl rfl (by decide +kernel) ⟨Nat.le_of_ble_eq_true rfl, Nat.le_of_ble_eq_true rfl⟩) hNz (ci := 6) (q0 := 0) rfl rfl hA hP hD hS hK [0, 1, 2, 5, 6] [3, 4, 7, 8] [0, 2] rfl rfl rfl rfl (by decide) rfl rfl rfl rfl hl.1 (Nat.le_of_ble_eq_true rfl) ⟨Nat.zero_le _, Nat.zero_le _⟩ d_Writer_findShort_61 (fun H locs hP hD hS => ?_)
      have hP : va_P (dC, dI) x_cl [(a_t_decimal, .inr (0, [.ref a_t_decimal_digits, .int s_t_decimal_count, .int s_t_decimal_point])), (a_t_decimal_digits, .inl (c_t_decimal_digits, n_t_decimal_digits, .inl e_t_decimal_digits)), (a_t_high, .inr (0, [.ref a_t_high_digits, .int s_t_high_count, .int s_t_high_point])), (a_t_high_digits, .inl (c_t_high_digits, n_t_high_digits, .inl e_t_high_digits)), (a_t, .inr (6, [.ref a_t_fixed, .ref a_t_decimal, .ref a_t_low, .ref a_t_high])), (a_t_fixed, .inr (1, [.ref a_t_fixed_limbs, .int s_t_fixed_first_16, .int s_t_fixed_end_15])), (a_t_fixed_limbs, .inl (c_t_fixed_limbs, n_t_fixed_limbs, .inl e_t_fixed_limbs_17)), (a_t_low, .inr (0, [.ref a_t_low_digits, .int s_t_low_count_18, .int s_t_low_point_19])), (a_t_low_digits, .inl (c_t_low_digits, n_t_low_digits, .inl e_t_low_digits_20))] H := hP
      have hD : va_D A [(a_t_decimal, .inr (0, [.ref a_t_decimal_digits, .int s_t_decimal_count, .int s_t_decimal_point])), (a_t_decimal_digits, .inl (c_t_decimal_digits, n_t_decimal_digits, .inl e_t_decimal_digits)), (a_t_high, .inr (0, [.ref a_t_high_digits, .int s_t_high_count, .int s_t_high_point])), (a_t_high_digits, .inl (c_t_high_digits, n_t_high_digits, .inl e_t_high_digits)), (a_t, .inr (6, [.ref a_t_fixed, .ref a_t_decimal, .ref a_t_low, .ref a_t_high])), (a_t_fixed, .inr (1, [.ref a_t_fixed_limbs, .int s_t_fixed_first_16, .int s_t_fixed_end_15])), (a_t_fixed_limbs, .inl (c_t_fixed_limbs, n_t_fixed_limbs, .inl e_t_fixed_limbs_17)), (a_t_low, .inr (0, [.ref a_t_low_digits, .int s_t_low_count_18, .int s_t_low_point_19])), (a_t_low_digits, .inl (c_t_low_digits, n_t_low_digits, .inl e_t_low_digits_20))] := hD
      refine lv_aload_n hx hb d_Writer_findShort_64 rfl (lv_at hl 0 rfl) ?_
      refine lv_aload_n hx hb d_Writer_findShort_65 rfl (lv_at hl 0 rfl) ?_
      refine va_get (D := (dC, dI)) (ci := 6) (v := .ref a_t_decimal) (C := R_Writer) (T := T_Writer) (N := 4) hx hb hts in_Writer hown hK hP 4 rfl rfl 1 (by decide) (hts _ g_124) (fun _ h9 => h9) rfl d_Writer_findShort_66 ?_
      refine lv_lload_n hx hb d_Writer_findShort_69 rfl (lv_at hl 2 rfl) ?_
      refine lv_iload hx hb d_Writer_findShort_70 (lv_at hl 3 rfl) ?_
      replace h := xob_s h
      obtain ⟨⟨s_t_fixed_end_22, s_t_fixed_first_23, e_t_fixed_limbs_24, s_t_decimal_count_25, s_t_decimal_point_26, e_t_decimal_digits_27⟩, hc_28, h⟩ := h
      try dsimp only at h
      refine xcV (As := [.ref a_t_decimal, .long x3_3, .int x5_6]) (rest := []) (st1 := []) (wr := [(a_t_high, .inr (0, [.ref a_t_high_digits, .int s_t_high_count, .int s_t_high_point])), (a_t_high_digits, .inl (c_t_high_digits, n_t_high_digits, .inl e_t_high_digits)), (a_t_low, .inr (0, [.ref a_t_low_digits, .int s_t_low_count_18, .int s_t_low_point_19])), (a_t_low_digits, .inl (c_t_low_digits, n_t_low_digits, .inl e_t_low_digits_20))]) ⟨hx, hb, hml, hown, hts⟩ (c_Writer_expand l dC dI a_t a_t_decimal a_t_fixed a_t_decimal a_t_low a_t_high a_t_fixed_limbs a_t_decimal_digits c_t_fixed_limbs c_t_decimal_digits n_t_fixed_limbs n_t_decimal_digits s_t_fixed_first_16 s_t_fixed_end_15 e_t_fixed_limbs_17 s_t_decimal_count s_t_decimal_point e_t_decimal_digits x3_3 x5_6 s_t_fixed_end_22 s_t_fixed_first_23 e_t_fixed_limbs_24 s_t_decimal_count_25 s_t_decimal_point_26 e_t_decimal_digits_27 hc_28) (cwV 3 hts (xgoodV g_274 g_276 gp_1 g_8 g_277) rfl rfl rfl (by decide +kernel) ⟨Nat.le_of_ble_eq_true rfl, Nat.le_of_ble_eq_true rfl⟩) hNz (ci := 6) (q0 := 4) rfl rfl hA hP hD hS hK [4, 5, 6, 0, 1] [2, 3, 7, 8] [0, 1] rfl rfl rfl rfl (by decide) rfl rfl rfl rfl hl.1 (Nat.le_of_ble_eq_true rfl) ⟨Nat.zero_le _, Nat.zero_le _⟩ d_Writer_findShort_72 (fun H locs hP hD hS => ?_)
      have hP : va_P (dC, dI) x_cl [(a_t_high, .inr (0, [.ref a_t_high_digits, .int s_t_high_count, .int s_t_high_point])), (a_t_high_digits, .inl (c_t_high_digits, n_t_high_digits, .inl e_t_high_digits)), (a_t_low, .inr (0, [.ref a_t_low_digits, .int s_t_low_count_18, .int s_t_low_point_19])), (a_t_low_digits, .inl (c_t_low_digits, n_t_low_digits, .inl e_t_low_digits_20)), (a_t, .inr (6, [.ref a_t_fixed, .ref a_t_decimal, .ref a_t_low, .ref a_t_high])), (a_t_fixed, .inr (1, [.ref a_t_fixed_limbs, .int s_t_fixed_first_23, .int s_t_fixed_end_22])), (a_t_fixed_limbs, .inl (c_t_fixed_limbs, n_t_fixed_limbs, .inl e_t_fixed_limbs_24)), (a_t_decimal, .inr (0, [.ref a_t_decimal_digits, .int s_t_decimal_count_25, .int s_t_decimal_point_26])), (a_t_decimal_digits, .inl (c_t_decimal_digits, n_t_decimal_digits, .inl e_t_decimal_digits_27))] H := hP
      have hD : va_D A [(a_t_high, .inr (0, [.ref a_t_high_digits, .int s_t_high_count, .int s_t_high_point])), (a_t_high_digits, .inl (c_t_high_digits, n_t_high_digits, .inl e_t_high_digits)), (a_t_low, .inr (0, [.ref a_t_low_digits, .int s_t_low_count_18, .int s_t_low_point_19])), (a_t_low_digits, .inl (c_t_low_digits, n_t_low_digits, .inl e_t_low_digits_20)), (a_t, .inr (6, [.ref a_t_fixed, .ref a_t_decimal, .ref a_t_low, .ref a_t_high])), (a_t_fixed, .inr (1, [.ref a_t_fixed_limbs, .int s_t_fixed_first_23, .int s_t_fixed_end_22])), (a_t_fixed_limbs, .inl (c_t_fixed_limbs, n_t_fixed_limbs, .inl e_t_fixed_limbs_24)), (a_t_decimal, .inr (0, [.ref a_t_decimal_digits, .int s_t_decimal_count_25, .int s_t_decimal_point_26])), (a_t_decimal_digits, .inl (c_t_decimal_digits, n_t_decimal_digits, .inl e_t_decimal_digits_27))] := hD
      refine lv_aload_n hx hb d_Writer_findShort_75 rfl (lv_at hl 0 rfl) ?_
      refine lv_aload_n hx hb d_Writer_findShort_76 rfl (lv_at hl 0 rfl) ?_
      refine va_get (D := (dC, dI)) (ci := 6) (v := .ref a_t_high) (C := R_Writer) (T := T_Writer) (N := 4) hx hb hts in_Writer hown hK hP 4 rfl rfl 3 (by decide) (hts _ g_126) (fun _ h9 => h9) rfl d_Writer_findShort_77 ?_
      refine lv_lload_n hx hb d_Writer_findShort_80 rfl (lv_at hl 2 rfl) ?_
      refine lv_ldc2 (v := 2) hx hb hown (hts _ g_332) d_Writer_findShort_81 ?_
      refine lv_ladd hx hb d_Writer_findShort_84 ?_
      refine lv_iload hx hb d_Writer_findShort_85 (lv_at hl 3 rfl) ?_
      replace h := xob_s h
      obtain ⟨⟨s_t_fixed_end_29, s_t_fixed_first_30, e_t_fixed_limbs_31, s_t_high_count_32, s_t_high_point_33, e_t_high_digits_34⟩, hc_35, h⟩ := h
      try dsimp only at h
      refine xcV (As := [.ref a_t_high, .long (x3_3 + (2 : Int64)), .int x5_6]) (rest := []) (st1 := []) (wr := [(a_t_low, .inr (0, [.ref a_t_low_digits, .int s_t_low_count_18, .int s_t_low_point_19])), (a_t_low_digits, .inl (c_t_low_digits, n_t_low_digits, .inl e_t_low_digits_20)), (a_t_decimal, .inr (0, [.ref a_t_decimal_digits, .int s_t_decimal_count_25, .int s_t_decimal_point_26])), (a_t_decimal_digits, .inl (c_t_decimal_digits, n_t_decimal_digits, .inl e_t_decimal_digits_27))]) ⟨hx, hb, hml, hown, hts⟩ (c_Writer_expand l dC dI a_t a_t_high a_t_fixed a_t_decimal a_t_low a_t_high a_t_fixed_limbs a_t_high_digits c_t_fixed_limbs c_t_high_digits n_t_fixed_limbs n_t_high_digits s_t_fixed_first_23 s_t_fixed_end_22 e_t_fixed_limbs_24 s_t_high_count s_t_high_point e_t_high_digits (x3_3 + (2 : Int64)) x5_6 s_t_fixed_end_29 s_t_fixed_first_30 e_t_fixed_limbs_31 s_t_high_count_32 s_t_high_point_33 e_t_high_digits_34 hc_35) (cwV 3 hts (xgoodV g_274 g_276 gp_1 g_8 g_277) rfl rfl rfl (by decide +kernel) ⟨Nat.le_of_ble_eq_true rfl, Nat.le_of_ble_eq_true rfl⟩) hNz (ci := 6) (q0 := 4) rfl rfl hA hP hD hS hK [4, 5, 6, 0, 1] [2, 3, 7, 8] [0, 3] rfl rfl rfl rfl (by decide) rfl rfl rfl rfl hl.1 (Nat.le_of_ble_eq_true rfl) ⟨Nat.zero_le _, Nat.zero_le _⟩ d_Writer_findShort_87 (fun H locs hP hD hS => ?_)
      have hP : va_P (dC, dI) x_cl [(a_t_low, .inr (0, [.ref a_t_low_digits, .int s_t_low_count_18, .int s_t_low_point_19])), (a_t_low_digits, .inl (c_t_low_digits, n_t_low_digits, .inl e_t_low_digits_20)), (a_t_decimal, .inr (0, [.ref a_t_decimal_digits, .int s_t_decimal_count_25, .int s_t_decimal_point_26])), (a_t_decimal_digits, .inl (c_t_decimal_digits, n_t_decimal_digits, .inl e_t_decimal_digits_27)), (a_t, .inr (6, [.ref a_t_fixed, .ref a_t_decimal, .ref a_t_low, .ref a_t_high])), (a_t_fixed, .inr (1, [.ref a_t_fixed_limbs, .int s_t_fixed_first_30, .int s_t_fixed_end_29])), (a_t_fixed_limbs, .inl (c_t_fixed_limbs, n_t_fixed_limbs, .inl e_t_fixed_limbs_31)), (a_t_high, .inr (0, [.ref a_t_high_digits, .int s_t_high_count_32, .int s_t_high_point_33])), (a_t_high_digits, .inl (c_t_high_digits, n_t_high_digits, .inl e_t_high_digits_34))] H := hP
      have hD : va_D A [(a_t_low, .inr (0, [.ref a_t_low_digits, .int s_t_low_count_18, .int s_t_low_point_19])), (a_t_low_digits, .inl (c_t_low_digits, n_t_low_digits, .inl e_t_low_digits_20)), (a_t_decimal, .inr (0, [.ref a_t_decimal_digits, .int s_t_decimal_count_25, .int s_t_decimal_point_26])), (a_t_decimal_digits, .inl (c_t_decimal_digits, n_t_decimal_digits, .inl e_t_decimal_digits_27)), (a_t, .inr (6, [.ref a_t_fixed, .ref a_t_decimal, .ref a_t_low, .ref a_t_high])), (a_t_fixed, .inr (1, [.ref a_t_fixed_limbs, .int s_t_fixed_first_30, .int s_t_fixed_end_29])), (a_t_fixed_limbs, .inl (c_t_fixed_limbs, n_t_fixed_limbs, .inl e_t_fixed_limbs_31)), (a_t_high, .inr (0, [.ref a_t_high_digits, .int s_t_high_count_32, .int s_t_high_point_33])), (a_t_high_digits, .inl (c_t_high_digits, n_t_high_digits, .inl e_t_high_digits_34))] := hD
      refine lv_aload_n hx hb d_Writer_findShort_90 rfl (lv_at hl 0 rfl) ?_
      refine lv_lload_n hx hb d_Writer_findShort_91 rfl (lv_at hl 1 rfl) ?_
      replace h := xob_s h
      obtain ⟨r_36, hc_37, h⟩ := h
      try dsimp only at h
      refine xcSN (As := [.long x1]) (rest := [.ref a_t]) (st1 := [.long r_36, .ref a_t]) (wr := [(a_t_low, .inr (0, [.ref a_t_low_digits, .int s_t_low_count_18, .int s_t_low_point_19])), (a_t_low_digits, .inl (c_t_low_digits, n_t_low_digits, .inl e_t_low_digits_20)), (a_t_decimal, .inr (0, [.ref a_t_decimal_digits, .int s_t_decimal_count_25, .int s_t_decimal_point_26])), (a_t_decimal_digits, .inl (c_t_decimal_digits, n_t_decimal_digits, .inl e_t_decimal_digits_27)), (a_t, .inr (6, [.ref a_t_fixed, .ref a_t_decimal, .ref a_t_low, .ref a_t_high])), (a_t_fixed, .inr (1, [.ref a_t_fixed_limbs, .int s_t_fixed_first_30, .int s_t_fixed_end_29])), (a_t_fixed_limbs, .inl (c_t_fixed_limbs, n_t_fixed_limbs, .inl e_t_fixed_limbs_31)), (a_t_high, .inr (0, [.ref a_t_high_digits, .int s_t_high_count_32, .int s_t_high_point_33])), (a_t_high_digits, .inl (c_t_high_digits, n_t_high_digits, .inl e_t_high_digits_34))]) ⟨hx, hb, hml, hown, hts⟩ (c_NT_fractionField l dC dI x1 r_36 hc_37) (⟨va_cnB 1 hts (xgood g_262) rfl rfl rfl (hNz.at 5 rfl) (hts _ g_1) (by decide +kernel) ⟨Nat.le_of_ble_eq_true rfl, Nat.le_of_ble_eq_true rfl⟩, (hts _ g_261), trivial⟩) hNz hA hP hD hS hK [] [0, 1, 2, 3, 4, 5, 6, 7, 8] [] rfl rfl rfl rfl (by decide) rfl rfl rfl rfl hl.1 (Nat.le_of_ble_eq_true rfl) ⟨Nat.zero_le _, Nat.zero_le _⟩ d_Writer_findShort_92 (fun H locs hP hD hS => ?_)
      have hP : va_P (dC, dI) x_cl [(a_t_low, .inr (0, [.ref a_t_low_digits, .int s_t_low_count_18, .int s_t_low_point_19])), (a_t_low_digits, .inl (c_t_low_digits, n_t_low_digits, .inl e_t_low_digits_20)), (a_t_decimal, .inr (0, [.ref a_t_decimal_digits, .int s_t_decimal_count_25, .int s_t_decimal_point_26])), (a_t_decimal_digits, .inl (c_t_decimal_digits, n_t_decimal_digits, .inl e_t_decimal_digits_27)), (a_t, .inr (6, [.ref a_t_fixed, .ref a_t_decimal, .ref a_t_low, .ref a_t_high])), (a_t_fixed, .inr (1, [.ref a_t_fixed_limbs, .int s_t_fixed_first_30, .int s_t_fixed_end_29])), (a_t_fixed_limbs, .inl (c_t_fixed_limbs, n_t_fixed_limbs, .inl e_t_fixed_limbs_31)), (a_t_high, .inr (0, [.ref a_t_high_digits, .int s_t_high_count_32, .int s_t_high_point_33])), (a_t_high_digits, .inl (c_t_high_digits, n_t_high_digits, .inl e_t_high_digits_34))] H := hP
      have hD : va_D A [(a_t_low, .inr (0, [.ref a_t_low_digits, .int s_t_low_count_18, .int s_t_low_point_19])), (a_t_low_digits, .inl (c_t_low_digits, n_t_low_digits, .inl e_t_low_digits_20)), (a_t_decimal, .inr (0, [.ref a_t_decimal_digits, .int s_t_decimal_count_25, .int s_t_decimal_point_26])), (a_t_decimal_digits, .inl (c_t_decimal_digits, n_t_decimal_digits, .inl e_t_decimal_digits_27)), (a_t, .inr (6, [.ref a_t_fixed, .ref a_t_decimal, .ref a_t_low, .ref a_t_high])), (a_t_fixed, .inr (1, [.ref a_t_fixed_limbs, .int s_t_fixed_first_30, .int s_t_fixed_end_29])), (a_t_fixed_limbs, .inl (c_t_fixed_limbs, n_t_fixed_limbs, .inl e_t_fixed_limbs_31)), (a_t_high, .inr (0, [.ref a_t_high_digits, .int s_t_high_count_32, .int s_t_high_point_33])), (a_t_high_digits, .inl (c_t_high_digits, n_t_high_digits, .inl e_t_high_digits_34))] := hD
      refine lv_lconst (v := 1) hx hb d_Writer_findShort_95 (by decide) ?_
      refine lv_land hx hb d_Writer_findShort_96 ?_
      refine lv_lconst (v := 0) hx hb d_Writer_findShort_97 (by decide) ?_
      refine W.lcmp hx hb d_Writer_findShort_98 ?_
      replace h := xob_s h
      obtain ⟨z_38, hj_39, h⟩ := h
      try dsimp only at h
      have hJ_40 : ∀ (H : Heap) (locs : List Loc) (ls : Array Slot), va_P (dC, dI) x_cl [(a_t, .inr (6, [.ref a_t_fixed, .ref a_t_decimal, .ref a_t_low, .ref a_t_high])), (a_t_fixed, .inr (1, [.ref a_t_fixed_limbs, .int s_t_fixed_first_30, .int s_t_fixed_end_29])), (a_t_fixed_limbs, .inl (c_t_fixed_limbs, n_t_fixed_limbs, .inl e_t_fixed_limbs_31)), (a_t_decimal, .inr (0, [.ref a_t_decimal_digits, .int s_t_decimal_count_25, .int s_t_decimal_point_26])), (a_t_decimal_digits, .inl (c_t_decimal_digits, n_t_decimal_digits, .inl e_t_decimal_digits_27)), (a_t_low, .inr (0, [.ref a_t_low_digits, .int s_t_low_count_18, .int s_t_low_point_19])), (a_t_low_digits, .inl (c_t_low_digits, n_t_low_digits, .inl e_t_low_digits_20)), (a_t_high, .inr (0, [.ref a_t_high_digits, .int s_t_high_count_32, .int s_t_high_point_33])), (a_t_high_digits, .inl (c_t_high_digits, n_t_high_digits, .inl e_t_high_digits_34))] H → va_D A [(a_t, .inr (6, [.ref a_t_fixed, .ref a_t_decimal, .ref a_t_low, .ref a_t_high])), (a_t_fixed, .inr (1, [.ref a_t_fixed_limbs, .int s_t_fixed_first_30, .int s_t_fixed_end_29])), (a_t_fixed_limbs, .inl (c_t_fixed_limbs, n_t_fixed_limbs, .inl e_t_fixed_limbs_31)), (a_t_decimal, .inr (0, [.ref a_t_decimal_digits, .int s_t_decimal_count_25, .int s_t_decimal_point_26])), (a_t_decimal_digits, .inl (c_t_decimal_digits, n_t_decimal_digits, .inl e_t_decimal_digits_27)), (a_t_low, .inr (0, [.ref a_t_low_digits, .int s_t_low_count_18, .int s_t_low_point_19])), (a_t_low_digits, .inl (c_t_low_digits, n_t_low_digits, .inl e_t_low_digits_20)), (a_t_high, .inr (0, [.ref a_t_high_digits, .int s_t_high_count_32, .int s_t_high_point_33])), (a_t_high_digits, .inl (c_t_high_digits, n_t_high_digits, .inl e_t_high_digits_34))] → va_S A s.heap H locs → lv_has ls 7 [] → W p l e rm_Writer_findShort s m args below meth c H locs 0 0 Q (F0 m 107 ls [.int z_38, .ref a_t]) := by
        intro H locs ls hP hD hS hl
        replace h := xob_s h
        obtain ⟨⟨s_t_decimal_count_41, s_t_decimal_point_42, e_t_decimal_digits_43⟩, hc_44, h⟩ := h
        try dsimp only at h
        refine xcV (As := [.int z_38]) (rest := []) (st1 := []) (wr := [(a_t_fixed, .inr (1, [.ref a_t_fixed_limbs, .int s_t_fixed_first_30, .int s_t_fixed_end_29])), (a_t_fixed_limbs, .inl (c_t_fixed_limbs, n_t_fixed_limbs, .inl e_t_fixed_limbs_31))]) ⟨hx, hb, hml, hown, hts⟩ (c_Writer_shorten l dC dI a_t a_t_fixed a_t_decimal a_t_low a_t_high a_t_decimal_digits a_t_low_digits a_t_high_digits c_t_decimal_digits c_t_low_digits c_t_high_digits n_t_decimal_digits n_t_low_digits n_t_high_digits s_t_decimal_count_25 s_t_decimal_point_26 e_t_decimal_digits_27 s_t_low_count_18 s_t_low_point_19 e_t_low_digits_20 s_t_high_count_32 s_t_high_point_33 e_t_high_digits_34 z_38 s_t_decimal_count_41 s_t_decimal_point_42 e_t_decimal_digits_43 hc_44) (cwV 1 hts (xgoodV g_333 g_335 gp_5 g_8 g_336) rfl rfl rfl (by decide +kernel) ⟨Nat.le_of_ble_eq_true rfl, Nat.le_of_ble_eq_true rfl⟩) hNz (ci := 6) (q0 := 0) rfl rfl hA hP hD hS hK [0, 3, 4, 5, 6, 7, 8] [1, 2] [1, 2, 3] rfl rfl rfl rfl (by decide) rfl rfl rfl rfl hl.1 (Nat.le_of_ble_eq_true rfl) ⟨Nat.zero_le _, Nat.zero_le _⟩ d_Writer_findShort_107 (fun H locs hP hD hS => ?_)
        have hP : va_P (dC, dI) x_cl [(a_t_fixed, .inr (1, [.ref a_t_fixed_limbs, .int s_t_fixed_first_30, .int s_t_fixed_end_29])), (a_t_fixed_limbs, .inl (c_t_fixed_limbs, n_t_fixed_limbs, .inl e_t_fixed_limbs_31)), (a_t, .inr (6, [.ref a_t_fixed, .ref a_t_decimal, .ref a_t_low, .ref a_t_high])), (a_t_decimal, .inr (0, [.ref a_t_decimal_digits, .int s_t_decimal_count_41, .int s_t_decimal_point_42])), (a_t_decimal_digits, .inl (c_t_decimal_digits, n_t_decimal_digits, .inl e_t_decimal_digits_43)), (a_t_low, .inr (0, [.ref a_t_low_digits, .int s_t_low_count_18, .int s_t_low_point_19])), (a_t_low_digits, .inl (c_t_low_digits, n_t_low_digits, .inl e_t_low_digits_20)), (a_t_high, .inr (0, [.ref a_t_high_digits, .int s_t_high_count_32, .int s_t_high_point_33])), (a_t_high_digits, .inl (c_t_high_digits, n_t_high_digits, .inl e_t_high_digits_34))] H := hP
        have hD : va_D A [(a_t_fixed, .inr (1, [.ref a_t_fixed_limbs, .int s_t_fixed_first_30, .int s_t_fixed_end_29])), (a_t_fixed_limbs, .inl (c_t_fixed_limbs, n_t_fixed_limbs, .inl e_t_fixed_limbs_31)), (a_t, .inr (6, [.ref a_t_fixed, .ref a_t_decimal, .ref a_t_low, .ref a_t_high])), (a_t_decimal, .inr (0, [.ref a_t_decimal_digits, .int s_t_decimal_count_41, .int s_t_decimal_point_42])), (a_t_decimal_digits, .inl (c_t_decimal_digits, n_t_decimal_digits, .inl e_t_decimal_digits_43)), (a_t_low, .inr (0, [.ref a_t_low_digits, .int s_t_low_count_18, .int s_t_low_point_19])), (a_t_low_digits, .inl (c_t_low_digits, n_t_low_digits, .inl e_t_low_digits_20)), (a_t_high, .inr (0, [.ref a_t_high_digits, .int s_t_high_count_32, .int s_t_high_point_33])), (a_t_high_digits, .inl (c_t_high_digits, n_t_high_digits, .inl e_t_high_digits_34))] := hD
        replace h := Option.some.inj h
        replace h := Prod.mk.inj h
        obtain ⟨h1, h⟩ := h
        subst h1
        replace h := Prod.mk.inj h
        obtain ⟨h1, h⟩ := h
        subst h1
        replace h := Prod.mk.inj h
        obtain ⟨h1, h⟩ := h
        subst h1
        replace h := Prod.mk.inj h
        obtain ⟨h1, h⟩ := h
        subst h1
        replace h := Prod.mk.inj h
        obtain ⟨h1, h⟩ := h
        subst h1
        replace h := Prod.mk.inj h
        obtain ⟨h1, h⟩ := h
        subst h1
        replace h := Prod.mk.inj h
        obtain ⟨h1, h⟩ := h
        subst h1
        replace h := Prod.mk.inj h
        obtain ⟨h1, h⟩ := h
        subst h1
        replace h := Prod.mk.inj h
        obtain ⟨h1, h⟩ := h
        subst h1
        replace h := Prod.mk.inj h
        obtain ⟨h1, h⟩ := h
        subst h1
        replace h := Prod.mk.inj h
        obtain ⟨h1, h⟩ := h
        subst h1
        subst h
        exact hret _ _ (hP.sub [2, 0, 1, 3, 4, 5, 6, 7, 8] rfl) (hD.sub [2, 0, 1, 3, 4, 5, 6, 7, 8] (by decide) rfl) hS _ _ d_Writer_findShort_110
      replace h := hj_39
      clear hj_39
      refine lv_if_ne (tgt := 106) hx hb d_Writer_findShort_99 (by decide) (fun c_45 => ?_) (fun c_45 => ?_)
      · rw [if_neg c_45] at h
        refine lv_iconst (v := 0) hx hb d_Writer_findShort_106 (by decide) ?_
        replace h := Option.some.inj h
        subst h
        exact hJ_40 _ _ _ (hP.sub [4, 5, 6, 2, 3, 0, 1, 7, 8] rfl) (hD.sub [4, 5, 6, 2, 3, 0, 1, 7, 8] (by decide) rfl) hS (lv_sub hl [] rfl)
      · rw [if_pos c_45] at h
        refine lv_iconst (v := 1) hx hb d_Writer_findShort_102 (by decide) ?_
        refine lv_goto (tgt := 107) hx hb d_Writer_findShort_103 (by decide) ?_
        replace h := Option.some.inj h
        subst h
        exact hJ_40 _ _ _ (hP.sub [4, 5, 6, 2, 3, 0, 1, 7, 8] rfl) (hD.sub [4, 5, 6, 2, 3, 0, 1, 7, 8] (by decide) rfl) hS (lv_sub hl [] rfl)
    replace h := hj_13
    clear hj_13
    refine lv_if_eq (tgt := 56) hx hb d_Writer_findShort_49 (by decide) (fun c_46 => ?_) (fun c_46 => ?_)
    · rw [if_pos c_46] at h
      refine lv_iconst (v := 2) hx hb d_Writer_findShort_56 (by decide) ?_
      replace h := Option.some.inj h
      subst h
      exact hJ_14 _ _ _ hP hD hS (lv_sub hl [1, 2, 3, 4] rfl)
    · rw [if_neg c_46] at h
      refine lv_iconst (v := 1) hx hb d_Writer_findShort_52 (by decide) ?_
      refine lv_goto (tgt := 57) hx hb d_Writer_findShort_53 (by decide) ?_
      replace h := Option.some.inj h
      subst h
      exact hJ_14 _ _ _ hP hD hS (lv_sub hl [1, 2, 3, 4] rfl)
  replace h := hj_10
  clear hj_10
  refine lv_if_ne (tgt := 38) hx hb d_Writer_findShort_23 (by decide) (fun c_47 => ?_) (fun c_47 => ?_)
  · rw [if_neg c_47] at h
    refine lv_iconst (v := 0) hx hb d_Writer_findShort_38 (by decide) ?_
    replace h := Option.some.inj h
    subst h
    exact hJ_11 _ _ _ hP hD hS (lv_sub hl [2, 3, 1, 0] rfl)
  · rw [if_pos c_47] at h
    refine lv_lload_n hx hb d_Writer_findShort_26 rfl (lv_at hl 3 rfl) ?_
    replace h := xob_s h
    obtain ⟨r_48, hc_49, h⟩ := h
    try dsimp only at h
    refine xcSN (As := [.long x1]) (rest := []) (st1 := [.int r_48]) (wr := [(a_t, .inr (6, [.ref a_t_fixed, .ref a_t_decimal, .ref a_t_low, .ref a_t_high])), (a_t_fixed, .inr (1, [.ref a_t_fixed_limbs, .int s_t_fixed_first, .int s_t_fixed_end])), (a_t_fixed_limbs, .inl (c_t_fixed_limbs, n_t_fixed_limbs, .inl e_t_fixed_limbs)), (a_t_decimal, .inr (0, [.ref a_t_decimal_digits, .int s_t_decimal_count, .int s_t_decimal_point])), (a_t_decimal_digits, .inl (c_t_decimal_digits, n_t_decimal_digits, .inl e_t_decimal_digits)), (a_t_low, .inr (0, [.ref a_t_low_digits, .int s_t_low_count, .int s_t_low_point])), (a_t_low_digits, .inl (c_t_low_digits, n_t_low_digits, .inl e_t_low_digits)), (a_t_high, .inr (0, [.ref a_t_high_digits, .int s_t_high_count, .int s_t_high_point])), (a_t_high_digits, .inl (c_t_high_digits, n_t_high_digits, .inl e_t_high_digits))]) ⟨hx, hb, hml, hown, hts⟩ (c_NT_exponentField l dC dI x1 r_48 hc_49) (⟨va_cnB 1 hts (xgood g_266) rfl rfl rfl (hNz.at 6 rfl) (hts _ g_1) (by decide +kernel) ⟨Nat.le_of_ble_eq_true rfl, Nat.le_of_ble_eq_true rfl⟩, (hts _ g_265), trivial⟩) hNz hA hP hD hS hK [] [0, 1, 2, 3, 4, 5, 6, 7, 8] [] rfl rfl rfl rfl (by decide) rfl rfl rfl rfl hl.1 (Nat.le_of_ble_eq_true rfl) ⟨Nat.zero_le _, Nat.zero_le _⟩ d_Writer_findShort_27 (fun H locs hP hD hS => ?_)
    have hP : va_P (dC, dI) x_cl [(a_t, .inr (6, [.ref a_t_fixed, .ref a_t_decimal, .ref a_t_low, .ref a_t_high])), (a_t_fixed, .inr (1, [.ref a_t_fixed_limbs, .int s_t_fixed_first, .int s_t_fixed_end])), (a_t_fixed_limbs, .inl (c_t_fixed_limbs, n_t_fixed_limbs, .inl e_t_fixed_limbs)), (a_t_decimal, .inr (0, [.ref a_t_decimal_digits, .int s_t_decimal_count, .int s_t_decimal_point])), (a_t_decimal_digits, .inl (c_t_decimal_digits, n_t_decimal_digits, .inl e_t_decimal_digits)), (a_t_low, .inr (0, [.ref a_t_low_digits, .int s_t_low_count, .int s_t_low_point])), (a_t_low_digits, .inl (c_t_low_digits, n_t_low_digits, .inl e_t_low_digits)), (a_t_high, .inr (0, [.ref a_t_high_digits, .int s_t_high_count, .int s_t_high_point])), (a_t_high_digits, .inl (c_t_high_digits, n_t_high_digits, .inl e_t_high_digits))] H := hP
    have hD : va_D A [(a_t, .inr (6, [.ref a_t_fixed, .ref a_t_decimal, .ref a_t_low, .ref a_t_high])), (a_t_fixed, .inr (1, [.ref a_t_fixed_limbs, .int s_t_fixed_first, .int s_t_fixed_end])), (a_t_fixed_limbs, .inl (c_t_fixed_limbs, n_t_fixed_limbs, .inl e_t_fixed_limbs)), (a_t_decimal, .inr (0, [.ref a_t_decimal_digits, .int s_t_decimal_count, .int s_t_decimal_point])), (a_t_decimal_digits, .inl (c_t_decimal_digits, n_t_decimal_digits, .inl e_t_decimal_digits)), (a_t_low, .inr (0, [.ref a_t_low_digits, .int s_t_low_count, .int s_t_low_point])), (a_t_low_digits, .inl (c_t_low_digits, n_t_low_digits, .inl e_t_low_digits)), (a_t_high, .inr (0, [.ref a_t_high_digits, .int s_t_high_count, .int s_t_high_point])), (a_t_high_digits, .inl (c_t_high_digits, n_t_high_digits, .inl e_t_high_digits))] := hD
    refine lv_iconst (v := 1) hx hb d_Writer_findShort_30 (by decide) ?_
    refine lv_icmp_le (tgt := 38) hx hb d_Writer_findShort_31 (by decide) (fun c_50 => ?_) (fun c_50 => ?_)
    · rw [if_pos c_50] at h
      refine lv_iconst (v := 0) hx hb d_Writer_findShort_38 (by decide) ?_
      replace h := Option.some.inj h
      subst h
      exact hJ_11 _ _ _ hP hD hS (lv_sub hl [2, 3, 1, 0] rfl)
    · rw [if_neg c_50] at h
      refine lv_iconst (v := 1) hx hb d_Writer_findShort_34 (by decide) ?_
      refine lv_goto (tgt := 39) hx hb d_Writer_findShort_35 (by decide) ?_
      replace h := Option.some.inj h
      subst h
      exact hJ_11 _ _ _ hP hD hS (lv_sub hl [2, 3, 1, 0] rfl)
def f_Decimal_isPlain (s_t_count : Int32) (s_t_point : Int32) : Option (Int32) :=
  if s_t_point < (-3 : Int32) then (some (0 : Int32)) else (if (16 : Int32) < s_t_point then (some (0 : Int32)) else (some (1 : Int32)))
def rm_Decimal_isPlain : Room := { frames := 0, cells := 0, slots := 0, locals := 0 }
set_option maxHeartbeats 4000000 in
set_option maxRecDepth 100000 in
theorem c_Decimal_isPlain (l : Launch) (dC : Nat → ClassId) (dI : Nat → Nat → Nat) (a_t a_t_digits : Nat) (s_t_count : Int32) (s_t_point : Int32) (r_ : Int32) (h : f_Decimal_isPlain s_t_count s_t_point = some r_) : xM l y_Decimal_isPlain (Cond.code y_Decimal_isPlain b_Decimal_isPlain 1 (some .boolean) :: xG) rm_Decimal_isPlain (dC, dI) x_cl x_nz [.ref a_t] [] [(a_t, .inr (0, [.ref a_t_digits, .int s_t_count, .int s_t_point]))] (some (.int r_)) [(a_t, .inr (0, [.ref a_t_digits, .int s_t_count, .int s_t_point]))] := by
  unfold f_Decimal_isPlain at h
  refine xM.mkZ (cc := b_Decimal_isPlain) (maxL := 1)  (by decide +kernel) rfl (Nat.le_of_ble_eq_true rfl) ?_
  intro p e s m args below meth c A Q ls hx hb hml hown hts hNz hA hP hD hK hl hret
  have hS : va_S A s.heap s.heap [] := va_S.rf
  have hl : lv_has ls 1 [(0, .ref a_t)] := hl
  refine lv_aload_n hx hb d_Decimal_isPlain_0 rfl (lv_at hl 0 rfl) ?_
  refine va_get (D := (dC, dI)) (ci := 0) (v := .int s_t_point) (C := R_Decimal) (T := T_Decimal) (N := 3) hx hb hts in_Decimal hown hK hP 0 rfl rfl 2 (by decide) (hts _ g_75) (fun _ h9 => h9) rfl d_Decimal_isPlain_1 ?_
  refine lv_bipush (v := -3) hx hb d_Decimal_isPlain_4 (by decide) ?_
  refine lv_icmp_lt (tgt := 22) hx hb d_Decimal_isPlain_6 (by decide) (fun c_1 => ?_) (fun c_1 => ?_)
  · rw [if_pos c_1] at h
    refine lv_iconst (v := 0) hx hb d_Decimal_isPlain_22 (by decide) ?_
    replace h := Option.some.inj h
    subst h
    exact hret _ _ hP hD hS _ _ d_Decimal_isPlain_23 rfl
  · rw [if_neg c_1] at h
    refine lv_aload_n hx hb d_Decimal_isPlain_9 rfl (lv_at hl 0 rfl) ?_
    refine va_get (D := (dC, dI)) (ci := 0) (v := .int s_t_point) (C := R_Decimal) (T := T_Decimal) (N := 3) hx hb hts in_Decimal hown hK hP 0 rfl rfl 2 (by decide) (hts _ g_75) (fun _ h9 => h9) rfl d_Decimal_isPlain_10 ?_
    refine lv_bipush (v := 16) hx hb d_Decimal_isPlain_13 (by decide) ?_
    refine lv_icmp_gt (tgt := 22) hx hb d_Decimal_isPlain_15 (by decide) (fun c_2 => ?_) (fun c_2 => ?_)
    · rw [if_pos c_2] at h
      refine lv_iconst (v := 0) hx hb d_Decimal_isPlain_22 (by decide) ?_
      replace h := Option.some.inj h
      subst h
      exact hret _ _ hP hD hS _ _ d_Decimal_isPlain_23 rfl
    · rw [if_neg c_2] at h
      refine lv_iconst (v := 1) hx hb d_Decimal_isPlain_18 (by decide) ?_
      refine lv_goto (tgt := 23) hx hb d_Decimal_isPlain_19 (by decide) ?_
      replace h := Option.some.inj h
      subst h
      exact hret _ _ hP hD hS _ _ d_Decimal_isPlain_23 rfl
def lp_Writer_addDigits_3 (x3 : Int32) (s_t_decimal_count : Int32) (s_t_decimal_point : Int32) (e_t_decimal_digits : Nat → Int32) (n_t_decimal_digits : Nat) (n_q1_characters : Nat) : Nat → Int32 → Int32 → (Nat → Int32) → Option (Int32 × (Nat → Int32))
  | 0, _, _, _ => none
  | n_ + 1, x4_1, s_q1_length_2, e_q1_characters_3 =>
    if x3 ≤ x4_1 then (some (s_q1_length_2, e_q1_characters_3)) else (xob (f_Decimal_digit n_t_decimal_digits s_t_decimal_count s_t_decimal_point e_t_decimal_digits x4_1) fun r_10 => xob (f_Text_add n_q1_characters s_q1_length_2 e_q1_characters_3 ((48 : Int32) + r_10)) fun (s_q1_length_12, e_q1_characters_13) => xnm (x4_1 + (1 : Int32)) fun x4_15 => lp_Writer_addDigits_3 x3 s_t_decimal_count s_t_decimal_point e_t_decimal_digits n_t_decimal_digits n_q1_characters n_ x4_15 s_q1_length_12 e_q1_characters_13)
def f_Writer_addDigits (n_t_decimal_digits : Nat) (n_q1_characters : Nat) (s_t_decimal_count : Int32) (s_t_decimal_point : Int32) (e_t_decimal_digits : Nat → Int32) (s_q1_length : Int32) (e_q1_characters : Nat → Int32) (x2 : Int32) (x3 : Int32) : Option (Int32 × (Nat → Int32)) :=
  xob (lp_Writer_addDigits_3 x3 s_t_decimal_count s_t_decimal_point e_t_decimal_digits n_t_decimal_digits n_q1_characters xF x2 s_q1_length e_q1_characters) fun (s_q1_length_4, e_q1_characters_5) => some (s_q1_length_4, e_q1_characters_5)
def rm_Writer_addDigits : Room := { frames := 1, cells := 0, slots := 0, locals := 21 }
set_option maxHeartbeats 4000000 in
set_option maxRecDepth 100000 in
theorem c_Writer_addDigits (l : Launch) (dC : Nat → ClassId) (dI : Nat → Nat → Nat) (a_t a_q1 a_t_fixed a_t_decimal a_t_low a_t_high a_t_decimal_digits a_q1_characters : Nat) (c_t_decimal_digits c_q1_characters : ClassId) (n_t_decimal_digits : Nat) (n_q1_characters : Nat) (s_t_decimal_count : Int32) (s_t_decimal_point : Int32) (e_t_decimal_digits : Nat → Int32) (s_q1_length : Int32) (e_q1_characters : Nat → Int32) (x2 : Int32) (x3 : Int32) (s_q1_length_o : Int32) (e_q1_characters_o : Nat → Int32) (h : f_Writer_addDigits n_t_decimal_digits n_q1_characters s_t_decimal_count s_t_decimal_point e_t_decimal_digits s_q1_length e_q1_characters x2 x3 = some (s_q1_length_o, e_q1_characters_o)) : xM l y_Writer_addDigits (Cond.code y_Writer_addDigits b_Writer_addDigits 5 none :: xG) rm_Writer_addDigits (dC, dI) x_cl x_nz [.ref a_t, .ref a_q1, .int x2, .int x3] [(c_t_decimal_digits, .byte), (c_q1_characters, .byte)] [(a_t, .inr (6, [.ref a_t_fixed, .ref a_t_decimal, .ref a_t_low, .ref a_t_high])), (a_t_decimal, .inr (0, [.ref a_t_decimal_digits, .int s_t_decimal_count, .int s_t_decimal_point])), (a_t_decimal_digits, .inl (c_t_decimal_digits, n_t_decimal_digits, .inl e_t_decimal_digits)), (a_q1, .inr (5, [.ref a_q1_characters, .int s_q1_length])), (a_q1_characters, .inl (c_q1_characters, n_q1_characters, .inl e_q1_characters))] none [(a_t, .inr (6, [.ref a_t_fixed, .ref a_t_decimal, .ref a_t_low, .ref a_t_high])), (a_t_decimal, .inr (0, [.ref a_t_decimal_digits, .int s_t_decimal_count, .int s_t_decimal_point])), (a_t_decimal_digits, .inl (c_t_decimal_digits, n_t_decimal_digits, .inl e_t_decimal_digits)), (a_q1, .inr (5, [.ref a_q1_characters, .int s_q1_length_o])), (a_q1_characters, .inl (c_q1_characters, n_q1_characters, .inl e_q1_characters_o))] := by
  unfold f_Writer_addDigits at h
  refine xM.mkV (cc := b_Writer_addDigits) (maxL := 5)  (by decide +kernel) rfl (Nat.le_of_ble_eq_true rfl) ?_
  intro p e s m args below meth c A Q ls hx hb hml hown hts hNz hA hP hD hK hl hret
  have hS : va_S A s.heap s.heap [] := va_S.rf
  have hl : lv_has ls 5 [(0, .ref a_t), (1, .ref a_q1), (2, .int x2), (3, .int x3)] := hl
  refine lv_iload_n hx hb d_Writer_addDigits_0 rfl (lv_at hl 2 rfl) ?_
  refine lv_istore (lv' := [(4, .int x2), (0, .ref a_t), (1, .ref a_q1), (2, .int x2), (3, .int x3)]) hx hb d_Writer_addDigits_1 hl (by decide) rfl (fun ls hl => ?_)
  replace h := xob_s h
  obtain ⟨⟨s_q1_length_4, e_q1_characters_5⟩, hlp_6, h⟩ := h
  try dsimp only at h
  have hX_7 : ∀ (H : Heap) (locs : List Loc) (ls : Array Slot), va_P (dC, dI) x_cl [(a_t, .inr (6, [.ref a_t_fixed, .ref a_t_decimal, .ref a_t_low, .ref a_t_high])), (a_t_decimal, .inr (0, [.ref a_t_decimal_digits, .int s_t_decimal_count, .int s_t_decimal_point])), (a_t_decimal_digits, .inl (c_t_decimal_digits, n_t_decimal_digits, .inl e_t_decimal_digits)), (a_q1, .inr (5, [.ref a_q1_characters, .int s_q1_length_4])), (a_q1_characters, .inl (c_q1_characters, n_q1_characters, .inl e_q1_characters_5))] H → va_D A [(a_t, .inr (6, [.ref a_t_fixed, .ref a_t_decimal, .ref a_t_low, .ref a_t_high])), (a_t_decimal, .inr (0, [.ref a_t_decimal_digits, .int s_t_decimal_count, .int s_t_decimal_point])), (a_t_decimal_digits, .inl (c_t_decimal_digits, n_t_decimal_digits, .inl e_t_decimal_digits)), (a_q1, .inr (5, [.ref a_q1_characters, .int s_q1_length_4])), (a_q1_characters, .inl (c_q1_characters, n_q1_characters, .inl e_q1_characters_5))] → va_S A s.heap H locs → lv_has ls 5 [] → W p l e rm_Writer_addDigits s m args below meth c H locs 0 0 Q (F0 m 31 ls []) := by
    intro H locs ls hP hD hS hl
    replace h := Option.some.inj h
    replace h := Prod.mk.inj h
    obtain ⟨h1, h⟩ := h
    subst h1
    subst h
    exact hret _ _ hP hD hS _ _ d_Writer_addDigits_31
  clear h
  have hL_8 : ∀ (n_ : Nat) (x4_1 : Int32) (s_q1_length_2 : Int32) (e_q1_characters_3 : Nat → Int32) (H : Heap) (locs : List Loc) (ls : Array Slot), lp_Writer_addDigits_3 x3 s_t_decimal_count s_t_decimal_point e_t_decimal_digits n_t_decimal_digits n_q1_characters n_ x4_1 s_q1_length_2 e_q1_characters_3 = some (s_q1_length_4, e_q1_characters_5) → va_P (dC, dI) x_cl [(a_t, .inr (6, [.ref a_t_fixed, .ref a_t_decimal, .ref a_t_low, .ref a_t_high])), (a_t_decimal, .inr (0, [.ref a_t_decimal_digits, .int s_t_decimal_count, .int s_t_decimal_point])), (a_t_decimal_digits, .inl (c_t_decimal_digits, n_t_decimal_digits, .inl e_t_decimal_digits)), (a_q1, .inr (5, [.ref a_q1_characters, .int s_q1_length_2])), (a_q1_characters, .inl (c_q1_characters, n_q1_characters, .inl e_q1_characters_3))] H → va_D A [(a_t, .inr (6, [.ref a_t_fixed, .ref a_t_decimal, .ref a_t_low, .ref a_t_high])), (a_t_decimal, .inr (0, [.ref a_t_decimal_digits, .int s_t_decimal_count, .int s_t_decimal_point])), (a_t_decimal_digits, .inl (c_t_decimal_digits, n_t_decimal_digits, .inl e_t_decimal_digits)), (a_q1, .inr (5, [.ref a_q1_characters, .int s_q1_length_2])), (a_q1_characters, .inl (c_q1_characters, n_q1_characters, .inl e_q1_characters_3))] → va_S A s.heap H locs → lv_has ls 5 [(0, .ref a_t), (1, .ref a_q1), (3, .int x3), (4, .int x4_1)] → W p l e rm_Writer_addDigits s m args below meth c H locs 0 0 Q (F0 m 3 ls []) := by
    intro n_
    induction n_ with
    | zero => intro x4_1 s_q1_length_2 e_q1_characters_3 H locs ls h; cases h
    | succ n_ ih =>
      intro x4_1 s_q1_length_2 e_q1_characters_3 H locs ls h hP hD hS hl
      rw [lp_Writer_addDigits_3] at h
      refine lv_iload hx hb d_Writer_addDigits_3 (lv_at hl 3 rfl) ?_
      refine lv_iload_n hx hb d_Writer_addDigits_5 rfl (lv_at hl 2 rfl) ?_
      refine lv_icmp_ge (tgt := 31) hx hb d_Writer_addDigits_6 (by decide) (fun c_9 => ?_) (fun c_9 => ?_)
      · rw [if_pos c_9] at h
        replace h := Option.some.inj h
        replace h := Prod.mk.inj h
        obtain ⟨h1, h⟩ := h
        subst h1
        subst h
        exact hX_7 _ _ _ hP hD hS (lv_sub hl [] rfl)
      · rw [if_neg c_9] at h
        refine lv_aload_n hx hb d_Writer_addDigits_9 rfl (lv_at hl 1 rfl) ?_
        refine lv_bipush (v := 48) hx hb d_Writer_addDigits_10 (by decide) ?_
        refine lv_aload_n hx hb d_Writer_addDigits_12 rfl (lv_at hl 0 rfl) ?_
        refine va_get (D := (dC, dI)) (ci := 6) (v := .ref a_t_decimal) (C := R_Writer) (T := T_Writer) (N := 4) hx hb hts in_Writer hown hK hP 0 rfl rfl 1 (by decide) (hts _ g_124) (fun _ h9 => h9) rfl d_Writer_addDigits_13 ?_
        refine lv_iload hx hb d_Writer_addDigits_16 (lv_at hl 3 rfl) ?_
        replace h := xob_s h
        obtain ⟨r_10, hc_11, h⟩ := h
        try dsimp only at h
        refine xcV (As := [.int x4_1]) (rest := [.int (48 : Int32), .ref a_q1]) (st1 := [.int r_10, .int (48 : Int32), .ref a_q1]) (wr := [(a_t, .inr (6, [.ref a_t_fixed, .ref a_t_decimal, .ref a_t_low, .ref a_t_high])), (a_q1, .inr (5, [.ref a_q1_characters, .int s_q1_length_2])), (a_q1_characters, .inl (c_q1_characters, n_q1_characters, .inl e_q1_characters_3))]) ⟨hx, hb, hml, hown, hts⟩ (c_Decimal_digit l dC dI a_t_decimal a_t_decimal_digits c_t_decimal_digits n_t_decimal_digits s_t_decimal_count s_t_decimal_point e_t_decimal_digits x4_1 r_10 hc_11) (cwV 1 hts (xgoodV g_385 g_329 g_330 g_6 g_331) rfl rfl rfl (by decide +kernel) ⟨Nat.le_of_ble_eq_true rfl, Nat.le_of_ble_eq_true rfl⟩) hNz (ci := 0) (q0 := 1) rfl rfl hA hP hD hS hK [1, 2] [0, 3, 4] [0] rfl rfl rfl rfl (by decide) rfl rfl rfl rfl hl.1 (Nat.le_of_ble_eq_true rfl) ⟨Nat.zero_le _, Nat.zero_le _⟩ d_Writer_addDigits_18 (fun H locs hP hD hS => ?_)
        have hP : va_P (dC, dI) x_cl [(a_t, .inr (6, [.ref a_t_fixed, .ref a_t_decimal, .ref a_t_low, .ref a_t_high])), (a_q1, .inr (5, [.ref a_q1_characters, .int s_q1_length_2])), (a_q1_characters, .inl (c_q1_characters, n_q1_characters, .inl e_q1_characters_3)), (a_t_decimal, .inr (0, [.ref a_t_decimal_digits, .int s_t_decimal_count, .int s_t_decimal_point])), (a_t_decimal_digits, .inl (c_t_decimal_digits, n_t_decimal_digits, .inl e_t_decimal_digits))] H := hP
        have hD : va_D A [(a_t, .inr (6, [.ref a_t_fixed, .ref a_t_decimal, .ref a_t_low, .ref a_t_high])), (a_q1, .inr (5, [.ref a_q1_characters, .int s_q1_length_2])), (a_q1_characters, .inl (c_q1_characters, n_q1_characters, .inl e_q1_characters_3)), (a_t_decimal, .inr (0, [.ref a_t_decimal_digits, .int s_t_decimal_count, .int s_t_decimal_point])), (a_t_decimal_digits, .inl (c_t_decimal_digits, n_t_decimal_digits, .inl e_t_decimal_digits))] := hD
        refine lv_iadd hx hb d_Writer_addDigits_21 ?_
        replace h := xob_s h
        obtain ⟨⟨s_q1_length_12, e_q1_characters_13⟩, hc_14, h⟩ := h
        try dsimp only at h
        refine xcV (As := [.int ((48 : Int32) + r_10)]) (rest := []) (st1 := []) (wr := [(a_t, .inr (6, [.ref a_t_fixed, .ref a_t_decimal, .ref a_t_low, .ref a_t_high])), (a_t_decimal, .inr (0, [.ref a_t_decimal_digits, .int s_t_decimal_count, .int s_t_decimal_point])), (a_t_decimal_digits, .inl (c_t_decimal_digits, n_t_decimal_digits, .inl e_t_decimal_digits))]) ⟨hx, hb, hml, hown, hts⟩ (c_Text_add l dC dI a_q1 a_q1_characters c_q1_characters n_q1_characters s_q1_length_2 e_q1_characters_3 ((48 : Int32) + r_10) s_q1_length_12 e_q1_characters_13 hc_14) (cwV 1 hts (xgoodV g_242 g_198 g_199 g_2 g_200) rfl rfl rfl (by decide +kernel) ⟨Nat.le_of_ble_eq_true rfl, Nat.le_of_ble_eq_true rfl⟩) hNz (ci := 5) (q0 := 1) rfl rfl hA hP hD hS hK [1, 2] [0, 3, 4] [1] rfl rfl rfl rfl (by decide) rfl rfl rfl rfl hl.1 (Nat.le_of_ble_eq_true rfl) ⟨Nat.zero_le _, Nat.zero_le _⟩ d_Writer_addDigits_22 (fun H locs hP hD hS => ?_)
        have hP : va_P (dC, dI) x_cl [(a_t, .inr (6, [.ref a_t_fixed, .ref a_t_decimal, .ref a_t_low, .ref a_t_high])), (a_t_decimal, .inr (0, [.ref a_t_decimal_digits, .int s_t_decimal_count, .int s_t_decimal_point])), (a_t_decimal_digits, .inl (c_t_decimal_digits, n_t_decimal_digits, .inl e_t_decimal_digits)), (a_q1, .inr (5, [.ref a_q1_characters, .int s_q1_length_12])), (a_q1_characters, .inl (c_q1_characters, n_q1_characters, .inl e_q1_characters_13))] H := hP
        have hD : va_D A [(a_t, .inr (6, [.ref a_t_fixed, .ref a_t_decimal, .ref a_t_low, .ref a_t_high])), (a_t_decimal, .inr (0, [.ref a_t_decimal_digits, .int s_t_decimal_count, .int s_t_decimal_point])), (a_t_decimal_digits, .inl (c_t_decimal_digits, n_t_decimal_digits, .inl e_t_decimal_digits)), (a_q1, .inr (5, [.ref a_q1_characters, .int s_q1_length_12])), (a_q1_characters, .inl (c_q1_characters, n_q1_characters, .inl e_q1_characters_13))] := hD
        replace h := xnm_s h
        obtain ⟨x4_15, ex4_15, h⟩ := h
        refine lv_iinc (v := x4_15) (lv' := [(4, .int x4_15), (0, .ref a_t), (1, .ref a_q1), (3, .int x3)]) hx hb d_Writer_addDigits_25 hl (k := 3) rfl (by rw [← ex4_15]; rfl) (by decide) rfl (fun ls hl => ?_)
        refine lv_goto (tgt := 3) hx hb d_Writer_addDigits_28 (by decide) ?_
        exact ih _ _ _ _ _ _ h hP hD hS (lv_sub hl [1, 2, 3, 0] rfl)
  exact hL_8 xF _ _ _ _ _ _ hlp_6 hP hD hS (lv_sub hl [1, 2, 4, 0] rfl)
def f_Writer_addPlaces (n_t_decimal_digits : Nat) (n_q1_characters : Nat) (s_t_decimal_count : Int32) (s_t_decimal_point : Int32) (e_t_decimal_digits : Nat → Int32) (s_q1_length : Int32) (e_q1_characters : Nat → Int32) (x2 : Int32) : Option (Int32 × (Nat → Int32)) :=
  xob (f_Decimal_point s_t_decimal_count s_t_decimal_point) fun r_1 => xob (if 0 < r_1 then (some (s_q1_length, e_q1_characters)) else (xob (f_Text_add n_q1_characters s_q1_length e_q1_characters (48 : Int32)) fun (s_q1_length_18, e_q1_characters_19) => some (s_q1_length_18, e_q1_characters_19))) fun (s_q1_length_3, e_q1_characters_4) => xob (f_Writer_addDigits n_t_decimal_digits n_q1_characters s_t_decimal_count s_t_decimal_point e_t_decimal_digits s_q1_length_3 e_q1_characters_4 (0 : Int32) r_1) fun (s_q1_length_7, e_q1_characters_8) => if x2 ≤ 0 then (some (s_q1_length_7, e_q1_characters_8)) else (xob (f_Text_add n_q1_characters s_q1_length_7 e_q1_characters_8 (46 : Int32)) fun (s_q1_length_11, e_q1_characters_12) => xob (f_Writer_addDigits n_t_decimal_digits n_q1_characters s_t_decimal_count s_t_decimal_point e_t_decimal_digits s_q1_length_11 e_q1_characters_12 r_1 (r_1 + x2)) fun (s_q1_length_14, e_q1_characters_15) => some (s_q1_length_14, e_q1_characters_15))
def rm_Writer_addPlaces : Room := { frames := 2, cells := 0, slots := 0, locals := 45 }
set_option maxHeartbeats 4000000 in
set_option maxRecDepth 100000 in
theorem c_Writer_addPlaces (l : Launch) (dC : Nat → ClassId) (dI : Nat → Nat → Nat) (a_t a_q1 a_t_fixed a_t_decimal a_t_low a_t_high a_t_decimal_digits a_q1_characters : Nat) (c_t_decimal_digits c_q1_characters : ClassId) (n_t_decimal_digits : Nat) (n_q1_characters : Nat) (s_t_decimal_count : Int32) (s_t_decimal_point : Int32) (e_t_decimal_digits : Nat → Int32) (s_q1_length : Int32) (e_q1_characters : Nat → Int32) (x2 : Int32) (s_q1_length_o : Int32) (e_q1_characters_o : Nat → Int32) (h : f_Writer_addPlaces n_t_decimal_digits n_q1_characters s_t_decimal_count s_t_decimal_point e_t_decimal_digits s_q1_length e_q1_characters x2 = some (s_q1_length_o, e_q1_characters_o)) : xM l y_Writer_addPlaces (Cond.code y_Writer_addPlaces b_Writer_addPlaces 4 none :: xG) rm_Writer_addPlaces (dC, dI) x_cl x_nz [.ref a_t, .ref a_q1, .int x2] [(c_t_decimal_digits, .byte), (c_q1_characters, .byte)] [(a_t, .inr (6, [.ref a_t_fixed, .ref a_t_decimal, .ref a_t_low, .ref a_t_high])), (a_t_decimal, .inr (0, [.ref a_t_decimal_digits, .int s_t_decimal_count, .int s_t_decimal_point])), (a_t_decimal_digits, .inl (c_t_decimal_digits, n_t_decimal_digits, .inl e_t_decimal_digits)), (a_q1, .inr (5, [.ref a_q1_characters, .int s_q1_length])), (a_q1_characters, .inl (c_q1_characters, n_q1_characters, .inl e_q1_characters))] none [(a_t, .inr (6, [.ref a_t_fixed, .ref a_t_decimal, .ref a_t_low, .ref a_t_high])), (a_t_decimal, .inr (0, [.ref a_t_decimal_digits, .int s_t_decimal_count, .int s_t_decimal_point])), (a_t_decimal_digits, .inl (c_t_decimal_digits, n_t_decimal_digits, .inl e_t_decimal_digits)), (a_q1, .inr (5, [.ref a_q1_characters, .int s_q1_length_o])), (a_q1_characters, .inl (c_q1_characters, n_q1_characters, .inl e_q1_characters_o))] := by
  unfold f_Writer_addPlaces at h
  refine xM.mkV (cc := b_Writer_addPlaces) (maxL := 4)  (by decide +kernel) rfl (Nat.le_of_ble_eq_true rfl) ?_
  intro p e s m args below meth c A Q ls hx hb hml hown hts hNz hA hP hD hK hl hret
  have hS : va_S A s.heap s.heap [] := va_S.rf
  have hl : lv_has ls 4 [(0, .ref a_t), (1, .ref a_q1), (2, .int x2)] := hl
  refine lv_aload_n hx hb d_Writer_addPlaces_0 rfl (lv_at hl 0 rfl) ?_
  refine va_get (D := (dC, dI)) (ci := 6) (v := .ref a_t_decimal) (C := R_Writer) (T := T_Writer) (N := 4) hx hb hts in_Writer hown hK hP 0 rfl rfl 1 (by decide) (hts _ g_124) (fun _ h9 => h9) rfl d_Writer_addPlaces_1 ?_
  replace h := xob_s h
  obtain ⟨r_1, hc_2, h⟩ := h
  try dsimp only at h
  refine xcV (As := []) (rest := []) (st1 := [.int r_1]) (wr := [(a_t, .inr (6, [.ref a_t_fixed, .ref a_t_decimal, .ref a_t_low, .ref a_t_high])), (a_t_decimal_digits, .inl (c_t_decimal_digits, n_t_decimal_digits, .inl e_t_decimal_digits)), (a_q1, .inr (5, [.ref a_q1_characters, .int s_q1_length])), (a_q1_characters, .inl (c_q1_characters, n_q1_characters, .inl e_q1_characters))]) ⟨hx, hb, hml, hown, hts⟩ (c_Decimal_point l dC dI a_t_decimal a_t_decimal_digits s_t_decimal_count s_t_decimal_point r_1 hc_2) (cwV 0 hts (xgoodV g_337 g_338 g_339 g_6 g_340) rfl rfl rfl (by decide +kernel) ⟨Nat.le_of_ble_eq_true rfl, Nat.le_of_ble_eq_true rfl⟩) hNz (ci := 0) (q0 := 1) rfl rfl hA hP hD hS hK [1] [0, 2, 3, 4] [] rfl rfl rfl rfl (by decide) rfl rfl rfl rfl hl.1 (Nat.le_of_ble_eq_true rfl) ⟨Nat.zero_le _, Nat.zero_le _⟩ d_Writer_addPlaces_4 (fun H locs hP hD hS => ?_)
  have hP : va_P (dC, dI) x_cl [(a_t, .inr (6, [.ref a_t_fixed, .ref a_t_decimal, .ref a_t_low, .ref a_t_high])), (a_t_decimal_digits, .inl (c_t_decimal_digits, n_t_decimal_digits, .inl e_t_decimal_digits)), (a_q1, .inr (5, [.ref a_q1_characters, .int s_q1_length])), (a_q1_characters, .inl (c_q1_characters, n_q1_characters, .inl e_q1_characters)), (a_t_decimal, .inr (0, [.ref a_t_decimal_digits, .int s_t_decimal_count, .int s_t_decimal_point]))] H := hP
  have hD : va_D A [(a_t, .inr (6, [.ref a_t_fixed, .ref a_t_decimal, .ref a_t_low, .ref a_t_high])), (a_t_decimal_digits, .inl (c_t_decimal_digits, n_t_decimal_digits, .inl e_t_decimal_digits)), (a_q1, .inr (5, [.ref a_q1_characters, .int s_q1_length])), (a_q1_characters, .inl (c_q1_characters, n_q1_characters, .inl e_q1_characters)), (a_t_decimal, .inr (0, [.ref a_t_decimal_digits, .int s_t_decimal_count, .int s_t_decimal_point]))] := hD
  refine lv_istore_n (lv' := [(3, .int r_1), (0, .ref a_t), (1, .ref a_q1), (2, .int x2)]) hx hb d_Writer_addPlaces_7 rfl hl (by decide) rfl (fun ls hl => ?_)
  refine lv_iload_n hx hb d_Writer_addPlaces_8 rfl (lv_at hl 0 rfl) ?_
  replace h := xob_s h
  obtain ⟨⟨s_q1_length_3, e_q1_characters_4⟩, hj_5, h⟩ := h
  try dsimp only at h
  have hJ_6 : ∀ (H : Heap) (locs : List Loc) (ls : Array Slot), va_P (dC, dI) x_cl [(a_t, .inr (6, [.ref a_t_fixed, .ref a_t_decimal, .ref a_t_low, .ref a_t_high])), (a_t_decimal, .inr (0, [.ref a_t_decimal_digits, .int s_t_decimal_count, .int s_t_decimal_point])), (a_t_decimal_digits, .inl (c_t_decimal_digits, n_t_decimal_digits, .inl e_t_decimal_digits)), (a_q1, .inr (5, [.ref a_q1_characters, .int s_q1_length_3])), (a_q1_characters, .inl (c_q1_characters, n_q1_characters, .inl e_q1_characters_4))] H → va_D A [(a_t, .inr (6, [.ref a_t_fixed, .ref a_t_decimal, .ref a_t_low, .ref a_t_high])), (a_t_decimal, .inr (0, [.ref a_t_decimal_digits, .int s_t_decimal_count, .int s_t_decimal_point])), (a_t_decimal_digits, .inl (c_t_decimal_digits, n_t_decimal_digits, .inl e_t_decimal_digits)), (a_q1, .inr (5, [.ref a_q1_characters, .int s_q1_length_3])), (a_q1_characters, .inl (c_q1_characters, n_q1_characters, .inl e_q1_characters_4))] → va_S A s.heap H locs → lv_has ls 4 [(0, .ref a_t), (1, .ref a_q1), (2, .int x2), (3, .int r_1)] → W p l e rm_Writer_addPlaces s m args below meth c H locs 0 0 Q (F0 m 18 ls []) := by
    intro H locs ls hP hD hS hl
    refine lv_aload_n hx hb d_Writer_addPlaces_18 rfl (lv_at hl 0 rfl) ?_
    refine lv_aload_n hx hb d_Writer_addPlaces_19 rfl (lv_at hl 1 rfl) ?_
    refine lv_iconst (v := 0) hx hb d_Writer_addPlaces_20 (by decide) ?_
    refine lv_iload_n hx hb d_Writer_addPlaces_21 rfl (lv_at hl 3 rfl) ?_
    replace h := xob_s h
    obtain ⟨⟨s_q1_length_7, e_q1_characters_8⟩, hc_9, h⟩ := h
    try dsimp only at h
    refine xcV (As := [.ref a_q1, .int (0 : Int32), .int r_1]) (rest := []) (st1 := []) (wr := []) ⟨hx, hb, hml, hown, hts⟩ (c_Writer_addDigits l dC dI a_t a_q1 a_t_fixed a_t_decimal a_t_low a_t_high a_t_decimal_digits a_q1_characters c_t_decimal_digits c_q1_characters n_t_decimal_digits n_q1_characters s_t_decimal_count s_t_decimal_point e_t_decimal_digits s_q1_length_3 e_q1_characters_4 (0 : Int32) r_1 s_q1_length_7 e_q1_characters_8 hc_9) (cwV 3 hts (xgoodV g_381 g_383 gp_9 g_8 g_384) rfl rfl rfl (by decide +kernel) ⟨Nat.le_of_ble_eq_true rfl, Nat.le_of_ble_eq_true rfl⟩) hNz (ci := 6) (q0 := 0) rfl rfl hA hP hD hS hK [0, 1, 2, 3, 4] [] [0, 1] rfl rfl rfl rfl (by decide) rfl rfl rfl rfl hl.1 (Nat.le_of_ble_eq_true rfl) ⟨Nat.zero_le _, Nat.zero_le _⟩ d_Writer_addPlaces_22 (fun H locs hP hD hS => ?_)
    have hP : va_P (dC, dI) x_cl [(a_t, .inr (6, [.ref a_t_fixed, .ref a_t_decimal, .ref a_t_low, .ref a_t_high])), (a_t_decimal, .inr (0, [.ref a_t_decimal_digits, .int s_t_decimal_count, .int s_t_decimal_point])), (a_t_decimal_digits, .inl (c_t_decimal_digits, n_t_decimal_digits, .inl e_t_decimal_digits)), (a_q1, .inr (5, [.ref a_q1_characters, .int s_q1_length_7])), (a_q1_characters, .inl (c_q1_characters, n_q1_characters, .inl e_q1_characters_8))] H := hP
    have hD : va_D A [(a_t, .inr (6, [.ref a_t_fixed, .ref a_t_decimal, .ref a_t_low, .ref a_t_high])), (a_t_decimal, .inr (0, [.ref a_t_decimal_digits, .int s_t_decimal_count, .int s_t_decimal_point])), (a_t_decimal_digits, .inl (c_t_decimal_digits, n_t_decimal_digits, .inl e_t_decimal_digits)), (a_q1, .inr (5, [.ref a_q1_characters, .int s_q1_length_7])), (a_q1_characters, .inl (c_q1_characters, n_q1_characters, .inl e_q1_characters_8))] := hD
    refine lv_iload_n hx hb d_Writer_addPlaces_25 rfl (lv_at hl 2 rfl) ?_
    refine lv_if_le (tgt := 44) hx hb d_Writer_addPlaces_26 (by decide) (fun c_10 => ?_) (fun c_10 => ?_)
    · rw [if_pos c_10] at h
      replace h := Option.some.inj h
      replace h := Prod.mk.inj h
      obtain ⟨h1, h⟩ := h
      subst h1
      subst h
      exact hret _ _ hP hD hS _ _ d_Writer_addPlaces_44
    · rw [if_neg c_10] at h
      refine lv_aload_n hx hb d_Writer_addPlaces_29 rfl (lv_at hl 1 rfl) ?_
      refine lv_bipush (v := 46) hx hb d_Writer_addPlaces_30 (by decide) ?_
      replace h := xob_s h
      obtain ⟨⟨s_q1_length_11, e_q1_characters_12⟩, hc_13, h⟩ := h
      try dsimp only at h
      refine xcV (As := [.int (46 : Int32)]) (rest := []) (st1 := []) (wr := [(a_t, .inr (6, [.ref a_t_fixed, .ref a_t_decimal, .ref a_t_low, .ref a_t_high])), (a_t_decimal, .inr (0, [.ref a_t_decimal_digits, .int s_t_decimal_count, .int s_t_decimal_point])), (a_t_decimal_digits, .inl (c_t_decimal_digits, n_t_decimal_digits, .inl e_t_decimal_digits))]) ⟨hx, hb, hml, hown, hts⟩ (c_Text_add l dC dI a_q1 a_q1_characters c_q1_characters n_q1_characters s_q1_length_7 e_q1_characters_8 (46 : Int32) s_q1_length_11 e_q1_characters_12 hc_13) (cwV 1 hts (xgoodV g_242 g_198 g_199 g_2 g_200) rfl rfl rfl (by decide +kernel) ⟨Nat.le_of_ble_eq_true rfl, Nat.le_of_ble_eq_true rfl⟩) hNz (ci := 5) (q0 := 3) rfl rfl hA hP hD hS hK [3, 4] [0, 1, 2] [1] rfl rfl rfl rfl (by decide) rfl rfl rfl rfl hl.1 (Nat.le_of_ble_eq_true rfl) ⟨Nat.zero_le _, Nat.zero_le _⟩ d_Writer_addPlaces_32 (fun H locs hP hD hS => ?_)
      have hP : va_P (dC, dI) x_cl [(a_t, .inr (6, [.ref a_t_fixed, .ref a_t_decimal, .ref a_t_low, .ref a_t_high])), (a_t_decimal, .inr (0, [.ref a_t_decimal_digits, .int s_t_decimal_count, .int s_t_decimal_point])), (a_t_decimal_digits, .inl (c_t_decimal_digits, n_t_decimal_digits, .inl e_t_decimal_digits)), (a_q1, .inr (5, [.ref a_q1_characters, .int s_q1_length_11])), (a_q1_characters, .inl (c_q1_characters, n_q1_characters, .inl e_q1_characters_12))] H := hP
      have hD : va_D A [(a_t, .inr (6, [.ref a_t_fixed, .ref a_t_decimal, .ref a_t_low, .ref a_t_high])), (a_t_decimal, .inr (0, [.ref a_t_decimal_digits, .int s_t_decimal_count, .int s_t_decimal_point])), (a_t_decimal_digits, .inl (c_t_decimal_digits, n_t_decimal_digits, .inl e_t_decimal_digits)), (a_q1, .inr (5, [.ref a_q1_characters, .int s_q1_length_11])), (a_q1_characters, .inl (c_q1_characters, n_q1_characters, .inl e_q1_characters_12))] := hD
      refine lv_aload_n hx hb d_Writer_addPlaces_35 rfl (lv_at hl 0 rfl) ?_
      refine lv_aload_n hx hb d_Writer_addPlaces_36 rfl (lv_at hl 1 rfl) ?_
      refine lv_iload_n hx hb d_Writer_addPlaces_37 rfl (lv_at hl 3 rfl) ?_
      refine lv_iload_n hx hb d_Writer_addPlaces_38 rfl (lv_at hl 3 rfl) ?_
      refine lv_iload_n hx hb d_Writer_addPlaces_39 rfl (lv_at hl 2 rfl) ?_
      refine lv_iadd hx hb d_Writer_addPlaces_40 ?_
      replace h := xob_s h
      obtain ⟨⟨s_q1_length_14, e_q1_characters_15⟩, hc_16, h⟩ := h
      try dsimp only at h
      refine xcV (As := [.ref a_q1, .int r_1, .int (r_1 + x2)]) (rest := []) (st1 := []) (wr := []) ⟨hx, hb, hml, hown, hts⟩ (c_Writer_addDigits l dC dI a_t a_q1 a_t_fixed a_t_decimal a_t_low a_t_high a_t_decimal_digits a_q1_characters c_t_decimal_digits c_q1_characters n_t_decimal_digits n_q1_characters s_t_decimal_count s_t_decimal_point e_t_decimal_digits s_q1_length_11 e_q1_characters_12 r_1 (r_1 + x2) s_q1_length_14 e_q1_characters_15 hc_16) (cwV 3 hts (xgoodV g_381 g_383 gp_9 g_8 g_384) rfl rfl rfl (by decide +kernel) ⟨Nat.le_of_ble_eq_true rfl, Nat.le_of_ble_eq_true rfl⟩) hNz (ci := 6) (q0 := 0) rfl rfl hA hP hD hS hK [0, 1, 2, 3, 4] [] [0, 1] rfl rfl rfl rfl (by decide) rfl rfl rfl rfl hl.1 (Nat.le_of_ble_eq_true rfl) ⟨Nat.zero_le _, Nat.zero_le _⟩ d_Writer_addPlaces_41 (fun H locs hP hD hS => ?_)
      have hP : va_P (dC, dI) x_cl [(a_t, .inr (6, [.ref a_t_fixed, .ref a_t_decimal, .ref a_t_low, .ref a_t_high])), (a_t_decimal, .inr (0, [.ref a_t_decimal_digits, .int s_t_decimal_count, .int s_t_decimal_point])), (a_t_decimal_digits, .inl (c_t_decimal_digits, n_t_decimal_digits, .inl e_t_decimal_digits)), (a_q1, .inr (5, [.ref a_q1_characters, .int s_q1_length_14])), (a_q1_characters, .inl (c_q1_characters, n_q1_characters, .inl e_q1_characters_15))] H := hP
      have hD : va_D A [(a_t, .inr (6, [.ref a_t_fixed, .ref a_t_decimal, .ref a_t_low, .ref a_t_high])), (a_t_decimal, .inr (0, [.ref a_t_decimal_digits, .int s_t_decimal_count, .int s_t_decimal_point])), (a_t_decimal_digits, .inl (c_t_decimal_digits, n_t_decimal_digits, .inl e_t_decimal_digits)), (a_q1, .inr (5, [.ref a_q1_characters, .int s_q1_length_14])), (a_q1_characters, .inl (c_q1_characters, n_q1_characters, .inl e_q1_characters_15))] := hD
      replace h := Option.some.inj h
      replace h := Prod.mk.inj h
      obtain ⟨h1, h⟩ := h
      subst h1
      subst h
      exact hret _ _ hP hD hS _ _ d_Writer_addPlaces_44
  replace h := hj_5
  clear hj_5
  refine lv_if_gt (tgt := 18) hx hb d_Writer_addPlaces_9 (by decide) (fun c_17 => ?_) (fun c_17 => ?_)
  · rw [if_pos c_17] at h
    replace h := Option.some.inj h
    replace h := Prod.mk.inj h
    obtain ⟨h1, h⟩ := h
    subst h1
    subst h
    exact hJ_6 _ _ _ (hP.sub [0, 4, 1, 2, 3] rfl) (hD.sub [0, 4, 1, 2, 3] (by decide) rfl) hS (lv_sub hl [1, 2, 3, 0] rfl)
  · rw [if_neg c_17] at h
    refine lv_aload_n hx hb d_Writer_addPlaces_12 rfl (lv_at hl 2 rfl) ?_
    refine lv_bipush (v := 48) hx hb d_Writer_addPlaces_13 (by decide) ?_
    replace h := xob_s h
    obtain ⟨⟨s_q1_length_18, e_q1_characters_19⟩, hc_20, h⟩ := h
    try dsimp only at h
    refine xcV (As := [.int (48 : Int32)]) (rest := []) (st1 := []) (wr := [(a_t, .inr (6, [.ref a_t_fixed, .ref a_t_decimal, .ref a_t_low, .ref a_t_high])), (a_t_decimal_digits, .inl (c_t_decimal_digits, n_t_decimal_digits, .inl e_t_decimal_digits)), (a_t_decimal, .inr (0, [.ref a_t_decimal_digits, .int s_t_decimal_count, .int s_t_decimal_point]))]) ⟨hx, hb, hml, hown, hts⟩ (c_Text_add l dC dI a_q1 a_q1_characters c_q1_characters n_q1_characters s_q1_length e_q1_characters (48 : Int32) s_q1_length_18 e_q1_characters_19 hc_20) (cwV 1 hts (xgoodV g_242 g_198 g_199 g_2 g_200) rfl rfl rfl (by decide +kernel) ⟨Nat.le_of_ble_eq_true rfl, Nat.le_of_ble_eq_true rfl⟩) hNz (ci := 5) (q0 := 2) rfl rfl hA hP hD hS hK [2, 3] [0, 1, 4] [1] rfl rfl rfl rfl (by decide) rfl rfl rfl rfl hl.1 (Nat.le_of_ble_eq_true rfl) ⟨Nat.zero_le _, Nat.zero_le _⟩ d_Writer_addPlaces_15 (fun H locs hP hD hS => ?_)
    have hP : va_P (dC, dI) x_cl [(a_t, .inr (6, [.ref a_t_fixed, .ref a_t_decimal, .ref a_t_low, .ref a_t_high])), (a_t_decimal_digits, .inl (c_t_decimal_digits, n_t_decimal_digits, .inl e_t_decimal_digits)), (a_t_decimal, .inr (0, [.ref a_t_decimal_digits, .int s_t_decimal_count, .int s_t_decimal_point])), (a_q1, .inr (5, [.ref a_q1_characters, .int s_q1_length_18])), (a_q1_characters, .inl (c_q1_characters, n_q1_characters, .inl e_q1_characters_19))] H := hP
    have hD : va_D A [(a_t, .inr (6, [.ref a_t_fixed, .ref a_t_decimal, .ref a_t_low, .ref a_t_high])), (a_t_decimal_digits, .inl (c_t_decimal_digits, n_t_decimal_digits, .inl e_t_decimal_digits)), (a_t_decimal, .inr (0, [.ref a_t_decimal_digits, .int s_t_decimal_count, .int s_t_decimal_point])), (a_q1, .inr (5, [.ref a_q1_characters, .int s_q1_length_18])), (a_q1_characters, .inl (c_q1_characters, n_q1_characters, .inl e_q1_characters_19))] := hD
    replace h := Option.some.inj h
    replace h := Prod.mk.inj h
    obtain ⟨h1, h⟩ := h
    subst h1
    subst h
    exact hJ_6 _ _ _ (hP.sub [0, 2, 1, 3, 4] rfl) (hD.sub [0, 2, 1, 3, 4] (by decide) rfl) hS (lv_sub hl [1, 2, 3, 0] rfl)
def f_Text_addNumber (n_t_characters : Nat) (s_t_length : Int32) (e_t_characters : Nat → Int32) (x1 : Int32) : Option (Int32 × (Nat → Int32)) :=
  xob (if 0 ≤ x1 then (some (x1, s_t_length, e_t_characters)) else (xob (f_Text_add n_t_characters s_t_length e_t_characters (45 : Int32)) fun (s_t_length_26, e_t_characters_27) => xnm (-x1) fun x2_29 => some (x2_29, s_t_length_26, e_t_characters_27))) fun (x2_1, s_t_length_2, e_t_characters_3) => xob (if x2_1 < (100 : Int32) then (some (s_t_length_2, e_t_characters_3)) else (xob (f_Text_add n_t_characters s_t_length_2 e_t_characters_3 ((48 : Int32) + ((x2_1 / (100 : Int32)) - (x2_1 / (100 : Int32)) / (10 : Int32) * (10 : Int32)))) fun (s_t_length_22, e_t_characters_23) => some (s_t_length_22, e_t_characters_23))) fun (s_t_length_6, e_t_characters_7) => xob (if x2_1 < (10 : Int32) then (some (s_t_length_6, e_t_characters_7)) else (xob (f_Text_add n_t_characters s_t_length_6 e_t_characters_7 ((48 : Int32) + ((x2_1 / (10 : Int32)) - (x2_1 / (10 : Int32)) / (10 : Int32) * (10 : Int32)))) fun (s_t_length_18, e_t_characters_19) => some (s_t_length_18, e_t_characters_19))) fun (s_t_length_10, e_t_characters_11) => xob (f_Text_add n_t_characters s_t_length_10 e_t_characters_11 ((48 : Int32) + (x2_1 - x2_1 / (10 : Int32) * (10 : Int32)))) fun (s_t_length_14, e_t_characters_15) => some (s_t_length_14, e_t_characters_15)
def rm_Text_addNumber : Room := { frames := 1, cells := 0, slots := 0, locals := 21 }
set_option maxHeartbeats 4000000 in
set_option maxRecDepth 100000 in
theorem c_Text_addNumber (l : Launch) (dC : Nat → ClassId) (dI : Nat → Nat → Nat) (a_t a_t_characters : Nat) (c_t_characters : ClassId) (n_t_characters : Nat) (s_t_length : Int32) (e_t_characters : Nat → Int32) (x1 : Int32) (s_t_length_o : Int32) (e_t_characters_o : Nat → Int32) (h : f_Text_addNumber n_t_characters s_t_length e_t_characters x1 = some (s_t_length_o, e_t_characters_o)) : xM l y_Text_addNumber (Cond.code y_Text_addNumber b_Text_addNumber 3 none :: xG) rm_Text_addNumber (dC, dI) x_cl x_nz [.ref a_t, .int x1] [(c_t_characters, .byte)] [(a_t, .inr (5, [.ref a_t_characters, .int s_t_length])), (a_t_characters, .inl (c_t_characters, n_t_characters, .inl e_t_characters))] none [(a_t, .inr (5, [.ref a_t_characters, .int s_t_length_o])), (a_t_characters, .inl (c_t_characters, n_t_characters, .inl e_t_characters_o))] := by
  unfold f_Text_addNumber at h
  refine xM.mkV (cc := b_Text_addNumber) (maxL := 3)  (by decide +kernel) rfl (Nat.le_of_ble_eq_true rfl) ?_
  intro p e s m args below meth c A Q ls hx hb hml hown hts hNz hA hP hD hK hl hret
  have hS : va_S A s.heap s.heap [] := va_S.rf
  have hl : lv_has ls 3 [(0, .ref a_t), (1, .int x1)] := hl
  refine lv_iload_n hx hb d_Text_addNumber_0 rfl (lv_at hl 1 rfl) ?_
  refine lv_istore_n (lv' := [(2, .int x1), (0, .ref a_t), (1, .int x1)]) hx hb d_Text_addNumber_1 rfl hl (by decide) rfl (fun ls hl => ?_)
  refine lv_iload_n hx hb d_Text_addNumber_2 rfl (lv_at hl 0 rfl) ?_
  replace h := xob_s h
  obtain ⟨⟨x2_1, s_t_length_2, e_t_characters_3⟩, hj_4, h⟩ := h
  try dsimp only at h
  have hJ_5 : ∀ (H : Heap) (locs : List Loc) (ls : Array Slot), va_P (dC, dI) x_cl [(a_t, .inr (5, [.ref a_t_characters, .int s_t_length_2])), (a_t_characters, .inl (c_t_characters, n_t_characters, .inl e_t_characters_3))] H → va_D A [(a_t, .inr (5, [.ref a_t_characters, .int s_t_length_2])), (a_t_characters, .inl (c_t_characters, n_t_characters, .inl e_t_characters_3))] → va_S A s.heap H locs → lv_has ls 3 [(0, .ref a_t), (2, .int x2_1)] → W p l e rm_Text_addNumber s m args below meth c H locs 0 0 Q (F0 m 15 ls []) := by
    intro H locs ls hP hD hS hl
    refine lv_iload_n hx hb d_Text_addNumber_15 rfl (lv_at hl 1 rfl) ?_
    refine lv_bipush (v := 100) hx hb d_Text_addNumber_16 (by decide) ?_
    replace h := xob_s h
    obtain ⟨⟨s_t_length_6, e_t_characters_7⟩, hj_8, h⟩ := h
    try dsimp only at h
    have hJ_9 : ∀ (H : Heap) (locs : List Loc) (ls : Array Slot), va_P (dC, dI) x_cl [(a_t, .inr (5, [.ref a_t_characters, .int s_t_length_6])), (a_t_characters, .inl (c_t_characters, n_t_characters, .inl e_t_characters_7))] H → va_D A [(a_t, .inr (5, [.ref a_t_characters, .int s_t_length_6])), (a_t_characters, .inl (c_t_characters, n_t_characters, .inl e_t_characters_7))] → va_S A s.heap H locs → lv_has ls 3 [(0, .ref a_t), (2, .int x2_1)] → W p l e rm_Text_addNumber s m args below meth c H locs 0 0 Q (F0 m 35 ls []) := by
      intro H locs ls hP hD hS hl
      refine lv_iload_n hx hb d_Text_addNumber_35 rfl (lv_at hl 1 rfl) ?_
      refine lv_bipush (v := 10) hx hb d_Text_addNumber_36 (by decide) ?_
      replace h := xob_s h
      obtain ⟨⟨s_t_length_10, e_t_characters_11⟩, hj_12, h⟩ := h
      try dsimp only at h
      have hJ_13 : ∀ (H : Heap) (locs : List Loc) (ls : Array Slot), va_P (dC, dI) x_cl [(a_t, .inr (5, [.ref a_t_characters, .int s_t_length_10])), (a_t_characters, .inl (c_t_characters, n_t_characters, .inl e_t_characters_11))] H → va_D A [(a_t, .inr (5, [.ref a_t_characters, .int s_t_length_10])), (a_t_characters, .inl (c_t_characters, n_t_characters, .inl e_t_characters_11))] → va_S A s.heap H locs → lv_has ls 3 [(0, .ref a_t), (2, .int x2_1)] → W p l e rm_Text_addNumber s m args below meth c H locs 0 0 Q (F0 m 55 ls []) := by
        intro H locs ls hP hD hS hl
        refine lv_aload_n hx hb d_Text_addNumber_55 rfl (lv_at hl 0 rfl) ?_
        refine lv_bipush (v := 48) hx hb d_Text_addNumber_56 (by decide) ?_
        refine lv_iload_n hx hb d_Text_addNumber_58 rfl (lv_at hl 1 rfl) ?_
        refine lv_bipush (v := 10) hx hb d_Text_addNumber_59 (by decide) ?_
        refine lv_irem hx hb d_Text_addNumber_61 (by decide) ?_
        refine lv_iadd hx hb d_Text_addNumber_62 ?_
        replace h := xob_s h
        obtain ⟨⟨s_t_length_14, e_t_characters_15⟩, hc_16, h⟩ := h
        try dsimp only at h
        refine xcV (As := [.int ((48 : Int32) + (x2_1 - x2_1 / (10 : Int32) * (10 : Int32)))]) (rest := []) (st1 := []) (wr := []) ⟨hx, hb, hml, hown, hts⟩ (c_Text_add l dC dI a_t a_t_characters c_t_characters n_t_characters s_t_length_10 e_t_characters_11 ((48 : Int32) + (x2_1 - x2_1 / (10 : Int32) * (10 : Int32))) s_t_length_14 e_t_characters_15 hc_16) (cwV 1 hts (xgoodV g_241 g_198 g_199 g_2 g_200) rfl rfl rfl (by decide +kernel) ⟨Nat.le_of_ble_eq_true rfl, Nat.le_of_ble_eq_true rfl⟩) hNz (ci := 5) (q0 := 0) rfl rfl hA hP hD hS hK [0, 1] [] [0] rfl rfl rfl rfl (by decide) rfl rfl rfl rfl hl.1 (Nat.le_of_ble_eq_true rfl) ⟨Nat.zero_le _, Nat.zero_le _⟩ d_Text_addNumber_63 (fun H locs hP hD hS => ?_)
        have hP : va_P (dC, dI) x_cl [(a_t, .inr (5, [.ref a_t_characters, .int s_t_length_14])), (a_t_characters, .inl (c_t_characters, n_t_characters, .inl e_t_characters_15))] H := hP
        have hD : va_D A [(a_t, .inr (5, [.ref a_t_characters, .int s_t_length_14])), (a_t_characters, .inl (c_t_characters, n_t_characters, .inl e_t_characters_15))] := hD
        replace h := Option.some.inj h
        replace h := Prod.mk.inj h
        obtain ⟨h1, h⟩ := h
        subst h1
        subst h
        exact hret _ _ hP hD hS _ _ d_Text_addNumber_66
      replace h := hj_12
      clear hj_12
      refine lv_icmp_lt (tgt := 55) hx hb d_Text_addNumber_38 (by decide) (fun c_17 => ?_) (fun c_17 => ?_)
      · rw [if_pos c_17] at h
        replace h := Option.some.inj h
        replace h := Prod.mk.inj h
        obtain ⟨h1, h⟩ := h
        subst h1
        subst h
        exact hJ_13 _ _ _ hP hD hS hl
      · rw [if_neg c_17] at h
        refine lv_aload_n hx hb d_Text_addNumber_41 rfl (lv_at hl 0 rfl) ?_
        refine lv_bipush (v := 48) hx hb d_Text_addNumber_42 (by decide) ?_
        refine lv_iload_n hx hb d_Text_addNumber_44 rfl (lv_at hl 1 rfl) ?_
        refine lv_bipush (v := 10) hx hb d_Text_addNumber_45 (by decide) ?_
        refine lv_idiv hx hb d_Text_addNumber_47 (by decide) ?_
        refine lv_bipush (v := 10) hx hb d_Text_addNumber_48 (by decide) ?_
        refine lv_irem hx hb d_Text_addNumber_50 (by decide) ?_
        refine lv_iadd hx hb d_Text_addNumber_51 ?_
        replace h := xob_s h
        obtain ⟨⟨s_t_length_18, e_t_characters_19⟩, hc_20, h⟩ := h
        try dsimp only at h
        refine xcV (As := [.int ((48 : Int32) + ((x2_1 / (10 : Int32)) - (x2_1 / (10 : Int32)) / (10 : Int32) * (10 : Int32)))]) (rest := []) (st1 := []) (wr := []) ⟨hx, hb, hml, hown, hts⟩ (c_Text_add l dC dI a_t a_t_characters c_t_characters n_t_characters s_t_length_6 e_t_characters_7 ((48 : Int32) + ((x2_1 / (10 : Int32)) - (x2_1 / (10 : Int32)) / (10 : Int32) * (10 : Int32))) s_t_length_18 e_t_characters_19 hc_20) (cwV 1 hts (xgoodV g_241 g_198 g_199 g_2 g_200) rfl rfl rfl (by decide +kernel) ⟨Nat.le_of_ble_eq_true rfl, Nat.le_of_ble_eq_true rfl⟩) hNz (ci := 5) (q0 := 0) rfl rfl hA hP hD hS hK [0, 1] [] [0] rfl rfl rfl rfl (by decide) rfl rfl rfl rfl hl.1 (Nat.le_of_ble_eq_true rfl) ⟨Nat.zero_le _, Nat.zero_le _⟩ d_Text_addNumber_52 (fun H locs hP hD hS => ?_)
        have hP : va_P (dC, dI) x_cl [(a_t, .inr (5, [.ref a_t_characters, .int s_t_length_18])), (a_t_characters, .inl (c_t_characters, n_t_characters, .inl e_t_characters_19))] H := hP
        have hD : va_D A [(a_t, .inr (5, [.ref a_t_characters, .int s_t_length_18])), (a_t_characters, .inl (c_t_characters, n_t_characters, .inl e_t_characters_19))] := hD
        replace h := Option.some.inj h
        replace h := Prod.mk.inj h
        obtain ⟨h1, h⟩ := h
        subst h1
        subst h
        exact hJ_13 _ _ _ hP hD hS hl
    replace h := hj_8
    clear hj_8
    refine lv_icmp_lt (tgt := 35) hx hb d_Text_addNumber_18 (by decide) (fun c_21 => ?_) (fun c_21 => ?_)
    · rw [if_pos c_21] at h
      replace h := Option.some.inj h
      replace h := Prod.mk.inj h
      obtain ⟨h1, h⟩ := h
      subst h1
      subst h
      exact hJ_9 _ _ _ hP hD hS hl
    · rw [if_neg c_21] at h
      refine lv_aload_n hx hb d_Text_addNumber_21 rfl (lv_at hl 0 rfl) ?_
      refine lv_bipush (v := 48) hx hb d_Text_addNumber_22 (by decide) ?_
      refine lv_iload_n hx hb d_Text_addNumber_24 rfl (lv_at hl 1 rfl) ?_
      refine lv_bipush (v := 100) hx hb d_Text_addNumber_25 (by decide) ?_
      refine lv_idiv hx hb d_Text_addNumber_27 (by decide) ?_
      refine lv_bipush (v := 10) hx hb d_Text_addNumber_28 (by decide) ?_
      refine lv_irem hx hb d_Text_addNumber_30 (by decide) ?_
      refine lv_iadd hx hb d_Text_addNumber_31 ?_
      replace h := xob_s h
      obtain ⟨⟨s_t_length_22, e_t_characters_23⟩, hc_24, h⟩ := h
      try dsimp only at h
      refine xcV (As := [.int ((48 : Int32) + ((x2_1 / (100 : Int32)) - (x2_1 / (100 : Int32)) / (10 : Int32) * (10 : Int32)))]) (rest := []) (st1 := []) (wr := []) ⟨hx, hb, hml, hown, hts⟩ (c_Text_add l dC dI a_t a_t_characters c_t_characters n_t_characters s_t_length_2 e_t_characters_3 ((48 : Int32) + ((x2_1 / (100 : Int32)) - (x2_1 / (100 : Int32)) / (10 : Int32) * (10 : Int32))) s_t_length_22 e_t_characters_23 hc_24) (cwV 1 hts (xgoodV g_241 g_198 g_199 g_2 g_200) rfl rfl rfl (by decide +kernel) ⟨Nat.le_of_ble_eq_true rfl, Nat.le_of_ble_eq_true rfl⟩) hNz (ci := 5) (q0 := 0) rfl rfl hA hP hD hS hK [0, 1] [] [0] rfl rfl rfl rfl (by decide) rfl rfl rfl rfl hl.1 (Nat.le_of_ble_eq_true rfl) ⟨Nat.zero_le _, Nat.zero_le _⟩ d_Text_addNumber_32 (fun H locs hP hD hS => ?_)
      have hP : va_P (dC, dI) x_cl [(a_t, .inr (5, [.ref a_t_characters, .int s_t_length_22])), (a_t_characters, .inl (c_t_characters, n_t_characters, .inl e_t_characters_23))] H := hP
      have hD : va_D A [(a_t, .inr (5, [.ref a_t_characters, .int s_t_length_22])), (a_t_characters, .inl (c_t_characters, n_t_characters, .inl e_t_characters_23))] := hD
      replace h := Option.some.inj h
      replace h := Prod.mk.inj h
      obtain ⟨h1, h⟩ := h
      subst h1
      subst h
      exact hJ_9 _ _ _ hP hD hS hl
  replace h := hj_4
  clear hj_4
  refine lv_if_ge (tgt := 15) hx hb d_Text_addNumber_3 (by decide) (fun c_25 => ?_) (fun c_25 => ?_)
  · rw [if_pos c_25] at h
    replace h := Option.some.inj h
    replace h := Prod.mk.inj h
    obtain ⟨h1, h⟩ := h
    subst h1
    replace h := Prod.mk.inj h
    obtain ⟨h1, h⟩ := h
    subst h1
    subst h
    exact hJ_5 _ _ _ hP hD hS (lv_sub hl [1, 0] rfl)
  · rw [if_neg c_25] at h
    refine lv_aload_n hx hb d_Text_addNumber_6 rfl (lv_at hl 1 rfl) ?_
    refine lv_bipush (v := 45) hx hb d_Text_addNumber_7 (by decide) ?_
    replace h := xob_s h
    obtain ⟨⟨s_t_length_26, e_t_characters_27⟩, hc_28, h⟩ := h
    try dsimp only at h
    refine xcV (As := [.int (45 : Int32)]) (rest := []) (st1 := []) (wr := []) ⟨hx, hb, hml, hown, hts⟩ (c_Text_add l dC dI a_t a_t_characters c_t_characters n_t_characters s_t_length e_t_characters (45 : Int32) s_t_length_26 e_t_characters_27 hc_28) (cwV 1 hts (xgoodV g_241 g_198 g_199 g_2 g_200) rfl rfl rfl (by decide +kernel) ⟨Nat.le_of_ble_eq_true rfl, Nat.le_of_ble_eq_true rfl⟩) hNz (ci := 5) (q0 := 0) rfl rfl hA hP hD hS hK [0, 1] [] [0] rfl rfl rfl rfl (by decide) rfl rfl rfl rfl hl.1 (Nat.le_of_ble_eq_true rfl) ⟨Nat.zero_le _, Nat.zero_le _⟩ d_Text_addNumber_9 (fun H locs hP hD hS => ?_)
    have hP : va_P (dC, dI) x_cl [(a_t, .inr (5, [.ref a_t_characters, .int s_t_length_26])), (a_t_characters, .inl (c_t_characters, n_t_characters, .inl e_t_characters_27))] H := hP
    have hD : va_D A [(a_t, .inr (5, [.ref a_t_characters, .int s_t_length_26])), (a_t_characters, .inl (c_t_characters, n_t_characters, .inl e_t_characters_27))] := hD
    refine lv_iload_n hx hb d_Text_addNumber_12 rfl (lv_at hl 0 rfl) ?_
    refine lv_ineg hx hb d_Text_addNumber_13 ?_
    replace h := xnm_s h
    obtain ⟨x2_29, ex2_29, h⟩ := h
    refine x_topi ex2_29 ?_
    refine lv_istore_n (lv' := [(2, .int x2_29), (0, .ref a_t), (1, .int x1)]) hx hb d_Text_addNumber_14 rfl hl (by decide) rfl (fun ls hl => ?_)
    replace h := Option.some.inj h
    replace h := Prod.mk.inj h
    obtain ⟨h1, h⟩ := h
    subst h1
    replace h := Prod.mk.inj h
    obtain ⟨h1, h⟩ := h
    subst h1
    subst h
    exact hJ_5 _ _ _ hP hD hS (lv_sub hl [1, 0] rfl)
def f_Writer_addWithExponent (n_t_decimal_digits : Nat) (n_q1_characters : Nat) (s_t_decimal_count : Int32) (s_t_decimal_point : Int32) (e_t_decimal_digits : Nat → Int32) (s_q1_length : Int32) (e_q1_characters : Nat → Int32) (x2 : Int32) : Option (Int32 × (Nat → Int32)) :=
  xob (f_Writer_addDigits n_t_decimal_digits n_q1_characters s_t_decimal_count s_t_decimal_point e_t_decimal_digits s_q1_length e_q1_characters (0 : Int32) (1 : Int32)) fun (s_q1_length_1, e_q1_characters_2) => xob (if x2 ≤ (1 : Int32) then (some (s_q1_length_1, e_q1_characters_2)) else (xob (f_Text_add n_q1_characters s_q1_length_1 e_q1_characters_2 (46 : Int32)) fun (s_q1_length_17, e_q1_characters_18) => xob (f_Writer_addDigits n_t_decimal_digits n_q1_characters s_t_decimal_count s_t_decimal_point e_t_decimal_digits s_q1_length_17 e_q1_characters_18 (1 : Int32) x2) fun (s_q1_length_20, e_q1_characters_21) => some (s_q1_length_20, e_q1_characters_21))) fun (s_q1_length_4, e_q1_characters_5) => xob (f_Text_add n_q1_characters s_q1_length_4 e_q1_characters_5 (101 : Int32)) fun (s_q1_length_8, e_q1_characters_9) => xob (f_Decimal_point s_t_decimal_count s_t_decimal_point) fun r_11 => xob (f_Text_addNumber n_q1_characters s_q1_length_8 e_q1_characters_9 (r_11 - (1 : Int32))) fun (s_q1_length_13, e_q1_characters_14) => some (s_q1_length_13, e_q1_characters_14)
def rm_Writer_addWithExponent : Room := { frames := 2, cells := 0, slots := 0, locals := 45 }
set_option maxHeartbeats 4000000 in
set_option maxRecDepth 100000 in
theorem c_Writer_addWithExponent (l : Launch) (dC : Nat → ClassId) (dI : Nat → Nat → Nat) (a_t a_q1 a_t_fixed a_t_decimal a_t_low a_t_high a_t_decimal_digits a_q1_characters : Nat) (c_t_decimal_digits c_q1_characters : ClassId) (n_t_decimal_digits : Nat) (n_q1_characters : Nat) (s_t_decimal_count : Int32) (s_t_decimal_point : Int32) (e_t_decimal_digits : Nat → Int32) (s_q1_length : Int32) (e_q1_characters : Nat → Int32) (x2 : Int32) (s_q1_length_o : Int32) (e_q1_characters_o : Nat → Int32) (h : f_Writer_addWithExponent n_t_decimal_digits n_q1_characters s_t_decimal_count s_t_decimal_point e_t_decimal_digits s_q1_length e_q1_characters x2 = some (s_q1_length_o, e_q1_characters_o)) : xM l y_Writer_addWithExponent (Cond.code y_Writer_addWithExponent b_Writer_addWithExponent 3 none :: xG) rm_Writer_addWithExponent (dC, dI) x_cl x_nz [.ref a_t, .ref a_q1, .int x2] [(c_t_decimal_digits, .byte), (c_q1_characters, .byte)] [(a_t, .inr (6, [.ref a_t_fixed, .ref a_t_decimal, .ref a_t_low, .ref a_t_high])), (a_t_decimal, .inr (0, [.ref a_t_decimal_digits, .int s_t_decimal_count, .int s_t_decimal_point])), (a_t_decimal_digits, .inl (c_t_decimal_digits, n_t_decimal_digits, .inl e_t_decimal_digits)), (a_q1, .inr (5, [.ref a_q1_characters, .int s_q1_length])), (a_q1_characters, .inl (c_q1_characters, n_q1_characters, .inl e_q1_characters))] none [(a_t, .inr (6, [.ref a_t_fixed, .ref a_t_decimal, .ref a_t_low, .ref a_t_high])), (a_t_decimal, .inr (0, [.ref a_t_decimal_digits, .int s_t_decimal_count, .int s_t_decimal_point])), (a_t_decimal_digits, .inl (c_t_decimal_digits, n_t_decimal_digits, .inl e_t_decimal_digits)), (a_q1, .inr (5, [.ref a_q1_characters, .int s_q1_length_o])), (a_q1_characters, .inl (c_q1_characters, n_q1_characters, .inl e_q1_characters_o))] := by
  unfold f_Writer_addWithExponent at h
  refine xM.mkV (cc := b_Writer_addWithExponent) (maxL := 3)  (by decide +kernel) rfl (Nat.le_of_ble_eq_true rfl) ?_
  intro p e s m args below meth c A Q ls hx hb hml hown hts hNz hA hP hD hK hl hret
  have hS : va_S A s.heap s.heap [] := va_S.rf
  have hl : lv_has ls 3 [(0, .ref a_t), (1, .ref a_q1), (2, .int x2)] := hl
  refine lv_aload_n hx hb d_Writer_addWithExponent_0 rfl (lv_at hl 0 rfl) ?_
  refine lv_aload_n hx hb d_Writer_addWithExponent_1 rfl (lv_at hl 1 rfl) ?_
  refine lv_iconst (v := 0) hx hb d_Writer_addWithExponent_2 (by decide) ?_
  refine lv_iconst (v := 1) hx hb d_Writer_addWithExponent_3 (by decide) ?_
  replace h := xob_s h
  obtain ⟨⟨s_q1_length_1, e_q1_characters_2⟩, hc_3, h⟩ := h
  try dsimp only at h
  refine xcV (As := [.ref a_q1, .int (0 : Int32), .int (1 : Int32)]) (rest := []) (st1 := []) (wr := []) ⟨hx, hb, hml, hown, hts⟩ (c_Writer_addDigits l dC dI a_t a_q1 a_t_fixed a_t_decimal a_t_low a_t_high a_t_decimal_digits a_q1_characters c_t_decimal_digits c_q1_characters n_t_decimal_digits n_q1_characters s_t_decimal_count s_t_decimal_point e_t_decimal_digits s_q1_length e_q1_characters (0 : Int32) (1 : Int32) s_q1_length_1 e_q1_characters_2 hc_3) (cwV 3 hts (xgoodV g_381 g_383 gp_9 g_8 g_384) rfl rfl rfl (by decide +kernel) ⟨Nat.le_of_ble_eq_true rfl, Nat.le_of_ble_eq_true rfl⟩) hNz (ci := 6) (q0 := 0) rfl rfl hA hP hD hS hK [0, 1, 2, 3, 4] [] [0, 1] rfl rfl rfl rfl (by decide) rfl rfl rfl rfl hl.1 (Nat.le_of_ble_eq_true rfl) ⟨Nat.zero_le _, Nat.zero_le _⟩ d_Writer_addWithExponent_4 (fun H locs hP hD hS => ?_)
  have hP : va_P (dC, dI) x_cl [(a_t, .inr (6, [.ref a_t_fixed, .ref a_t_decimal, .ref a_t_low, .ref a_t_high])), (a_t_decimal, .inr (0, [.ref a_t_decimal_digits, .int s_t_decimal_count, .int s_t_decimal_point])), (a_t_decimal_digits, .inl (c_t_decimal_digits, n_t_decimal_digits, .inl e_t_decimal_digits)), (a_q1, .inr (5, [.ref a_q1_characters, .int s_q1_length_1])), (a_q1_characters, .inl (c_q1_characters, n_q1_characters, .inl e_q1_characters_2))] H := hP
  have hD : va_D A [(a_t, .inr (6, [.ref a_t_fixed, .ref a_t_decimal, .ref a_t_low, .ref a_t_high])), (a_t_decimal, .inr (0, [.ref a_t_decimal_digits, .int s_t_decimal_count, .int s_t_decimal_point])), (a_t_decimal_digits, .inl (c_t_decimal_digits, n_t_decimal_digits, .inl e_t_decimal_digits)), (a_q1, .inr (5, [.ref a_q1_characters, .int s_q1_length_1])), (a_q1_characters, .inl (c_q1_characters, n_q1_characters, .inl e_q1_characters_2))] := hD
  refine lv_iload_n hx hb d_Writer_addWithExponent_7 rfl (lv_at hl 2 rfl) ?_
  refine lv_iconst (v := 1) hx hb d_Writer_addWithExponent_8 (by decide) ?_
  replace h := xob_s h
  obtain ⟨⟨s_q1_length_4, e_q1_characters_5⟩, hj_6, h⟩ := h
  try dsimp only at h
  have hJ_7 : ∀ (H : Heap) (locs : List Loc) (ls : Array Slot), va_P (dC, dI) x_cl [(a_t, .inr (6, [.ref a_t_fixed, .ref a_t_decimal, .ref a_t_low, .ref a_t_high])), (a_t_decimal, .inr (0, [.ref a_t_decimal_digits, .int s_t_decimal_count, .int s_t_decimal_point])), (a_t_decimal_digits, .inl (c_t_decimal_digits, n_t_decimal_digits, .inl e_t_decimal_digits)), (a_q1, .inr (5, [.ref a_q1_characters, .int s_q1_length_4])), (a_q1_characters, .inl (c_q1_characters, n_q1_characters, .inl e_q1_characters_5))] H → va_D A [(a_t, .inr (6, [.ref a_t_fixed, .ref a_t_decimal, .ref a_t_low, .ref a_t_high])), (a_t_decimal, .inr (0, [.ref a_t_decimal_digits, .int s_t_decimal_count, .int s_t_decimal_point])), (a_t_decimal_digits, .inl (c_t_decimal_digits, n_t_decimal_digits, .inl e_t_decimal_digits)), (a_q1, .inr (5, [.ref a_q1_characters, .int s_q1_length_4])), (a_q1_characters, .inl (c_q1_characters, n_q1_characters, .inl e_q1_characters_5))] → va_S A s.heap H locs → lv_has ls 3 [(0, .ref a_t), (1, .ref a_q1)] → W p l e rm_Writer_addWithExponent s m args below meth c H locs 0 0 Q (F0 m 25 ls []) := by
    intro H locs ls hP hD hS hl
    refine lv_aload_n hx hb d_Writer_addWithExponent_25 rfl (lv_at hl 1 rfl) ?_
    refine lv_bipush (v := 101) hx hb d_Writer_addWithExponent_26 (by decide) ?_
    replace h := xob_s h
    obtain ⟨⟨s_q1_length_8, e_q1_characters_9⟩, hc_10, h⟩ := h
    try dsimp only at h
    refine xcV (As := [.int (101 : Int32)]) (rest := []) (st1 := []) (wr := [(a_t, .inr (6, [.ref a_t_fixed, .ref a_t_decimal, .ref a_t_low, .ref a_t_high])), (a_t_decimal, .inr (0, [.ref a_t_decimal_digits, .int s_t_decimal_count, .int s_t_decimal_point])), (a_t_decimal_digits, .inl (c_t_decimal_digits, n_t_decimal_digits, .inl e_t_decimal_digits))]) ⟨hx, hb, hml, hown, hts⟩ (c_Text_add l dC dI a_q1 a_q1_characters c_q1_characters n_q1_characters s_q1_length_4 e_q1_characters_5 (101 : Int32) s_q1_length_8 e_q1_characters_9 hc_10) (cwV 1 hts (xgoodV g_242 g_198 g_199 g_2 g_200) rfl rfl rfl (by decide +kernel) ⟨Nat.le_of_ble_eq_true rfl, Nat.le_of_ble_eq_true rfl⟩) hNz (ci := 5) (q0 := 3) rfl rfl hA hP hD hS hK [3, 4] [0, 1, 2] [1] rfl rfl rfl rfl (by decide) rfl rfl rfl rfl hl.1 (Nat.le_of_ble_eq_true rfl) ⟨Nat.zero_le _, Nat.zero_le _⟩ d_Writer_addWithExponent_28 (fun H locs hP hD hS => ?_)
    have hP : va_P (dC, dI) x_cl [(a_t, .inr (6, [.ref a_t_fixed, .ref a_t_decimal, .ref a_t_low, .ref a_t_high])), (a_t_decimal, .inr (0, [.ref a_t_decimal_digits, .int s_t_decimal_count, .int s_t_decimal_point])), (a_t_decimal_digits, .inl (c_t_decimal_digits, n_t_decimal_digits, .inl e_t_decimal_digits)), (a_q1, .inr (5, [.ref a_q1_characters, .int s_q1_length_8])), (a_q1_characters, .inl (c_q1_characters, n_q1_characters, .inl e_q1_characters_9))] H := hP
    have hD : va_D A [(a_t, .inr (6, [.ref a_t_fixed, .ref a_t_decimal, .ref a_t_low, .ref a_t_high])), (a_t_decimal, .inr (0, [.ref a_t_decimal_digits, .int s_t_decimal_count, .int s_t_decimal_point])), (a_t_decimal_digits, .inl (c_t_decimal_digits, n_t_decimal_digits, .inl e_t_decimal_digits)), (a_q1, .inr (5, [.ref a_q1_characters, .int s_q1_length_8])), (a_q1_characters, .inl (c_q1_characters, n_q1_characters, .inl e_q1_characters_9))] := hD
    refine lv_aload_n hx hb d_Writer_addWithExponent_31 rfl (lv_at hl 1 rfl) ?_
    refine lv_aload_n hx hb d_Writer_addWithExponent_32 rfl (lv_at hl 0 rfl) ?_
    refine va_get (D := (dC, dI)) (ci := 6) (v := .ref a_t_decimal) (C := R_Writer) (T := T_Writer) (N := 4) hx hb hts in_Writer hown hK hP 0 rfl rfl 1 (by decide) (hts _ g_124) (fun _ h9 => h9) rfl d_Writer_addWithExponent_33 ?_
    replace h := xob_s h
    obtain ⟨r_11, hc_12, h⟩ := h
    try dsimp only at h
    refine xcV (As := []) (rest := [.ref a_q1]) (st1 := [.int r_11, .ref a_q1]) (wr := [(a_t, .inr (6, [.ref a_t_fixed, .ref a_t_decimal, .ref a_t_low, .ref a_t_high])), (a_t_decimal_digits, .inl (c_t_decimal_digits, n_t_decimal_digits, .inl e_t_decimal_digits)), (a_q1, .inr (5, [.ref a_q1_characters, .int s_q1_length_8])), (a_q1_characters, .inl (c_q1_characters, n_q1_characters, .inl e_q1_characters_9))]) ⟨hx, hb, hml, hown, hts⟩ (c_Decimal_point l dC dI a_t_decimal a_t_decimal_digits s_t_decimal_count s_t_decimal_point r_11 hc_12) (cwV 0 hts (xgoodV g_337 g_338 g_339 g_6 g_340) rfl rfl rfl (by decide +kernel) ⟨Nat.le_of_ble_eq_true rfl, Nat.le_of_ble_eq_true rfl⟩) hNz (ci := 0) (q0 := 1) rfl rfl hA hP hD hS hK [1] [0, 2, 3, 4] [] rfl rfl rfl rfl (by decide) rfl rfl rfl rfl hl.1 (Nat.le_of_ble_eq_true rfl) ⟨Nat.zero_le _, Nat.zero_le _⟩ d_Writer_addWithExponent_36 (fun H locs hP hD hS => ?_)
    have hP : va_P (dC, dI) x_cl [(a_t, .inr (6, [.ref a_t_fixed, .ref a_t_decimal, .ref a_t_low, .ref a_t_high])), (a_t_decimal_digits, .inl (c_t_decimal_digits, n_t_decimal_digits, .inl e_t_decimal_digits)), (a_q1, .inr (5, [.ref a_q1_characters, .int s_q1_length_8])), (a_q1_characters, .inl (c_q1_characters, n_q1_characters, .inl e_q1_characters_9)), (a_t_decimal, .inr (0, [.ref a_t_decimal_digits, .int s_t_decimal_count, .int s_t_decimal_point]))] H := hP
    have hD : va_D A [(a_t, .inr (6, [.ref a_t_fixed, .ref a_t_decimal, .ref a_t_low, .ref a_t_high])), (a_t_decimal_digits, .inl (c_t_decimal_digits, n_t_decimal_digits, .inl e_t_decimal_digits)), (a_q1, .inr (5, [.ref a_q1_characters, .int s_q1_length_8])), (a_q1_characters, .inl (c_q1_characters, n_q1_characters, .inl e_q1_characters_9)), (a_t_decimal, .inr (0, [.ref a_t_decimal_digits, .int s_t_decimal_count, .int s_t_decimal_point]))] := hD
    refine lv_iconst (v := 1) hx hb d_Writer_addWithExponent_39 (by decide) ?_
    refine lv_isub hx hb d_Writer_addWithExponent_40 ?_
    replace h := xob_s h
    obtain ⟨⟨s_q1_length_13, e_q1_characters_14⟩, hc_15, h⟩ := h
    try dsimp only at h
    refine xcV (As := [.int (r_11 - (1 : Int32))]) (rest := []) (st1 := []) (wr := [(a_t, .inr (6, [.ref a_t_fixed, .ref a_t_decimal, .ref a_t_low, .ref a_t_high])), (a_t_decimal_digits, .inl (c_t_decimal_digits, n_t_decimal_digits, .inl e_t_decimal_digits)), (a_t_decimal, .inr (0, [.ref a_t_decimal_digits, .int s_t_decimal_count, .int s_t_decimal_point]))]) ⟨hx, hb, hml, hown, hts⟩ (c_Text_addNumber l dC dI a_q1 a_q1_characters c_q1_characters n_q1_characters s_q1_length_8 e_q1_characters_9 (r_11 - (1 : Int32)) s_q1_length_13 e_q1_characters_14 hc_15) (cwV 1 hts (xgoodV g_390 g_391 g_392 g_2 g_393) rfl rfl rfl (by decide +kernel) ⟨Nat.le_of_ble_eq_true rfl, Nat.le_of_ble_eq_true rfl⟩) hNz (ci := 5) (q0 := 2) rfl rfl hA hP hD hS hK [2, 3] [0, 1, 4] [1] rfl rfl rfl rfl (by decide) rfl rfl rfl rfl hl.1 (Nat.le_of_ble_eq_true rfl) ⟨Nat.zero_le _, Nat.zero_le _⟩ d_Writer_addWithExponent_41 (fun H locs hP hD hS => ?_)
    have hP : va_P (dC, dI) x_cl [(a_t, .inr (6, [.ref a_t_fixed, .ref a_t_decimal, .ref a_t_low, .ref a_t_high])), (a_t_decimal_digits, .inl (c_t_decimal_digits, n_t_decimal_digits, .inl e_t_decimal_digits)), (a_t_decimal, .inr (0, [.ref a_t_decimal_digits, .int s_t_decimal_count, .int s_t_decimal_point])), (a_q1, .inr (5, [.ref a_q1_characters, .int s_q1_length_13])), (a_q1_characters, .inl (c_q1_characters, n_q1_characters, .inl e_q1_characters_14))] H := hP
    have hD : va_D A [(a_t, .inr (6, [.ref a_t_fixed, .ref a_t_decimal, .ref a_t_low, .ref a_t_high])), (a_t_decimal_digits, .inl (c_t_decimal_digits, n_t_decimal_digits, .inl e_t_decimal_digits)), (a_t_decimal, .inr (0, [.ref a_t_decimal_digits, .int s_t_decimal_count, .int s_t_decimal_point])), (a_q1, .inr (5, [.ref a_q1_characters, .int s_q1_length_13])), (a_q1_characters, .inl (c_q1_characters, n_q1_characters, .inl e_q1_characters_14))] := hD
    replace h := Option.some.inj h
    replace h := Prod.mk.inj h
    obtain ⟨h1, h⟩ := h
    subst h1
    subst h
    exact hret _ _ (hP.sub [0, 2, 1, 3, 4] rfl) (hD.sub [0, 2, 1, 3, 4] (by decide) rfl) hS _ _ d_Writer_addWithExponent_44
  replace h := hj_6
  clear hj_6
  refine lv_icmp_le (tgt := 25) hx hb d_Writer_addWithExponent_9 (by decide) (fun c_16 => ?_) (fun c_16 => ?_)
  · rw [if_pos c_16] at h
    replace h := Option.some.inj h
    replace h := Prod.mk.inj h
    obtain ⟨h1, h⟩ := h
    subst h1
    subst h
    exact hJ_7 _ _ _ hP hD hS (lv_sub hl [0, 1] rfl)
  · rw [if_neg c_16] at h
    refine lv_aload_n hx hb d_Writer_addWithExponent_12 rfl (lv_at hl 1 rfl) ?_
    refine lv_bipush (v := 46) hx hb d_Writer_addWithExponent_13 (by decide) ?_
    replace h := xob_s h
    obtain ⟨⟨s_q1_length_17, e_q1_characters_18⟩, hc_19, h⟩ := h
    try dsimp only at h
    refine xcV (As := [.int (46 : Int32)]) (rest := []) (st1 := []) (wr := [(a_t, .inr (6, [.ref a_t_fixed, .ref a_t_decimal, .ref a_t_low, .ref a_t_high])), (a_t_decimal, .inr (0, [.ref a_t_decimal_digits, .int s_t_decimal_count, .int s_t_decimal_point])), (a_t_decimal_digits, .inl (c_t_decimal_digits, n_t_decimal_digits, .inl e_t_decimal_digits))]) ⟨hx, hb, hml, hown, hts⟩ (c_Text_add l dC dI a_q1 a_q1_characters c_q1_characters n_q1_characters s_q1_length_1 e_q1_characters_2 (46 : Int32) s_q1_length_17 e_q1_characters_18 hc_19) (cwV 1 hts (xgoodV g_242 g_198 g_199 g_2 g_200) rfl rfl rfl (by decide +kernel) ⟨Nat.le_of_ble_eq_true rfl, Nat.le_of_ble_eq_true rfl⟩) hNz (ci := 5) (q0 := 3) rfl rfl hA hP hD hS hK [3, 4] [0, 1, 2] [1] rfl rfl rfl rfl (by decide) rfl rfl rfl rfl hl.1 (Nat.le_of_ble_eq_true rfl) ⟨Nat.zero_le _, Nat.zero_le _⟩ d_Writer_addWithExponent_15 (fun H locs hP hD hS => ?_)
    have hP : va_P (dC, dI) x_cl [(a_t, .inr (6, [.ref a_t_fixed, .ref a_t_decimal, .ref a_t_low, .ref a_t_high])), (a_t_decimal, .inr (0, [.ref a_t_decimal_digits, .int s_t_decimal_count, .int s_t_decimal_point])), (a_t_decimal_digits, .inl (c_t_decimal_digits, n_t_decimal_digits, .inl e_t_decimal_digits)), (a_q1, .inr (5, [.ref a_q1_characters, .int s_q1_length_17])), (a_q1_characters, .inl (c_q1_characters, n_q1_characters, .inl e_q1_characters_18))] H := hP
    have hD : va_D A [(a_t, .inr (6, [.ref a_t_fixed, .ref a_t_decimal, .ref a_t_low, .ref a_t_high])), (a_t_decimal, .inr (0, [.ref a_t_decimal_digits, .int s_t_decimal_count, .int s_t_decimal_point])), (a_t_decimal_digits, .inl (c_t_decimal_digits, n_t_decimal_digits, .inl e_t_decimal_digits)), (a_q1, .inr (5, [.ref a_q1_characters, .int s_q1_length_17])), (a_q1_characters, .inl (c_q1_characters, n_q1_characters, .inl e_q1_characters_18))] := hD
    refine lv_aload_n hx hb d_Writer_addWithExponent_18 rfl (lv_at hl 0 rfl) ?_
    refine lv_aload_n hx hb d_Writer_addWithExponent_19 rfl (lv_at hl 1 rfl) ?_
    refine lv_iconst (v := 1) hx hb d_Writer_addWithExponent_20 (by decide) ?_
    refine lv_iload_n hx hb d_Writer_addWithExponent_21 rfl (lv_at hl 2 rfl) ?_
    replace h := xob_s h
    obtain ⟨⟨s_q1_length_20, e_q1_characters_21⟩, hc_22, h⟩ := h
    try dsimp only at h
    refine xcV (As := [.ref a_q1, .int (1 : Int32), .int x2]) (rest := []) (st1 := []) (wr := []) ⟨hx, hb, hml, hown, hts⟩ (c_Writer_addDigits l dC dI a_t a_q1 a_t_fixed a_t_decimal a_t_low a_t_high a_t_decimal_digits a_q1_characters c_t_decimal_digits c_q1_characters n_t_decimal_digits n_q1_characters s_t_decimal_count s_t_decimal_point e_t_decimal_digits s_q1_length_17 e_q1_characters_18 (1 : Int32) x2 s_q1_length_20 e_q1_characters_21 hc_22) (cwV 3 hts (xgoodV g_381 g_383 gp_9 g_8 g_384) rfl rfl rfl (by decide +kernel) ⟨Nat.le_of_ble_eq_true rfl, Nat.le_of_ble_eq_true rfl⟩) hNz (ci := 6) (q0 := 0) rfl rfl hA hP hD hS hK [0, 1, 2, 3, 4] [] [0, 1] rfl rfl rfl rfl (by decide) rfl rfl rfl rfl hl.1 (Nat.le_of_ble_eq_true rfl) ⟨Nat.zero_le _, Nat.zero_le _⟩ d_Writer_addWithExponent_22 (fun H locs hP hD hS => ?_)
    have hP : va_P (dC, dI) x_cl [(a_t, .inr (6, [.ref a_t_fixed, .ref a_t_decimal, .ref a_t_low, .ref a_t_high])), (a_t_decimal, .inr (0, [.ref a_t_decimal_digits, .int s_t_decimal_count, .int s_t_decimal_point])), (a_t_decimal_digits, .inl (c_t_decimal_digits, n_t_decimal_digits, .inl e_t_decimal_digits)), (a_q1, .inr (5, [.ref a_q1_characters, .int s_q1_length_20])), (a_q1_characters, .inl (c_q1_characters, n_q1_characters, .inl e_q1_characters_21))] H := hP
    have hD : va_D A [(a_t, .inr (6, [.ref a_t_fixed, .ref a_t_decimal, .ref a_t_low, .ref a_t_high])), (a_t_decimal, .inr (0, [.ref a_t_decimal_digits, .int s_t_decimal_count, .int s_t_decimal_point])), (a_t_decimal_digits, .inl (c_t_decimal_digits, n_t_decimal_digits, .inl e_t_decimal_digits)), (a_q1, .inr (5, [.ref a_q1_characters, .int s_q1_length_20])), (a_q1_characters, .inl (c_q1_characters, n_q1_characters, .inl e_q1_characters_21))] := hD
    replace h := Option.some.inj h
    replace h := Prod.mk.inj h
    obtain ⟨h1, h⟩ := h
    subst h1
    subst h
    exact hJ_7 _ _ _ hP hD hS (lv_sub hl [0, 1] rfl)
