def f_Md_exponent (x0 : Int64) : Option (Int32) :=
  some ((((x0.toUInt64 >>> ((52 : Int32).toInt64.toUInt64 &&& Int64.toUInt64 63)).toInt64) &&& (2047 : Int64)).toInt32)
def rm_Md_exponent : Room := { frames := 0, cells := 0, slots := 0, locals := 0 }
set_option maxHeartbeats 4000000 in
set_option maxRecDepth 100000 in
theorem c_Md_exponent (l : Launch) (dC : Nat → ClassId) (dI : Nat → Nat → Nat) (x0 : Int64) (r_ : Int32) (h : f_Md_exponent x0 = some r_) : xM l y_Md_exponent (Cond.code y_Md_exponent b_Md_exponent 2 (some .int) :: xG) rm_Md_exponent (dC, dI) x_cl x_nz [.long x0] [] [] (some (.int r_)) [] := by
  unfold f_Md_exponent at h
  refine xM.mkI (cc := b_Md_exponent) (maxL := 2)  (by decide +kernel) rfl (Nat.le_of_ble_eq_true rfl) ?_
  intro p e s m args below meth c A Q ls hx hb hml hown hts hNz hA hP hD hK hl hret
  have hS : va_S A s.heap s.heap [] := va_S.rf
  have hl : lv_has ls 2 [(0, .long x0)] := hl
  refine lv_lload_n hx hb d_Md_exponent_0 rfl (lv_at hl 0 rfl) ?_
  refine lv_bipush (v := 52) hx hb d_Md_exponent_1 (by decide) ?_
  refine lv_lushr hx hb d_Md_exponent_3 rfl ?_
  refine lv_ldc2 (v := 2047) hx hb hown (hts _ g_817) d_Md_exponent_4 ?_
  refine lv_land hx hb d_Md_exponent_7 ?_
  refine lv_l2i hx hb d_Md_exponent_8 rfl ?_
  replace h := Option.some.inj h
  subst h
  exact hret _ _ hP hD hS _ _ d_Md_exponent_9
def f_Md_mantissa (x0 : Int64) : Option (Int64) :=
  xnm (x0 &&& (4503599627370495 : Int64)) fun x2_1 => xob (f_Md_exponent x0) fun r_2 => if r_2 = 0 then (some x2_1) else (some (x2_1 + (4503599627370496 : Int64)))
def rm_Md_mantissa : Room := { frames := 1, cells := 0, slots := 0, locals := 21 }
set_option maxHeartbeats 4000000 in
set_option maxRecDepth 100000 in
theorem c_Md_mantissa (l : Launch) (dC : Nat → ClassId) (dI : Nat → Nat → Nat) (x0 : Int64) (r_ : Int64) (h : f_Md_mantissa x0 = some r_) : xM l y_Md_mantissa (Cond.code y_Md_mantissa b_Md_mantissa 4 (some .long) :: xG) rm_Md_mantissa (dC, dI) x_cl x_nz [.long x0] [] [] (some (.long r_)) [] := by
  unfold f_Md_mantissa at h
  refine xM.mkL (cc := b_Md_mantissa) (maxL := 4)  (by decide +kernel) rfl (Nat.le_of_ble_eq_true rfl) ?_
  intro p e s m args below meth c A Q ls hx hb hml hown hts hNz hA hP hD hK hl hret
  have hS : va_S A s.heap s.heap [] := va_S.rf
  have hl : lv_has ls 4 [(0, .long x0)] := hl
  refine lv_lload_n hx hb d_Md_mantissa_0 rfl (lv_at hl 0 rfl) ?_
  refine lv_ldc2 (v := 4503599627370495) hx hb hown (hts _ g_813) d_Md_mantissa_1 ?_
  refine lv_land hx hb d_Md_mantissa_4 ?_
  replace h := xnm_s h
  obtain ⟨x2_1, ex2_1, h⟩ := h
  refine x_topl ex2_1 ?_
  refine lv_lstore_n (lv' := [(2, .long x2_1), (0, .long x0)]) hx hb d_Md_mantissa_5 rfl hl (by decide) rfl (fun ls hl => ?_)
  refine lv_lload_n hx hb d_Md_mantissa_6 rfl (lv_at hl 1 rfl) ?_
  replace h := xob_s h
  obtain ⟨r_2, hc_3, h⟩ := h
  try dsimp only at h
  refine xcS (As := [.long x0]) (rest := []) (st1 := [.int r_2]) (wr := []) ⟨hx, hb, hml, hown, hts⟩ (c_Md_exponent l dC dI x0 r_2 hc_3) (⟨callB_of 1 hts (xgood g_816) rfl rfl rfl (hts _ g_10) (hts _ g_814) (by decide +kernel) ⟨Nat.le_of_ble_eq_true rfl, Nat.le_of_ble_eq_true rfl⟩, (hts _ g_815)⟩) hNz hA hP hD hS hK [] [] [] rfl rfl rfl rfl (by decide) rfl rfl rfl rfl hl.1 (Nat.le_of_ble_eq_true rfl) ⟨Nat.zero_le _, Nat.zero_le _⟩ d_Md_mantissa_7 (fun H locs hP hD hS => ?_)
  have hP : va_P (dC, dI) x_cl [] H := hP
  have hD : va_D A [] := hD
  refine lv_if_ne (tgt := 17) hx hb d_Md_mantissa_10 (by decide) (fun c_4 => ?_) (fun c_4 => ?_)
  · rw [if_neg c_4] at h
    refine lv_lload_n hx hb d_Md_mantissa_17 rfl (lv_at hl 0 rfl) ?_
    refine lv_ldc2 (v := 4503599627370496) hx hb hown (hts _ g_818) d_Md_mantissa_18 ?_
    refine lv_ladd hx hb d_Md_mantissa_21 ?_
    replace h := Option.some.inj h
    subst h
    exact hret _ _ hP hD hS _ _ d_Md_mantissa_22
  · rw [if_pos c_4] at h
    refine lv_lload_n hx hb d_Md_mantissa_13 rfl (lv_at hl 0 rfl) ?_
    refine lv_goto (tgt := 22) hx hb d_Md_mantissa_14 (by decide) ?_
    replace h := Option.some.inj h
    subst h
    exact hret _ _ hP hD hS _ _ d_Md_mantissa_22
def f_Md_power (x0 : Int64) : Option (Int32) :=
  xob (f_Md_exponent x0) fun r_1 => if r_1 = 0 then (some (-1074 : Int32)) else (xob (f_Md_exponent x0) fun r_4 => some (r_4 - (1075 : Int32)))
def rm_Md_power : Room := { frames := 1, cells := 0, slots := 0, locals := 21 }
set_option maxHeartbeats 4000000 in
set_option maxRecDepth 100000 in
theorem c_Md_power (l : Launch) (dC : Nat → ClassId) (dI : Nat → Nat → Nat) (x0 : Int64) (r_ : Int32) (h : f_Md_power x0 = some r_) : xM l y_Md_power (Cond.code y_Md_power b_Md_power 2 (some .int) :: xG) rm_Md_power (dC, dI) x_cl x_nz [.long x0] [] [] (some (.int r_)) [] := by
  unfold f_Md_power at h
  refine xM.mkI (cc := b_Md_power) (maxL := 2)  (by decide +kernel) rfl (Nat.le_of_ble_eq_true rfl) ?_
  intro p e s m args below meth c A Q ls hx hb hml hown hts hNz hA hP hD hK hl hret
  have hS : va_S A s.heap s.heap [] := va_S.rf
  have hl : lv_has ls 2 [(0, .long x0)] := hl
  refine lv_lload_n hx hb d_Md_power_0 rfl (lv_at hl 0 rfl) ?_
  replace h := xob_s h
  obtain ⟨r_1, hc_2, h⟩ := h
  try dsimp only at h
  refine xcS (As := [.long x0]) (rest := []) (st1 := [.int r_1]) (wr := []) ⟨hx, hb, hml, hown, hts⟩ (c_Md_exponent l dC dI x0 r_1 hc_2) (⟨callB_of 1 hts (xgood g_816) rfl rfl rfl (hts _ g_10) (hts _ g_814) (by decide +kernel) ⟨Nat.le_of_ble_eq_true rfl, Nat.le_of_ble_eq_true rfl⟩, (hts _ g_815)⟩) hNz hA hP hD hS hK [] [] [] rfl rfl rfl rfl (by decide) rfl rfl rfl rfl hl.1 (Nat.le_of_ble_eq_true rfl) ⟨Nat.zero_le _, Nat.zero_le _⟩ d_Md_power_1 (fun H locs hP hD hS => ?_)
  have hP : va_P (dC, dI) x_cl [] H := hP
  have hD : va_D A [] := hD
  refine lv_if_ne (tgt := 13) hx hb d_Md_power_4 (by decide) (fun c_3 => ?_) (fun c_3 => ?_)
  · rw [if_neg c_3] at h
    refine lv_lload_n hx hb d_Md_power_13 rfl (lv_at hl 0 rfl) ?_
    replace h := xob_s h
    obtain ⟨r_4, hc_5, h⟩ := h
    try dsimp only at h
    refine xcS (As := [.long x0]) (rest := []) (st1 := [.int r_4]) (wr := []) ⟨hx, hb, hml, hown, hts⟩ (c_Md_exponent l dC dI x0 r_4 hc_5) (⟨callB_of 1 hts (xgood g_816) rfl rfl rfl (hts _ g_10) (hts _ g_814) (by decide +kernel) ⟨Nat.le_of_ble_eq_true rfl, Nat.le_of_ble_eq_true rfl⟩, (hts _ g_815)⟩) hNz hA hP hD hS hK [] [] [] rfl rfl rfl rfl (by decide) rfl rfl rfl rfl hl.1 (Nat.le_of_ble_eq_true rfl) ⟨Nat.zero_le _, Nat.zero_le _⟩ d_Md_power_14 (fun H locs hP hD hS => ?_)
    have hP : va_P (dC, dI) x_cl [] H := hP
    have hD : va_D A [] := hD
    refine lv_sipush (v := 1075) hx hb d_Md_power_17 (by decide) ?_
    refine lv_isub hx hb d_Md_power_20 ?_
    replace h := Option.some.inj h
    subst h
    exact hret _ _ hP hD hS _ _ d_Md_power_21
  · rw [if_pos c_3] at h
    refine lv_sipush (v := -1074) hx hb d_Md_power_7 (by decide) ?_
    refine lv_goto (tgt := 21) hx hb d_Md_power_10 (by decide) ?_
    replace h := Option.some.inj h
    subst h
    exact hret _ _ hP hD hS _ _ d_Md_power_21
def f_Md_value (n_t_digits : Nat) (n_t_counts : Nat) (n_t_points : Nat) (n_t_limbs : Nat) (s_t_thrown : Int32) (s_t_length : Int32) (s_t_place : Int32) (s_t_limbCount : Int32) (s_t_rows : Int32) (s_t_columns : Int32) (s_t_laid : Int32) (s_t_size : Int32) (e_t_digits : Nat → Int32) (e_t_counts : Nat → Int32) (e_t_points : Nat → Int32) (e_t_limbs : Nat → Int32) (x1 : Int32) (x2 : Int64) : Option (Int32 × (Nat → Int32) × (Nat → Int32) × (Nat → Int32) × (Nat → Int32)) :=
  xob (f_Md_mantissa x2) fun r_1 => xob (f_Md_power x2) fun r_3 => xob (f_Md_expand n_t_digits n_t_counts n_t_points n_t_limbs s_t_thrown s_t_length s_t_place s_t_limbCount s_t_rows s_t_columns s_t_laid s_t_size e_t_digits e_t_counts e_t_points e_t_limbs x1 r_1 r_3) fun (s_t_limbCount_5, e_t_digits_6, e_t_counts_7, e_t_points_8, e_t_limbs_9) => some (s_t_limbCount_5, e_t_digits_6, e_t_counts_7, e_t_points_8, e_t_limbs_9)
def rm_Md_value : Room := { frames := 3, cells := 0, slots := 0, locals := 81 }
set_option maxHeartbeats 4000000 in
set_option maxRecDepth 100000 in
theorem c_Md_value (l : Launch) (dC : Nat → ClassId) (dI : Nat → Nat → Nat) (a_t a_t_text a_t_digits a_t_counts a_t_points a_t_limbs a_t_cells a_t_lines a_t_draft : Nat) (c_t_digits c_t_counts c_t_points c_t_limbs : ClassId) (n_t_digits : Nat) (n_t_counts : Nat) (n_t_points : Nat) (n_t_limbs : Nat) (s_t_thrown : Int32) (s_t_length : Int32) (s_t_place : Int32) (s_t_limbCount : Int32) (s_t_rows : Int32) (s_t_columns : Int32) (s_t_laid : Int32) (s_t_size : Int32) (e_t_digits : Nat → Int32) (e_t_counts : Nat → Int32) (e_t_points : Nat → Int32) (e_t_limbs : Nat → Int32) (x1 : Int32) (x2 : Int64) (s_t_limbCount_o : Int32) (e_t_digits_o : Nat → Int32) (e_t_counts_o : Nat → Int32) (e_t_points_o : Nat → Int32) (e_t_limbs_o : Nat → Int32) (h : f_Md_value n_t_digits n_t_counts n_t_points n_t_limbs s_t_thrown s_t_length s_t_place s_t_limbCount s_t_rows s_t_columns s_t_laid s_t_size e_t_digits e_t_counts e_t_points e_t_limbs x1 x2 = some (s_t_limbCount_o, e_t_digits_o, e_t_counts_o, e_t_points_o, e_t_limbs_o)) : xM l y_Md_value (Cond.code y_Md_value b_Md_value 4 none :: xG) rm_Md_value (dC, dI) x_cl x_nz [.ref a_t, .int x1, .long x2] [(c_t_digits, .int), (c_t_counts, .int), (c_t_points, .int), (c_t_limbs, .int)] [(a_t, .inr (8, [.int s_t_thrown, .int s_t_length, .ref a_t_text, .int s_t_place, .ref a_t_digits, .ref a_t_counts, .ref a_t_points, .ref a_t_limbs, .int s_t_limbCount, .int s_t_rows, .int s_t_columns, .ref a_t_cells, .int s_t_laid, .ref a_t_lines, .int s_t_size, .ref a_t_draft])), (a_t_digits, .inl (c_t_digits, n_t_digits, .inl e_t_digits)), (a_t_counts, .inl (c_t_counts, n_t_counts, .inl e_t_counts)), (a_t_points, .inl (c_t_points, n_t_points, .inl e_t_points)), (a_t_limbs, .inl (c_t_limbs, n_t_limbs, .inl e_t_limbs))] none [(a_t, .inr (8, [.int s_t_thrown, .int s_t_length, .ref a_t_text, .int s_t_place, .ref a_t_digits, .ref a_t_counts, .ref a_t_points, .ref a_t_limbs, .int s_t_limbCount_o, .int s_t_rows, .int s_t_columns, .ref a_t_cells, .int s_t_laid, .ref a_t_lines, .int s_t_size, .ref a_t_draft])), (a_t_digits, .inl (c_t_digits, n_t_digits, .inl e_t_digits_o)), (a_t_counts, .inl (c_t_counts, n_t_counts, .inl e_t_counts_o)), (a_t_points, .inl (c_t_points, n_t_points, .inl e_t_points_o)), (a_t_limbs, .inl (c_t_limbs, n_t_limbs, .inl e_t_limbs_o))] := by
  unfold f_Md_value at h
  refine xM.mkV (cc := b_Md_value) (maxL := 4)  (by decide +kernel) rfl (Nat.le_of_ble_eq_true rfl) ?_
  intro p e s m args below meth c A Q ls hx hb hml hown hts hNz hA hP hD hK hl hret
  have hS : va_S A s.heap s.heap [] := va_S.rf
  have hl : lv_has ls 4 [(0, .ref a_t), (1, .int x1), (2, .long x2)] := hl
  refine lv_aload_n hx hb d_Md_value_0 rfl (lv_at hl 0 rfl) ?_
  refine lv_iload_n hx hb d_Md_value_1 rfl (lv_at hl 1 rfl) ?_
  refine lv_lload_n hx hb d_Md_value_2 rfl (lv_at hl 2 rfl) ?_
  replace h := xob_s h
  obtain ⟨r_1, hc_2, h⟩ := h
  try dsimp only at h
  refine xcS (As := [.long x2]) (rest := [.int x1, .ref a_t]) (st1 := [.long r_1, .int x1, .ref a_t]) (wr := [(a_t, .inr (8, [.int s_t_thrown, .int s_t_length, .ref a_t_text, .int s_t_place, .ref a_t_digits, .ref a_t_counts, .ref a_t_points, .ref a_t_limbs, .int s_t_limbCount, .int s_t_rows, .int s_t_columns, .ref a_t_cells, .int s_t_laid, .ref a_t_lines, .int s_t_size, .ref a_t_draft])), (a_t_digits, .inl (c_t_digits, n_t_digits, .inl e_t_digits)), (a_t_counts, .inl (c_t_counts, n_t_counts, .inl e_t_counts)), (a_t_points, .inl (c_t_points, n_t_points, .inl e_t_points)), (a_t_limbs, .inl (c_t_limbs, n_t_limbs, .inl e_t_limbs))]) ⟨hx, hb, hml, hown, hts⟩ (c_Md_mantissa l dC dI x2 r_1 hc_2) (⟨callB_of 1 hts (xgood g_812) rfl rfl rfl (hts _ g_10) (hts _ g_810) (by decide +kernel) ⟨Nat.le_of_ble_eq_true rfl, Nat.le_of_ble_eq_true rfl⟩, (hts _ g_811)⟩) hNz hA hP hD hS hK [] [0, 1, 2, 3, 4] [] rfl rfl rfl rfl (by decide) rfl rfl rfl rfl hl.1 (Nat.le_of_ble_eq_true rfl) ⟨Nat.zero_le _, Nat.zero_le _⟩ d_Md_value_3 (fun H locs hP hD hS => ?_)
  have hP : va_P (dC, dI) x_cl [(a_t, .inr (8, [.int s_t_thrown, .int s_t_length, .ref a_t_text, .int s_t_place, .ref a_t_digits, .ref a_t_counts, .ref a_t_points, .ref a_t_limbs, .int s_t_limbCount, .int s_t_rows, .int s_t_columns, .ref a_t_cells, .int s_t_laid, .ref a_t_lines, .int s_t_size, .ref a_t_draft])), (a_t_digits, .inl (c_t_digits, n_t_digits, .inl e_t_digits)), (a_t_counts, .inl (c_t_counts, n_t_counts, .inl e_t_counts)), (a_t_points, .inl (c_t_points, n_t_points, .inl e_t_points)), (a_t_limbs, .inl (c_t_limbs, n_t_limbs, .inl e_t_limbs))] H := hP
  have hD : va_D A [(a_t, .inr (8, [.int s_t_thrown, .int s_t_length, .ref a_t_text, .int s_t_place, .ref a_t_digits, .ref a_t_counts, .ref a_t_points, .ref a_t_limbs, .int s_t_limbCount, .int s_t_rows, .int s_t_columns, .ref a_t_cells, .int s_t_laid, .ref a_t_lines, .int s_t_size, .ref a_t_draft])), (a_t_digits, .inl (c_t_digits, n_t_digits, .inl e_t_digits)), (a_t_counts, .inl (c_t_counts, n_t_counts, .inl e_t_counts)), (a_t_points, .inl (c_t_points, n_t_points, .inl e_t_points)), (a_t_limbs, .inl (c_t_limbs, n_t_limbs, .inl e_t_limbs))] := hD
  refine lv_lload_n hx hb d_Md_value_6 rfl (lv_at hl 2 rfl) ?_
  replace h := xob_s h
  obtain ⟨r_3, hc_4, h⟩ := h
  try dsimp only at h
  refine xcS (As := [.long x2]) (rest := [.long r_1, .int x1, .ref a_t]) (st1 := [.int r_3, .long r_1, .int x1, .ref a_t]) (wr := [(a_t, .inr (8, [.int s_t_thrown, .int s_t_length, .ref a_t_text, .int s_t_place, .ref a_t_digits, .ref a_t_counts, .ref a_t_points, .ref a_t_limbs, .int s_t_limbCount, .int s_t_rows, .int s_t_columns, .ref a_t_cells, .int s_t_laid, .ref a_t_lines, .int s_t_size, .ref a_t_draft])), (a_t_digits, .inl (c_t_digits, n_t_digits, .inl e_t_digits)), (a_t_counts, .inl (c_t_counts, n_t_counts, .inl e_t_counts)), (a_t_points, .inl (c_t_points, n_t_points, .inl e_t_points)), (a_t_limbs, .inl (c_t_limbs, n_t_limbs, .inl e_t_limbs))]) ⟨hx, hb, hml, hown, hts⟩ (c_Md_power l dC dI x2 r_3 hc_4) (⟨callB_of 1 hts (xgood g_821) rfl rfl rfl (hts _ g_10) (hts _ g_819) (by decide +kernel) ⟨Nat.le_of_ble_eq_true rfl, Nat.le_of_ble_eq_true rfl⟩, (hts _ g_820)⟩) hNz hA hP hD hS hK [] [0, 1, 2, 3, 4] [] rfl rfl rfl rfl (by decide) rfl rfl rfl rfl hl.1 (Nat.le_of_ble_eq_true rfl) ⟨Nat.zero_le _, Nat.zero_le _⟩ d_Md_value_7 (fun H locs hP hD hS => ?_)
  have hP : va_P (dC, dI) x_cl [(a_t, .inr (8, [.int s_t_thrown, .int s_t_length, .ref a_t_text, .int s_t_place, .ref a_t_digits, .ref a_t_counts, .ref a_t_points, .ref a_t_limbs, .int s_t_limbCount, .int s_t_rows, .int s_t_columns, .ref a_t_cells, .int s_t_laid, .ref a_t_lines, .int s_t_size, .ref a_t_draft])), (a_t_digits, .inl (c_t_digits, n_t_digits, .inl e_t_digits)), (a_t_counts, .inl (c_t_counts, n_t_counts, .inl e_t_counts)), (a_t_points, .inl (c_t_points, n_t_points, .inl e_t_points)), (a_t_limbs, .inl (c_t_limbs, n_t_limbs, .inl e_t_limbs))] H := hP
  have hD : va_D A [(a_t, .inr (8, [.int s_t_thrown, .int s_t_length, .ref a_t_text, .int s_t_place, .ref a_t_digits, .ref a_t_counts, .ref a_t_points, .ref a_t_limbs, .int s_t_limbCount, .int s_t_rows, .int s_t_columns, .ref a_t_cells, .int s_t_laid, .ref a_t_lines, .int s_t_size, .ref a_t_draft])), (a_t_digits, .inl (c_t_digits, n_t_digits, .inl e_t_digits)), (a_t_counts, .inl (c_t_counts, n_t_counts, .inl e_t_counts)), (a_t_points, .inl (c_t_points, n_t_points, .inl e_t_points)), (a_t_limbs, .inl (c_t_limbs, n_t_limbs, .inl e_t_limbs))] := hD
  replace h := xob_s h
  obtain ⟨⟨s_t_limbCount_5, e_t_digits_6, e_t_counts_7, e_t_points_8, e_t_limbs_9⟩, hc_10, h⟩ := h
  try dsimp only at h
  refine xcV (As := [.int x1, .long r_1, .int r_3]) (rest := []) (st1 := []) (wr := []) ⟨hx, hb, hml, hown, hts⟩ (c_Md_expand l dC dI a_t a_t_text a_t_digits a_t_counts a_t_points a_t_limbs a_t_cells a_t_lines a_t_draft c_t_digits c_t_counts c_t_points c_t_limbs n_t_digits n_t_counts n_t_points n_t_limbs s_t_thrown s_t_length s_t_place s_t_limbCount s_t_rows s_t_columns s_t_laid s_t_size e_t_digits e_t_counts e_t_points e_t_limbs x1 r_1 r_3 s_t_limbCount_5 e_t_digits_6 e_t_counts_7 e_t_points_8 e_t_limbs_9 hc_10) (cwV 3 hts (xgoodV g_822 g_824 gp_26 g_10 g_825) rfl rfl rfl (by decide +kernel) ⟨Nat.le_of_ble_eq_true rfl, Nat.le_of_ble_eq_true rfl⟩) hNz (ci := 8) (q0 := 0) rfl rfl hA hP hD hS hK [0, 1, 2, 3, 4] [] [0, 1, 2, 3] rfl rfl rfl rfl (by decide) rfl rfl rfl rfl hl.1 (Nat.le_of_ble_eq_true rfl) ⟨Nat.zero_le _, Nat.zero_le _⟩ d_Md_value_10 (fun H locs hP hD hS => ?_)
  have hP : va_P (dC, dI) x_cl [(a_t, .inr (8, [.int s_t_thrown, .int s_t_length, .ref a_t_text, .int s_t_place, .ref a_t_digits, .ref a_t_counts, .ref a_t_points, .ref a_t_limbs, .int s_t_limbCount_5, .int s_t_rows, .int s_t_columns, .ref a_t_cells, .int s_t_laid, .ref a_t_lines, .int s_t_size, .ref a_t_draft])), (a_t_digits, .inl (c_t_digits, n_t_digits, .inl e_t_digits_6)), (a_t_counts, .inl (c_t_counts, n_t_counts, .inl e_t_counts_7)), (a_t_points, .inl (c_t_points, n_t_points, .inl e_t_points_8)), (a_t_limbs, .inl (c_t_limbs, n_t_limbs, .inl e_t_limbs_9))] H := hP
  have hD : va_D A [(a_t, .inr (8, [.int s_t_thrown, .int s_t_length, .ref a_t_text, .int s_t_place, .ref a_t_digits, .ref a_t_counts, .ref a_t_points, .ref a_t_limbs, .int s_t_limbCount_5, .int s_t_rows, .int s_t_columns, .ref a_t_cells, .int s_t_laid, .ref a_t_lines, .int s_t_size, .ref a_t_draft])), (a_t_digits, .inl (c_t_digits, n_t_digits, .inl e_t_digits_6)), (a_t_counts, .inl (c_t_counts, n_t_counts, .inl e_t_counts_7)), (a_t_points, .inl (c_t_points, n_t_points, .inl e_t_points_8)), (a_t_limbs, .inl (c_t_limbs, n_t_limbs, .inl e_t_limbs_9))] := hD
  replace h := Option.some.inj h
  replace h := Prod.mk.inj h
  obtain ⟨h1, h⟩ := h
  subst h1
  replace h := Prod.mk.inj h
  obtain ⟨h1, h⟩ := h
  subst h1
  replace h := Prod.mk.inj h
  obtain ⟨h1, h⟩ := h
  subst h1
  replace h := Prod.mk.inj h
  obtain ⟨h1, h⟩ := h
  subst h1
  subst h
  exact hret _ _ hP hD hS _ _ d_Md_value_13
def f_Md_between (n_t_digits : Nat) (n_t_counts : Nat) (n_t_points : Nat) (n_t_limbs : Nat) (s_t_thrown : Int32) (s_t_length : Int32) (s_t_place : Int32) (s_t_limbCount : Int32) (s_t_rows : Int32) (s_t_columns : Int32) (s_t_laid : Int32) (s_t_size : Int32) (e_t_digits : Nat → Int32) (e_t_counts : Nat → Int32) (e_t_points : Nat → Int32) (e_t_limbs : Nat → Int32) (x1 : Int32) (x2 : Int64) : Option (Int32 × (Nat → Int32) × (Nat → Int32) × (Nat → Int32) × (Nat → Int32)) :=
  xob (f_Md_mantissa x2) fun r_1 => xob (f_Md_power x2) fun r_3 => xob (f_Md_expand n_t_digits n_t_counts n_t_points n_t_limbs s_t_thrown s_t_length s_t_place s_t_limbCount s_t_rows s_t_columns s_t_laid s_t_size e_t_digits e_t_counts e_t_points e_t_limbs x1 (((2 : Int64) * r_1) + (1 : Int64)) (r_3 - (1 : Int32))) fun (s_t_limbCount_5, e_t_digits_6, e_t_counts_7, e_t_points_8, e_t_limbs_9) => some (s_t_limbCount_5, e_t_digits_6, e_t_counts_7, e_t_points_8, e_t_limbs_9)
def rm_Md_between : Room := { frames := 3, cells := 0, slots := 0, locals := 81 }
set_option maxHeartbeats 4000000 in
set_option maxRecDepth 100000 in
theorem c_Md_between (l : Launch) (dC : Nat → ClassId) (dI : Nat → Nat → Nat) (a_t a_t_text a_t_digits a_t_counts a_t_points a_t_limbs a_t_cells a_t_lines a_t_draft : Nat) (c_t_digits c_t_counts c_t_points c_t_limbs : ClassId) (n_t_digits : Nat) (n_t_counts : Nat) (n_t_points : Nat) (n_t_limbs : Nat) (s_t_thrown : Int32) (s_t_length : Int32) (s_t_place : Int32) (s_t_limbCount : Int32) (s_t_rows : Int32) (s_t_columns : Int32) (s_t_laid : Int32) (s_t_size : Int32) (e_t_digits : Nat → Int32) (e_t_counts : Nat → Int32) (e_t_points : Nat → Int32) (e_t_limbs : Nat → Int32) (x1 : Int32) (x2 : Int64) (s_t_limbCount_o : Int32) (e_t_digits_o : Nat → Int32) (e_t_counts_o : Nat → Int32) (e_t_points_o : Nat → Int32) (e_t_limbs_o : Nat → Int32) (h : f_Md_between n_t_digits n_t_counts n_t_points n_t_limbs s_t_thrown s_t_length s_t_place s_t_limbCount s_t_rows s_t_columns s_t_laid s_t_size e_t_digits e_t_counts e_t_points e_t_limbs x1 x2 = some (s_t_limbCount_o, e_t_digits_o, e_t_counts_o, e_t_points_o, e_t_limbs_o)) : xM l y_Md_between (Cond.code y_Md_between b_Md_between 4 none :: xG) rm_Md_between (dC, dI) x_cl x_nz [.ref a_t, .int x1, .long x2] [(c_t_digits, .int), (c_t_counts, .int), (c_t_points, .int), (c_t_limbs, .int)] [(a_t, .inr (8, [.int s_t_thrown, .int s_t_length, .ref a_t_text, .int s_t_place, .ref a_t_digits, .ref a_t_counts, .ref a_t_points, .ref a_t_limbs, .int s_t_limbCount, .int s_t_rows, .int s_t_columns, .ref a_t_cells, .int s_t_laid, .ref a_t_lines, .int s_t_size, .ref a_t_draft])), (a_t_digits, .inl (c_t_digits, n_t_digits, .inl e_t_digits)), (a_t_counts, .inl (c_t_counts, n_t_counts, .inl e_t_counts)), (a_t_points, .inl (c_t_points, n_t_points, .inl e_t_points)), (a_t_limbs, .inl (c_t_limbs, n_t_limbs, .inl e_t_limbs))] none [(a_t, .inr (8, [.int s_t_thrown, .int s_t_length, .ref a_t_text, .int s_t_place, .ref a_t_digits, .ref a_t_counts, .ref a_t_points, .ref a_t_limbs, .int s_t_limbCount_o, .int s_t_rows, .int s_t_columns, .ref a_t_cells, .int s_t_laid, .ref a_t_lines, .int s_t_size, .ref a_t_draft])), (a_t_digits, .inl (c_t_digits, n_t_digits, .inl e_t_digits_o)), (a_t_counts, .inl (c_t_counts, n_t_counts, .inl e_t_counts_o)), (a_t_points, .inl (c_t_points, n_t_points, .inl e_t_points_o)), (a_t_limbs, .inl (c_t_limbs, n_t_limbs, .inl e_t_limbs_o))] := by
  unfold f_Md_between at h
  refine xM.mkV (cc := b_Md_between) (maxL := 4)  (by decide +kernel) rfl (Nat.le_of_ble_eq_true rfl) ?_
  intro p e s m args below meth c A Q ls hx hb hml hown hts hNz hA hP hD hK hl hret
  have hS : va_S A s.heap s.heap [] := va_S.rf
  have hl : lv_has ls 4 [(0, .ref a_t), (1, .int x1), (2, .long x2)] := hl
  refine lv_aload_n hx hb d_Md_between_0 rfl (lv_at hl 0 rfl) ?_
  refine lv_iload_n hx hb d_Md_between_1 rfl (lv_at hl 1 rfl) ?_
  refine lv_ldc2 (v := 2) hx hb hown (hts _ g_805) d_Md_between_2 ?_
  refine lv_lload_n hx hb d_Md_between_5 rfl (lv_at hl 2 rfl) ?_
  replace h := xob_s h
  obtain ⟨r_1, hc_2, h⟩ := h
  try dsimp only at h
  refine xcS (As := [.long x2]) (rest := [.long (2 : Int64), .int x1, .ref a_t]) (st1 := [.long r_1, .long (2 : Int64), .int x1, .ref a_t]) (wr := [(a_t, .inr (8, [.int s_t_thrown, .int s_t_length, .ref a_t_text, .int s_t_place, .ref a_t_digits, .ref a_t_counts, .ref a_t_points, .ref a_t_limbs, .int s_t_limbCount, .int s_t_rows, .int s_t_columns, .ref a_t_cells, .int s_t_laid, .ref a_t_lines, .int s_t_size, .ref a_t_draft])), (a_t_digits, .inl (c_t_digits, n_t_digits, .inl e_t_digits)), (a_t_counts, .inl (c_t_counts, n_t_counts, .inl e_t_counts)), (a_t_points, .inl (c_t_points, n_t_points, .inl e_t_points)), (a_t_limbs, .inl (c_t_limbs, n_t_limbs, .inl e_t_limbs))]) ⟨hx, hb, hml, hown, hts⟩ (c_Md_mantissa l dC dI x2 r_1 hc_2) (⟨callB_of 1 hts (xgood g_812) rfl rfl rfl (hts _ g_10) (hts _ g_810) (by decide +kernel) ⟨Nat.le_of_ble_eq_true rfl, Nat.le_of_ble_eq_true rfl⟩, (hts _ g_811)⟩) hNz hA hP hD hS hK [] [0, 1, 2, 3, 4] [] rfl rfl rfl rfl (by decide) rfl rfl rfl rfl hl.1 (Nat.le_of_ble_eq_true rfl) ⟨Nat.zero_le _, Nat.zero_le _⟩ d_Md_between_6 (fun H locs hP hD hS => ?_)
  have hP : va_P (dC, dI) x_cl [(a_t, .inr (8, [.int s_t_thrown, .int s_t_length, .ref a_t_text, .int s_t_place, .ref a_t_digits, .ref a_t_counts, .ref a_t_points, .ref a_t_limbs, .int s_t_limbCount, .int s_t_rows, .int s_t_columns, .ref a_t_cells, .int s_t_laid, .ref a_t_lines, .int s_t_size, .ref a_t_draft])), (a_t_digits, .inl (c_t_digits, n_t_digits, .inl e_t_digits)), (a_t_counts, .inl (c_t_counts, n_t_counts, .inl e_t_counts)), (a_t_points, .inl (c_t_points, n_t_points, .inl e_t_points)), (a_t_limbs, .inl (c_t_limbs, n_t_limbs, .inl e_t_limbs))] H := hP
  have hD : va_D A [(a_t, .inr (8, [.int s_t_thrown, .int s_t_length, .ref a_t_text, .int s_t_place, .ref a_t_digits, .ref a_t_counts, .ref a_t_points, .ref a_t_limbs, .int s_t_limbCount, .int s_t_rows, .int s_t_columns, .ref a_t_cells, .int s_t_laid, .ref a_t_lines, .int s_t_size, .ref a_t_draft])), (a_t_digits, .inl (c_t_digits, n_t_digits, .inl e_t_digits)), (a_t_counts, .inl (c_t_counts, n_t_counts, .inl e_t_counts)), (a_t_points, .inl (c_t_points, n_t_points, .inl e_t_points)), (a_t_limbs, .inl (c_t_limbs, n_t_limbs, .inl e_t_limbs))] := hD
  refine lv_lmul hx hb d_Md_between_9 ?_
  refine lv_lconst (v := 1) hx hb d_Md_between_10 (by decide) ?_
  refine lv_ladd hx hb d_Md_between_11 ?_
  refine lv_lload_n hx hb d_Md_between_12 rfl (lv_at hl 2 rfl) ?_
  replace h := xob_s h
  obtain ⟨r_3, hc_4, h⟩ := h
  try dsimp only at h
  refine xcS (As := [.long x2]) (rest := [.long (((2 : Int64) * r_1) + (1 : Int64)), .int x1, .ref a_t]) (st1 := [.int r_3, .long (((2 : Int64) * r_1) + (1 : Int64)), .int x1, .ref a_t]) (wr := [(a_t, .inr (8, [.int s_t_thrown, .int s_t_length, .ref a_t_text, .int s_t_place, .ref a_t_digits, .ref a_t_counts, .ref a_t_points, .ref a_t_limbs, .int s_t_limbCount, .int s_t_rows, .int s_t_columns, .ref a_t_cells, .int s_t_laid, .ref a_t_lines, .int s_t_size, .ref a_t_draft])), (a_t_digits, .inl (c_t_digits, n_t_digits, .inl e_t_digits)), (a_t_counts, .inl (c_t_counts, n_t_counts, .inl e_t_counts)), (a_t_points, .inl (c_t_points, n_t_points, .inl e_t_points)), (a_t_limbs, .inl (c_t_limbs, n_t_limbs, .inl e_t_limbs))]) ⟨hx, hb, hml, hown, hts⟩ (c_Md_power l dC dI x2 r_3 hc_4) (⟨callB_of 1 hts (xgood g_821) rfl rfl rfl (hts _ g_10) (hts _ g_819) (by decide +kernel) ⟨Nat.le_of_ble_eq_true rfl, Nat.le_of_ble_eq_true rfl⟩, (hts _ g_820)⟩) hNz hA hP hD hS hK [] [0, 1, 2, 3, 4] [] rfl rfl rfl rfl (by decide) rfl rfl rfl rfl hl.1 (Nat.le_of_ble_eq_true rfl) ⟨Nat.zero_le _, Nat.zero_le _⟩ d_Md_between_13 (fun H locs hP hD hS => ?_)
  have hP : va_P (dC, dI) x_cl [(a_t, .inr (8, [.int s_t_thrown, .int s_t_length, .ref a_t_text, .int s_t_place, .ref a_t_digits, .ref a_t_counts, .ref a_t_points, .ref a_t_limbs, .int s_t_limbCount, .int s_t_rows, .int s_t_columns, .ref a_t_cells, .int s_t_laid, .ref a_t_lines, .int s_t_size, .ref a_t_draft])), (a_t_digits, .inl (c_t_digits, n_t_digits, .inl e_t_digits)), (a_t_counts, .inl (c_t_counts, n_t_counts, .inl e_t_counts)), (a_t_points, .inl (c_t_points, n_t_points, .inl e_t_points)), (a_t_limbs, .inl (c_t_limbs, n_t_limbs, .inl e_t_limbs))] H := hP
  have hD : va_D A [(a_t, .inr (8, [.int s_t_thrown, .int s_t_length, .ref a_t_text, .int s_t_place, .ref a_t_digits, .ref a_t_counts, .ref a_t_points, .ref a_t_limbs, .int s_t_limbCount, .int s_t_rows, .int s_t_columns, .ref a_t_cells, .int s_t_laid, .ref a_t_lines, .int s_t_size, .ref a_t_draft])), (a_t_digits, .inl (c_t_digits, n_t_digits, .inl e_t_digits)), (a_t_counts, .inl (c_t_counts, n_t_counts, .inl e_t_counts)), (a_t_points, .inl (c_t_points, n_t_points, .inl e_t_points)), (a_t_limbs, .inl (c_t_limbs, n_t_limbs, .inl e_t_limbs))] := hD
  refine lv_iconst (v := 1) hx hb d_Md_between_16 (by decide) ?_
  refine lv_isub hx hb d_Md_between_17 ?_
  replace h := xob_s h
  obtain ⟨⟨s_t_limbCount_5, e_t_digits_6, e_t_counts_7, e_t_points_8, e_t_limbs_9⟩, hc_10, h⟩ := h
  try dsimp only at h
  refine xcV (As := [.int x1, .long (((2 : Int64) * r_1) + (1 : Int64)), .int (r_3 - (1 : Int32))]) (rest := []) (st1 := []) (wr := []) ⟨hx, hb, hml, hown, hts⟩ (c_Md_expand l dC dI a_t a_t_text a_t_digits a_t_counts a_t_points a_t_limbs a_t_cells a_t_lines a_t_draft c_t_digits c_t_counts c_t_points c_t_limbs n_t_digits n_t_counts n_t_points n_t_limbs s_t_thrown s_t_length s_t_place s_t_limbCount s_t_rows s_t_columns s_t_laid s_t_size e_t_digits e_t_counts e_t_points e_t_limbs x1 (((2 : Int64) * r_1) + (1 : Int64)) (r_3 - (1 : Int32)) s_t_limbCount_5 e_t_digits_6 e_t_counts_7 e_t_points_8 e_t_limbs_9 hc_10) (cwV 3 hts (xgoodV g_822 g_824 gp_26 g_10 g_825) rfl rfl rfl (by decide +kernel) ⟨Nat.le_of_ble_eq_true rfl, Nat.le_of_ble_eq_true rfl⟩) hNz (ci := 8) (q0 := 0) rfl rfl hA hP hD hS hK [0, 1, 2, 3, 4] [] [0, 1, 2, 3] rfl rfl rfl rfl (by decide) rfl rfl rfl rfl hl.1 (Nat.le_of_ble_eq_true rfl) ⟨Nat.zero_le _, Nat.zero_le _⟩ d_Md_between_18 (fun H locs hP hD hS => ?_)
  have hP : va_P (dC, dI) x_cl [(a_t, .inr (8, [.int s_t_thrown, .int s_t_length, .ref a_t_text, .int s_t_place, .ref a_t_digits, .ref a_t_counts, .ref a_t_points, .ref a_t_limbs, .int s_t_limbCount_5, .int s_t_rows, .int s_t_columns, .ref a_t_cells, .int s_t_laid, .ref a_t_lines, .int s_t_size, .ref a_t_draft])), (a_t_digits, .inl (c_t_digits, n_t_digits, .inl e_t_digits_6)), (a_t_counts, .inl (c_t_counts, n_t_counts, .inl e_t_counts_7)), (a_t_points, .inl (c_t_points, n_t_points, .inl e_t_points_8)), (a_t_limbs, .inl (c_t_limbs, n_t_limbs, .inl e_t_limbs_9))] H := hP
  have hD : va_D A [(a_t, .inr (8, [.int s_t_thrown, .int s_t_length, .ref a_t_text, .int s_t_place, .ref a_t_digits, .ref a_t_counts, .ref a_t_points, .ref a_t_limbs, .int s_t_limbCount_5, .int s_t_rows, .int s_t_columns, .ref a_t_cells, .int s_t_laid, .ref a_t_lines, .int s_t_size, .ref a_t_draft])), (a_t_digits, .inl (c_t_digits, n_t_digits, .inl e_t_digits_6)), (a_t_counts, .inl (c_t_counts, n_t_counts, .inl e_t_counts_7)), (a_t_points, .inl (c_t_points, n_t_points, .inl e_t_points_8)), (a_t_limbs, .inl (c_t_limbs, n_t_limbs, .inl e_t_limbs_9))] := hD
  replace h := Option.some.inj h
  replace h := Prod.mk.inj h
  obtain ⟨h1, h⟩ := h
  subst h1
  replace h := Prod.mk.inj h
  obtain ⟨h1, h⟩ := h
  subst h1
  replace h := Prod.mk.inj h
  obtain ⟨h1, h⟩ := h
  subst h1
  replace h := Prod.mk.inj h
  obtain ⟨h1, h⟩ := h
  subst h1
  subst h
  exact hret _ _ hP hD hS _ _ d_Md_between_21
def lp_Md_against_70 (x1 : Int32) (x2 : Int32) (z_6 : Int32) (s_t_thrown : Int32) (s_t_length : Int32) (s_t_place : Int32) (s_t_limbCount : Int32) (s_t_rows : Int32) (s_t_columns : Int32) (s_t_laid : Int32) (s_t_size : Int32) (e_t_digits : Nat → Int32) (n_t_digits : Nat) : Nat → Int32 → Option ((Unit) ⊕ (Int32))
  | 0, _ => none
  | n_ + 1, x4_9 =>
    if z_6 ≤ x4_9 then (some (.inl ())) else (if ((((1300 : Int32) * x1) + x4_9) < 0 ∨ n_t_digits ≤ (((1300 : Int32) * x1) + x4_9).toNatClampNeg) then none else if ((((1300 : Int32) * x2) + x4_9) < 0 ∨ n_t_digits ≤ (((1300 : Int32) * x2) + x4_9).toNatClampNeg) then none else xnm ((e_t_digits (((1300 : Int32) * x1) + x4_9).toNatClampNeg) - (e_t_digits (((1300 : Int32) * x2) + x4_9).toNatClampNeg)) fun x5_19 => if x5_19 = 0 then (xnm (x4_9 + (1 : Int32)) fun x4_21 => lp_Md_against_70 x1 x2 z_6 s_t_thrown s_t_length s_t_place s_t_limbCount s_t_rows s_t_columns s_t_laid s_t_size e_t_digits n_t_digits n_ x4_21) else (some (.inr x5_19)))
def f_Md_against (n_t_digits : Nat) (n_t_counts : Nat) (n_t_points : Nat) (s_t_thrown : Int32) (s_t_length : Int32) (s_t_place : Int32) (s_t_limbCount : Int32) (s_t_rows : Int32) (s_t_columns : Int32) (s_t_laid : Int32) (s_t_size : Int32) (e_t_digits : Nat → Int32) (e_t_counts : Nat → Int32) (e_t_points : Nat → Int32) (x1 : Int32) (x2 : Int32) : Option (Int32) :=
  if (x1 < 0 ∨ n_t_points ≤ x1.toNatClampNeg) then none else if (x2 < 0 ∨ n_t_points ≤ x2.toNatClampNeg) then none else if (e_t_points x1.toNatClampNeg) = (e_t_points x2.toNatClampNeg) then (if (x1 < 0 ∨ n_t_counts ≤ x1.toNatClampNeg) then none else if (x2 < 0 ∨ n_t_counts ≤ x2.toNatClampNeg) then none else xob (if (e_t_counts x2.toNatClampNeg) ≤ (e_t_counts x1.toNatClampNeg) then (if (x2 < 0 ∨ n_t_counts ≤ x2.toNatClampNeg) then none else some (e_t_counts x2.toNatClampNeg)) else (if (x1 < 0 ∨ n_t_counts ≤ x1.toNatClampNeg) then none else some (e_t_counts x1.toNatClampNeg))) fun z_6 => xob (lp_Md_against_70 x1 x2 z_6 s_t_thrown s_t_length s_t_place s_t_limbCount s_t_rows s_t_columns s_t_laid s_t_size e_t_digits n_t_digits xF (0 : Int32)) fun zz_13 => match zz_13 with | .inl _ => (if (x1 < 0 ∨ n_t_counts ≤ x1.toNatClampNeg) then none else if (x2 < 0 ∨ n_t_counts ≤ x2.toNatClampNeg) then none else some ((e_t_counts x1.toNatClampNeg) - (e_t_counts x2.toNatClampNeg))) | .inr r_ => some r_) else (if (x1 < 0 ∨ n_t_points ≤ x1.toNatClampNeg) then none else if (x2 < 0 ∨ n_t_points ≤ x2.toNatClampNeg) then none else if (e_t_points x2.toNatClampNeg) ≤ (e_t_points x1.toNatClampNeg) then (some (1 : Int32)) else (some (-1 : Int32)))
def rm_Md_against : Room := { frames := 0, cells := 0, slots := 0, locals := 0 }
set_option maxHeartbeats 4000000 in
set_option maxRecDepth 100000 in
theorem c_Md_against (l : Launch) (dC : Nat → ClassId) (dI : Nat → Nat → Nat) (a_t a_t_text a_t_digits a_t_counts a_t_points a_t_limbs a_t_cells a_t_lines a_t_draft : Nat) (c_t_digits c_t_counts c_t_points : ClassId) (n_t_digits : Nat) (n_t_counts : Nat) (n_t_points : Nat) (s_t_thrown : Int32) (s_t_length : Int32) (s_t_place : Int32) (s_t_limbCount : Int32) (s_t_rows : Int32) (s_t_columns : Int32) (s_t_laid : Int32) (s_t_size : Int32) (e_t_digits : Nat → Int32) (e_t_counts : Nat → Int32) (e_t_points : Nat → Int32) (x1 : Int32) (x2 : Int32) (r_ : Int32) (h : f_Md_against n_t_digits n_t_counts n_t_points s_t_thrown s_t_length s_t_place s_t_limbCount s_t_rows s_t_columns s_t_laid s_t_size e_t_digits e_t_counts e_t_points x1 x2 = some r_) : xM l y_Md_against (Cond.code y_Md_against b_Md_against 6 (some .int) :: xG) rm_Md_against (dC, dI) x_cl x_nz [.ref a_t, .int x1, .int x2] [(c_t_digits, .int), (c_t_counts, .int), (c_t_points, .int)] [(a_t, .inr (8, [.int s_t_thrown, .int s_t_length, .ref a_t_text, .int s_t_place, .ref a_t_digits, .ref a_t_counts, .ref a_t_points, .ref a_t_limbs, .int s_t_limbCount, .int s_t_rows, .int s_t_columns, .ref a_t_cells, .int s_t_laid, .ref a_t_lines, .int s_t_size, .ref a_t_draft])), (a_t_digits, .inl (c_t_digits, n_t_digits, .inl e_t_digits)), (a_t_counts, .inl (c_t_counts, n_t_counts, .inl e_t_counts)), (a_t_points, .inl (c_t_points, n_t_points, .inl e_t_points))] (some (.int r_)) [(a_t, .inr (8, [.int s_t_thrown, .int s_t_length, .ref a_t_text, .int s_t_place, .ref a_t_digits, .ref a_t_counts, .ref a_t_points, .ref a_t_limbs, .int s_t_limbCount, .int s_t_rows, .int s_t_columns, .ref a_t_cells, .int s_t_laid, .ref a_t_lines, .int s_t_size, .ref a_t_draft])), (a_t_digits, .inl (c_t_digits, n_t_digits, .inl e_t_digits)), (a_t_counts, .inl (c_t_counts, n_t_counts, .inl e_t_counts)), (a_t_points, .inl (c_t_points, n_t_points, .inl e_t_points))] := by
  unfold f_Md_against at h
  refine xM.mkI (cc := b_Md_against) (maxL := 6)  (by decide +kernel) rfl (Nat.le_of_ble_eq_true rfl) ?_
  intro p e s m args below meth c A Q ls hx hb hml hown hts hNz hA hP hD hK hl hret
  have hS : va_S A s.heap s.heap [] := va_S.rf
  have hl : lv_has ls 6 [(0, .ref a_t), (1, .int x1), (2, .int x2)] := hl
  refine lv_aload_n hx hb d_Md_against_0 rfl (lv_at hl 0 rfl) ?_
  refine va_get (D := (dC, dI)) (ci := 8) (v := .ref a_t_points) (C := R_Md) (T := T_Md) (N := 16) hx hb hts in_Md hown hK hP 0 rfl rfl 6 (by decide) (hts _ g_712) (fun _ h9 => h9) rfl d_Md_against_1 ?_
  refine lv_iload_n hx hb d_Md_against_4 rfl (lv_at hl 1 rfl) ?_
  replace h := xg h
  obtain ⟨hg_1, h⟩ := h
  refine va_iald hx hb hK hP 3 2 rfl rfl hg_1 d_Md_against_5 ?_
  refine lv_aload_n hx hb d_Md_against_6 rfl (lv_at hl 0 rfl) ?_
  refine va_get (D := (dC, dI)) (ci := 8) (v := .ref a_t_points) (C := R_Md) (T := T_Md) (N := 16) hx hb hts in_Md hown hK hP 0 rfl rfl 6 (by decide) (hts _ g_712) (fun _ h9 => h9) rfl d_Md_against_7 ?_
  refine lv_iload_n hx hb d_Md_against_10 rfl (lv_at hl 2 rfl) ?_
  replace h := xg h
  obtain ⟨hg_2, h⟩ := h
  refine va_iald hx hb hK hP 3 2 rfl rfl hg_2 d_Md_against_11 ?_
  refine lv_icmp_eq (tgt := 36) hx hb d_Md_against_12 (by decide) (fun c_3 => ?_) (fun c_3 => ?_)
  · rw [if_pos c_3] at h
    refine lv_aload_n hx hb d_Md_against_36 rfl (lv_at hl 0 rfl) ?_
    refine va_get (D := (dC, dI)) (ci := 8) (v := .ref a_t_counts) (C := R_Md) (T := T_Md) (N := 16) hx hb hts in_Md hown hK hP 0 rfl rfl 5 (by decide) (hts _ g_711) (fun _ h9 => h9) rfl d_Md_against_37 ?_
    refine lv_iload_n hx hb d_Md_against_40 rfl (lv_at hl 1 rfl) ?_
    replace h := xg h
    obtain ⟨hg_4, h⟩ := h
    refine va_iald hx hb hK hP 2 1 rfl rfl hg_4 d_Md_against_41 ?_
    refine lv_aload_n hx hb d_Md_against_42 rfl (lv_at hl 0 rfl) ?_
    refine va_get (D := (dC, dI)) (ci := 8) (v := .ref a_t_counts) (C := R_Md) (T := T_Md) (N := 16) hx hb hts in_Md hown hK hP 0 rfl rfl 5 (by decide) (hts _ g_711) (fun _ h9 => h9) rfl d_Md_against_43 ?_
    refine lv_iload_n hx hb d_Md_against_46 rfl (lv_at hl 2 rfl) ?_
    replace h := xg h
    obtain ⟨hg_5, h⟩ := h
    refine va_iald hx hb hK hP 2 1 rfl rfl hg_5 d_Md_against_47 ?_
    replace h := xob_s h
    obtain ⟨z_6, hj_7, h⟩ := h
    try dsimp only at h
    have hJ_8 : ∀ (H : Heap) (locs : List Loc) (ls : Array Slot), va_P (dC, dI) x_cl [(a_t, .inr (8, [.int s_t_thrown, .int s_t_length, .ref a_t_text, .int s_t_place, .ref a_t_digits, .ref a_t_counts, .ref a_t_points, .ref a_t_limbs, .int s_t_limbCount, .int s_t_rows, .int s_t_columns, .ref a_t_cells, .int s_t_laid, .ref a_t_lines, .int s_t_size, .ref a_t_draft])), (a_t_digits, .inl (c_t_digits, n_t_digits, .inl e_t_digits)), (a_t_counts, .inl (c_t_counts, n_t_counts, .inl e_t_counts)), (a_t_points, .inl (c_t_points, n_t_points, .inl e_t_points))] H → va_D A [(a_t, .inr (8, [.int s_t_thrown, .int s_t_length, .ref a_t_text, .int s_t_place, .ref a_t_digits, .ref a_t_counts, .ref a_t_points, .ref a_t_limbs, .int s_t_limbCount, .int s_t_rows, .int s_t_columns, .ref a_t_cells, .int s_t_laid, .ref a_t_lines, .int s_t_size, .ref a_t_draft])), (a_t_digits, .inl (c_t_digits, n_t_digits, .inl e_t_digits)), (a_t_counts, .inl (c_t_counts, n_t_counts, .inl e_t_counts)), (a_t_points, .inl (c_t_points, n_t_points, .inl e_t_points))] → va_S A s.heap H locs → lv_has ls 6 [(0, .ref a_t), (1, .int x1), (2, .int x2)] → W p l e rm_Md_against s m args below meth c H locs 0 0 Q (F0 m 66 ls [.int z_6]) := by
      intro H locs ls hP hD hS hl
      refine lv_istore_n (lv' := [(3, .int z_6), (0, .ref a_t), (1, .int x1), (2, .int x2)]) hx hb d_Md_against_66 rfl hl (by decide) rfl (fun ls hl => ?_)
      refine lv_iconst (v := 0) hx hb d_Md_against_67 (by decide) ?_
      refine lv_istore (lv' := [(4, .int (0 : Int32)), (3, .int z_6), (0, .ref a_t), (1, .int x1), (2, .int x2)]) hx hb d_Md_against_68 hl (by decide) rfl (fun ls hl => ?_)
      replace h := xob_s h
      obtain ⟨zz_13, hlp_10, h⟩ := h
      have hX_11 : ∀ (_ : Unit), zz_13 = .inl () → ∀ (H : Heap) (locs : List Loc) (ls : Array Slot), va_P (dC, dI) x_cl [(a_t, .inr (8, [.int s_t_thrown, .int s_t_length, .ref a_t_text, .int s_t_place, .ref a_t_digits, .ref a_t_counts, .ref a_t_points, .ref a_t_limbs, .int s_t_limbCount, .int s_t_rows, .int s_t_columns, .ref a_t_cells, .int s_t_laid, .ref a_t_lines, .int s_t_size, .ref a_t_draft])), (a_t_digits, .inl (c_t_digits, n_t_digits, .inl e_t_digits)), (a_t_counts, .inl (c_t_counts, n_t_counts, .inl e_t_counts)), (a_t_points, .inl (c_t_points, n_t_points, .inl e_t_points))] H → va_D A [(a_t, .inr (8, [.int s_t_thrown, .int s_t_length, .ref a_t_text, .int s_t_place, .ref a_t_digits, .ref a_t_counts, .ref a_t_points, .ref a_t_limbs, .int s_t_limbCount, .int s_t_rows, .int s_t_columns, .ref a_t_cells, .int s_t_laid, .ref a_t_lines, .int s_t_size, .ref a_t_draft])), (a_t_digits, .inl (c_t_digits, n_t_digits, .inl e_t_digits)), (a_t_counts, .inl (c_t_counts, n_t_counts, .inl e_t_counts)), (a_t_points, .inl (c_t_points, n_t_points, .inl e_t_points))] → va_S A s.heap H locs → lv_has ls 6 [(0, .ref a_t), (1, .int x1), (2, .int x2)] → W p l e rm_Md_against s m args below meth c H locs 0 0 Q (F0 m 119 ls []) := by
        intro _ ez H locs ls hP hD hS hl
        subst ez
        try dsimp only at h
        refine lv_aload_n hx hb d_Md_against_119 rfl (lv_at hl 0 rfl) ?_
        refine va_get (D := (dC, dI)) (ci := 8) (v := .ref a_t_counts) (C := R_Md) (T := T_Md) (N := 16) hx hb hts in_Md hown hK hP 0 rfl rfl 5 (by decide) (hts _ g_711) (fun _ h9 => h9) rfl d_Md_against_120 ?_
        refine lv_iload_n hx hb d_Md_against_123 rfl (lv_at hl 1 rfl) ?_
        replace h := xg h
        obtain ⟨hg_14, h⟩ := h
        refine va_iald hx hb hK hP 2 1 rfl rfl hg_14 d_Md_against_124 ?_
        refine lv_aload_n hx hb d_Md_against_125 rfl (lv_at hl 0 rfl) ?_
        refine va_get (D := (dC, dI)) (ci := 8) (v := .ref a_t_counts) (C := R_Md) (T := T_Md) (N := 16) hx hb hts in_Md hown hK hP 0 rfl rfl 5 (by decide) (hts _ g_711) (fun _ h9 => h9) rfl d_Md_against_126 ?_
        refine lv_iload_n hx hb d_Md_against_129 rfl (lv_at hl 2 rfl) ?_
        replace h := xg h
        obtain ⟨hg_15, h⟩ := h
        refine va_iald hx hb hK hP 2 1 rfl rfl hg_15 d_Md_against_130 ?_
        refine lv_isub hx hb d_Md_against_131 ?_
        replace h := Option.some.inj h
        subst h
        exact hret _ _ hP hD hS _ _ d_Md_against_132
      have hz := h
      clear h
      have hL_12 : ∀ (n_ : Nat) (x4_9 : Int32) (H : Heap) (locs : List Loc) (ls : Array Slot), lp_Md_against_70 x1 x2 z_6 s_t_thrown s_t_length s_t_place s_t_limbCount s_t_rows s_t_columns s_t_laid s_t_size e_t_digits n_t_digits n_ x4_9 = some zz_13 → va_P (dC, dI) x_cl [(a_t, .inr (8, [.int s_t_thrown, .int s_t_length, .ref a_t_text, .int s_t_place, .ref a_t_digits, .ref a_t_counts, .ref a_t_points, .ref a_t_limbs, .int s_t_limbCount, .int s_t_rows, .int s_t_columns, .ref a_t_cells, .int s_t_laid, .ref a_t_lines, .int s_t_size, .ref a_t_draft])), (a_t_digits, .inl (c_t_digits, n_t_digits, .inl e_t_digits)), (a_t_counts, .inl (c_t_counts, n_t_counts, .inl e_t_counts)), (a_t_points, .inl (c_t_points, n_t_points, .inl e_t_points))] H → va_D A [(a_t, .inr (8, [.int s_t_thrown, .int s_t_length, .ref a_t_text, .int s_t_place, .ref a_t_digits, .ref a_t_counts, .ref a_t_points, .ref a_t_limbs, .int s_t_limbCount, .int s_t_rows, .int s_t_columns, .ref a_t_cells, .int s_t_laid, .ref a_t_lines, .int s_t_size, .ref a_t_draft])), (a_t_digits, .inl (c_t_digits, n_t_digits, .inl e_t_digits)), (a_t_counts, .inl (c_t_counts, n_t_counts, .inl e_t_counts)), (a_t_points, .inl (c_t_points, n_t_points, .inl e_t_points))] → va_S A s.heap H locs → lv_has ls 6 [(0, .ref a_t), (1, .int x1), (2, .int x2), (3, .int z_6), (4, .int x4_9)] → W p l e rm_Md_against s m args below meth c H locs 0 0 Q (F0 m 70 ls []) := by
        intro n_
        induction n_ with
        | zero => intro x4_9 H locs ls h; cases h
        | succ n_ ih =>
          intro x4_9 H locs ls h hP hD hS hl
          rw [lp_Md_against_70] at h
          refine lv_iload hx hb d_Md_against_70 (lv_at hl 4 rfl) ?_
          refine lv_iload_n hx hb d_Md_against_72 rfl (lv_at hl 3 rfl) ?_
          refine lv_icmp_ge (tgt := 119) hx hb d_Md_against_73 (by decide) (fun c_16 => ?_) (fun c_16 => ?_)
          · rw [if_pos c_16] at h
            replace h := Option.some.inj h
            subst h
            exact hX_11 () rfl _ _ _ hP hD hS (lv_sub hl [0, 1, 2] rfl)
          · rw [if_neg c_16] at h
            refine lv_aload_n hx hb d_Md_against_76 rfl (lv_at hl 0 rfl) ?_
            refine va_get (D := (dC, dI)) (ci := 8) (v := .ref a_t_digits) (C := R_Md) (T := T_Md) (N := 16) hx hb hts in_Md hown hK hP 0 rfl rfl 4 (by decide) (hts _ g_710) (fun _ h9 => h9) rfl d_Md_against_77 ?_
            refine lv_sipush (v := 1300) hx hb d_Md_against_80 (by decide) ?_
            refine lv_iload_n hx hb d_Md_against_83 rfl (lv_at hl 1 rfl) ?_
            refine lv_imul hx hb d_Md_against_84 ?_
            refine lv_iload hx hb d_Md_against_85 (lv_at hl 4 rfl) ?_
            refine lv_iadd hx hb d_Md_against_87 ?_
            replace h := xg h
            obtain ⟨hg_17, h⟩ := h
            refine va_iald hx hb hK hP 1 0 rfl rfl hg_17 d_Md_against_88 ?_
            refine lv_aload_n hx hb d_Md_against_89 rfl (lv_at hl 0 rfl) ?_
            refine va_get (D := (dC, dI)) (ci := 8) (v := .ref a_t_digits) (C := R_Md) (T := T_Md) (N := 16) hx hb hts in_Md hown hK hP 0 rfl rfl 4 (by decide) (hts _ g_710) (fun _ h9 => h9) rfl d_Md_against_90 ?_
            refine lv_sipush (v := 1300) hx hb d_Md_against_93 (by decide) ?_
            refine lv_iload_n hx hb d_Md_against_96 rfl (lv_at hl 2 rfl) ?_
            refine lv_imul hx hb d_Md_against_97 ?_
            refine lv_iload hx hb d_Md_against_98 (lv_at hl 4 rfl) ?_
            refine lv_iadd hx hb d_Md_against_100 ?_
            replace h := xg h
            obtain ⟨hg_18, h⟩ := h
            refine va_iald hx hb hK hP 1 0 rfl rfl hg_18 d_Md_against_101 ?_
            refine lv_isub hx hb d_Md_against_102 ?_
            replace h := xnm_s h
            obtain ⟨x5_19, ex5_19, h⟩ := h
            refine x_topi ex5_19 ?_
            refine lv_istore (lv' := [(5, .int x5_19), (0, .ref a_t), (1, .int x1), (2, .int x2), (3, .int z_6), (4, .int x4_9)]) hx hb d_Md_against_103 hl (by decide) rfl (fun ls hl => ?_)
            refine lv_iload hx hb d_Md_against_105 (lv_at hl 0 rfl) ?_
            refine lv_if_eq (tgt := 113) hx hb d_Md_against_107 (by decide) (fun c_20 => ?_) (fun c_20 => ?_)
            · rw [if_pos c_20] at h
              replace h := xnm_s h
              obtain ⟨x4_21, ex4_21, h⟩ := h
              refine lv_iinc (v := x4_21) (lv' := [(4, .int x4_21), (5, .int x5_19), (0, .ref a_t), (1, .int x1), (2, .int x2), (3, .int z_6)]) hx hb d_Md_against_113 hl (k := 5) rfl (by rw [← ex4_21]; rfl) (by decide) rfl (fun ls hl => ?_)
              refine lv_goto (tgt := 70) hx hb d_Md_against_116 (by decide) ?_
              exact ih _ _ _ _ h hP hD hS (lv_sub hl [2, 3, 4, 5, 0] rfl)
            · rw [if_neg c_20] at h
              refine lv_iload hx hb d_Md_against_110 (lv_at hl 0 rfl) ?_
              replace h := Option.some.inj h
              subst h
              try dsimp only at hz
              replace hz := Option.some.inj hz
              subst hz
              exact hret _ _ hP hD hS _ _ d_Md_against_112
      exact hL_12 xF _ _ _ _ hlp_10 hP hD hS (lv_sub hl [2, 3, 4, 1, 0] rfl)
    replace h := hj_7
    clear hj_7
    refine lv_icmp_ge (tgt := 60) hx hb d_Md_against_48 (by decide) (fun c_22 => ?_) (fun c_22 => ?_)
    · rw [if_pos c_22] at h
      refine lv_aload_n hx hb d_Md_against_60 rfl (lv_at hl 0 rfl) ?_
      refine va_get (D := (dC, dI)) (ci := 8) (v := .ref a_t_counts) (C := R_Md) (T := T_Md) (N := 16) hx hb hts in_Md hown hK hP 0 rfl rfl 5 (by decide) (hts _ g_711) (fun _ h9 => h9) rfl d_Md_against_61 ?_
      refine lv_iload_n hx hb d_Md_against_64 rfl (lv_at hl 2 rfl) ?_
      replace h := xg h
      obtain ⟨hg_23, h⟩ := h
      refine va_iald hx hb hK hP 2 1 rfl rfl hg_23 d_Md_against_65 ?_
      replace h := Option.some.inj h
      subst h
      exact hJ_8 _ _ _ hP hD hS hl
    · rw [if_neg c_22] at h
      refine lv_aload_n hx hb d_Md_against_51 rfl (lv_at hl 0 rfl) ?_
      refine va_get (D := (dC, dI)) (ci := 8) (v := .ref a_t_counts) (C := R_Md) (T := T_Md) (N := 16) hx hb hts in_Md hown hK hP 0 rfl rfl 5 (by decide) (hts _ g_711) (fun _ h9 => h9) rfl d_Md_against_52 ?_
      refine lv_iload_n hx hb d_Md_against_55 rfl (lv_at hl 1 rfl) ?_
      replace h := xg h
      obtain ⟨hg_24, h⟩ := h
      refine va_iald hx hb hK hP 2 1 rfl rfl hg_24 d_Md_against_56 ?_
      refine lv_goto (tgt := 66) hx hb d_Md_against_57 (by decide) ?_
      replace h := Option.some.inj h
      subst h
      exact hJ_8 _ _ _ hP hD hS hl
  · rw [if_neg c_3] at h
    refine lv_aload_n hx hb d_Md_against_15 rfl (lv_at hl 0 rfl) ?_
    refine va_get (D := (dC, dI)) (ci := 8) (v := .ref a_t_points) (C := R_Md) (T := T_Md) (N := 16) hx hb hts in_Md hown hK hP 0 rfl rfl 6 (by decide) (hts _ g_712) (fun _ h9 => h9) rfl d_Md_against_16 ?_
    refine lv_iload_n hx hb d_Md_against_19 rfl (lv_at hl 1 rfl) ?_
    replace h := xg h
    obtain ⟨hg_25, h⟩ := h
    refine va_iald hx hb hK hP 3 2 rfl rfl hg_25 d_Md_against_20 ?_
    refine lv_aload_n hx hb d_Md_against_21 rfl (lv_at hl 0 rfl) ?_
    refine va_get (D := (dC, dI)) (ci := 8) (v := .ref a_t_points) (C := R_Md) (T := T_Md) (N := 16) hx hb hts in_Md hown hK hP 0 rfl rfl 6 (by decide) (hts _ g_712) (fun _ h9 => h9) rfl d_Md_against_22 ?_
    refine lv_iload_n hx hb d_Md_against_25 rfl (lv_at hl 2 rfl) ?_
    replace h := xg h
    obtain ⟨hg_26, h⟩ := h
    refine va_iald hx hb hK hP 3 2 rfl rfl hg_26 d_Md_against_26 ?_
    refine lv_icmp_ge (tgt := 34) hx hb d_Md_against_27 (by decide) (fun c_27 => ?_) (fun c_27 => ?_)
    · rw [if_pos c_27] at h
      refine lv_iconst (v := 1) hx hb d_Md_against_34 (by decide) ?_
      replace h := Option.some.inj h
      subst h
      exact hret _ _ hP hD hS _ _ d_Md_against_35
    · rw [if_neg c_27] at h
      refine lv_iconst (v := -1) hx hb d_Md_against_30 (by decide) ?_
      refine lv_goto (tgt := 35) hx hb d_Md_against_31 (by decide) ?_
      replace h := Option.some.inj h
      subst h
      exact hret _ _ hP hD hS _ _ d_Md_against_35
def lp_Md_type_87 (x1 : Int64) (s_t_place : Int32) (s_t_limbCount : Int32) (s_t_rows : Int32) (s_t_columns : Int32) (s_t_laid : Int32) (s_t_size : Int32) (n_t_text : Nat) : Nat → Int32 → Int32 → (Nat → Int32) → Option (Int32 × (Nat → Int32))
  | 0, _, _, _ => none
  | n_ + 1, x5_14, s_t_length_15, e_t_text_16 =>
    if x5_14 < 0 then (some (s_t_length_15, e_t_text_16)) else (if (s_t_length_15 < 0 ∨ n_t_text ≤ s_t_length_15.toNatClampNeg) then none else xnm (x5_14 + (-1 : Int32)) fun x5_24 => lp_Md_type_87 x1 s_t_place s_t_limbCount s_t_rows s_t_columns s_t_laid s_t_size n_t_text n_ x5_24 (s_t_length_15 + (1 : Int32)) (upd e_t_text_16 s_t_length_15.toNatClampNeg (((x1 >>> (((8 : Int32) * x5_14).toInt64 &&& 63)) &&& (255 : Int64)).toInt32)))
def lp_Md_type_37 (x1 : Int64) (x3 : Int32) : Nat → Int32 → Int32 → Option (Int32)
  | 0, _, _ => none
  | n_ + 1, x4_6, x5_7 =>
    if x3 ≤ x5_7 then (some x4_6) else (if x4_6 = 0 then (some x4_6) else (xob (f_Md_in (((x1 >>> (((8 : Int32) * x5_7).toInt64 &&& 63)) &&& (255 : Int64)).toInt32) (32 : Int32) (126 : Int32)) fun r_27 => xnm (x5_7 + (1 : Int32)) fun x5_29 => lp_Md_type_37 x1 x3 n_ r_27 x5_29))
def f_Md_type (n_t_text : Nat) (s_t_thrown : Int32) (s_t_length : Int32) (s_t_place : Int32) (s_t_limbCount : Int32) (s_t_rows : Int32) (s_t_columns : Int32) (s_t_laid : Int32) (s_t_size : Int32) (e_t_text : Nat → Int32) (x1 : Int64) (x3 : Int32) : Option (Int32 × Int32 × Int32 × (Nat → Int32)) :=
  xob (f_Md_in x3 (1 : Int32) (8 : Int32)) fun r_1 => xob (if r_1 = 0 then (some (0 : Int32)) else (if (1200 : Int32) < (s_t_length + x3) then (some (0 : Int32)) else (some (1 : Int32)))) fun z_3 => xob (lp_Md_type_37 x1 x3 xF z_3 (0 : Int32)) fun x4_8 => if x4_8 = 0 then (some ((-1 : Int32), s_t_length, (0 : Int32), e_t_text)) else (xnm (x3 - (1 : Int32)) fun x5_13 => xob (lp_Md_type_87 x1 s_t_place s_t_limbCount s_t_rows s_t_columns s_t_laid s_t_size n_t_text xF x5_13 s_t_length e_t_text) fun (s_t_length_17, e_t_text_18) => some (s_t_length_17, s_t_length_17, (0 : Int32), e_t_text_18))
def rm_Md_type : Room := { frames := 1, cells := 0, slots := 0, locals := 22 }
set_option maxHeartbeats 4000000 in
set_option maxRecDepth 100000 in
theorem c_Md_type (l : Launch) (dC : Nat → ClassId) (dI : Nat → Nat → Nat) (a_t a_t_text a_t_digits a_t_counts a_t_points a_t_limbs a_t_cells a_t_lines a_t_draft : Nat) (c_t_text : ClassId) (n_t_text : Nat) (s_t_thrown : Int32) (s_t_length : Int32) (s_t_place : Int32) (s_t_limbCount : Int32) (s_t_rows : Int32) (s_t_columns : Int32) (s_t_laid : Int32) (s_t_size : Int32) (e_t_text : Nat → Int32) (x1 : Int64) (x3 : Int32) (r_ : Int32) (s_t_length_o : Int32) (s_t_thrown_o : Int32) (e_t_text_o : Nat → Int32) (h : f_Md_type n_t_text s_t_thrown s_t_length s_t_place s_t_limbCount s_t_rows s_t_columns s_t_laid s_t_size e_t_text x1 x3 = some (r_, s_t_length_o, s_t_thrown_o, e_t_text_o)) : xM l y_Md_type (Cond.code y_Md_type b_Md_type 6 (some .int) :: xG) rm_Md_type (dC, dI) x_cl x_nz [.ref a_t, .long x1, .int x3] [(c_t_text, .int)] [(a_t, .inr (8, [.int s_t_thrown, .int s_t_length, .ref a_t_text, .int s_t_place, .ref a_t_digits, .ref a_t_counts, .ref a_t_points, .ref a_t_limbs, .int s_t_limbCount, .int s_t_rows, .int s_t_columns, .ref a_t_cells, .int s_t_laid, .ref a_t_lines, .int s_t_size, .ref a_t_draft])), (a_t_text, .inl (c_t_text, n_t_text, .inl e_t_text))] (some (.int r_)) [(a_t, .inr (8, [.int s_t_thrown_o, .int s_t_length_o, .ref a_t_text, .int s_t_place, .ref a_t_digits, .ref a_t_counts, .ref a_t_points, .ref a_t_limbs, .int s_t_limbCount, .int s_t_rows, .int s_t_columns, .ref a_t_cells, .int s_t_laid, .ref a_t_lines, .int s_t_size, .ref a_t_draft])), (a_t_text, .inl (c_t_text, n_t_text, .inl e_t_text_o))] := by
  unfold f_Md_type at h
  refine xM.mkI (cc := b_Md_type) (maxL := 6)  (by decide +kernel) rfl (Nat.le_of_ble_eq_true rfl) ?_
  intro p e s m args below meth c A Q ls hx hb hml hown hts hNz hA hP hD hK hl hret
  have hS : va_S A s.heap s.heap [] := va_S.rf
  have hl : lv_has ls 6 [(0, .ref a_t), (1, .long x1), (3, .int x3)] := hl
  refine lv_aload_n hx hb d_Md_type_0 rfl (lv_at hl 0 rfl) ?_
  refine lv_iconst (v := 0) hx hb d_Md_type_1 (by decide) ?_
  refine va_put (D := (dC, dI)) (ci := 8) (v := .int (0 : Int32)) (ty := .int) (C := R_Md) (T := T_Md) (N := 16) hx hb hts in_Md ty_Md tyok_Md nn_Md hown hK hP hD hS 0 rfl rfl 0 (by decide) (hts _ g_706) (fun _ h9 => h9) rfl (by decide +kernel) rfl rfl (Nat.le_of_ble_eq_true rfl) d_Md_type_2 (fun H locs hP hD hS => ?_)
  have hP : va_P (dC, dI) x_cl [(a_t, .inr (8, [.int (0 : Int32), .int s_t_length, .ref a_t_text, .int s_t_place, .ref a_t_digits, .ref a_t_counts, .ref a_t_points, .ref a_t_limbs, .int s_t_limbCount, .int s_t_rows, .int s_t_columns, .ref a_t_cells, .int s_t_laid, .ref a_t_lines, .int s_t_size, .ref a_t_draft])), (a_t_text, .inl (c_t_text, n_t_text, .inl e_t_text))] H := hP
  have hD : va_D A [(a_t, .inr (8, [.int (0 : Int32), .int s_t_length, .ref a_t_text, .int s_t_place, .ref a_t_digits, .ref a_t_counts, .ref a_t_points, .ref a_t_limbs, .int s_t_limbCount, .int s_t_rows, .int s_t_columns, .ref a_t_cells, .int s_t_laid, .ref a_t_lines, .int s_t_size, .ref a_t_draft])), (a_t_text, .inl (c_t_text, n_t_text, .inl e_t_text))] := hD
  refine lv_iload_n hx hb d_Md_type_5 rfl (lv_at hl 2 rfl) ?_
  refine lv_iconst (v := 1) hx hb d_Md_type_6 (by decide) ?_
  refine lv_bipush (v := 8) hx hb d_Md_type_7 (by decide) ?_
  replace h := xob_s h
  obtain ⟨r_1, hc_2, h⟩ := h
  try dsimp only at h
  refine xcS (As := [.int x3, .int (1 : Int32), .int (8 : Int32)]) (rest := []) (st1 := [.int r_1]) (wr := [(a_t, .inr (8, [.int (0 : Int32), .int s_t_length, .ref a_t_text, .int s_t_place, .ref a_t_digits, .ref a_t_counts, .ref a_t_points, .ref a_t_limbs, .int s_t_limbCount, .int s_t_rows, .int s_t_columns, .ref a_t_cells, .int s_t_laid, .ref a_t_lines, .int s_t_size, .ref a_t_draft])), (a_t_text, .inl (c_t_text, n_t_text, .inl e_t_text))]) ⟨hx, hb, hml, hown, hts⟩ (c_Md_in l dC dI x3 (1 : Int32) (8 : Int32) r_1 hc_2) (⟨callB_of 3 hts (xgood g_765) rfl rfl rfl (hts _ g_10) (hts _ g_763) (by decide +kernel) ⟨Nat.le_of_ble_eq_true rfl, Nat.le_of_ble_eq_true rfl⟩, (hts _ g_764)⟩) hNz hA hP hD hS hK [] [0, 1] [] rfl rfl rfl rfl (by decide) rfl rfl rfl rfl hl.1 (Nat.le_of_ble_eq_true rfl) ⟨Nat.zero_le _, Nat.zero_le _⟩ d_Md_type_9 (fun H locs hP hD hS => ?_)
  have hP : va_P (dC, dI) x_cl [(a_t, .inr (8, [.int (0 : Int32), .int s_t_length, .ref a_t_text, .int s_t_place, .ref a_t_digits, .ref a_t_counts, .ref a_t_points, .ref a_t_limbs, .int s_t_limbCount, .int s_t_rows, .int s_t_columns, .ref a_t_cells, .int s_t_laid, .ref a_t_lines, .int s_t_size, .ref a_t_draft])), (a_t_text, .inl (c_t_text, n_t_text, .inl e_t_text))] H := hP
  have hD : va_D A [(a_t, .inr (8, [.int (0 : Int32), .int s_t_length, .ref a_t_text, .int s_t_place, .ref a_t_digits, .ref a_t_counts, .ref a_t_points, .ref a_t_limbs, .int s_t_limbCount, .int s_t_rows, .int s_t_columns, .ref a_t_cells, .int s_t_laid, .ref a_t_lines, .int s_t_size, .ref a_t_draft])), (a_t_text, .inl (c_t_text, n_t_text, .inl e_t_text))] := hD
  replace h := xob_s h
  obtain ⟨z_3, hj_4, h⟩ := h
  try dsimp only at h
  have hJ_5 : ∀ (H : Heap) (locs : List Loc) (ls : Array Slot), va_P (dC, dI) x_cl [(a_t, .inr (8, [.int (0 : Int32), .int s_t_length, .ref a_t_text, .int s_t_place, .ref a_t_digits, .ref a_t_counts, .ref a_t_points, .ref a_t_limbs, .int s_t_limbCount, .int s_t_rows, .int s_t_columns, .ref a_t_cells, .int s_t_laid, .ref a_t_lines, .int s_t_size, .ref a_t_draft])), (a_t_text, .inl (c_t_text, n_t_text, .inl e_t_text))] H → va_D A [(a_t, .inr (8, [.int (0 : Int32), .int s_t_length, .ref a_t_text, .int s_t_place, .ref a_t_digits, .ref a_t_counts, .ref a_t_points, .ref a_t_limbs, .int s_t_limbCount, .int s_t_rows, .int s_t_columns, .ref a_t_cells, .int s_t_laid, .ref a_t_lines, .int s_t_size, .ref a_t_draft])), (a_t_text, .inl (c_t_text, n_t_text, .inl e_t_text))] → va_S A s.heap H locs → lv_has ls 6 [(0, .ref a_t), (1, .long x1), (3, .int x3)] → W p l e rm_Md_type s m args below meth c H locs 0 0 Q (F0 m 32 ls [.int z_3]) := by
    intro H locs ls hP hD hS hl
    refine lv_istore (lv' := [(4, .int z_3), (0, .ref a_t), (1, .long x1), (3, .int x3)]) hx hb d_Md_type_32 hl (by decide) rfl (fun ls hl => ?_)
    refine lv_iconst (v := 0) hx hb d_Md_type_34 (by decide) ?_
    refine lv_istore (lv' := [(5, .int (0 : Int32)), (4, .int z_3), (0, .ref a_t), (1, .long x1), (3, .int x3)]) hx hb d_Md_type_35 hl (by decide) rfl (fun ls hl => ?_)
    replace h := xob_s h
    obtain ⟨x4_8, hlp_9, h⟩ := h
    try dsimp only at h
    have hX_10 : ∀ (H : Heap) (locs : List Loc) (ls : Array Slot), va_P (dC, dI) x_cl [(a_t, .inr (8, [.int (0 : Int32), .int s_t_length, .ref a_t_text, .int s_t_place, .ref a_t_digits, .ref a_t_counts, .ref a_t_points, .ref a_t_limbs, .int s_t_limbCount, .int s_t_rows, .int s_t_columns, .ref a_t_cells, .int s_t_laid, .ref a_t_lines, .int s_t_size, .ref a_t_draft])), (a_t_text, .inl (c_t_text, n_t_text, .inl e_t_text))] H → va_D A [(a_t, .inr (8, [.int (0 : Int32), .int s_t_length, .ref a_t_text, .int s_t_place, .ref a_t_digits, .ref a_t_counts, .ref a_t_points, .ref a_t_limbs, .int s_t_limbCount, .int s_t_rows, .int s_t_columns, .ref a_t_cells, .int s_t_laid, .ref a_t_lines, .int s_t_size, .ref a_t_draft])), (a_t_text, .inl (c_t_text, n_t_text, .inl e_t_text))] → va_S A s.heap H locs → lv_has ls 6 [(0, .ref a_t), (1, .long x1), (3, .int x3), (4, .int x4_8)] → W p l e rm_Md_type s m args below meth c H locs 0 0 Q (F0 m 75 ls []) := by
      intro H locs ls hP hD hS hl
      refine lv_iload hx hb d_Md_type_75 (lv_at hl 3 rfl) ?_
      refine lv_if_ne (tgt := 82) hx hb d_Md_type_77 (by decide) (fun c_12 => ?_) (fun c_12 => ?_)
      · rw [if_neg c_12] at h
        refine lv_iload_n hx hb d_Md_type_82 rfl (lv_at hl 2 rfl) ?_
        refine lv_iconst (v := 1) hx hb d_Md_type_83 (by decide) ?_
        refine lv_isub hx hb d_Md_type_84 ?_
        replace h := xnm_s h
        obtain ⟨x5_13, ex5_13, h⟩ := h
        refine x_topi ex5_13 ?_
        refine lv_istore (lv' := [(5, .int x5_13), (0, .ref a_t), (1, .long x1), (3, .int x3), (4, .int x4_8)]) hx hb d_Md_type_85 hl (by decide) rfl (fun ls hl => ?_)
        replace h := xob_s h
        obtain ⟨⟨s_t_length_17, e_t_text_18⟩, hlp_19, h⟩ := h
        try dsimp only at h
        have hX_20 : ∀ (H : Heap) (locs : List Loc) (ls : Array Slot), va_P (dC, dI) x_cl [(a_t, .inr (8, [.int (0 : Int32), .int s_t_length_17, .ref a_t_text, .int s_t_place, .ref a_t_digits, .ref a_t_counts, .ref a_t_points, .ref a_t_limbs, .int s_t_limbCount, .int s_t_rows, .int s_t_columns, .ref a_t_cells, .int s_t_laid, .ref a_t_lines, .int s_t_size, .ref a_t_draft])), (a_t_text, .inl (c_t_text, n_t_text, .inl e_t_text_18))] H → va_D A [(a_t, .inr (8, [.int (0 : Int32), .int s_t_length_17, .ref a_t_text, .int s_t_place, .ref a_t_digits, .ref a_t_counts, .ref a_t_points, .ref a_t_limbs, .int s_t_limbCount, .int s_t_rows, .int s_t_columns, .ref a_t_cells, .int s_t_laid, .ref a_t_lines, .int s_t_size, .ref a_t_draft])), (a_t_text, .inl (c_t_text, n_t_text, .inl e_t_text_18))] → va_S A s.heap H locs → lv_has ls 6 [(0, .ref a_t)] → W p l e rm_Md_type s m args below meth c H locs 0 0 Q (F0 m 129 ls []) := by
          intro H locs ls hP hD hS hl
          refine lv_aload_n hx hb d_Md_type_129 rfl (lv_at hl 0 rfl) ?_
          refine va_get (D := (dC, dI)) (ci := 8) (v := .int s_t_length_17) (C := R_Md) (T := T_Md) (N := 16) hx hb hts in_Md hown hK hP 0 rfl rfl 1 (by decide) (hts _ g_707) (fun _ h9 => h9) rfl d_Md_type_130 ?_
          replace h := Option.some.inj h
          replace h := Prod.mk.inj h
          obtain ⟨h1, h⟩ := h
          subst h1
          replace h := Prod.mk.inj h
          obtain ⟨h1, h⟩ := h
          subst h1
          replace h := Prod.mk.inj h
          obtain ⟨h1, h⟩ := h
          subst h1
          subst h
          exact hret _ _ hP hD hS _ _ d_Md_type_133
        clear h
        have hL_21 : ∀ (n_ : Nat) (x5_14 : Int32) (s_t_length_15 : Int32) (e_t_text_16 : Nat → Int32) (H : Heap) (locs : List Loc) (ls : Array Slot), lp_Md_type_87 x1 s_t_place s_t_limbCount s_t_rows s_t_columns s_t_laid s_t_size n_t_text n_ x5_14 s_t_length_15 e_t_text_16 = some (s_t_length_17, e_t_text_18) → va_P (dC, dI) x_cl [(a_t, .inr (8, [.int (0 : Int32), .int s_t_length_15, .ref a_t_text, .int s_t_place, .ref a_t_digits, .ref a_t_counts, .ref a_t_points, .ref a_t_limbs, .int s_t_limbCount, .int s_t_rows, .int s_t_columns, .ref a_t_cells, .int s_t_laid, .ref a_t_lines, .int s_t_size, .ref a_t_draft])), (a_t_text, .inl (c_t_text, n_t_text, .inl e_t_text_16))] H → va_D A [(a_t, .inr (8, [.int (0 : Int32), .int s_t_length_15, .ref a_t_text, .int s_t_place, .ref a_t_digits, .ref a_t_counts, .ref a_t_points, .ref a_t_limbs, .int s_t_limbCount, .int s_t_rows, .int s_t_columns, .ref a_t_cells, .int s_t_laid, .ref a_t_lines, .int s_t_size, .ref a_t_draft])), (a_t_text, .inl (c_t_text, n_t_text, .inl e_t_text_16))] → va_S A s.heap H locs → lv_has ls 6 [(0, .ref a_t), (1, .long x1), (5, .int x5_14)] → W p l e rm_Md_type s m args below meth c H locs 0 0 Q (F0 m 87 ls []) := by
          intro n_
          induction n_ with
          | zero => intro x5_14 s_t_length_15 e_t_text_16 H locs ls h; cases h
          | succ n_ ih =>
            intro x5_14 s_t_length_15 e_t_text_16 H locs ls h hP hD hS hl
            rw [lp_Md_type_87] at h
            refine lv_iload hx hb d_Md_type_87 (lv_at hl 2 rfl) ?_
            refine lv_if_lt (tgt := 129) hx hb d_Md_type_89 (by decide) (fun c_22 => ?_) (fun c_22 => ?_)
            · rw [if_pos c_22] at h
              replace h := Option.some.inj h
              replace h := Prod.mk.inj h
              obtain ⟨h1, h⟩ := h
              subst h1
              subst h
              exact hX_20 _ _ _ hP hD hS (lv_sub hl [0] rfl)
            · rw [if_neg c_22] at h
              refine lv_aload_n hx hb d_Md_type_92 rfl (lv_at hl 0 rfl) ?_
              refine va_get (D := (dC, dI)) (ci := 8) (v := .ref a_t_text) (C := R_Md) (T := T_Md) (N := 16) hx hb hts in_Md hown hK hP 0 rfl rfl 2 (by decide) (hts _ g_708) (fun _ h9 => h9) rfl d_Md_type_93 ?_
              refine lv_aload_n hx hb d_Md_type_96 rfl (lv_at hl 0 rfl) ?_
              refine va_get (D := (dC, dI)) (ci := 8) (v := .int s_t_length_15) (C := R_Md) (T := T_Md) (N := 16) hx hb hts in_Md hown hK hP 0 rfl rfl 1 (by decide) (hts _ g_707) (fun _ h9 => h9) rfl d_Md_type_97 ?_
              refine lv_lload_n hx hb d_Md_type_100 rfl (lv_at hl 1 rfl) ?_
              refine lv_bipush (v := 8) hx hb d_Md_type_101 (by decide) ?_
              refine lv_iload hx hb d_Md_type_103 (lv_at hl 2 rfl) ?_
              refine lv_imul hx hb d_Md_type_105 ?_
              refine lv_lshr hx hb d_Md_type_106 rfl ?_
              refine lv_ldc2 (v := 255) hx hb hown (hts _ g_766) d_Md_type_107 ?_
              refine lv_land hx hb d_Md_type_110 ?_
              refine lv_l2i hx hb d_Md_type_111 rfl ?_
              replace h := xg h
              obtain ⟨hg_23, h⟩ := h
              refine va_iast hx hb hK hP hD hS 1 0 rfl rfl hg_23 d_Md_type_112 (fun H locs hP hD hS => ?_)
              have hP : va_P (dC, dI) x_cl [(a_t, .inr (8, [.int (0 : Int32), .int s_t_length_15, .ref a_t_text, .int s_t_place, .ref a_t_digits, .ref a_t_counts, .ref a_t_points, .ref a_t_limbs, .int s_t_limbCount, .int s_t_rows, .int s_t_columns, .ref a_t_cells, .int s_t_laid, .ref a_t_lines, .int s_t_size, .ref a_t_draft])), (a_t_text, .inl (c_t_text, n_t_text, .inl ((upd e_t_text_16 s_t_length_15.toNatClampNeg (((x1 >>> (((8 : Int32) * x5_14).toInt64 &&& 63)) &&& (255 : Int64)).toInt32)))))] H := hP
              have hD : va_D A [(a_t, .inr (8, [.int (0 : Int32), .int s_t_length_15, .ref a_t_text, .int s_t_place, .ref a_t_digits, .ref a_t_counts, .ref a_t_points, .ref a_t_limbs, .int s_t_limbCount, .int s_t_rows, .int s_t_columns, .ref a_t_cells, .int s_t_laid, .ref a_t_lines, .int s_t_size, .ref a_t_draft])), (a_t_text, .inl (c_t_text, n_t_text, .inl ((upd e_t_text_16 s_t_length_15.toNatClampNeg (((x1 >>> (((8 : Int32) * x5_14).toInt64 &&& 63)) &&& (255 : Int64)).toInt32)))))] := hD
              refine lv_aload_n hx hb d_Md_type_113 rfl (lv_at hl 0 rfl) ?_
              refine lv_dup hx hb d_Md_type_114 rfl ?_
              refine va_get (D := (dC, dI)) (ci := 8) (v := .int s_t_length_15) (C := R_Md) (T := T_Md) (N := 16) hx hb hts in_Md hown hK hP 0 rfl rfl 1 (by decide) (hts _ g_707) (fun _ h9 => h9) rfl d_Md_type_115 ?_
              refine lv_iconst (v := 1) hx hb d_Md_type_118 (by decide) ?_
              refine lv_iadd hx hb d_Md_type_119 ?_
              refine va_put (D := (dC, dI)) (ci := 8) (v := .int (s_t_length_15 + (1 : Int32))) (ty := .int) (C := R_Md) (T := T_Md) (N := 16) hx hb hts in_Md ty_Md tyok_Md nn_Md hown hK hP hD hS 0 rfl rfl 1 (by decide) (hts _ g_707) (fun _ h9 => h9) rfl (by decide +kernel) rfl rfl (Nat.le_of_ble_eq_true rfl) d_Md_type_120 (fun H locs hP hD hS => ?_)
              have hP : va_P (dC, dI) x_cl [(a_t, .inr (8, [.int (0 : Int32), .int (s_t_length_15 + (1 : Int32)), .ref a_t_text, .int s_t_place, .ref a_t_digits, .ref a_t_counts, .ref a_t_points, .ref a_t_limbs, .int s_t_limbCount, .int s_t_rows, .int s_t_columns, .ref a_t_cells, .int s_t_laid, .ref a_t_lines, .int s_t_size, .ref a_t_draft])), (a_t_text, .inl (c_t_text, n_t_text, .inl ((upd e_t_text_16 s_t_length_15.toNatClampNeg (((x1 >>> (((8 : Int32) * x5_14).toInt64 &&& 63)) &&& (255 : Int64)).toInt32)))))] H := hP
              have hD : va_D A [(a_t, .inr (8, [.int (0 : Int32), .int (s_t_length_15 + (1 : Int32)), .ref a_t_text, .int s_t_place, .ref a_t_digits, .ref a_t_counts, .ref a_t_points, .ref a_t_limbs, .int s_t_limbCount, .int s_t_rows, .int s_t_columns, .ref a_t_cells, .int s_t_laid, .ref a_t_lines, .int s_t_size, .ref a_t_draft])), (a_t_text, .inl (c_t_text, n_t_text, .inl ((upd e_t_text_16 s_t_length_15.toNatClampNeg (((x1 >>> (((8 : Int32) * x5_14).toInt64 &&& 63)) &&& (255 : Int64)).toInt32)))))] := hD
              replace h := xnm_s h
              obtain ⟨x5_24, ex5_24, h⟩ := h
              refine lv_iinc (v := x5_24) (lv' := [(5, .int x5_24), (0, .ref a_t), (1, .long x1)]) hx hb d_Md_type_123 hl (k := 2) rfl (by rw [← ex5_24]; rfl) (by decide) rfl (fun ls hl => ?_)
              refine lv_goto (tgt := 87) hx hb d_Md_type_126 (by decide) ?_
              exact ih _ _ _ _ _ _ h hP hD hS (lv_sub hl [1, 2, 0] rfl)
        exact hL_21 xF _ _ _ _ _ _ hlp_19 hP hD hS (lv_sub hl [1, 2, 0] rfl)
      · rw [if_pos c_12] at h
        refine lv_iconst (v := -1) hx hb d_Md_type_80 (by decide) ?_
        replace h := Option.some.inj h
        replace h := Prod.mk.inj h
        obtain ⟨h1, h⟩ := h
        subst h1
        replace h := Prod.mk.inj h
        obtain ⟨h1, h⟩ := h
        subst h1
        replace h := Prod.mk.inj h
        obtain ⟨h1, h⟩ := h
        subst h1
        subst h
        exact hret _ _ hP hD hS _ _ d_Md_type_81
    clear h
    have hL_11 : ∀ (n_ : Nat) (x4_6 : Int32) (x5_7 : Int32) (H : Heap) (locs : List Loc) (ls : Array Slot), lp_Md_type_37 x1 x3 n_ x4_6 x5_7 = some x4_8 → va_P (dC, dI) x_cl [(a_t, .inr (8, [.int (0 : Int32), .int s_t_length, .ref a_t_text, .int s_t_place, .ref a_t_digits, .ref a_t_counts, .ref a_t_points, .ref a_t_limbs, .int s_t_limbCount, .int s_t_rows, .int s_t_columns, .ref a_t_cells, .int s_t_laid, .ref a_t_lines, .int s_t_size, .ref a_t_draft])), (a_t_text, .inl (c_t_text, n_t_text, .inl e_t_text))] H → va_D A [(a_t, .inr (8, [.int (0 : Int32), .int s_t_length, .ref a_t_text, .int s_t_place, .ref a_t_digits, .ref a_t_counts, .ref a_t_points, .ref a_t_limbs, .int s_t_limbCount, .int s_t_rows, .int s_t_columns, .ref a_t_cells, .int s_t_laid, .ref a_t_lines, .int s_t_size, .ref a_t_draft])), (a_t_text, .inl (c_t_text, n_t_text, .inl e_t_text))] → va_S A s.heap H locs → lv_has ls 6 [(0, .ref a_t), (1, .long x1), (3, .int x3), (4, .int x4_6), (5, .int x5_7)] → W p l e rm_Md_type s m args below meth c H locs 0 0 Q (F0 m 37 ls []) := by
      intro n_
      induction n_ with
      | zero => intro x4_6 x5_7 H locs ls h; cases h
      | succ n_ ih =>
        intro x4_6 x5_7 H locs ls h hP hD hS hl
        rw [lp_Md_type_37] at h
        refine lv_iload hx hb d_Md_type_37 (lv_at hl 4 rfl) ?_
        refine lv_iload_n hx hb d_Md_type_39 rfl (lv_at hl 2 rfl) ?_
        refine lv_icmp_ge (tgt := 75) hx hb d_Md_type_40 (by decide) (fun c_25 => ?_) (fun c_25 => ?_)
        · rw [if_pos c_25] at h
          replace h := Option.some.inj h
          subst h
          exact hX_10 _ _ _ hP hD hS (lv_sub hl [0, 1, 2, 3] rfl)
        · rw [if_neg c_25] at h
          refine lv_iload hx hb d_Md_type_43 (lv_at hl 3 rfl) ?_
          refine lv_if_eq (tgt := 75) hx hb d_Md_type_45 (by decide) (fun c_26 => ?_) (fun c_26 => ?_)
          · rw [if_pos c_26] at h
            replace h := Option.some.inj h
            subst h
            exact hX_10 _ _ _ hP hD hS (lv_sub hl [0, 1, 2, 3] rfl)
          · rw [if_neg c_26] at h
            refine lv_lload_n hx hb d_Md_type_48 rfl (lv_at hl 1 rfl) ?_
            refine lv_bipush (v := 8) hx hb d_Md_type_49 (by decide) ?_
            refine lv_iload hx hb d_Md_type_51 (lv_at hl 4 rfl) ?_
            refine lv_imul hx hb d_Md_type_53 ?_
            refine lv_lshr hx hb d_Md_type_54 rfl ?_
            refine lv_ldc2 (v := 255) hx hb hown (hts _ g_766) d_Md_type_55 ?_
            refine lv_land hx hb d_Md_type_58 ?_
            refine lv_l2i hx hb d_Md_type_59 rfl ?_
            refine lv_bipush (v := 32) hx hb d_Md_type_60 (by decide) ?_
            refine lv_bipush (v := 126) hx hb d_Md_type_62 (by decide) ?_
            replace h := xob_s h
            obtain ⟨r_27, hc_28, h⟩ := h
            try dsimp only at h
            refine xcS (As := [.int (((x1 >>> (((8 : Int32) * x5_7).toInt64 &&& 63)) &&& (255 : Int64)).toInt32), .int (32 : Int32), .int (126 : Int32)]) (rest := []) (st1 := [.int r_27]) (wr := [(a_t, .inr (8, [.int (0 : Int32), .int s_t_length, .ref a_t_text, .int s_t_place, .ref a_t_digits, .ref a_t_counts, .ref a_t_points, .ref a_t_limbs, .int s_t_limbCount, .int s_t_rows, .int s_t_columns, .ref a_t_cells, .int s_t_laid, .ref a_t_lines, .int s_t_size, .ref a_t_draft])), (a_t_text, .inl (c_t_text, n_t_text, .inl e_t_text))]) ⟨hx, hb, hml, hown, hts⟩ (c_Md_in l dC dI (((x1 >>> (((8 : Int32) * x5_7).toInt64 &&& 63)) &&& (255 : Int64)).toInt32) (32 : Int32) (126 : Int32) r_27 hc_28) (⟨callB_of 3 hts (xgood g_765) rfl rfl rfl (hts _ g_10) (hts _ g_763) (by decide +kernel) ⟨Nat.le_of_ble_eq_true rfl, Nat.le_of_ble_eq_true rfl⟩, (hts _ g_764)⟩) hNz hA hP hD hS hK [] [0, 1] [] rfl rfl rfl rfl (by decide) rfl rfl rfl rfl hl.1 (Nat.le_of_ble_eq_true rfl) ⟨Nat.zero_le _, Nat.zero_le _⟩ d_Md_type_64 (fun H locs hP hD hS => ?_)
            have hP : va_P (dC, dI) x_cl [(a_t, .inr (8, [.int (0 : Int32), .int s_t_length, .ref a_t_text, .int s_t_place, .ref a_t_digits, .ref a_t_counts, .ref a_t_points, .ref a_t_limbs, .int s_t_limbCount, .int s_t_rows, .int s_t_columns, .ref a_t_cells, .int s_t_laid, .ref a_t_lines, .int s_t_size, .ref a_t_draft])), (a_t_text, .inl (c_t_text, n_t_text, .inl e_t_text))] H := hP
            have hD : va_D A [(a_t, .inr (8, [.int (0 : Int32), .int s_t_length, .ref a_t_text, .int s_t_place, .ref a_t_digits, .ref a_t_counts, .ref a_t_points, .ref a_t_limbs, .int s_t_limbCount, .int s_t_rows, .int s_t_columns, .ref a_t_cells, .int s_t_laid, .ref a_t_lines, .int s_t_size, .ref a_t_draft])), (a_t_text, .inl (c_t_text, n_t_text, .inl e_t_text))] := hD
            refine lv_istore (lv' := [(4, .int r_27), (0, .ref a_t), (1, .long x1), (3, .int x3), (5, .int x5_7)]) hx hb d_Md_type_67 hl (by decide) rfl (fun ls hl => ?_)
            replace h := xnm_s h
            obtain ⟨x5_29, ex5_29, h⟩ := h
            refine lv_iinc (v := x5_29) (lv' := [(5, .int x5_29), (4, .int r_27), (0, .ref a_t), (1, .long x1), (3, .int x3)]) hx hb d_Md_type_69 hl (k := 4) rfl (by rw [← ex5_29]; rfl) (by decide) rfl (fun ls hl => ?_)
            refine lv_goto (tgt := 37) hx hb d_Md_type_72 (by decide) ?_
            exact ih _ _ _ _ _ h hP hD hS (lv_sub hl [2, 3, 4, 1, 0] rfl)
    exact hL_11 xF _ _ _ _ _ hlp_9 hP hD hS (lv_sub hl [2, 3, 4, 1, 0] rfl)
  replace h := hj_4
  clear hj_4
  refine lv_if_eq (tgt := 31) hx hb d_Md_type_12 (by decide) (fun c_30 => ?_) (fun c_30 => ?_)
  · rw [if_pos c_30] at h
    refine lv_iconst (v := 0) hx hb d_Md_type_31 (by decide) ?_
    replace h := Option.some.inj h
    subst h
    exact hJ_5 _ _ _ hP hD hS hl
  · rw [if_neg c_30] at h
    refine lv_aload_n hx hb d_Md_type_15 rfl (lv_at hl 0 rfl) ?_
    refine va_get (D := (dC, dI)) (ci := 8) (v := .int s_t_length) (C := R_Md) (T := T_Md) (N := 16) hx hb hts in_Md hown hK hP 0 rfl rfl 1 (by decide) (hts _ g_707) (fun _ h9 => h9) rfl d_Md_type_16 ?_
    refine lv_iload_n hx hb d_Md_type_19 rfl (lv_at hl 2 rfl) ?_
    refine lv_iadd hx hb d_Md_type_20 ?_
    refine lv_sipush (v := 1200) hx hb d_Md_type_21 (by decide) ?_
    refine lv_icmp_gt (tgt := 31) hx hb d_Md_type_24 (by decide) (fun c_31 => ?_) (fun c_31 => ?_)
    · rw [if_pos c_31] at h
      refine lv_iconst (v := 0) hx hb d_Md_type_31 (by decide) ?_
      replace h := Option.some.inj h
      subst h
      exact hJ_5 _ _ _ hP hD hS hl
    · rw [if_neg c_31] at h
      refine lv_iconst (v := 1) hx hb d_Md_type_27 (by decide) ?_
      refine lv_goto (tgt := 32) hx hb d_Md_type_28 (by decide) ?_
      replace h := Option.some.inj h
      subst h
      exact hJ_5 _ _ _ hP hD hS hl
def f_Md_wipe (s_t_thrown : Int32) (s_t_length : Int32) (s_t_place : Int32) (s_t_limbCount : Int32) (s_t_rows : Int32) (s_t_columns : Int32) (s_t_laid : Int32) (s_t_size : Int32) : Option (Int32 × Int32 × Int32) :=
  some (s_t_length, (0 : Int32), (0 : Int32))
def rm_Md_wipe : Room := { frames := 0, cells := 0, slots := 0, locals := 0 }
set_option maxHeartbeats 4000000 in
set_option maxRecDepth 100000 in
theorem c_Md_wipe (l : Launch) (dC : Nat → ClassId) (dI : Nat → Nat → Nat) (a_t a_t_text a_t_digits a_t_counts a_t_points a_t_limbs a_t_cells a_t_lines a_t_draft : Nat) (s_t_thrown : Int32) (s_t_length : Int32) (s_t_place : Int32) (s_t_limbCount : Int32) (s_t_rows : Int32) (s_t_columns : Int32) (s_t_laid : Int32) (s_t_size : Int32) (r_ : Int32) (s_t_length_o : Int32) (s_t_thrown_o : Int32) (h : f_Md_wipe s_t_thrown s_t_length s_t_place s_t_limbCount s_t_rows s_t_columns s_t_laid s_t_size = some (r_, s_t_length_o, s_t_thrown_o)) : xM l y_Md_wipe (Cond.code y_Md_wipe b_Md_wipe 2 (some .int) :: xG) rm_Md_wipe (dC, dI) x_cl x_nz [.ref a_t] [] [(a_t, .inr (8, [.int s_t_thrown, .int s_t_length, .ref a_t_text, .int s_t_place, .ref a_t_digits, .ref a_t_counts, .ref a_t_points, .ref a_t_limbs, .int s_t_limbCount, .int s_t_rows, .int s_t_columns, .ref a_t_cells, .int s_t_laid, .ref a_t_lines, .int s_t_size, .ref a_t_draft]))] (some (.int r_)) [(a_t, .inr (8, [.int s_t_thrown_o, .int s_t_length_o, .ref a_t_text, .int s_t_place, .ref a_t_digits, .ref a_t_counts, .ref a_t_points, .ref a_t_limbs, .int s_t_limbCount, .int s_t_rows, .int s_t_columns, .ref a_t_cells, .int s_t_laid, .ref a_t_lines, .int s_t_size, .ref a_t_draft]))] := by
  unfold f_Md_wipe at h
  refine xM.mkI (cc := b_Md_wipe) (maxL := 2)  (by decide +kernel) rfl (Nat.le_of_ble_eq_true rfl) ?_
  intro p e s m args below meth c A Q ls hx hb hml hown hts hNz hA hP hD hK hl hret
  have hS : va_S A s.heap s.heap [] := va_S.rf
  have hl : lv_has ls 2 [(0, .ref a_t)] := hl
  refine lv_aload_n hx hb d_Md_wipe_0 rfl (lv_at hl 0 rfl) ?_
  refine lv_iconst (v := 0) hx hb d_Md_wipe_1 (by decide) ?_
  refine va_put (D := (dC, dI)) (ci := 8) (v := .int (0 : Int32)) (ty := .int) (C := R_Md) (T := T_Md) (N := 16) hx hb hts in_Md ty_Md tyok_Md nn_Md hown hK hP hD hS 0 rfl rfl 0 (by decide) (hts _ g_706) (fun _ h9 => h9) rfl (by decide +kernel) rfl rfl (Nat.le_of_ble_eq_true rfl) d_Md_wipe_2 (fun H locs hP hD hS => ?_)
  have hP : va_P (dC, dI) x_cl [(a_t, .inr (8, [.int (0 : Int32), .int s_t_length, .ref a_t_text, .int s_t_place, .ref a_t_digits, .ref a_t_counts, .ref a_t_points, .ref a_t_limbs, .int s_t_limbCount, .int s_t_rows, .int s_t_columns, .ref a_t_cells, .int s_t_laid, .ref a_t_lines, .int s_t_size, .ref a_t_draft]))] H := hP
  have hD : va_D A [(a_t, .inr (8, [.int (0 : Int32), .int s_t_length, .ref a_t_text, .int s_t_place, .ref a_t_digits, .ref a_t_counts, .ref a_t_points, .ref a_t_limbs, .int s_t_limbCount, .int s_t_rows, .int s_t_columns, .ref a_t_cells, .int s_t_laid, .ref a_t_lines, .int s_t_size, .ref a_t_draft]))] := hD
  refine lv_aload_n hx hb d_Md_wipe_5 rfl (lv_at hl 0 rfl) ?_
  refine va_get (D := (dC, dI)) (ci := 8) (v := .int s_t_length) (C := R_Md) (T := T_Md) (N := 16) hx hb hts in_Md hown hK hP 0 rfl rfl 1 (by decide) (hts _ g_707) (fun _ h9 => h9) rfl d_Md_wipe_6 ?_
  refine lv_istore_n (lv' := [(1, .int s_t_length), (0, .ref a_t)]) hx hb d_Md_wipe_9 rfl hl (by decide) rfl (fun ls hl => ?_)
  refine lv_aload_n hx hb d_Md_wipe_10 rfl (lv_at hl 1 rfl) ?_
  refine lv_iconst (v := 0) hx hb d_Md_wipe_11 (by decide) ?_
  refine va_put (D := (dC, dI)) (ci := 8) (v := .int (0 : Int32)) (ty := .int) (C := R_Md) (T := T_Md) (N := 16) hx hb hts in_Md ty_Md tyok_Md nn_Md hown hK hP hD hS 0 rfl rfl 1 (by decide) (hts _ g_707) (fun _ h9 => h9) rfl (by decide +kernel) rfl rfl (Nat.le_of_ble_eq_true rfl) d_Md_wipe_12 (fun H locs hP hD hS => ?_)
  have hP : va_P (dC, dI) x_cl [(a_t, .inr (8, [.int (0 : Int32), .int (0 : Int32), .ref a_t_text, .int s_t_place, .ref a_t_digits, .ref a_t_counts, .ref a_t_points, .ref a_t_limbs, .int s_t_limbCount, .int s_t_rows, .int s_t_columns, .ref a_t_cells, .int s_t_laid, .ref a_t_lines, .int s_t_size, .ref a_t_draft]))] H := hP
  have hD : va_D A [(a_t, .inr (8, [.int (0 : Int32), .int (0 : Int32), .ref a_t_text, .int s_t_place, .ref a_t_digits, .ref a_t_counts, .ref a_t_points, .ref a_t_limbs, .int s_t_limbCount, .int s_t_rows, .int s_t_columns, .ref a_t_cells, .int s_t_laid, .ref a_t_lines, .int s_t_size, .ref a_t_draft]))] := hD
  refine lv_iload_n hx hb d_Md_wipe_15 rfl (lv_at hl 0 rfl) ?_
  replace h := Option.some.inj h
  replace h := Prod.mk.inj h
  obtain ⟨h1, h⟩ := h
  subst h1
  replace h := Prod.mk.inj h
  obtain ⟨h1, h⟩ := h
  subst h1
  subst h
  exact hret _ _ hP hD hS _ _ d_Md_wipe_16
def f_Md_character (n_t_text : Nat) (s_t_thrown : Int32) (s_t_length : Int32) (s_t_place : Int32) (s_t_limbCount : Int32) (s_t_rows : Int32) (s_t_columns : Int32) (s_t_laid : Int32) (s_t_size : Int32) (e_t_text : Nat → Int32) (x1 : Int32) : Option (Int32 × Int32) :=
  xob (f_Md_in x1 (0 : Int32) (s_t_length - (1 : Int32))) fun r_1 => if r_1 = 0 then (some ((-1 : Int32), (0 : Int32))) else (if (x1 < 0 ∨ n_t_text ≤ x1.toNatClampNeg) then none else some ((e_t_text x1.toNatClampNeg), (0 : Int32)))
def rm_Md_character : Room := { frames := 1, cells := 0, slots := 0, locals := 22 }
set_option maxHeartbeats 4000000 in
set_option maxRecDepth 100000 in
theorem c_Md_character (l : Launch) (dC : Nat → ClassId) (dI : Nat → Nat → Nat) (a_t a_t_text a_t_digits a_t_counts a_t_points a_t_limbs a_t_cells a_t_lines a_t_draft : Nat) (c_t_text : ClassId) (n_t_text : Nat) (s_t_thrown : Int32) (s_t_length : Int32) (s_t_place : Int32) (s_t_limbCount : Int32) (s_t_rows : Int32) (s_t_columns : Int32) (s_t_laid : Int32) (s_t_size : Int32) (e_t_text : Nat → Int32) (x1 : Int32) (r_ : Int32) (s_t_thrown_o : Int32) (h : f_Md_character n_t_text s_t_thrown s_t_length s_t_place s_t_limbCount s_t_rows s_t_columns s_t_laid s_t_size e_t_text x1 = some (r_, s_t_thrown_o)) : xM l y_Md_character (Cond.code y_Md_character b_Md_character 2 (some .int) :: xG) rm_Md_character (dC, dI) x_cl x_nz [.ref a_t, .int x1] [(c_t_text, .int)] [(a_t, .inr (8, [.int s_t_thrown, .int s_t_length, .ref a_t_text, .int s_t_place, .ref a_t_digits, .ref a_t_counts, .ref a_t_points, .ref a_t_limbs, .int s_t_limbCount, .int s_t_rows, .int s_t_columns, .ref a_t_cells, .int s_t_laid, .ref a_t_lines, .int s_t_size, .ref a_t_draft])), (a_t_text, .inl (c_t_text, n_t_text, .inl e_t_text))] (some (.int r_)) [(a_t, .inr (8, [.int s_t_thrown_o, .int s_t_length, .ref a_t_text, .int s_t_place, .ref a_t_digits, .ref a_t_counts, .ref a_t_points, .ref a_t_limbs, .int s_t_limbCount, .int s_t_rows, .int s_t_columns, .ref a_t_cells, .int s_t_laid, .ref a_t_lines, .int s_t_size, .ref a_t_draft])), (a_t_text, .inl (c_t_text, n_t_text, .inl e_t_text))] := by
  unfold f_Md_character at h
  refine xM.mkI (cc := b_Md_character) (maxL := 2)  (by decide +kernel) rfl (Nat.le_of_ble_eq_true rfl) ?_
  intro p e s m args below meth c A Q ls hx hb hml hown hts hNz hA hP hD hK hl hret
  have hS : va_S A s.heap s.heap [] := va_S.rf
  have hl : lv_has ls 2 [(0, .ref a_t), (1, .int x1)] := hl
  refine lv_aload_n hx hb d_Md_character_0 rfl (lv_at hl 0 rfl) ?_
  refine lv_iconst (v := 0) hx hb d_Md_character_1 (by decide) ?_
  refine va_put (D := (dC, dI)) (ci := 8) (v := .int (0 : Int32)) (ty := .int) (C := R_Md) (T := T_Md) (N := 16) hx hb hts in_Md ty_Md tyok_Md nn_Md hown hK hP hD hS 0 rfl rfl 0 (by decide) (hts _ g_706) (fun _ h9 => h9) rfl (by decide +kernel) rfl rfl (Nat.le_of_ble_eq_true rfl) d_Md_character_2 (fun H locs hP hD hS => ?_)
  have hP : va_P (dC, dI) x_cl [(a_t, .inr (8, [.int (0 : Int32), .int s_t_length, .ref a_t_text, .int s_t_place, .ref a_t_digits, .ref a_t_counts, .ref a_t_points, .ref a_t_limbs, .int s_t_limbCount, .int s_t_rows, .int s_t_columns, .ref a_t_cells, .int s_t_laid, .ref a_t_lines, .int s_t_size, .ref a_t_draft])), (a_t_text, .inl (c_t_text, n_t_text, .inl e_t_text))] H := hP
  have hD : va_D A [(a_t, .inr (8, [.int (0 : Int32), .int s_t_length, .ref a_t_text, .int s_t_place, .ref a_t_digits, .ref a_t_counts, .ref a_t_points, .ref a_t_limbs, .int s_t_limbCount, .int s_t_rows, .int s_t_columns, .ref a_t_cells, .int s_t_laid, .ref a_t_lines, .int s_t_size, .ref a_t_draft])), (a_t_text, .inl (c_t_text, n_t_text, .inl e_t_text))] := hD
  refine lv_iload_n hx hb d_Md_character_5 rfl (lv_at hl 1 rfl) ?_
  refine lv_iconst (v := 0) hx hb d_Md_character_6 (by decide) ?_
  refine lv_aload_n hx hb d_Md_character_7 rfl (lv_at hl 0 rfl) ?_
  refine va_get (D := (dC, dI)) (ci := 8) (v := .int s_t_length) (C := R_Md) (T := T_Md) (N := 16) hx hb hts in_Md hown hK hP 0 rfl rfl 1 (by decide) (hts _ g_707) (fun _ h9 => h9) rfl d_Md_character_8 ?_
  refine lv_iconst (v := 1) hx hb d_Md_character_11 (by decide) ?_
  refine lv_isub hx hb d_Md_character_12 ?_
  replace h := xob_s h
  obtain ⟨r_1, hc_2, h⟩ := h
  try dsimp only at h
  refine xcS (As := [.int x1, .int (0 : Int32), .int (s_t_length - (1 : Int32))]) (rest := []) (st1 := [.int r_1]) (wr := [(a_t, .inr (8, [.int (0 : Int32), .int s_t_length, .ref a_t_text, .int s_t_place, .ref a_t_digits, .ref a_t_counts, .ref a_t_points, .ref a_t_limbs, .int s_t_limbCount, .int s_t_rows, .int s_t_columns, .ref a_t_cells, .int s_t_laid, .ref a_t_lines, .int s_t_size, .ref a_t_draft])), (a_t_text, .inl (c_t_text, n_t_text, .inl e_t_text))]) ⟨hx, hb, hml, hown, hts⟩ (c_Md_in l dC dI x1 (0 : Int32) (s_t_length - (1 : Int32)) r_1 hc_2) (⟨callB_of 3 hts (xgood g_765) rfl rfl rfl (hts _ g_10) (hts _ g_763) (by decide +kernel) ⟨Nat.le_of_ble_eq_true rfl, Nat.le_of_ble_eq_true rfl⟩, (hts _ g_764)⟩) hNz hA hP hD hS hK [] [0, 1] [] rfl rfl rfl rfl (by decide) rfl rfl rfl rfl hl.1 (Nat.le_of_ble_eq_true rfl) ⟨Nat.zero_le _, Nat.zero_le _⟩ d_Md_character_13 (fun H locs hP hD hS => ?_)
  have hP : va_P (dC, dI) x_cl [(a_t, .inr (8, [.int (0 : Int32), .int s_t_length, .ref a_t_text, .int s_t_place, .ref a_t_digits, .ref a_t_counts, .ref a_t_points, .ref a_t_limbs, .int s_t_limbCount, .int s_t_rows, .int s_t_columns, .ref a_t_cells, .int s_t_laid, .ref a_t_lines, .int s_t_size, .ref a_t_draft])), (a_t_text, .inl (c_t_text, n_t_text, .inl e_t_text))] H := hP
  have hD : va_D A [(a_t, .inr (8, [.int (0 : Int32), .int s_t_length, .ref a_t_text, .int s_t_place, .ref a_t_digits, .ref a_t_counts, .ref a_t_points, .ref a_t_limbs, .int s_t_limbCount, .int s_t_rows, .int s_t_columns, .ref a_t_cells, .int s_t_laid, .ref a_t_lines, .int s_t_size, .ref a_t_draft])), (a_t_text, .inl (c_t_text, n_t_text, .inl e_t_text))] := hD
  refine lv_if_eq (tgt := 28) hx hb d_Md_character_16 (by decide) (fun c_3 => ?_) (fun c_3 => ?_)
  · rw [if_pos c_3] at h
    refine lv_iconst (v := -1) hx hb d_Md_character_28 (by decide) ?_
    replace h := Option.some.inj h
    replace h := Prod.mk.inj h
    obtain ⟨h1, h⟩ := h
    subst h1
    subst h
    exact hret _ _ hP hD hS _ _ d_Md_character_29
  · rw [if_neg c_3] at h
    refine lv_aload_n hx hb d_Md_character_19 rfl (lv_at hl 0 rfl) ?_
    refine va_get (D := (dC, dI)) (ci := 8) (v := .ref a_t_text) (C := R_Md) (T := T_Md) (N := 16) hx hb hts in_Md hown hK hP 0 rfl rfl 2 (by decide) (hts _ g_708) (fun _ h9 => h9) rfl d_Md_character_20 ?_
    refine lv_iload_n hx hb d_Md_character_23 rfl (lv_at hl 1 rfl) ?_
    replace h := xg h
    obtain ⟨hg_4, h⟩ := h
    refine va_iald hx hb hK hP 1 0 rfl rfl hg_4 d_Md_character_24 ?_
    refine lv_goto (tgt := 29) hx hb d_Md_character_25 (by decide) ?_
    replace h := Option.some.inj h
    replace h := Prod.mk.inj h
    obtain ⟨h1, h⟩ := h
    subst h1
    subst h
    exact hret _ _ hP hD hS _ _ d_Md_character_29
