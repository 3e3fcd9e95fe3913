def f_Writer_addDecimal (n_t_decimal_digits : Nat) (n_q1_characters : Nat) (s_t_decimal_count : Int32) (s_t_decimal_point : Int32) (e_t_decimal_digits : Nat → Int32) (s_q1_length : Int32) (e_q1_characters : Nat → Int32) (x2 : Int32) : Option (Int32 × (Nat → Int32)) :=
  xob (f_Decimal_isPlain s_t_decimal_count s_t_decimal_point) fun r_1 => if r_1 = 0 then (xob (f_Writer_addWithExponent n_t_decimal_digits n_q1_characters s_t_decimal_count s_t_decimal_point e_t_decimal_digits s_q1_length e_q1_characters x2) fun (s_q1_length_4, e_q1_characters_5) => some (s_q1_length_4, e_q1_characters_5)) else (xob (f_Decimal_point s_t_decimal_count s_t_decimal_point) fun r_7 => xob (f_Writer_addPlaces n_t_decimal_digits n_q1_characters s_t_decimal_count s_t_decimal_point e_t_decimal_digits s_q1_length e_q1_characters (if (0 : Int32) < (x2 - r_7) then (x2 - r_7) else (0 : Int32))) fun (s_q1_length_9, e_q1_characters_10) => some (s_q1_length_9, e_q1_characters_10))
def rm_Writer_addDecimal : Room := { frames := 3, cells := 0, slots := 0, locals := 68 }
set_option maxHeartbeats 4000000 in
set_option maxRecDepth 100000 in
theorem c_Writer_addDecimal (l : Launch) (dC : Nat → ClassId) (dI : Nat → Nat → Nat) (a_t a_q1 a_t_fixed a_t_decimal a_t_low a_t_high a_t_decimal_digits a_q1_characters : Nat) (c_t_decimal_digits c_q1_characters : ClassId) (n_t_decimal_digits : Nat) (n_q1_characters : Nat) (s_t_decimal_count : Int32) (s_t_decimal_point : Int32) (e_t_decimal_digits : Nat → Int32) (s_q1_length : Int32) (e_q1_characters : Nat → Int32) (x2 : Int32) (s_q1_length_o : Int32) (e_q1_characters_o : Nat → Int32) (h : f_Writer_addDecimal n_t_decimal_digits n_q1_characters s_t_decimal_count s_t_decimal_point e_t_decimal_digits s_q1_length e_q1_characters x2 = some (s_q1_length_o, e_q1_characters_o)) : xM l y_Writer_addDecimal (Cond.code y_Writer_addDecimal b_Writer_addDecimal 3 none :: xG) rm_Writer_addDecimal (dC, dI) x_cl x_nz [.ref a_t, .ref a_q1, .int x2] [(c_t_decimal_digits, .byte), (c_q1_characters, .byte)] [(a_t, .inr (6, [.ref a_t_fixed, .ref a_t_decimal, .ref a_t_low, .ref a_t_high])), (a_t_decimal, .inr (0, [.ref a_t_decimal_digits, .int s_t_decimal_count, .int s_t_decimal_point])), (a_t_decimal_digits, .inl (c_t_decimal_digits, n_t_decimal_digits, .inl e_t_decimal_digits)), (a_q1, .inr (5, [.ref a_q1_characters, .int s_q1_length])), (a_q1_characters, .inl (c_q1_characters, n_q1_characters, .inl e_q1_characters))] none [(a_t, .inr (6, [.ref a_t_fixed, .ref a_t_decimal, .ref a_t_low, .ref a_t_high])), (a_t_decimal, .inr (0, [.ref a_t_decimal_digits, .int s_t_decimal_count, .int s_t_decimal_point])), (a_t_decimal_digits, .inl (c_t_decimal_digits, n_t_decimal_digits, .inl e_t_decimal_digits)), (a_q1, .inr (5, [.ref a_q1_characters, .int s_q1_length_o])), (a_q1_characters, .inl (c_q1_characters, n_q1_characters, .inl e_q1_characters_o))] := by
  unfold f_Writer_addDecimal at h
  refine xM.mkV (cc := b_Writer_addDecimal) (maxL := 3)  (by decide +kernel) rfl (Nat.le_of_ble_eq_true rfl) ?_
  intro p e s m args below meth c A Q ls hx hb hml hown hts hNz hA hP hD hK hl hret
  have hS : va_S A s.heap s.heap [] := va_S.rf
  have hl : lv_has ls 3 [(0, .ref a_t), (1, .ref a_q1), (2, .int x2)] := hl
  refine lv_aload_n hx hb d_Writer_addDecimal_0 rfl (lv_at hl 0 rfl) ?_
  refine va_get (D := (dC, dI)) (ci := 6) (v := .ref a_t_decimal) (C := R_Writer) (T := T_Writer) (N := 4) hx hb hts in_Writer hown hK hP 0 rfl rfl 1 (by decide) (hts _ g_124) (fun _ h9 => h9) rfl d_Writer_addDecimal_1 ?_
  replace h := xob_s h
  obtain ⟨r_1, hc_2, h⟩ := h
  try dsimp only at h
  refine xcV (As := []) (rest := []) (st1 := [.int r_1]) (wr := [(a_t, .inr (6, [.ref a_t_fixed, .ref a_t_decimal, .ref a_t_low, .ref a_t_high])), (a_t_decimal_digits, .inl (c_t_decimal_digits, n_t_decimal_digits, .inl e_t_decimal_digits)), (a_q1, .inr (5, [.ref a_q1_characters, .int s_q1_length])), (a_q1_characters, .inl (c_q1_characters, n_q1_characters, .inl e_q1_characters))]) ⟨hx, hb, hml, hown, hts⟩ (c_Decimal_isPlain l dC dI a_t_decimal a_t_decimal_digits s_t_decimal_count s_t_decimal_point r_1 hc_2) (cwV 0 hts (xgoodV g_372 g_373 g_374 g_6 g_375) rfl rfl rfl (by decide +kernel) ⟨Nat.le_of_ble_eq_true rfl, Nat.le_of_ble_eq_true rfl⟩) hNz (ci := 0) (q0 := 1) rfl rfl hA hP hD hS hK [1] [0, 2, 3, 4] [] rfl rfl rfl rfl (by decide) rfl rfl rfl rfl hl.1 (Nat.le_of_ble_eq_true rfl) ⟨Nat.zero_le _, Nat.zero_le _⟩ d_Writer_addDecimal_4 (fun H locs hP hD hS => ?_)
  have hP : va_P (dC, dI) x_cl [(a_t, .inr (6, [.ref a_t_fixed, .ref a_t_decimal, .ref a_t_low, .ref a_t_high])), (a_t_decimal_digits, .inl (c_t_decimal_digits, n_t_decimal_digits, .inl e_t_decimal_digits)), (a_q1, .inr (5, [.ref a_q1_characters, .int s_q1_length])), (a_q1_characters, .inl (c_q1_characters, n_q1_characters, .inl e_q1_characters)), (a_t_decimal, .inr (0, [.ref a_t_decimal_digits, .int s_t_decimal_count, .int s_t_decimal_point]))] H := hP
  have hD : va_D A [(a_t, .inr (6, [.ref a_t_fixed, .ref a_t_decimal, .ref a_t_low, .ref a_t_high])), (a_t_decimal_digits, .inl (c_t_decimal_digits, n_t_decimal_digits, .inl e_t_decimal_digits)), (a_q1, .inr (5, [.ref a_q1_characters, .int s_q1_length])), (a_q1_characters, .inl (c_q1_characters, n_q1_characters, .inl e_q1_characters)), (a_t_decimal, .inr (0, [.ref a_t_decimal_digits, .int s_t_decimal_count, .int s_t_decimal_point]))] := hD
  refine lv_if_eq (tgt := 31) hx hb d_Writer_addDecimal_7 (by decide) (fun c_3 => ?_) (fun c_3 => ?_)
  · rw [if_pos c_3] at h
    refine lv_aload_n hx hb d_Writer_addDecimal_31 rfl (lv_at hl 0 rfl) ?_
    refine lv_aload_n hx hb d_Writer_addDecimal_32 rfl (lv_at hl 1 rfl) ?_
    refine lv_iload_n hx hb d_Writer_addDecimal_33 rfl (lv_at hl 2 rfl) ?_
    replace h := xob_s h
    obtain ⟨⟨s_q1_length_4, e_q1_characters_5⟩, hc_6, h⟩ := h
    try dsimp only at h
    refine xcV (As := [.ref a_q1, .int x2]) (rest := []) (st1 := []) (wr := []) ⟨hx, hb, hml, hown, hts⟩ (c_Writer_addWithExponent l dC dI a_t a_q1 a_t_fixed a_t_decimal a_t_low a_t_high a_t_decimal_digits a_q1_characters c_t_decimal_digits c_q1_characters n_t_decimal_digits n_q1_characters s_t_decimal_count s_t_decimal_point e_t_decimal_digits s_q1_length e_q1_characters x2 s_q1_length_4 e_q1_characters_5 hc_6) (cwV 2 hts (xgoodV g_386 g_388 gp_10 g_8 g_389) rfl rfl rfl (by decide +kernel) ⟨Nat.le_of_ble_eq_true rfl, Nat.le_of_ble_eq_true rfl⟩) hNz (ci := 6) (q0 := 0) rfl rfl hA hP hD hS hK [0, 4, 1, 2, 3] [] [0, 1] rfl rfl rfl rfl (by decide) rfl rfl rfl rfl hl.1 (Nat.le_of_ble_eq_true rfl) ⟨Nat.zero_le _, Nat.zero_le _⟩ d_Writer_addDecimal_34 (fun H locs hP hD hS => ?_)
    have hP : va_P (dC, dI) x_cl [(a_t, .inr (6, [.ref a_t_fixed, .ref a_t_decimal, .ref a_t_low, .ref a_t_high])), (a_t_decimal, .inr (0, [.ref a_t_decimal_digits, .int s_t_decimal_count, .int s_t_decimal_point])), (a_t_decimal_digits, .inl (c_t_decimal_digits, n_t_decimal_digits, .inl e_t_decimal_digits)), (a_q1, .inr (5, [.ref a_q1_characters, .int s_q1_length_4])), (a_q1_characters, .inl (c_q1_characters, n_q1_characters, .inl e_q1_characters_5))] H := hP
    have hD : va_D A [(a_t, .inr (6, [.ref a_t_fixed, .ref a_t_decimal, .ref a_t_low, .ref a_t_high])), (a_t_decimal, .inr (0, [.ref a_t_decimal_digits, .int s_t_decimal_count, .int s_t_decimal_point])), (a_t_decimal_digits, .inl (c_t_decimal_digits, n_t_decimal_digits, .inl e_t_decimal_digits)), (a_q1, .inr (5, [.ref a_q1_characters, .int s_q1_length_4])), (a_q1_characters, .inl (c_q1_characters, n_q1_characters, .inl e_q1_characters_5))] := hD
    replace h := Option.some.inj h
    replace h := Prod.mk.inj h
    obtain ⟨h1, h⟩ := h
    subst h1
    subst h
    exact hret _ _ hP hD hS _ _ d_Writer_addDecimal_37
  · rw [if_neg c_3] at h
    refine lv_aload_n hx hb d_Writer_addDecimal_10 rfl (lv_at hl 0 rfl) ?_
    refine lv_aload_n hx hb d_Writer_addDecimal_11 rfl (lv_at hl 1 rfl) ?_
    refine lv_iconst (v := 0) hx hb d_Writer_addDecimal_12 (by decide) ?_
    refine lv_iload_n hx hb d_Writer_addDecimal_13 rfl (lv_at hl 2 rfl) ?_
    refine lv_aload_n hx hb d_Writer_addDecimal_14 rfl (lv_at hl 0 rfl) ?_
    refine va_get (D := (dC, dI)) (ci := 6) (v := .ref a_t_decimal) (C := R_Writer) (T := T_Writer) (N := 4) hx hb hts in_Writer hown hK hP 0 rfl rfl 1 (by decide) (hts _ g_124) (fun _ h9 => h9) rfl d_Writer_addDecimal_15 ?_
    replace h := xob_s h
    obtain ⟨r_7, hc_8, h⟩ := h
    try dsimp only at h
    refine xcV (As := []) (rest := [.int x2, .int (0 : Int32), .ref a_q1, .ref a_t]) (st1 := [.int r_7, .int x2, .int (0 : Int32), .ref a_q1, .ref a_t]) (wr := [(a_t, .inr (6, [.ref a_t_fixed, .ref a_t_decimal, .ref a_t_low, .ref a_t_high])), (a_t_decimal_digits, .inl (c_t_decimal_digits, n_t_decimal_digits, .inl e_t_decimal_digits)), (a_q1, .inr (5, [.ref a_q1_characters, .int s_q1_length])), (a_q1_characters, .inl (c_q1_characters, n_q1_characters, .inl e_q1_characters))]) ⟨hx, hb, hml, hown, hts⟩ (c_Decimal_point l dC dI a_t_decimal a_t_decimal_digits s_t_decimal_count s_t_decimal_point r_7 hc_8) (cwV 0 hts (xgoodV g_337 g_338 g_339 g_6 g_340) rfl rfl rfl (by decide +kernel) ⟨Nat.le_of_ble_eq_true rfl, Nat.le_of_ble_eq_true rfl⟩) hNz (ci := 0) (q0 := 4) rfl rfl hA hP hD hS hK [4] [0, 1, 2, 3] [] rfl rfl rfl rfl (by decide) rfl rfl rfl rfl hl.1 (Nat.le_of_ble_eq_true rfl) ⟨Nat.zero_le _, Nat.zero_le _⟩ d_Writer_addDecimal_18 (fun H locs hP hD hS => ?_)
    have hP : va_P (dC, dI) x_cl [(a_t, .inr (6, [.ref a_t_fixed, .ref a_t_decimal, .ref a_t_low, .ref a_t_high])), (a_t_decimal_digits, .inl (c_t_decimal_digits, n_t_decimal_digits, .inl e_t_decimal_digits)), (a_q1, .inr (5, [.ref a_q1_characters, .int s_q1_length])), (a_q1_characters, .inl (c_q1_characters, n_q1_characters, .inl e_q1_characters)), (a_t_decimal, .inr (0, [.ref a_t_decimal_digits, .int s_t_decimal_count, .int s_t_decimal_point]))] H := hP
    have hD : va_D A [(a_t, .inr (6, [.ref a_t_fixed, .ref a_t_decimal, .ref a_t_low, .ref a_t_high])), (a_t_decimal_digits, .inl (c_t_decimal_digits, n_t_decimal_digits, .inl e_t_decimal_digits)), (a_q1, .inr (5, [.ref a_q1_characters, .int s_q1_length])), (a_q1_characters, .inl (c_q1_characters, n_q1_characters, .inl e_q1_characters)), (a_t_decimal, .inr (0, [.ref a_t_decimal_digits, .int s_t_decimal_count, .int s_t_decimal_point]))] := hD
    refine lv_isub hx hb d_Writer_addDecimal_21 ?_
    refine va_mmax hx hb (by rw [hml]; exact hl.1.symm) hown (hts _ g_376) (hts _ g_33) (hts _ g_3) (hts _ g_34) (Nat.le_of_ble_eq_true rfl) (Nat.le_of_ble_eq_true rfl) (Nat.le_of_ble_eq_true rfl) (Nat.le_of_ble_eq_true rfl) d_Writer_addDecimal_22 ?_
    replace h := xob_s h
    obtain ⟨⟨s_q1_length_9, e_q1_characters_10⟩, hc_11, h⟩ := h
    try dsimp only at h
    refine xcV (As := [.ref a_q1, .int (if (0 : Int32) < (x2 - r_7) then (x2 - r_7) else (0 : Int32))]) (rest := []) (st1 := []) (wr := []) ⟨hx, hb, hml, hown, hts⟩ (c_Writer_addPlaces l dC dI a_t a_q1 a_t_fixed a_t_decimal a_t_low a_t_high a_t_decimal_digits a_q1_characters c_t_decimal_digits c_q1_characters n_t_decimal_digits n_q1_characters s_t_decimal_count s_t_decimal_point e_t_decimal_digits s_q1_length e_q1_characters (if (0 : Int32) < (x2 - r_7) then (x2 - r_7) else (0 : Int32)) s_q1_length_9 e_q1_characters_10 hc_11) (cwV 2 hts (xgoodV g_377 g_379 gp_8 g_8 g_380) rfl rfl rfl (by decide +kernel) ⟨Nat.le_of_ble_eq_true rfl, Nat.le_of_ble_eq_true rfl⟩) hNz (ci := 6) (q0 := 0) rfl rfl hA hP hD hS hK [0, 4, 1, 2, 3] [] [0, 1] rfl rfl rfl rfl (by decide) rfl rfl rfl rfl hl.1 (Nat.le_of_ble_eq_true rfl) ⟨Nat.zero_le _, Nat.zero_le _⟩ d_Writer_addDecimal_25 (fun H locs hP hD hS => ?_)
    have hP : va_P (dC, dI) x_cl [(a_t, .inr (6, [.ref a_t_fixed, .ref a_t_decimal, .ref a_t_low, .ref a_t_high])), (a_t_decimal, .inr (0, [.ref a_t_decimal_digits, .int s_t_decimal_count, .int s_t_decimal_point])), (a_t_decimal_digits, .inl (c_t_decimal_digits, n_t_decimal_digits, .inl e_t_decimal_digits)), (a_q1, .inr (5, [.ref a_q1_characters, .int s_q1_length_9])), (a_q1_characters, .inl (c_q1_characters, n_q1_characters, .inl e_q1_characters_10))] H := hP
    have hD : va_D A [(a_t, .inr (6, [.ref a_t_fixed, .ref a_t_decimal, .ref a_t_low, .ref a_t_high])), (a_t_decimal, .inr (0, [.ref a_t_decimal_digits, .int s_t_decimal_count, .int s_t_decimal_point])), (a_t_decimal_digits, .inl (c_t_decimal_digits, n_t_decimal_digits, .inl e_t_decimal_digits)), (a_q1, .inr (5, [.ref a_q1_characters, .int s_q1_length_9])), (a_q1_characters, .inl (c_q1_characters, n_q1_characters, .inl e_q1_characters_10))] := hD
    refine lv_goto (tgt := 37) hx hb d_Writer_addDecimal_28 (by decide) ?_
    replace h := Option.some.inj h
    replace h := Prod.mk.inj h
    obtain ⟨h1, h⟩ := h
    subst h1
    subst h
    exact hret _ _ hP hD hS _ _ d_Writer_addDecimal_37
def f_Writer_addShort (n_t_fixed_limbs : Nat) (n_t_decimal_digits : Nat) (n_t_low_digits : Nat) (n_t_high_digits : Nat) (n_q1_characters : Nat) (s_t_fixed_first : Int32) (s_t_fixed_end : Int32) (e_t_fixed_limbs : Nat → Int32) (s_t_decimal_count : Int32) (s_t_decimal_point : Int32) (e_t_decimal_digits : Nat → Int32) (s_t_low_count : Int32) (s_t_low_point : Int32) (e_t_low_digits : Nat → Int32) (s_t_high_count : Int32) (s_t_high_point : Int32) (e_t_high_digits : Nat → Int32) (s_q1_length : Int32) (e_q1_characters : Nat → Int32) (x2 : Int64) : Option (Int32 × Int32 × (Nat → Int32) × Int32 × Int32 × (Nat → Int32) × Int32 × Int32 × (Nat → Int32) × Int32 × Int32 × (Nat → Int32) × Int32 × (Nat → Int32)) :=
  xob (f_Writer_addsDigits n_q1_characters s_q1_length e_q1_characters x2) fun (r_1, s_q1_length_2, e_q1_characters_3) => if r_1 = 0 then (some (s_t_fixed_end, s_t_fixed_first, e_t_fixed_limbs, s_t_decimal_count, s_t_decimal_point, e_t_decimal_digits, s_t_low_count, s_t_low_point, e_t_low_digits, s_t_high_count, s_t_high_point, e_t_high_digits, s_q1_length_2, e_q1_characters_3)) else (xob (f_Writer_addedZero n_q1_characters s_q1_length_2 e_q1_characters_3 x2) fun (r_6, s_q1_length_7, e_q1_characters_8) => if r_6 = 0 then (xob (f_Writer_findShort n_t_fixed_limbs n_t_decimal_digits n_t_low_digits n_t_high_digits s_t_fixed_first s_t_fixed_end e_t_fixed_limbs s_t_decimal_count s_t_decimal_point e_t_decimal_digits s_t_low_count s_t_low_point e_t_low_digits s_t_high_count s_t_high_point e_t_high_digits x2) fun (s_t_fixed_end_11, s_t_fixed_first_12, e_t_fixed_limbs_13, s_t_decimal_count_14, s_t_decimal_point_15, e_t_decimal_digits_16, s_t_low_count_17, s_t_low_point_18, e_t_low_digits_19, s_t_high_count_20, s_t_high_point_21, e_t_high_digits_22) => xob (f_Decimal_count s_t_decimal_count_14 s_t_decimal_point_15) fun r_24 => xob (f_Writer_addDecimal n_t_decimal_digits n_q1_characters s_t_decimal_count_14 s_t_decimal_point_15 e_t_decimal_digits_16 s_q1_length_7 e_q1_characters_8 r_24) fun (s_q1_length_26, e_q1_characters_27) => some (s_t_fixed_end_11, s_t_fixed_first_12, e_t_fixed_limbs_13, s_t_decimal_count_14, s_t_decimal_point_15, e_t_decimal_digits_16, s_t_low_count_17, s_t_low_point_18, e_t_low_digits_19, s_t_high_count_20, s_t_high_point_21, e_t_high_digits_22, s_q1_length_26, e_q1_characters_27)) else (some (s_t_fixed_end, s_t_fixed_first, e_t_fixed_limbs, s_t_decimal_count, s_t_decimal_point, e_t_decimal_digits, s_t_low_count, s_t_low_point, e_t_low_digits, s_t_high_count, s_t_high_point, e_t_high_digits, s_q1_length_7, e_q1_characters_8)))
def rm_Writer_addShort : Room := { frames := 5, cells := 0, slots := 0, locals := 125 }
set_option maxHeartbeats 4000000 in
set_option maxRecDepth 100000 in
theorem c_Writer_addShort (l : Launch) (dC : Nat → ClassId) (dI : Nat → Nat → Nat) (a_t a_q1 a_t_fixed a_t_decimal a_t_low a_t_high a_t_fixed_limbs a_t_decimal_digits a_t_low_digits a_t_high_digits a_q1_characters : Nat) (c_t_fixed_limbs c_t_decimal_digits c_t_low_digits c_t_high_digits c_q1_characters : ClassId) (n_t_fixed_limbs : Nat) (n_t_decimal_digits : Nat) (n_t_low_digits : Nat) (n_t_high_digits : Nat) (n_q1_characters : Nat) (s_t_fixed_first : Int32) (s_t_fixed_end : Int32) (e_t_fixed_limbs : Nat → Int32) (s_t_decimal_count : Int32) (s_t_decimal_point : Int32) (e_t_decimal_digits : Nat → Int32) (s_t_low_count : Int32) (s_t_low_point : Int32) (e_t_low_digits : Nat → Int32) (s_t_high_count : Int32) (s_t_high_point : Int32) (e_t_high_digits : Nat → Int32) (s_q1_length : Int32) (e_q1_characters : Nat → Int32) (x2 : Int64) (s_t_fixed_end_o : Int32) (s_t_fixed_first_o : Int32) (e_t_fixed_limbs_o : Nat → Int32) (s_t_decimal_count_o : Int32) (s_t_decimal_point_o : Int32) (e_t_decimal_digits_o : Nat → Int32) (s_t_low_count_o : Int32) (s_t_low_point_o : Int32) (e_t_low_digits_o : Nat → Int32) (s_t_high_count_o : Int32) (s_t_high_point_o : Int32) (e_t_high_digits_o : Nat → Int32) (s_q1_length_o : Int32) (e_q1_characters_o : Nat → Int32) (h : f_Writer_addShort n_t_fixed_limbs n_t_decimal_digits n_t_low_digits n_t_high_digits n_q1_characters s_t_fixed_first s_t_fixed_end e_t_fixed_limbs s_t_decimal_count s_t_decimal_point e_t_decimal_digits s_t_low_count s_t_low_point e_t_low_digits s_t_high_count s_t_high_point e_t_high_digits s_q1_length e_q1_characters x2 = some (s_t_fixed_end_o, s_t_fixed_first_o, e_t_fixed_limbs_o, s_t_decimal_count_o, s_t_decimal_point_o, e_t_decimal_digits_o, s_t_low_count_o, s_t_low_point_o, e_t_low_digits_o, s_t_high_count_o, s_t_high_point_o, e_t_high_digits_o, s_q1_length_o, e_q1_characters_o)) : xM l y_Writer_addShort (Cond.code y_Writer_addShort b_Writer_addShort 4 none :: xG) rm_Writer_addShort (dC, dI) x_cl x_nz [.ref a_t, .ref a_q1, .long x2] [(c_t_fixed_limbs, .int), (c_t_decimal_digits, .byte), (c_t_low_digits, .byte), (c_t_high_digits, .byte), (c_q1_characters, .byte)] [(a_t, .inr (6, [.ref a_t_fixed, .ref a_t_decimal, .ref a_t_low, .ref a_t_high])), (a_t_fixed, .inr (1, [.ref a_t_fixed_limbs, .int s_t_fixed_first, .int s_t_fixed_end])), (a_t_fixed_limbs, .inl (c_t_fixed_limbs, n_t_fixed_limbs, .inl e_t_fixed_limbs)), (a_t_decimal, .inr (0, [.ref a_t_decimal_digits, .int s_t_decimal_count, .int s_t_decimal_point])), (a_t_decimal_digits, .inl (c_t_decimal_digits, n_t_decimal_digits, .inl e_t_decimal_digits)), (a_t_low, .inr (0, [.ref a_t_low_digits, .int s_t_low_count, .int s_t_low_point])), (a_t_low_digits, .inl (c_t_low_digits, n_t_low_digits, .inl e_t_low_digits)), (a_t_high, .inr (0, [.ref a_t_high_digits, .int s_t_high_count, .int s_t_high_point])), (a_t_high_digits, .inl (c_t_high_digits, n_t_high_digits, .inl e_t_high_digits)), (a_q1, .inr (5, [.ref a_q1_characters, .int s_q1_length])), (a_q1_characters, .inl (c_q1_characters, n_q1_characters, .inl e_q1_characters))] none [(a_t, .inr (6, [.ref a_t_fixed, .ref a_t_decimal, .ref a_t_low, .ref a_t_high])), (a_t_fixed, .inr (1, [.ref a_t_fixed_limbs, .int s_t_fixed_first_o, .int s_t_fixed_end_o])), (a_t_fixed_limbs, .inl (c_t_fixed_limbs, n_t_fixed_limbs, .inl e_t_fixed_limbs_o)), (a_t_decimal, .inr (0, [.ref a_t_decimal_digits, .int s_t_decimal_count_o, .int s_t_decimal_point_o])), (a_t_decimal_digits, .inl (c_t_decimal_digits, n_t_decimal_digits, .inl e_t_decimal_digits_o)), (a_t_low, .inr (0, [.ref a_t_low_digits, .int s_t_low_count_o, .int s_t_low_point_o])), (a_t_low_digits, .inl (c_t_low_digits, n_t_low_digits, .inl e_t_low_digits_o)), (a_t_high, .inr (0, [.ref a_t_high_digits, .int s_t_high_count_o, .int s_t_high_point_o])), (a_t_high_digits, .inl (c_t_high_digits, n_t_high_digits, .inl e_t_high_digits_o)), (a_q1, .inr (5, [.ref a_q1_characters, .int s_q1_length_o])), (a_q1_characters, .inl (c_q1_characters, n_q1_characters, .inl e_q1_characters_o))] := by
  unfold f_Writer_addShort at h
  refine xM.mkV (cc := b_Writer_addShort) (maxL := 4)  (by decide +kernel) rfl (Nat.le_of_ble_eq_true rfl) ?_
  intro p e s m args below meth c A Q ls hx hb hml hown hts hNz hA hP hD hK hl hret
  have hS : va_S A s.heap s.heap [] := va_S.rf
  have hl : lv_has ls 4 [(0, .ref a_t), (1, .ref a_q1), (2, .long x2)] := hl
  refine lv_aload_n hx hb d_Writer_addShort_0 rfl (lv_at hl 1 rfl) ?_
  refine lv_lload_n hx hb d_Writer_addShort_1 rfl (lv_at hl 2 rfl) ?_
  replace h := xob_s h
  obtain ⟨⟨r_1, s_q1_length_2, e_q1_characters_3⟩, hc_4, h⟩ := h
  try dsimp only at h
  refine xcS (As := [.ref a_q1, .long x2]) (rest := []) (st1 := [.int r_1]) (wr := [(a_t, .inr (6, [.ref a_t_fixed, .ref a_t_decimal, .ref a_t_low, .ref a_t_high])), (a_t_fixed, .inr (1, [.ref a_t_fixed_limbs, .int s_t_fixed_first, .int s_t_fixed_end])), (a_t_fixed_limbs, .inl (c_t_fixed_limbs, n_t_fixed_limbs, .inl e_t_fixed_limbs)), (a_t_decimal, .inr (0, [.ref a_t_decimal_digits, .int s_t_decimal_count, .int s_t_decimal_point])), (a_t_decimal_digits, .inl (c_t_decimal_digits, n_t_decimal_digits, .inl e_t_decimal_digits)), (a_t_low, .inr (0, [.ref a_t_low_digits, .int s_t_low_count, .int s_t_low_point])), (a_t_low_digits, .inl (c_t_low_digits, n_t_low_digits, .inl e_t_low_digits)), (a_t_high, .inr (0, [.ref a_t_high_digits, .int s_t_high_count, .int s_t_high_point])), (a_t_high_digits, .inl (c_t_high_digits, n_t_high_digits, .inl e_t_high_digits))]) ⟨hx, hb, hml, hown, hts⟩ (c_Writer_addsDigits l dC dI a_q1 a_q1_characters c_q1_characters n_q1_characters s_q1_length e_q1_characters x2 r_1 s_q1_length_2 e_q1_characters_3 hc_4) (⟨callB_of 2 hts (xgood g_231) rfl rfl rfl (hts _ g_8) (hts _ g_229) (by decide +kernel) ⟨Nat.le_of_ble_eq_true rfl, Nat.le_of_ble_eq_true rfl⟩, (hts _ g_230)⟩) hNz hA hP hD hS hK [9, 10] [0, 1, 2, 3, 4, 5, 6, 7, 8] [4] rfl rfl rfl rfl (by decide) rfl rfl rfl rfl hl.1 (Nat.le_of_ble_eq_true rfl) ⟨Nat.zero_le _, Nat.zero_le _⟩ d_Writer_addShort_2 (fun H locs hP hD hS => ?_)
  have hP : va_P (dC, dI) x_cl [(a_t, .inr (6, [.ref a_t_fixed, .ref a_t_decimal, .ref a_t_low, .ref a_t_high])), (a_t_fixed, .inr (1, [.ref a_t_fixed_limbs, .int s_t_fixed_first, .int s_t_fixed_end])), (a_t_fixed_limbs, .inl (c_t_fixed_limbs, n_t_fixed_limbs, .inl e_t_fixed_limbs)), (a_t_decimal, .inr (0, [.ref a_t_decimal_digits, .int s_t_decimal_count, .int s_t_decimal_point])), (a_t_decimal_digits, .inl (c_t_decimal_digits, n_t_decimal_digits, .inl e_t_decimal_digits)), (a_t_low, .inr (0, [.ref a_t_low_digits, .int s_t_low_count, .int s_t_low_point])), (a_t_low_digits, .inl (c_t_low_digits, n_t_low_digits, .inl e_t_low_digits)), (a_t_high, .inr (0, [.ref a_t_high_digits, .int s_t_high_count, .int s_t_high_point])), (a_t_high_digits, .inl (c_t_high_digits, n_t_high_digits, .inl e_t_high_digits)), (a_q1, .inr (5, [.ref a_q1_characters, .int s_q1_length_2])), (a_q1_characters, .inl (c_q1_characters, n_q1_characters, .inl e_q1_characters_3))] H := hP
  have hD : va_D A [(a_t, .inr (6, [.ref a_t_fixed, .ref a_t_decimal, .ref a_t_low, .ref a_t_high])), (a_t_fixed, .inr (1, [.ref a_t_fixed_limbs, .int s_t_fixed_first, .int s_t_fixed_end])), (a_t_fixed_limbs, .inl (c_t_fixed_limbs, n_t_fixed_limbs, .inl e_t_fixed_limbs)), (a_t_decimal, .inr (0, [.ref a_t_decimal_digits, .int s_t_decimal_count, .int s_t_decimal_point])), (a_t_decimal_digits, .inl (c_t_decimal_digits, n_t_decimal_digits, .inl e_t_decimal_digits)), (a_t_low, .inr (0, [.ref a_t_low_digits, .int s_t_low_count, .int s_t_low_point])), (a_t_low_digits, .inl (c_t_low_digits, n_t_low_digits, .inl e_t_low_digits)), (a_t_high, .inr (0, [.ref a_t_high_digits, .int s_t_high_count, .int s_t_high_point])), (a_t_high_digits, .inl (c_t_high_digits, n_t_high_digits, .inl e_t_high_digits)), (a_q1, .inr (5, [.ref a_q1_characters, .int s_q1_length_2])), (a_q1_characters, .inl (c_q1_characters, n_q1_characters, .inl e_q1_characters_3))] := hD
  refine lv_if_eq (tgt := 33) hx hb d_Writer_addShort_5 (by decide) (fun c_5 => ?_) (fun c_5 => ?_)
  · rw [if_pos c_5] at h
    replace h := Option.some.inj h
    replace h := Prod.mk.inj h
    obtain ⟨h1, h⟩ := h
    subst h1
    replace h := Prod.mk.inj h
    obtain ⟨h1, h⟩ := h
    subst h1
    replace h := Prod.mk.inj h
    obtain ⟨h1, h⟩ := h
    subst h1
    replace h := Prod.mk.inj h
    obtain ⟨h1, h⟩ := h
    subst h1
    replace h := Prod.mk.inj h
    obtain ⟨h1, h⟩ := h
    subst h1
    replace h := Prod.mk.inj h
    obtain ⟨h1, h⟩ := h
    subst h1
    replace h := Prod.mk.inj h
    obtain ⟨h1, h⟩ := h
    subst h1
    replace h := Prod.mk.inj h
    obtain ⟨h1, h⟩ := h
    subst h1
    replace h := Prod.mk.inj h
    obtain ⟨h1, h⟩ := h
    subst h1
    replace h := Prod.mk.inj h
    obtain ⟨h1, h⟩ := h
    subst h1
    replace h := Prod.mk.inj h
    obtain ⟨h1, h⟩ := h
    subst h1
    replace h := Prod.mk.inj h
    obtain ⟨h1, h⟩ := h
    subst h1
    replace h := Prod.mk.inj h
    obtain ⟨h1, h⟩ := h
    subst h1
    subst h
    exact hret _ _ hP hD hS _ _ d_Writer_addShort_33
  · rw [if_neg c_5] at h
    refine lv_aload_n hx hb d_Writer_addShort_8 rfl (lv_at hl 1 rfl) ?_
    refine lv_lload_n hx hb d_Writer_addShort_9 rfl (lv_at hl 2 rfl) ?_
    replace h := xob_s h
    obtain ⟨⟨r_6, s_q1_length_7, e_q1_characters_8⟩, hc_9, h⟩ := h
    try dsimp only at h
    refine xcS (As := [.ref a_q1, .long x2]) (rest := []) (st1 := [.int r_6]) (wr := [(a_t, .inr (6, [.ref a_t_fixed, .ref a_t_decimal, .ref a_t_low, .ref a_t_high])), (a_t_fixed, .inr (1, [.ref a_t_fixed_limbs, .int s_t_fixed_first, .int s_t_fixed_end])), (a_t_fixed_limbs, .inl (c_t_fixed_limbs, n_t_fixed_limbs, .inl e_t_fixed_limbs)), (a_t_decimal, .inr (0, [.ref a_t_decimal_digits, .int s_t_decimal_count, .int s_t_decimal_point])), (a_t_decimal_digits, .inl (c_t_decimal_digits, n_t_decimal_digits, .inl e_t_decimal_digits)), (a_t_low, .inr (0, [.ref a_t_low_digits, .int s_t_low_count, .int s_t_low_point])), (a_t_low_digits, .inl (c_t_low_digits, n_t_low_digits, .inl e_t_low_digits)), (a_t_high, .inr (0, [.ref a_t_high_digits, .int s_t_high_count, .int s_t_high_point])), (a_t_high_digits, .inl (c_t_high_digits, n_t_high_digits, .inl e_t_high_digits))]) ⟨hx, hb, hml, hown, hts⟩ (c_Writer_addedZero l dC dI a_q1 a_q1_characters c_q1_characters n_q1_characters s_q1_length_2 e_q1_characters_3 x2 r_6 s_q1_length_7 e_q1_characters_8 hc_9) (⟨callB_of 2 hts (xgood g_248) rfl rfl rfl (hts _ g_8) (hts _ g_246) (by decide +kernel) ⟨Nat.le_of_ble_eq_true rfl, Nat.le_of_ble_eq_true rfl⟩, (hts _ g_247)⟩) hNz hA hP hD hS hK [9, 10] [0, 1, 2, 3, 4, 5, 6, 7, 8] [4] rfl rfl rfl rfl (by decide) rfl rfl rfl rfl hl.1 (Nat.le_of_ble_eq_true rfl) ⟨Nat.zero_le _, Nat.zero_le _⟩ d_Writer_addShort_10 (fun H locs hP hD hS => ?_)
    have hP : va_P (dC, dI) x_cl [(a_t, .inr (6, [.ref a_t_fixed, .ref a_t_decimal, .ref a_t_low, .ref a_t_high])), (a_t_fixed, .inr (1, [.ref a_t_fixed_limbs, .int s_t_fixed_first, .int s_t_fixed_end])), (a_t_fixed_limbs, .inl (c_t_fixed_limbs, n_t_fixed_limbs, .inl e_t_fixed_limbs)), (a_t_decimal, .inr (0, [.ref a_t_decimal_digits, .int s_t_decimal_count, .int s_t_decimal_point])), (a_t_decimal_digits, .inl (c_t_decimal_digits, n_t_decimal_digits, .inl e_t_decimal_digits)), (a_t_low, .inr (0, [.ref a_t_low_digits, .int s_t_low_count, .int s_t_low_point])), (a_t_low_digits, .inl (c_t_low_digits, n_t_low_digits, .inl e_t_low_digits)), (a_t_high, .inr (0, [.ref a_t_high_digits, .int s_t_high_count, .int s_t_high_point])), (a_t_high_digits, .inl (c_t_high_digits, n_t_high_digits, .inl e_t_high_digits)), (a_q1, .inr (5, [.ref a_q1_characters, .int s_q1_length_7])), (a_q1_characters, .inl (c_q1_characters, n_q1_characters, .inl e_q1_characters_8))] H := hP
    have hD : va_D A [(a_t, .inr (6, [.ref a_t_fixed, .ref a_t_decimal, .ref a_t_low, .ref a_t_high])), (a_t_fixed, .inr (1, [.ref a_t_fixed_limbs, .int s_t_fixed_first, .int s_t_fixed_end])), (a_t_fixed_limbs, .inl (c_t_fixed_limbs, n_t_fixed_limbs, .inl e_t_fixed_limbs)), (a_t_decimal, .inr (0, [.ref a_t_decimal_digits, .int s_t_decimal_count, .int s_t_decimal_point])), (a_t_decimal_digits, .inl (c_t_decimal_digits, n_t_decimal_digits, .inl e_t_decimal_digits)), (a_t_low, .inr (0, [.ref a_t_low_digits, .int s_t_low_count, .int s_t_low_point])), (a_t_low_digits, .inl (c_t_low_digits, n_t_low_digits, .inl e_t_low_digits)), (a_t_high, .inr (0, [.ref a_t_high_digits, .int s_t_high_count, .int s_t_high_point])), (a_t_high_digits, .inl (c_t_high_digits, n_t_high_digits, .inl e_t_high_digits)), (a_q1, .inr (5, [.ref a_q1_characters, .int s_q1_length_7])), (a_q1_characters, .inl (c_q1_characters, n_q1_characters, .inl e_q1_characters_8))] := hD
    refine lv_if_ne (tgt := 33) hx hb d_Writer_addShort_13 (by decide) (fun c_10 => ?_) (fun c_10 => ?_)
    · rw [if_neg c_10] at h
      replace h := Option.some.inj h
      replace h := Prod.mk.inj h
      obtain ⟨h1, h⟩ := h
      subst h1
      replace h := Prod.mk.inj h
      obtain ⟨h1, h⟩ := h
      subst h1
      replace h := Prod.mk.inj h
      obtain ⟨h1, h⟩ := h
      subst h1
      replace h := Prod.mk.inj h
      obtain ⟨h1, h⟩ := h
      subst h1
      replace h := Prod.mk.inj h
      obtain ⟨h1, h⟩ := h
      subst h1
      replace h := Prod.mk.inj h
      obtain ⟨h1, h⟩ := h
      subst h1
      replace h := Prod.mk.inj h
      obtain ⟨h1, h⟩ := h
      subst h1
      replace h := Prod.mk.inj h
      obtain ⟨h1, h⟩ := h
      subst h1
      replace h := Prod.mk.inj h
      obtain ⟨h1, h⟩ := h
      subst h1
      replace h := Prod.mk.inj h
      obtain ⟨h1, h⟩ := h
      subst h1
      replace h := Prod.mk.inj h
      obtain ⟨h1, h⟩ := h
      subst h1
      replace h := Prod.mk.inj h
      obtain ⟨h1, h⟩ := h
      subst h1
      replace h := Prod.mk.inj h
      obtain ⟨h1, h⟩ := h
      subst h1
      subst h
      exact hret _ _ hP hD hS _ _ d_Writer_addShort_33
    · rw [if_pos c_10] at h
      refine lv_aload_n hx hb d_Writer_addShort_16 rfl (lv_at hl 0 rfl) ?_
      refine lv_lload_n hx hb d_Writer_addShort_17 rfl (lv_at hl 2 rfl) ?_
      replace h := xob_s h
      obtain ⟨⟨s_t_fixed_end_11, s_t_fixed_first_12, e_t_fixed_limbs_13, s_t_decimal_count_14, s_t_decimal_point_15, e_t_decimal_digits_16, s_t_low_count_17, s_t_low_point_18, e_t_low_digits_19, s_t_high_count_20, s_t_high_point_21, e_t_high_digits_22⟩, hc_23, h⟩ := h
      try dsimp only at h
      refine xcV (As := [.long x2]) (rest := []) (st1 := []) (wr := [(a_q1, .inr (5, [.ref a_q1_characters, .int s_q1_length_7])), (a_q1_characters, .inl (c_q1_characters, n_q1_characters, .inl e_q1_characters_8))]) ⟨hx, hb, hml, hown, hts⟩ (c_Writer_findShort l dC dI a_t a_t_fixed a_t_decimal a_t_low a_t_high a_t_fixed_limbs a_t_decimal_digits a_t_low_digits a_t_high_digits c_t_fixed_limbs c_t_decimal_digits c_t_low_digits c_t_high_digits n_t_fixed_limbs n_t_decimal_digits n_t_low_digits n_t_high_digits s_t_fixed_first s_t_fixed_end e_t_fixed_limbs s_t_decimal_count s_t_decimal_point e_t_decimal_digits s_t_low_count s_t_low_point e_t_low_digits s_t_high_count s_t_high_point e_t_high_digits x2 s_t_fixed_end_11 s_t_fixed_first_12 e_t_fixed_limbs_13 s_t_decimal_count_14 s_t_decimal_point_15 e_t_decimal_digits_16 s_t_low_count_17 s_t_low_point_18 e_t_low_digits_19 s_t_high_count_20 s_t_high_point_21 e_t_high_digits_22 hc_23) (cwV 1 hts (xgoodV g_252 g_254 gp_0 g_8 g_255) rfl rfl rfl (by decide +kernel) ⟨Nat.le_of_ble_eq_true rfl, Nat.le_of_ble_eq_true rfl⟩) hNz (ci := 6) (q0 := 0) rfl rfl hA hP hD hS hK [0, 1, 2, 3, 4, 5, 6, 7, 8] [9, 10] [0, 1, 2, 3] rfl rfl rfl rfl (by decide) rfl rfl rfl rfl hl.1 (Nat.le_of_ble_eq_true rfl) ⟨Nat.zero_le _, Nat.zero_le _⟩ d_Writer_addShort_18 (fun H locs hP hD hS => ?_)
      have hP : va_P (dC, dI) x_cl [(a_q1, .inr (5, [.ref a_q1_characters, .int s_q1_length_7])), (a_q1_characters, .inl (c_q1_characters, n_q1_characters, .inl e_q1_characters_8)), (a_t, .inr (6, [.ref a_t_fixed, .ref a_t_decimal, .ref a_t_low, .ref a_t_high])), (a_t_fixed, .inr (1, [.ref a_t_fixed_limbs, .int s_t_fixed_first_12, .int s_t_fixed_end_11])), (a_t_fixed_limbs, .inl (c_t_fixed_limbs, n_t_fixed_limbs, .inl e_t_fixed_limbs_13)), (a_t_decimal, .inr (0, [.ref a_t_decimal_digits, .int s_t_decimal_count_14, .int s_t_decimal_point_15])), (a_t_decimal_digits, .inl (c_t_decimal_digits, n_t_decimal_digits, .inl e_t_decimal_digits_16)), (a_t_low, .inr (0, [.ref a_t_low_digits, .int s_t_low_count_17, .int s_t_low_point_18])), (a_t_low_digits, .inl (c_t_low_digits, n_t_low_digits, .inl e_t_low_digits_19)), (a_t_high, .inr (0, [.ref a_t_high_digits, .int s_t_high_count_20, .int s_t_high_point_21])), (a_t_high_digits, .inl (c_t_high_digits, n_t_high_digits, .inl e_t_high_digits_22))] H := hP
      have hD : va_D A [(a_q1, .inr (5, [.ref a_q1_characters, .int s_q1_length_7])), (a_q1_characters, .inl (c_q1_characters, n_q1_characters, .inl e_q1_characters_8)), (a_t, .inr (6, [.ref a_t_fixed, .ref a_t_decimal, .ref a_t_low, .ref a_t_high])), (a_t_fixed, .inr (1, [.ref a_t_fixed_limbs, .int s_t_fixed_first_12, .int s_t_fixed_end_11])), (a_t_fixed_limbs, .inl (c_t_fixed_limbs, n_t_fixed_limbs, .inl e_t_fixed_limbs_13)), (a_t_decimal, .inr (0, [.ref a_t_decimal_digits, .int s_t_decimal_count_14, .int s_t_decimal_point_15])), (a_t_decimal_digits, .inl (c_t_decimal_digits, n_t_decimal_digits, .inl e_t_decimal_digits_16)), (a_t_low, .inr (0, [.ref a_t_low_digits, .int s_t_low_count_17, .int s_t_low_point_18])), (a_t_low_digits, .inl (c_t_low_digits, n_t_low_digits, .inl e_t_low_digits_19)), (a_t_high, .inr (0, [.ref a_t_high_digits, .int s_t_high_count_20, .int s_t_high_point_21])), (a_t_high_digits, .inl (c_t_high_digits, n_t_high_digits, .inl e_t_high_digits_22))] := hD
      refine lv_aload_n hx hb d_Writer_addShort_21 rfl (lv_at hl 0 rfl) ?_
      refine lv_aload_n hx hb d_Writer_addShort_22 rfl (lv_at hl 1 rfl) ?_
      refine lv_aload_n hx hb d_Writer_addShort_23 rfl (lv_at hl 0 rfl) ?_
      refine va_get (D := (dC, dI)) (ci := 6) (v := .ref a_t_decimal) (C := R_Writer) (T := T_Writer) (N := 4) hx hb hts in_Writer hown hK hP 2 rfl rfl 1 (by decide) (hts _ g_124) (fun _ h9 => h9) rfl d_Writer_addShort_24 ?_
      replace h := xob_s h
      obtain ⟨r_24, hc_25, h⟩ := h
      try dsimp only at h
      refine xcV (As := []) (rest := [.ref a_q1, .ref a_t]) (st1 := [.int r_24, .ref a_q1, .ref a_t]) (wr := [(a_q1, .inr (5, [.ref a_q1_characters, .int s_q1_length_7])), (a_q1_characters, .inl (c_q1_characters, n_q1_characters, .inl e_q1_characters_8)), (a_t, .inr (6, [.ref a_t_fixed, .ref a_t_decimal, .ref a_t_low, .ref a_t_high])), (a_t_fixed, .inr (1, [.ref a_t_fixed_limbs, .int s_t_fixed_first_12, .int s_t_fixed_end_11])), (a_t_fixed_limbs, .inl (c_t_fixed_limbs, n_t_fixed_limbs, .inl e_t_fixed_limbs_13)), (a_t_decimal_digits, .inl (c_t_decimal_digits, n_t_decimal_digits, .inl e_t_decimal_digits_16)), (a_t_low, .inr (0, [.ref a_t_low_digits, .int s_t_low_count_17, .int s_t_low_point_18])), (a_t_low_digits, .inl (c_t_low_digits, n_t_low_digits, .inl e_t_low_digits_19)), (a_t_high, .inr (0, [.ref a_t_high_digits, .int s_t_high_count_20, .int s_t_high_point_21])), (a_t_high_digits, .inl (c_t_high_digits, n_t_high_digits, .inl e_t_high_digits_22))]) ⟨hx, hb, hml, hown, hts⟩ (c_Decimal_count l dC dI a_t_decimal a_t_decimal_digits s_t_decimal_count_14 s_t_decimal_point_15 r_24 hc_25) (cwV 0 hts (xgoodV g_367 g_317 g_318 g_6 g_319) rfl rfl rfl (by decide +kernel) ⟨Nat.le_of_ble_eq_true rfl, Nat.le_of_ble_eq_true rfl⟩) hNz (ci := 0) (q0 := 5) rfl rfl hA hP hD hS hK [5] [0, 1, 2, 3, 4, 6, 7, 8, 9, 10] [] rfl rfl rfl rfl (by decide) rfl rfl rfl rfl hl.1 (Nat.le_of_ble_eq_true rfl) ⟨Nat.zero_le _, Nat.zero_le _⟩ d_Writer_addShort_27 (fun H locs hP hD hS => ?_)
      have hP : va_P (dC, dI) x_cl [(a_q1, .inr (5, [.ref a_q1_characters, .int s_q1_length_7])), (a_q1_characters, .inl (c_q1_characters, n_q1_characters, .inl e_q1_characters_8)), (a_t, .inr (6, [.ref a_t_fixed, .ref a_t_decimal, .ref a_t_low, .ref a_t_high])), (a_t_fixed, .inr (1, [.ref a_t_fixed_limbs, .int s_t_fixed_first_12, .int s_t_fixed_end_11])), (a_t_fixed_limbs, .inl (c_t_fixed_limbs, n_t_fixed_limbs, .inl e_t_fixed_limbs_13)), (a_t_decimal_digits, .inl (c_t_decimal_digits, n_t_decimal_digits, .inl e_t_decimal_digits_16)), (a_t_low, .inr (0, [.ref a_t_low_digits, .int s_t_low_count_17, .int s_t_low_point_18])), (a_t_low_digits, .inl (c_t_low_digits, n_t_low_digits, .inl e_t_low_digits_19)), (a_t_high, .inr (0, [.ref a_t_high_digits, .int s_t_high_count_20, .int s_t_high_point_21])), (a_t_high_digits, .inl (c_t_high_digits, n_t_high_digits, .inl e_t_high_digits_22)), (a_t_decimal, .inr (0, [.ref a_t_decimal_digits, .int s_t_decimal_count_14, .int s_t_decimal_point_15]))] H := hP
      have hD : va_D A [(a_q1, .inr (5, [.ref a_q1_characters, .int s_q1_length_7])), (a_q1_characters, .inl (c_q1_characters, n_q1_characters, .inl e_q1_characters_8)), (a_t, .inr (6, [.ref a_t_fixed, .ref a_t_decimal, .ref a_t_low, .ref a_t_high])), (a_t_fixed, .inr (1, [.ref a_t_fixed_limbs, .int s_t_fixed_first_12, .int s_t_fixed_end_11])), (a_t_fixed_limbs, .inl (c_t_fixed_limbs, n_t_fixed_limbs, .inl e_t_fixed_limbs_13)), (a_t_decimal_digits, .inl (c_t_decimal_digits, n_t_decimal_digits, .inl e_t_decimal_digits_16)), (a_t_low, .inr (0, [.ref a_t_low_digits, .int s_t_low_count_17, .int s_t_low_point_18])), (a_t_low_digits, .inl (c_t_low_digits, n_t_low_digits, .inl e_t_low_digits_19)), (a_t_high, .inr (0, [.ref a_t_high_digits, .int s_t_high_count_20, .int s_t_high_point_21])), (a_t_high_digits, .inl (c_t_high_digits, n_t_high_digits, .inl e_t_high_digits_22)), (a_t_decimal, .inr (0, [.ref a_t_decimal_digits, .int s_t_decimal_count_14, .int s_t_decimal_point_15]))] := hD
      replace h := xob_s h
      obtain ⟨⟨s_q1_length_26, e_q1_characters_27⟩, hc_28, h⟩ := h
      try dsimp only at h
      refine xcV (As := [.ref a_q1, .int r_24]) (rest := []) (st1 := []) (wr := [(a_t_fixed, .inr (1, [.ref a_t_fixed_limbs, .int s_t_fixed_first_12, .int s_t_fixed_end_11])), (a_t_fixed_limbs, .inl (c_t_fixed_limbs, n_t_fixed_limbs, .inl e_t_fixed_limbs_13)), (a_t_low, .inr (0, [.ref a_t_low_digits, .int s_t_low_count_17, .int s_t_low_point_18])), (a_t_low_digits, .inl (c_t_low_digits, n_t_low_digits, .inl e_t_low_digits_19)), (a_t_high, .inr (0, [.ref a_t_high_digits, .int s_t_high_count_20, .int s_t_high_point_21])), (a_t_high_digits, .inl (c_t_high_digits, n_t_high_digits, .inl e_t_high_digits_22))]) ⟨hx, hb, hml, hown, hts⟩ (c_Writer_addDecimal l dC dI a_t a_q1 a_t_fixed a_t_decimal a_t_low a_t_high a_t_decimal_digits a_q1_characters c_t_decimal_digits c_q1_characters n_t_decimal_digits n_q1_characters s_t_decimal_count_14 s_t_decimal_point_15 e_t_decimal_digits_16 s_q1_length_7 e_q1_characters_8 r_24 s_q1_length_26 e_q1_characters_27 hc_28) (cwV 2 hts (xgoodV g_368 g_370 gp_7 g_8 g_371) rfl rfl rfl (by decide +kernel) ⟨Nat.le_of_ble_eq_true rfl, Nat.le_of_ble_eq_true rfl⟩) hNz (ci := 6) (q0 := 2) rfl rfl hA hP hD hS hK [2, 10, 5, 0, 1] [3, 4, 6, 7, 8, 9] [1, 4] rfl rfl rfl rfl (by decide) rfl rfl rfl rfl hl.1 (Nat.le_of_ble_eq_true rfl) ⟨Nat.zero_le _, Nat.zero_le _⟩ d_Writer_addShort_30 (fun H locs hP hD hS => ?_)
      have hP : va_P (dC, dI) x_cl [(a_t_fixed, .inr (1, [.ref a_t_fixed_limbs, .int s_t_fixed_first_12, .int s_t_fixed_end_11])), (a_t_fixed_limbs, .inl (c_t_fixed_limbs, n_t_fixed_limbs, .inl e_t_fixed_limbs_13)), (a_t_low, .inr (0, [.ref a_t_low_digits, .int s_t_low_count_17, .int s_t_low_point_18])), (a_t_low_digits, .inl (c_t_low_digits, n_t_low_digits, .inl e_t_low_digits_19)), (a_t_high, .inr (0, [.ref a_t_high_digits, .int s_t_high_count_20, .int s_t_high_point_21])), (a_t_high_digits, .inl (c_t_high_digits, n_t_high_digits, .inl e_t_high_digits_22)), (a_t, .inr (6, [.ref a_t_fixed, .ref a_t_decimal, .ref a_t_low, .ref a_t_high])), (a_t_decimal, .inr (0, [.ref a_t_decimal_digits, .int s_t_decimal_count_14, .int s_t_decimal_point_15])), (a_t_decimal_digits, .inl (c_t_decimal_digits, n_t_decimal_digits, .inl e_t_decimal_digits_16)), (a_q1, .inr (5, [.ref a_q1_characters, .int s_q1_length_26])), (a_q1_characters, .inl (c_q1_characters, n_q1_characters, .inl e_q1_characters_27))] H := hP
      have hD : va_D A [(a_t_fixed, .inr (1, [.ref a_t_fixed_limbs, .int s_t_fixed_first_12, .int s_t_fixed_end_11])), (a_t_fixed_limbs, .inl (c_t_fixed_limbs, n_t_fixed_limbs, .inl e_t_fixed_limbs_13)), (a_t_low, .inr (0, [.ref a_t_low_digits, .int s_t_low_count_17, .int s_t_low_point_18])), (a_t_low_digits, .inl (c_t_low_digits, n_t_low_digits, .inl e_t_low_digits_19)), (a_t_high, .inr (0, [.ref a_t_high_digits, .int s_t_high_count_20, .int s_t_high_point_21])), (a_t_high_digits, .inl (c_t_high_digits, n_t_high_digits, .inl e_t_high_digits_22)), (a_t, .inr (6, [.ref a_t_fixed, .ref a_t_decimal, .ref a_t_low, .ref a_t_high])), (a_t_decimal, .inr (0, [.ref a_t_decimal_digits, .int s_t_decimal_count_14, .int s_t_decimal_point_15])), (a_t_decimal_digits, .inl (c_t_decimal_digits, n_t_decimal_digits, .inl e_t_decimal_digits_16)), (a_q1, .inr (5, [.ref a_q1_characters, .int s_q1_length_26])), (a_q1_characters, .inl (c_q1_characters, n_q1_characters, .inl e_q1_characters_27))] := hD
      replace h := Option.some.inj h
      replace h := Prod.mk.inj h
      obtain ⟨h1, h⟩ := h
      subst h1
      replace h := Prod.mk.inj h
      obtain ⟨h1, h⟩ := h
      subst h1
      replace h := Prod.mk.inj h
      obtain ⟨h1, h⟩ := h
      subst h1
      replace h := Prod.mk.inj h
      obtain ⟨h1, h⟩ := h
      subst h1
      replace h := Prod.mk.inj h
      obtain ⟨h1, h⟩ := h
      subst h1
      replace h := Prod.mk.inj h
      obtain ⟨h1, h⟩ := h
      subst h1
      replace h := Prod.mk.inj h
      obtain ⟨h1, h⟩ := h
      subst h1
      replace h := Prod.mk.inj h
      obtain ⟨h1, h⟩ := h
      subst h1
      replace h := Prod.mk.inj h
      obtain ⟨h1, h⟩ := h
      subst h1
      replace h := Prod.mk.inj h
      obtain ⟨h1, h⟩ := h
      subst h1
      replace h := Prod.mk.inj h
      obtain ⟨h1, h⟩ := h
      subst h1
      replace h := Prod.mk.inj h
      obtain ⟨h1, h⟩ := h
      subst h1
      replace h := Prod.mk.inj h
      obtain ⟨h1, h⟩ := h
      subst h1
      subst h
      exact hret _ _ (hP.sub [6, 0, 1, 7, 8, 2, 3, 4, 5, 9, 10] rfl) (hD.sub [6, 0, 1, 7, 8, 2, 3, 4, 5, 9, 10] (by decide) rfl) hS _ _ d_Writer_addShort_33
def f_NT_write (n_t_text_characters : Nat) (n_t_writer_fixed_limbs : Nat) (n_t_writer_decimal_digits : Nat) (n_t_writer_low_digits : Nat) (n_t_writer_high_digits : Nat) (s_t_wrongPlace : Int32) (s_t_text_length : Int32) (e_t_text_characters : Nat → Int32) (s_t_writer_fixed_first : Int32) (s_t_writer_fixed_end : Int32) (e_t_writer_fixed_limbs : Nat → Int32) (s_t_writer_decimal_count : Int32) (s_t_writer_decimal_point : Int32) (e_t_writer_decimal_digits : Nat → Int32) (s_t_writer_low_count : Int32) (s_t_writer_low_point : Int32) (e_t_writer_low_digits : Nat → Int32) (s_t_writer_high_count : Int32) (s_t_writer_high_point : Int32) (e_t_writer_high_digits : Nat → Int32) (x1 : Int64) : Option (Int32 × Int32 × (Nat → Int32) × Int32 × Int32 × (Nat → Int32) × Int32 × Int32 × (Nat → Int32) × Int32 × Int32 × (Nat → Int32) × Int32 × Int32 × (Nat → Int32)) :=
  xob (f_Text_clear s_t_text_length) fun s_t_text_length_1 => xob (f_Writer_addShort n_t_writer_fixed_limbs n_t_writer_decimal_digits n_t_writer_low_digits n_t_writer_high_digits n_t_text_characters s_t_writer_fixed_first s_t_writer_fixed_end e_t_writer_fixed_limbs s_t_writer_decimal_count s_t_writer_decimal_point e_t_writer_decimal_digits s_t_writer_low_count s_t_writer_low_point e_t_writer_low_digits s_t_writer_high_count s_t_writer_high_point e_t_writer_high_digits s_t_text_length_1 e_t_text_characters x1) fun (s_t_writer_fixed_end_3, s_t_writer_fixed_first_4, e_t_writer_fixed_limbs_5, s_t_writer_decimal_count_6, s_t_writer_decimal_point_7, e_t_writer_decimal_digits_8, s_t_writer_low_count_9, s_t_writer_low_point_10, e_t_writer_low_digits_11, s_t_writer_high_count_12, s_t_writer_high_point_13, e_t_writer_high_digits_14, s_t_text_length_15, e_t_text_characters_16) => xob (f_Text_length s_t_text_length_15) fun r_18 => some (r_18, s_t_text_length_15, e_t_text_characters_16, s_t_writer_fixed_end_3, s_t_writer_fixed_first_4, e_t_writer_fixed_limbs_5, s_t_writer_decimal_count_6, s_t_writer_decimal_point_7, e_t_writer_decimal_digits_8, s_t_writer_low_count_9, s_t_writer_low_point_10, e_t_writer_low_digits_11, s_t_writer_high_count_12, s_t_writer_high_point_13, e_t_writer_high_digits_14)
def rm_NT_write : Room := { frames := 6, cells := 0, slots := 0, locals := 148 }
set_option maxHeartbeats 4000000 in
set_option maxRecDepth 100000 in
theorem c_NT_write (l : Launch) (dC : Nat → ClassId) (dI : Nat → Nat → Nat) (a_t a_t_text a_t_numeral a_t_writer a_t_grid a_t_text_characters a_t_writer_fixed a_t_writer_decimal a_t_writer_low a_t_writer_high a_t_writer_fixed_limbs a_t_writer_decimal_digits a_t_writer_low_digits a_t_writer_high_digits : Nat) (c_t_text_characters c_t_writer_fixed_limbs c_t_writer_decimal_digits c_t_writer_low_digits c_t_writer_high_digits : ClassId) (n_t_text_characters : Nat) (n_t_writer_fixed_limbs : Nat) (n_t_writer_decimal_digits : Nat) (n_t_writer_low_digits : Nat) (n_t_writer_high_digits : Nat) (s_t_wrongPlace : Int32) (s_t_text_length : Int32) (e_t_text_characters : Nat → Int32) (s_t_writer_fixed_first : Int32) (s_t_writer_fixed_end : Int32) (e_t_writer_fixed_limbs : Nat → Int32) (s_t_writer_decimal_count : Int32) (s_t_writer_decimal_point : Int32) (e_t_writer_decimal_digits : Nat → Int32) (s_t_writer_low_count : Int32) (s_t_writer_low_point : Int32) (e_t_writer_low_digits : Nat → Int32) (s_t_writer_high_count : Int32) (s_t_writer_high_point : Int32) (e_t_writer_high_digits : Nat → Int32) (x1 : Int64) (r_ : Int32) (s_t_text_length_o : Int32) (e_t_text_characters_o : Nat → Int32) (s_t_writer_fixed_end_o : Int32) (s_t_writer_fixed_first_o : Int32) (e_t_writer_fixed_limbs_o : Nat → Int32) (s_t_writer_decimal_count_o : Int32) (s_t_writer_decimal_point_o : Int32) (e_t_writer_decimal_digits_o : Nat → Int32) (s_t_writer_low_count_o : Int32) (s_t_writer_low_point_o : Int32) (e_t_writer_low_digits_o : Nat → Int32) (s_t_writer_high_count_o : Int32) (s_t_writer_high_point_o : Int32) (e_t_writer_high_digits_o : Nat → Int32) (h : f_NT_write n_t_text_characters n_t_writer_fixed_limbs n_t_writer_decimal_digits n_t_writer_low_digits n_t_writer_high_digits s_t_wrongPlace s_t_text_length e_t_text_characters s_t_writer_fixed_first s_t_writer_fixed_end e_t_writer_fixed_limbs s_t_writer_decimal_count s_t_writer_decimal_point e_t_writer_decimal_digits s_t_writer_low_count s_t_writer_low_point e_t_writer_low_digits s_t_writer_high_count s_t_writer_high_point e_t_writer_high_digits x1 = some (r_, s_t_text_length_o, e_t_text_characters_o, s_t_writer_fixed_end_o, s_t_writer_fixed_first_o, e_t_writer_fixed_limbs_o, s_t_writer_decimal_count_o, s_t_writer_decimal_point_o, e_t_writer_decimal_digits_o, s_t_writer_low_count_o, s_t_writer_low_point_o, e_t_writer_low_digits_o, s_t_writer_high_count_o, s_t_writer_high_point_o, e_t_writer_high_digits_o)) : xM l y_NT_write (Cond.code y_NT_write b_NT_write 3 (some .int) :: xG) rm_NT_write (dC, dI) x_cl x_nz [.ref a_t, .long x1] [(c_t_text_characters, .byte), (c_t_writer_fixed_limbs, .int), (c_t_writer_decimal_digits, .byte), (c_t_writer_low_digits, .byte), (c_t_writer_high_digits, .byte)] [(a_t, .inr (7, [.ref a_t_text, .ref a_t_numeral, .ref a_t_writer, .ref a_t_grid, .int s_t_wrongPlace])), (a_t_text, .inr (5, [.ref a_t_text_characters, .int s_t_text_length])), (a_t_text_characters, .inl (c_t_text_characters, n_t_text_characters, .inl e_t_text_characters)), (a_t_writer, .inr (6, [.ref a_t_writer_fixed, .ref a_t_writer_decimal, .ref a_t_writer_low, .ref a_t_writer_high])), (a_t_writer_fixed, .inr (1, [.ref a_t_writer_fixed_limbs, .int s_t_writer_fixed_first, .int s_t_writer_fixed_end])), (a_t_writer_fixed_limbs, .inl (c_t_writer_fixed_limbs, n_t_writer_fixed_limbs, .inl e_t_writer_fixed_limbs)), (a_t_writer_decimal, .inr (0, [.ref a_t_writer_decimal_digits, .int s_t_writer_decimal_count, .int s_t_writer_decimal_point])), (a_t_writer_decimal_digits, .inl (c_t_writer_decimal_digits, n_t_writer_decimal_digits, .inl e_t_writer_decimal_digits)), (a_t_writer_low, .inr (0, [.ref a_t_writer_low_digits, .int s_t_writer_low_count, .int s_t_writer_low_point])), (a_t_writer_low_digits, .inl (c_t_writer_low_digits, n_t_writer_low_digits, .inl e_t_writer_low_digits)), (a_t_writer_high, .inr (0, [.ref a_t_writer_high_digits, .int s_t_writer_high_count, .int s_t_writer_high_point])), (a_t_writer_high_digits, .inl (c_t_writer_high_digits, n_t_writer_high_digits, .inl e_t_writer_high_digits))] (some (.int r_)) [(a_t, .inr (7, [.ref a_t_text, .ref a_t_numeral, .ref a_t_writer, .ref a_t_grid, .int s_t_wrongPlace])), (a_t_text, .inr (5, [.ref a_t_text_characters, .int s_t_text_length_o])), (a_t_text_characters, .inl (c_t_text_characters, n_t_text_characters, .inl e_t_text_characters_o)), (a_t_writer, .inr (6, [.ref a_t_writer_fixed, .ref a_t_writer_decimal, .ref a_t_writer_low, .ref a_t_writer_high])), (a_t_writer_fixed, .inr (1, [.ref a_t_writer_fixed_limbs, .int s_t_writer_fixed_first_o, .int s_t_writer_fixed_end_o])), (a_t_writer_fixed_limbs, .inl (c_t_writer_fixed_limbs, n_t_writer_fixed_limbs, .inl e_t_writer_fixed_limbs_o)), (a_t_writer_decimal, .inr (0, [.ref a_t_writer_decimal_digits, .int s_t_writer_decimal_count_o, .int s_t_writer_decimal_point_o])), (a_t_writer_decimal_digits, .inl (c_t_writer_decimal_digits, n_t_writer_decimal_digits, .inl e_t_writer_decimal_digits_o)), (a_t_writer_low, .inr (0, [.ref a_t_writer_low_digits, .int s_t_writer_low_count_o, .int s_t_writer_low_point_o])), (a_t_writer_low_digits, .inl (c_t_writer_low_digits, n_t_writer_low_digits, .inl e_t_writer_low_digits_o)), (a_t_writer_high, .inr (0, [.ref a_t_writer_high_digits, .int s_t_writer_high_count_o, .int s_t_writer_high_point_o])), (a_t_writer_high_digits, .inl (c_t_writer_high_digits, n_t_writer_high_digits, .inl e_t_writer_high_digits_o))] := by
  unfold f_NT_write at h
  refine xM.mkI (cc := b_NT_write) (maxL := 3)  (by decide +kernel) rfl (Nat.le_of_ble_eq_true rfl) ?_
  intro p e s m args below meth c A Q ls hx hb hml hown hts hNz hA hP hD hK hl hret
  have hS : va_S A s.heap s.heap [] := va_S.rf
  have hl : lv_has ls 3 [(0, .ref a_t), (1, .long x1)] := hl
  refine lv_aload_n hx hb d_NT_write_0 rfl (lv_at hl 0 rfl) ?_
  refine va_get (D := (dC, dI)) (ci := 7) (v := .ref a_t_text) (C := R_NT) (T := T_NT) (N := 5) hx hb hts in_NT hown hK hP 0 rfl rfl 0 (by decide) (hts _ g_170) (fun _ h9 => h9) rfl d_NT_write_1 ?_
  replace h := xob_s h
  obtain ⟨s_t_text_length_1, hc_2, h⟩ := h
  try dsimp only at h
  refine xcV (As := []) (rest := []) (st1 := []) (wr := [(a_t, .inr (7, [.ref a_t_text, .ref a_t_numeral, .ref a_t_writer, .ref a_t_grid, .int s_t_wrongPlace])), (a_t_text_characters, .inl (c_t_text_characters, n_t_text_characters, .inl e_t_text_characters)), (a_t_writer, .inr (6, [.ref a_t_writer_fixed, .ref a_t_writer_decimal, .ref a_t_writer_low, .ref a_t_writer_high])), (a_t_writer_fixed, .inr (1, [.ref a_t_writer_fixed_limbs, .int s_t_writer_fixed_first, .int s_t_writer_fixed_end])), (a_t_writer_fixed_limbs, .inl (c_t_writer_fixed_limbs, n_t_writer_fixed_limbs, .inl e_t_writer_fixed_limbs)), (a_t_writer_decimal, .inr (0, [.ref a_t_writer_decimal_digits, .int s_t_writer_decimal_count, .int s_t_writer_decimal_point])), (a_t_writer_decimal_digits, .inl (c_t_writer_decimal_digits, n_t_writer_decimal_digits, .inl e_t_writer_decimal_digits)), (a_t_writer_low, .inr (0, [.ref a_t_writer_low_digits, .int s_t_writer_low_count, .int s_t_writer_low_point])), (a_t_writer_low_digits, .inl (c_t_writer_low_digits, n_t_writer_low_digits, .inl e_t_writer_low_digits)), (a_t_writer_high, .inr (0, [.ref a_t_writer_high_digits, .int s_t_writer_high_count, .int s_t_writer_high_point])), (a_t_writer_high_digits, .inl (c_t_writer_high_digits, n_t_writer_high_digits, .inl e_t_writer_high_digits))]) ⟨hx, hb, hml, hown, hts⟩ (c_Text_clear l dC dI a_t_text a_t_text_characters s_t_text_length s_t_text_length_1 hc_2) (cwV 0 hts (xgoodV g_205 g_206 g_207 g_2 g_208) rfl rfl rfl (by decide +kernel) ⟨Nat.le_of_ble_eq_true rfl, Nat.le_of_ble_eq_true rfl⟩) hNz (ci := 5) (q0 := 1) rfl rfl hA hP hD hS hK [1] [0, 2, 3, 4, 5, 6, 7, 8, 9, 10, 11] [] rfl rfl rfl rfl (by decide) rfl rfl rfl rfl hl.1 (Nat.le_of_ble_eq_true rfl) ⟨Nat.zero_le _, Nat.zero_le _⟩ d_NT_write_4 (fun H locs hP hD hS => ?_)
  have hP : va_P (dC, dI) x_cl [(a_t, .inr (7, [.ref a_t_text, .ref a_t_numeral, .ref a_t_writer, .ref a_t_grid, .int s_t_wrongPlace])), (a_t_text_characters, .inl (c_t_text_characters, n_t_text_characters, .inl e_t_text_characters)), (a_t_writer, .inr (6, [.ref a_t_writer_fixed, .ref a_t_writer_decimal, .ref a_t_writer_low, .ref a_t_writer_high])), (a_t_writer_fixed, .inr (1, [.ref a_t_writer_fixed_limbs, .int s_t_writer_fixed_first, .int s_t_writer_fixed_end])), (a_t_writer_fixed_limbs, .inl (c_t_writer_fixed_limbs, n_t_writer_fixed_limbs, .inl e_t_writer_fixed_limbs)), (a_t_writer_decimal, .inr (0, [.ref a_t_writer_decimal_digits, .int s_t_writer_decimal_count, .int s_t_writer_decimal_point])), (a_t_writer_decimal_digits, .inl (c_t_writer_decimal_digits, n_t_writer_decimal_digits, .inl e_t_writer_decimal_digits)), (a_t_writer_low, .inr (0, [.ref a_t_writer_low_digits, .int s_t_writer_low_count, .int s_t_writer_low_point])), (a_t_writer_low_digits, .inl (c_t_writer_low_digits, n_t_writer_low_digits, .inl e_t_writer_low_digits)), (a_t_writer_high, .inr (0, [.ref a_t_writer_high_digits, .int s_t_writer_high_count, .int s_t_writer_high_point])), (a_t_writer_high_digits, .inl (c_t_writer_high_digits, n_t_writer_high_digits, .inl e_t_writer_high_digits)), (a_t_text, .inr (5, [.ref a_t_text_characters, .int s_t_text_length_1]))] H := hP
  have hD : va_D A [(a_t, .inr (7, [.ref a_t_text, .ref a_t_numeral, .ref a_t_writer, .ref a_t_grid, .int s_t_wrongPlace])), (a_t_text_characters, .inl (c_t_text_characters, n_t_text_characters, .inl e_t_text_characters)), (a_t_writer, .inr (6, [.ref a_t_writer_fixed, .ref a_t_writer_decimal, .ref a_t_writer_low, .ref a_t_writer_high])), (a_t_writer_fixed, .inr (1, [.ref a_t_writer_fixed_limbs, .int s_t_writer_fixed_first, .int s_t_writer_fixed_end])), (a_t_writer_fixed_limbs, .inl (c_t_writer_fixed_limbs, n_t_writer_fixed_limbs, .inl e_t_writer_fixed_limbs)), (a_t_writer_decimal, .inr (0, [.ref a_t_writer_decimal_digits, .int s_t_writer_decimal_count, .int s_t_writer_decimal_point])), (a_t_writer_decimal_digits, .inl (c_t_writer_decimal_digits, n_t_writer_decimal_digits, .inl e_t_writer_decimal_digits)), (a_t_writer_low, .inr (0, [.ref a_t_writer_low_digits, .int s_t_writer_low_count, .int s_t_writer_low_point])), (a_t_writer_low_digits, .inl (c_t_writer_low_digits, n_t_writer_low_digits, .inl e_t_writer_low_digits)), (a_t_writer_high, .inr (0, [.ref a_t_writer_high_digits, .int s_t_writer_high_count, .int s_t_writer_high_point])), (a_t_writer_high_digits, .inl (c_t_writer_high_digits, n_t_writer_high_digits, .inl e_t_writer_high_digits)), (a_t_text, .inr (5, [.ref a_t_text_characters, .int s_t_text_length_1]))] := hD
  refine lv_aload_n hx hb d_NT_write_7 rfl (lv_at hl 0 rfl) ?_
  refine va_get (D := (dC, dI)) (ci := 7) (v := .ref a_t_writer) (C := R_NT) (T := T_NT) (N := 5) hx hb hts in_NT hown hK hP 0 rfl rfl 2 (by decide) (hts _ g_172) (fun _ h9 => h9) rfl d_NT_write_8 ?_
  refine lv_aload_n hx hb d_NT_write_11 rfl (lv_at hl 0 rfl) ?_
  refine va_get (D := (dC, dI)) (ci := 7) (v := .ref a_t_text) (C := R_NT) (T := T_NT) (N := 5) hx hb hts in_NT hown hK hP 0 rfl rfl 0 (by decide) (hts _ g_170) (fun _ h9 => h9) rfl d_NT_write_12 ?_
  refine lv_lload_n hx hb d_NT_write_15 rfl (lv_at hl 1 rfl) ?_
  replace h := xob_s h
  obtain ⟨⟨s_t_writer_fixed_end_3, s_t_writer_fixed_first_4, e_t_writer_fixed_limbs_5, s_t_writer_decimal_count_6, s_t_writer_decimal_point_7, e_t_writer_decimal_digits_8, s_t_writer_low_count_9, s_t_writer_low_point_10, e_t_writer_low_digits_11, s_t_writer_high_count_12, s_t_writer_high_point_13, e_t_writer_high_digits_14, s_t_text_length_15, e_t_text_characters_16⟩, hc_17, h⟩ := h
  try dsimp only at h
  refine xcV (As := [.ref a_t_text, .long x1]) (rest := []) (st1 := []) (wr := [(a_t, .inr (7, [.ref a_t_text, .ref a_t_numeral, .ref a_t_writer, .ref a_t_grid, .int s_t_wrongPlace]))]) ⟨hx, hb, hml, hown, hts⟩ (c_Writer_addShort l dC dI a_t_writer a_t_text a_t_writer_fixed a_t_writer_decimal a_t_writer_low a_t_writer_high a_t_writer_fixed_limbs a_t_writer_decimal_digits a_t_writer_low_digits a_t_writer_high_digits a_t_text_characters c_t_writer_fixed_limbs c_t_writer_decimal_digits c_t_writer_low_digits c_t_writer_high_digits c_t_text_characters n_t_writer_fixed_limbs n_t_writer_decimal_digits n_t_writer_low_digits n_t_writer_high_digits n_t_text_characters s_t_writer_fixed_first s_t_writer_fixed_end e_t_writer_fixed_limbs s_t_writer_decimal_count s_t_writer_decimal_point e_t_writer_decimal_digits s_t_writer_low_count s_t_writer_low_point e_t_writer_low_digits s_t_writer_high_count s_t_writer_high_point e_t_writer_high_digits s_t_text_length_1 e_t_text_characters x1 s_t_writer_fixed_end_3 s_t_writer_fixed_first_4 e_t_writer_fixed_limbs_5 s_t_writer_decimal_count_6 s_t_writer_decimal_point_7 e_t_writer_decimal_digits_8 s_t_writer_low_count_9 s_t_writer_low_point_10 e_t_writer_low_digits_11 s_t_writer_high_count_12 s_t_writer_high_point_13 e_t_writer_high_digits_14 s_t_text_length_15 e_t_text_characters_16 hc_17) (cwV 2 hts (xgoodV g_225 g_226 g_227 g_8 g_228) rfl rfl rfl (by decide +kernel) ⟨Nat.le_of_ble_eq_true rfl, Nat.le_of_ble_eq_true rfl⟩) hNz (ci := 6) (q0 := 2) rfl rfl hA hP hD hS hK [2, 3, 4, 5, 6, 7, 8, 9, 10, 11, 1] [0] [1, 2, 3, 4, 0] rfl rfl rfl rfl (by decide) rfl rfl rfl rfl hl.1 (Nat.le_of_ble_eq_true rfl) ⟨Nat.zero_le _, Nat.zero_le _⟩ d_NT_write_16 (fun H locs hP hD hS => ?_)
  have hP : va_P (dC, dI) x_cl [(a_t, .inr (7, [.ref a_t_text, .ref a_t_numeral, .ref a_t_writer, .ref a_t_grid, .int s_t_wrongPlace])), (a_t_writer, .inr (6, [.ref a_t_writer_fixed, .ref a_t_writer_decimal, .ref a_t_writer_low, .ref a_t_writer_high])), (a_t_writer_fixed, .inr (1, [.ref a_t_writer_fixed_limbs, .int s_t_writer_fixed_first_4, .int s_t_writer_fixed_end_3])), (a_t_writer_fixed_limbs, .inl (c_t_writer_fixed_limbs, n_t_writer_fixed_limbs, .inl e_t_writer_fixed_limbs_5)), (a_t_writer_decimal, .inr (0, [.ref a_t_writer_decimal_digits, .int s_t_writer_decimal_count_6, .int s_t_writer_decimal_point_7])), (a_t_writer_decimal_digits, .inl (c_t_writer_decimal_digits, n_t_writer_decimal_digits, .inl e_t_writer_decimal_digits_8)), (a_t_writer_low, .inr (0, [.ref a_t_writer_low_digits, .int s_t_writer_low_count_9, .int s_t_writer_low_point_10])), (a_t_writer_low_digits, .inl (c_t_writer_low_digits, n_t_writer_low_digits, .inl e_t_writer_low_digits_11)), (a_t_writer_high, .inr (0, [.ref a_t_writer_high_digits, .int s_t_writer_high_count_12, .int s_t_writer_high_point_13])), (a_t_writer_high_digits, .inl (c_t_writer_high_digits, n_t_writer_high_digits, .inl e_t_writer_high_digits_14)), (a_t_text, .inr (5, [.ref a_t_text_characters, .int s_t_text_length_15])), (a_t_text_characters, .inl (c_t_text_characters, n_t_text_characters, .inl e_t_text_characters_16))] H := hP
  have hD : va_D A [(a_t, .inr (7, [.ref a_t_text, .ref a_t_numeral, .ref a_t_writer, .ref a_t_grid, .int s_t_wrongPlace])), (a_t_writer, .inr (6, [.ref a_t_writer_fixed, .ref a_t_writer_decimal, .ref a_t_writer_low, .ref a_t_writer_high])), (a_t_writer_fixed, .inr (1, [.ref a_t_writer_fixed_limbs, .int s_t_writer_fixed_first_4, .int s_t_writer_fixed_end_3])), (a_t_writer_fixed_limbs, .inl (c_t_writer_fixed_limbs, n_t_writer_fixed_limbs, .inl e_t_writer_fixed_limbs_5)), (a_t_writer_decimal, .inr (0, [.ref a_t_writer_decimal_digits, .int s_t_writer_decimal_count_6, .int s_t_writer_decimal_point_7])), (a_t_writer_decimal_digits, .inl (c_t_writer_decimal_digits, n_t_writer_decimal_digits, .inl e_t_writer_decimal_digits_8)), (a_t_writer_low, .inr (0, [.ref a_t_writer_low_digits, .int s_t_writer_low_count_9, .int s_t_writer_low_point_10])), (a_t_writer_low_digits, .inl (c_t_writer_low_digits, n_t_writer_low_digits, .inl e_t_writer_low_digits_11)), (a_t_writer_high, .inr (0, [.ref a_t_writer_high_digits, .int s_t_writer_high_count_12, .int s_t_writer_high_point_13])), (a_t_writer_high_digits, .inl (c_t_writer_high_digits, n_t_writer_high_digits, .inl e_t_writer_high_digits_14)), (a_t_text, .inr (5, [.ref a_t_text_characters, .int s_t_text_length_15])), (a_t_text_characters, .inl (c_t_text_characters, n_t_text_characters, .inl e_t_text_characters_16))] := hD
  refine lv_aload_n hx hb d_NT_write_19 rfl (lv_at hl 0 rfl) ?_
  refine va_get (D := (dC, dI)) (ci := 7) (v := .ref a_t_text) (C := R_NT) (T := T_NT) (N := 5) hx hb hts in_NT hown hK hP 0 rfl rfl 0 (by decide) (hts _ g_170) (fun _ h9 => h9) rfl d_NT_write_20 ?_
  replace h := xob_s h
  obtain ⟨r_18, hc_19, h⟩ := h
  try dsimp only at h
  refine xcV (As := []) (rest := []) (st1 := [.int r_18]) (wr := [(a_t, .inr (7, [.ref a_t_text, .ref a_t_numeral, .ref a_t_writer, .ref a_t_grid, .int s_t_wrongPlace])), (a_t_writer, .inr (6, [.ref a_t_writer_fixed, .ref a_t_writer_decimal, .ref a_t_writer_low, .ref a_t_writer_high])), (a_t_writer_fixed, .inr (1, [.ref a_t_writer_fixed_limbs, .int s_t_writer_fixed_first_4, .int s_t_writer_fixed_end_3])), (a_t_writer_fixed_limbs, .inl (c_t_writer_fixed_limbs, n_t_writer_fixed_limbs, .inl e_t_writer_fixed_limbs_5)), (a_t_writer_decimal, .inr (0, [.ref a_t_writer_decimal_digits, .int s_t_writer_decimal_count_6, .int s_t_writer_decimal_point_7])), (a_t_writer_decimal_digits, .inl (c_t_writer_decimal_digits, n_t_writer_decimal_digits, .inl e_t_writer_decimal_digits_8)), (a_t_writer_low, .inr (0, [.ref a_t_writer_low_digits, .int s_t_writer_low_count_9, .int s_t_writer_low_point_10])), (a_t_writer_low_digits, .inl (c_t_writer_low_digits, n_t_writer_low_digits, .inl e_t_writer_low_digits_11)), (a_t_writer_high, .inr (0, [.ref a_t_writer_high_digits, .int s_t_writer_high_count_12, .int s_t_writer_high_point_13])), (a_t_writer_high_digits, .inl (c_t_writer_high_digits, n_t_writer_high_digits, .inl e_t_writer_high_digits_14)), (a_t_text_characters, .inl (c_t_text_characters, n_t_text_characters, .inl e_t_text_characters_16))]) ⟨hx, hb, hml, hown, hts⟩ (c_Text_length l dC dI a_t_text a_t_text_characters s_t_text_length_15 r_18 hc_19) (cwV 0 hts (xgoodV g_190 g_191 g_192 g_2 g_193) rfl rfl rfl (by decide +kernel) ⟨Nat.le_of_ble_eq_true rfl, Nat.le_of_ble_eq_true rfl⟩) hNz (ci := 5) (q0 := 10) rfl rfl hA hP hD hS hK [10] [0, 1, 2, 3, 4, 5, 6, 7, 8, 9, 11] [] rfl rfl rfl rfl (by decide) rfl rfl rfl rfl hl.1 (Nat.le_of_ble_eq_true rfl) ⟨Nat.zero_le _, Nat.zero_le _⟩ d_NT_write_23 (fun H locs hP hD hS => ?_)
  have hP : va_P (dC, dI) x_cl [(a_t, .inr (7, [.ref a_t_text, .ref a_t_numeral, .ref a_t_writer, .ref a_t_grid, .int s_t_wrongPlace])), (a_t_writer, .inr (6, [.ref a_t_writer_fixed, .ref a_t_writer_decimal, .ref a_t_writer_low, .ref a_t_writer_high])), (a_t_writer_fixed, .inr (1, [.ref a_t_writer_fixed_limbs, .int s_t_writer_fixed_first_4, .int s_t_writer_fixed_end_3])), (a_t_writer_fixed_limbs, .inl (c_t_writer_fixed_limbs, n_t_writer_fixed_limbs, .inl e_t_writer_fixed_limbs_5)), (a_t_writer_decimal, .inr (0, [.ref a_t_writer_decimal_digits, .int s_t_writer_decimal_count_6, .int s_t_writer_decimal_point_7])), (a_t_writer_decimal_digits, .inl (c_t_writer_decimal_digits, n_t_writer_decimal_digits, .inl e_t_writer_decimal_digits_8)), (a_t_writer_low, .inr (0, [.ref a_t_writer_low_digits, .int s_t_writer_low_count_9, .int s_t_writer_low_point_10])), (a_t_writer_low_digits, .inl (c_t_writer_low_digits, n_t_writer_low_digits, .inl e_t_writer_low_digits_11)), (a_t_writer_high, .inr (0, [.ref a_t_writer_high_digits, .int s_t_writer_high_count_12, .int s_t_writer_high_point_13])), (a_t_writer_high_digits, .inl (c_t_writer_high_digits, n_t_writer_high_digits, .inl e_t_writer_high_digits_14)), (a_t_text_characters, .inl (c_t_text_characters, n_t_text_characters, .inl e_t_text_characters_16)), (a_t_text, .inr (5, [.ref a_t_text_characters, .int s_t_text_length_15]))] H := hP
  have hD : va_D A [(a_t, .inr (7, [.ref a_t_text, .ref a_t_numeral, .ref a_t_writer, .ref a_t_grid, .int s_t_wrongPlace])), (a_t_writer, .inr (6, [.ref a_t_writer_fixed, .ref a_t_writer_decimal, .ref a_t_writer_low, .ref a_t_writer_high])), (a_t_writer_fixed, .inr (1, [.ref a_t_writer_fixed_limbs, .int s_t_writer_fixed_first_4, .int s_t_writer_fixed_end_3])), (a_t_writer_fixed_limbs, .inl (c_t_writer_fixed_limbs, n_t_writer_fixed_limbs, .inl e_t_writer_fixed_limbs_5)), (a_t_writer_decimal, .inr (0, [.ref a_t_writer_decimal_digits, .int s_t_writer_decimal_count_6, .int s_t_writer_decimal_point_7])), (a_t_writer_decimal_digits, .inl (c_t_writer_decimal_digits, n_t_writer_decimal_digits, .inl e_t_writer_decimal_digits_8)), (a_t_writer_low, .inr (0, [.ref a_t_writer_low_digits, .int s_t_writer_low_count_9, .int s_t_writer_low_point_10])), (a_t_writer_low_digits, .inl (c_t_writer_low_digits, n_t_writer_low_digits, .inl e_t_writer_low_digits_11)), (a_t_writer_high, .inr (0, [.ref a_t_writer_high_digits, .int s_t_writer_high_count_12, .int s_t_writer_high_point_13])), (a_t_writer_high_digits, .inl (c_t_writer_high_digits, n_t_writer_high_digits, .inl e_t_writer_high_digits_14)), (a_t_text_characters, .inl (c_t_text_characters, n_t_text_characters, .inl e_t_text_characters_16)), (a_t_text, .inr (5, [.ref a_t_text_characters, .int s_t_text_length_15]))] := hD
  replace h := Option.some.inj h
  replace h := Prod.mk.inj h
  obtain ⟨h1, h⟩ := h
  subst h1
  replace h := Prod.mk.inj h
  obtain ⟨h1, h⟩ := h
  subst h1
  replace h := Prod.mk.inj h
  obtain ⟨h1, h⟩ := h
  subst h1
  replace h := Prod.mk.inj h
  obtain ⟨h1, h⟩ := h
  subst h1
  replace h := Prod.mk.inj h
  obtain ⟨h1, h⟩ := h
  subst h1
  replace h := Prod.mk.inj h
  obtain ⟨h1, h⟩ := h
  subst h1
  replace h := Prod.mk.inj h
  obtain ⟨h1, h⟩ := h
  subst h1
  replace h := Prod.mk.inj h
  obtain ⟨h1, h⟩ := h
  subst h1
  replace h := Prod.mk.inj h
  obtain ⟨h1, h⟩ := h
  subst h1
  replace h := Prod.mk.inj h
  obtain ⟨h1, h⟩ := h
  subst h1
  replace h := Prod.mk.inj h
  obtain ⟨h1, h⟩ := h
  subst h1
  replace h := Prod.mk.inj h
  obtain ⟨h1, h⟩ := h
  subst h1
  replace h := Prod.mk.inj h
  obtain ⟨h1, h⟩ := h
  subst h1
  replace h := Prod.mk.inj h
  obtain ⟨h1, h⟩ := h
  subst h1
  subst h
  exact hret _ _ (hP.sub [0, 11, 10, 1, 2, 3, 4, 5, 6, 7, 8, 9] rfl) (hD.sub [0, 11, 10, 1, 2, 3, 4, 5, 6, 7, 8, 9] (by decide) rfl) hS _ _ d_NT_write_26
def f_Writer_addRounded (n_t_fixed_limbs : Nat) (n_t_decimal_digits : Nat) (n_q1_characters : Nat) (s_t_fixed_first : Int32) (s_t_fixed_end : Int32) (e_t_fixed_limbs : Nat → Int32) (s_t_decimal_count : Int32) (s_t_decimal_point : Int32) (e_t_decimal_digits : Nat → Int32) (s_q1_length : Int32) (e_q1_characters : Nat → Int32) (x2 : Int64) (x4 : Int32) : Option (Int32 × Int32 × (Nat → Int32) × Int32 × Int32 × (Nat → Int32) × Int32 × (Nat → Int32)) :=
  xob (f_Writer_addsDigits n_q1_characters s_q1_length e_q1_characters x2) fun (r_1, s_q1_length_2, e_q1_characters_3) => if r_1 = 0 then (some (s_t_fixed_end, s_t_fixed_first, e_t_fixed_limbs, s_t_decimal_count, s_t_decimal_point, e_t_decimal_digits, s_q1_length_2, e_q1_characters_3)) else (xob (f_Writer_addedZero n_q1_characters s_q1_length_2 e_q1_characters_3 x2) fun (r_6, s_q1_length_7, e_q1_characters_8) => if r_6 = 0 then (xob (f_NT_multiple x2) fun r_11 => xob (f_NT_power x2) fun r_13 => xob (f_Writer_expand n_t_fixed_limbs n_t_decimal_digits s_t_fixed_first s_t_fixed_end e_t_fixed_limbs s_t_decimal_count s_t_decimal_point e_t_decimal_digits r_11 r_13) fun (s_t_fixed_end_15, s_t_fixed_first_16, e_t_fixed_limbs_17, s_t_decimal_count_18, s_t_decimal_point_19, e_t_decimal_digits_20) => xob (f_Decimal_roundsUp n_t_decimal_digits s_t_decimal_count_18 s_t_decimal_point_19 e_t_decimal_digits_20 x4) fun r_22 => xob (f_Decimal_cut n_t_decimal_digits s_t_decimal_count_18 s_t_decimal_point_19 e_t_decimal_digits_20 x4 r_22) fun (s_t_decimal_count_24, s_t_decimal_point_25, e_t_decimal_digits_26) => xob (f_Writer_addDecimal n_t_decimal_digits n_q1_characters s_t_decimal_count_24 s_t_decimal_point_25 e_t_decimal_digits_26 s_q1_length_7 e_q1_characters_8 x4) fun (s_q1_length_28, e_q1_characters_29) => some (s_t_fixed_end_15, s_t_fixed_first_16, e_t_fixed_limbs_17, s_t_decimal_count_24, s_t_decimal_point_25, e_t_decimal_digits_26, s_q1_length_28, e_q1_characters_29)) else (some (s_t_fixed_end, s_t_fixed_first, e_t_fixed_limbs, s_t_decimal_count, s_t_decimal_point, e_t_decimal_digits, s_q1_length_7, e_q1_characters_8)))
def rm_Writer_addRounded : Room := { frames := 4, cells := 0, slots := 0, locals := 95 }
set_option maxHeartbeats 4000000 in
set_option maxRecDepth 100000 in
theorem c_Writer_addRounded (l : Launch) (dC : Nat → ClassId) (dI : Nat → Nat → Nat) (a_t a_q1 a_t_fixed a_t_decimal a_t_low a_t_high a_t_fixed_limbs a_t_decimal_digits a_q1_characters : Nat) (c_t_fixed_limbs c_t_decimal_digits c_q1_characters : ClassId) (n_t_fixed_limbs : Nat) (n_t_decimal_digits : Nat) (n_q1_characters : Nat) (s_t_fixed_first : Int32) (s_t_fixed_end : Int32) (e_t_fixed_limbs : Nat → Int32) (s_t_decimal_count : Int32) (s_t_decimal_point : Int32) (e_t_decimal_digits : Nat → Int32) (s_q1_length : Int32) (e_q1_characters : Nat → Int32) (x2 : Int64) (x4 : Int32) (s_t_fixed_end_o : Int32) (s_t_fixed_first_o : Int32) (e_t_fixed_limbs_o : Nat → Int32) (s_t_decimal_count_o : Int32) (s_t_decimal_point_o : Int32) (e_t_decimal_digits_o : Nat → Int32) (s_q1_length_o : Int32) (e_q1_characters_o : Nat → Int32) (h : f_Writer_addRounded n_t_fixed_limbs n_t_decimal_digits n_q1_characters s_t_fixed_first s_t_fixed_end e_t_fixed_limbs s_t_decimal_count s_t_decimal_point e_t_decimal_digits s_q1_length e_q1_characters x2 x4 = some (s_t_fixed_end_o, s_t_fixed_first_o, e_t_fixed_limbs_o, s_t_decimal_count_o, s_t_decimal_point_o, e_t_decimal_digits_o, s_q1_length_o, e_q1_characters_o)) : xM l y_Writer_addRounded (Cond.code y_Writer_addRounded b_Writer_addRounded 5 none :: xG) rm_Writer_addRounded (dC, dI) x_cl x_nz [.ref a_t, .ref a_q1, .long x2, .int x4] [(c_t_fixed_limbs, .int), (c_t_decimal_digits, .byte), (c_q1_characters, .byte)] [(a_t, .inr (6, [.ref a_t_fixed, .ref a_t_decimal, .ref a_t_low, .ref a_t_high])), (a_t_fixed, .inr (1, [.ref a_t_fixed_limbs, .int s_t_fixed_first, .int s_t_fixed_end])), (a_t_fixed_limbs, .inl (c_t_fixed_limbs, n_t_fixed_limbs, .inl e_t_fixed_limbs)), (a_t_decimal, .inr (0, [.ref a_t_decimal_digits, .int s_t_decimal_count, .int s_t_decimal_point])), (a_t_decimal_digits, .inl (c_t_decimal_digits, n_t_decimal_digits, .inl e_t_decimal_digits)), (a_q1, .inr (5, [.ref a_q1_characters, .int s_q1_length])), (a_q1_characters, .inl (c_q1_characters, n_q1_characters, .inl e_q1_characters))] none [(a_t, .inr (6, [.ref a_t_fixed, .ref a_t_decimal, .ref a_t_low, .ref a_t_high])), (a_t_fixed, .inr (1, [.ref a_t_fixed_limbs, .int s_t_fixed_first_o, .int s_t_fixed_end_o])), (a_t_fixed_limbs, .inl (c_t_fixed_limbs, n_t_fixed_limbs, .inl e_t_fixed_limbs_o)), (a_t_decimal, .inr (0, [.ref a_t_decimal_digits, .int s_t_decimal_count_o, .int s_t_decimal_point_o])), (a_t_decimal_digits, .inl (c_t_decimal_digits, n_t_decimal_digits, .inl e_t_decimal_digits_o)), (a_q1, .inr (5, [.ref a_q1_characters, .int s_q1_length_o])), (a_q1_characters, .inl (c_q1_characters, n_q1_characters, .inl e_q1_characters_o))] := by
  unfold f_Writer_addRounded at h
  refine xM.mkV (cc := b_Writer_addRounded) (maxL := 5)  (by decide +kernel) rfl (Nat.le_of_ble_eq_true rfl) ?_
  intro p e s m args below meth c A Q ls hx hb hml hown hts hNz hA hP hD hK hl hret
  have hS : va_S A s.heap s.heap [] := va_S.rf
  have hl : lv_has ls 5 [(0, .ref a_t), (1, .ref a_q1), (2, .long x2), (4, .int x4)] := hl
  refine lv_aload_n hx hb d_Writer_addRounded_0 rfl (lv_at hl 1 rfl) ?_
  refine lv_lload_n hx hb d_Writer_addRounded_1 rfl (lv_at hl 2 rfl) ?_
  replace h := xob_s h
  obtain ⟨⟨r_1, s_q1_length_2, e_q1_characters_3⟩, hc_4, h⟩ := h
  try dsimp only at h
  refine xcS (As := [.ref a_q1, .long x2]) (rest := []) (st1 := [.int r_1]) (wr := [(a_t, .inr (6, [.ref a_t_fixed, .ref a_t_decimal, .ref a_t_low, .ref a_t_high])), (a_t_fixed, .inr (1, [.ref a_t_fixed_limbs, .int s_t_fixed_first, .int s_t_fixed_end])), (a_t_fixed_limbs, .inl (c_t_fixed_limbs, n_t_fixed_limbs, .inl e_t_fixed_limbs)), (a_t_decimal, .inr (0, [.ref a_t_decimal_digits, .int s_t_decimal_count, .int s_t_decimal_point])), (a_t_decimal_digits, .inl (c_t_decimal_digits, n_t_decimal_digits, .inl e_t_decimal_digits))]) ⟨hx, hb, hml, hown, hts⟩ (c_Writer_addsDigits l dC dI a_q1 a_q1_characters c_q1_characters n_q1_characters s_q1_length e_q1_characters x2 r_1 s_q1_length_2 e_q1_characters_3 hc_4) (⟨callB_of 2 hts (xgood g_231) rfl rfl rfl (hts _ g_8) (hts _ g_229) (by decide +kernel) ⟨Nat.le_of_ble_eq_true rfl, Nat.le_of_ble_eq_true rfl⟩, (hts _ g_230)⟩) hNz hA hP hD hS hK [5, 6] [0, 1, 2, 3, 4] [2] rfl rfl rfl rfl (by decide) rfl rfl rfl rfl hl.1 (Nat.le_of_ble_eq_true rfl) ⟨Nat.zero_le _, Nat.zero_le _⟩ d_Writer_addRounded_2 (fun H locs hP hD hS => ?_)
  have hP : va_P (dC, dI) x_cl [(a_t, .inr (6, [.ref a_t_fixed, .ref a_t_decimal, .ref a_t_low, .ref a_t_high])), (a_t_fixed, .inr (1, [.ref a_t_fixed_limbs, .int s_t_fixed_first, .int s_t_fixed_end])), (a_t_fixed_limbs, .inl (c_t_fixed_limbs, n_t_fixed_limbs, .inl e_t_fixed_limbs)), (a_t_decimal, .inr (0, [.ref a_t_decimal_digits, .int s_t_decimal_count, .int s_t_decimal_point])), (a_t_decimal_digits, .inl (c_t_decimal_digits, n_t_decimal_digits, .inl e_t_decimal_digits)), (a_q1, .inr (5, [.ref a_q1_characters, .int s_q1_length_2])), (a_q1_characters, .inl (c_q1_characters, n_q1_characters, .inl e_q1_characters_3))] H := hP
  have hD : va_D A [(a_t, .inr (6, [.ref a_t_fixed, .ref a_t_decimal, .ref a_t_low, .ref a_t_high])), (a_t_fixed, .inr (1, [.ref a_t_fixed_limbs, .int s_t_fixed_first, .int s_t_fixed_end])), (a_t_fixed_limbs, .inl (c_t_fixed_limbs, n_t_fixed_limbs, .inl e_t_fixed_limbs)), (a_t_decimal, .inr (0, [.ref a_t_decimal_digits, .int s_t_decimal_count, .int s_t_decimal_point])), (a_t_decimal_digits, .inl (c_t_decimal_digits, n_t_decimal_digits, .inl e_t_decimal_digits)), (a_q1, .inr (5, [.ref a_q1_characters, .int s_q1_length_2])), (a_q1_characters, .inl (c_q1_characters, n_q1_characters, .inl e_q1_characters_3))] := hD
  refine lv_if_eq (tgt := 57) hx hb d_Writer_addRounded_5 (by decide) (fun c_5 => ?_) (fun c_5 => ?_)
  · rw [if_pos c_5] at h
    replace h := Option.some.inj h
    replace h := Prod.mk.inj h
    obtain ⟨h1, h⟩ := h
    subst h1
    replace h := Prod.mk.inj h
    obtain ⟨h1, h⟩ := h
    subst h1
    replace h := Prod.mk.inj h
    obtain ⟨h1, h⟩ := h
    subst h1
    replace h := Prod.mk.inj h
    obtain ⟨h1, h⟩ := h
    subst h1
    replace h := Prod.mk.inj h
    obtain ⟨h1, h⟩ := h
    subst h1
    replace h := Prod.mk.inj h
    obtain ⟨h1, h⟩ := h
    subst h1
    replace h := Prod.mk.inj h
    obtain ⟨h1, h⟩ := h
    subst h1
    subst h
    exact hret _ _ hP hD hS _ _ d_Writer_addRounded_57
  · rw [if_neg c_5] at h
    refine lv_aload_n hx hb d_Writer_addRounded_8 rfl (lv_at hl 1 rfl) ?_
    refine lv_lload_n hx hb d_Writer_addRounded_9 rfl (lv_at hl 2 rfl) ?_
    replace h := xob_s h
    obtain ⟨⟨r_6, s_q1_length_7, e_q1_characters_8⟩, hc_9, h⟩ := h
    try dsimp only at h
    refine xcS (As := [.ref a_q1, .long x2]) (rest := []) (st1 := [.int r_6]) (wr := [(a_t, .inr (6, [.ref a_t_fixed, .ref a_t_decimal, .ref a_t_low, .ref a_t_high])), (a_t_fixed, .inr (1, [.ref a_t_fixed_limbs, .int s_t_fixed_first, .int s_t_fixed_end])), (a_t_fixed_limbs, .inl (c_t_fixed_limbs, n_t_fixed_limbs, .inl e_t_fixed_limbs)), (a_t_decimal, .inr (0, [.ref a_t_decimal_digits, .int s_t_decimal_count, .int s_t_decimal_point])), (a_t_decimal_digits, .inl (c_t_decimal_digits, n_t_decimal_digits, .inl e_t_decimal_digits))]) ⟨hx, hb, hml, hown, hts⟩ (c_Writer_addedZero l dC dI a_q1 a_q1_characters c_q1_characters n_q1_characters s_q1_length_2 e_q1_characters_3 x2 r_6 s_q1_length_7 e_q1_characters_8 hc_9) (⟨callB_of 2 hts (xgood g_248) rfl rfl rfl (hts _ g_8) (hts _ g_246) (by decide +kernel) ⟨Nat.le_of_ble_eq_true rfl, Nat.le_of_ble_eq_true rfl⟩, (hts _ g_247)⟩) hNz hA hP hD hS hK [5, 6] [0, 1, 2, 3, 4] [2] rfl rfl rfl rfl (by decide) rfl rfl rfl rfl hl.1 (Nat.le_of_ble_eq_true rfl) ⟨Nat.zero_le _, Nat.zero_le _⟩ d_Writer_addRounded_10 (fun H locs hP hD hS => ?_)
    have hP : va_P (dC, dI) x_cl [(a_t, .inr (6, [.ref a_t_fixed, .ref a_t_decimal, .ref a_t_low, .ref a_t_high])), (a_t_fixed, .inr (1, [.ref a_t_fixed_limbs, .int s_t_fixed_first, .int s_t_fixed_end])), (a_t_fixed_limbs, .inl (c_t_fixed_limbs, n_t_fixed_limbs, .inl e_t_fixed_limbs)), (a_t_decimal, .inr (0, [.ref a_t_decimal_digits, .int s_t_decimal_count, .int s_t_decimal_point])), (a_t_decimal_digits, .inl (c_t_decimal_digits, n_t_decimal_digits, .inl e_t_decimal_digits)), (a_q1, .inr (5, [.ref a_q1_characters, .int s_q1_length_7])), (a_q1_characters, .inl (c_q1_characters, n_q1_characters, .inl e_q1_characters_8))] H := hP
    have hD : va_D A [(a_t, .inr (6, [.ref a_t_fixed, .ref a_t_decimal, .ref a_t_low, .ref a_t_high])), (a_t_fixed, .inr (1, [.ref a_t_fixed_limbs, .int s_t_fixed_first, .int s_t_fixed_end])), (a_t_fixed_limbs, .inl (c_t_fixed_limbs, n_t_fixed_limbs, .inl e_t_fixed_limbs)), (a_t_decimal, .inr (0, [.ref a_t_decimal_digits, .int s_t_decimal_count, .int s_t_decimal_point])), (a_t_decimal_digits, .inl (c_t_decimal_digits, n_t_decimal_digits, .inl e_t_decimal_digits)), (a_q1, .inr (5, [.ref a_q1_characters, .int s_q1_length_7])), (a_q1_characters, .inl (c_q1_characters, n_q1_characters, .inl e_q1_characters_8))] := hD
    refine lv_if_ne (tgt := 57) hx hb d_Writer_addRounded_13 (by decide) (fun c_10 => ?_) (fun c_10 => ?_)
    · rw [if_neg c_10] at h
      replace h := Option.some.inj h
      replace h := Prod.mk.inj h
      obtain ⟨h1, h⟩ := h
      subst h1
      replace h := Prod.mk.inj h
      obtain ⟨h1, h⟩ := h
      subst h1
      replace h := Prod.mk.inj h
      obtain ⟨h1, h⟩ := h
      subst h1
      replace h := Prod.mk.inj h
      obtain ⟨h1, h⟩ := h
      subst h1
      replace h := Prod.mk.inj h
      obtain ⟨h1, h⟩ := h
      subst h1
      replace h := Prod.mk.inj h
      obtain ⟨h1, h⟩ := h
      subst h1
      replace h := Prod.mk.inj h
      obtain ⟨h1, h⟩ := h
      subst h1
      subst h
      exact hret _ _ hP hD hS _ _ d_Writer_addRounded_57
    · rw [if_pos c_10] at h
      refine lv_aload_n hx hb d_Writer_addRounded_16 rfl (lv_at hl 0 rfl) ?_
      refine lv_aload_n hx hb d_Writer_addRounded_17 rfl (lv_at hl 0 rfl) ?_
      refine va_get (D := (dC, dI)) (ci := 6) (v := .ref a_t_decimal) (C := R_Writer) (T := T_Writer) (N := 4) hx hb hts in_Writer hown hK hP 0 rfl rfl 1 (by decide) (hts _ g_124) (fun _ h9 => h9) rfl d_Writer_addRounded_18 ?_
      refine lv_lload_n hx hb d_Writer_addRounded_21 rfl (lv_at hl 2 rfl) ?_
      replace h := xob_s h
      obtain ⟨r_11, hc_12, h⟩ := h
      try dsimp only at h
      refine xcSN (As := [.long x2]) (rest := [.ref a_t_decimal, .ref a_t]) (st1 := [.long r_11, .ref a_t_decimal, .ref a_t]) (wr := [(a_t, .inr (6, [.ref a_t_fixed, .ref a_t_decimal, .ref a_t_low, .ref a_t_high])), (a_t_fixed, .inr (1, [.ref a_t_fixed_limbs, .int s_t_fixed_first, .int s_t_fixed_end])), (a_t_fixed_limbs, .inl (c_t_fixed_limbs, n_t_fixed_limbs, .inl e_t_fixed_limbs)), (a_t_decimal, .inr (0, [.ref a_t_decimal_digits, .int s_t_decimal_count, .int s_t_decimal_point])), (a_t_decimal_digits, .inl (c_t_decimal_digits, n_t_decimal_digits, .inl e_t_decimal_digits)), (a_q1, .inr (5, [.ref a_q1_characters, .int s_q1_length_7])), (a_q1_characters, .inl (c_q1_characters, n_q1_characters, .inl e_q1_characters_8))]) ⟨hx, hb, hml, hown, hts⟩ (c_NT_multiple l dC dI x2 r_11 hc_12) (⟨va_cnB 1 hts (xgood g_259) rfl rfl rfl (hNz.at 3 rfl) (hts _ g_1) (by decide +kernel) ⟨Nat.le_of_ble_eq_true rfl, Nat.le_of_ble_eq_true rfl⟩, (hts _ g_258), trivial⟩) hNz hA hP hD hS hK [] [0, 1, 2, 3, 4, 5, 6] [] rfl rfl rfl rfl (by decide) rfl rfl rfl rfl hl.1 (Nat.le_of_ble_eq_true rfl) ⟨Nat.zero_le _, Nat.zero_le _⟩ d_Writer_addRounded_22 (fun H locs hP hD hS => ?_)
      have hP : va_P (dC, dI) x_cl [(a_t, .inr (6, [.ref a_t_fixed, .ref a_t_decimal, .ref a_t_low, .ref a_t_high])), (a_t_fixed, .inr (1, [.ref a_t_fixed_limbs, .int s_t_fixed_first, .int s_t_fixed_end])), (a_t_fixed_limbs, .inl (c_t_fixed_limbs, n_t_fixed_limbs, .inl e_t_fixed_limbs)), (a_t_decimal, .inr (0, [.ref a_t_decimal_digits, .int s_t_decimal_count, .int s_t_decimal_point])), (a_t_decimal_digits, .inl (c_t_decimal_digits, n_t_decimal_digits, .inl e_t_decimal_digits)), (a_q1, .inr (5, [.ref a_q1_characters, .int s_q1_length_7])), (a_q1_characters, .inl (c_q1_characters, n_q1_characters, .inl e_q1_characters_8))] H := hP
      have hD : va_D A [(a_t, .inr (6, [.ref a_t_fixed, .ref a_t_decimal, .ref a_t_low, .ref a_t_high])), (a_t_fixed, .inr (1, [.ref a_t_fixed_limbs, .int s_t_fixed_first, .int s_t_fixed_end])), (a_t_fixed_limbs, .inl (c_t_fixed_limbs, n_t_fixed_limbs, .inl e_t_fixed_limbs)), (a_t_decimal, .inr (0, [.ref a_t_decimal_digits, .int s_t_decimal_count, .int s_t_decimal_point])), (a_t_decimal_digits, .inl (c_t_decimal_digits, n_t_decimal_digits, .inl e_t_decimal_digits)), (a_q1, .inr (5, [.ref a_q1_characters, .int s_q1_length_7])), (a_q1_characters, .inl (c_q1_characters, n_q1_characters, .inl e_q1_characters_8))] := hD
      refine lv_lload_n hx hb d_Writer_addRounded_25 rfl (lv_at hl 2 rfl) ?_
      replace h := xob_s h
      obtain ⟨r_13, hc_14, h⟩ := h
      try dsimp only at h
      refine xcSN (As := [.long x2]) (rest := [.long r_11, .ref a_t_decimal, .ref a_t]) (st1 := [.int r_13, .long r_11, .ref a_t_decimal, .ref a_t]) (wr := [(a_t, .inr (6, [.ref a_t_fixed, .ref a_t_decimal, .ref a_t_low, .ref a_t_high])), (a_t_fixed, .inr (1, [.ref a_t_fixed_limbs, .int s_t_fixed_first, .int s_t_fixed_end])), (a_t_fixed_limbs, .inl (c_t_fixed_limbs, n_t_fixed_limbs, .inl e_t_fixed_limbs)), (a_t_decimal, .inr (0, [.ref a_t_decimal_digits, .int s_t_decimal_count, .int s_t_decimal_point])), (a_t_decimal_digits, .inl (c_t_decimal_digits, n_t_decimal_digits, .inl e_t_decimal_digits)), (a_q1, .inr (5, [.ref a_q1_characters, .int s_q1_length_7])), (a_q1_characters, .inl (c_q1_characters, n_q1_characters, .inl e_q1_characters_8))]) ⟨hx, hb, hml, hown, hts⟩ (c_NT_power l dC dI x2 r_13 hc_14) (⟨va_cnB 1 hts (xgood g_270) rfl rfl rfl (hNz.at 4 rfl) (hts _ g_1) (by decide +kernel) ⟨Nat.le_of_ble_eq_true rfl, Nat.le_of_ble_eq_true rfl⟩, (hts _ g_269), trivial⟩) hNz hA hP hD hS hK [] [0, 1, 2, 3, 4, 5, 6] [] rfl rfl rfl rfl (by decide) rfl rfl rfl rfl hl.1 (Nat.le_of_ble_eq_true rfl) ⟨Nat.zero_le _, Nat.zero_le _⟩ d_Writer_addRounded_26 (fun H locs hP hD hS => ?_)
      have hP : va_P (dC, dI) x_cl [(a_t, .inr (6, [.ref a_t_fixed, .ref a_t_decimal, .ref a_t_low, .ref a_t_high])), (a_t_fixed, .inr (1, [.ref a_t_fixed_limbs, .int s_t_fixed_first, .int s_t_fixed_end])), (a_t_fixed_limbs, .inl (c_t_fixed_limbs, n_t_fixed_limbs, .inl e_t_fixed_limbs)), (a_t_decimal, .inr (0, [.ref a_t_decimal_digits, .int s_t_decimal_count, .int s_t_decimal_point])), (a_t_decimal_digits, .inl (c_t_decimal_digits, n_t_decimal_digits, .inl e_t_decimal_digits)), (a_q1, .inr (5, [.ref a_q1_characters, .int s_q1_length_7])), (a_q1_characters, .inl (c_q1_characters, n_q1_characters, .inl e_q1_characters_8))] H := hP
      have hD : va_D A [(a_t, .inr (6, [.ref a_t_fixed, .ref a_t_decimal, .ref a_t_low, .ref a_t_high])), (a_t_fixed, .inr (1, [.ref a_t_fixed_limbs, .int s_t_fixed_first, .int s_t_fixed_end])), (a_t_fixed_limbs, .inl (c_t_fixed_limbs, n_t_fixed_limbs, .inl e_t_fixed_limbs)), (a_t_decimal, .inr (0, [.ref a_t_decimal_digits, .int s_t_decimal_count, .int s_t_decimal_point])), (a_t_decimal_digits, .inl (c_t_decimal_digits, n_t_decimal_digits, .inl e_t_decimal_digits)), (a_q1, .inr (5, [.ref a_q1_characters, .int s_q1_length_7])), (a_q1_characters, .inl (c_q1_characters, n_q1_characters, .inl e_q1_characters_8))] := hD
      replace h := xob_s h
      obtain ⟨⟨s_t_fixed_end_15, s_t_fixed_first_16, e_t_fixed_limbs_17, s_t_decimal_count_18, s_t_decimal_point_19, e_t_decimal_digits_20⟩, hc_21, h⟩ := h
      try dsimp only at h
      refine xcV (As := [.ref a_t_decimal, .long r_11, .int r_13]) (rest := []) (st1 := []) (wr := [(a_q1, .inr (5, [.ref a_q1_characters, .int s_q1_length_7])), (a_q1_characters, .inl (c_q1_characters, n_q1_characters, .inl e_q1_characters_8))]) ⟨hx, hb, hml, hown, hts⟩ (c_Writer_expand l dC dI a_t a_t_decimal a_t_fixed a_t_decimal a_t_low a_t_high a_t_fixed_limbs a_t_decimal_digits c_t_fixed_limbs c_t_decimal_digits n_t_fixed_limbs n_t_decimal_digits s_t_fixed_first s_t_fixed_end e_t_fixed_limbs s_t_decimal_count s_t_decimal_point e_t_decimal_digits r_11 r_13 s_t_fixed_end_15 s_t_fixed_first_16 e_t_fixed_limbs_17 s_t_decimal_count_18 s_t_decimal_point_19 e_t_decimal_digits_20 hc_21) (cwV 3 hts (xgoodV g_274 g_276 gp_1 g_8 g_277) rfl rfl rfl (by decide +kernel) ⟨Nat.le_of_ble_eq_true rfl, Nat.le_of_ble_eq_true rfl⟩) hNz (ci := 6) (q0 := 0) rfl rfl hA hP hD hS hK [0, 1, 2, 3, 4] [5, 6] [0, 1] rfl rfl rfl rfl (by decide) rfl rfl rfl rfl hl.1 (Nat.le_of_ble_eq_true rfl) ⟨Nat.zero_le _, Nat.zero_le _⟩ d_Writer_addRounded_29 (fun H locs hP hD hS => ?_)
      have hP : va_P (dC, dI) x_cl [(a_q1, .inr (5, [.ref a_q1_characters, .int s_q1_length_7])), (a_q1_characters, .inl (c_q1_characters, n_q1_characters, .inl e_q1_characters_8)), (a_t, .inr (6, [.ref a_t_fixed, .ref a_t_decimal, .ref a_t_low, .ref a_t_high])), (a_t_fixed, .inr (1, [.ref a_t_fixed_limbs, .int s_t_fixed_first_16, .int s_t_fixed_end_15])), (a_t_fixed_limbs, .inl (c_t_fixed_limbs, n_t_fixed_limbs, .inl e_t_fixed_limbs_17)), (a_t_decimal, .inr (0, [.ref a_t_decimal_digits, .int s_t_decimal_count_18, .int s_t_decimal_point_19])), (a_t_decimal_digits, .inl (c_t_decimal_digits, n_t_decimal_digits, .inl e_t_decimal_digits_20))] H := hP
      have hD : va_D A [(a_q1, .inr (5, [.ref a_q1_characters, .int s_q1_length_7])), (a_q1_characters, .inl (c_q1_characters, n_q1_characters, .inl e_q1_characters_8)), (a_t, .inr (6, [.ref a_t_fixed, .ref a_t_decimal, .ref a_t_low, .ref a_t_high])), (a_t_fixed, .inr (1, [.ref a_t_fixed_limbs, .int s_t_fixed_first_16, .int s_t_fixed_end_15])), (a_t_fixed_limbs, .inl (c_t_fixed_limbs, n_t_fixed_limbs, .inl e_t_fixed_limbs_17)), (a_t_decimal, .inr (0, [.ref a_t_decimal_digits, .int s_t_decimal_count_18, .int s_t_decimal_point_19])), (a_t_decimal_digits, .inl (c_t_decimal_digits, n_t_decimal_digits, .inl e_t_decimal_digits_20))] := hD
      refine lv_aload_n hx hb d_Writer_addRounded_32 rfl (lv_at hl 0 rfl) ?_
      refine va_get (D := (dC, dI)) (ci := 6) (v := .ref a_t_decimal) (C := R_Writer) (T := T_Writer) (N := 4) hx hb hts in_Writer hown hK hP 2 rfl rfl 1 (by decide) (hts _ g_124) (fun _ h9 => h9) rfl d_Writer_addRounded_33 ?_
      refine lv_iload hx hb d_Writer_addRounded_36 (lv_at hl 3 rfl) ?_
      refine lv_aload_n hx hb d_Writer_addRounded_38 rfl (lv_at hl 0 rfl) ?_
      refine va_get (D := (dC, dI)) (ci := 6) (v := .ref a_t_decimal) (C := R_Writer) (T := T_Writer) (N := 4) hx hb hts in_Writer hown hK hP 2 rfl rfl 1 (by decide) (hts _ g_124) (fun _ h9 => h9) rfl d_Writer_addRounded_39 ?_
      refine lv_iload hx hb d_Writer_addRounded_42 (lv_at hl 3 rfl) ?_
      replace h := xob_s h
      obtain ⟨r_22, hc_23, h⟩ := h
      try dsimp only at h
      refine xcV (As := [.int x4]) (rest := [.int x4, .ref a_t_decimal]) (st1 := [.int r_22, .int x4, .ref a_t_decimal]) (wr := [(a_q1, .inr (5, [.ref a_q1_characters, .int s_q1_length_7])), (a_q1_characters, .inl (c_q1_characters, n_q1_characters, .inl e_q1_characters_8)), (a_t, .inr (6, [.ref a_t_fixed, .ref a_t_decimal, .ref a_t_low, .ref a_t_high])), (a_t_fixed, .inr (1, [.ref a_t_fixed_limbs, .int s_t_fixed_first_16, .int s_t_fixed_end_15])), (a_t_fixed_limbs, .inl (c_t_fixed_limbs, n_t_fixed_limbs, .inl e_t_fixed_limbs_17))]) ⟨hx, hb, hml, hown, hts⟩ (c_Decimal_roundsUp l dC dI a_t_decimal a_t_decimal_digits c_t_decimal_digits n_t_decimal_digits s_t_decimal_count_18 s_t_decimal_point_19 e_t_decimal_digits_20 x4 r_22 hc_23) (cwV 1 hts (xgoodV g_350 g_351 g_352 g_6 g_353) rfl rfl rfl (by decide +kernel) ⟨Nat.le_of_ble_eq_true rfl, Nat.le_of_ble_eq_true rfl⟩) hNz (ci := 0) (q0 := 5) rfl rfl hA hP hD hS hK [5, 6] [0, 1, 2, 3, 4] [1] rfl rfl rfl rfl (by decide) rfl rfl rfl rfl hl.1 (Nat.le_of_ble_eq_true rfl) ⟨Nat.zero_le _, Nat.zero_le _⟩ d_Writer_addRounded_44 (fun H locs hP hD hS => ?_)
      have hP : va_P (dC, dI) x_cl [(a_q1, .inr (5, [.ref a_q1_characters, .int s_q1_length_7])), (a_q1_characters, .inl (c_q1_characters, n_q1_characters, .inl e_q1_characters_8)), (a_t, .inr (6, [.ref a_t_fixed, .ref a_t_decimal, .ref a_t_low, .ref a_t_high])), (a_t_fixed, .inr (1, [.ref a_t_fixed_limbs, .int s_t_fixed_first_16, .int s_t_fixed_end_15])), (a_t_fixed_limbs, .inl (c_t_fixed_limbs, n_t_fixed_limbs, .inl e_t_fixed_limbs_17)), (a_t_decimal, .inr (0, [.ref a_t_decimal_digits, .int s_t_decimal_count_18, .int s_t_decimal_point_19])), (a_t_decimal_digits, .inl (c_t_decimal_digits, n_t_decimal_digits, .inl e_t_decimal_digits_20))] H := hP
      have hD : va_D A [(a_q1, .inr (5, [.ref a_q1_characters, .int s_q1_length_7])), (a_q1_characters, .inl (c_q1_characters, n_q1_characters, .inl e_q1_characters_8)), (a_t, .inr (6, [.ref a_t_fixed, .ref a_t_decimal, .ref a_t_low, .ref a_t_high])), (a_t_fixed, .inr (1, [.ref a_t_fixed_limbs, .int s_t_fixed_first_16, .int s_t_fixed_end_15])), (a_t_fixed_limbs, .inl (c_t_fixed_limbs, n_t_fixed_limbs, .inl e_t_fixed_limbs_17)), (a_t_decimal, .inr (0, [.ref a_t_decimal_digits, .int s_t_decimal_count_18, .int s_t_decimal_point_19])), (a_t_decimal_digits, .inl (c_t_decimal_digits, n_t_decimal_digits, .inl e_t_decimal_digits_20))] := hD
      replace h := xob_s h
      obtain ⟨⟨s_t_decimal_count_24, s_t_decimal_point_25, e_t_decimal_digits_26⟩, hc_27, h⟩ := h
      try dsimp only at h
      refine xcV (As := [.int x4, .int r_22]) (rest := []) (st1 := []) (wr := [(a_q1, .inr (5, [.ref a_q1_characters, .int s_q1_length_7])), (a_q1_characters, .inl (c_q1_characters, n_q1_characters, .inl e_q1_characters_8)), (a_t, .inr (6, [.ref a_t_fixed, .ref a_t_decimal, .ref a_t_low, .ref a_t_high])), (a_t_fixed, .inr (1, [.ref a_t_fixed_limbs, .int s_t_fixed_first_16, .int s_t_fixed_end_15])), (a_t_fixed_limbs, .inl (c_t_fixed_limbs, n_t_fixed_limbs, .inl e_t_fixed_limbs_17))]) ⟨hx, hb, hml, hown, hts⟩ (c_Decimal_cut l dC dI a_t_decimal a_t_decimal_digits c_t_decimal_digits n_t_decimal_digits s_t_decimal_count_18 s_t_decimal_point_19 e_t_decimal_digits_20 x4 r_22 s_t_decimal_count_24 s_t_decimal_point_25 e_t_decimal_digits_26 hc_27) (cwV 2 hts (xgoodV g_354 g_355 g_356 g_6 g_357) rfl rfl rfl (by decide +kernel) ⟨Nat.le_of_ble_eq_true rfl, Nat.le_of_ble_eq_true rfl⟩) hNz (ci := 0) (q0 := 5) rfl rfl hA hP hD hS hK [5, 6] [0, 1, 2, 3, 4] [1] rfl rfl rfl rfl (by decide) rfl rfl rfl rfl hl.1 (Nat.le_of_ble_eq_true rfl) ⟨Nat.zero_le _, Nat.zero_le _⟩ d_Writer_addRounded_47 (fun H locs hP hD hS => ?_)
      have hP : va_P (dC, dI) x_cl [(a_q1, .inr (5, [.ref a_q1_characters, .int s_q1_length_7])), (a_q1_characters, .inl (c_q1_characters, n_q1_characters, .inl e_q1_characters_8)), (a_t, .inr (6, [.ref a_t_fixed, .ref a_t_decimal, .ref a_t_low, .ref a_t_high])), (a_t_fixed, .inr (1, [.ref a_t_fixed_limbs, .int s_t_fixed_first_16, .int s_t_fixed_end_15])), (a_t_fixed_limbs, .inl (c_t_fixed_limbs, n_t_fixed_limbs, .inl e_t_fixed_limbs_17)), (a_t_decimal, .inr (0, [.ref a_t_decimal_digits, .int s_t_decimal_count_24, .int s_t_decimal_point_25])), (a_t_decimal_digits, .inl (c_t_decimal_digits, n_t_decimal_digits, .inl e_t_decimal_digits_26))] H := hP
      have hD : va_D A [(a_q1, .inr (5, [.ref a_q1_characters, .int s_q1_length_7])), (a_q1_characters, .inl (c_q1_characters, n_q1_characters, .inl e_q1_characters_8)), (a_t, .inr (6, [.ref a_t_fixed, .ref a_t_decimal, .ref a_t_low, .ref a_t_high])), (a_t_fixed, .inr (1, [.ref a_t_fixed_limbs, .int s_t_fixed_first_16, .int s_t_fixed_end_15])), (a_t_fixed_limbs, .inl (c_t_fixed_limbs, n_t_fixed_limbs, .inl e_t_fixed_limbs_17)), (a_t_decimal, .inr (0, [.ref a_t_decimal_digits, .int s_t_decimal_count_24, .int s_t_decimal_point_25])), (a_t_decimal_digits, .inl (c_t_decimal_digits, n_t_decimal_digits, .inl e_t_decimal_digits_26))] := hD
      refine lv_aload_n hx hb d_Writer_addRounded_50 rfl (lv_at hl 0 rfl) ?_
      refine lv_aload_n hx hb d_Writer_addRounded_51 rfl (lv_at hl 1 rfl) ?_
      refine lv_iload hx hb d_Writer_addRounded_52 (lv_at hl 3 rfl) ?_
      replace h := xob_s h
      obtain ⟨⟨s_q1_length_28, e_q1_characters_29⟩, hc_30, h⟩ := h
      try dsimp only at h
      refine xcV (As := [.ref a_q1, .int x4]) (rest := []) (st1 := []) (wr := [(a_t_fixed, .inr (1, [.ref a_t_fixed_limbs, .int s_t_fixed_first_16, .int s_t_fixed_end_15])), (a_t_fixed_limbs, .inl (c_t_fixed_limbs, n_t_fixed_limbs, .inl e_t_fixed_limbs_17))]) ⟨hx, hb, hml, hown, hts⟩ (c_Writer_addDecimal l dC dI a_t a_q1 a_t_fixed a_t_decimal a_t_low a_t_high a_t_decimal_digits a_q1_characters c_t_decimal_digits c_q1_characters n_t_decimal_digits n_q1_characters s_t_decimal_count_24 s_t_decimal_point_25 e_t_decimal_digits_26 s_q1_length_7 e_q1_characters_8 x4 s_q1_length_28 e_q1_characters_29 hc_30) (cwV 2 hts (xgoodV g_368 g_370 gp_7 g_8 g_371) rfl rfl rfl (by decide +kernel) ⟨Nat.le_of_ble_eq_true rfl, Nat.le_of_ble_eq_true rfl⟩) hNz (ci := 6) (q0 := 2) rfl rfl hA hP hD hS hK [2, 5, 6, 0, 1] [3, 4] [1, 2] rfl rfl rfl rfl (by decide) rfl rfl rfl rfl hl.1 (Nat.le_of_ble_eq_true rfl) ⟨Nat.zero_le _, Nat.zero_le _⟩ d_Writer_addRounded_54 (fun H locs hP hD hS => ?_)
      have hP : va_P (dC, dI) x_cl [(a_t_fixed, .inr (1, [.ref a_t_fixed_limbs, .int s_t_fixed_first_16, .int s_t_fixed_end_15])), (a_t_fixed_limbs, .inl (c_t_fixed_limbs, n_t_fixed_limbs, .inl e_t_fixed_limbs_17)), (a_t, .inr (6, [.ref a_t_fixed, .ref a_t_decimal, .ref a_t_low, .ref a_t_high])), (a_t_decimal, .inr (0, [.ref a_t_decimal_digits, .int s_t_decimal_count_24, .int s_t_decimal_point_25])), (a_t_decimal_digits, .inl (c_t_decimal_digits, n_t_decimal_digits, .inl e_t_decimal_digits_26)), (a_q1, .inr (5, [.ref a_q1_characters, .int s_q1_length_28])), (a_q1_characters, .inl (c_q1_characters, n_q1_characters, .inl e_q1_characters_29))] H := hP
      have hD : va_D A [(a_t_fixed, .inr (1, [.ref a_t_fixed_limbs, .int s_t_fixed_first_16, .int s_t_fixed_end_15])), (a_t_fixed_limbs, .inl (c_t_fixed_limbs, n_t_fixed_limbs, .inl e_t_fixed_limbs_17)), (a_t, .inr (6, [.ref a_t_fixed, .ref a_t_decimal, .ref a_t_low, .ref a_t_high])), (a_t_decimal, .inr (0, [.ref a_t_decimal_digits, .int s_t_decimal_count_24, .int s_t_decimal_point_25])), (a_t_decimal_digits, .inl (c_t_decimal_digits, n_t_decimal_digits, .inl e_t_decimal_digits_26)), (a_q1, .inr (5, [.ref a_q1_characters, .int s_q1_length_28])), (a_q1_characters, .inl (c_q1_characters, n_q1_characters, .inl e_q1_characters_29))] := hD
      replace h := Option.some.inj h
      replace h := Prod.mk.inj h
      obtain ⟨h1, h⟩ := h
      subst h1
      replace h := Prod.mk.inj h
      obtain ⟨h1, h⟩ := h
      subst h1
      replace h := Prod.mk.inj h
      obtain ⟨h1, h⟩ := h
      subst h1
      replace h := Prod.mk.inj h
      obtain ⟨h1, h⟩ := h
      subst h1
      replace h := Prod.mk.inj h
      obtain ⟨h1, h⟩ := h
      subst h1
      replace h := Prod.mk.inj h
      obtain ⟨h1, h⟩ := h
      subst h1
      replace h := Prod.mk.inj h
      obtain ⟨h1, h⟩ := h
      subst h1
      subst h
      exact hret _ _ (hP.sub [2, 0, 1, 3, 4, 5, 6] rfl) (hD.sub [2, 0, 1, 3, 4, 5, 6] (by decide) rfl) hS _ _ d_Writer_addRounded_57
def f_Writer_addToPlaces (n_t_fixed_limbs : Nat) (n_t_decimal_digits : Nat) (n_q1_characters : Nat) (s_t_fixed_first : Int32) (s_t_fixed_end : Int32) (e_t_fixed_limbs : Nat → Int32) (s_t_decimal_count : Int32) (s_t_decimal_point : Int32) (e_t_decimal_digits : Nat → Int32) (s_q1_length : Int32) (e_q1_characters : Nat → Int32) (x2 : Int64) (x4 : Int32) : Option (Int32 × Int32 × (Nat → Int32) × Int32 × Int32 × (Nat → Int32) × Int32 × (Nat → Int32)) :=
  xob (f_Writer_addsDigits n_q1_characters s_q1_length e_q1_characters x2) fun (r_1, s_q1_length_2, e_q1_characters_3) => if r_1 = 0 then (some (s_t_fixed_end, s_t_fixed_first, e_t_fixed_limbs, s_t_decimal_count, s_t_decimal_point, e_t_decimal_digits, s_q1_length_2, e_q1_characters_3)) else (xob (f_NT_multiple x2) fun r_6 => xob (f_NT_power x2) fun r_8 => xob (f_Writer_expand n_t_fixed_limbs n_t_decimal_digits s_t_fixed_first s_t_fixed_end e_t_fixed_limbs s_t_decimal_count s_t_decimal_point e_t_decimal_digits r_6 r_8) fun (s_t_fixed_end_10, s_t_fixed_first_11, e_t_fixed_limbs_12, s_t_decimal_count_13, s_t_decimal_point_14, e_t_decimal_digits_15) => xob (f_Decimal_point s_t_decimal_count_13 s_t_decimal_point_14) fun r_17 => xnm (r_17 + x4) fun x5_19 => xob (if 0 ≤ x5_19 then (xob (f_Decimal_roundsUp n_t_decimal_digits s_t_decimal_count_13 s_t_decimal_point_14 e_t_decimal_digits_15 x5_19) fun r_29 => xob (f_Decimal_cut n_t_decimal_digits s_t_decimal_count_13 s_t_decimal_point_14 e_t_decimal_digits_15 x5_19 r_29) fun (s_t_decimal_count_31, s_t_decimal_point_32, e_t_decimal_digits_33) => some (s_t_decimal_count_31, s_t_decimal_point_32, e_t_decimal_digits_33)) else (xob (f_Decimal_clear s_t_decimal_count_13 s_t_decimal_point_14) fun (s_t_decimal_count_35, s_t_decimal_point_36) => some (s_t_decimal_count_35, s_t_decimal_point_36, e_t_decimal_digits_15))) fun (s_t_decimal_count_20, s_t_decimal_point_21, e_t_decimal_digits_22) => xob (f_Writer_addPlaces n_t_decimal_digits n_q1_characters s_t_decimal_count_20 s_t_decimal_point_21 e_t_decimal_digits_22 s_q1_length_2 e_q1_characters_3 x4) fun (s_q1_length_25, e_q1_characters_26) => some (s_t_fixed_end_10, s_t_fixed_first_11, e_t_fixed_limbs_12, s_t_decimal_count_20, s_t_decimal_point_21, e_t_decimal_digits_22, s_q1_length_25, e_q1_characters_26))
def rm_Writer_addToPlaces : Room := { frames := 4, cells := 0, slots := 0, locals := 95 }
set_option maxHeartbeats 4000000 in
set_option maxRecDepth 100000 in
theorem c_Writer_addToPlaces (l : Launch) (dC : Nat → ClassId) (dI : Nat → Nat → Nat) (a_t a_q1 a_t_fixed a_t_decimal a_t_low a_t_high a_t_fixed_limbs a_t_decimal_digits a_q1_characters : Nat) (c_t_fixed_limbs c_t_decimal_digits c_q1_characters : ClassId) (n_t_fixed_limbs : Nat) (n_t_decimal_digits : Nat) (n_q1_characters : Nat) (s_t_fixed_first : Int32) (s_t_fixed_end : Int32) (e_t_fixed_limbs : Nat → Int32) (s_t_decimal_count : Int32) (s_t_decimal_point : Int32) (e_t_decimal_digits : Nat → Int32) (s_q1_length : Int32) (e_q1_characters : Nat → Int32) (x2 : Int64) (x4 : Int32) (s_t_fixed_end_o : Int32) (s_t_fixed_first_o : Int32) (e_t_fixed_limbs_o : Nat → Int32) (s_t_decimal_count_o : Int32) (s_t_decimal_point_o : Int32) (e_t_decimal_digits_o : Nat → Int32) (s_q1_length_o : Int32) (e_q1_characters_o : Nat → Int32) (h : f_Writer_addToPlaces n_t_fixed_limbs n_t_decimal_digits n_q1_characters s_t_fixed_first s_t_fixed_end e_t_fixed_limbs s_t_decimal_count s_t_decimal_point e_t_decimal_digits s_q1_length e_q1_characters x2 x4 = some (s_t_fixed_end_o, s_t_fixed_first_o, e_t_fixed_limbs_o, s_t_decimal_count_o, s_t_decimal_point_o, e_t_decimal_digits_o, s_q1_length_o, e_q1_characters_o)) : xM l y_Writer_addToPlaces (Cond.code y_Writer_addToPlaces b_Writer_addToPlaces 6 none :: xG) rm_Writer_addToPlaces (dC, dI) x_cl x_nz [.ref a_t, .ref a_q1, .long x2, .int x4] [(c_t_fixed_limbs, .int), (c_t_decimal_digits, .byte), (c_q1_characters, .byte)] [(a_t, .inr (6, [.ref a_t_fixed, .ref a_t_decimal, .ref a_t_low, .ref a_t_high])), (a_t_fixed, .inr (1, [.ref a_t_fixed_limbs, .int s_t_fixed_first, .int s_t_fixed_end])), (a_t_fixed_limbs, .inl (c_t_fixed_limbs, n_t_fixed_limbs, .inl e_t_fixed_limbs)), (a_t_decimal, .inr (0, [.ref a_t_decimal_digits, .int s_t_decimal_count, .int s_t_decimal_point])), (a_t_decimal_digits, .inl (c_t_decimal_digits, n_t_decimal_digits, .inl e_t_decimal_digits)), (a_q1, .inr (5, [.ref a_q1_characters, .int s_q1_length])), (a_q1_characters, .inl (c_q1_characters, n_q1_characters, .inl e_q1_characters))] none [(a_t, .inr (6, [.ref a_t_fixed, .ref a_t_decimal, .ref a_t_low, .ref a_t_high])), (a_t_fixed, .inr (1, [.ref a_t_fixed_limbs, .int s_t_fixed_first_o, .int s_t_fixed_end_o])), (a_t_fixed_limbs, .inl (c_t_fixed_limbs, n_t_fixed_limbs, .inl e_t_fixed_limbs_o)), (a_t_decimal, .inr (0, [.ref a_t_decimal_digits, .int s_t_decimal_count_o, .int s_t_decimal_point_o])), (a_t_decimal_digits, .inl (c_t_decimal_digits, n_t_decimal_digits, .inl e_t_decimal_digits_o)), (a_q1, .inr (5, [.ref a_q1_characters, .int s_q1_length_o])), (a_q1_characters, .inl (c_q1_characters, n_q1_characters, .inl e_q1_characters_o))] := by
  unfold f_Writer_addToPlaces at h
  refine xM.mkV (cc := b_Writer_addToPlaces) (maxL := 6)  (by decide +kernel) rfl (Nat.le_of_ble_eq_true rfl) ?_
  intro p e s m args below meth c A Q ls hx hb hml hown hts hNz hA hP hD hK hl hret
  have hS : va_S A s.heap s.heap [] := va_S.rf
  have hl : lv_has ls 6 [(0, .ref a_t), (1, .ref a_q1), (2, .long x2), (4, .int x4)] := hl
  refine lv_aload_n hx hb d_Writer_addToPlaces_0 rfl (lv_at hl 1 rfl) ?_
  refine lv_lload_n hx hb d_Writer_addToPlaces_1 rfl (lv_at hl 2 rfl) ?_
  replace h := xob_s h
  obtain ⟨⟨r_1, s_q1_length_2, e_q1_characters_3⟩, hc_4, h⟩ := h
  try dsimp only at h
  refine xcS (As := [.ref a_q1, .long x2]) (rest := []) (st1 := [.int r_1]) (wr := [(a_t, .inr (6, [.ref a_t_fixed, .ref a_t_decimal, .ref a_t_low, .ref a_t_high])), (a_t_fixed, .inr (1, [.ref a_t_fixed_limbs, .int s_t_fixed_first, .int s_t_fixed_end])), (a_t_fixed_limbs, .inl (c_t_fixed_limbs, n_t_fixed_limbs, .inl e_t_fixed_limbs)), (a_t_decimal, .inr (0, [.ref a_t_decimal_digits, .int s_t_decimal_count, .int s_t_decimal_point])), (a_t_decimal_digits, .inl (c_t_decimal_digits, n_t_decimal_digits, .inl e_t_decimal_digits))]) ⟨hx, hb, hml, hown, hts⟩ (c_Writer_addsDigits l dC dI a_q1 a_q1_characters c_q1_characters n_q1_characters s_q1_length e_q1_characters x2 r_1 s_q1_length_2 e_q1_characters_3 hc_4) (⟨callB_of 2 hts (xgood g_231) rfl rfl rfl (hts _ g_8) (hts _ g_229) (by decide +kernel) ⟨Nat.le_of_ble_eq_true rfl, Nat.le_of_ble_eq_true rfl⟩, (hts _ g_230)⟩) hNz hA hP hD hS hK [5, 6] [0, 1, 2, 3, 4] [2] rfl rfl rfl rfl (by decide) rfl rfl rfl rfl hl.1 (Nat.le_of_ble_eq_true rfl) ⟨Nat.zero_le _, Nat.zero_le _⟩ d_Writer_addToPlaces_2 (fun H locs hP hD hS => ?_)
  have hP : va_P (dC, dI) x_cl [(a_t, .inr (6, [.ref a_t_fixed, .ref a_t_decimal, .ref a_t_low, .ref a_t_high])), (a_t_fixed, .inr (1, [.ref a_t_fixed_limbs, .int s_t_fixed_first, .int s_t_fixed_end])), (a_t_fixed_limbs, .inl (c_t_fixed_limbs, n_t_fixed_limbs, .inl e_t_fixed_limbs)), (a_t_decimal, .inr (0, [.ref a_t_decimal_digits, .int s_t_decimal_count, .int s_t_decimal_point])), (a_t_decimal_digits, .inl (c_t_decimal_digits, n_t_decimal_digits, .inl e_t_decimal_digits)), (a_q1, .inr (5, [.ref a_q1_characters, .int s_q1_length_2])), (a_q1_characters, .inl (c_q1_characters, n_q1_characters, .inl e_q1_characters_3))] H := hP
  have hD : va_D A [(a_t, .inr (6, [.ref a_t_fixed, .ref a_t_decimal, .ref a_t_low, .ref a_t_high])), (a_t_fixed, .inr (1, [.ref a_t_fixed_limbs, .int s_t_fixed_first, .int s_t_fixed_end])), (a_t_fixed_limbs, .inl (c_t_fixed_limbs, n_t_fixed_limbs, .inl e_t_fixed_limbs)), (a_t_decimal, .inr (0, [.ref a_t_decimal_digits, .int s_t_decimal_count, .int s_t_decimal_point])), (a_t_decimal_digits, .inl (c_t_decimal_digits, n_t_decimal_digits, .inl e_t_decimal_digits)), (a_q1, .inr (5, [.ref a_q1_characters, .int s_q1_length_2])), (a_q1_characters, .inl (c_q1_characters, n_q1_characters, .inl e_q1_characters_3))] := hD
  refine lv_if_eq (tgt := 76) hx hb d_Writer_addToPlaces_5 (by decide) (fun c_5 => ?_) (fun c_5 => ?_)
  · rw [if_pos c_5] at h
    replace h := Option.some.inj h
    replace h := Prod.mk.inj h
    obtain ⟨h1, h⟩ := h
    subst h1
    replace h := Prod.mk.inj h
    obtain ⟨h1, h⟩ := h
    subst h1
    replace h := Prod.mk.inj h
    obtain ⟨h1, h⟩ := h
    subst h1
    replace h := Prod.mk.inj h
    obtain ⟨h1, h⟩ := h
    subst h1
    replace h := Prod.mk.inj h
    obtain ⟨h1, h⟩ := h
    subst h1
    replace h := Prod.mk.inj h
    obtain ⟨h1, h⟩ := h
    subst h1
    replace h := Prod.mk.inj h
    obtain ⟨h1, h⟩ := h
    subst h1
    subst h
    exact hret _ _ hP hD hS _ _ d_Writer_addToPlaces_76
  · rw [if_neg c_5] at h
    refine lv_aload_n hx hb d_Writer_addToPlaces_8 rfl (lv_at hl 0 rfl) ?_
    refine lv_aload_n hx hb d_Writer_addToPlaces_9 rfl (lv_at hl 0 rfl) ?_
    refine va_get (D := (dC, dI)) (ci := 6) (v := .ref a_t_decimal) (C := R_Writer) (T := T_Writer) (N := 4) hx hb hts in_Writer hown hK hP 0 rfl rfl 1 (by decide) (hts _ g_124) (fun _ h9 => h9) rfl d_Writer_addToPlaces_10 ?_
    refine lv_lload_n hx hb d_Writer_addToPlaces_13 rfl (lv_at hl 2 rfl) ?_
    replace h := xob_s h
    obtain ⟨r_6, hc_7, h⟩ := h
    try dsimp only at h
    refine xcSN (As := [.long x2]) (rest := [.ref a_t_decimal, .ref a_t]) (st1 := [.long r_6, .ref a_t_decimal, .ref a_t]) (wr := [(a_t, .inr (6, [.ref a_t_fixed, .ref a_t_decimal, .ref a_t_low, .ref a_t_high])), (a_t_fixed, .inr (1, [.ref a_t_fixed_limbs, .int s_t_fixed_first, .int s_t_fixed_end])), (a_t_fixed_limbs, .inl (c_t_fixed_limbs, n_t_fixed_limbs, .inl e_t_fixed_limbs)), (a_t_decimal, .inr (0, [.ref a_t_decimal_digits, .int s_t_decimal_count, .int s_t_decimal_point])), (a_t_decimal_digits, .inl (c_t_decimal_digits, n_t_decimal_digits, .inl e_t_decimal_digits)), (a_q1, .inr (5, [.ref a_q1_characters, .int s_q1_length_2])), (a_q1_characters, .inl (c_q1_characters, n_q1_characters, .inl e_q1_characters_3))]) ⟨hx, hb, hml, hown, hts⟩ (c_NT_multiple l dC dI x2 r_6 hc_7) (⟨va_cnB 1 hts (xgood g_259) rfl rfl rfl (hNz.at 3 rfl) (hts _ g_1) (by decide +kernel) ⟨Nat.le_of_ble_eq_true rfl, Nat.le_of_ble_eq_true rfl⟩, (hts _ g_258), trivial⟩) hNz hA hP hD hS hK [] [0, 1, 2, 3, 4, 5, 6] [] rfl rfl rfl rfl (by decide) rfl rfl rfl rfl hl.1 (Nat.le_of_ble_eq_true rfl) ⟨Nat.zero_le _, Nat.zero_le _⟩ d_Writer_addToPlaces_14 (fun H locs hP hD hS => ?_)
    have hP : va_P (dC, dI) x_cl [(a_t, .inr (6, [.ref a_t_fixed, .ref a_t_decimal, .ref a_t_low, .ref a_t_high])), (a_t_fixed, .inr (1, [.ref a_t_fixed_limbs, .int s_t_fixed_first, .int s_t_fixed_end])), (a_t_fixed_limbs, .inl (c_t_fixed_limbs, n_t_fixed_limbs, .inl e_t_fixed_limbs)), (a_t_decimal, .inr (0, [.ref a_t_decimal_digits, .int s_t_decimal_count, .int s_t_decimal_point])), (a_t_decimal_digits, .inl (c_t_decimal_digits, n_t_decimal_digits, .inl e_t_decimal_digits)), (a_q1, .inr (5, [.ref a_q1_characters, .int s_q1_length_2])), (a_q1_characters, .inl (c_q1_characters, n_q1_characters, .inl e_q1_characters_3))] H := hP
    have hD : va_D A [(a_t, .inr (6, [.ref a_t_fixed, .ref a_t_decimal, .ref a_t_low, .ref a_t_high])), (a_t_fixed, .inr (1, [.ref a_t_fixed_limbs, .int s_t_fixed_first, .int s_t_fixed_end])), (a_t_fixed_limbs, .inl (c_t_fixed_limbs, n_t_fixed_limbs, .inl e_t_fixed_limbs)), (a_t_decimal, .inr (0, [.ref a_t_decimal_digits, .int s_t_decimal_count, .int s_t_decimal_point])), (a_t_decimal_digits, .inl (c_t_decimal_digits, n_t_decimal_digits, .inl e_t_decimal_digits)), (a_q1, .inr (5, [.ref a_q1_characters, .int s_q1_length_2])), (a_q1_characters, .inl (c_q1_characters, n_q1_characters, .inl e_q1_characters_3))] := hD
    refine lv_lload_n hx hb d_Writer_addToPlaces_17 rfl (lv_at hl 2 rfl) ?_
    replace h := xob_s h
    obtain ⟨r_8, hc_9, h⟩ := h
    try dsimp only at h
    refine xcSN (As := [.long x2]) (rest := [.long r_6, .ref a_t_decimal, .ref a_t]) (st1 := [.int r_8, .long r_6, .ref a_t_decimal, .ref a_t]) (wr := [(a_t, .inr (6, [.ref a_t_fixed, .ref a_t_decimal, .ref a_t_low, .ref a_t_high])), (a_t_fixed, .inr (1, [.ref a_t_fixed_limbs, .int s_t_fixed_first, .int s_t_fixed_end])), (a_t_fixed_limbs, .inl (c_t_fixed_limbs, n_t_fixed_limbs, .inl e_t_fixed_limbs)), (a_t_decimal, .inr (0, [.ref a_t_decimal_digits, .int s_t_decimal_count, .int s_t_decimal_point])), (a_t_decimal_digits, .inl (c_t_decimal_digits, n_t_decimal_digits, .inl e_t_decimal_digits)), (a_q1, .inr (5, [.ref a_q1_characters, .int s_q1_length_2])), (a_q1_characters, .inl (c_q1_characters, n_q1_characters, .inl e_q1_characters_3))]) ⟨hx, hb, hml, hown, hts⟩ (c_NT_power l dC dI x2 r_8 hc_9) (⟨va_cnB 1 hts (xgood g_270) rfl rfl rfl (hNz.at 4 rfl) (hts _ g_1) (by decide +kernel) ⟨Nat.le_of_ble_eq_true rfl, Nat.le_of_ble_eq_true rfl⟩, (hts _ g_269), trivial⟩) hNz hA hP hD hS hK [] [0, 1, 2, 3, 4, 5, 6] [] rfl rfl rfl rfl (by decide) rfl rfl rfl rfl hl.1 (Nat.le_of_ble_eq_true rfl) ⟨Nat.zero_le _, Nat.zero_le _⟩ d_Writer_addToPlaces_18 (fun H locs hP hD hS => ?_)
    have hP : va_P (dC, dI) x_cl [(a_t, .inr (6, [.ref a_t_fixed, .ref a_t_decimal, .ref a_t_low, .ref a_t_high])), (a_t_fixed, .inr (1, [.ref a_t_fixed_limbs, .int s_t_fixed_first, .int s_t_fixed_end])), (a_t_fixed_limbs, .inl (c_t_fixed_limbs, n_t_fixed_limbs, .inl e_t_fixed_limbs)), (a_t_decimal, .inr (0, [.ref a_t_decimal_digits, .int s_t_decimal_count, .int s_t_decimal_point])), (a_t_decimal_digits, .inl (c_t_decimal_digits, n_t_decimal_digits, .inl e_t_decimal_digits)), (a_q1, .inr (5, [.ref a_q1_characters, .int s_q1_length_2])), (a_q1_characters, .inl (c_q1_characters, n_q1_characters, .inl e_q1_characters_3))] H := hP
    have hD : va_D A [(a_t, .inr (6, [.ref a_t_fixed, .ref a_t_decimal, .ref a_t_low, .ref a_t_high])), (a_t_fixed, .inr (1, [.ref a_t_fixed_limbs, .int s_t_fixed_first, .int s_t_fixed_end])), (a_t_fixed_limbs, .inl (c_t_fixed_limbs, n_t_fixed_limbs, .inl e_t_fixed_limbs)), (a_t_decimal, .inr (0, [.ref a_t_decimal_digits, .int s_t_decimal_count, .int s_t_decimal_point])), (a_t_decimal_digits, .inl (c_t_decimal_digits, n_t_decimal_digits, .inl e_t_decimal_digits)), (a_q1, .inr (5, [.ref a_q1_characters, .int s_q1_length_2])), (a_q1_characters, .inl (c_q1_characters, n_q1_characters, .inl e_q1_characters_3))] := hD
    replace h := xob_s h
    obtain ⟨⟨s_t_fixed_end_10, s_t_fixed_first_11, e_t_fixed_limbs_12, s_t_decimal_count_13, s_t_decimal_point_14, e_t_decimal_digits_15⟩, hc_16, h⟩ := h
    try dsimp only at h
    refine xcV (As := [.ref a_t_decimal, .long r_6, .int r_8]) (rest := []) (st1 := []) (wr := [(a_q1, .inr (5, [.ref a_q1_characters, .int s_q1_length_2])), (a_q1_characters, .inl (c_q1_characters, n_q1_characters, .inl e_q1_characters_3))]) ⟨hx, hb, hml, hown, hts⟩ (c_Writer_expand l dC dI a_t a_t_decimal a_t_fixed a_t_decimal a_t_low a_t_high a_t_fixed_limbs a_t_decimal_digits c_t_fixed_limbs c_t_decimal_digits n_t_fixed_limbs n_t_decimal_digits s_t_fixed_first s_t_fixed_end e_t_fixed_limbs s_t_decimal_count s_t_decimal_point e_t_decimal_digits r_6 r_8 s_t_fixed_end_10 s_t_fixed_first_11 e_t_fixed_limbs_12 s_t_decimal_count_13 s_t_decimal_point_14 e_t_decimal_digits_15 hc_16) (cwV 3 hts (xgoodV g_274 g_276 gp_1 g_8 g_277) rfl rfl rfl (by decide +kernel) ⟨Nat.le_of_ble_eq_true rfl, Nat.le_of_ble_eq_true rfl⟩) hNz (ci := 6) (q0 := 0) rfl rfl hA hP hD hS hK [0, 1, 2, 3, 4] [5, 6] [0, 1] rfl rfl rfl rfl (by decide) rfl rfl rfl rfl hl.1 (Nat.le_of_ble_eq_true rfl) ⟨Nat.zero_le _, Nat.zero_le _⟩ d_Writer_addToPlaces_21 (fun H locs hP hD hS => ?_)
    have hP : va_P (dC, dI) x_cl [(a_q1, .inr (5, [.ref a_q1_characters, .int s_q1_length_2])), (a_q1_characters, .inl (c_q1_characters, n_q1_characters, .inl e_q1_characters_3)), (a_t, .inr (6, [.ref a_t_fixed, .ref a_t_decimal, .ref a_t_low, .ref a_t_high])), (a_t_fixed, .inr (1, [.ref a_t_fixed_limbs, .int s_t_fixed_first_11, .int s_t_fixed_end_10])), (a_t_fixed_limbs, .inl (c_t_fixed_limbs, n_t_fixed_limbs, .inl e_t_fixed_limbs_12)), (a_t_decimal, .inr (0, [.ref a_t_decimal_digits, .int s_t_decimal_count_13, .int s_t_decimal_point_14])), (a_t_decimal_digits, .inl (c_t_decimal_digits, n_t_decimal_digits, .inl e_t_decimal_digits_15))] H := hP
    have hD : va_D A [(a_q1, .inr (5, [.ref a_q1_characters, .int s_q1_length_2])), (a_q1_characters, .inl (c_q1_characters, n_q1_characters, .inl e_q1_characters_3)), (a_t, .inr (6, [.ref a_t_fixed, .ref a_t_decimal, .ref a_t_low, .ref a_t_high])), (a_t_fixed, .inr (1, [.ref a_t_fixed_limbs, .int s_t_fixed_first_11, .int s_t_fixed_end_10])), (a_t_fixed_limbs, .inl (c_t_fixed_limbs, n_t_fixed_limbs, .inl e_t_fixed_limbs_12)), (a_t_decimal, .inr (0, [.ref a_t_decimal_digits, .int s_t_decimal_count_13, .int s_t_decimal_point_14])), (a_t_decimal_digits, .inl (c_t_decimal_digits, n_t_decimal_digits, .inl e_t_decimal_digits_15))] := hD
    refine lv_aload_n hx hb d_Writer_addToPlaces_24 rfl (lv_at hl 0 rfl) ?_
    refine va_get (D := (dC, dI)) (ci := 6) (v := .ref a_t_decimal) (C := R_Writer) (T := T_Writer) (N := 4) hx hb hts in_Writer hown hK hP 2 rfl rfl 1 (by decide) (hts _ g_124) (fun _ h9 => h9) rfl d_Writer_addToPlaces_25 ?_
    replace h := xob_s h
    obtain ⟨r_17, hc_18, h⟩ := h
    try dsimp only at h
    refine xcV (As := []) (rest := []) (st1 := [.int r_17]) (wr := [(a_q1, .inr (5, [.ref a_q1_characters, .int s_q1_length_2])), (a_q1_characters, .inl (c_q1_characters, n_q1_characters, .inl e_q1_characters_3)), (a_t, .inr (6, [.ref a_t_fixed, .ref a_t_decimal, .ref a_t_low, .ref a_t_high])), (a_t_fixed, .inr (1, [.ref a_t_fixed_limbs, .int s_t_fixed_first_11, .int s_t_fixed_end_10])), (a_t_fixed_limbs, .inl (c_t_fixed_limbs, n_t_fixed_limbs, .inl e_t_fixed_limbs_12)), (a_t_decimal_digits, .inl (c_t_decimal_digits, n_t_decimal_digits, .inl e_t_decimal_digits_15))]) ⟨hx, hb, hml, hown, hts⟩ (c_Decimal_point l dC dI a_t_decimal a_t_decimal_digits s_t_decimal_count_13 s_t_decimal_point_14 r_17 hc_18) (cwV 0 hts (xgoodV g_337 g_338 g_339 g_6 g_340) rfl rfl rfl (by decide +kernel) ⟨Nat.le_of_ble_eq_true rfl, Nat.le_of_ble_eq_true rfl⟩) hNz (ci := 0) (q0 := 5) rfl rfl hA hP hD hS hK [5] [0, 1, 2, 3, 4, 6] [] rfl rfl rfl rfl (by decide) rfl rfl rfl rfl hl.1 (Nat.le_of_ble_eq_true rfl) ⟨Nat.zero_le _, Nat.zero_le _⟩ d_Writer_addToPlaces_28 (fun H locs hP hD hS => ?_)
    have hP : va_P (dC, dI) x_cl [(a_q1, .inr (5, [.ref a_q1_characters, .int s_q1_length_2])), (a_q1_characters, .inl (c_q1_characters, n_q1_characters, .inl e_q1_characters_3)), (a_t, .inr (6, [.ref a_t_fixed, .ref a_t_decimal, .ref a_t_low, .ref a_t_high])), (a_t_fixed, .inr (1, [.ref a_t_fixed_limbs, .int s_t_fixed_first_11, .int s_t_fixed_end_10])), (a_t_fixed_limbs, .inl (c_t_fixed_limbs, n_t_fixed_limbs, .inl e_t_fixed_limbs_12)), (a_t_decimal_digits, .inl (c_t_decimal_digits, n_t_decimal_digits, .inl e_t_decimal_digits_15)), (a_t_decimal, .inr (0, [.ref a_t_decimal_digits, .int s_t_decimal_count_13, .int s_t_decimal_point_14]))] H := hP
    have hD : va_D A [(a_q1, .inr (5, [.ref a_q1_characters, .int s_q1_length_2])), (a_q1_characters, .inl (c_q1_characters, n_q1_characters, .inl e_q1_characters_3)), (a_t, .inr (6, [.ref a_t_fixed, .ref a_t_decimal, .ref a_t_low, .ref a_t_high])), (a_t_fixed, .inr (1, [.ref a_t_fixed_limbs, .int s_t_fixed_first_11, .int s_t_fixed_end_10])), (a_t_fixed_limbs, .inl (c_t_fixed_limbs, n_t_fixed_limbs, .inl e_t_fixed_limbs_12)), (a_t_decimal_digits, .inl (c_t_decimal_digits, n_t_decimal_digits, .inl e_t_decimal_digits_15)), (a_t_decimal, .inr (0, [.ref a_t_decimal_digits, .int s_t_decimal_count_13, .int s_t_decimal_point_14]))] := hD
    refine lv_iload hx hb d_Writer_addToPlaces_31 (lv_at hl 3 rfl) ?_
    refine lv_iadd hx hb d_Writer_addToPlaces_33 ?_
    replace h := xnm_s h
    obtain ⟨x5_19, ex5_19, h⟩ := h
    refine x_topi ex5_19 ?_
    refine lv_istore (lv' := [(5, .int x5_19), (0, .ref a_t), (1, .ref a_q1), (2, .long x2), (4, .int x4)]) hx hb d_Writer_addToPlaces_34 hl (by decide) rfl (fun ls hl => ?_)
    refine lv_iload hx hb d_Writer_addToPlaces_36 (lv_at hl 0 rfl) ?_
    replace h := xob_s h
    obtain ⟨⟨s_t_decimal_count_20, s_t_decimal_point_21, e_t_decimal_digits_22⟩, hj_23, h⟩ := h
    try dsimp only at h
    have hJ_24 : ∀ (H : Heap) (locs : List Loc) (ls : Array Slot), va_P (dC, dI) x_cl [(a_t, .inr (6, [.ref a_t_fixed, .ref a_t_decimal, .ref a_t_low, .ref a_t_high])), (a_t_fixed, .inr (1, [.ref a_t_fixed_limbs, .int s_t_fixed_first_11, .int s_t_fixed_end_10])), (a_t_fixed_limbs, .inl (c_t_fixed_limbs, n_t_fixed_limbs, .inl e_t_fixed_limbs_12)), (a_t_decimal, .inr (0, [.ref a_t_decimal_digits, .int s_t_decimal_count_20, .int s_t_decimal_point_21])), (a_t_decimal_digits, .inl (c_t_decimal_digits, n_t_decimal_digits, .inl e_t_decimal_digits_22)), (a_q1, .inr (5, [.ref a_q1_characters, .int s_q1_length_2])), (a_q1_characters, .inl (c_q1_characters, n_q1_characters, .inl e_q1_characters_3))] H → va_D A [(a_t, .inr (6, [.ref a_t_fixed, .ref a_t_decimal, .ref a_t_low, .ref a_t_high])), (a_t_fixed, .inr (1, [.ref a_t_fixed_limbs, .int s_t_fixed_first_11, .int s_t_fixed_end_10])), (a_t_fixed_limbs, .inl (c_t_fixed_limbs, n_t_fixed_limbs, .inl e_t_fixed_limbs_12)), (a_t_decimal, .inr (0, [.ref a_t_decimal_digits, .int s_t_decimal_count_20, .int s_t_decimal_point_21])), (a_t_decimal_digits, .inl (c_t_decimal_digits, n_t_decimal_digits, .inl e_t_decimal_digits_22)), (a_q1, .inr (5, [.ref a_q1_characters, .int s_q1_length_2])), (a_q1_characters, .inl (c_q1_characters, n_q1_characters, .inl e_q1_characters_3))] → va_S A s.heap H locs → lv_has ls 6 [(0, .ref a_t), (1, .ref a_q1), (4, .int x4)] → W p l e rm_Writer_addToPlaces s m args below meth c H locs 0 0 Q (F0 m 69 ls []) := by
      intro H locs ls hP hD hS hl
      refine lv_aload_n hx hb d_Writer_addToPlaces_69 rfl (lv_at hl 0 rfl) ?_
      refine lv_aload_n hx hb d_Writer_addToPlaces_70 rfl (lv_at hl 1 rfl) ?_
      refine lv_iload hx hb d_Writer_addToPlaces_71 (lv_at hl 2 rfl) ?_
      replace h := xob_s h
      obtain ⟨⟨s_q1_length_25, e_q1_characters_26⟩, hc_27, h⟩ := h
      try dsimp only at h
      refine xcV (As := [.ref a_q1, .int x4]) (rest := []) (st1 := []) (wr := [(a_t_fixed, .inr (1, [.ref a_t_fixed_limbs, .int s_t_fixed_first_11, .int s_t_fixed_end_10])), (a_t_fixed_limbs, .inl (c_t_fixed_limbs, n_t_fixed_limbs, .inl e_t_fixed_limbs_12))]) ⟨hx, hb, hml, hown, hts⟩ (c_Writer_addPlaces l dC dI a_t a_q1 a_t_fixed a_t_decimal a_t_low a_t_high a_t_decimal_digits a_q1_characters c_t_decimal_digits c_q1_characters n_t_decimal_digits n_q1_characters s_t_decimal_count_20 s_t_decimal_point_21 e_t_decimal_digits_22 s_q1_length_2 e_q1_characters_3 x4 s_q1_length_25 e_q1_characters_26 hc_27) (cwV 2 hts (xgoodV g_377 g_379 gp_8 g_8 g_380) rfl rfl rfl (by decide +kernel) ⟨Nat.le_of_ble_eq_true rfl, Nat.le_of_ble_eq_true rfl⟩) hNz (ci := 6) (q0 := 0) rfl rfl hA hP hD hS hK [0, 3, 4, 5, 6] [1, 2] [1, 2] rfl rfl rfl rfl (by decide) rfl rfl rfl rfl hl.1 (Nat.le_of_ble_eq_true rfl) ⟨Nat.zero_le _, Nat.zero_le _⟩ d_Writer_addToPlaces_73 (fun H locs hP hD hS => ?_)
      have hP : va_P (dC, dI) x_cl [(a_t_fixed, .inr (1, [.ref a_t_fixed_limbs, .int s_t_fixed_first_11, .int s_t_fixed_end_10])), (a_t_fixed_limbs, .inl (c_t_fixed_limbs, n_t_fixed_limbs, .inl e_t_fixed_limbs_12)), (a_t, .inr (6, [.ref a_t_fixed, .ref a_t_decimal, .ref a_t_low, .ref a_t_high])), (a_t_decimal, .inr (0, [.ref a_t_decimal_digits, .int s_t_decimal_count_20, .int s_t_decimal_point_21])), (a_t_decimal_digits, .inl (c_t_decimal_digits, n_t_decimal_digits, .inl e_t_decimal_digits_22)), (a_q1, .inr (5, [.ref a_q1_characters, .int s_q1_length_25])), (a_q1_characters, .inl (c_q1_characters, n_q1_characters, .inl e_q1_characters_26))] H := hP
      have hD : va_D A [(a_t_fixed, .inr (1, [.ref a_t_fixed_limbs, .int s_t_fixed_first_11, .int s_t_fixed_end_10])), (a_t_fixed_limbs, .inl (c_t_fixed_limbs, n_t_fixed_limbs, .inl e_t_fixed_limbs_12)), (a_t, .inr (6, [.ref a_t_fixed, .ref a_t_decimal, .ref a_t_low, .ref a_t_high])), (a_t_decimal, .inr (0, [.ref a_t_decimal_digits, .int s_t_decimal_count_20, .int s_t_decimal_point_21])), (a_t_decimal_digits, .inl (c_t_decimal_digits, n_t_decimal_digits, .inl e_t_decimal_digits_22)), (a_q1, .inr (5, [.ref a_q1_characters, .int s_q1_length_25])), (a_q1_characters, .inl (c_q1_characters, n_q1_characters, .inl e_q1_characters_26))] := hD
      replace h := Option.some.inj h
      replace h := Prod.mk.inj h
      obtain ⟨h1, h⟩ := h
      subst h1
      replace h := Prod.mk.inj h
      obtain ⟨h1, h⟩ := h
      subst h1
      replace h := Prod.mk.inj h
      obtain ⟨h1, h⟩ := h
      subst h1
      replace h := Prod.mk.inj h
      obtain ⟨h1, h⟩ := h
      subst h1
      replace h := Prod.mk.inj h
      obtain ⟨h1, h⟩ := h
      subst h1
      replace h := Prod.mk.inj h
      obtain ⟨h1, h⟩ := h
      subst h1
      replace h := Prod.mk.inj h
      obtain ⟨h1, h⟩ := h
      subst h1
      subst h
      exact hret _ _ (hP.sub [2, 0, 1, 3, 4, 5, 6] rfl) (hD.sub [2, 0, 1, 3, 4, 5, 6] (by decide) rfl) hS _ _ d_Writer_addToPlaces_76
    replace h := hj_23
    clear hj_23
    refine lv_if_ge (tgt := 51) hx hb d_Writer_addToPlaces_38 (by decide) (fun c_28 => ?_) (fun c_28 => ?_)
    · rw [if_pos c_28] at h
      refine lv_aload_n hx hb d_Writer_addToPlaces_51 rfl (lv_at hl 1 rfl) ?_
      refine va_get (D := (dC, dI)) (ci := 6) (v := .ref a_t_decimal) (C := R_Writer) (T := T_Writer) (N := 4) hx hb hts in_Writer hown hK hP 2 rfl rfl 1 (by decide) (hts _ g_124) (fun _ h9 => h9) rfl d_Writer_addToPlaces_52 ?_
      refine lv_iload hx hb d_Writer_addToPlaces_55 (lv_at hl 0 rfl) ?_
      refine lv_aload_n hx hb d_Writer_addToPlaces_57 rfl (lv_at hl 1 rfl) ?_
      refine va_get (D := (dC, dI)) (ci := 6) (v := .ref a_t_decimal) (C := R_Writer) (T := T_Writer) (N := 4) hx hb hts in_Writer hown hK hP 2 rfl rfl 1 (by decide) (hts _ g_124) (fun _ h9 => h9) rfl d_Writer_addToPlaces_58 ?_
      refine lv_iload hx hb d_Writer_addToPlaces_61 (lv_at hl 0 rfl) ?_
      replace h := xob_s h
      obtain ⟨r_29, hc_30, h⟩ := h
      try dsimp only at h
      refine xcV (As := [.int x5_19]) (rest := [.int x5_19, .ref a_t_decimal]) (st1 := [.int r_29, .int x5_19, .ref a_t_decimal]) (wr := [(a_q1, .inr (5, [.ref a_q1_characters, .int s_q1_length_2])), (a_q1_characters, .inl (c_q1_characters, n_q1_characters, .inl e_q1_characters_3)), (a_t, .inr (6, [.ref a_t_fixed, .ref a_t_decimal, .ref a_t_low, .ref a_t_high])), (a_t_fixed, .inr (1, [.ref a_t_fixed_limbs, .int s_t_fixed_first_11, .int s_t_fixed_end_10])), (a_t_fixed_limbs, .inl (c_t_fixed_limbs, n_t_fixed_limbs, .inl e_t_fixed_limbs_12))]) ⟨hx, hb, hml, hown, hts⟩ (c_Decimal_roundsUp l dC dI a_t_decimal a_t_decimal_digits c_t_decimal_digits n_t_decimal_digits s_t_decimal_count_13 s_t_decimal_point_14 e_t_decimal_digits_15 x5_19 r_29 hc_30) (cwV 1 hts (xgoodV g_350 g_351 g_352 g_6 g_353) rfl rfl rfl (by decide +kernel) ⟨Nat.le_of_ble_eq_true rfl, Nat.le_of_ble_eq_true rfl⟩) hNz (ci := 0) (q0 := 6) rfl rfl hA hP hD hS hK [6, 5] [0, 1, 2, 3, 4] [1] rfl rfl rfl rfl (by decide) rfl rfl rfl rfl hl.1 (Nat.le_of_ble_eq_true rfl) ⟨Nat.zero_le _, Nat.zero_le _⟩ d_Writer_addToPlaces_63 (fun H locs hP hD hS => ?_)
      have hP : va_P (dC, dI) x_cl [(a_q1, .inr (5, [.ref a_q1_characters, .int s_q1_length_2])), (a_q1_characters, .inl (c_q1_characters, n_q1_characters, .inl e_q1_characters_3)), (a_t, .inr (6, [.ref a_t_fixed, .ref a_t_decimal, .ref a_t_low, .ref a_t_high])), (a_t_fixed, .inr (1, [.ref a_t_fixed_limbs, .int s_t_fixed_first_11, .int s_t_fixed_end_10])), (a_t_fixed_limbs, .inl (c_t_fixed_limbs, n_t_fixed_limbs, .inl e_t_fixed_limbs_12)), (a_t_decimal, .inr (0, [.ref a_t_decimal_digits, .int s_t_decimal_count_13, .int s_t_decimal_point_14])), (a_t_decimal_digits, .inl (c_t_decimal_digits, n_t_decimal_digits, .inl e_t_decimal_digits_15))] H := hP
      have hD : va_D A [(a_q1, .inr (5, [.ref a_q1_characters, .int s_q1_length_2])), (a_q1_characters, .inl (c_q1_characters, n_q1_characters, .inl e_q1_characters_3)), (a_t, .inr (6, [.ref a_t_fixed, .ref a_t_decimal, .ref a_t_low, .ref a_t_high])), (a_t_fixed, .inr (1, [.ref a_t_fixed_limbs, .int s_t_fixed_first_11, .int s_t_fixed_end_10])), (a_t_fixed_limbs, .inl (c_t_fixed_limbs, n_t_fixed_limbs, .inl e_t_fixed_limbs_12)), (a_t_decimal, .inr (0, [.ref a_t_decimal_digits, .int s_t_decimal_count_13, .int s_t_decimal_point_14])), (a_t_decimal_digits, .inl (c_t_decimal_digits, n_t_decimal_digits, .inl e_t_decimal_digits_15))] := hD
      replace h := xob_s h
      obtain ⟨⟨s_t_decimal_count_31, s_t_decimal_point_32, e_t_decimal_digits_33⟩, hc_34, h⟩ := h
      try dsimp only at h
      refine xcV (As := [.int x5_19, .int r_29]) (rest := []) (st1 := []) (wr := [(a_q1, .inr (5, [.ref a_q1_characters, .int s_q1_length_2])), (a_q1_characters, .inl (c_q1_characters, n_q1_characters, .inl e_q1_characters_3)), (a_t, .inr (6, [.ref a_t_fixed, .ref a_t_decimal, .ref a_t_low, .ref a_t_high])), (a_t_fixed, .inr (1, [.ref a_t_fixed_limbs, .int s_t_fixed_first_11, .int s_t_fixed_end_10])), (a_t_fixed_limbs, .inl (c_t_fixed_limbs, n_t_fixed_limbs, .inl e_t_fixed_limbs_12))]) ⟨hx, hb, hml, hown, hts⟩ (c_Decimal_cut l dC dI a_t_decimal a_t_decimal_digits c_t_decimal_digits n_t_decimal_digits s_t_decimal_count_13 s_t_decimal_point_14 e_t_decimal_digits_15 x5_19 r_29 s_t_decimal_count_31 s_t_decimal_point_32 e_t_decimal_digits_33 hc_34) (cwV 2 hts (xgoodV g_354 g_355 g_356 g_6 g_357) rfl rfl rfl (by decide +kernel) ⟨Nat.le_of_ble_eq_true rfl, Nat.le_of_ble_eq_true rfl⟩) hNz (ci := 0) (q0 := 5) rfl rfl hA hP hD hS hK [5, 6] [0, 1, 2, 3, 4] [1] rfl rfl rfl rfl (by decide) rfl rfl rfl rfl hl.1 (Nat.le_of_ble_eq_true rfl) ⟨Nat.zero_le _, Nat.zero_le _⟩ d_Writer_addToPlaces_66 (fun H locs hP hD hS => ?_)
      have hP : va_P (dC, dI) x_cl [(a_q1, .inr (5, [.ref a_q1_characters, .int s_q1_length_2])), (a_q1_characters, .inl (c_q1_characters, n_q1_characters, .inl e_q1_characters_3)), (a_t, .inr (6, [.ref a_t_fixed, .ref a_t_decimal, .ref a_t_low, .ref a_t_high])), (a_t_fixed, .inr (1, [.ref a_t_fixed_limbs, .int s_t_fixed_first_11, .int s_t_fixed_end_10])), (a_t_fixed_limbs, .inl (c_t_fixed_limbs, n_t_fixed_limbs, .inl e_t_fixed_limbs_12)), (a_t_decimal, .inr (0, [.ref a_t_decimal_digits, .int s_t_decimal_count_31, .int s_t_decimal_point_32])), (a_t_decimal_digits, .inl (c_t_decimal_digits, n_t_decimal_digits, .inl e_t_decimal_digits_33))] H := hP
      have hD : va_D A [(a_q1, .inr (5, [.ref a_q1_characters, .int s_q1_length_2])), (a_q1_characters, .inl (c_q1_characters, n_q1_characters, .inl e_q1_characters_3)), (a_t, .inr (6, [.ref a_t_fixed, .ref a_t_decimal, .ref a_t_low, .ref a_t_high])), (a_t_fixed, .inr (1, [.ref a_t_fixed_limbs, .int s_t_fixed_first_11, .int s_t_fixed_end_10])), (a_t_fixed_limbs, .inl (c_t_fixed_limbs, n_t_fixed_limbs, .inl e_t_fixed_limbs_12)), (a_t_decimal, .inr (0, [.ref a_t_decimal_digits, .int s_t_decimal_count_31, .int s_t_decimal_point_32])), (a_t_decimal_digits, .inl (c_t_decimal_digits, n_t_decimal_digits, .inl e_t_decimal_digits_33))] := hD
      replace h := Option.some.inj h
      replace h := Prod.mk.inj h
      obtain ⟨h1, h⟩ := h
      subst h1
      replace h := Prod.mk.inj h
      obtain ⟨h1, h⟩ := h
      subst h1
      subst h
      exact hJ_24 _ _ _ (hP.sub [2, 3, 4, 5, 6, 0, 1] rfl) (hD.sub [2, 3, 4, 5, 6, 0, 1] (by decide) rfl) hS (lv_sub hl [1, 2, 4] rfl)
    · rw [if_neg c_28] at h
      refine lv_aload_n hx hb d_Writer_addToPlaces_41 rfl (lv_at hl 1 rfl) ?_
      refine va_get (D := (dC, dI)) (ci := 6) (v := .ref a_t_decimal) (C := R_Writer) (T := T_Writer) (N := 4) hx hb hts in_Writer hown hK hP 2 rfl rfl 1 (by decide) (hts _ g_124) (fun _ h9 => h9) rfl d_Writer_addToPlaces_42 ?_
      replace h := xob_s h
      obtain ⟨⟨s_t_decimal_count_35, s_t_decimal_point_36⟩, hc_37, h⟩ := h
      try dsimp only at h
      refine xcV (As := []) (rest := []) (st1 := []) (wr := [(a_q1, .inr (5, [.ref a_q1_characters, .int s_q1_length_2])), (a_q1_characters, .inl (c_q1_characters, n_q1_characters, .inl e_q1_characters_3)), (a_t, .inr (6, [.ref a_t_fixed, .ref a_t_decimal, .ref a_t_low, .ref a_t_high])), (a_t_fixed, .inr (1, [.ref a_t_fixed_limbs, .int s_t_fixed_first_11, .int s_t_fixed_end_10])), (a_t_fixed_limbs, .inl (c_t_fixed_limbs, n_t_fixed_limbs, .inl e_t_fixed_limbs_12)), (a_t_decimal_digits, .inl (c_t_decimal_digits, n_t_decimal_digits, .inl e_t_decimal_digits_15))]) ⟨hx, hb, hml, hown, hts⟩ (c_Decimal_clear l dC dI a_t_decimal a_t_decimal_digits s_t_decimal_count_13 s_t_decimal_point_14 s_t_decimal_count_35 s_t_decimal_point_36 hc_37) (cwV 0 hts (xgoodV g_303 g_304 g_305 g_6 g_306) rfl rfl rfl (by decide +kernel) ⟨Nat.le_of_ble_eq_true rfl, Nat.le_of_ble_eq_true rfl⟩) hNz (ci := 0) (q0 := 6) rfl rfl hA hP hD hS hK [6] [0, 1, 2, 3, 4, 5] [] rfl rfl rfl rfl (by decide) rfl rfl rfl rfl hl.1 (Nat.le_of_ble_eq_true rfl) ⟨Nat.zero_le _, Nat.zero_le _⟩ d_Writer_addToPlaces_45 (fun H locs hP hD hS => ?_)
      have hP : va_P (dC, dI) x_cl [(a_q1, .inr (5, [.ref a_q1_characters, .int s_q1_length_2])), (a_q1_characters, .inl (c_q1_characters, n_q1_characters, .inl e_q1_characters_3)), (a_t, .inr (6, [.ref a_t_fixed, .ref a_t_decimal, .ref a_t_low, .ref a_t_high])), (a_t_fixed, .inr (1, [.ref a_t_fixed_limbs, .int s_t_fixed_first_11, .int s_t_fixed_end_10])), (a_t_fixed_limbs, .inl (c_t_fixed_limbs, n_t_fixed_limbs, .inl e_t_fixed_limbs_12)), (a_t_decimal_digits, .inl (c_t_decimal_digits, n_t_decimal_digits, .inl e_t_decimal_digits_15)), (a_t_decimal, .inr (0, [.ref a_t_decimal_digits, .int s_t_decimal_count_35, .int s_t_decimal_point_36]))] H := hP
      have hD : va_D A [(a_q1, .inr (5, [.ref a_q1_characters, .int s_q1_length_2])), (a_q1_characters, .inl (c_q1_characters, n_q1_characters, .inl e_q1_characters_3)), (a_t, .inr (6, [.ref a_t_fixed, .ref a_t_decimal, .ref a_t_low, .ref a_t_high])), (a_t_fixed, .inr (1, [.ref a_t_fixed_limbs, .int s_t_fixed_first_11, .int s_t_fixed_end_10])), (a_t_fixed_limbs, .inl (c_t_fixed_limbs, n_t_fixed_limbs, .inl e_t_fixed_limbs_12)), (a_t_decimal_digits, .inl (c_t_decimal_digits, n_t_decimal_digits, .inl e_t_decimal_digits_15)), (a_t_decimal, .inr (0, [.ref a_t_decimal_digits, .int s_t_decimal_count_35, .int s_t_decimal_point_36]))] := hD
      refine lv_goto (tgt := 69) hx hb d_Writer_addToPlaces_48 (by decide) ?_
      replace h := Option.some.inj h
      replace h := Prod.mk.inj h
      obtain ⟨h1, h⟩ := h
      subst h1
      replace h := Prod.mk.inj h
      obtain ⟨h1, h⟩ := h
      subst h1
      subst h
      exact hJ_24 _ _ _ (hP.sub [2, 3, 4, 6, 5, 0, 1] rfl) (hD.sub [2, 3, 4, 6, 5, 0, 1] (by decide) rfl) hS (lv_sub hl [1, 2, 4] rfl)
