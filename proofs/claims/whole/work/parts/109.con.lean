def f_Decimal_leastPlaces (s_t_count : Int32) (s_t_point : Int32) : Option (Int32) :=
  some (if (0 : Int32) < (s_t_count - s_t_point) then (s_t_count - s_t_point) else (0 : Int32))
def rm_Decimal_leastPlaces : Room := { frames := 1, cells := 0, slots := 0, locals := 13 }
set_option maxHeartbeats 4000000 in
set_option maxRecDepth 100000 in
theorem c_Decimal_leastPlaces (l : Launch) (dC : Nat → ClassId) (dI : Nat → Nat → Nat) (a_t a_t_digits : Nat) (s_t_count : Int32) (s_t_point : Int32) (r_ : Int32) (h : f_Decimal_leastPlaces s_t_count s_t_point = some r_) : xM l y_Decimal_leastPlaces (Cond.code y_Decimal_leastPlaces b_Decimal_leastPlaces 1 (some .int) :: xG) rm_Decimal_leastPlaces (dC, dI) x_cl x_nz [.ref a_t] [] [(a_t, .inr (0, [.ref a_t_digits, .int s_t_count, .int s_t_point]))] (some (.int r_)) [(a_t, .inr (0, [.ref a_t_digits, .int s_t_count, .int s_t_point]))] := by
  unfold f_Decimal_leastPlaces at h
  refine xM.mkI (cc := b_Decimal_leastPlaces) (maxL := 1)  (by decide +kernel) rfl (Nat.le_of_ble_eq_true rfl) ?_
  intro p e s m args below meth c A Q ls hx hb hml hown hts hNz hA hP hD hK hl hret
  have hS : va_S A s.heap s.heap [] := va_S.rf
  have hl : lv_has ls 1 [(0, .ref a_t)] := hl
  refine lv_iconst (v := 0) hx hb d_Decimal_leastPlaces_0 (by decide) ?_
  refine lv_aload_n hx hb d_Decimal_leastPlaces_1 rfl (lv_at hl 0 rfl) ?_
  refine va_get (D := (dC, dI)) (ci := 0) (v := .int s_t_count) (C := R_Decimal) (T := T_Decimal) (N := 3) hx hb hts in_Decimal hown hK hP 0 rfl rfl 1 (by decide) (hts _ g_74) (fun _ h9 => h9) rfl d_Decimal_leastPlaces_2 ?_
  refine lv_aload_n hx hb d_Decimal_leastPlaces_5 rfl (lv_at hl 0 rfl) ?_
  refine va_get (D := (dC, dI)) (ci := 0) (v := .int s_t_point) (C := R_Decimal) (T := T_Decimal) (N := 3) hx hb hts in_Decimal hown hK hP 0 rfl rfl 2 (by decide) (hts _ g_75) (fun _ h9 => h9) rfl d_Decimal_leastPlaces_6 ?_
  refine lv_isub hx hb d_Decimal_leastPlaces_9 ?_
  refine va_mmax hx hb (by rw [hml]; exact hl.1.symm) hown (hts _ g_72) (hts _ g_33) (hts _ g_3) (hts _ g_34) (Nat.le_of_ble_eq_true rfl) (Nat.le_of_ble_eq_true rfl) (Nat.le_of_ble_eq_true rfl) (Nat.le_of_ble_eq_true rfl) d_Decimal_leastPlaces_10 ?_
  replace h := Option.some.inj h
  subst h
  exact hret _ _ hP hD hS _ _ d_Decimal_leastPlaces_13
def f_Writer_addInFull (n_t_fixed_limbs : Nat) (n_t_decimal_digits : Nat) (n_q1_characters : Nat) (s_t_fixed_first : Int32) (s_t_fixed_end : Int32) (e_t_fixed_limbs : Nat → Int32) (s_t_decimal_count : Int32) (s_t_decimal_point : Int32) (e_t_decimal_digits : Nat → Int32) (s_q1_length : Int32) (e_q1_characters : Nat → Int32) (x2 : Int64) : Option (Int32 × Int32 × (Nat → Int32) × Int32 × Int32 × (Nat → Int32) × Int32 × (Nat → Int32)) :=
  xob (f_Writer_addsDigits n_q1_characters s_q1_length e_q1_characters x2) fun (r_1, s_q1_length_2, e_q1_characters_3) => if r_1 = 0 then (some (s_t_fixed_end, s_t_fixed_first, e_t_fixed_limbs, s_t_decimal_count, s_t_decimal_point, e_t_decimal_digits, s_q1_length_2, e_q1_characters_3)) else (xob (f_NT_multiple x2) fun r_6 => xob (f_NT_power x2) fun r_8 => xob (f_Writer_expand n_t_fixed_limbs n_t_decimal_digits s_t_fixed_first s_t_fixed_end e_t_fixed_limbs s_t_decimal_count s_t_decimal_point e_t_decimal_digits r_6 r_8) fun (s_t_fixed_end_10, s_t_fixed_first_11, e_t_fixed_limbs_12, s_t_decimal_count_13, s_t_decimal_point_14, e_t_decimal_digits_15) => xob (f_Decimal_leastPlaces s_t_decimal_count_13 s_t_decimal_point_14) fun r_17 => xob (f_Writer_addPlaces n_t_decimal_digits n_q1_characters s_t_decimal_count_13 s_t_decimal_point_14 e_t_decimal_digits_15 s_q1_length_2 e_q1_characters_3 r_17) fun (s_q1_length_19, e_q1_characters_20) => some (s_t_fixed_end_10, s_t_fixed_first_11, e_t_fixed_limbs_12, s_t_decimal_count_13, s_t_decimal_point_14, e_t_decimal_digits_15, s_q1_length_19, e_q1_characters_20))
def rm_Writer_addInFull : Room := { frames := 4, cells := 0, slots := 0, locals := 95 }
set_option maxHeartbeats 4000000 in
set_option maxRecDepth 100000 in
theorem c_Writer_addInFull (l : Launch) (dC : Nat → ClassId) (dI : Nat → Nat → Nat) (a_t a_q1 a_t_fixed a_t_decimal a_t_low a_t_high a_t_fixed_limbs a_t_decimal_digits a_q1_characters : Nat) (c_t_fixed_limbs c_t_decimal_digits c_q1_characters : ClassId) (n_t_fixed_limbs : Nat) (n_t_decimal_digits : Nat) (n_q1_characters : Nat) (s_t_fixed_first : Int32) (s_t_fixed_end : Int32) (e_t_fixed_limbs : Nat → Int32) (s_t_decimal_count : Int32) (s_t_decimal_point : Int32) (e_t_decimal_digits : Nat → Int32) (s_q1_length : Int32) (e_q1_characters : Nat → Int32) (x2 : Int64) (s_t_fixed_end_o : Int32) (s_t_fixed_first_o : Int32) (e_t_fixed_limbs_o : Nat → Int32) (s_t_decimal_count_o : Int32) (s_t_decimal_point_o : Int32) (e_t_decimal_digits_o : Nat → Int32) (s_q1_length_o : Int32) (e_q1_characters_o : Nat → Int32) (h : f_Writer_addInFull n_t_fixed_limbs n_t_decimal_digits n_q1_characters s_t_fixed_first s_t_fixed_end e_t_fixed_limbs s_t_decimal_count s_t_decimal_point e_t_decimal_digits s_q1_length e_q1_characters x2 = some (s_t_fixed_end_o, s_t_fixed_first_o, e_t_fixed_limbs_o, s_t_decimal_count_o, s_t_decimal_point_o, e_t_decimal_digits_o, s_q1_length_o, e_q1_characters_o)) : xM l y_Writer_addInFull (Cond.code y_Writer_addInFull b_Writer_addInFull 4 none :: xG) rm_Writer_addInFull (dC, dI) x_cl x_nz [.ref a_t, .ref a_q1, .long x2] [(c_t_fixed_limbs, .int), (c_t_decimal_digits, .byte), (c_q1_characters, .byte)] [(a_t, .inr (6, [.ref a_t_fixed, .ref a_t_decimal, .ref a_t_low, .ref a_t_high])), (a_t_fixed, .inr (1, [.ref a_t_fixed_limbs, .int s_t_fixed_first, .int s_t_fixed_end])), (a_t_fixed_limbs, .inl (c_t_fixed_limbs, n_t_fixed_limbs, .inl e_t_fixed_limbs)), (a_t_decimal, .inr (0, [.ref a_t_decimal_digits, .int s_t_decimal_count, .int s_t_decimal_point])), (a_t_decimal_digits, .inl (c_t_decimal_digits, n_t_decimal_digits, .inl e_t_decimal_digits)), (a_q1, .inr (5, [.ref a_q1_characters, .int s_q1_length])), (a_q1_characters, .inl (c_q1_characters, n_q1_characters, .inl e_q1_characters))] none [(a_t, .inr (6, [.ref a_t_fixed, .ref a_t_decimal, .ref a_t_low, .ref a_t_high])), (a_t_fixed, .inr (1, [.ref a_t_fixed_limbs, .int s_t_fixed_first_o, .int s_t_fixed_end_o])), (a_t_fixed_limbs, .inl (c_t_fixed_limbs, n_t_fixed_limbs, .inl e_t_fixed_limbs_o)), (a_t_decimal, .inr (0, [.ref a_t_decimal_digits, .int s_t_decimal_count_o, .int s_t_decimal_point_o])), (a_t_decimal_digits, .inl (c_t_decimal_digits, n_t_decimal_digits, .inl e_t_decimal_digits_o)), (a_q1, .inr (5, [.ref a_q1_characters, .int s_q1_length_o])), (a_q1_characters, .inl (c_q1_characters, n_q1_characters, .inl e_q1_characters_o))] := by
  unfold f_Writer_addInFull at h
  refine xM.mkV (cc := b_Writer_addInFull) (maxL := 4)  (by decide +kernel) rfl (Nat.le_of_ble_eq_true rfl) ?_
  intro p e s m args below meth c A Q ls hx hb hml hown hts hNz hA hP hD hK hl hret
  have hS : va_S A s.heap s.heap [] := va_S.rf
  have hl : lv_has ls 4 [(0, .ref a_t), (1, .ref a_q1), (2, .long x2)] := hl
  refine lv_aload_n hx hb d_Writer_addInFull_0 rfl (lv_at hl 1 rfl) ?_
  refine lv_lload_n hx hb d_Writer_addInFull_1 rfl (lv_at hl 2 rfl) ?_
  replace h := xob_s h
  obtain ⟨⟨r_1, s_q1_length_2, e_q1_characters_3⟩, hc_4, h⟩ := h
  try dsimp only at h
  refine xcS (As := [.ref a_q1, .long x2]) (rest := []) (st1 := [.int r_1]) (wr := [(a_t, .inr (6, [.ref a_t_fixed, .ref a_t_decimal, .ref a_t_low, .ref a_t_high])), (a_t_fixed, .inr (1, [.ref a_t_fixed_limbs, .int s_t_fixed_first, .int s_t_fixed_end])), (a_t_fixed_limbs, .inl (c_t_fixed_limbs, n_t_fixed_limbs, .inl e_t_fixed_limbs)), (a_t_decimal, .inr (0, [.ref a_t_decimal_digits, .int s_t_decimal_count, .int s_t_decimal_point])), (a_t_decimal_digits, .inl (c_t_decimal_digits, n_t_decimal_digits, .inl e_t_decimal_digits))]) ⟨hx, hb, hml, hown, hts⟩ (c_Writer_addsDigits l dC dI a_q1 a_q1_characters c_q1_characters n_q1_characters s_q1_length e_q1_characters x2 r_1 s_q1_length_2 e_q1_characters_3 hc_4) (⟨callB_of 2 hts (xgood g_231) rfl rfl rfl (hts _ g_8) (hts _ g_229) (by decide +kernel) ⟨Nat.le_of_ble_eq_true rfl, Nat.le_of_ble_eq_true rfl⟩, (hts _ g_230)⟩) hNz hA hP hD hS hK [5, 6] [0, 1, 2, 3, 4] [2] rfl rfl rfl rfl (by decide) rfl rfl rfl rfl hl.1 (Nat.le_of_ble_eq_true rfl) ⟨Nat.zero_le _, Nat.zero_le _⟩ d_Writer_addInFull_2 (fun H locs hP hD hS => ?_)
  have hP : va_P (dC, dI) x_cl [(a_t, .inr (6, [.ref a_t_fixed, .ref a_t_decimal, .ref a_t_low, .ref a_t_high])), (a_t_fixed, .inr (1, [.ref a_t_fixed_limbs, .int s_t_fixed_first, .int s_t_fixed_end])), (a_t_fixed_limbs, .inl (c_t_fixed_limbs, n_t_fixed_limbs, .inl e_t_fixed_limbs)), (a_t_decimal, .inr (0, [.ref a_t_decimal_digits, .int s_t_decimal_count, .int s_t_decimal_point])), (a_t_decimal_digits, .inl (c_t_decimal_digits, n_t_decimal_digits, .inl e_t_decimal_digits)), (a_q1, .inr (5, [.ref a_q1_characters, .int s_q1_length_2])), (a_q1_characters, .inl (c_q1_characters, n_q1_characters, .inl e_q1_characters_3))] H := hP
  have hD : va_D A [(a_t, .inr (6, [.ref a_t_fixed, .ref a_t_decimal, .ref a_t_low, .ref a_t_high])), (a_t_fixed, .inr (1, [.ref a_t_fixed_limbs, .int s_t_fixed_first, .int s_t_fixed_end])), (a_t_fixed_limbs, .inl (c_t_fixed_limbs, n_t_fixed_limbs, .inl e_t_fixed_limbs)), (a_t_decimal, .inr (0, [.ref a_t_decimal_digits, .int s_t_decimal_count, .int s_t_decimal_point])), (a_t_decimal_digits, .inl (c_t_decimal_digits, n_t_decimal_digits, .inl e_t_decimal_digits)), (a_q1, .inr (5, [.ref a_q1_characters, .int s_q1_length_2])), (a_q1_characters, .inl (c_q1_characters, n_q1_characters, .inl e_q1_characters_3))] := hD
  refine lv_if_eq (tgt := 36) hx hb d_Writer_addInFull_5 (by decide) (fun c_5 => ?_) (fun c_5 => ?_)
  · rw [if_pos c_5] at h
    replace h := Option.some.inj h
    replace h := Prod.mk.inj h
    obtain ⟨h1, h⟩ := h
    subst h1
    replace h := Prod.mk.inj h
    obtain ⟨h1, h⟩ := h
    subst h1
    replace h := Prod.mk.inj h
    obtain ⟨h1, h⟩ := h
    subst h1
    replace h := Prod.mk.inj h
    obtain ⟨h1, h⟩ := h
    subst h1
    replace h := Prod.mk.inj h
    obtain ⟨h1, h⟩ := h
    subst h1
    replace h := Prod.mk.inj h
    obtain ⟨h1, h⟩ := h
    subst h1
    replace h := Prod.mk.inj h
    obtain ⟨h1, h⟩ := h
    subst h1
    subst h
    exact hret _ _ hP hD hS _ _ d_Writer_addInFull_36
  · rw [if_neg c_5] at h
    refine lv_aload_n hx hb d_Writer_addInFull_8 rfl (lv_at hl 0 rfl) ?_
    refine lv_aload_n hx hb d_Writer_addInFull_9 rfl (lv_at hl 0 rfl) ?_
    refine va_get (D := (dC, dI)) (ci := 6) (v := .ref a_t_decimal) (C := R_Writer) (T := T_Writer) (N := 4) hx hb hts in_Writer hown hK hP 0 rfl rfl 1 (by decide) (hts _ g_124) (fun _ h9 => h9) rfl d_Writer_addInFull_10 ?_
    refine lv_lload_n hx hb d_Writer_addInFull_13 rfl (lv_at hl 2 rfl) ?_
    replace h := xob_s h
    obtain ⟨r_6, hc_7, h⟩ := h
    try dsimp only at h
    refine xcSN (As := [.long x2]) (rest := [.ref a_t_decimal, .ref a_t]) (st1 := [.long r_6, .ref a_t_decimal, .ref a_t]) (wr := [(a_t, .inr (6, [.ref a_t_fixed, .ref a_t_decimal, .ref a_t_low, .ref a_t_high])), (a_t_fixed, .inr (1, [.ref a_t_fixed_limbs, .int s_t_fixed_first, .int s_t_fixed_end])), (a_t_fixed_limbs, .inl (c_t_fixed_limbs, n_t_fixed_limbs, .inl e_t_fixed_limbs)), (a_t_decimal, .inr (0, [.ref a_t_decimal_digits, .int s_t_decimal_count, .int s_t_decimal_point])), (a_t_decimal_digits, .inl (c_t_decimal_digits, n_t_decimal_digits, .inl e_t_decimal_digits)), (a_q1, .inr (5, [.ref a_q1_characters, .int s_q1_length_2])), (a_q1_characters, .inl (c_q1_characters, n_q1_characters, .inl e_q1_characters_3))]) ⟨hx, hb, hml, hown, hts⟩ (c_NT_multiple l dC dI x2 r_6 hc_7) (⟨va_cnB 1 hts (xgood g_259) rfl rfl rfl (hNz.at 3 rfl) (hts _ g_1) (by decide +kernel) ⟨Nat.le_of_ble_eq_true rfl, Nat.le_of_ble_eq_true rfl⟩, (hts _ g_258), trivial⟩) hNz hA hP hD hS hK [] [0, 1, 2, 3, 4, 5, 6] [] rfl rfl rfl rfl (by decide) rfl rfl rfl rfl hl.1 (Nat.le_of_ble_eq_true rfl) ⟨Nat.zero_le _, Nat.zero_le _⟩ d_Writer_addInFull_14 (fun H locs hP hD hS => ?_)
    have hP : va_P (dC, dI) x_cl [(a_t, .inr (6, [.ref a_t_fixed, .ref a_t_decimal, .ref a_t_low, .ref a_t_high])), (a_t_fixed, .inr (1, [.ref a_t_fixed_limbs, .int s_t_fixed_first, .int s_t_fixed_end])), (a_t_fixed_limbs, .inl (c_t_fixed_limbs, n_t_fixed_limbs, .inl e_t_fixed_limbs)), (a_t_decimal, .inr (0, [.ref a_t_decimal_digits, .int s_t_decimal_count, .int s_t_decimal_point])), (a_t_decimal_digits, .inl (c_t_decimal_digits, n_t_decimal_digits, .inl e_t_decimal_digits)), (a_q1, .inr (5, [.ref a_q1_characters, .int s_q1_length_2])), (a_q1_characters, .inl (c_q1_characters, n_q1_characters, .inl e_q1_characters_3))] H := hP
    have hD : va_D A [(a_t, .inr (6, [.ref a_t_fixed, .ref a_t_decimal, .ref a_t_low, .ref a_t_high])), (a_t_fixed, .inr (1, [.ref a_t_fixed_limbs, .int s_t_fixed_first, .int s_t_fixed_end])), (a_t_fixed_limbs, .inl (c_t_fixed_limbs, n_t_fixed_limbs, .inl e_t_fixed_limbs)), (a_t_decimal, .inr (0, [.ref a_t_decimal_digits, .int s_t_decimal_count, .int s_t_decimal_point])), (a_t_decimal_digits, .inl (c_t_decimal_digits, n_t_decimal_digits, .inl e_t_decimal_digits)), (a_q1, .inr (5, [.ref a_q1_characters, .int s_q1_length_2])), (a_q1_characters, .inl (c_q1_characters, n_q1_characters, .inl e_q1_characters_3))] := hD
    refine lv_lload_n hx hb d_Writer_addInFull_17 rfl (lv_at hl 2 rfl) ?_
    replace h := xob_s h
    obtain ⟨r_8, hc_9, h⟩ := h
    try dsimp only at h
    refine xcSN (As := [.long x2]) (rest := [.long r_6, .ref a_t_decimal, .ref a_t]) (st1 := [.int r_8, .long r_6, .ref a_t_decimal, .ref a_t]) (wr := [(a_t, .inr (6, [.ref a_t_fixed, .ref a_t_decimal, .ref a_t_low, .ref a_t_high])), (a_t_fixed, .inr (1, [.ref a_t_fixed_limbs, .int s_t_fixed_first, .int s_t_fixed_end])), (a_t_fixed_limbs, .inl (c_t_fixed_limbs, n_t_fixed_limbs, .inl e_t_fixed_limbs)), (a_t_decimal, .inr (0, [.ref a_t_decimal_digits, .int s_t_decimal_count, .int s_t_decimal_point])), (a_t_decimal_digits, .inl (c_t_decimal_digits, n_t_decimal_digits, .inl e_t_decimal_digits)), (a_q1, .inr (5, [.ref a_q1_characters, .int s_q1_length_2])), (a_q1_characters, .inl (c_q1_characters, n_q1_characters, .inl e_q1_characters_3))]) ⟨hx, hb, hml, hown, hts⟩ (c_NT_power l dC dI x2 r_8 hc_9) (⟨va_cnB 1 hts (xgood g_270) rfl rfl rfl (hNz.at 4 rfl) (hts _ g_1) (by decide +kernel) ⟨Nat.le_of_ble_eq_true rfl, Nat.le_of_ble_eq_true rfl⟩, (hts _ g_269), trivial⟩) hNz hA hP hD hS hK [] [0, 1, 2, 3, 4, 5, 6] [] rfl rfl rfl rfl (by decide) rfl rfl rfl rfl hl.1 (Nat.le_of_ble_eq_true rfl) ⟨Nat.zero_le _, Nat.zero_le _⟩ d_Writer_addInFull_18 (fun H locs hP hD hS => ?_)
    have hP : va_P (dC, dI) x_cl [(a_t, .inr (6, [.ref a_t_fixed, .ref a_t_decimal, .ref a_t_low, .ref a_t_high])), (a_t_fixed, .inr (1, [.ref a_t_fixed_limbs, .int s_t_fixed_first, .int s_t_fixed_end])), (a_t_fixed_limbs, .inl (c_t_fixed_limbs, n_t_fixed_limbs, .inl e_t_fixed_limbs)), (a_t_decimal, .inr (0, [.ref a_t_decimal_digits, .int s_t_decimal_count, .int s_t_decimal_point])), (a_t_decimal_digits, .inl (c_t_decimal_digits, n_t_decimal_digits, .inl e_t_decimal_digits)), (a_q1, .inr (5, [.ref a_q1_characters, .int s_q1_length_2])), (a_q1_characters, .inl (c_q1_characters, n_q1_characters, .inl e_q1_characters_3))] H := hP
    have hD : va_D A [(a_t, .inr (6, [.ref a_t_fixed, .ref a_t_decimal, .ref a_t_low, .ref a_t_high])), (a_t_fixed, .inr (1, [.ref a_t_fixed_limbs, .int s_t_fixed_first, .int s_t_fixed_end])), (a_t_fixed_limbs, .inl (c_t_fixed_limbs, n_t_fixed_limbs, .inl e_t_fixed_limbs)), (a_t_decimal, .inr (0, [.ref a_t_decimal_digits, .int s_t_decimal_count, .int s_t_decimal_point])), (a_t_decimal_digits, .inl (c_t_decimal_digits, n_t_decimal_digits, .inl e_t_decimal_digits)), (a_q1, .inr (5, [.ref a_q1_characters, .int s_q1_length_2])), (a_q1_characters, .inl (c_q1_characters, n_q1_characters, .inl e_q1_characters_3))] := hD
    replace h := xob_s h
    obtain ⟨⟨s_t_fixed_end_10, s_t_fixed_first_11, e_t_fixed_limbs_12, s_t_decimal_count_13, s_t_decimal_point_14, e_t_decimal_digits_15⟩, hc_16, h⟩ := h
    try dsimp only at h
    refine xcV (As := [.ref a_t_decimal, .long r_6, .int r_8]) (rest := []) (st1 := []) (wr := [(a_q1, .inr (5, [.ref a_q1_characters, .int s_q1_length_2])), (a_q1_characters, .inl (c_q1_characters, n_q1_characters, .inl e_q1_characters_3))]) ⟨hx, hb, hml, hown, hts⟩ (c_Writer_expand l dC dI a_t a_t_decimal a_t_fixed a_t_decimal a_t_low a_t_high a_t_fixed_limbs a_t_decimal_digits c_t_fixed_limbs c_t_decimal_digits n_t_fixed_limbs n_t_decimal_digits s_t_fixed_first s_t_fixed_end e_t_fixed_limbs s_t_decimal_count s_t_decimal_point e_t_decimal_digits r_6 r_8 s_t_fixed_end_10 s_t_fixed_first_11 e_t_fixed_limbs_12 s_t_decimal_count_13 s_t_decimal_point_14 e_t_decimal_digits_15 hc_16) (cwV 3 hts (xgoodV g_274 g_276 gp_1 g_8 g_277) rfl rfl rfl (by decide +kernel) ⟨Nat.le_of_ble_eq_true rfl, Nat.le_of_ble_eq_true rfl⟩) hNz (ci := 6) (q0 := 0) rfl rfl hA hP hD hS hK [0, 1, 2, 3, 4] [5, 6] [0, 1] rfl rfl rfl rfl (by decide) rfl rfl rfl rfl hl.1 (Nat.le_of_ble_eq_true rfl) ⟨Nat.zero_le _, Nat.zero_le _⟩ d_Writer_addInFull_21 (fun H locs hP hD hS => ?_)
    have hP : va_P (dC, dI) x_cl [(a_q1, .inr (5, [.ref a_q1_characters, .int s_q1_length_2])), (a_q1_characters, .inl (c_q1_characters, n_q1_characters, .inl e_q1_characters_3)), (a_t, .inr (6, [.ref a_t_fixed, .ref a_t_decimal, .ref a_t_low, .ref a_t_high])), (a_t_fixed, .inr (1, [.ref a_t_fixed_limbs, .int s_t_fixed_first_11, .int s_t_fixed_end_10])), (a_t_fixed_limbs, .inl (c_t_fixed_limbs, n_t_fixed_limbs, .inl e_t_fixed_limbs_12)), (a_t_decimal, .inr (0, [.ref a_t_decimal_digits, .int s_t_decimal_count_13, .int s_t_decimal_point_14])), (a_t_decimal_digits, .inl (c_t_decimal_digits, n_t_decimal_digits, .inl e_t_decimal_digits_15))] H := hP
    have hD : va_D A [(a_q1, .inr (5, [.ref a_q1_characters, .int s_q1_length_2])), (a_q1_characters, .inl (c_q1_characters, n_q1_characters, .inl e_q1_characters_3)), (a_t, .inr (6, [.ref a_t_fixed, .ref a_t_decimal, .ref a_t_low, .ref a_t_high])), (a_t_fixed, .inr (1, [.ref a_t_fixed_limbs, .int s_t_fixed_first_11, .int s_t_fixed_end_10])), (a_t_fixed_limbs, .inl (c_t_fixed_limbs, n_t_fixed_limbs, .inl e_t_fixed_limbs_12)), (a_t_decimal, .inr (0, [.ref a_t_decimal_digits, .int s_t_decimal_count_13, .int s_t_decimal_point_14])), (a_t_decimal_digits, .inl (c_t_decimal_digits, n_t_decimal_digits, .inl e_t_decimal_digits_15))] := hD
    refine lv_aload_n hx hb d_Writer_addInFull_24 rfl (lv_at hl 0 rfl) ?_
    refine lv_aload_n hx hb d_Writer_addInFull_25 rfl (lv_at hl 1 rfl) ?_
    refine lv_aload_n hx hb d_Writer_addInFull_26 rfl (lv_at hl 0 rfl) ?_
    refine va_get (D := (dC, dI)) (ci := 6) (v := .ref a_t_decimal) (C := R_Writer) (T := T_Writer) (N := 4) hx hb hts in_Writer hown hK hP 2 rfl rfl 1 (by decide) (hts _ g_124) (fun _ h9 => h9) rfl d_Writer_addInFull_27 ?_
    replace h := xob_s h
    obtain ⟨r_17, hc_18, h⟩ := h
    try dsimp only at h
    refine xcV (As := []) (rest := [.ref a_q1, .ref a_t]) (st1 := [.int r_17, .ref a_q1, .ref a_t]) (wr := [(a_q1, .inr (5, [.ref a_q1_characters, .int s_q1_length_2])), (a_q1_characters, .inl (c_q1_characters, n_q1_characters, .inl e_q1_characters_3)), (a_t, .inr (6, [.ref a_t_fixed, .ref a_t_decimal, .ref a_t_low, .ref a_t_high])), (a_t_fixed, .inr (1, [.ref a_t_fixed_limbs, .int s_t_fixed_first_11, .int s_t_fixed_end_10])), (a_t_fixed_limbs, .inl (c_t_fixed_limbs, n_t_fixed_limbs, .inl e_t_fixed_limbs_12)), (a_t_decimal_digits, .inl (c_t_decimal_digits, n_t_decimal_digits, .inl e_t_decimal_digits_15))]) ⟨hx, hb, hml, hown, hts⟩ (c_Decimal_leastPlaces l dC dI a_t_decimal a_t_decimal_digits s_t_decimal_count_13 s_t_decimal_point_14 r_17 hc_18) (cwV 0 hts (xgoodV g_402 g_403 g_404 g_6 g_405) rfl rfl rfl (by decide +kernel) ⟨Nat.le_of_ble_eq_true rfl, Nat.le_of_ble_eq_true rfl⟩) hNz (ci := 0) (q0 := 5) rfl rfl hA hP hD hS hK [5] [0, 1, 2, 3, 4, 6] [] rfl rfl rfl rfl (by decide) rfl rfl rfl rfl hl.1 (Nat.le_of_ble_eq_true rfl) ⟨Nat.zero_le _, Nat.zero_le _⟩ d_Writer_addInFull_30 (fun H locs hP hD hS => ?_)
    have hP : va_P (dC, dI) x_cl [(a_q1, .inr (5, [.ref a_q1_characters, .int s_q1_length_2])), (a_q1_characters, .inl (c_q1_characters, n_q1_characters, .inl e_q1_characters_3)), (a_t, .inr (6, [.ref a_t_fixed, .ref a_t_decimal, .ref a_t_low, .ref a_t_high])), (a_t_fixed, .inr (1, [.ref a_t_fixed_limbs, .int s_t_fixed_first_11, .int s_t_fixed_end_10])), (a_t_fixed_limbs, .inl (c_t_fixed_limbs, n_t_fixed_limbs, .inl e_t_fixed_limbs_12)), (a_t_decimal_digits, .inl (c_t_decimal_digits, n_t_decimal_digits, .inl e_t_decimal_digits_15)), (a_t_decimal, .inr (0, [.ref a_t_decimal_digits, .int s_t_decimal_count_13, .int s_t_decimal_point_14]))] H := hP
    have hD : va_D A [(a_q1, .inr (5, [.ref a_q1_characters, .int s_q1_length_2])), (a_q1_characters, .inl (c_q1_characters, n_q1_characters, .inl e_q1_characters_3)), (a_t, .inr (6, [.ref a_t_fixed, .ref a_t_decimal, .ref a_t_low, .ref a_t_high])), (a_t_fixed, .inr (1, [.ref a_t_fixed_limbs, .int s_t_fixed_first_11, .int s_t_fixed_end_10])), (a_t_fixed_limbs, .inl (c_t_fixed_limbs, n_t_fixed_limbs, .inl e_t_fixed_limbs_12)), (a_t_decimal_digits, .inl (c_t_decimal_digits, n_t_decimal_digits, .inl e_t_decimal_digits_15)), (a_t_decimal, .inr (0, [.ref a_t_decimal_digits, .int s_t_decimal_count_13, .int s_t_decimal_point_14]))] := hD
    replace h := xob_s h
    obtain ⟨⟨s_q1_length_19, e_q1_characters_20⟩, hc_21, h⟩ := h
    try dsimp only at h
    refine xcV (As := [.ref a_q1, .int r_17]) (rest := []) (st1 := []) (wr := [(a_t_fixed, .inr (1, [.ref a_t_fixed_limbs, .int s_t_fixed_first_11, .int s_t_fixed_end_10])), (a_t_fixed_limbs, .inl (c_t_fixed_limbs, n_t_fixed_limbs, .inl e_t_fixed_limbs_12))]) ⟨hx, hb, hml, hown, hts⟩ (c_Writer_addPlaces l dC dI a_t a_q1 a_t_fixed a_t_decimal a_t_low a_t_high a_t_decimal_digits a_q1_characters c_t_decimal_digits c_q1_characters n_t_decimal_digits n_q1_characters s_t_decimal_count_13 s_t_decimal_point_14 e_t_decimal_digits_15 s_q1_length_2 e_q1_characters_3 r_17 s_q1_length_19 e_q1_characters_20 hc_21) (cwV 2 hts (xgoodV g_377 g_379 gp_8 g_8 g_380) rfl rfl rfl (by decide +kernel) ⟨Nat.le_of_ble_eq_true rfl, Nat.le_of_ble_eq_true rfl⟩) hNz (ci := 6) (q0 := 2) rfl rfl hA hP hD hS hK [2, 6, 5, 0, 1] [3, 4] [1, 2] rfl rfl rfl rfl (by decide) rfl rfl rfl rfl hl.1 (Nat.le_of_ble_eq_true rfl) ⟨Nat.zero_le _, Nat.zero_le _⟩ d_Writer_addInFull_33 (fun H locs hP hD hS => ?_)
    have hP : va_P (dC, dI) x_cl [(a_t_fixed, .inr (1, [.ref a_t_fixed_limbs, .int s_t_fixed_first_11, .int s_t_fixed_end_10])), (a_t_fixed_limbs, .inl (c_t_fixed_limbs, n_t_fixed_limbs, .inl e_t_fixed_limbs_12)), (a_t, .inr (6, [.ref a_t_fixed, .ref a_t_decimal, .ref a_t_low, .ref a_t_high])), (a_t_decimal, .inr (0, [.ref a_t_decimal_digits, .int s_t_decimal_count_13, .int s_t_decimal_point_14])), (a_t_decimal_digits, .inl (c_t_decimal_digits, n_t_decimal_digits, .inl e_t_decimal_digits_15)), (a_q1, .inr (5, [.ref a_q1_characters, .int s_q1_length_19])), (a_q1_characters, .inl (c_q1_characters, n_q1_characters, .inl e_q1_characters_20))] H := hP
    have hD : va_D A [(a_t_fixed, .inr (1, [.ref a_t_fixed_limbs, .int s_t_fixed_first_11, .int s_t_fixed_end_10])), (a_t_fixed_limbs, .inl (c_t_fixed_limbs, n_t_fixed_limbs, .inl e_t_fixed_limbs_12)), (a_t, .inr (6, [.ref a_t_fixed, .ref a_t_decimal, .ref a_t_low, .ref a_t_high])), (a_t_decimal, .inr (0, [.ref a_t_decimal_digits, .int s_t_decimal_count_13, .int s_t_decimal_point_14])), (a_t_decimal_digits, .inl (c_t_decimal_digits, n_t_decimal_digits, .inl e_t_decimal_digits_15)), (a_q1, .inr (5, [.ref a_q1_characters, .int s_q1_length_19])), (a_q1_characters, .inl (c_q1_characters, n_q1_characters, .inl e_q1_characters_20))] := hD
    replace h := Option.some.inj h
    replace h := Prod.mk.inj h
    obtain ⟨h1, h⟩ := h
    subst h1
    replace h := Prod.mk.inj h
    obtain ⟨h1, h⟩ := h
    subst h1
    replace h := Prod.mk.inj h
    obtain ⟨h1, h⟩ := h
    subst h1
    replace h := Prod.mk.inj h
    obtain ⟨h1, h⟩ := h
    subst h1
    replace h := Prod.mk.inj h
    obtain ⟨h1, h⟩ := h
    subst h1
    replace h := Prod.mk.inj h
    obtain ⟨h1, h⟩ := h
    subst h1
    replace h := Prod.mk.inj h
    obtain ⟨h1, h⟩ := h
    subst h1
    subst h
    exact hret _ _ (hP.sub [2, 0, 1, 3, 4, 5, 6] rfl) (hD.sub [2, 0, 1, 3, 4, 5, 6] (by decide) rfl) hS _ _ d_Writer_addInFull_36
def f_NT_full (n_t_text_characters : Nat) (n_t_writer_fixed_limbs : Nat) (n_t_writer_decimal_digits : Nat) (s_t_wrongPlace : Int32) (s_t_text_length : Int32) (e_t_text_characters : Nat → Int32) (s_t_writer_fixed_first : Int32) (s_t_writer_fixed_end : Int32) (e_t_writer_fixed_limbs : Nat → Int32) (s_t_writer_decimal_count : Int32) (s_t_writer_decimal_point : Int32) (e_t_writer_decimal_digits : Nat → Int32) (x1 : Int64) : Option (Int32 × Int32 × (Nat → Int32) × Int32 × Int32 × (Nat → Int32) × Int32 × Int32 × (Nat → Int32)) :=
  xob (f_Text_clear s_t_text_length) fun s_t_text_length_1 => xob (f_Writer_addInFull n_t_writer_fixed_limbs n_t_writer_decimal_digits n_t_text_characters s_t_writer_fixed_first s_t_writer_fixed_end e_t_writer_fixed_limbs s_t_writer_decimal_count s_t_writer_decimal_point e_t_writer_decimal_digits s_t_text_length_1 e_t_text_characters x1) fun (s_t_writer_fixed_end_3, s_t_writer_fixed_first_4, e_t_writer_fixed_limbs_5, s_t_writer_decimal_count_6, s_t_writer_decimal_point_7, e_t_writer_decimal_digits_8, s_t_text_length_9, e_t_text_characters_10) => xob (f_Text_length s_t_text_length_9) fun r_12 => some (r_12, s_t_text_length_9, e_t_text_characters_10, s_t_writer_fixed_end_3, s_t_writer_fixed_first_4, e_t_writer_fixed_limbs_5, s_t_writer_decimal_count_6, s_t_writer_decimal_point_7, e_t_writer_decimal_digits_8)
def rm_NT_full : Room := { frames := 5, cells := 0, slots := 0, locals := 118 }
set_option maxHeartbeats 4000000 in
set_option maxRecDepth 100000 in
theorem c_NT_full (l : Launch) (dC : Nat → ClassId) (dI : Nat → Nat → Nat) (a_t a_t_text a_t_numeral a_t_writer a_t_grid a_t_text_characters a_t_writer_fixed a_t_writer_decimal a_t_writer_low a_t_writer_high a_t_writer_fixed_limbs a_t_writer_decimal_digits : Nat) (c_t_text_characters c_t_writer_fixed_limbs c_t_writer_decimal_digits : ClassId) (n_t_text_characters : Nat) (n_t_writer_fixed_limbs : Nat) (n_t_writer_decimal_digits : Nat) (s_t_wrongPlace : Int32) (s_t_text_length : Int32) (e_t_text_characters : Nat → Int32) (s_t_writer_fixed_first : Int32) (s_t_writer_fixed_end : Int32) (e_t_writer_fixed_limbs : Nat → Int32) (s_t_writer_decimal_count : Int32) (s_t_writer_decimal_point : Int32) (e_t_writer_decimal_digits : Nat → Int32) (x1 : Int64) (r_ : Int32) (s_t_text_length_o : Int32) (e_t_text_characters_o : Nat → Int32) (s_t_writer_fixed_end_o : Int32) (s_t_writer_fixed_first_o : Int32) (e_t_writer_fixed_limbs_o : Nat → Int32) (s_t_writer_decimal_count_o : Int32) (s_t_writer_decimal_point_o : Int32) (e_t_writer_decimal_digits_o : Nat → Int32) (h : f_NT_full n_t_text_characters n_t_writer_fixed_limbs n_t_writer_decimal_digits s_t_wrongPlace s_t_text_length e_t_text_characters s_t_writer_fixed_first s_t_writer_fixed_end e_t_writer_fixed_limbs s_t_writer_decimal_count s_t_writer_decimal_point e_t_writer_decimal_digits x1 = some (r_, s_t_text_length_o, e_t_text_characters_o, s_t_writer_fixed_end_o, s_t_writer_fixed_first_o, e_t_writer_fixed_limbs_o, s_t_writer_decimal_count_o, s_t_writer_decimal_point_o, e_t_writer_decimal_digits_o)) : xM l y_NT_full (Cond.code y_NT_full b_NT_full 3 (some .int) :: xG) rm_NT_full (dC, dI) x_cl x_nz [.ref a_t, .long x1] [(c_t_text_characters, .byte), (c_t_writer_fixed_limbs, .int), (c_t_writer_decimal_digits, .byte)] [(a_t, .inr (7, [.ref a_t_text, .ref a_t_numeral, .ref a_t_writer, .ref a_t_grid, .int s_t_wrongPlace])), (a_t_text, .inr (5, [.ref a_t_text_characters, .int s_t_text_length])), (a_t_text_characters, .inl (c_t_text_characters, n_t_text_characters, .inl e_t_text_characters)), (a_t_writer, .inr (6, [.ref a_t_writer_fixed, .ref a_t_writer_decimal, .ref a_t_writer_low, .ref a_t_writer_high])), (a_t_writer_fixed, .inr (1, [.ref a_t_writer_fixed_limbs, .int s_t_writer_fixed_first, .int s_t_writer_fixed_end])), (a_t_writer_fixed_limbs, .inl (c_t_writer_fixed_limbs, n_t_writer_fixed_limbs, .inl e_t_writer_fixed_limbs)), (a_t_writer_decimal, .inr (0, [.ref a_t_writer_decimal_digits, .int s_t_writer_decimal_count, .int s_t_writer_decimal_point])), (a_t_writer_decimal_digits, .inl (c_t_writer_decimal_digits, n_t_writer_decimal_digits, .inl e_t_writer_decimal_digits))] (some (.int r_)) [(a_t, .inr (7, [.ref a_t_text, .ref a_t_numeral, .ref a_t_writer, .ref a_t_grid, .int s_t_wrongPlace])), (a_t_text, .inr (5, [.ref a_t_text_characters, .int s_t_text_length_o])), (a_t_text_characters, .inl (c_t_text_characters, n_t_text_characters, .inl e_t_text_characters_o)), (a_t_writer, .inr (6, [.ref a_t_writer_fixed, .ref a_t_writer_decimal, .ref a_t_writer_low, .ref a_t_writer_high])), (a_t_writer_fixed, .inr (1, [.ref a_t_writer_fixed_limbs, .int s_t_writer_fixed_first_o, .int s_t_writer_fixed_end_o])), (a_t_writer_fixed_limbs, .inl (c_t_writer_fixed_limbs, n_t_writer_fixed_limbs, .inl e_t_writer_fixed_limbs_o)), (a_t_writer_decimal, .inr (0, [.ref a_t_writer_decimal_digits, .int s_t_writer_decimal_count_o, .int s_t_writer_decimal_point_o])), (a_t_writer_decimal_digits, .inl (c_t_writer_decimal_digits, n_t_writer_decimal_digits, .inl e_t_writer_decimal_digits_o))] := by
  unfold f_NT_full at h
  refine xM.mkI (cc := b_NT_full) (maxL := 3)  (by decide +kernel) rfl (Nat.le_of_ble_eq_true rfl) ?_
  intro p e s m args below meth c A Q ls hx hb hml hown hts hNz hA hP hD hK hl hret
  have hS : va_S A s.heap s.heap [] := va_S.rf
  have hl : lv_has ls 3 [(0, .ref a_t), (1, .long x1)] := hl
  refine lv_aload_n hx hb d_NT_full_0 rfl (lv_at hl 0 rfl) ?_
  refine va_get (D := (dC, dI)) (ci := 7) (v := .ref a_t_text) (C := R_NT) (T := T_NT) (N := 5) hx hb hts in_NT hown hK hP 0 rfl rfl 0 (by decide) (hts _ g_170) (fun _ h9 => h9) rfl d_NT_full_1 ?_
  replace h := xob_s h
  obtain ⟨s_t_text_length_1, hc_2, h⟩ := h
  try dsimp only at h
  refine xcV (As := []) (rest := []) (st1 := []) (wr := [(a_t, .inr (7, [.ref a_t_text, .ref a_t_numeral, .ref a_t_writer, .ref a_t_grid, .int s_t_wrongPlace])), (a_t_text_characters, .inl (c_t_text_characters, n_t_text_characters, .inl e_t_text_characters)), (a_t_writer, .inr (6, [.ref a_t_writer_fixed, .ref a_t_writer_decimal, .ref a_t_writer_low, .ref a_t_writer_high])), (a_t_writer_fixed, .inr (1, [.ref a_t_writer_fixed_limbs, .int s_t_writer_fixed_first, .int s_t_writer_fixed_end])), (a_t_writer_fixed_limbs, .inl (c_t_writer_fixed_limbs, n_t_writer_fixed_limbs, .inl e_t_writer_fixed_limbs)), (a_t_writer_decimal, .inr (0, [.ref a_t_writer_decimal_digits, .int s_t_writer_decimal_count, .int s_t_writer_decimal_point])), (a_t_writer_decimal_digits, .inl (c_t_writer_decimal_digits, n_t_writer_decimal_digits, .inl e_t_writer_decimal_digits))]) ⟨hx, hb, hml, hown, hts⟩ (c_Text_clear l dC dI a_t_text a_t_text_characters s_t_text_length s_t_text_length_1 hc_2) (cwV 0 hts (xgoodV g_205 g_206 g_207 g_2 g_208) rfl rfl rfl (by decide +kernel) ⟨Nat.le_of_ble_eq_true rfl, Nat.le_of_ble_eq_true rfl⟩) hNz (ci := 5) (q0 := 1) rfl rfl hA hP hD hS hK [1] [0, 2, 3, 4, 5, 6, 7] [] rfl rfl rfl rfl (by decide) rfl rfl rfl rfl hl.1 (Nat.le_of_ble_eq_true rfl) ⟨Nat.zero_le _, Nat.zero_le _⟩ d_NT_full_4 (fun H locs hP hD hS => ?_)
  have hP : va_P (dC, dI) x_cl [(a_t, .inr (7, [.ref a_t_text, .ref a_t_numeral, .ref a_t_writer, .ref a_t_grid, .int s_t_wrongPlace])), (a_t_text_characters, .inl (c_t_text_characters, n_t_text_characters, .inl e_t_text_characters)), (a_t_writer, .inr (6, [.ref a_t_writer_fixed, .ref a_t_writer_decimal, .ref a_t_writer_low, .ref a_t_writer_high])), (a_t_writer_fixed, .inr (1, [.ref a_t_writer_fixed_limbs, .int s_t_writer_fixed_first, .int s_t_writer_fixed_end])), (a_t_writer_fixed_limbs, .inl (c_t_writer_fixed_limbs, n_t_writer_fixed_limbs, .inl e_t_writer_fixed_limbs)), (a_t_writer_decimal, .inr (0, [.ref a_t_writer_decimal_digits, .int s_t_writer_decimal_count, .int s_t_writer_decimal_point])), (a_t_writer_decimal_digits, .inl (c_t_writer_decimal_digits, n_t_writer_decimal_digits, .inl e_t_writer_decimal_digits)), (a_t_text, .inr (5, [.ref a_t_text_characters, .int s_t_text_length_1]))] H := hP
  have hD : va_D A [(a_t, .inr (7, [.ref a_t_text, .ref a_t_numeral, .ref a_t_writer, .ref a_t_grid, .int s_t_wrongPlace])), (a_t_text_characters, .inl (c_t_text_characters, n_t_text_characters, .inl e_t_text_characters)), (a_t_writer, .inr (6, [.ref a_t_writer_fixed, .ref a_t_writer_decimal, .ref a_t_writer_low, .ref a_t_writer_high])), (a_t_writer_fixed, .inr (1, [.ref a_t_writer_fixed_limbs, .int s_t_writer_fixed_first, .int s_t_writer_fixed_end])), (a_t_writer_fixed_limbs, .inl (c_t_writer_fixed_limbs, n_t_writer_fixed_limbs, .inl e_t_writer_fixed_limbs)), (a_t_writer_decimal, .inr (0, [.ref a_t_writer_decimal_digits, .int s_t_writer_decimal_count, .int s_t_writer_decimal_point])), (a_t_writer_decimal_digits, .inl (c_t_writer_decimal_digits, n_t_writer_decimal_digits, .inl e_t_writer_decimal_digits)), (a_t_text, .inr (5, [.ref a_t_text_characters, .int s_t_text_length_1]))] := hD
  refine lv_aload_n hx hb d_NT_full_7 rfl (lv_at hl 0 rfl) ?_
  refine va_get (D := (dC, dI)) (ci := 7) (v := .ref a_t_writer) (C := R_NT) (T := T_NT) (N := 5) hx hb hts in_NT hown hK hP 0 rfl rfl 2 (by decide) (hts _ g_172) (fun _ h9 => h9) rfl d_NT_full_8 ?_
  refine lv_aload_n hx hb d_NT_full_11 rfl (lv_at hl 0 rfl) ?_
  refine va_get (D := (dC, dI)) (ci := 7) (v := .ref a_t_text) (C := R_NT) (T := T_NT) (N := 5) hx hb hts in_NT hown hK hP 0 rfl rfl 0 (by decide) (hts _ g_170) (fun _ h9 => h9) rfl d_NT_full_12 ?_
  refine lv_lload_n hx hb d_NT_full_15 rfl (lv_at hl 1 rfl) ?_
  replace h := xob_s h
  obtain ⟨⟨s_t_writer_fixed_end_3, s_t_writer_fixed_first_4, e_t_writer_fixed_limbs_5, s_t_writer_decimal_count_6, s_t_writer_decimal_point_7, e_t_writer_decimal_digits_8, s_t_text_length_9, e_t_text_characters_10⟩, hc_11, h⟩ := h
  try dsimp only at h
  refine xcV (As := [.ref a_t_text, .long x1]) (rest := []) (st1 := []) (wr := [(a_t, .inr (7, [.ref a_t_text, .ref a_t_numeral, .ref a_t_writer, .ref a_t_grid, .int s_t_wrongPlace]))]) ⟨hx, hb, hml, hown, hts⟩ (c_Writer_addInFull l dC dI a_t_writer a_t_text a_t_writer_fixed a_t_writer_decimal a_t_writer_low a_t_writer_high a_t_writer_fixed_limbs a_t_writer_decimal_digits a_t_text_characters c_t_writer_fixed_limbs c_t_writer_decimal_digits c_t_text_characters n_t_writer_fixed_limbs n_t_writer_decimal_digits n_t_text_characters s_t_writer_fixed_first s_t_writer_fixed_end e_t_writer_fixed_limbs s_t_writer_decimal_count s_t_writer_decimal_point e_t_writer_decimal_digits s_t_text_length_1 e_t_text_characters x1 s_t_writer_fixed_end_3 s_t_writer_fixed_first_4 e_t_writer_fixed_limbs_5 s_t_writer_decimal_count_6 s_t_writer_decimal_point_7 e_t_writer_decimal_digits_8 s_t_text_length_9 e_t_text_characters_10 hc_11) (cwV 2 hts (xgoodV g_398 g_399 g_400 g_8 g_401) rfl rfl rfl (by decide +kernel) ⟨Nat.le_of_ble_eq_true rfl, Nat.le_of_ble_eq_true rfl⟩) hNz (ci := 6) (q0 := 2) rfl rfl hA hP hD hS hK [2, 3, 4, 5, 6, 7, 1] [0] [1, 2, 0] rfl rfl rfl rfl (by decide) rfl rfl rfl rfl hl.1 (Nat.le_of_ble_eq_true rfl) ⟨Nat.zero_le _, Nat.zero_le _⟩ d_NT_full_16 (fun H locs hP hD hS => ?_)
  have hP : va_P (dC, dI) x_cl [(a_t, .inr (7, [.ref a_t_text, .ref a_t_numeral, .ref a_t_writer, .ref a_t_grid, .int s_t_wrongPlace])), (a_t_writer, .inr (6, [.ref a_t_writer_fixed, .ref a_t_writer_decimal, .ref a_t_writer_low, .ref a_t_writer_high])), (a_t_writer_fixed, .inr (1, [.ref a_t_writer_fixed_limbs, .int s_t_writer_fixed_first_4, .int s_t_writer_fixed_end_3])), (a_t_writer_fixed_limbs, .inl (c_t_writer_fixed_limbs, n_t_writer_fixed_limbs, .inl e_t_writer_fixed_limbs_5)), (a_t_writer_decimal, .inr (0, [.ref a_t_writer_decimal_digits, .int s_t_writer_decimal_count_6, .int s_t_writer_decimal_point_7])), (a_t_writer_decimal_digits, .inl (c_t_writer_decimal_digits, n_t_writer_decimal_digits, .inl e_t_writer_decimal_digits_8)), (a_t_text, .inr (5, [.ref a_t_text_characters, .int s_t_text_length_9])), (a_t_text_characters, .inl (c_t_text_characters, n_t_text_characters, .inl e_t_text_characters_10))] H := hP
  have hD : va_D A [(a_t, .inr (7, [.ref a_t_text, .ref a_t_numeral, .ref a_t_writer, .ref a_t_grid, .int s_t_wrongPlace])), (a_t_writer, .inr (6, [.ref a_t_writer_fixed, .ref a_t_writer_decimal, .ref a_t_writer_low, .ref a_t_writer_high])), (a_t_writer_fixed, .inr (1, [.ref a_t_writer_fixed_limbs, .int s_t_writer_fixed_first_4, .int s_t_writer_fixed_end_3])), (a_t_writer_fixed_limbs, .inl (c_t_writer_fixed_limbs, n_t_writer_fixed_limbs, .inl e_t_writer_fixed_limbs_5)), (a_t_writer_decimal, .inr (0, [.ref a_t_writer_decimal_digits, .int s_t_writer_decimal_count_6, .int s_t_writer_decimal_point_7])), (a_t_writer_decimal_digits, .inl (c_t_writer_decimal_digits, n_t_writer_decimal_digits, .inl e_t_writer_decimal_digits_8)), (a_t_text, .inr (5, [.ref a_t_text_characters, .int s_t_text_length_9])), (a_t_text_characters, .inl (c_t_text_characters, n_t_text_characters, .inl e_t_text_characters_10))] := hD
  refine lv_aload_n hx hb d_NT_full_19 rfl (lv_at hl 0 rfl) ?_
  refine va_get (D := (dC, dI)) (ci := 7) (v := .ref a_t_text) (C := R_NT) (T := T_NT) (N := 5) hx hb hts in_NT hown hK hP 0 rfl rfl 0 (by decide) (hts _ g_170) (fun _ h9 => h9) rfl d_NT_full_20 ?_
  replace h := xob_s h
  obtain ⟨r_12, hc_13, h⟩ := h
  try dsimp only at h
  refine xcV (As := []) (rest := []) (st1 := [.int r_12]) (wr := [(a_t, .inr (7, [.ref a_t_text, .ref a_t_numeral, .ref a_t_writer, .ref a_t_grid, .int s_t_wrongPlace])), (a_t_writer, .inr (6, [.ref a_t_writer_fixed, .ref a_t_writer_decimal, .ref a_t_writer_low, .ref a_t_writer_high])), (a_t_writer_fixed, .inr (1, [.ref a_t_writer_fixed_limbs, .int s_t_writer_fixed_first_4, .int s_t_writer_fixed_end_3])), (a_t_writer_fixed_limbs, .inl (c_t_writer_fixed_limbs, n_t_writer_fixed_limbs, .inl e_t_writer_fixed_limbs_5)), (a_t_writer_decimal, .inr (0, [.ref a_t_writer_decimal_digits, .int s_t_writer_decimal_count_6, .int s_t_writer_decimal_point_7])), (a_t_writer_decimal_digits, .inl (c_t_writer_decimal_digits, n_t_writer_decimal_digits, .inl e_t_writer_decimal_digits_8)), (a_t_text_characters, .inl (c_t_text_characters, n_t_text_characters, .inl e_t_text_characters_10))]) ⟨hx, hb, hml, hown, hts⟩ (c_Text_length l dC dI a_t_text a_t_text_characters s_t_text_length_9 r_12 hc_13) (cwV 0 hts (xgoodV g_190 g_191 g_192 g_2 g_193) rfl rfl rfl (by decide +kernel) ⟨Nat.le_of_ble_eq_true rfl, Nat.le_of_ble_eq_true rfl⟩) hNz (ci := 5) (q0 := 6) rfl rfl hA hP hD hS hK [6] [0, 1, 2, 3, 4, 5, 7] [] rfl rfl rfl rfl (by decide) rfl rfl rfl rfl hl.1 (Nat.le_of_ble_eq_true rfl) ⟨Nat.zero_le _, Nat.zero_le _⟩ d_NT_full_23 (fun H locs hP hD hS => ?_)
  have hP : va_P (dC, dI) x_cl [(a_t, .inr (7, [.ref a_t_text, .ref a_t_numeral, .ref a_t_writer, .ref a_t_grid, .int s_t_wrongPlace])), (a_t_writer, .inr (6, [.ref a_t_writer_fixed, .ref a_t_writer_decimal, .ref a_t_writer_low, .ref a_t_writer_high])), (a_t_writer_fixed, .inr (1, [.ref a_t_writer_fixed_limbs, .int s_t_writer_fixed_first_4, .int s_t_writer_fixed_end_3])), (a_t_writer_fixed_limbs, .inl (c_t_writer_fixed_limbs, n_t_writer_fixed_limbs, .inl e_t_writer_fixed_limbs_5)), (a_t_writer_decimal, .inr (0, [.ref a_t_writer_decimal_digits, .int s_t_writer_decimal_count_6, .int s_t_writer_decimal_point_7])), (a_t_writer_decimal_digits, .inl (c_t_writer_decimal_digits, n_t_writer_decimal_digits, .inl e_t_writer_decimal_digits_8)), (a_t_text_characters, .inl (c_t_text_characters, n_t_text_characters, .inl e_t_text_characters_10)), (a_t_text, .inr (5, [.ref a_t_text_characters, .int s_t_text_length_9]))] H := hP
  have hD : va_D A [(a_t, .inr (7, [.ref a_t_text, .ref a_t_numeral, .ref a_t_writer, .ref a_t_grid, .int s_t_wrongPlace])), (a_t_writer, .inr (6, [.ref a_t_writer_fixed, .ref a_t_writer_decimal, .ref a_t_writer_low, .ref a_t_writer_high])), (a_t_writer_fixed, .inr (1, [.ref a_t_writer_fixed_limbs, .int s_t_writer_fixed_first_4, .int s_t_writer_fixed_end_3])), (a_t_writer_fixed_limbs, .inl (c_t_writer_fixed_limbs, n_t_writer_fixed_limbs, .inl e_t_writer_fixed_limbs_5)), (a_t_writer_decimal, .inr (0, [.ref a_t_writer_decimal_digits, .int s_t_writer_decimal_count_6, .int s_t_writer_decimal_point_7])), (a_t_writer_decimal_digits, .inl (c_t_writer_decimal_digits, n_t_writer_decimal_digits, .inl e_t_writer_decimal_digits_8)), (a_t_text_characters, .inl (c_t_text_characters, n_t_text_characters, .inl e_t_text_characters_10)), (a_t_text, .inr (5, [.ref a_t_text_characters, .int s_t_text_length_9]))] := hD
  replace h := Option.some.inj h
  replace h := Prod.mk.inj h
  obtain ⟨h1, h⟩ := h
  subst h1
  replace h := Prod.mk.inj h
  obtain ⟨h1, h⟩ := h
  subst h1
  replace h := Prod.mk.inj h
  obtain ⟨h1, h⟩ := h
  subst h1
  replace h := Prod.mk.inj h
  obtain ⟨h1, h⟩ := h
  subst h1
  replace h := Prod.mk.inj h
  obtain ⟨h1, h⟩ := h
  subst h1
  replace h := Prod.mk.inj h
  obtain ⟨h1, h⟩ := h
  subst h1
  replace h := Prod.mk.inj h
  obtain ⟨h1, h⟩ := h
  subst h1
  replace h := Prod.mk.inj h
  obtain ⟨h1, h⟩ := h
  subst h1
  subst h
  exact hret _ _ (hP.sub [0, 7, 6, 1, 2, 3, 4, 5] rfl) (hD.sub [0, 7, 6, 1, 2, 3, 4, 5] (by decide) rfl) hS _ _ d_NT_full_26
def lp_Table_renew_17 (x1 : Int32) (x2 : Int32) (n_t_numbers : Nat) : Nat → Int32 → (Nat → Int64) → Option ((Nat → Int64))
  | 0, _, _ => none
  | n_ + 1, x3_1, e_t_numbers_2 =>
    if (nI n_t_numbers) ≤ x3_1 then (some e_t_numbers_2) else (if (x3_1 < 0 ∨ n_t_numbers ≤ x3_1.toNatClampNeg) then none else xnm (x3_1 + (1 : Int32)) fun x3_9 => lp_Table_renew_17 x1 x2 n_t_numbers n_ x3_9 (vp_updL e_t_numbers_2 x3_1.toNatClampNeg (0 : Int64)))
def f_Table_renew (n_t_numbers : Nat) (s_t_rows : Int32) (s_t_columns : Int32) (s_t_lineLength : Int32) (e_t_numbers : Nat → Int64) (x1 : Int32) (x2 : Int32) : Option (Int32 × Int32 × Int32 × (Nat → Int64)) :=
  xob (lp_Table_renew_17 x1 x2 n_t_numbers xF (0 : Int32) e_t_numbers) fun e_t_numbers_3 => some (x2, (0 : Int32), x1, e_t_numbers_3)
def rm_Table_renew : Room := { frames := 0, cells := 0, slots := 0, locals := 0 }
set_option maxHeartbeats 4000000 in
set_option maxRecDepth 100000 in
theorem c_Table_renew (l : Launch) (dC : Nat → ClassId) (dI : Nat → Nat → Nat) (a_t a_t_writer a_t_numbers a_t_texts a_t_ends a_t_lines : Nat) (c_t_numbers : ClassId) (n_t_numbers : Nat) (s_t_rows : Int32) (s_t_columns : Int32) (s_t_lineLength : Int32) (e_t_numbers : Nat → Int64) (x1 : Int32) (x2 : Int32) (s_t_columns_o : Int32) (s_t_lineLength_o : Int32) (s_t_rows_o : Int32) (e_t_numbers_o : Nat → Int64) (h : f_Table_renew n_t_numbers s_t_rows s_t_columns s_t_lineLength e_t_numbers x1 x2 = some (s_t_columns_o, s_t_lineLength_o, s_t_rows_o, e_t_numbers_o)) : xM l y_Table_renew (Cond.code y_Table_renew b_Table_renew 4 none :: xG) rm_Table_renew (dC, dI) x_cl x_nz [.ref a_t, .int x1, .int x2] [(c_t_numbers, .long)] [(a_t, .inr (4, [.ref a_t_writer, .ref a_t_numbers, .int s_t_rows, .int s_t_columns, .ref a_t_texts, .ref a_t_ends, .ref a_t_lines, .int s_t_lineLength])), (a_t_numbers, .inl (c_t_numbers, n_t_numbers, .inr (.inl e_t_numbers)))] none [(a_t, .inr (4, [.ref a_t_writer, .ref a_t_numbers, .int s_t_rows_o, .int s_t_columns_o, .ref a_t_texts, .ref a_t_ends, .ref a_t_lines, .int s_t_lineLength_o])), (a_t_numbers, .inl (c_t_numbers, n_t_numbers, .inr (.inl e_t_numbers_o)))] := by
  unfold f_Table_renew at h
  refine xM.mkV (cc := b_Table_renew) (maxL := 4)  (by decide +kernel) rfl (Nat.le_of_ble_eq_true rfl) ?_
  intro p e s m args below meth c A Q ls hx hb hml hown hts hNz hA hP hD hK hl hret
  have hS : va_S A s.heap s.heap [] := va_S.rf
  have hl : lv_has ls 4 [(0, .ref a_t), (1, .int x1), (2, .int x2)] := hl
  refine lv_aload_n hx hb d_Table_renew_0 rfl (lv_at hl 0 rfl) ?_
  refine lv_iload_n hx hb d_Table_renew_1 rfl (lv_at hl 1 rfl) ?_
  refine va_put (D := (dC, dI)) (ci := 4) (v := .int x1) (ty := .int) (C := R_Table) (T := T_Table) (N := 8) hx hb hts in_Table ty_Table tyok_Table nn_Table hown hK hP hD hS 0 rfl rfl 2 (by decide) (hts _ g_146) (fun _ h9 => h9) rfl (by decide +kernel) rfl rfl (Nat.le_of_ble_eq_true rfl) d_Table_renew_2 (fun H locs hP hD hS => ?_)
  have hP : va_P (dC, dI) x_cl [(a_t, .inr (4, [.ref a_t_writer, .ref a_t_numbers, .int x1, .int s_t_columns, .ref a_t_texts, .ref a_t_ends, .ref a_t_lines, .int s_t_lineLength])), (a_t_numbers, .inl (c_t_numbers, n_t_numbers, .inr (.inl e_t_numbers)))] H := hP
  have hD : va_D A [(a_t, .inr (4, [.ref a_t_writer, .ref a_t_numbers, .int x1, .int s_t_columns, .ref a_t_texts, .ref a_t_ends, .ref a_t_lines, .int s_t_lineLength])), (a_t_numbers, .inl (c_t_numbers, n_t_numbers, .inr (.inl e_t_numbers)))] := hD
  refine lv_aload_n hx hb d_Table_renew_5 rfl (lv_at hl 0 rfl) ?_
  refine lv_iload_n hx hb d_Table_renew_6 rfl (lv_at hl 2 rfl) ?_
  refine va_put (D := (dC, dI)) (ci := 4) (v := .int x2) (ty := .int) (C := R_Table) (T := T_Table) (N := 8) hx hb hts in_Table ty_Table tyok_Table nn_Table hown hK hP hD hS 0 rfl rfl 3 (by decide) (hts _ g_147) (fun _ h9 => h9) rfl (by decide +kernel) rfl rfl (Nat.le_of_ble_eq_true rfl) d_Table_renew_7 (fun H locs hP hD hS => ?_)
  have hP : va_P (dC, dI) x_cl [(a_t, .inr (4, [.ref a_t_writer, .ref a_t_numbers, .int x1, .int x2, .ref a_t_texts, .ref a_t_ends, .ref a_t_lines, .int s_t_lineLength])), (a_t_numbers, .inl (c_t_numbers, n_t_numbers, .inr (.inl e_t_numbers)))] H := hP
  have hD : va_D A [(a_t, .inr (4, [.ref a_t_writer, .ref a_t_numbers, .int x1, .int x2, .ref a_t_texts, .ref a_t_ends, .ref a_t_lines, .int s_t_lineLength])), (a_t_numbers, .inl (c_t_numbers, n_t_numbers, .inr (.inl e_t_numbers)))] := hD
  refine lv_aload_n hx hb d_Table_renew_10 rfl (lv_at hl 0 rfl) ?_
  refine lv_iconst (v := 0) hx hb d_Table_renew_11 (by decide) ?_
  refine va_put (D := (dC, dI)) (ci := 4) (v := .int (0 : Int32)) (ty := .int) (C := R_Table) (T := T_Table) (N := 8) hx hb hts in_Table ty_Table tyok_Table nn_Table hown hK hP hD hS 0 rfl rfl 7 (by decide) (hts _ g_151) (fun _ h9 => h9) rfl (by decide +kernel) rfl rfl (Nat.le_of_ble_eq_true rfl) d_Table_renew_12 (fun H locs hP hD hS => ?_)
  have hP : va_P (dC, dI) x_cl [(a_t, .inr (4, [.ref a_t_writer, .ref a_t_numbers, .int x1, .int x2, .ref a_t_texts, .ref a_t_ends, .ref a_t_lines, .int (0 : Int32)])), (a_t_numbers, .inl (c_t_numbers, n_t_numbers, .inr (.inl e_t_numbers)))] H := hP
  have hD : va_D A [(a_t, .inr (4, [.ref a_t_writer, .ref a_t_numbers, .int x1, .int x2, .ref a_t_texts, .ref a_t_ends, .ref a_t_lines, .int (0 : Int32)])), (a_t_numbers, .inl (c_t_numbers, n_t_numbers, .inr (.inl e_t_numbers)))] := hD
  refine lv_iconst (v := 0) hx hb d_Table_renew_15 (by decide) ?_
  refine lv_istore_n (lv' := [(3, .int (0 : Int32)), (0, .ref a_t), (1, .int x1), (2, .int x2)]) hx hb d_Table_renew_16 rfl hl (by decide) rfl (fun ls hl => ?_)
  replace h := xob_s h
  obtain ⟨e_t_numbers_3, hlp_4, h⟩ := h
  try dsimp only at h
  have hX_5 : ∀ (H : Heap) (locs : List Loc) (ls : Array Slot), va_P (dC, dI) x_cl [(a_t, .inr (4, [.ref a_t_writer, .ref a_t_numbers, .int x1, .int x2, .ref a_t_texts, .ref a_t_ends, .ref a_t_lines, .int (0 : Int32)])), (a_t_numbers, .inl (c_t_numbers, n_t_numbers, .inr (.inl e_t_numbers_3)))] H → va_D A [(a_t, .inr (4, [.ref a_t_writer, .ref a_t_numbers, .int x1, .int x2, .ref a_t_texts, .ref a_t_ends, .ref a_t_lines, .int (0 : Int32)])), (a_t_numbers, .inl (c_t_numbers, n_t_numbers, .inr (.inl e_t_numbers_3)))] → va_S A s.heap H locs → lv_has ls 4 [] → W p l e rm_Table_renew s m args below meth c H locs 0 0 Q (F0 m 39 ls []) := by
    intro H locs ls hP hD hS hl
    replace h := Option.some.inj h
    replace h := Prod.mk.inj h
    obtain ⟨h1, h⟩ := h
    subst h1
    replace h := Prod.mk.inj h
    obtain ⟨h1, h⟩ := h
    subst h1
    replace h := Prod.mk.inj h
    obtain ⟨h1, h⟩ := h
    subst h1
    subst h
    exact hret _ _ hP hD hS _ _ d_Table_renew_39
  clear h
  have hL_6 : ∀ (n_ : Nat) (x3_1 : Int32) (e_t_numbers_2 : Nat → Int64) (H : Heap) (locs : List Loc) (ls : Array Slot), lp_Table_renew_17 x1 x2 n_t_numbers n_ x3_1 e_t_numbers_2 = some e_t_numbers_3 → va_P (dC, dI) x_cl [(a_t, .inr (4, [.ref a_t_writer, .ref a_t_numbers, .int x1, .int x2, .ref a_t_texts, .ref a_t_ends, .ref a_t_lines, .int (0 : Int32)])), (a_t_numbers, .inl (c_t_numbers, n_t_numbers, .inr (.inl e_t_numbers_2)))] H → va_D A [(a_t, .inr (4, [.ref a_t_writer, .ref a_t_numbers, .int x1, .int x2, .ref a_t_texts, .ref a_t_ends, .ref a_t_lines, .int (0 : Int32)])), (a_t_numbers, .inl (c_t_numbers, n_t_numbers, .inr (.inl e_t_numbers_2)))] → va_S A s.heap H locs → lv_has ls 4 [(0, .ref a_t), (3, .int x3_1)] → W p l e rm_Table_renew s m args below meth c H locs 0 0 Q (F0 m 17 ls []) := by
    intro n_
    induction n_ with
    | zero => intro x3_1 e_t_numbers_2 H locs ls h; cases h
    | succ n_ ih =>
      intro x3_1 e_t_numbers_2 H locs ls h hP hD hS hl
      rw [lp_Table_renew_17] at h
      refine lv_iload_n hx hb d_Table_renew_17 rfl (lv_at hl 1 rfl) ?_
      refine lv_aload_n hx hb d_Table_renew_18 rfl (lv_at hl 0 rfl) ?_
      refine va_get (D := (dC, dI)) (ci := 4) (v := .ref a_t_numbers) (C := R_Table) (T := T_Table) (N := 8) hx hb hts in_Table hown hK hP 0 rfl rfl 1 (by decide) (hts _ g_145) (fun _ h9 => h9) rfl d_Table_renew_19 ?_
      refine va_alen (v := nI n_t_numbers) hx hb hK hP 1 0 rfl rfl rfl d_Table_renew_22 ?_
      refine lv_icmp_ge (tgt := 39) hx hb d_Table_renew_23 (by decide) (fun c_7 => ?_) (fun c_7 => ?_)
      · rw [if_pos c_7] at h
        replace h := Option.some.inj h
        subst h
        exact hX_5 _ _ _ hP hD hS (lv_sub hl [] rfl)
      · rw [if_neg c_7] at h
        refine lv_aload_n hx hb d_Table_renew_26 rfl (lv_at hl 0 rfl) ?_
        refine va_get (D := (dC, dI)) (ci := 4) (v := .ref a_t_numbers) (C := R_Table) (T := T_Table) (N := 8) hx hb hts in_Table hown hK hP 0 rfl rfl 1 (by decide) (hts _ g_145) (fun _ h9 => h9) rfl d_Table_renew_27 ?_
        refine lv_iload_n hx hb d_Table_renew_30 rfl (lv_at hl 1 rfl) ?_
        refine lv_lconst (v := 0) hx hb d_Table_renew_31 (by decide) ?_
        replace h := xg h
        obtain ⟨hg_8, h⟩ := h
        refine va_last hx hb hK hP hD hS 1 0 rfl rfl hg_8 d_Table_renew_32 (fun H locs hP hD hS => ?_)
        have hP : va_P (dC, dI) x_cl [(a_t, .inr (4, [.ref a_t_writer, .ref a_t_numbers, .int x1, .int x2, .ref a_t_texts, .ref a_t_ends, .ref a_t_lines, .int (0 : Int32)])), (a_t_numbers, .inl (c_t_numbers, n_t_numbers, .inr (.inl ((vp_updL e_t_numbers_2 x3_1.toNatClampNeg (0 : Int64))))))] H := hP
        have hD : va_D A [(a_t, .inr (4, [.ref a_t_writer, .ref a_t_numbers, .int x1, .int x2, .ref a_t_texts, .ref a_t_ends, .ref a_t_lines, .int (0 : Int32)])), (a_t_numbers, .inl (c_t_numbers, n_t_numbers, .inr (.inl ((vp_updL e_t_numbers_2 x3_1.toNatClampNeg (0 : Int64))))))] := hD
        replace h := xnm_s h
        obtain ⟨x3_9, ex3_9, h⟩ := h
        refine lv_iinc (v := x3_9) (lv' := [(3, .int x3_9), (0, .ref a_t)]) hx hb d_Table_renew_33 hl (k := 1) rfl (by rw [← ex3_9]; rfl) (by decide) rfl (fun ls hl => ?_)
        refine lv_goto (tgt := 17) hx hb d_Table_renew_36 (by decide) ?_
        exact ih _ _ _ _ _ h hP hD hS (lv_sub hl [1, 0] rfl)
  exact hL_6 xF _ _ _ _ _ hlp_4 hP hD hS (lv_sub hl [1, 0] rfl)
def f_Table_has (s_t_rows : Int32) (s_t_columns : Int32) (s_t_lineLength : Int32) (x1 : Int32) (x2 : Int32) : Option (Int32) :=
  if x1 < 0 then (some (0 : Int32)) else (if s_t_rows ≤ x1 then (some (0 : Int32)) else (if x2 < 0 then (some (0 : Int32)) else (if s_t_columns ≤ x2 then (some (0 : Int32)) else (some (1 : Int32)))))
def rm_Table_has : Room := { frames := 0, cells := 0, slots := 0, locals := 0 }
set_option maxHeartbeats 4000000 in
set_option maxRecDepth 100000 in
theorem c_Table_has (l : Launch) (dC : Nat → ClassId) (dI : Nat → Nat → Nat) (a_t a_t_writer a_t_numbers a_t_texts a_t_ends a_t_lines : Nat) (s_t_rows : Int32) (s_t_columns : Int32) (s_t_lineLength : Int32) (x1 : Int32) (x2 : Int32) (r_ : Int32) (h : f_Table_has s_t_rows s_t_columns s_t_lineLength x1 x2 = some r_) : xM l y_Table_has (Cond.code y_Table_has b_Table_has 3 (some .boolean) :: xG) rm_Table_has (dC, dI) x_cl x_nz [.ref a_t, .int x1, .int x2] [] [(a_t, .inr (4, [.ref a_t_writer, .ref a_t_numbers, .int s_t_rows, .int s_t_columns, .ref a_t_texts, .ref a_t_ends, .ref a_t_lines, .int s_t_lineLength]))] (some (.int r_)) [(a_t, .inr (4, [.ref a_t_writer, .ref a_t_numbers, .int s_t_rows, .int s_t_columns, .ref a_t_texts, .ref a_t_ends, .ref a_t_lines, .int s_t_lineLength]))] := by
  unfold f_Table_has at h
  refine xM.mkZ (cc := b_Table_has) (maxL := 3)  (by decide +kernel) rfl (Nat.le_of_ble_eq_true rfl) ?_
  intro p e s m args below meth c A Q ls hx hb hml hown hts hNz hA hP hD hK hl hret
  have hS : va_S A s.heap s.heap [] := va_S.rf
  have hl : lv_has ls 3 [(0, .ref a_t), (1, .int x1), (2, .int x2)] := hl
  refine lv_iload_n hx hb d_Table_has_0 rfl (lv_at hl 1 rfl) ?_
  refine lv_if_lt (tgt := 28) hx hb d_Table_has_1 (by decide) (fun c_1 => ?_) (fun c_1 => ?_)
  · rw [if_pos c_1] at h
    refine lv_iconst (v := 0) hx hb d_Table_has_28 (by decide) ?_
    replace h := Option.some.inj h
    subst h
    exact hret _ _ hP hD hS _ _ d_Table_has_29 rfl
  · rw [if_neg c_1] at h
    refine lv_iload_n hx hb d_Table_has_4 rfl (lv_at hl 1 rfl) ?_
    refine lv_aload_n hx hb d_Table_has_5 rfl (lv_at hl 0 rfl) ?_
    refine va_get (D := (dC, dI)) (ci := 4) (v := .int s_t_rows) (C := R_Table) (T := T_Table) (N := 8) hx hb hts in_Table hown hK hP 0 rfl rfl 2 (by decide) (hts _ g_146) (fun _ h9 => h9) rfl d_Table_has_6 ?_
    refine lv_icmp_ge (tgt := 28) hx hb d_Table_has_9 (by decide) (fun c_2 => ?_) (fun c_2 => ?_)
    · rw [if_pos c_2] at h
      refine lv_iconst (v := 0) hx hb d_Table_has_28 (by decide) ?_
      replace h := Option.some.inj h
      subst h
      exact hret _ _ hP hD hS _ _ d_Table_has_29 rfl
    · rw [if_neg c_2] at h
      refine lv_iload_n hx hb d_Table_has_12 rfl (lv_at hl 2 rfl) ?_
      refine lv_if_lt (tgt := 28) hx hb d_Table_has_13 (by decide) (fun c_3 => ?_) (fun c_3 => ?_)
      · rw [if_pos c_3] at h
        refine lv_iconst (v := 0) hx hb d_Table_has_28 (by decide) ?_
        replace h := Option.some.inj h
        subst h
        exact hret _ _ hP hD hS _ _ d_Table_has_29 rfl
      · rw [if_neg c_3] at h
        refine lv_iload_n hx hb d_Table_has_16 rfl (lv_at hl 2 rfl) ?_
        refine lv_aload_n hx hb d_Table_has_17 rfl (lv_at hl 0 rfl) ?_
        refine va_get (D := (dC, dI)) (ci := 4) (v := .int s_t_columns) (C := R_Table) (T := T_Table) (N := 8) hx hb hts in_Table hown hK hP 0 rfl rfl 3 (by decide) (hts _ g_147) (fun _ h9 => h9) rfl d_Table_has_18 ?_
        refine lv_icmp_ge (tgt := 28) hx hb d_Table_has_21 (by decide) (fun c_4 => ?_) (fun c_4 => ?_)
        · rw [if_pos c_4] at h
          refine lv_iconst (v := 0) hx hb d_Table_has_28 (by decide) ?_
          replace h := Option.some.inj h
          subst h
          exact hret _ _ hP hD hS _ _ d_Table_has_29 rfl
        · rw [if_neg c_4] at h
          refine lv_iconst (v := 1) hx hb d_Table_has_24 (by decide) ?_
          refine lv_goto (tgt := 29) hx hb d_Table_has_25 (by decide) ?_
          replace h := Option.some.inj h
          subst h
          exact hret _ _ hP hD hS _ _ d_Table_has_29 rfl
def f_Table_put (n_t_numbers : Nat) (s_t_rows : Int32) (s_t_columns : Int32) (s_t_lineLength : Int32) (e_t_numbers : Nat → Int64) (x1 : Int32) (x2 : Int32) (x3 : Int64) : Option ((Nat → Int64)) :=
  xnm ((x1 * (8 : Int32)) + x2) fun x5_1 => if x5_1 < 0 then (some e_t_numbers) else (if (nI n_t_numbers) ≤ x5_1 then (some e_t_numbers) else (if (x5_1 < 0 ∨ n_t_numbers ≤ x5_1.toNatClampNeg) then none else some (vp_updL e_t_numbers x5_1.toNatClampNeg x3)))
def rm_Table_put : Room := { frames := 0, cells := 0, slots := 0, locals := 0 }
set_option maxHeartbeats 4000000 in
set_option maxRecDepth 100000 in
theorem c_Table_put (l : Launch) (dC : Nat → ClassId) (dI : Nat → Nat → Nat) (a_t a_t_writer a_t_numbers a_t_texts a_t_ends a_t_lines : Nat) (c_t_numbers : ClassId) (n_t_numbers : Nat) (s_t_rows : Int32) (s_t_columns : Int32) (s_t_lineLength : Int32) (e_t_numbers : Nat → Int64) (x1 : Int32) (x2 : Int32) (x3 : Int64) (e_t_numbers_o : Nat → Int64) (h : f_Table_put n_t_numbers s_t_rows s_t_columns s_t_lineLength e_t_numbers x1 x2 x3 = some e_t_numbers_o) : xM l y_Table_put (Cond.code y_Table_put b_Table_put 6 none :: xG) rm_Table_put (dC, dI) x_cl x_nz [.ref a_t, .int x1, .int x2, .long x3] [(c_t_numbers, .long)] [(a_t, .inr (4, [.ref a_t_writer, .ref a_t_numbers, .int s_t_rows, .int s_t_columns, .ref a_t_texts, .ref a_t_ends, .ref a_t_lines, .int s_t_lineLength])), (a_t_numbers, .inl (c_t_numbers, n_t_numbers, .inr (.inl e_t_numbers)))] none [(a_t, .inr (4, [.ref a_t_writer, .ref a_t_numbers, .int s_t_rows, .int s_t_columns, .ref a_t_texts, .ref a_t_ends, .ref a_t_lines, .int s_t_lineLength])), (a_t_numbers, .inl (c_t_numbers, n_t_numbers, .inr (.inl e_t_numbers_o)))] := by
  unfold f_Table_put at h
  refine xM.mkV (cc := b_Table_put) (maxL := 6)  (by decide +kernel) rfl (Nat.le_of_ble_eq_true rfl) ?_
  intro p e s m args below meth c A Q ls hx hb hml hown hts hNz hA hP hD hK hl hret
  have hS : va_S A s.heap s.heap [] := va_S.rf
  have hl : lv_has ls 6 [(0, .ref a_t), (1, .int x1), (2, .int x2), (3, .long x3)] := hl
  refine lv_iload_n hx hb d_Table_put_0 rfl (lv_at hl 1 rfl) ?_
  refine lv_bipush (v := 8) hx hb d_Table_put_1 (by decide) ?_
  refine lv_imul hx hb d_Table_put_3 ?_
  refine lv_iload_n hx hb d_Table_put_4 rfl (lv_at hl 2 rfl) ?_
  refine lv_iadd hx hb d_Table_put_5 ?_
  replace h := xnm_s h
  obtain ⟨x5_1, ex5_1, h⟩ := h
  refine x_topi ex5_1 ?_
  refine lv_istore (lv' := [(5, .int x5_1), (0, .ref a_t), (1, .int x1), (2, .int x2), (3, .long x3)]) hx hb d_Table_put_6 hl (by decide) rfl (fun ls hl => ?_)
  refine lv_iload hx hb d_Table_put_8 (lv_at hl 0 rfl) ?_
  refine lv_if_lt (tgt := 31) hx hb d_Table_put_10 (by decide) (fun c_2 => ?_) (fun c_2 => ?_)
  · rw [if_pos c_2] at h
    replace h := Option.some.inj h
    subst h
    exact hret _ _ hP hD hS _ _ d_Table_put_31
  · rw [if_neg c_2] at h
    refine lv_iload hx hb d_Table_put_13 (lv_at hl 0 rfl) ?_
    refine lv_aload_n hx hb d_Table_put_15 rfl (lv_at hl 1 rfl) ?_
    refine va_get (D := (dC, dI)) (ci := 4) (v := .ref a_t_numbers) (C := R_Table) (T := T_Table) (N := 8) hx hb hts in_Table hown hK hP 0 rfl rfl 1 (by decide) (hts _ g_145) (fun _ h9 => h9) rfl d_Table_put_16 ?_
    refine va_alen (v := nI n_t_numbers) hx hb hK hP 1 0 rfl rfl rfl d_Table_put_19 ?_
    refine lv_icmp_ge (tgt := 31) hx hb d_Table_put_20 (by decide) (fun c_3 => ?_) (fun c_3 => ?_)
    · rw [if_pos c_3] at h
      replace h := Option.some.inj h
      subst h
      exact hret _ _ hP hD hS _ _ d_Table_put_31
    · rw [if_neg c_3] at h
      refine lv_aload_n hx hb d_Table_put_23 rfl (lv_at hl 1 rfl) ?_
      refine va_get (D := (dC, dI)) (ci := 4) (v := .ref a_t_numbers) (C := R_Table) (T := T_Table) (N := 8) hx hb hts in_Table hown hK hP 0 rfl rfl 1 (by decide) (hts _ g_145) (fun _ h9 => h9) rfl d_Table_put_24 ?_
      refine lv_iload hx hb d_Table_put_27 (lv_at hl 0 rfl) ?_
      refine lv_lload_n hx hb d_Table_put_29 rfl (lv_at hl 4 rfl) ?_
      replace h := xg h
      obtain ⟨hg_4, h⟩ := h
      refine va_last hx hb hK hP hD hS 1 0 rfl rfl hg_4 d_Table_put_30 (fun H locs hP hD hS => ?_)
      have hP : va_P (dC, dI) x_cl [(a_t, .inr (4, [.ref a_t_writer, .ref a_t_numbers, .int s_t_rows, .int s_t_columns, .ref a_t_texts, .ref a_t_ends, .ref a_t_lines, .int s_t_lineLength])), (a_t_numbers, .inl (c_t_numbers, n_t_numbers, .inr (.inl ((vp_updL e_t_numbers x5_1.toNatClampNeg x3)))))] H := hP
      have hD : va_D A [(a_t, .inr (4, [.ref a_t_writer, .ref a_t_numbers, .int s_t_rows, .int s_t_columns, .ref a_t_texts, .ref a_t_ends, .ref a_t_lines, .int s_t_lineLength])), (a_t_numbers, .inl (c_t_numbers, n_t_numbers, .inr (.inl ((vp_updL e_t_numbers x5_1.toNatClampNeg x3)))))] := hD
      replace h := Option.some.inj h
      subst h
      exact hret _ _ hP hD hS _ _ d_Table_put_31
def f_Table_number (n_t_numbers : Nat) (s_t_rows : Int32) (s_t_columns : Int32) (s_t_lineLength : Int32) (e_t_numbers : Nat → Int64) (x1 : Int32) (x2 : Int32) : Option (Int64) :=
  xnm ((x1 * (8 : Int32)) + x2) fun x3_1 => if x3_1 < 0 then (some (0 : Int64)) else (if (nI n_t_numbers) ≤ x3_1 then (some (0 : Int64)) else (if (x3_1 < 0 ∨ n_t_numbers ≤ x3_1.toNatClampNeg) then none else some (e_t_numbers x3_1.toNatClampNeg)))
def rm_Table_number : Room := { frames := 0, cells := 0, slots := 0, locals := 0 }
set_option maxHeartbeats 4000000 in
set_option maxRecDepth 100000 in
theorem c_Table_number (l : Launch) (dC : Nat → ClassId) (dI : Nat → Nat → Nat) (a_t a_t_writer a_t_numbers a_t_texts a_t_ends a_t_lines : Nat) (c_t_numbers : ClassId) (n_t_numbers : Nat) (s_t_rows : Int32) (s_t_columns : Int32) (s_t_lineLength : Int32) (e_t_numbers : Nat → Int64) (x1 : Int32) (x2 : Int32) (r_ : Int64) (h : f_Table_number n_t_numbers s_t_rows s_t_columns s_t_lineLength e_t_numbers x1 x2 = some r_) : xM l y_Table_number (Cond.code y_Table_number b_Table_number 4 (some .long) :: xG) rm_Table_number (dC, dI) x_cl x_nz [.ref a_t, .int x1, .int x2] [(c_t_numbers, .long)] [(a_t, .inr (4, [.ref a_t_writer, .ref a_t_numbers, .int s_t_rows, .int s_t_columns, .ref a_t_texts, .ref a_t_ends, .ref a_t_lines, .int s_t_lineLength])), (a_t_numbers, .inl (c_t_numbers, n_t_numbers, .inr (.inl e_t_numbers)))] (some (.long r_)) [(a_t, .inr (4, [.ref a_t_writer, .ref a_t_numbers, .int s_t_rows, .int s_t_columns, .ref a_t_texts, .ref a_t_ends, .ref a_t_lines, .int s_t_lineLength])), (a_t_numbers, .inl (c_t_numbers, n_t_numbers, .inr (.inl e_t_numbers)))] := by
  unfold f_Table_number at h
  refine xM.mkL (cc := b_Table_number) (maxL := 4)  (by decide +kernel) rfl (Nat.le_of_ble_eq_true rfl) ?_
  intro p e s m args below meth c A Q ls hx hb hml hown hts hNz hA hP hD hK hl hret
  have hS : va_S A s.heap s.heap [] := va_S.rf
  have hl : lv_has ls 4 [(0, .ref a_t), (1, .int x1), (2, .int x2)] := hl
  refine lv_iload_n hx hb d_Table_number_0 rfl (lv_at hl 1 rfl) ?_
  refine lv_bipush (v := 8) hx hb d_Table_number_1 (by decide) ?_
  refine lv_imul hx hb d_Table_number_3 ?_
  refine lv_iload_n hx hb d_Table_number_4 rfl (lv_at hl 2 rfl) ?_
  refine lv_iadd hx hb d_Table_number_5 ?_
  replace h := xnm_s h
  obtain ⟨x3_1, ex3_1, h⟩ := h
  refine x_topi ex3_1 ?_
  refine lv_istore_n (lv' := [(3, .int x3_1), (0, .ref a_t), (1, .int x1), (2, .int x2)]) hx hb d_Table_number_6 rfl hl (by decide) rfl (fun ls hl => ?_)
  refine lv_iload_n hx hb d_Table_number_7 rfl (lv_at hl 0 rfl) ?_
  refine lv_if_lt (tgt := 29) hx hb d_Table_number_8 (by decide) (fun c_2 => ?_) (fun c_2 => ?_)
  · rw [if_pos c_2] at h
    refine lv_lconst (v := 0) hx hb d_Table_number_29 (by decide) ?_
    replace h := Option.some.inj h
    subst h
    exact hret _ _ hP hD hS _ _ d_Table_number_30
  · rw [if_neg c_2] at h
    refine lv_iload_n hx hb d_Table_number_11 rfl (lv_at hl 0 rfl) ?_
    refine lv_aload_n hx hb d_Table_number_12 rfl (lv_at hl 1 rfl) ?_
    refine va_get (D := (dC, dI)) (ci := 4) (v := .ref a_t_numbers) (C := R_Table) (T := T_Table) (N := 8) hx hb hts in_Table hown hK hP 0 rfl rfl 1 (by decide) (hts _ g_145) (fun _ h9 => h9) rfl d_Table_number_13 ?_
    refine va_alen (v := nI n_t_numbers) hx hb hK hP 1 0 rfl rfl rfl d_Table_number_16 ?_
    refine lv_icmp_ge (tgt := 29) hx hb d_Table_number_17 (by decide) (fun c_3 => ?_) (fun c_3 => ?_)
    · rw [if_pos c_3] at h
      refine lv_lconst (v := 0) hx hb d_Table_number_29 (by decide) ?_
      replace h := Option.some.inj h
      subst h
      exact hret _ _ hP hD hS _ _ d_Table_number_30
    · rw [if_neg c_3] at h
      refine lv_aload_n hx hb d_Table_number_20 rfl (lv_at hl 1 rfl) ?_
      refine va_get (D := (dC, dI)) (ci := 4) (v := .ref a_t_numbers) (C := R_Table) (T := T_Table) (N := 8) hx hb hts in_Table hown hK hP 0 rfl rfl 1 (by decide) (hts _ g_145) (fun _ h9 => h9) rfl d_Table_number_21 ?_
      refine lv_iload_n hx hb d_Table_number_24 rfl (lv_at hl 0 rfl) ?_
      replace h := xg h
      obtain ⟨hg_4, h⟩ := h
      refine va_lald hx hb hK hP 1 0 rfl rfl hg_4 d_Table_number_25 ?_
      refine lv_goto (tgt := 30) hx hb d_Table_number_26 (by decide) ?_
      replace h := Option.some.inj h
      subst h
      exact hret _ _ hP hD hS _ _ d_Table_number_30
def f_Writer_addScientific (n_t_fixed_limbs : Nat) (n_t_decimal_digits : Nat) (n_q1_characters : Nat) (s_t_fixed_first : Int32) (s_t_fixed_end : Int32) (e_t_fixed_limbs : Nat → Int32) (s_t_decimal_count : Int32) (s_t_decimal_point : Int32) (e_t_decimal_digits : Nat → Int32) (s_q1_length : Int32) (e_q1_characters : Nat → Int32) (x2 : Int64) (x4 : Int32) : Option (Int32 × Int32 × (Nat → Int32) × Int32 × Int32 × (Nat → Int32) × Int32 × (Nat → Int32)) :=
  xob (f_Decimal_clear s_t_decimal_count s_t_decimal_point) fun (s_t_decimal_count_1, s_t_decimal_point_2) => xob (f_Writer_addsDigits n_q1_characters s_q1_length e_q1_characters x2) fun (r_4, s_q1_length_5, e_q1_characters_6) => if r_4 = 0 then (some (s_t_fixed_end, s_t_fixed_first, e_t_fixed_limbs, s_t_decimal_count_1, s_t_decimal_point_2, e_t_decimal_digits, s_q1_length_5, e_q1_characters_6)) else (xob (f_Writer_addedZero n_q1_characters s_q1_length_5 e_q1_characters_6 x2) fun (r_9, s_q1_length_10, e_q1_characters_11) => if r_9 = 0 then (xob (f_NT_multiple x2) fun r_14 => xob (f_NT_power x2) fun r_16 => xob (f_Writer_expand n_t_fixed_limbs n_t_decimal_digits s_t_fixed_first s_t_fixed_end e_t_fixed_limbs s_t_decimal_count_1 s_t_decimal_point_2 e_t_decimal_digits r_14 r_16) fun (s_t_fixed_end_18, s_t_fixed_first_19, e_t_fixed_limbs_20, s_t_decimal_count_21, s_t_decimal_point_22, e_t_decimal_digits_23) => xob (f_Decimal_roundsUp n_t_decimal_digits s_t_decimal_count_21 s_t_decimal_point_22 e_t_decimal_digits_23 x4) fun r_25 => xob (f_Decimal_cut n_t_decimal_digits s_t_decimal_count_21 s_t_decimal_point_22 e_t_decimal_digits_23 x4 r_25) fun (s_t_decimal_count_27, s_t_decimal_point_28, e_t_decimal_digits_29) => xob (f_Writer_addWithExponent n_t_decimal_digits n_q1_characters s_t_decimal_count_27 s_t_decimal_point_28 e_t_decimal_digits_29 s_q1_length_10 e_q1_characters_11 x4) fun (s_q1_length_31, e_q1_characters_32) => some (s_t_fixed_end_18, s_t_fixed_first_19, e_t_fixed_limbs_20, s_t_decimal_count_27, s_t_decimal_point_28, e_t_decimal_digits_29, s_q1_length_31, e_q1_characters_32)) else (some (s_t_fixed_end, s_t_fixed_first, e_t_fixed_limbs, s_t_decimal_count_1, s_t_decimal_point_2, e_t_decimal_digits, s_q1_length_10, e_q1_characters_11)))
def rm_Writer_addScientific : Room := { frames := 4, cells := 0, slots := 0, locals := 95 }
set_option maxHeartbeats 4000000 in
set_option maxRecDepth 100000 in
theorem c_Writer_addScientific (l : Launch) (dC : Nat → ClassId) (dI : Nat → Nat → Nat) (a_t a_q1 a_t_fixed a_t_decimal a_t_low a_t_high a_t_fixed_limbs a_t_decimal_digits a_q1_characters : Nat) (c_t_fixed_limbs c_t_decimal_digits c_q1_characters : ClassId) (n_t_fixed_limbs : Nat) (n_t_decimal_digits : Nat) (n_q1_characters : Nat) (s_t_fixed_first : Int32) (s_t_fixed_end : Int32) (e_t_fixed_limbs : Nat → Int32) (s_t_decimal_count : Int32) (s_t_decimal_point : Int32) (e_t_decimal_digits : Nat → Int32) (s_q1_length : Int32) (e_q1_characters : Nat → Int32) (x2 : Int64) (x4 : Int32) (s_t_fixed_end_o : Int32) (s_t_fixed_first_o : Int32) (e_t_fixed_limbs_o : Nat → Int32) (s_t_decimal_count_o : Int32) (s_t_decimal_point_o : Int32) (e_t_decimal_digits_o : Nat → Int32) (s_q1_length_o : Int32) (e_q1_characters_o : Nat → Int32) (h : f_Writer_addScientific n_t_fixed_limbs n_t_decimal_digits n_q1_characters s_t_fixed_first s_t_fixed_end e_t_fixed_limbs s_t_decimal_count s_t_decimal_point e_t_decimal_digits s_q1_length e_q1_characters x2 x4 = some (s_t_fixed_end_o, s_t_fixed_first_o, e_t_fixed_limbs_o, s_t_decimal_count_o, s_t_decimal_point_o, e_t_decimal_digits_o, s_q1_length_o, e_q1_characters_o)) : xM l y_Writer_addScientific (Cond.code y_Writer_addScientific b_Writer_addScientific 5 none :: xG) rm_Writer_addScientific (dC, dI) x_cl x_nz [.ref a_t, .ref a_q1, .long x2, .int x4] [(c_t_fixed_limbs, .int), (c_t_decimal_digits, .byte), (c_q1_characters, .byte)] [(a_t, .inr (6, [.ref a_t_fixed, .ref a_t_decimal, .ref a_t_low, .ref a_t_high])), (a_t_fixed, .inr (1, [.ref a_t_fixed_limbs, .int s_t_fixed_first, .int s_t_fixed_end])), (a_t_fixed_limbs, .inl (c_t_fixed_limbs, n_t_fixed_limbs, .inl e_t_fixed_limbs)), (a_t_decimal, .inr (0, [.ref a_t_decimal_digits, .int s_t_decimal_count, .int s_t_decimal_point])), (a_t_decimal_digits, .inl (c_t_decimal_digits, n_t_decimal_digits, .inl e_t_decimal_digits)), (a_q1, .inr (5, [.ref a_q1_characters, .int s_q1_length])), (a_q1_characters, .inl (c_q1_characters, n_q1_characters, .inl e_q1_characters))] none [(a_t, .inr (6, [.ref a_t_fixed, .ref a_t_decimal, .ref a_t_low, .ref a_t_high])), (a_t_fixed, .inr (1, [.ref a_t_fixed_limbs, .int s_t_fixed_first_o, .int s_t_fixed_end_o])), (a_t_fixed_limbs, .inl (c_t_fixed_limbs, n_t_fixed_limbs, .inl e_t_fixed_limbs_o)), (a_t_decimal, .inr (0, [.ref a_t_decimal_digits, .int s_t_decimal_count_o, .int s_t_decimal_point_o])), (a_t_decimal_digits, .inl (c_t_decimal_digits, n_t_decimal_digits, .inl e_t_decimal_digits_o)), (a_q1, .inr (5, [.ref a_q1_characters, .int s_q1_length_o])), (a_q1_characters, .inl (c_q1_characters, n_q1_characters, .inl e_q1_characters_o))] := by
  unfold f_Writer_addScientific at h
  refine xM.mkV (cc := b_Writer_addScientific) (maxL := 5)  (by decide +kernel) rfl (Nat.le_of_ble_eq_true rfl) ?_
  intro p e s m args below meth c A Q ls hx hb hml hown hts hNz hA hP hD hK hl hret
  have hS : va_S A s.heap s.heap [] := va_S.rf
  have hl : lv_has ls 5 [(0, .ref a_t), (1, .ref a_q1), (2, .long x2), (4, .int x4)] := hl
  refine lv_aload_n hx hb d_Writer_addScientific_0 rfl (lv_at hl 0 rfl) ?_
  refine va_get (D := (dC, dI)) (ci := 6) (v := .ref a_t_decimal) (C := R_Writer) (T := T_Writer) (N := 4) hx hb hts in_Writer hown hK hP 0 rfl rfl 1 (by decide) (hts _ g_124) (fun _ h9 => h9) rfl d_Writer_addScientific_1 ?_
  replace h := xob_s h
  obtain ⟨⟨s_t_decimal_count_1, s_t_decimal_point_2⟩, hc_3, h⟩ := h
  try dsimp only at h
  refine xcV (As := []) (rest := []) (st1 := []) (wr := [(a_t, .inr (6, [.ref a_t_fixed, .ref a_t_decimal, .ref a_t_low, .ref a_t_high])), (a_t_fixed, .inr (1, [.ref a_t_fixed_limbs, .int s_t_fixed_first, .int s_t_fixed_end])), (a_t_fixed_limbs, .inl (c_t_fixed_limbs, n_t_fixed_limbs, .inl e_t_fixed_limbs)), (a_t_decimal_digits, .inl (c_t_decimal_digits, n_t_decimal_digits, .inl e_t_decimal_digits)), (a_q1, .inr (5, [.ref a_q1_characters, .int s_q1_length])), (a_q1_characters, .inl (c_q1_characters, n_q1_characters, .inl e_q1_characters))]) ⟨hx, hb, hml, hown, hts⟩ (c_Decimal_clear l dC dI a_t_decimal a_t_decimal_digits s_t_decimal_count s_t_decimal_point s_t_decimal_count_1 s_t_decimal_point_2 hc_3) (cwV 0 hts (xgoodV g_303 g_304 g_305 g_6 g_306) rfl rfl rfl (by decide +kernel) ⟨Nat.le_of_ble_eq_true rfl, Nat.le_of_ble_eq_true rfl⟩) hNz (ci := 0) (q0 := 3) rfl rfl hA hP hD hS hK [3] [0, 1, 2, 4, 5, 6] [] rfl rfl rfl rfl (by decide) rfl rfl rfl rfl hl.1 (Nat.le_of_ble_eq_true rfl) ⟨Nat.zero_le _, Nat.zero_le _⟩ d_Writer_addScientific_4 (fun H locs hP hD hS => ?_)
  have hP : va_P (dC, dI) x_cl [(a_t, .inr (6, [.ref a_t_fixed, .ref a_t_decimal, .ref a_t_low, .ref a_t_high])), (a_t_fixed, .inr (1, [.ref a_t_fixed_limbs, .int s_t_fixed_first, .int s_t_fixed_end])), (a_t_fixed_limbs, .inl (c_t_fixed_limbs, n_t_fixed_limbs, .inl e_t_fixed_limbs)), (a_t_decimal_digits, .inl (c_t_decimal_digits, n_t_decimal_digits, .inl e_t_decimal_digits)), (a_q1, .inr (5, [.ref a_q1_characters, .int s_q1_length])), (a_q1_characters, .inl (c_q1_characters, n_q1_characters, .inl e_q1_characters)), (a_t_decimal, .inr (0, [.ref a_t_decimal_digits, .int s_t_decimal_count_1, .int s_t_decimal_point_2]))] H := hP
  have hD : va_D A [(a_t, .inr (6, [.ref a_t_fixed, .ref a_t_decimal, .ref a_t_low, .ref a_t_high])), (a_t_fixed, .inr (1, [.ref a_t_fixed_limbs, .int s_t_fixed_first, .int s_t_fixed_end])), (a_t_fixed_limbs, .inl (c_t_fixed_limbs, n_t_fixed_limbs, .inl e_t_fixed_limbs)), (a_t_decimal_digits, .inl (c_t_decimal_digits, n_t_decimal_digits, .inl e_t_decimal_digits)), (a_q1, .inr (5, [.ref a_q1_characters, .int s_q1_length])), (a_q1_characters, .inl (c_q1_characters, n_q1_characters, .inl e_q1_characters)), (a_t_decimal, .inr (0, [.ref a_t_decimal_digits, .int s_t_decimal_count_1, .int s_t_decimal_point_2]))] := hD
  refine lv_aload_n hx hb d_Writer_addScientific_7 rfl (lv_at hl 1 rfl) ?_
  refine lv_lload_n hx hb d_Writer_addScientific_8 rfl (lv_at hl 2 rfl) ?_
  replace h := xob_s h
  obtain ⟨⟨r_4, s_q1_length_5, e_q1_characters_6⟩, hc_7, h⟩ := h
  try dsimp only at h
  refine xcS (As := [.ref a_q1, .long x2]) (rest := []) (st1 := [.int r_4]) (wr := [(a_t, .inr (6, [.ref a_t_fixed, .ref a_t_decimal, .ref a_t_low, .ref a_t_high])), (a_t_fixed, .inr (1, [.ref a_t_fixed_limbs, .int s_t_fixed_first, .int s_t_fixed_end])), (a_t_fixed_limbs, .inl (c_t_fixed_limbs, n_t_fixed_limbs, .inl e_t_fixed_limbs)), (a_t_decimal_digits, .inl (c_t_decimal_digits, n_t_decimal_digits, .inl e_t_decimal_digits)), (a_t_decimal, .inr (0, [.ref a_t_decimal_digits, .int s_t_decimal_count_1, .int s_t_decimal_point_2]))]) ⟨hx, hb, hml, hown, hts⟩ (c_Writer_addsDigits l dC dI a_q1 a_q1_characters c_q1_characters n_q1_characters s_q1_length e_q1_characters x2 r_4 s_q1_length_5 e_q1_characters_6 hc_7) (⟨callB_of 2 hts (xgood g_231) rfl rfl rfl (hts _ g_8) (hts _ g_229) (by decide +kernel) ⟨Nat.le_of_ble_eq_true rfl, Nat.le_of_ble_eq_true rfl⟩, (hts _ g_230)⟩) hNz hA hP hD hS hK [4, 5] [0, 1, 2, 3, 6] [2] rfl rfl rfl rfl (by decide) rfl rfl rfl rfl hl.1 (Nat.le_of_ble_eq_true rfl) ⟨Nat.zero_le _, Nat.zero_le _⟩ d_Writer_addScientific_9 (fun H locs hP hD hS => ?_)
  have hP : va_P (dC, dI) x_cl [(a_t, .inr (6, [.ref a_t_fixed, .ref a_t_decimal, .ref a_t_low, .ref a_t_high])), (a_t_fixed, .inr (1, [.ref a_t_fixed_limbs, .int s_t_fixed_first, .int s_t_fixed_end])), (a_t_fixed_limbs, .inl (c_t_fixed_limbs, n_t_fixed_limbs, .inl e_t_fixed_limbs)), (a_t_decimal_digits, .inl (c_t_decimal_digits, n_t_decimal_digits, .inl e_t_decimal_digits)), (a_t_decimal, .inr (0, [.ref a_t_decimal_digits, .int s_t_decimal_count_1, .int s_t_decimal_point_2])), (a_q1, .inr (5, [.ref a_q1_characters, .int s_q1_length_5])), (a_q1_characters, .inl (c_q1_characters, n_q1_characters, .inl e_q1_characters_6))] H := hP
  have hD : va_D A [(a_t, .inr (6, [.ref a_t_fixed, .ref a_t_decimal, .ref a_t_low, .ref a_t_high])), (a_t_fixed, .inr (1, [.ref a_t_fixed_limbs, .int s_t_fixed_first, .int s_t_fixed_end])), (a_t_fixed_limbs, .inl (c_t_fixed_limbs, n_t_fixed_limbs, .inl e_t_fixed_limbs)), (a_t_decimal_digits, .inl (c_t_decimal_digits, n_t_decimal_digits, .inl e_t_decimal_digits)), (a_t_decimal, .inr (0, [.ref a_t_decimal_digits, .int s_t_decimal_count_1, .int s_t_decimal_point_2])), (a_q1, .inr (5, [.ref a_q1_characters, .int s_q1_length_5])), (a_q1_characters, .inl (c_q1_characters, n_q1_characters, .inl e_q1_characters_6))] := hD
  refine lv_if_eq (tgt := 64) hx hb d_Writer_addScientific_12 (by decide) (fun c_8 => ?_) (fun c_8 => ?_)
  · rw [if_pos c_8] at h
    replace h := Option.some.inj h
    replace h := Prod.mk.inj h
    obtain ⟨h1, h⟩ := h
    subst h1
    replace h := Prod.mk.inj h
    obtain ⟨h1, h⟩ := h
    subst h1
    replace h := Prod.mk.inj h
    obtain ⟨h1, h⟩ := h
    subst h1
    replace h := Prod.mk.inj h
    obtain ⟨h1, h⟩ := h
    subst h1
    replace h := Prod.mk.inj h
    obtain ⟨h1, h⟩ := h
    subst h1
    replace h := Prod.mk.inj h
    obtain ⟨h1, h⟩ := h
    subst h1
    replace h := Prod.mk.inj h
    obtain ⟨h1, h⟩ := h
    subst h1
    subst h
    exact hret _ _ (hP.sub [0, 1, 2, 4, 3, 5, 6] rfl) (hD.sub [0, 1, 2, 4, 3, 5, 6] (by decide) rfl) hS _ _ d_Writer_addScientific_64
  · rw [if_neg c_8] at h
    refine lv_aload_n hx hb d_Writer_addScientific_15 rfl (lv_at hl 1 rfl) ?_
    refine lv_lload_n hx hb d_Writer_addScientific_16 rfl (lv_at hl 2 rfl) ?_
    replace h := xob_s h
    obtain ⟨⟨r_9, s_q1_length_10, e_q1_characters_11⟩, hc_12, h⟩ := h
    try dsimp only at h
    refine xcS (As := [.ref a_q1, .long x2]) (rest := []) (st1 := [.int r_9]) (wr := [(a_t, .inr (6, [.ref a_t_fixed, .ref a_t_decimal, .ref a_t_low, .ref a_t_high])), (a_t_fixed, .inr (1, [.ref a_t_fixed_limbs, .int s_t_fixed_first, .int s_t_fixed_end])), (a_t_fixed_limbs, .inl (c_t_fixed_limbs, n_t_fixed_limbs, .inl e_t_fixed_limbs)), (a_t_decimal_digits, .inl (c_t_decimal_digits, n_t_decimal_digits, .inl e_t_decimal_digits)), (a_t_decimal, .inr (0, [.ref a_t_decimal_digits, .int s_t_decimal_count_1, .int s_t_decimal_point_2]))]) ⟨hx, hb, hml, hown, hts⟩ (c_Writer_addedZero l dC dI a_q1 a_q1_characters c_q1_characters n_q1_characters s_q1_length_5 e_q1_characters_6 x2 r_9 s_q1_length_10 e_q1_characters_11 hc_12) (⟨callB_of 2 hts (xgood g_248) rfl rfl rfl (hts _ g_8) (hts _ g_246) (by decide +kernel) ⟨Nat.le_of_ble_eq_true rfl, Nat.le_of_ble_eq_true rfl⟩, (hts _ g_247)⟩) hNz hA hP hD hS hK [5, 6] [0, 1, 2, 3, 4] [2] rfl rfl rfl rfl (by decide) rfl rfl rfl rfl hl.1 (Nat.le_of_ble_eq_true rfl) ⟨Nat.zero_le _, Nat.zero_le _⟩ d_Writer_addScientific_17 (fun H locs hP hD hS => ?_)
    have hP : va_P (dC, dI) x_cl [(a_t, .inr (6, [.ref a_t_fixed, .ref a_t_decimal, .ref a_t_low, .ref a_t_high])), (a_t_fixed, .inr (1, [.ref a_t_fixed_limbs, .int s_t_fixed_first, .int s_t_fixed_end])), (a_t_fixed_limbs, .inl (c_t_fixed_limbs, n_t_fixed_limbs, .inl e_t_fixed_limbs)), (a_t_decimal_digits, .inl (c_t_decimal_digits, n_t_decimal_digits, .inl e_t_decimal_digits)), (a_t_decimal, .inr (0, [.ref a_t_decimal_digits, .int s_t_decimal_count_1, .int s_t_decimal_point_2])), (a_q1, .inr (5, [.ref a_q1_characters, .int s_q1_length_10])), (a_q1_characters, .inl (c_q1_characters, n_q1_characters, .inl e_q1_characters_11))] H := hP
    have hD : va_D A [(a_t, .inr (6, [.ref a_t_fixed, .ref a_t_decimal, .ref a_t_low, .ref a_t_high])), (a_t_fixed, .inr (1, [.ref a_t_fixed_limbs, .int s_t_fixed_first, .int s_t_fixed_end])), (a_t_fixed_limbs, .inl (c_t_fixed_limbs, n_t_fixed_limbs, .inl e_t_fixed_limbs)), (a_t_decimal_digits, .inl (c_t_decimal_digits, n_t_decimal_digits, .inl e_t_decimal_digits)), (a_t_decimal, .inr (0, [.ref a_t_decimal_digits, .int s_t_decimal_count_1, .int s_t_decimal_point_2])), (a_q1, .inr (5, [.ref a_q1_characters, .int s_q1_length_10])), (a_q1_characters, .inl (c_q1_characters, n_q1_characters, .inl e_q1_characters_11))] := hD
    refine lv_if_ne (tgt := 64) hx hb d_Writer_addScientific_20 (by decide) (fun c_13 => ?_) (fun c_13 => ?_)
    · rw [if_neg c_13] at h
      replace h := Option.some.inj h
      replace h := Prod.mk.inj h
      obtain ⟨h1, h⟩ := h
      subst h1
      replace h := Prod.mk.inj h
      obtain ⟨h1, h⟩ := h
      subst h1
      replace h := Prod.mk.inj h
      obtain ⟨h1, h⟩ := h
      subst h1
      replace h := Prod.mk.inj h
      obtain ⟨h1, h⟩ := h
      subst h1
      replace h := Prod.mk.inj h
      obtain ⟨h1, h⟩ := h
      subst h1
      replace h := Prod.mk.inj h
      obtain ⟨h1, h⟩ := h
      subst h1
      replace h := Prod.mk.inj h
      obtain ⟨h1, h⟩ := h
      subst h1
      subst h
      exact hret _ _ (hP.sub [0, 1, 2, 4, 3, 5, 6] rfl) (hD.sub [0, 1, 2, 4, 3, 5, 6] (by decide) rfl) hS _ _ d_Writer_addScientific_64
    · rw [if_pos c_13] at h
      refine lv_aload_n hx hb d_Writer_addScientific_23 rfl (lv_at hl 0 rfl) ?_
      refine lv_aload_n hx hb d_Writer_addScientific_24 rfl (lv_at hl 0 rfl) ?_
      refine va_get (D := (dC, dI)) (ci := 6) (v := .ref a_t_decimal) (C := R_Writer) (T := T_Writer) (N := 4) hx hb hts in_Writer hown hK hP 0 rfl rfl 1 (by decide) (hts _ g_124) (fun _ h9 => h9) rfl d_Writer_addScientific_25 ?_
      refine lv_lload_n hx hb d_Writer_addScientific_28 rfl (lv_at hl 2 rfl) ?_
      replace h := xob_s h
      obtain ⟨r_14, hc_15, h⟩ := h
      try dsimp only at h
      refine xcSN (As := [.long x2]) (rest := [.ref a_t_decimal, .ref a_t]) (st1 := [.long r_14, .ref a_t_decimal, .ref a_t]) (wr := [(a_t, .inr (6, [.ref a_t_fixed, .ref a_t_decimal, .ref a_t_low, .ref a_t_high])), (a_t_fixed, .inr (1, [.ref a_t_fixed_limbs, .int s_t_fixed_first, .int s_t_fixed_end])), (a_t_fixed_limbs, .inl (c_t_fixed_limbs, n_t_fixed_limbs, .inl e_t_fixed_limbs)), (a_t_decimal_digits, .inl (c_t_decimal_digits, n_t_decimal_digits, .inl e_t_decimal_digits)), (a_t_decimal, .inr (0, [.ref a_t_decimal_digits, .int s_t_decimal_count_1, .int s_t_decimal_point_2])), (a_q1, .inr (5, [.ref a_q1_characters, .int s_q1_length_10])), (a_q1_characters, .inl (c_q1_characters, n_q1_characters, .inl e_q1_characters_11))]) ⟨hx, hb, hml, hown, hts⟩ (c_NT_multiple l dC dI x2 r_14 hc_15) (⟨va_cnB 1 hts (xgood g_259) rfl rfl rfl (hNz.at 3 rfl) (hts _ g_1) (by decide +kernel) ⟨Nat.le_of_ble_eq_true rfl, Nat.le_of_ble_eq_true rfl⟩, (hts _ g_258), trivial⟩) hNz hA hP hD hS hK [] [0, 1, 2, 3, 4, 5, 6] [] rfl rfl rfl rfl (by decide) rfl rfl rfl rfl hl.1 (Nat.le_of_ble_eq_true rfl) ⟨Nat.zero_le _, Nat.zero_le _⟩ d_Writer_addScientific_29 (fun H locs hP hD hS => ?_)
      have hP : va_P (dC, dI) x_cl [(a_t, .inr (6, [.ref a_t_fixed, .ref a_t_decimal, .ref a_t_low, .ref a_t_high])), (a_t_fixed, .inr (1, [.ref a_t_fixed_limbs, .int s_t_fixed_first, .int s_t_fixed_end])), (a_t_fixed_limbs, .inl (c_t_fixed_limbs, n_t_fixed_limbs, .inl e_t_fixed_limbs)), (a_t_decimal_digits, .inl (c_t_decimal_digits, n_t_decimal_digits, .inl e_t_decimal_digits)), (a_t_decimal, .inr (0, [.ref a_t_decimal_digits, .int s_t_decimal_count_1, .int s_t_decimal_point_2])), (a_q1, .inr (5, [.ref a_q1_characters, .int s_q1_length_10])), (a_q1_characters, .inl (c_q1_characters, n_q1_characters, .inl e_q1_characters_11))] H := hP
      have hD : va_D A [(a_t, .inr (6, [.ref a_t_fixed, .ref a_t_decimal, .ref a_t_low, .ref a_t_high])), (a_t_fixed, .inr (1, [.ref a_t_fixed_limbs, .int s_t_fixed_first, .int s_t_fixed_end])), (a_t_fixed_limbs, .inl (c_t_fixed_limbs, n_t_fixed_limbs, .inl e_t_fixed_limbs)), (a_t_decimal_digits, .inl (c_t_decimal_digits, n_t_decimal_digits, .inl e_t_decimal_digits)), (a_t_decimal, .inr (0, [.ref a_t_decimal_digits, .int s_t_decimal_count_1, .int s_t_decimal_point_2])), (a_q1, .inr (5, [.ref a_q1_characters, .int s_q1_length_10])), (a_q1_characters, .inl (c_q1_characters, n_q1_characters, .inl e_q1_characters_11))] := hD
      refine lv_lload_n hx hb d_Writer_addScientific_32 rfl (lv_at hl 2 rfl) ?_
      replace h := xob_s h
      obtain ⟨r_16, hc_17, h⟩ := h
      try dsimp only at h
      refine xcSN (As := [.long x2]) (rest := [.long r_14, .ref a_t_decimal, .ref a_t]) (st1 := [.int r_16, .long r_14, .ref a_t_decimal, .ref a_t]) (wr := [(a_t, .inr (6, [.ref a_t_fixed, .ref a_t_decimal, .ref a_t_low, .ref a_t_high])), (a_t_fixed, .inr (1, [.ref a_t_fixed_limbs, .int s_t_fixed_first, .int s_t_fixed_end])), (a_t_fixed_limbs, .inl (c_t_fixed_limbs, n_t_fixed_limbs, .inl e_t_fixed_limbs)), (a_t_decimal_digits, .inl (c_t_decimal_digits, n_t_decimal_digits, .inl e_t_decimal_digits)), (a_t_decimal, .inr (0, [.ref a_t_decimal_digits, .int s_t_decimal_count_1, .int s_t_decimal_point_2])), (a_q1, .inr (5, [.ref a_q1_characters, .int s_q1_length_10])), (a_q1_characters, .inl (c_q1_characters, n_q1_characters, .inl e_q1_characters_11))]) ⟨hx, hb, hml, hown, hts⟩ (c_NT_power l dC dI x2 r_16 hc_17) (⟨va_cnB 1 hts (xgood g_270) rfl rfl rfl (hNz.at 4 rfl) (hts _ g_1) (by decide +kernel) ⟨Nat.le_of_ble_eq_true rfl, Nat.le_of_ble_eq_true rfl⟩, (hts _ g_269), trivial⟩) hNz hA hP hD hS hK [] [0, 1, 2, 3, 4, 5, 6] [] rfl rfl rfl rfl (by decide) rfl rfl rfl rfl hl.1 (Nat.le_of_ble_eq_true rfl) ⟨Nat.zero_le _, Nat.zero_le _⟩ d_Writer_addScientific_33 (fun H locs hP hD hS => ?_)
      have hP : va_P (dC, dI) x_cl [(a_t, .inr (6, [.ref a_t_fixed, .ref a_t_decimal, .ref a_t_low, .ref a_t_high])), (a_t_fixed, .inr (1, [.ref a_t_fixed_limbs, .int s_t_fixed_first, .int s_t_fixed_end])), (a_t_fixed_limbs, .inl (c_t_fixed_limbs, n_t_fixed_limbs, .inl e_t_fixed_limbs)), (a_t_decimal_digits, .inl (c_t_decimal_digits, n_t_decimal_digits, .inl e_t_decimal_digits)), (a_t_decimal, .inr (0, [.ref a_t_decimal_digits, .int s_t_decimal_count_1, .int s_t_decimal_point_2])), (a_q1, .inr (5, [.ref a_q1_characters, .int s_q1_length_10])), (a_q1_characters, .inl (c_q1_characters, n_q1_characters, .inl e_q1_characters_11))] H := hP
      have hD : va_D A [(a_t, .inr (6, [.ref a_t_fixed, .ref a_t_decimal, .ref a_t_low, .ref a_t_high])), (a_t_fixed, .inr (1, [.ref a_t_fixed_limbs, .int s_t_fixed_first, .int s_t_fixed_end])), (a_t_fixed_limbs, .inl (c_t_fixed_limbs, n_t_fixed_limbs, .inl e_t_fixed_limbs)), (a_t_decimal_digits, .inl (c_t_decimal_digits, n_t_decimal_digits, .inl e_t_decimal_digits)), (a_t_decimal, .inr (0, [.ref a_t_decimal_digits, .int s_t_decimal_count_1, .int s_t_decimal_point_2])), (a_q1, .inr (5, [.ref a_q1_characters, .int s_q1_length_10])), (a_q1_characters, .inl (c_q1_characters, n_q1_characters, .inl e_q1_characters_11))] := hD
      replace h := xob_s h
      obtain ⟨⟨s_t_fixed_end_18, s_t_fixed_first_19, e_t_fixed_limbs_20, s_t_decimal_count_21, s_t_decimal_point_22, e_t_decimal_digits_23⟩, hc_24, h⟩ := h
      try dsimp only at h
      refine xcV (As := [.ref a_t_decimal, .long r_14, .int r_16]) (rest := []) (st1 := []) (wr := [(a_q1, .inr (5, [.ref a_q1_characters, .int s_q1_length_10])), (a_q1_characters, .inl (c_q1_characters, n_q1_characters, .inl e_q1_characters_11))]) ⟨hx, hb, hml, hown, hts⟩ (c_Writer_expand l dC dI a_t a_t_decimal a_t_fixed a_t_decimal a_t_low a_t_high a_t_fixed_limbs a_t_decimal_digits c_t_fixed_limbs c_t_decimal_digits n_t_fixed_limbs n_t_decimal_digits s_t_fixed_first s_t_fixed_end e_t_fixed_limbs s_t_decimal_count_1 s_t_decimal_point_2 e_t_decimal_digits r_14 r_16 s_t_fixed_end_18 s_t_fixed_first_19 e_t_fixed_limbs_20 s_t_decimal_count_21 s_t_decimal_point_22 e_t_decimal_digits_23 hc_24) (cwV 3 hts (xgoodV g_274 g_276 gp_1 g_8 g_277) rfl rfl rfl (by decide +kernel) ⟨Nat.le_of_ble_eq_true rfl, Nat.le_of_ble_eq_true rfl⟩) hNz (ci := 6) (q0 := 0) rfl rfl hA hP hD hS hK [0, 1, 2, 4, 3] [5, 6] [0, 1] rfl rfl rfl rfl (by decide) rfl rfl rfl rfl hl.1 (Nat.le_of_ble_eq_true rfl) ⟨Nat.zero_le _, Nat.zero_le _⟩ d_Writer_addScientific_36 (fun H locs hP hD hS => ?_)
      have hP : va_P (dC, dI) x_cl [(a_q1, .inr (5, [.ref a_q1_characters, .int s_q1_length_10])), (a_q1_characters, .inl (c_q1_characters, n_q1_characters, .inl e_q1_characters_11)), (a_t, .inr (6, [.ref a_t_fixed, .ref a_t_decimal, .ref a_t_low, .ref a_t_high])), (a_t_fixed, .inr (1, [.ref a_t_fixed_limbs, .int s_t_fixed_first_19, .int s_t_fixed_end_18])), (a_t_fixed_limbs, .inl (c_t_fixed_limbs, n_t_fixed_limbs, .inl e_t_fixed_limbs_20)), (a_t_decimal, .inr (0, [.ref a_t_decimal_digits, .int s_t_decimal_count_21, .int s_t_decimal_point_22])), (a_t_decimal_digits, .inl (c_t_decimal_digits, n_t_decimal_digits, .inl e_t_decimal_digits_23))] H := hP
      have hD : va_D A [(a_q1, .inr (5, [.ref a_q1_characters, .int s_q1_length_10])), (a_q1_characters, .inl (c_q1_characters, n_q1_characters, .inl e_q1_characters_11)), (a_t, .inr (6, [.ref a_t_fixed, .ref a_t_decimal, .ref a_t_low, .ref a_t_high])), (a_t_fixed, .inr (1, [.ref a_t_fixed_limbs, .int s_t_fixed_first_19, .int s_t_fixed_end_18])), (a_t_fixed_limbs, .inl (c_t_fixed_limbs, n_t_fixed_limbs, .inl e_t_fixed_limbs_20)), (a_t_decimal, .inr (0, [.ref a_t_decimal_digits, .int s_t_decimal_count_21, .int s_t_decimal_point_22])), (a_t_decimal_digits, .inl (c_t_decimal_digits, n_t_decimal_digits, .inl e_t_decimal_digits_23))] := hD
      refine lv_aload_n hx hb d_Writer_addScientific_39 rfl (lv_at hl 0 rfl) ?_
      refine va_get (D := (dC, dI)) (ci := 6) (v := .ref a_t_decimal) (C := R_Writer) (T := T_Writer) (N := 4) hx hb hts in_Writer hown hK hP 2 rfl rfl 1 (by decide) (hts _ g_124) (fun _ h9 => h9) rfl d_Writer_addScientific_40 ?_
      refine lv_iload hx hb d_Writer_addScientific_43 (lv_at hl 3 rfl) ?_
      refine lv_aload_n hx hb d_Writer_addScientific_45 rfl (lv_at hl 0 rfl) ?_
      refine va_get (D := (dC, dI)) (ci := 6) (v := .ref a_t_decimal) (C := R_Writer) (T := T_Writer) (N := 4) hx hb hts in_Writer hown hK hP 2 rfl rfl 1 (by decide) (hts _ g_124) (fun _ h9 => h9) rfl d_Writer_addScientific_46 ?_
      refine lv_iload hx hb d_Writer_addScientific_49 (lv_at hl 3 rfl) ?_
      replace h := xob_s h
      obtain ⟨r_25, hc_26, h⟩ := h
      try dsimp only at h
      refine xcV (As := [.int x4]) (rest := [.int x4, .ref a_t_decimal]) (st1 := [.int r_25, .int x4, .ref a_t_decimal]) (wr := [(a_q1, .inr (5, [.ref a_q1_characters, .int s_q1_length_10])), (a_q1_characters, .inl (c_q1_characters, n_q1_characters, .inl e_q1_characters_11)), (a_t, .inr (6, [.ref a_t_fixed, .ref a_t_decimal, .ref a_t_low, .ref a_t_high])), (a_t_fixed, .inr (1, [.ref a_t_fixed_limbs, .int s_t_fixed_first_19, .int s_t_fixed_end_18])), (a_t_fixed_limbs, .inl (c_t_fixed_limbs, n_t_fixed_limbs, .inl e_t_fixed_limbs_20))]) ⟨hx, hb, hml, hown, hts⟩ (c_Decimal_roundsUp l dC dI a_t_decimal a_t_decimal_digits c_t_decimal_digits n_t_decimal_digits s_t_decimal_count_21 s_t_decimal_point_22 e_t_decimal_digits_23 x4 r_25 hc_26) (cwV 1 hts (xgoodV g_350 g_351 g_352 g_6 g_353) rfl rfl rfl (by decide +kernel) ⟨Nat.le_of_ble_eq_true rfl, Nat.le_of_ble_eq_true rfl⟩) hNz (ci := 0) (q0 := 5) rfl rfl hA hP hD hS hK [5, 6] [0, 1, 2, 3, 4] [1] rfl rfl rfl rfl (by decide) rfl rfl rfl rfl hl.1 (Nat.le_of_ble_eq_true rfl) ⟨Nat.zero_le _, Nat.zero_le _⟩ d_Writer_addScientific_51 (fun H locs hP hD hS => ?_)
      have hP : va_P (dC, dI) x_cl [(a_q1, .inr (5, [.ref a_q1_characters, .int s_q1_length_10])), (a_q1_characters, .inl (c_q1_characters, n_q1_characters, .inl e_q1_characters_11)), (a_t, .inr (6, [.ref a_t_fixed, .ref a_t_decimal, .ref a_t_low, .ref a_t_high])), (a_t_fixed, .inr (1, [.ref a_t_fixed_limbs, .int s_t_fixed_first_19, .int s_t_fixed_end_18])), (a_t_fixed_limbs, .inl (c_t_fixed_limbs, n_t_fixed_limbs, .inl e_t_fixed_limbs_20)), (a_t_decimal, .inr (0, [.ref a_t_decimal_digits, .int s_t_decimal_count_21, .int s_t_decimal_point_22])), (a_t_decimal_digits, .inl (c_t_decimal_digits, n_t_decimal_digits, .inl e_t_decimal_digits_23))] H := hP
      have hD : va_D A [(a_q1, .inr (5, [.ref a_q1_characters, .int s_q1_length_10])), (a_q1_characters, .inl (c_q1_characters, n_q1_characters, .inl e_q1_characters_11)), (a_t, .inr (6, [.ref a_t_fixed, .ref a_t_decimal, .ref a_t_low, .ref a_t_high])), (a_t_fixed, .inr (1, [.ref a_t_fixed_limbs, .int s_t_fixed_first_19, .int s_t_fixed_end_18])), (a_t_fixed_limbs, .inl (c_t_fixed_limbs, n_t_fixed_limbs, .inl e_t_fixed_limbs_20)), (a_t_decimal, .inr (0, [.ref a_t_decimal_digits, .int s_t_decimal_count_21, .int s_t_decimal_point_22])), (a_t_decimal_digits, .inl (c_t_decimal_digits, n_t_decimal_digits, .inl e_t_decimal_digits_23))] := hD
      replace h := xob_s h
      obtain ⟨⟨s_t_decimal_count_27, s_t_decimal_point_28, e_t_decimal_digits_29⟩, hc_30, h⟩ := h
      try dsimp only at h
      refine xcV (As := [.int x4, .int r_25]) (rest := []) (st1 := []) (wr := [(a_q1, .inr (5, [.ref a_q1_characters, .int s_q1_length_10])), (a_q1_characters, .inl (c_q1_characters, n_q1_characters, .inl e_q1_characters_11)), (a_t, .inr (6, [.ref a_t_fixed, .ref a_t_decimal, .ref a_t_low, .ref a_t_high])), (a_t_fixed, .inr (1, [.ref a_t_fixed_limbs, .int s_t_fixed_first_19, .int s_t_fixed_end_18])), (a_t_fixed_limbs, .inl (c_t_fixed_limbs, n_t_fixed_limbs, .inl e_t_fixed_limbs_20))]) ⟨hx, hb, hml, hown, hts⟩ (c_Decimal_cut l dC dI a_t_decimal a_t_decimal_digits c_t_decimal_digits n_t_decimal_digits s_t_decimal_count_21 s_t_decimal_point_22 e_t_decimal_digits_23 x4 r_25 s_t_decimal_count_27 s_t_decimal_point_28 e_t_decimal_digits_29 hc_30) (cwV 2 hts (xgoodV g_354 g_355 g_356 g_6 g_357) rfl rfl rfl (by decide +kernel) ⟨Nat.le_of_ble_eq_true rfl, Nat.le_of_ble_eq_true rfl⟩) hNz (ci := 0) (q0 := 5) rfl rfl hA hP hD hS hK [5, 6] [0, 1, 2, 3, 4] [1] rfl rfl rfl rfl (by decide) rfl rfl rfl rfl hl.1 (Nat.le_of_ble_eq_true rfl) ⟨Nat.zero_le _, Nat.zero_le _⟩ d_Writer_addScientific_54 (fun H locs hP hD hS => ?_)
      have hP : va_P (dC, dI) x_cl [(a_q1, .inr (5, [.ref a_q1_characters, .int s_q1_length_10])), (a_q1_characters, .inl (c_q1_characters, n_q1_characters, .inl e_q1_characters_11)), (a_t, .inr (6, [.ref a_t_fixed, .ref a_t_decimal, .ref a_t_low, .ref a_t_high])), (a_t_fixed, .inr (1, [.ref a_t_fixed_limbs, .int s_t_fixed_first_19, .int s_t_fixed_end_18])), (a_t_fixed_limbs, .inl (c_t_fixed_limbs, n_t_fixed_limbs, .inl e_t_fixed_limbs_20)), (a_t_decimal, .inr (0, [.ref a_t_decimal_digits, .int s_t_decimal_count_27, .int s_t_decimal_point_28])), (a_t_decimal_digits, .inl (c_t_decimal_digits, n_t_decimal_digits, .inl e_t_decimal_digits_29))] H := hP
      have hD : va_D A [(a_q1, .inr (5, [.ref a_q1_characters, .int s_q1_length_10])), (a_q1_characters, .inl (c_q1_characters, n_q1_characters, .inl e_q1_characters_11)), (a_t, .inr (6, [.ref a_t_fixed, .ref a_t_decimal, .ref a_t_low, .ref a_t_high])), (a_t_fixed, .inr (1, [.ref a_t_fixed_limbs, .int s_t_fixed_first_19, .int s_t_fixed_end_18])), (a_t_fixed_limbs, .inl (c_t_fixed_limbs, n_t_fixed_limbs, .inl e_t_fixed_limbs_20)), (a_t_decimal, .inr (0, [.ref a_t_decimal_digits, .int s_t_decimal_count_27, .int s_t_decimal_point_28])), (a_t_decimal_digits, .inl (c_t_decimal_digits, n_t_decimal_digits, .inl e_t_decimal_digits_29))] := hD
      refine lv_aload_n hx hb d_Writer_addScientific_57 rfl (lv_at hl 0 rfl) ?_
      refine lv_aload_n hx hb d_Writer_addScientific_58 rfl (lv_at hl 1 rfl) ?_
      refine lv_iload hx hb d_Writer_addScientific_59 (lv_at hl 3 rfl) ?_
      replace h := xob_s h
      obtain ⟨⟨s_q1_length_31, e_q1_characters_32⟩, hc_33, h⟩ := h
      try dsimp only at h
      refine xcV (As := [.ref a_q1, .int x4]) (rest := []) (st1 := []) (wr := [(a_t_fixed, .inr (1, [.ref a_t_fixed_limbs, .int s_t_fixed_first_19, .int s_t_fixed_end_18])), (a_t_fixed_limbs, .inl (c_t_fixed_limbs, n_t_fixed_limbs, .inl e_t_fixed_limbs_20))]) ⟨hx, hb, hml, hown, hts⟩ (c_Writer_addWithExponent l dC dI a_t a_q1 a_t_fixed a_t_decimal a_t_low a_t_high a_t_decimal_digits a_q1_characters c_t_decimal_digits c_q1_characters n_t_decimal_digits n_q1_characters s_t_decimal_count_27 s_t_decimal_point_28 e_t_decimal_digits_29 s_q1_length_10 e_q1_characters_11 x4 s_q1_length_31 e_q1_characters_32 hc_33) (cwV 2 hts (xgoodV g_386 g_388 gp_10 g_8 g_389) rfl rfl rfl (by decide +kernel) ⟨Nat.le_of_ble_eq_true rfl, Nat.le_of_ble_eq_true rfl⟩) hNz (ci := 6) (q0 := 2) rfl rfl hA hP hD hS hK [2, 5, 6, 0, 1] [3, 4] [1, 2] rfl rfl rfl rfl (by decide) rfl rfl rfl rfl hl.1 (Nat.le_of_ble_eq_true rfl) ⟨Nat.zero_le _, Nat.zero_le _⟩ d_Writer_addScientific_61 (fun H locs hP hD hS => ?_)
      have hP : va_P (dC, dI) x_cl [(a_t_fixed, .inr (1, [.ref a_t_fixed_limbs, .int s_t_fixed_first_19, .int s_t_fixed_end_18])), (a_t_fixed_limbs, .inl (c_t_fixed_limbs, n_t_fixed_limbs, .inl e_t_fixed_limbs_20)), (a_t, .inr (6, [.ref a_t_fixed, .ref a_t_decimal, .ref a_t_low, .ref a_t_high])), (a_t_decimal, .inr (0, [.ref a_t_decimal_digits, .int s_t_decimal_count_27, .int s_t_decimal_point_28])), (a_t_decimal_digits, .inl (c_t_decimal_digits, n_t_decimal_digits, .inl e_t_decimal_digits_29)), (a_q1, .inr (5, [.ref a_q1_characters, .int s_q1_length_31])), (a_q1_characters, .inl (c_q1_characters, n_q1_characters, .inl e_q1_characters_32))] H := hP
      have hD : va_D A [(a_t_fixed, .inr (1, [.ref a_t_fixed_limbs, .int s_t_fixed_first_19, .int s_t_fixed_end_18])), (a_t_fixed_limbs, .inl (c_t_fixed_limbs, n_t_fixed_limbs, .inl e_t_fixed_limbs_20)), (a_t, .inr (6, [.ref a_t_fixed, .ref a_t_decimal, .ref a_t_low, .ref a_t_high])), (a_t_decimal, .inr (0, [.ref a_t_decimal_digits, .int s_t_decimal_count_27, .int s_t_decimal_point_28])), (a_t_decimal_digits, .inl (c_t_decimal_digits, n_t_decimal_digits, .inl e_t_decimal_digits_29)), (a_q1, .inr (5, [.ref a_q1_characters, .int s_q1_length_31])), (a_q1_characters, .inl (c_q1_characters, n_q1_characters, .inl e_q1_characters_32))] := hD
      replace h := Option.some.inj h
      replace h := Prod.mk.inj h
      obtain ⟨h1, h⟩ := h
      subst h1
      replace h := Prod.mk.inj h
      obtain ⟨h1, h⟩ := h
      subst h1
      replace h := Prod.mk.inj h
      obtain ⟨h1, h⟩ := h
      subst h1
      replace h := Prod.mk.inj h
      obtain ⟨h1, h⟩ := h
      subst h1
      replace h := Prod.mk.inj h
      obtain ⟨h1, h⟩ := h
      subst h1
      replace h := Prod.mk.inj h
      obtain ⟨h1, h⟩ := h
      subst h1
      replace h := Prod.mk.inj h
      obtain ⟨h1, h⟩ := h
      subst h1
      subst h
      exact hret _ _ (hP.sub [2, 0, 1, 3, 4, 5, 6] rfl) (hD.sub [2, 0, 1, 3, 4, 5, 6] (by decide) rfl) hS _ _ d_Writer_addScientific_64
def f_Writer_decimal  : Option (Unit) :=
  some ()
def rm_Writer_decimal : Room := { frames := 0, cells := 0, slots := 0, locals := 0 }
set_option maxHeartbeats 4000000 in
set_option maxRecDepth 100000 in
theorem c_Writer_decimal (l : Launch) (dC : Nat → ClassId) (dI : Nat → Nat → Nat) (a_t a_t_fixed a_t_decimal a_t_low a_t_high : Nat) (h : f_Writer_decimal  = some ()) : xM l y_Writer_decimal (Cond.code y_Writer_decimal b_Writer_decimal 1 (some (.object "NumberText$Decimal")) :: xG) rm_Writer_decimal (dC, dI) x_cl x_nz [.ref a_t] [] [(a_t, .inr (6, [.ref a_t_fixed, .ref a_t_decimal, .ref a_t_low, .ref a_t_high]))] (some (.ref a_t_decimal)) [(a_t, .inr (6, [.ref a_t_fixed, .ref a_t_decimal, .ref a_t_low, .ref a_t_high]))] := by
  unfold f_Writer_decimal at h
  refine xM.mkR (cc := b_Writer_decimal) (maxL := 1) (rt := (.object "NumberText$Decimal")) (Or.inl ⟨_, rfl⟩) (by decide +kernel) rfl (Nat.le_of_ble_eq_true rfl) ?_
  intro p e s m args below meth c A Q ls hx hb hml hown hts hNz hA hP hD hK hl hret
  have hS : va_S A s.heap s.heap [] := va_S.rf
  have hl : lv_has ls 1 [(0, .ref a_t)] := hl
  refine lv_aload_n hx hb d_Writer_decimal_0 rfl (lv_at hl 0 rfl) ?_
  refine va_get (D := (dC, dI)) (ci := 6) (v := .ref a_t_decimal) (C := R_Writer) (T := T_Writer) (N := 4) hx hb hts in_Writer hown hK hP 0 rfl rfl 1 (by decide) (hts _ g_124) (fun _ h9 => h9) rfl d_Writer_decimal_1 ?_
  exact hret _ _ hP hD hS _ _ d_Writer_decimal_4
def lp_Table_writeScientific_15 (x1 : Int32) (x2 : Int32) (s_t_rows : Int32) (s_t_columns : Int32) (s_t_lineLength : Int32) (e_t_numbers : Nat → Int64) (n_t_writer_fixed_limbs : Nat) (n_t_writer_decimal_digits : Nat) (n_t_numbers : Nat) (n_t_texts_characters : Nat) (n_t_ends : Nat) : Nat → Int32 → Int32 → Int32 → Int32 → Int32 → (Nat → Int32) → Int32 → Int32 → (Nat → Int32) → Int32 → (Nat → Int32) → (Nat → Int32) → Option (Int32 × Int32 × Int32 × Int32 × (Nat → Int32) × Int32 × Int32 × (Nat → Int32) × Int32 × (Nat → Int32) × (Nat → Int32))
  | 0, _, _, _, _, _, _, _, _, _, _, _, _ => none
  | n_ + 1, x3_3, x4_4, x5_5, s_t_writer_fixed_end_6, s_t_writer_fixed_first_7, e_t_writer_fixed_limbs_8, s_t_writer_decimal_count_9, s_t_writer_decimal_point_10, e_t_writer_decimal_digits_11, s_t_texts_length_12, e_t_texts_characters_13, e_t_ends_14 =>
    if s_t_rows ≤ x5_5 then (some (x3_3, x4_4, s_t_writer_fixed_end_6, s_t_writer_fixed_first_7, e_t_writer_fixed_limbs_8, s_t_writer_decimal_count_9, s_t_writer_decimal_point_10, e_t_writer_decimal_digits_11, s_t_texts_length_12, e_t_texts_characters_13, e_t_ends_14)) else (if (nI n_t_ends) ≤ x5_5 then (some (x3_3, x4_4, s_t_writer_fixed_end_6, s_t_writer_fixed_first_7, e_t_writer_fixed_limbs_8, s_t_writer_decimal_count_9, s_t_writer_decimal_point_10, e_t_writer_decimal_digits_11, s_t_texts_length_12, e_t_texts_characters_13, e_t_ends_14)) else (xob (f_Table_number n_t_numbers s_t_rows s_t_columns s_t_lineLength e_t_numbers x5_5 x1) fun r_32 => xob (f_Writer_addScientific n_t_writer_fixed_limbs n_t_writer_decimal_digits n_t_texts_characters s_t_writer_fixed_first_7 s_t_writer_fixed_end_6 e_t_writer_fixed_limbs_8 s_t_writer_decimal_count_9 s_t_writer_decimal_point_10 e_t_writer_decimal_digits_11 s_t_texts_length_12 e_t_texts_characters_13 r_32 x2) fun (s_t_writer_fixed_end_34, s_t_writer_fixed_first_35, e_t_writer_fixed_limbs_36, s_t_writer_decimal_count_37, s_t_writer_decimal_point_38, e_t_writer_decimal_digits_39, s_t_texts_length_40, e_t_texts_characters_41) => xob (f_Text_length s_t_texts_length_40) fun r_43 => if (x5_5 < 0 ∨ n_t_ends ≤ x5_5.toNatClampNeg) then none else xob (if x3_3 = 0 then (some (0 : Int32)) else (xob (f_Writer_decimal ) fun _ => xob (f_Decimal_isPlain s_t_writer_decimal_count_37 s_t_writer_decimal_point_38) fun r_56 => if r_56 = 0 then (some (0 : Int32)) else (some (1 : Int32)))) fun z_46 => xob (f_Writer_decimal ) fun _ => xob (f_Decimal_leastPlaces s_t_writer_decimal_count_37 s_t_writer_decimal_point_38) fun r_50 => xnm (if x4_4 < r_50 then r_50 else x4_4) fun x4_52 => xnm (x5_5 + (1 : Int32)) fun x5_53 => lp_Table_writeScientific_15 x1 x2 s_t_rows s_t_columns s_t_lineLength e_t_numbers n_t_writer_fixed_limbs n_t_writer_decimal_digits n_t_numbers n_t_texts_characters n_t_ends n_ z_46 x4_52 x5_53 s_t_writer_fixed_end_34 s_t_writer_fixed_first_35 e_t_writer_fixed_limbs_36 s_t_writer_decimal_count_37 s_t_writer_decimal_point_38 e_t_writer_decimal_digits_39 s_t_texts_length_40 e_t_texts_characters_41 (upd e_t_ends_14 x5_5.toNatClampNeg r_43)))
def f_Table_writeScientific (n_t_writer_fixed_limbs : Nat) (n_t_writer_decimal_digits : Nat) (n_t_numbers : Nat) (n_t_texts_characters : Nat) (n_t_ends : Nat) (s_t_rows : Int32) (s_t_columns : Int32) (s_t_lineLength : Int32) (s_t_writer_fixed_first : Int32) (s_t_writer_fixed_end : Int32) (e_t_writer_fixed_limbs : Nat → Int32) (s_t_writer_decimal_count : Int32) (s_t_writer_decimal_point : Int32) (e_t_writer_decimal_digits : Nat → Int32) (e_t_numbers : Nat → Int64) (s_t_texts_length : Int32) (e_t_texts_characters : Nat → Int32) (e_t_ends : Nat → Int32) (x1 : Int32) (x2 : Int32) : Option (Int32 × Int32 × Int32 × (Nat → Int32) × Int32 × Int32 × (Nat → Int32) × Int32 × (Nat → Int32) × (Nat → Int32)) :=
  xob (f_Text_clear s_t_texts_length) fun s_t_texts_length_1 => xob (lp_Table_writeScientific_15 x1 x2 s_t_rows s_t_columns s_t_lineLength e_t_numbers n_t_writer_fixed_limbs n_t_writer_decimal_digits n_t_numbers n_t_texts_characters n_t_ends xF (1 : Int32) (0 : Int32) (0 : Int32) s_t_writer_fixed_end s_t_writer_fixed_first e_t_writer_fixed_limbs s_t_writer_decimal_count s_t_writer_decimal_point e_t_writer_decimal_digits s_t_texts_length_1 e_t_texts_characters e_t_ends) fun (x3_15, x4_16, s_t_writer_fixed_end_17, s_t_writer_fixed_first_18, e_t_writer_fixed_limbs_19, s_t_writer_decimal_count_20, s_t_writer_decimal_point_21, e_t_writer_decimal_digits_22, s_t_texts_length_23, e_t_texts_characters_24, e_t_ends_25) => if x3_15 = 0 then (some ((-1 : Int32), s_t_writer_fixed_end_17, s_t_writer_fixed_first_18, e_t_writer_fixed_limbs_19, s_t_writer_decimal_count_20, s_t_writer_decimal_point_21, e_t_writer_decimal_digits_22, s_t_texts_length_23, e_t_texts_characters_24, e_t_ends_25)) else (some (x4_16, s_t_writer_fixed_end_17, s_t_writer_fixed_first_18, e_t_writer_fixed_limbs_19, s_t_writer_decimal_count_20, s_t_writer_decimal_point_21, e_t_writer_decimal_digits_22, s_t_texts_length_23, e_t_texts_characters_24, e_t_ends_25))
def rm_Table_writeScientific : Room := { frames := 5, cells := 0, slots := 0, locals := 119 }
set_option maxHeartbeats 4000000 in
set_option maxRecDepth 100000 in
theorem c_Table_writeScientific (l : Launch) (dC : Nat → ClassId) (dI : Nat → Nat → Nat) (a_t a_t_writer a_t_numbers a_t_texts a_t_ends a_t_lines a_t_writer_fixed a_t_writer_decimal a_t_writer_low a_t_writer_high a_t_writer_fixed_limbs a_t_writer_decimal_digits a_t_texts_characters : Nat) (c_t_writer_fixed_limbs c_t_writer_decimal_digits c_t_numbers c_t_texts_characters c_t_ends : ClassId) (n_t_writer_fixed_limbs : Nat) (n_t_writer_decimal_digits : Nat) (n_t_numbers : Nat) (n_t_texts_characters : Nat) (n_t_ends : Nat) (s_t_rows : Int32) (s_t_columns : Int32) (s_t_lineLength : Int32) (s_t_writer_fixed_first : Int32) (s_t_writer_fixed_end : Int32) (e_t_writer_fixed_limbs : Nat → Int32) (s_t_writer_decimal_count : Int32) (s_t_writer_decimal_point : Int32) (e_t_writer_decimal_digits : Nat → Int32) (e_t_numbers : Nat → Int64) (s_t_texts_length : Int32) (e_t_texts_characters : Nat → Int32) (e_t_ends : Nat → Int32) (x1 : Int32) (x2 : Int32) (r_ : Int32) (s_t_writer_fixed_end_o : Int32) (s_t_writer_fixed_first_o : Int32) (e_t_writer_fixed_limbs_o : Nat → Int32) (s_t_writer_decimal_count_o : Int32) (s_t_writer_decimal_point_o : Int32) (e_t_writer_decimal_digits_o : Nat → Int32) (s_t_texts_length_o : Int32) (e_t_texts_characters_o : Nat → Int32) (e_t_ends_o : Nat → Int32) (h : f_Table_writeScientific n_t_writer_fixed_limbs n_t_writer_decimal_digits n_t_numbers n_t_texts_characters n_t_ends s_t_rows s_t_columns s_t_lineLength s_t_writer_fixed_first s_t_writer_fixed_end e_t_writer_fixed_limbs s_t_writer_decimal_count s_t_writer_decimal_point e_t_writer_decimal_digits e_t_numbers s_t_texts_length e_t_texts_characters e_t_ends x1 x2 = some (r_, s_t_writer_fixed_end_o, s_t_writer_fixed_first_o, e_t_writer_fixed_limbs_o, s_t_writer_decimal_count_o, s_t_writer_decimal_point_o, e_t_writer_decimal_digits_o, s_t_texts_length_o, e_t_texts_characters_o, e_t_ends_o)) : xM l y_Table_writeScientific (Cond.code y_Table_writeScientific b_Table_writeScientific 6 (some .int) :: xG) rm_Table_writeScientific (dC, dI) x_cl x_nz [.ref a_t, .int x1, .int x2] [(c_t_writer_fixed_limbs, .int), (c_t_writer_decimal_digits, .byte), (c_t_numbers, .long), (c_t_texts_characters, .byte), (c_t_ends, .int)] [(a_t, .inr (4, [.ref a_t_writer, .ref a_t_numbers, .int s_t_rows, .int s_t_columns, .ref a_t_texts, .ref a_t_ends, .ref a_t_lines, .int s_t_lineLength])), (a_t_writer, .inr (6, [.ref a_t_writer_fixed, .ref a_t_writer_decimal, .ref a_t_writer_low, .ref a_t_writer_high])), (a_t_writer_fixed, .inr (1, [.ref a_t_writer_fixed_limbs, .int s_t_writer_fixed_first, .int s_t_writer_fixed_end])), (a_t_writer_fixed_limbs, .inl (c_t_writer_fixed_limbs, n_t_writer_fixed_limbs, .inl e_t_writer_fixed_limbs)), (a_t_writer_decimal, .inr (0, [.ref a_t_writer_decimal_digits, .int s_t_writer_decimal_count, .int s_t_writer_decimal_point])), (a_t_writer_decimal_digits, .inl (c_t_writer_decimal_digits, n_t_writer_decimal_digits, .inl e_t_writer_decimal_digits)), (a_t_numbers, .inl (c_t_numbers, n_t_numbers, .inr (.inl e_t_numbers))), (a_t_texts, .inr (5, [.ref a_t_texts_characters, .int s_t_texts_length])), (a_t_texts_characters, .inl (c_t_texts_characters, n_t_texts_characters, .inl e_t_texts_characters)), (a_t_ends, .inl (c_t_ends, n_t_ends, .inl e_t_ends))] (some (.int r_)) [(a_t, .inr (4, [.ref a_t_writer, .ref a_t_numbers, .int s_t_rows, .int s_t_columns, .ref a_t_texts, .ref a_t_ends, .ref a_t_lines, .int s_t_lineLength])), (a_t_writer, .inr (6, [.ref a_t_writer_fixed, .ref a_t_writer_decimal, .ref a_t_writer_low, .ref a_t_writer_high])), (a_t_writer_fixed, .inr (1, [.ref a_t_writer_fixed_limbs, .int s_t_writer_fixed_first_o, .int s_t_writer_fixed_end_o])), (a_t_writer_fixed_limbs, .inl (c_t_writer_fixed_limbs, n_t_writer_fixed_limbs, .inl e_t_writer_fixed_limbs_o)), (a_t_writer_decimal, .inr (0, [.ref a_t_writer_decimal_digits, .int s_t_writer_decimal_count_o, .int s_t_writer_decimal_point_o])), (a_t_writer_decimal_digits, .inl (c_t_writer_decimal_digits, n_t_writer_decimal_digits, .inl e_t_writer_decimal_digits_o)), (a_t_numbers, .inl (c_t_numbers, n_t_numbers, .inr (.inl e_t_numbers))), (a_t_texts, .inr (5, [.ref a_t_texts_characters, .int s_t_texts_length_o])), (a_t_texts_characters, .inl (c_t_texts_characters, n_t_texts_characters, .inl e_t_texts_characters_o)), (a_t_ends, .inl (c_t_ends, n_t_ends, .inl e_t_ends_o))] := by
  unfold f_Table_writeScientific at h
  refine xM.mkI (cc := b_Table_writeScientific) (maxL := 6)  (by decide +kernel) rfl (Nat.le_of_ble_eq_true rfl) ?_
  intro p e s m args below meth c A Q ls hx hb hml hown hts hNz hA hP hD hK hl hret
  have hS : va_S A s.heap s.heap [] := va_S.rf
  have hl : lv_has ls 6 [(0, .ref a_t), (1, .int x1), (2, .int x2)] := hl
  refine lv_iconst (v := 1) hx hb d_Table_writeScientific_0 (by decide) ?_
  refine lv_istore_n (lv' := [(3, .int (1 : Int32)), (0, .ref a_t), (1, .int x1), (2, .int x2)]) hx hb d_Table_writeScientific_1 rfl hl (by decide) rfl (fun ls hl => ?_)
  refine lv_iconst (v := 0) hx hb d_Table_writeScientific_2 (by decide) ?_
  refine lv_istore (lv' := [(4, .int (0 : Int32)), (3, .int (1 : Int32)), (0, .ref a_t), (1, .int x1), (2, .int x2)]) hx hb d_Table_writeScientific_3 hl (by decide) rfl (fun ls hl => ?_)
  refine lv_aload_n hx hb d_Table_writeScientific_5 rfl (lv_at hl 2 rfl) ?_
  refine va_get (D := (dC, dI)) (ci := 4) (v := .ref a_t_texts) (C := R_Table) (T := T_Table) (N := 8) hx hb hts in_Table hown hK hP 0 rfl rfl 4 (by decide) (hts _ g_148) (fun _ h9 => h9) rfl d_Table_writeScientific_6 ?_
  replace h := xob_s h
  obtain ⟨s_t_texts_length_1, hc_2, h⟩ := h
  try dsimp only at h
  refine xcV (As := []) (rest := []) (st1 := []) (wr := [(a_t, .inr (4, [.ref a_t_writer, .ref a_t_numbers, .int s_t_rows, .int s_t_columns, .ref a_t_texts, .ref a_t_ends, .ref a_t_lines, .int s_t_lineLength])), (a_t_writer, .inr (6, [.ref a_t_writer_fixed, .ref a_t_writer_decimal, .ref a_t_writer_low, .ref a_t_writer_high])), (a_t_writer_fixed, .inr (1, [.ref a_t_writer_fixed_limbs, .int s_t_writer_fixed_first, .int s_t_writer_fixed_end])), (a_t_writer_fixed_limbs, .inl (c_t_writer_fixed_limbs, n_t_writer_fixed_limbs, .inl e_t_writer_fixed_limbs)), (a_t_writer_decimal, .inr (0, [.ref a_t_writer_decimal_digits, .int s_t_writer_decimal_count, .int s_t_writer_decimal_point])), (a_t_writer_decimal_digits, .inl (c_t_writer_decimal_digits, n_t_writer_decimal_digits, .inl e_t_writer_decimal_digits)), (a_t_numbers, .inl (c_t_numbers, n_t_numbers, .inr (.inl e_t_numbers))), (a_t_texts_characters, .inl (c_t_texts_characters, n_t_texts_characters, .inl e_t_texts_characters)), (a_t_ends, .inl (c_t_ends, n_t_ends, .inl e_t_ends))]) ⟨hx, hb, hml, hown, hts⟩ (c_Text_clear l dC dI a_t_texts a_t_texts_characters s_t_texts_length s_t_texts_length_1 hc_2) (cwV 0 hts (xgoodV g_665 g_206 g_207 g_2 g_208) rfl rfl rfl (by decide +kernel) ⟨Nat.le_of_ble_eq_true rfl, Nat.le_of_ble_eq_true rfl⟩) hNz (ci := 5) (q0 := 7) rfl rfl hA hP hD hS hK [7] [0, 1, 2, 3, 4, 5, 6, 8, 9] [] rfl rfl rfl rfl (by decide) rfl rfl rfl rfl hl.1 (Nat.le_of_ble_eq_true rfl) ⟨Nat.zero_le _, Nat.zero_le _⟩ d_Table_writeScientific_9 (fun H locs hP hD hS => ?_)
  have hP : va_P (dC, dI) x_cl [(a_t, .inr (4, [.ref a_t_writer, .ref a_t_numbers, .int s_t_rows, .int s_t_columns, .ref a_t_texts, .ref a_t_ends, .ref a_t_lines, .int s_t_lineLength])), (a_t_writer, .inr (6, [.ref a_t_writer_fixed, .ref a_t_writer_decimal, .ref a_t_writer_low, .ref a_t_writer_high])), (a_t_writer_fixed, .inr (1, [.ref a_t_writer_fixed_limbs, .int s_t_writer_fixed_first, .int s_t_writer_fixed_end])), (a_t_writer_fixed_limbs, .inl (c_t_writer_fixed_limbs, n_t_writer_fixed_limbs, .inl e_t_writer_fixed_limbs)), (a_t_writer_decimal, .inr (0, [.ref a_t_writer_decimal_digits, .int s_t_writer_decimal_count, .int s_t_writer_decimal_point])), (a_t_writer_decimal_digits, .inl (c_t_writer_decimal_digits, n_t_writer_decimal_digits, .inl e_t_writer_decimal_digits)), (a_t_numbers, .inl (c_t_numbers, n_t_numbers, .inr (.inl e_t_numbers))), (a_t_texts_characters, .inl (c_t_texts_characters, n_t_texts_characters, .inl e_t_texts_characters)), (a_t_ends, .inl (c_t_ends, n_t_ends, .inl e_t_ends)), (a_t_texts, .inr (5, [.ref a_t_texts_characters, .int s_t_texts_length_1]))] H := hP
  have hD : va_D A [(a_t, .inr (4, [.ref a_t_writer, .ref a_t_numbers, .int s_t_rows, .int s_t_columns, .ref a_t_texts, .ref a_t_ends, .ref a_t_lines, .int s_t_lineLength])), (a_t_writer, .inr (6, [.ref a_t_writer_fixed, .ref a_t_writer_decimal, .ref a_t_writer_low, .ref a_t_writer_high])), (a_t_writer_fixed, .inr (1, [.ref a_t_writer_fixed_limbs, .int s_t_writer_fixed_first, .int s_t_writer_fixed_end])), (a_t_writer_fixed_limbs, .inl (c_t_writer_fixed_limbs, n_t_writer_fixed_limbs, .inl e_t_writer_fixed_limbs)), (a_t_writer_decimal, .inr (0, [.ref a_t_writer_decimal_digits, .int s_t_writer_decimal_count, .int s_t_writer_decimal_point])), (a_t_writer_decimal_digits, .inl (c_t_writer_decimal_digits, n_t_writer_decimal_digits, .inl e_t_writer_decimal_digits)), (a_t_numbers, .inl (c_t_numbers, n_t_numbers, .inr (.inl e_t_numbers))), (a_t_texts_characters, .inl (c_t_texts_characters, n_t_texts_characters, .inl e_t_texts_characters)), (a_t_ends, .inl (c_t_ends, n_t_ends, .inl e_t_ends)), (a_t_texts, .inr (5, [.ref a_t_texts_characters, .int s_t_texts_length_1]))] := hD
  refine lv_iconst (v := 0) hx hb d_Table_writeScientific_12 (by decide) ?_
  refine lv_istore (lv' := [(5, .int (0 : Int32)), (4, .int (0 : Int32)), (3, .int (1 : Int32)), (0, .ref a_t), (1, .int x1), (2, .int x2)]) hx hb d_Table_writeScientific_13 hl (by decide) rfl (fun ls hl => ?_)
  replace h := xob_s h
  obtain ⟨⟨x3_15, x4_16, s_t_writer_fixed_end_17, s_t_writer_fixed_first_18, e_t_writer_fixed_limbs_19, s_t_writer_decimal_count_20, s_t_writer_decimal_point_21, e_t_writer_decimal_digits_22, s_t_texts_length_23, e_t_texts_characters_24, e_t_ends_25⟩, hlp_26, h⟩ := h
  try dsimp only at h
  have hX_27 : ∀ (H : Heap) (locs : List Loc) (ls : Array Slot), va_P (dC, dI) x_cl [(a_t, .inr (4, [.ref a_t_writer, .ref a_t_numbers, .int s_t_rows, .int s_t_columns, .ref a_t_texts, .ref a_t_ends, .ref a_t_lines, .int s_t_lineLength])), (a_t_writer, .inr (6, [.ref a_t_writer_fixed, .ref a_t_writer_decimal, .ref a_t_writer_low, .ref a_t_writer_high])), (a_t_writer_fixed, .inr (1, [.ref a_t_writer_fixed_limbs, .int s_t_writer_fixed_first_18, .int s_t_writer_fixed_end_17])), (a_t_writer_fixed_limbs, .inl (c_t_writer_fixed_limbs, n_t_writer_fixed_limbs, .inl e_t_writer_fixed_limbs_19)), (a_t_writer_decimal, .inr (0, [.ref a_t_writer_decimal_digits, .int s_t_writer_decimal_count_20, .int s_t_writer_decimal_point_21])), (a_t_writer_decimal_digits, .inl (c_t_writer_decimal_digits, n_t_writer_decimal_digits, .inl e_t_writer_decimal_digits_22)), (a_t_numbers, .inl (c_t_numbers, n_t_numbers, .inr (.inl e_t_numbers))), (a_t_texts, .inr (5, [.ref a_t_texts_characters, .int s_t_texts_length_23])), (a_t_texts_characters, .inl (c_t_texts_characters, n_t_texts_characters, .inl e_t_texts_characters_24)), (a_t_ends, .inl (c_t_ends, n_t_ends, .inl e_t_ends_25))] H → va_D A [(a_t, .inr (4, [.ref a_t_writer, .ref a_t_numbers, .int s_t_rows, .int s_t_columns, .ref a_t_texts, .ref a_t_ends, .ref a_t_lines, .int s_t_lineLength])), (a_t_writer, .inr (6, [.ref a_t_writer_fixed, .ref a_t_writer_decimal, .ref a_t_writer_low, .ref a_t_writer_high])), (a_t_writer_fixed, .inr (1, [.ref a_t_writer_fixed_limbs, .int s_t_writer_fixed_first_18, .int s_t_writer_fixed_end_17])), (a_t_writer_fixed_limbs, .inl (c_t_writer_fixed_limbs, n_t_writer_fixed_limbs, .inl e_t_writer_fixed_limbs_19)), (a_t_writer_decimal, .inr (0, [.ref a_t_writer_decimal_digits, .int s_t_writer_decimal_count_20, .int s_t_writer_decimal_point_21])), (a_t_writer_decimal_digits, .inl (c_t_writer_decimal_digits, n_t_writer_decimal_digits, .inl e_t_writer_decimal_digits_22)), (a_t_numbers, .inl (c_t_numbers, n_t_numbers, .inr (.inl e_t_numbers))), (a_t_texts, .inr (5, [.ref a_t_texts_characters, .int s_t_texts_length_23])), (a_t_texts_characters, .inl (c_t_texts_characters, n_t_texts_characters, .inl e_t_texts_characters_24)), (a_t_ends, .inl (c_t_ends, n_t_ends, .inl e_t_ends_25))] → va_S A s.heap H locs → lv_has ls 6 [(3, .int x3_15), (4, .int x4_16)] → W p l e rm_Table_writeScientific s m args below meth c H locs 0 0 Q (F0 m 113 ls []) := by
    intro H locs ls hP hD hS hl
    refine lv_iload_n hx hb d_Table_writeScientific_113 rfl (lv_at hl 0 rfl) ?_
    refine lv_if_eq (tgt := 122) hx hb d_Table_writeScientific_114 (by decide) (fun c_29 => ?_) (fun c_29 => ?_)
    · rw [if_pos c_29] at h
      refine lv_iconst (v := -1) hx hb d_Table_writeScientific_122 (by decide) ?_
      replace h := Option.some.inj h
      replace h := Prod.mk.inj h
      obtain ⟨h1, h⟩ := h
      subst h1
      replace h := Prod.mk.inj h
      obtain ⟨h1, h⟩ := h
      subst h1
      replace h := Prod.mk.inj h
      obtain ⟨h1, h⟩ := h
      subst h1
      replace h := Prod.mk.inj h
      obtain ⟨h1, h⟩ := h
      subst h1
      replace h := Prod.mk.inj h
      obtain ⟨h1, h⟩ := h
      subst h1
      replace h := Prod.mk.inj h
      obtain ⟨h1, h⟩ := h
      subst h1
      replace h := Prod.mk.inj h
      obtain ⟨h1, h⟩ := h
      subst h1
      replace h := Prod.mk.inj h
      obtain ⟨h1, h⟩ := h
      subst h1
      replace h := Prod.mk.inj h
      obtain ⟨h1, h⟩ := h
      subst h1
      subst h
      exact hret _ _ hP hD hS _ _ d_Table_writeScientific_123
    · rw [if_neg c_29] at h
      refine lv_iload hx hb d_Table_writeScientific_117 (lv_at hl 1 rfl) ?_
      refine lv_goto (tgt := 123) hx hb d_Table_writeScientific_119 (by decide) ?_
      replace h := Option.some.inj h
      replace h := Prod.mk.inj h
      obtain ⟨h1, h⟩ := h
      subst h1
      replace h := Prod.mk.inj h
      obtain ⟨h1, h⟩ := h
      subst h1
      replace h := Prod.mk.inj h
      obtain ⟨h1, h⟩ := h
      subst h1
      replace h := Prod.mk.inj h
      obtain ⟨h1, h⟩ := h
      subst h1
      replace h := Prod.mk.inj h
      obtain ⟨h1, h⟩ := h
      subst h1
      replace h := Prod.mk.inj h
      obtain ⟨h1, h⟩ := h
      subst h1
      replace h := Prod.mk.inj h
      obtain ⟨h1, h⟩ := h
      subst h1
      replace h := Prod.mk.inj h
      obtain ⟨h1, h⟩ := h
      subst h1
      replace h := Prod.mk.inj h
      obtain ⟨h1, h⟩ := h
      subst h1
      subst h
      exact hret _ _ hP hD hS _ _ d_Table_writeScientific_123
  clear h
  have hL_28 : ∀ (n_ : Nat) (x3_3 : Int32) (x4_4 : Int32) (x5_5 : Int32) (s_t_writer_fixed_end_6 : Int32) (s_t_writer_fixed_first_7 : Int32) (e_t_writer_fixed_limbs_8 : Nat → Int32) (s_t_writer_decimal_count_9 : Int32) (s_t_writer_decimal_point_10 : Int32) (e_t_writer_decimal_digits_11 : Nat → Int32) (s_t_texts_length_12 : Int32) (e_t_texts_characters_13 : Nat → Int32) (e_t_ends_14 : Nat → Int32) (H : Heap) (locs : List Loc) (ls : Array Slot), lp_Table_writeScientific_15 x1 x2 s_t_rows s_t_columns s_t_lineLength e_t_numbers n_t_writer_fixed_limbs n_t_writer_decimal_digits n_t_numbers n_t_texts_characters n_t_ends n_ x3_3 x4_4 x5_5 s_t_writer_fixed_end_6 s_t_writer_fixed_first_7 e_t_writer_fixed_limbs_8 s_t_writer_decimal_count_9 s_t_writer_decimal_point_10 e_t_writer_decimal_digits_11 s_t_texts_length_12 e_t_texts_characters_13 e_t_ends_14 = some (x3_15, x4_16, s_t_writer_fixed_end_17, s_t_writer_fixed_first_18, e_t_writer_fixed_limbs_19, s_t_writer_decimal_count_20, s_t_writer_decimal_point_21, e_t_writer_decimal_digits_22, s_t_texts_length_23, e_t_texts_characters_24, e_t_ends_25) → va_P (dC, dI) x_cl [(a_t, .inr (4, [.ref a_t_writer, .ref a_t_numbers, .int s_t_rows, .int s_t_columns, .ref a_t_texts, .ref a_t_ends, .ref a_t_lines, .int s_t_lineLength])), (a_t_writer, .inr (6, [.ref a_t_writer_fixed, .ref a_t_writer_decimal, .ref a_t_writer_low, .ref a_t_writer_high])), (a_t_writer_fixed, .inr (1, [.ref a_t_writer_fixed_limbs, .int s_t_writer_fixed_first_7, .int s_t_writer_fixed_end_6])), (a_t_writer_fixed_limbs, .inl (c_t_writer_fixed_limbs, n_t_writer_fixed_limbs, .inl e_t_writer_fixed_limbs_8)), (a_t_writer_decimal, .inr (0, [.ref a_t_writer_decimal_digits, .int s_t_writer_decimal_count_9, .int s_t_writer_decimal_point_10])), (a_t_writer_decimal_digits, .inl (c_t_writer_decimal_digits, n_t_writer_decimal_digits, .inl e_t_writer_decimal_digits_11)), (a_t_numbers, .inl (c_t_numbers, n_t_numbers, .inr (.inl e_t_numbers))), (a_t_texts, .inr (5, [.ref a_t_texts_characters, .int s_t_texts_length_12])), (a_t_texts_characters, .inl (c_t_texts_characters, n_t_texts_characters, .inl e_t_texts_characters_13)), (a_t_ends, .inl (c_t_ends, n_t_ends, .inl e_t_ends_14))] H → va_D A [(a_t, .inr (4, [.ref a_t_writer, .ref a_t_numbers, .int s_t_rows, .int s_t_columns, .ref a_t_texts, .ref a_t_ends, .ref a_t_lines, .int s_t_lineLength])), (a_t_writer, .inr (6, [.ref a_t_writer_fixed, .ref a_t_writer_decimal, .ref a_t_writer_low, .ref a_t_writer_high])), (a_t_writer_fixed, .inr (1, [.ref a_t_writer_fixed_limbs, .int s_t_writer_fixed_first_7, .int s_t_writer_fixed_end_6])), (a_t_writer_fixed_limbs, .inl (c_t_writer_fixed_limbs, n_t_writer_fixed_limbs, .inl e_t_writer_fixed_limbs_8)), (a_t_writer_decimal, .inr (0, [.ref a_t_writer_decimal_digits, .int s_t_writer_decimal_count_9, .int s_t_writer_decimal_point_10])), (a_t_writer_decimal_digits, .inl (c_t_writer_decimal_digits, n_t_writer_decimal_digits, .inl e_t_writer_decimal_digits_11)), (a_t_numbers, .inl (c_t_numbers, n_t_numbers, .inr (.inl e_t_numbers))), (a_t_texts, .inr (5, [.ref a_t_texts_characters, .int s_t_texts_length_12])), (a_t_texts_characters, .inl (c_t_texts_characters, n_t_texts_characters, .inl e_t_texts_characters_13)), (a_t_ends, .inl (c_t_ends, n_t_ends, .inl e_t_ends_14))] → va_S A s.heap H locs → lv_has ls 6 [(0, .ref a_t), (1, .int x1), (2, .int x2), (3, .int x3_3), (4, .int x4_4), (5, .int x5_5)] → W p l e rm_Table_writeScientific s m args below meth c H locs 0 0 Q (F0 m 15 ls []) := by
    intro n_
    induction n_ with
    | zero => intro x3_3 x4_4 x5_5 s_t_writer_fixed_end_6 s_t_writer_fixed_first_7 e_t_writer_fixed_limbs_8 s_t_writer_decimal_count_9 s_t_writer_decimal_point_10 e_t_writer_decimal_digits_11 s_t_texts_length_12 e_t_texts_characters_13 e_t_ends_14 H locs ls h; cases h
    | succ n_ ih =>
      intro x3_3 x4_4 x5_5 s_t_writer_fixed_end_6 s_t_writer_fixed_first_7 e_t_writer_fixed_limbs_8 s_t_writer_decimal_count_9 s_t_writer_decimal_point_10 e_t_writer_decimal_digits_11 s_t_texts_length_12 e_t_texts_characters_13 e_t_ends_14 H locs ls h hP hD hS hl
      rw [lp_Table_writeScientific_15] at h
      refine lv_iload hx hb d_Table_writeScientific_15 (lv_at hl 5 rfl) ?_
      refine lv_aload_n hx hb d_Table_writeScientific_17 rfl (lv_at hl 0 rfl) ?_
      refine va_get (D := (dC, dI)) (ci := 4) (v := .int s_t_rows) (C := R_Table) (T := T_Table) (N := 8) hx hb hts in_Table hown hK hP 0 rfl rfl 2 (by decide) (hts _ g_146) (fun _ h9 => h9) rfl d_Table_writeScientific_18 ?_
      refine lv_icmp_ge (tgt := 113) hx hb d_Table_writeScientific_21 (by decide) (fun c_30 => ?_) (fun c_30 => ?_)
      · rw [if_pos c_30] at h
        replace h := Option.some.inj h
        replace h := Prod.mk.inj h
        obtain ⟨h1, h⟩ := h
        subst h1
        replace h := Prod.mk.inj h
        obtain ⟨h1, h⟩ := h
        subst h1
        replace h := Prod.mk.inj h
        obtain ⟨h1, h⟩ := h
        subst h1
        replace h := Prod.mk.inj h
        obtain ⟨h1, h⟩ := h
        subst h1
        replace h := Prod.mk.inj h
        obtain ⟨h1, h⟩ := h
        subst h1
        replace h := Prod.mk.inj h
        obtain ⟨h1, h⟩ := h
        subst h1
        replace h := Prod.mk.inj h
        obtain ⟨h1, h⟩ := h
        subst h1
        replace h := Prod.mk.inj h
        obtain ⟨h1, h⟩ := h
        subst h1
        replace h := Prod.mk.inj h
        obtain ⟨h1, h⟩ := h
        subst h1
        replace h := Prod.mk.inj h
        obtain ⟨h1, h⟩ := h
        subst h1
        subst h
        exact hX_27 _ _ _ hP hD hS (lv_sub hl [3, 4] rfl)
      · rw [if_neg c_30] at h
        refine lv_iload hx hb d_Table_writeScientific_24 (lv_at hl 5 rfl) ?_
        refine lv_aload_n hx hb d_Table_writeScientific_26 rfl (lv_at hl 0 rfl) ?_
        refine va_get (D := (dC, dI)) (ci := 4) (v := .ref a_t_ends) (C := R_Table) (T := T_Table) (N := 8) hx hb hts in_Table hown hK hP 0 rfl rfl 5 (by decide) (hts _ g_149) (fun _ h9 => h9) rfl d_Table_writeScientific_27 ?_
        refine va_alen (v := nI n_t_ends) hx hb hK hP 9 4 rfl rfl rfl d_Table_writeScientific_30 ?_
        refine lv_icmp_ge (tgt := 113) hx hb d_Table_writeScientific_31 (by decide) (fun c_31 => ?_) (fun c_31 => ?_)
        · rw [if_pos c_31] at h
          replace h := Option.some.inj h
          replace h := Prod.mk.inj h
          obtain ⟨h1, h⟩ := h
          subst h1
          replace h := Prod.mk.inj h
          obtain ⟨h1, h⟩ := h
          subst h1
          replace h := Prod.mk.inj h
          obtain ⟨h1, h⟩ := h
          subst h1
          replace h := Prod.mk.inj h
          obtain ⟨h1, h⟩ := h
          subst h1
          replace h := Prod.mk.inj h
          obtain ⟨h1, h⟩ := h
          subst h1
          replace h := Prod.mk.inj h
          obtain ⟨h1, h⟩ := h
          subst h1
          replace h := Prod.mk.inj h
          obtain ⟨h1, h⟩ := h
          subst h1
          replace h := Prod.mk.inj h
          obtain ⟨h1, h⟩ := h
          subst h1
          replace h := Prod.mk.inj h
          obtain ⟨h1, h⟩ := h
          subst h1
          replace h := Prod.mk.inj h
          obtain ⟨h1, h⟩ := h
          subst h1
          subst h
          exact hX_27 _ _ _ hP hD hS (lv_sub hl [3, 4] rfl)
        · rw [if_neg c_31] at h
          refine lv_aload_n hx hb d_Table_writeScientific_34 rfl (lv_at hl 0 rfl) ?_
          refine va_get (D := (dC, dI)) (ci := 4) (v := .ref a_t_writer) (C := R_Table) (T := T_Table) (N := 8) hx hb hts in_Table hown hK hP 0 rfl rfl 0 (by decide) (hts _ g_144) (fun _ h9 => h9) rfl d_Table_writeScientific_35 ?_
          refine lv_aload_n hx hb d_Table_writeScientific_38 rfl (lv_at hl 0 rfl) ?_
          refine va_get (D := (dC, dI)) (ci := 4) (v := .ref a_t_texts) (C := R_Table) (T := T_Table) (N := 8) hx hb hts in_Table hown hK hP 0 rfl rfl 4 (by decide) (hts _ g_148) (fun _ h9 => h9) rfl d_Table_writeScientific_39 ?_
          refine lv_aload_n hx hb d_Table_writeScientific_42 rfl (lv_at hl 0 rfl) ?_
          refine lv_iload hx hb d_Table_writeScientific_43 (lv_at hl 5 rfl) ?_
          refine lv_iload_n hx hb d_Table_writeScientific_45 rfl (lv_at hl 1 rfl) ?_
          replace h := xob_s h
          obtain ⟨r_32, hc_33, h⟩ := h
          try dsimp only at h
          refine xcV (As := [.int x5_5, .int x1]) (rest := [.ref a_t_texts, .ref a_t_writer]) (st1 := [.long r_32, .ref a_t_texts, .ref a_t_writer]) (wr := [(a_t_writer, .inr (6, [.ref a_t_writer_fixed, .ref a_t_writer_decimal, .ref a_t_writer_low, .ref a_t_writer_high])), (a_t_writer_fixed, .inr (1, [.ref a_t_writer_fixed_limbs, .int s_t_writer_fixed_first_7, .int s_t_writer_fixed_end_6])), (a_t_writer_fixed_limbs, .inl (c_t_writer_fixed_limbs, n_t_writer_fixed_limbs, .inl e_t_writer_fixed_limbs_8)), (a_t_writer_decimal, .inr (0, [.ref a_t_writer_decimal_digits, .int s_t_writer_decimal_count_9, .int s_t_writer_decimal_point_10])), (a_t_writer_decimal_digits, .inl (c_t_writer_decimal_digits, n_t_writer_decimal_digits, .inl e_t_writer_decimal_digits_11)), (a_t_texts, .inr (5, [.ref a_t_texts_characters, .int s_t_texts_length_12])), (a_t_texts_characters, .inl (c_t_texts_characters, n_t_texts_characters, .inl e_t_texts_characters_13)), (a_t_ends, .inl (c_t_ends, n_t_ends, .inl e_t_ends_14))]) ⟨hx, hb, hml, hown, hts⟩ (c_Table_number l dC dI a_t a_t_writer a_t_numbers a_t_texts a_t_ends a_t_lines c_t_numbers n_t_numbers s_t_rows s_t_columns s_t_lineLength e_t_numbers x5_5 x1 r_32 hc_33) (cwV 2 hts (xgoodV g_666 g_668 gp_17 g_9 g_669) rfl rfl rfl (by decide +kernel) ⟨Nat.le_of_ble_eq_true rfl, Nat.le_of_ble_eq_true rfl⟩) hNz (ci := 4) (q0 := 0) rfl rfl hA hP hD hS hK [0, 6] [1, 2, 3, 4, 5, 7, 8, 9] [2] rfl rfl rfl rfl (by decide) rfl rfl rfl rfl hl.1 (Nat.le_of_ble_eq_true rfl) ⟨Nat.zero_le _, Nat.zero_le _⟩ d_Table_writeScientific_46 (fun H locs hP hD hS => ?_)
          have hP : va_P (dC, dI) x_cl [(a_t_writer, .inr (6, [.ref a_t_writer_fixed, .ref a_t_writer_decimal, .ref a_t_writer_low, .ref a_t_writer_high])), (a_t_writer_fixed, .inr (1, [.ref a_t_writer_fixed_limbs, .int s_t_writer_fixed_first_7, .int s_t_writer_fixed_end_6])), (a_t_writer_fixed_limbs, .inl (c_t_writer_fixed_limbs, n_t_writer_fixed_limbs, .inl e_t_writer_fixed_limbs_8)), (a_t_writer_decimal, .inr (0, [.ref a_t_writer_decimal_digits, .int s_t_writer_decimal_count_9, .int s_t_writer_decimal_point_10])), (a_t_writer_decimal_digits, .inl (c_t_writer_decimal_digits, n_t_writer_decimal_digits, .inl e_t_writer_decimal_digits_11)), (a_t_texts, .inr (5, [.ref a_t_texts_characters, .int s_t_texts_length_12])), (a_t_texts_characters, .inl (c_t_texts_characters, n_t_texts_characters, .inl e_t_texts_characters_13)), (a_t_ends, .inl (c_t_ends, n_t_ends, .inl e_t_ends_14)), (a_t, .inr (4, [.ref a_t_writer, .ref a_t_numbers, .int s_t_rows, .int s_t_columns, .ref a_t_texts, .ref a_t_ends, .ref a_t_lines, .int s_t_lineLength])), (a_t_numbers, .inl (c_t_numbers, n_t_numbers, .inr (.inl e_t_numbers)))] H := hP
          have hD : va_D A [(a_t_writer, .inr (6, [.ref a_t_writer_fixed, .ref a_t_writer_decimal, .ref a_t_writer_low, .ref a_t_writer_high])), (a_t_writer_fixed, .inr (1, [.ref a_t_writer_fixed_limbs, .int s_t_writer_fixed_first_7, .int s_t_writer_fixed_end_6])), (a_t_writer_fixed_limbs, .inl (c_t_writer_fixed_limbs, n_t_writer_fixed_limbs, .inl e_t_writer_fixed_limbs_8)), (a_t_writer_decimal, .inr (0, [.ref a_t_writer_decimal_digits, .int s_t_writer_decimal_count_9, .int s_t_writer_decimal_point_10])), (a_t_writer_decimal_digits, .inl (c_t_writer_decimal_digits, n_t_writer_decimal_digits, .inl e_t_writer_decimal_digits_11)), (a_t_texts, .inr (5, [.ref a_t_texts_characters, .int s_t_texts_length_12])), (a_t_texts_characters, .inl (c_t_texts_characters, n_t_texts_characters, .inl e_t_texts_characters_13)), (a_t_ends, .inl (c_t_ends, n_t_ends, .inl e_t_ends_14)), (a_t, .inr (4, [.ref a_t_writer, .ref a_t_numbers, .int s_t_rows, .int s_t_columns, .ref a_t_texts, .ref a_t_ends, .ref a_t_lines, .int s_t_lineLength])), (a_t_numbers, .inl (c_t_numbers, n_t_numbers, .inr (.inl e_t_numbers)))] := hD
          refine lv_iload_n hx hb d_Table_writeScientific_49 rfl (lv_at hl 2 rfl) ?_
          replace h := xob_s h
          obtain ⟨⟨s_t_writer_fixed_end_34, s_t_writer_fixed_first_35, e_t_writer_fixed_limbs_36, s_t_writer_decimal_count_37, s_t_writer_decimal_point_38, e_t_writer_decimal_digits_39, s_t_texts_length_40, e_t_texts_characters_41⟩, hc_42, h⟩ := h
          try dsimp only at h
          refine xcV (As := [.ref a_t_texts, .long r_32, .int x2]) (rest := []) (st1 := []) (wr := [(a_t_ends, .inl (c_t_ends, n_t_ends, .inl e_t_ends_14)), (a_t, .inr (4, [.ref a_t_writer, .ref a_t_numbers, .int s_t_rows, .int s_t_columns, .ref a_t_texts, .ref a_t_ends, .ref a_t_lines, .int s_t_lineLength])), (a_t_numbers, .inl (c_t_numbers, n_t_numbers, .inr (.inl e_t_numbers)))]) ⟨hx, hb, hml, hown, hts⟩ (c_Writer_addScientific l dC dI a_t_writer a_t_texts a_t_writer_fixed a_t_writer_decimal a_t_writer_low a_t_writer_high a_t_writer_fixed_limbs a_t_writer_decimal_digits a_t_texts_characters c_t_writer_fixed_limbs c_t_writer_decimal_digits c_t_texts_characters n_t_writer_fixed_limbs n_t_writer_decimal_digits n_t_texts_characters s_t_writer_fixed_first_7 s_t_writer_fixed_end_6 e_t_writer_fixed_limbs_8 s_t_writer_decimal_count_9 s_t_writer_decimal_point_10 e_t_writer_decimal_digits_11 s_t_texts_length_12 e_t_texts_characters_13 r_32 x2 s_t_writer_fixed_end_34 s_t_writer_fixed_first_35 e_t_writer_fixed_limbs_36 s_t_writer_decimal_count_37 s_t_writer_decimal_point_38 e_t_writer_decimal_digits_39 s_t_texts_length_40 e_t_texts_characters_41 hc_42) (cwV 3 hts (xgoodV g_670 g_671 g_672 g_8 g_673) rfl rfl rfl (by decide +kernel) ⟨Nat.le_of_ble_eq_true rfl, Nat.le_of_ble_eq_true rfl⟩) hNz (ci := 6) (q0 := 0) rfl rfl hA hP hD hS hK [0, 1, 2, 3, 4, 5, 6] [7, 8, 9] [0, 1, 3] rfl rfl rfl rfl (by decide) rfl rfl rfl rfl hl.1 (Nat.le_of_ble_eq_true rfl) ⟨Nat.zero_le _, Nat.zero_le _⟩ d_Table_writeScientific_50 (fun H locs hP hD hS => ?_)
          have hP : va_P (dC, dI) x_cl [(a_t_ends, .inl (c_t_ends, n_t_ends, .inl e_t_ends_14)), (a_t, .inr (4, [.ref a_t_writer, .ref a_t_numbers, .int s_t_rows, .int s_t_columns, .ref a_t_texts, .ref a_t_ends, .ref a_t_lines, .int s_t_lineLength])), (a_t_numbers, .inl (c_t_numbers, n_t_numbers, .inr (.inl e_t_numbers))), (a_t_writer, .inr (6, [.ref a_t_writer_fixed, .ref a_t_writer_decimal, .ref a_t_writer_low, .ref a_t_writer_high])), (a_t_writer_fixed, .inr (1, [.ref a_t_writer_fixed_limbs, .int s_t_writer_fixed_first_35, .int s_t_writer_fixed_end_34])), (a_t_writer_fixed_limbs, .inl (c_t_writer_fixed_limbs, n_t_writer_fixed_limbs, .inl e_t_writer_fixed_limbs_36)), (a_t_writer_decimal, .inr (0, [.ref a_t_writer_decimal_digits, .int s_t_writer_decimal_count_37, .int s_t_writer_decimal_point_38])), (a_t_writer_decimal_digits, .inl (c_t_writer_decimal_digits, n_t_writer_decimal_digits, .inl e_t_writer_decimal_digits_39)), (a_t_texts, .inr (5, [.ref a_t_texts_characters, .int s_t_texts_length_40])), (a_t_texts_characters, .inl (c_t_texts_characters, n_t_texts_characters, .inl e_t_texts_characters_41))] H := hP
          have hD : va_D A [(a_t_ends, .inl (c_t_ends, n_t_ends, .inl e_t_ends_14)), (a_t, .inr (4, [.ref a_t_writer, .ref a_t_numbers, .int s_t_rows, .int s_t_columns, .ref a_t_texts, .ref a_t_ends, .ref a_t_lines, .int s_t_lineLength])), (a_t_numbers, .inl (c_t_numbers, n_t_numbers, .inr (.inl e_t_numbers))), (a_t_writer, .inr (6, [.ref a_t_writer_fixed, .ref a_t_writer_decimal, .ref a_t_writer_low, .ref a_t_writer_high])), (a_t_writer_fixed, .inr (1, [.ref a_t_writer_fixed_limbs, .int s_t_writer_fixed_first_35, .int s_t_writer_fixed_end_34])), (a_t_writer_fixed_limbs, .inl (c_t_writer_fixed_limbs, n_t_writer_fixed_limbs, .inl e_t_writer_fixed_limbs_36)), (a_t_writer_decimal, .inr (0, [.ref a_t_writer_decimal_digits, .int s_t_writer_decimal_count_37, .int s_t_writer_decimal_point_38])), (a_t_writer_decimal_digits, .inl (c_t_writer_decimal_digits, n_t_writer_decimal_digits, .inl e_t_writer_decimal_digits_39)), (a_t_texts, .inr (5, [.ref a_t_texts_characters, .int s_t_texts_length_40])), (a_t_texts_characters, .inl (c_t_texts_characters, n_t_texts_characters, .inl e_t_texts_characters_41))] := hD
          refine lv_aload_n hx hb d_Table_writeScientific_53 rfl (lv_at hl 0 rfl) ?_
          refine va_get (D := (dC, dI)) (ci := 4) (v := .ref a_t_ends) (C := R_Table) (T := T_Table) (N := 8) hx hb hts in_Table hown hK hP 1 rfl rfl 5 (by decide) (hts _ g_149) (fun _ h9 => h9) rfl d_Table_writeScientific_54 ?_
          refine lv_iload hx hb d_Table_writeScientific_57 (lv_at hl 5 rfl) ?_
          refine lv_aload_n hx hb d_Table_writeScientific_59 rfl (lv_at hl 0 rfl) ?_
          refine va_get (D := (dC, dI)) (ci := 4) (v := .ref a_t_texts) (C := R_Table) (T := T_Table) (N := 8) hx hb hts in_Table hown hK hP 1 rfl rfl 4 (by decide) (hts _ g_148) (fun _ h9 => h9) rfl d_Table_writeScientific_60 ?_
          replace h := xob_s h
          obtain ⟨r_43, hc_44, h⟩ := h
          try dsimp only at h
          refine xcV (As := []) (rest := [.int x5_5, .ref a_t_ends]) (st1 := [.int r_43, .int x5_5, .ref a_t_ends]) (wr := [(a_t_ends, .inl (c_t_ends, n_t_ends, .inl e_t_ends_14)), (a_t, .inr (4, [.ref a_t_writer, .ref a_t_numbers, .int s_t_rows, .int s_t_columns, .ref a_t_texts, .ref a_t_ends, .ref a_t_lines, .int s_t_lineLength])), (a_t_numbers, .inl (c_t_numbers, n_t_numbers, .inr (.inl e_t_numbers))), (a_t_writer, .inr (6, [.ref a_t_writer_fixed, .ref a_t_writer_decimal, .ref a_t_writer_low, .ref a_t_writer_high])), (a_t_writer_fixed, .inr (1, [.ref a_t_writer_fixed_limbs, .int s_t_writer_fixed_first_35, .int s_t_writer_fixed_end_34])), (a_t_writer_fixed_limbs, .inl (c_t_writer_fixed_limbs, n_t_writer_fixed_limbs, .inl e_t_writer_fixed_limbs_36)), (a_t_writer_decimal, .inr (0, [.ref a_t_writer_decimal_digits, .int s_t_writer_decimal_count_37, .int s_t_writer_decimal_point_38])), (a_t_writer_decimal_digits, .inl (c_t_writer_decimal_digits, n_t_writer_decimal_digits, .inl e_t_writer_decimal_digits_39)), (a_t_texts_characters, .inl (c_t_texts_characters, n_t_texts_characters, .inl e_t_texts_characters_41))]) ⟨hx, hb, hml, hown, hts⟩ (c_Text_length l dC dI a_t_texts a_t_texts_characters s_t_texts_length_40 r_43 hc_44) (cwV 0 hts (xgoodV g_674 g_191 g_192 g_2 g_193) rfl rfl rfl (by decide +kernel) ⟨Nat.le_of_ble_eq_true rfl, Nat.le_of_ble_eq_true rfl⟩) hNz (ci := 5) (q0 := 8) rfl rfl hA hP hD hS hK [8] [0, 1, 2, 3, 4, 5, 6, 7, 9] [] rfl rfl rfl rfl (by decide) rfl rfl rfl rfl hl.1 (Nat.le_of_ble_eq_true rfl) ⟨Nat.zero_le _, Nat.zero_le _⟩ d_Table_writeScientific_63 (fun H locs hP hD hS => ?_)
          have hP : va_P (dC, dI) x_cl [(a_t_ends, .inl (c_t_ends, n_t_ends, .inl e_t_ends_14)), (a_t, .inr (4, [.ref a_t_writer, .ref a_t_numbers, .int s_t_rows, .int s_t_columns, .ref a_t_texts, .ref a_t_ends, .ref a_t_lines, .int s_t_lineLength])), (a_t_numbers, .inl (c_t_numbers, n_t_numbers, .inr (.inl e_t_numbers))), (a_t_writer, .inr (6, [.ref a_t_writer_fixed, .ref a_t_writer_decimal, .ref a_t_writer_low, .ref a_t_writer_high])), (a_t_writer_fixed, .inr (1, [.ref a_t_writer_fixed_limbs, .int s_t_writer_fixed_first_35, .int s_t_writer_fixed_end_34])), (a_t_writer_fixed_limbs, .inl (c_t_writer_fixed_limbs, n_t_writer_fixed_limbs, .inl e_t_writer_fixed_limbs_36)), (a_t_writer_decimal, .inr (0, [.ref a_t_writer_decimal_digits, .int s_t_writer_decimal_count_37, .int s_t_writer_decimal_point_38])), (a_t_writer_decimal_digits, .inl (c_t_writer_decimal_digits, n_t_writer_decimal_digits, .inl e_t_writer_decimal_digits_39)), (a_t_texts_characters, .inl (c_t_texts_characters, n_t_texts_characters, .inl e_t_texts_characters_41)), (a_t_texts, .inr (5, [.ref a_t_texts_characters, .int s_t_texts_length_40]))] H := hP
          have hD : va_D A [(a_t_ends, .inl (c_t_ends, n_t_ends, .inl e_t_ends_14)), (a_t, .inr (4, [.ref a_t_writer, .ref a_t_numbers, .int s_t_rows, .int s_t_columns, .ref a_t_texts, .ref a_t_ends, .ref a_t_lines, .int s_t_lineLength])), (a_t_numbers, .inl (c_t_numbers, n_t_numbers, .inr (.inl e_t_numbers))), (a_t_writer, .inr (6, [.ref a_t_writer_fixed, .ref a_t_writer_decimal, .ref a_t_writer_low, .ref a_t_writer_high])), (a_t_writer_fixed, .inr (1, [.ref a_t_writer_fixed_limbs, .int s_t_writer_fixed_first_35, .int s_t_writer_fixed_end_34])), (a_t_writer_fixed_limbs, .inl (c_t_writer_fixed_limbs, n_t_writer_fixed_limbs, .inl e_t_writer_fixed_limbs_36)), (a_t_writer_decimal, .inr (0, [.ref a_t_writer_decimal_digits, .int s_t_writer_decimal_count_37, .int s_t_writer_decimal_point_38])), (a_t_writer_decimal_digits, .inl (c_t_writer_decimal_digits, n_t_writer_decimal_digits, .inl e_t_writer_decimal_digits_39)), (a_t_texts_characters, .inl (c_t_texts_characters, n_t_texts_characters, .inl e_t_texts_characters_41)), (a_t_texts, .inr (5, [.ref a_t_texts_characters, .int s_t_texts_length_40]))] := hD
          replace h := xg h
          obtain ⟨hg_45, h⟩ := h
          refine va_iast hx hb hK hP hD hS 0 4 rfl rfl hg_45 d_Table_writeScientific_66 (fun H locs hP hD hS => ?_)
          have hP : va_P (dC, dI) x_cl [(a_t_ends, .inl (c_t_ends, n_t_ends, .inl ((upd e_t_ends_14 x5_5.toNatClampNeg r_43)))), (a_t, .inr (4, [.ref a_t_writer, .ref a_t_numbers, .int s_t_rows, .int s_t_columns, .ref a_t_texts, .ref a_t_ends, .ref a_t_lines, .int s_t_lineLength])), (a_t_numbers, .inl (c_t_numbers, n_t_numbers, .inr (.inl e_t_numbers))), (a_t_writer, .inr (6, [.ref a_t_writer_fixed, .ref a_t_writer_decimal, .ref a_t_writer_low, .ref a_t_writer_high])), (a_t_writer_fixed, .inr (1, [.ref a_t_writer_fixed_limbs, .int s_t_writer_fixed_first_35, .int s_t_writer_fixed_end_34])), (a_t_writer_fixed_limbs, .inl (c_t_writer_fixed_limbs, n_t_writer_fixed_limbs, .inl e_t_writer_fixed_limbs_36)), (a_t_writer_decimal, .inr (0, [.ref a_t_writer_decimal_digits, .int s_t_writer_decimal_count_37, .int s_t_writer_decimal_point_38])), (a_t_writer_decimal_digits, .inl (c_t_writer_decimal_digits, n_t_writer_decimal_digits, .inl e_t_writer_decimal_digits_39)), (a_t_texts_characters, .inl (c_t_texts_characters, n_t_texts_characters, .inl e_t_texts_characters_41)), (a_t_texts, .inr (5, [.ref a_t_texts_characters, .int s_t_texts_length_40]))] H := hP
          have hD : va_D A [(a_t_ends, .inl (c_t_ends, n_t_ends, .inl ((upd e_t_ends_14 x5_5.toNatClampNeg r_43)))), (a_t, .inr (4, [.ref a_t_writer, .ref a_t_numbers, .int s_t_rows, .int s_t_columns, .ref a_t_texts, .ref a_t_ends, .ref a_t_lines, .int s_t_lineLength])), (a_t_numbers, .inl (c_t_numbers, n_t_numbers, .inr (.inl e_t_numbers))), (a_t_writer, .inr (6, [.ref a_t_writer_fixed, .ref a_t_writer_decimal, .ref a_t_writer_low, .ref a_t_writer_high])), (a_t_writer_fixed, .inr (1, [.ref a_t_writer_fixed_limbs, .int s_t_writer_fixed_first_35, .int s_t_writer_fixed_end_34])), (a_t_writer_fixed_limbs, .inl (c_t_writer_fixed_limbs, n_t_writer_fixed_limbs, .inl e_t_writer_fixed_limbs_36)), (a_t_writer_decimal, .inr (0, [.ref a_t_writer_decimal_digits, .int s_t_writer_decimal_count_37, .int s_t_writer_decimal_point_38])), (a_t_writer_decimal_digits, .inl (c_t_writer_decimal_digits, n_t_writer_decimal_digits, .inl e_t_writer_decimal_digits_39)), (a_t_texts_characters, .inl (c_t_texts_characters, n_t_texts_characters, .inl e_t_texts_characters_41)), (a_t_texts, .inr (5, [.ref a_t_texts_characters, .int s_t_texts_length_40]))] := hD
          refine lv_iload_n hx hb d_Table_writeScientific_67 rfl (lv_at hl 3 rfl) ?_
          replace h := xob_s h
          obtain ⟨z_46, hj_47, h⟩ := h
          try dsimp only at h
          have hJ_48 : ∀ (H : Heap) (locs : List Loc) (ls : Array Slot), va_P (dC, dI) x_cl [(a_t, .inr (4, [.ref a_t_writer, .ref a_t_numbers, .int s_t_rows, .int s_t_columns, .ref a_t_texts, .ref a_t_ends, .ref a_t_lines, .int s_t_lineLength])), (a_t_writer, .inr (6, [.ref a_t_writer_fixed, .ref a_t_writer_decimal, .ref a_t_writer_low, .ref a_t_writer_high])), (a_t_writer_fixed, .inr (1, [.ref a_t_writer_fixed_limbs, .int s_t_writer_fixed_first_35, .int s_t_writer_fixed_end_34])), (a_t_writer_fixed_limbs, .inl (c_t_writer_fixed_limbs, n_t_writer_fixed_limbs, .inl e_t_writer_fixed_limbs_36)), (a_t_writer_decimal, .inr (0, [.ref a_t_writer_decimal_digits, .int s_t_writer_decimal_count_37, .int s_t_writer_decimal_point_38])), (a_t_writer_decimal_digits, .inl (c_t_writer_decimal_digits, n_t_writer_decimal_digits, .inl e_t_writer_decimal_digits_39)), (a_t_numbers, .inl (c_t_numbers, n_t_numbers, .inr (.inl e_t_numbers))), (a_t_texts, .inr (5, [.ref a_t_texts_characters, .int s_t_texts_length_40])), (a_t_texts_characters, .inl (c_t_texts_characters, n_t_texts_characters, .inl e_t_texts_characters_41)), (a_t_ends, .inl (c_t_ends, n_t_ends, .inl ((upd e_t_ends_14 x5_5.toNatClampNeg r_43))))] H → va_D A [(a_t, .inr (4, [.ref a_t_writer, .ref a_t_numbers, .int s_t_rows, .int s_t_columns, .ref a_t_texts, .ref a_t_ends, .ref a_t_lines, .int s_t_lineLength])), (a_t_writer, .inr (6, [.ref a_t_writer_fixed, .ref a_t_writer_decimal, .ref a_t_writer_low, .ref a_t_writer_high])), (a_t_writer_fixed, .inr (1, [.ref a_t_writer_fixed_limbs, .int s_t_writer_fixed_first_35, .int s_t_writer_fixed_end_34])), (a_t_writer_fixed_limbs, .inl (c_t_writer_fixed_limbs, n_t_writer_fixed_limbs, .inl e_t_writer_fixed_limbs_36)), (a_t_writer_decimal, .inr (0, [.ref a_t_writer_decimal_digits, .int s_t_writer_decimal_count_37, .int s_t_writer_decimal_point_38])), (a_t_writer_decimal_digits, .inl (c_t_writer_decimal_digits, n_t_writer_decimal_digits, .inl e_t_writer_decimal_digits_39)), (a_t_numbers, .inl (c_t_numbers, n_t_numbers, .inr (.inl e_t_numbers))), (a_t_texts, .inr (5, [.ref a_t_texts_characters, .int s_t_texts_length_40])), (a_t_texts_characters, .inl (c_t_texts_characters, n_t_texts_characters, .inl e_t_texts_characters_41)), (a_t_ends, .inl (c_t_ends, n_t_ends, .inl ((upd e_t_ends_14 x5_5.toNatClampNeg r_43))))] → va_S A s.heap H locs → lv_has ls 6 [(0, .ref a_t), (1, .int x1), (2, .int x2), (4, .int x4_4), (5, .int x5_5)] → W p l e rm_Table_writeScientific s m args below meth c H locs 0 0 Q (F0 m 89 ls [.int z_46]) := by
            intro H locs ls hP hD hS hl
            refine lv_istore_n (lv' := [(3, .int z_46), (0, .ref a_t), (1, .int x1), (2, .int x2), (4, .int x4_4), (5, .int x5_5)]) hx hb d_Table_writeScientific_89 rfl hl (by decide) rfl (fun ls hl => ?_)
            refine lv_iload hx hb d_Table_writeScientific_90 (lv_at hl 4 rfl) ?_
            refine lv_aload_n hx hb d_Table_writeScientific_92 rfl (lv_at hl 1 rfl) ?_
            refine va_get (D := (dC, dI)) (ci := 4) (v := .ref a_t_writer) (C := R_Table) (T := T_Table) (N := 8) hx hb hts in_Table hown hK hP 0 rfl rfl 0 (by decide) (hts _ g_144) (fun _ h9 => h9) rfl d_Table_writeScientific_93 ?_
            replace h := xob_s h
            obtain ⟨⟨⟩, hc_49, h⟩ := h
            try dsimp only at h
            refine xcV (As := []) (rest := [.int x4_4]) (st1 := [.ref a_t_writer_decimal, .int x4_4]) (wr := [(a_t, .inr (4, [.ref a_t_writer, .ref a_t_numbers, .int s_t_rows, .int s_t_columns, .ref a_t_texts, .ref a_t_ends, .ref a_t_lines, .int s_t_lineLength])), (a_t_writer_fixed, .inr (1, [.ref a_t_writer_fixed_limbs, .int s_t_writer_fixed_first_35, .int s_t_writer_fixed_end_34])), (a_t_writer_fixed_limbs, .inl (c_t_writer_fixed_limbs, n_t_writer_fixed_limbs, .inl e_t_writer_fixed_limbs_36)), (a_t_writer_decimal, .inr (0, [.ref a_t_writer_decimal_digits, .int s_t_writer_decimal_count_37, .int s_t_writer_decimal_point_38])), (a_t_writer_decimal_digits, .inl (c_t_writer_decimal_digits, n_t_writer_decimal_digits, .inl e_t_writer_decimal_digits_39)), (a_t_numbers, .inl (c_t_numbers, n_t_numbers, .inr (.inl e_t_numbers))), (a_t_texts, .inr (5, [.ref a_t_texts_characters, .int s_t_texts_length_40])), (a_t_texts_characters, .inl (c_t_texts_characters, n_t_texts_characters, .inl e_t_texts_characters_41)), (a_t_ends, .inl (c_t_ends, n_t_ends, .inl ((upd e_t_ends_14 x5_5.toNatClampNeg r_43))))]) ⟨hx, hb, hml, hown, hts⟩ (c_Writer_decimal l dC dI a_t_writer a_t_writer_fixed a_t_writer_decimal a_t_writer_low a_t_writer_high hc_49) (cwV 0 hts (xgoodV g_675 g_676 g_677 g_8 g_678) rfl rfl rfl (by decide +kernel) ⟨Nat.le_of_ble_eq_true rfl, Nat.le_of_ble_eq_true rfl⟩) hNz (ci := 6) (q0 := 1) rfl rfl hA hP hD hS hK [1] [0, 2, 3, 4, 5, 6, 7, 8, 9] [] rfl rfl rfl rfl (by decide) rfl rfl rfl rfl hl.1 (Nat.le_of_ble_eq_true rfl) ⟨Nat.zero_le _, Nat.zero_le _⟩ d_Table_writeScientific_96 (fun H locs hP hD hS => ?_)
            have hP : va_P (dC, dI) x_cl [(a_t, .inr (4, [.ref a_t_writer, .ref a_t_numbers, .int s_t_rows, .int s_t_columns, .ref a_t_texts, .ref a_t_ends, .ref a_t_lines, .int s_t_lineLength])), (a_t_writer_fixed, .inr (1, [.ref a_t_writer_fixed_limbs, .int s_t_writer_fixed_first_35, .int s_t_writer_fixed_end_34])), (a_t_writer_fixed_limbs, .inl (c_t_writer_fixed_limbs, n_t_writer_fixed_limbs, .inl e_t_writer_fixed_limbs_36)), (a_t_writer_decimal, .inr (0, [.ref a_t_writer_decimal_digits, .int s_t_writer_decimal_count_37, .int s_t_writer_decimal_point_38])), (a_t_writer_decimal_digits, .inl (c_t_writer_decimal_digits, n_t_writer_decimal_digits, .inl e_t_writer_decimal_digits_39)), (a_t_numbers, .inl (c_t_numbers, n_t_numbers, .inr (.inl e_t_numbers))), (a_t_texts, .inr (5, [.ref a_t_texts_characters, .int s_t_texts_length_40])), (a_t_texts_characters, .inl (c_t_texts_characters, n_t_texts_characters, .inl e_t_texts_characters_41)), (a_t_ends, .inl (c_t_ends, n_t_ends, .inl ((upd e_t_ends_14 x5_5.toNatClampNeg r_43)))), (a_t_writer, .inr (6, [.ref a_t_writer_fixed, .ref a_t_writer_decimal, .ref a_t_writer_low, .ref a_t_writer_high]))] H := hP
            have hD : va_D A [(a_t, .inr (4, [.ref a_t_writer, .ref a_t_numbers, .int s_t_rows, .int s_t_columns, .ref a_t_texts, .ref a_t_ends, .ref a_t_lines, .int s_t_lineLength])), (a_t_writer_fixed, .inr (1, [.ref a_t_writer_fixed_limbs, .int s_t_writer_fixed_first_35, .int s_t_writer_fixed_end_34])), (a_t_writer_fixed_limbs, .inl (c_t_writer_fixed_limbs, n_t_writer_fixed_limbs, .inl e_t_writer_fixed_limbs_36)), (a_t_writer_decimal, .inr (0, [.ref a_t_writer_decimal_digits, .int s_t_writer_decimal_count_37, .int s_t_writer_decimal_point_38])), (a_t_writer_decimal_digits, .inl (c_t_writer_decimal_digits, n_t_writer_decimal_digits, .inl e_t_writer_decimal_digits_39)), (a_t_numbers, .inl (c_t_numbers, n_t_numbers, .inr (.inl e_t_numbers))), (a_t_texts, .inr (5, [.ref a_t_texts_characters, .int s_t_texts_length_40])), (a_t_texts_characters, .inl (c_t_texts_characters, n_t_texts_characters, .inl e_t_texts_characters_41)), (a_t_ends, .inl (c_t_ends, n_t_ends, .inl ((upd e_t_ends_14 x5_5.toNatClampNeg r_43)))), (a_t_writer, .inr (6, [.ref a_t_writer_fixed, .ref a_t_writer_decimal, .ref a_t_writer_low, .ref a_t_writer_high]))] := hD
            replace h := xob_s h
            obtain ⟨r_50, hc_51, h⟩ := h
            try dsimp only at h
            refine xcV (As := []) (rest := [.int x4_4]) (st1 := [.int r_50, .int x4_4]) (wr := [(a_t, .inr (4, [.ref a_t_writer, .ref a_t_numbers, .int s_t_rows, .int s_t_columns, .ref a_t_texts, .ref a_t_ends, .ref a_t_lines, .int s_t_lineLength])), (a_t_writer_fixed, .inr (1, [.ref a_t_writer_fixed_limbs, .int s_t_writer_fixed_first_35, .int s_t_writer_fixed_end_34])), (a_t_writer_fixed_limbs, .inl (c_t_writer_fixed_limbs, n_t_writer_fixed_limbs, .inl e_t_writer_fixed_limbs_36)), (a_t_writer_decimal_digits, .inl (c_t_writer_decimal_digits, n_t_writer_decimal_digits, .inl e_t_writer_decimal_digits_39)), (a_t_numbers, .inl (c_t_numbers, n_t_numbers, .inr (.inl e_t_numbers))), (a_t_texts, .inr (5, [.ref a_t_texts_characters, .int s_t_texts_length_40])), (a_t_texts_characters, .inl (c_t_texts_characters, n_t_texts_characters, .inl e_t_texts_characters_41)), (a_t_ends, .inl (c_t_ends, n_t_ends, .inl ((upd e_t_ends_14 x5_5.toNatClampNeg r_43)))), (a_t_writer, .inr (6, [.ref a_t_writer_fixed, .ref a_t_writer_decimal, .ref a_t_writer_low, .ref a_t_writer_high]))]) ⟨hx, hb, hml, hown, hts⟩ (c_Decimal_leastPlaces l dC dI a_t_writer_decimal a_t_writer_decimal_digits s_t_writer_decimal_count_37 s_t_writer_decimal_point_38 r_50 hc_51) (cwV 0 hts (xgoodV g_680 g_403 g_404 g_6 g_405) rfl rfl rfl (by decide +kernel) ⟨Nat.le_of_ble_eq_true rfl, Nat.le_of_ble_eq_true rfl⟩) hNz (ci := 0) (q0 := 3) rfl rfl hA hP hD hS hK [3] [0, 1, 2, 4, 5, 6, 7, 8, 9] [] rfl rfl rfl rfl (by decide) rfl rfl rfl rfl hl.1 (Nat.le_of_ble_eq_true rfl) ⟨Nat.zero_le _, Nat.zero_le _⟩ d_Table_writeScientific_99 (fun H locs hP hD hS => ?_)
            have hP : va_P (dC, dI) x_cl [(a_t, .inr (4, [.ref a_t_writer, .ref a_t_numbers, .int s_t_rows, .int s_t_columns, .ref a_t_texts, .ref a_t_ends, .ref a_t_lines, .int s_t_lineLength])), (a_t_writer_fixed, .inr (1, [.ref a_t_writer_fixed_limbs, .int s_t_writer_fixed_first_35, .int s_t_writer_fixed_end_34])), (a_t_writer_fixed_limbs, .inl (c_t_writer_fixed_limbs, n_t_writer_fixed_limbs, .inl e_t_writer_fixed_limbs_36)), (a_t_writer_decimal_digits, .inl (c_t_writer_decimal_digits, n_t_writer_decimal_digits, .inl e_t_writer_decimal_digits_39)), (a_t_numbers, .inl (c_t_numbers, n_t_numbers, .inr (.inl e_t_numbers))), (a_t_texts, .inr (5, [.ref a_t_texts_characters, .int s_t_texts_length_40])), (a_t_texts_characters, .inl (c_t_texts_characters, n_t_texts_characters, .inl e_t_texts_characters_41)), (a_t_ends, .inl (c_t_ends, n_t_ends, .inl ((upd e_t_ends_14 x5_5.toNatClampNeg r_43)))), (a_t_writer, .inr (6, [.ref a_t_writer_fixed, .ref a_t_writer_decimal, .ref a_t_writer_low, .ref a_t_writer_high])), (a_t_writer_decimal, .inr (0, [.ref a_t_writer_decimal_digits, .int s_t_writer_decimal_count_37, .int s_t_writer_decimal_point_38]))] H := hP
            have hD : va_D A [(a_t, .inr (4, [.ref a_t_writer, .ref a_t_numbers, .int s_t_rows, .int s_t_columns, .ref a_t_texts, .ref a_t_ends, .ref a_t_lines, .int s_t_lineLength])), (a_t_writer_fixed, .inr (1, [.ref a_t_writer_fixed_limbs, .int s_t_writer_fixed_first_35, .int s_t_writer_fixed_end_34])), (a_t_writer_fixed_limbs, .inl (c_t_writer_fixed_limbs, n_t_writer_fixed_limbs, .inl e_t_writer_fixed_limbs_36)), (a_t_writer_decimal_digits, .inl (c_t_writer_decimal_digits, n_t_writer_decimal_digits, .inl e_t_writer_decimal_digits_39)), (a_t_numbers, .inl (c_t_numbers, n_t_numbers, .inr (.inl e_t_numbers))), (a_t_texts, .inr (5, [.ref a_t_texts_characters, .int s_t_texts_length_40])), (a_t_texts_characters, .inl (c_t_texts_characters, n_t_texts_characters, .inl e_t_texts_characters_41)), (a_t_ends, .inl (c_t_ends, n_t_ends, .inl ((upd e_t_ends_14 x5_5.toNatClampNeg r_43)))), (a_t_writer, .inr (6, [.ref a_t_writer_fixed, .ref a_t_writer_decimal, .ref a_t_writer_low, .ref a_t_writer_high])), (a_t_writer_decimal, .inr (0, [.ref a_t_writer_decimal_digits, .int s_t_writer_decimal_count_37, .int s_t_writer_decimal_point_38]))] := hD
            refine va_mmax hx hb (by rw [hml]; exact hl.1.symm) hown (hts _ g_681) (hts _ g_33) (hts _ g_3) (hts _ g_34) (Nat.le_of_ble_eq_true rfl) (Nat.le_of_ble_eq_true rfl) (Nat.le_of_ble_eq_true rfl) (Nat.le_of_ble_eq_true rfl) d_Table_writeScientific_102 ?_
            replace h := xnm_s h
            obtain ⟨x4_52, ex4_52, h⟩ := h
            refine x_topi ex4_52 ?_
            refine lv_istore (lv' := [(4, .int x4_52), (3, .int z_46), (0, .ref a_t), (1, .int x1), (2, .int x2), (5, .int x5_5)]) hx hb d_Table_writeScientific_105 hl (by decide) rfl (fun ls hl => ?_)
            replace h := xnm_s h
            obtain ⟨x5_53, ex5_53, h⟩ := h
            refine lv_iinc (v := x5_53) (lv' := [(5, .int x5_53), (4, .int x4_52), (3, .int z_46), (0, .ref a_t), (1, .int x1), (2, .int x2)]) hx hb d_Table_writeScientific_107 hl (k := 5) rfl (by rw [← ex5_53]; rfl) (by decide) rfl (fun ls hl => ?_)
            refine lv_goto (tgt := 15) hx hb d_Table_writeScientific_110 (by decide) ?_
            exact ih _ _ _ _ _ _ _ _ _ _ _ _ _ _ _ h (hP.sub [0, 8, 1, 2, 9, 3, 4, 5, 6, 7] rfl) (hD.sub [0, 8, 1, 2, 9, 3, 4, 5, 6, 7] (by decide) rfl) hS (lv_sub hl [3, 4, 5, 2, 1, 0] rfl)
          replace h := hj_47
          clear hj_47
          refine lv_if_eq (tgt := 88) hx hb d_Table_writeScientific_68 (by decide) (fun c_54 => ?_) (fun c_54 => ?_)
          · rw [if_pos c_54] at h
            refine lv_iconst (v := 0) hx hb d_Table_writeScientific_88 (by decide) ?_
            replace h := Option.some.inj h
            subst h
            exact hJ_48 _ _ _ (hP.sub [1, 3, 4, 5, 6, 7, 2, 9, 8, 0] rfl) (hD.sub [1, 3, 4, 5, 6, 7, 2, 9, 8, 0] (by decide) rfl) hS (lv_sub hl [0, 1, 2, 4, 5] rfl)
          · rw [if_neg c_54] at h
            refine lv_aload_n hx hb d_Table_writeScientific_71 rfl (lv_at hl 0 rfl) ?_
            refine va_get (D := (dC, dI)) (ci := 4) (v := .ref a_t_writer) (C := R_Table) (T := T_Table) (N := 8) hx hb hts in_Table hown hK hP 1 rfl rfl 0 (by decide) (hts _ g_144) (fun _ h9 => h9) rfl d_Table_writeScientific_72 ?_
            replace h := xob_s h
            obtain ⟨⟨⟩, hc_55, h⟩ := h
            try dsimp only at h
            refine xcV (As := []) (rest := []) (st1 := [.ref a_t_writer_decimal]) (wr := [(a_t_ends, .inl (c_t_ends, n_t_ends, .inl ((upd e_t_ends_14 x5_5.toNatClampNeg r_43)))), (a_t, .inr (4, [.ref a_t_writer, .ref a_t_numbers, .int s_t_rows, .int s_t_columns, .ref a_t_texts, .ref a_t_ends, .ref a_t_lines, .int s_t_lineLength])), (a_t_numbers, .inl (c_t_numbers, n_t_numbers, .inr (.inl e_t_numbers))), (a_t_writer_fixed, .inr (1, [.ref a_t_writer_fixed_limbs, .int s_t_writer_fixed_first_35, .int s_t_writer_fixed_end_34])), (a_t_writer_fixed_limbs, .inl (c_t_writer_fixed_limbs, n_t_writer_fixed_limbs, .inl e_t_writer_fixed_limbs_36)), (a_t_writer_decimal, .inr (0, [.ref a_t_writer_decimal_digits, .int s_t_writer_decimal_count_37, .int s_t_writer_decimal_point_38])), (a_t_writer_decimal_digits, .inl (c_t_writer_decimal_digits, n_t_writer_decimal_digits, .inl e_t_writer_decimal_digits_39)), (a_t_texts_characters, .inl (c_t_texts_characters, n_t_texts_characters, .inl e_t_texts_characters_41)), (a_t_texts, .inr (5, [.ref a_t_texts_characters, .int s_t_texts_length_40]))]) ⟨hx, hb, hml, hown, hts⟩ (c_Writer_decimal l dC dI a_t_writer a_t_writer_fixed a_t_writer_decimal a_t_writer_low a_t_writer_high hc_55) (cwV 0 hts (xgoodV g_675 g_676 g_677 g_8 g_678) rfl rfl rfl (by decide +kernel) ⟨Nat.le_of_ble_eq_true rfl, Nat.le_of_ble_eq_true rfl⟩) hNz (ci := 6) (q0 := 3) rfl rfl hA hP hD hS hK [3] [0, 1, 2, 4, 5, 6, 7, 8, 9] [] rfl rfl rfl rfl (by decide) rfl rfl rfl rfl hl.1 (Nat.le_of_ble_eq_true rfl) ⟨Nat.zero_le _, Nat.zero_le _⟩ d_Table_writeScientific_75 (fun H locs hP hD hS => ?_)
            have hP : va_P (dC, dI) x_cl [(a_t_ends, .inl (c_t_ends, n_t_ends, .inl ((upd e_t_ends_14 x5_5.toNatClampNeg r_43)))), (a_t, .inr (4, [.ref a_t_writer, .ref a_t_numbers, .int s_t_rows, .int s_t_columns, .ref a_t_texts, .ref a_t_ends, .ref a_t_lines, .int s_t_lineLength])), (a_t_numbers, .inl (c_t_numbers, n_t_numbers, .inr (.inl e_t_numbers))), (a_t_writer_fixed, .inr (1, [.ref a_t_writer_fixed_limbs, .int s_t_writer_fixed_first_35, .int s_t_writer_fixed_end_34])), (a_t_writer_fixed_limbs, .inl (c_t_writer_fixed_limbs, n_t_writer_fixed_limbs, .inl e_t_writer_fixed_limbs_36)), (a_t_writer_decimal, .inr (0, [.ref a_t_writer_decimal_digits, .int s_t_writer_decimal_count_37, .int s_t_writer_decimal_point_38])), (a_t_writer_decimal_digits, .inl (c_t_writer_decimal_digits, n_t_writer_decimal_digits, .inl e_t_writer_decimal_digits_39)), (a_t_texts_characters, .inl (c_t_texts_characters, n_t_texts_characters, .inl e_t_texts_characters_41)), (a_t_texts, .inr (5, [.ref a_t_texts_characters, .int s_t_texts_length_40])), (a_t_writer, .inr (6, [.ref a_t_writer_fixed, .ref a_t_writer_decimal, .ref a_t_writer_low, .ref a_t_writer_high]))] H := hP
            have hD : va_D A [(a_t_ends, .inl (c_t_ends, n_t_ends, .inl ((upd e_t_ends_14 x5_5.toNatClampNeg r_43)))), (a_t, .inr (4, [.ref a_t_writer, .ref a_t_numbers, .int s_t_rows, .int s_t_columns, .ref a_t_texts, .ref a_t_ends, .ref a_t_lines, .int s_t_lineLength])), (a_t_numbers, .inl (c_t_numbers, n_t_numbers, .inr (.inl e_t_numbers))), (a_t_writer_fixed, .inr (1, [.ref a_t_writer_fixed_limbs, .int s_t_writer_fixed_first_35, .int s_t_writer_fixed_end_34])), (a_t_writer_fixed_limbs, .inl (c_t_writer_fixed_limbs, n_t_writer_fixed_limbs, .inl e_t_writer_fixed_limbs_36)), (a_t_writer_decimal, .inr (0, [.ref a_t_writer_decimal_digits, .int s_t_writer_decimal_count_37, .int s_t_writer_decimal_point_38])), (a_t_writer_decimal_digits, .inl (c_t_writer_decimal_digits, n_t_writer_decimal_digits, .inl e_t_writer_decimal_digits_39)), (a_t_texts_characters, .inl (c_t_texts_characters, n_t_texts_characters, .inl e_t_texts_characters_41)), (a_t_texts, .inr (5, [.ref a_t_texts_characters, .int s_t_texts_length_40])), (a_t_writer, .inr (6, [.ref a_t_writer_fixed, .ref a_t_writer_decimal, .ref a_t_writer_low, .ref a_t_writer_high]))] := hD
            replace h := xob_s h
            obtain ⟨r_56, hc_57, h⟩ := h
            try dsimp only at h
            refine xcV (As := []) (rest := []) (st1 := [.int r_56]) (wr := [(a_t_ends, .inl (c_t_ends, n_t_ends, .inl ((upd e_t_ends_14 x5_5.toNatClampNeg r_43)))), (a_t, .inr (4, [.ref a_t_writer, .ref a_t_numbers, .int s_t_rows, .int s_t_columns, .ref a_t_texts, .ref a_t_ends, .ref a_t_lines, .int s_t_lineLength])), (a_t_numbers, .inl (c_t_numbers, n_t_numbers, .inr (.inl e_t_numbers))), (a_t_writer_fixed, .inr (1, [.ref a_t_writer_fixed_limbs, .int s_t_writer_fixed_first_35, .int s_t_writer_fixed_end_34])), (a_t_writer_fixed_limbs, .inl (c_t_writer_fixed_limbs, n_t_writer_fixed_limbs, .inl e_t_writer_fixed_limbs_36)), (a_t_writer_decimal_digits, .inl (c_t_writer_decimal_digits, n_t_writer_decimal_digits, .inl e_t_writer_decimal_digits_39)), (a_t_texts_characters, .inl (c_t_texts_characters, n_t_texts_characters, .inl e_t_texts_characters_41)), (a_t_texts, .inr (5, [.ref a_t_texts_characters, .int s_t_texts_length_40])), (a_t_writer, .inr (6, [.ref a_t_writer_fixed, .ref a_t_writer_decimal, .ref a_t_writer_low, .ref a_t_writer_high]))]) ⟨hx, hb, hml, hown, hts⟩ (c_Decimal_isPlain l dC dI a_t_writer_decimal a_t_writer_decimal_digits s_t_writer_decimal_count_37 s_t_writer_decimal_point_38 r_56 hc_57) (cwV 0 hts (xgoodV g_679 g_373 g_374 g_6 g_375) rfl rfl rfl (by decide +kernel) ⟨Nat.le_of_ble_eq_true rfl, Nat.le_of_ble_eq_true rfl⟩) hNz (ci := 0) (q0 := 5) rfl rfl hA hP hD hS hK [5] [0, 1, 2, 3, 4, 6, 7, 8, 9] [] rfl rfl rfl rfl (by decide) rfl rfl rfl rfl hl.1 (Nat.le_of_ble_eq_true rfl) ⟨Nat.zero_le _, Nat.zero_le _⟩ d_Table_writeScientific_78 (fun H locs hP hD hS => ?_)
            have hP : va_P (dC, dI) x_cl [(a_t_ends, .inl (c_t_ends, n_t_ends, .inl ((upd e_t_ends_14 x5_5.toNatClampNeg r_43)))), (a_t, .inr (4, [.ref a_t_writer, .ref a_t_numbers, .int s_t_rows, .int s_t_columns, .ref a_t_texts, .ref a_t_ends, .ref a_t_lines, .int s_t_lineLength])), (a_t_numbers, .inl (c_t_numbers, n_t_numbers, .inr (.inl e_t_numbers))), (a_t_writer_fixed, .inr (1, [.ref a_t_writer_fixed_limbs, .int s_t_writer_fixed_first_35, .int s_t_writer_fixed_end_34])), (a_t_writer_fixed_limbs, .inl (c_t_writer_fixed_limbs, n_t_writer_fixed_limbs, .inl e_t_writer_fixed_limbs_36)), (a_t_writer_decimal_digits, .inl (c_t_writer_decimal_digits, n_t_writer_decimal_digits, .inl e_t_writer_decimal_digits_39)), (a_t_texts_characters, .inl (c_t_texts_characters, n_t_texts_characters, .inl e_t_texts_characters_41)), (a_t_texts, .inr (5, [.ref a_t_texts_characters, .int s_t_texts_length_40])), (a_t_writer, .inr (6, [.ref a_t_writer_fixed, .ref a_t_writer_decimal, .ref a_t_writer_low, .ref a_t_writer_high])), (a_t_writer_decimal, .inr (0, [.ref a_t_writer_decimal_digits, .int s_t_writer_decimal_count_37, .int s_t_writer_decimal_point_38]))] H := hP
            have hD : va_D A [(a_t_ends, .inl (c_t_ends, n_t_ends, .inl ((upd e_t_ends_14 x5_5.toNatClampNeg r_43)))), (a_t, .inr (4, [.ref a_t_writer, .ref a_t_numbers, .int s_t_rows, .int s_t_columns, .ref a_t_texts, .ref a_t_ends, .ref a_t_lines, .int s_t_lineLength])), (a_t_numbers, .inl (c_t_numbers, n_t_numbers, .inr (.inl e_t_numbers))), (a_t_writer_fixed, .inr (1, [.ref a_t_writer_fixed_limbs, .int s_t_writer_fixed_first_35, .int s_t_writer_fixed_end_34])), (a_t_writer_fixed_limbs, .inl (c_t_writer_fixed_limbs, n_t_writer_fixed_limbs, .inl e_t_writer_fixed_limbs_36)), (a_t_writer_decimal_digits, .inl (c_t_writer_decimal_digits, n_t_writer_decimal_digits, .inl e_t_writer_decimal_digits_39)), (a_t_texts_characters, .inl (c_t_texts_characters, n_t_texts_characters, .inl e_t_texts_characters_41)), (a_t_texts, .inr (5, [.ref a_t_texts_characters, .int s_t_texts_length_40])), (a_t_writer, .inr (6, [.ref a_t_writer_fixed, .ref a_t_writer_decimal, .ref a_t_writer_low, .ref a_t_writer_high])), (a_t_writer_decimal, .inr (0, [.ref a_t_writer_decimal_digits, .int s_t_writer_decimal_count_37, .int s_t_writer_decimal_point_38]))] := hD
            refine lv_if_eq (tgt := 88) hx hb d_Table_writeScientific_81 (by decide) (fun c_58 => ?_) (fun c_58 => ?_)
            · rw [if_pos c_58] at h
              refine lv_iconst (v := 0) hx hb d_Table_writeScientific_88 (by decide) ?_
              replace h := Option.some.inj h
              subst h
              exact hJ_48 _ _ _ (hP.sub [1, 8, 3, 4, 9, 5, 2, 7, 6, 0] rfl) (hD.sub [1, 8, 3, 4, 9, 5, 2, 7, 6, 0] (by decide) rfl) hS (lv_sub hl [0, 1, 2, 4, 5] rfl)
            · rw [if_neg c_58] at h
              refine lv_iconst (v := 1) hx hb d_Table_writeScientific_84 (by decide) ?_
              refine lv_goto (tgt := 89) hx hb d_Table_writeScientific_85 (by decide) ?_
              replace h := Option.some.inj h
              subst h
              exact hJ_48 _ _ _ (hP.sub [1, 8, 3, 4, 9, 5, 2, 7, 6, 0] rfl) (hD.sub [1, 8, 3, 4, 9, 5, 2, 7, 6, 0] (by decide) rfl) hS (lv_sub hl [0, 1, 2, 4, 5] rfl)
  exact hL_28 xF _ _ _ _ _ _ _ _ _ _ _ _ _ _ _ hlp_26 (hP.sub [0, 1, 2, 3, 4, 5, 6, 9, 7, 8] rfl) (hD.sub [0, 1, 2, 3, 4, 5, 6, 9, 7, 8] (by decide) rfl) hS (lv_sub hl [3, 4, 5, 2, 1, 0] rfl)
