def f_Md_places (n_t_text : Nat) (n_t_digits : Nat) (n_t_counts : Nat) (n_t_points : Nat) (n_t_limbs : Nat) (n_t_draft : Nat) (s_t_thrown : Int32) (s_t_length : Int32) (s_t_place : Int32) (s_t_limbCount : Int32) (s_t_rows : Int32) (s_t_columns : Int32) (s_t_laid : Int32) (s_t_size : Int32) (e_t_text : Nat → Int32) (e_t_digits : Nat → Int32) (e_t_counts : Nat → Int32) (e_t_points : Nat → Int32) (e_t_limbs : Nat → Int32) (e_t_draft : Nat → Int32) (x1 : Int64) (x3 : Int32) : Option (Int32 × Int32 × Int32 × Int32 × Int32 × (Nat → Int32) × (Nat → Int32) × (Nat → Int32) × (Nat → Int32) × (Nat → Int32) × (Nat → Int32)) :=
  xob (f_Md_in x3 (0 : Int32) (40 : Int32)) fun r_1 => xob (f_Md_goes s_t_thrown s_t_length s_t_place s_t_limbCount s_t_rows s_t_columns s_t_laid s_t_size r_1) fun (r_3, s_t_thrown_4) => if r_3 = 0 then (some ((0 : Int32), s_t_length, s_t_limbCount, s_t_size, s_t_thrown_4, e_t_text, e_t_digits, e_t_counts, e_t_points, e_t_limbs, e_t_draft)) else (xob (f_Md_special n_t_draft s_t_thrown_4 s_t_length s_t_place s_t_limbCount s_t_rows s_t_columns s_t_laid s_t_size e_t_draft x1) fun (r_7, s_t_size_8, e_t_draft_9) => xob (if r_7 = 0 then (xob (f_Md_toPlaces n_t_digits n_t_counts n_t_points n_t_limbs n_t_draft s_t_thrown_4 s_t_length s_t_place s_t_limbCount s_t_rows s_t_columns s_t_laid s_t_size_8 e_t_digits e_t_counts e_t_points e_t_limbs e_t_draft_9 x1 x3) fun (s_t_limbCount_25, s_t_size_26, e_t_digits_27, e_t_counts_28, e_t_points_29, e_t_limbs_30, e_t_draft_31) => some (s_t_limbCount_25, s_t_size_26, e_t_digits_27, e_t_counts_28, e_t_points_29, e_t_limbs_30, e_t_draft_31)) else (some (s_t_limbCount, s_t_size_8, e_t_digits, e_t_counts, e_t_points, e_t_limbs, e_t_draft_9))) fun (s_t_limbCount_11, s_t_size_12, e_t_digits_13, e_t_counts_14, e_t_points_15, e_t_limbs_16, e_t_draft_17) => xob (f_Md_done n_t_text n_t_draft s_t_thrown_4 s_t_length s_t_place s_t_limbCount_11 s_t_rows s_t_columns s_t_laid s_t_size_12 e_t_text e_t_draft_17) fun (r_20, s_t_length_21, e_t_text_22) => some (r_20, s_t_length_21, s_t_limbCount_11, s_t_size_12, s_t_thrown_4, e_t_text_22, e_t_digits_13, e_t_counts_14, e_t_points_15, e_t_limbs_16, e_t_draft_17))
def rm_Md_places : Room := { frames := 5, cells := 0, slots := 0, locals := 130 }
set_option maxHeartbeats 4000000 in
set_option maxRecDepth 100000 in
theorem c_Md_places (l : Launch) (dC : Nat → ClassId) (dI : Nat → Nat → Nat) (a_t a_t_text a_t_digits a_t_counts a_t_points a_t_limbs a_t_cells a_t_lines a_t_draft : Nat) (c_t_text c_t_digits c_t_counts c_t_points c_t_limbs c_t_draft : ClassId) (n_t_text : Nat) (n_t_digits : Nat) (n_t_counts : Nat) (n_t_points : Nat) (n_t_limbs : Nat) (n_t_draft : Nat) (s_t_thrown : Int32) (s_t_length : Int32) (s_t_place : Int32) (s_t_limbCount : Int32) (s_t_rows : Int32) (s_t_columns : Int32) (s_t_laid : Int32) (s_t_size : Int32) (e_t_text : Nat → Int32) (e_t_digits : Nat → Int32) (e_t_counts : Nat → Int32) (e_t_points : Nat → Int32) (e_t_limbs : Nat → Int32) (e_t_draft : Nat → Int32) (x1 : Int64) (x3 : Int32) (r_ : Int32) (s_t_length_o : Int32) (s_t_limbCount_o : Int32) (s_t_size_o : Int32) (s_t_thrown_o : Int32) (e_t_text_o : Nat → Int32) (e_t_digits_o : Nat → Int32) (e_t_counts_o : Nat → Int32) (e_t_points_o : Nat → Int32) (e_t_limbs_o : Nat → Int32) (e_t_draft_o : Nat → Int32) (h : f_Md_places n_t_text n_t_digits n_t_counts n_t_points n_t_limbs n_t_draft s_t_thrown s_t_length s_t_place s_t_limbCount s_t_rows s_t_columns s_t_laid s_t_size e_t_text e_t_digits e_t_counts e_t_points e_t_limbs e_t_draft x1 x3 = some (r_, s_t_length_o, s_t_limbCount_o, s_t_size_o, s_t_thrown_o, e_t_text_o, e_t_digits_o, e_t_counts_o, e_t_points_o, e_t_limbs_o, e_t_draft_o)) : xM l y_Md_places (Cond.code y_Md_places b_Md_places 4 (some .int) :: xG) rm_Md_places (dC, dI) x_cl x_nz [.ref a_t, .long x1, .int x3] [(c_t_text, .int), (c_t_digits, .int), (c_t_counts, .int), (c_t_points, .int), (c_t_limbs, .int), (c_t_draft, .int)] [(a_t, .inr (8, [.int s_t_thrown, .int s_t_length, .ref a_t_text, .int s_t_place, .ref a_t_digits, .ref a_t_counts, .ref a_t_points, .ref a_t_limbs, .int s_t_limbCount, .int s_t_rows, .int s_t_columns, .ref a_t_cells, .int s_t_laid, .ref a_t_lines, .int s_t_size, .ref a_t_draft])), (a_t_text, .inl (c_t_text, n_t_text, .inl e_t_text)), (a_t_digits, .inl (c_t_digits, n_t_digits, .inl e_t_digits)), (a_t_counts, .inl (c_t_counts, n_t_counts, .inl e_t_counts)), (a_t_points, .inl (c_t_points, n_t_points, .inl e_t_points)), (a_t_limbs, .inl (c_t_limbs, n_t_limbs, .inl e_t_limbs)), (a_t_draft, .inl (c_t_draft, n_t_draft, .inl e_t_draft))] (some (.int r_)) [(a_t, .inr (8, [.int s_t_thrown_o, .int s_t_length_o, .ref a_t_text, .int s_t_place, .ref a_t_digits, .ref a_t_counts, .ref a_t_points, .ref a_t_limbs, .int s_t_limbCount_o, .int s_t_rows, .int s_t_columns, .ref a_t_cells, .int s_t_laid, .ref a_t_lines, .int s_t_size_o, .ref a_t_draft])), (a_t_text, .inl (c_t_text, n_t_text, .inl e_t_text_o)), (a_t_digits, .inl (c_t_digits, n_t_digits, .inl e_t_digits_o)), (a_t_counts, .inl (c_t_counts, n_t_counts, .inl e_t_counts_o)), (a_t_points, .inl (c_t_points, n_t_points, .inl e_t_points_o)), (a_t_limbs, .inl (c_t_limbs, n_t_limbs, .inl e_t_limbs_o)), (a_t_draft, .inl (c_t_draft, n_t_draft, .inl e_t_draft_o))] := by
  unfold f_Md_places at h
  refine xM.mkI (cc := b_Md_places) (maxL := 4)  (by decide +kernel) rfl (Nat.le_of_ble_eq_true rfl) ?_
  intro p e s m args below meth c A Q ls hx hb hml hown hts hNz hA hP hD hK hl hret
  have hS : va_S A s.heap s.heap [] := va_S.rf
  have hl : lv_has ls 4 [(0, .ref a_t), (1, .long x1), (3, .int x3)] := hl
  refine lv_aload_n hx hb d_Md_places_0 rfl (lv_at hl 0 rfl) ?_
  refine lv_iload_n hx hb d_Md_places_1 rfl (lv_at hl 2 rfl) ?_
  refine lv_iconst (v := 0) hx hb d_Md_places_2 (by decide) ?_
  refine lv_bipush (v := 40) hx hb d_Md_places_3 (by decide) ?_
  replace h := xob_s h
  obtain ⟨r_1, hc_2, h⟩ := h
  try dsimp only at h
  refine xcS (As := [.int x3, .int (0 : Int32), .int (40 : Int32)]) (rest := [.ref a_t]) (st1 := [.int r_1, .ref a_t]) (wr := [(a_t, .inr (8, [.int s_t_thrown, .int s_t_length, .ref a_t_text, .int s_t_place, .ref a_t_digits, .ref a_t_counts, .ref a_t_points, .ref a_t_limbs, .int s_t_limbCount, .int s_t_rows, .int s_t_columns, .ref a_t_cells, .int s_t_laid, .ref a_t_lines, .int s_t_size, .ref a_t_draft])), (a_t_text, .inl (c_t_text, n_t_text, .inl e_t_text)), (a_t_digits, .inl (c_t_digits, n_t_digits, .inl e_t_digits)), (a_t_counts, .inl (c_t_counts, n_t_counts, .inl e_t_counts)), (a_t_points, .inl (c_t_points, n_t_points, .inl e_t_points)), (a_t_limbs, .inl (c_t_limbs, n_t_limbs, .inl e_t_limbs)), (a_t_draft, .inl (c_t_draft, n_t_draft, .inl e_t_draft))]) ⟨hx, hb, hml, hown, hts⟩ (c_Md_in l dC dI x3 (0 : Int32) (40 : Int32) r_1 hc_2) (⟨callB_of 3 hts (xgood g_765) rfl rfl rfl (hts _ g_10) (hts _ g_763) (by decide +kernel) ⟨Nat.le_of_ble_eq_true rfl, Nat.le_of_ble_eq_true rfl⟩, (hts _ g_764)⟩) hNz hA hP hD hS hK [] [0, 1, 2, 3, 4, 5, 6] [] rfl rfl rfl rfl (by decide) rfl rfl rfl rfl hl.1 (Nat.le_of_ble_eq_true rfl) ⟨Nat.zero_le _, Nat.zero_le _⟩ d_Md_places_5 (fun H locs hP hD hS => ?_)
  have hP : va_P (dC, dI) x_cl [(a_t, .inr (8, [.int s_t_thrown, .int s_t_length, .ref a_t_text, .int s_t_place, .ref a_t_digits, .ref a_t_counts, .ref a_t_points, .ref a_t_limbs, .int s_t_limbCount, .int s_t_rows, .int s_t_columns, .ref a_t_cells, .int s_t_laid, .ref a_t_lines, .int s_t_size, .ref a_t_draft])), (a_t_text, .inl (c_t_text, n_t_text, .inl e_t_text)), (a_t_digits, .inl (c_t_digits, n_t_digits, .inl e_t_digits)), (a_t_counts, .inl (c_t_counts, n_t_counts, .inl e_t_counts)), (a_t_points, .inl (c_t_points, n_t_points, .inl e_t_points)), (a_t_limbs, .inl (c_t_limbs, n_t_limbs, .inl e_t_limbs)), (a_t_draft, .inl (c_t_draft, n_t_draft, .inl e_t_draft))] H := hP
  have hD : va_D A [(a_t, .inr (8, [.int s_t_thrown, .int s_t_length, .ref a_t_text, .int s_t_place, .ref a_t_digits, .ref a_t_counts, .ref a_t_points, .ref a_t_limbs, .int s_t_limbCount, .int s_t_rows, .int s_t_columns, .ref a_t_cells, .int s_t_laid, .ref a_t_lines, .int s_t_size, .ref a_t_draft])), (a_t_text, .inl (c_t_text, n_t_text, .inl e_t_text)), (a_t_digits, .inl (c_t_digits, n_t_digits, .inl e_t_digits)), (a_t_counts, .inl (c_t_counts, n_t_counts, .inl e_t_counts)), (a_t_points, .inl (c_t_points, n_t_points, .inl e_t_points)), (a_t_limbs, .inl (c_t_limbs, n_t_limbs, .inl e_t_limbs)), (a_t_draft, .inl (c_t_draft, n_t_draft, .inl e_t_draft))] := hD
  replace h := xob_s h
  obtain ⟨⟨r_3, s_t_thrown_4⟩, hc_5, h⟩ := h
  try dsimp only at h
  refine xcV (As := [.int r_1]) (rest := []) (st1 := [.int r_3]) (wr := [(a_t_text, .inl (c_t_text, n_t_text, .inl e_t_text)), (a_t_digits, .inl (c_t_digits, n_t_digits, .inl e_t_digits)), (a_t_counts, .inl (c_t_counts, n_t_counts, .inl e_t_counts)), (a_t_points, .inl (c_t_points, n_t_points, .inl e_t_points)), (a_t_limbs, .inl (c_t_limbs, n_t_limbs, .inl e_t_limbs)), (a_t_draft, .inl (c_t_draft, n_t_draft, .inl e_t_draft))]) ⟨hx, hb, hml, hown, hts⟩ (c_Md_goes l dC dI a_t a_t_text a_t_digits a_t_counts a_t_points a_t_limbs a_t_cells a_t_lines a_t_draft s_t_thrown s_t_length s_t_place s_t_limbCount s_t_rows s_t_columns s_t_laid s_t_size r_1 r_3 s_t_thrown_4 hc_5) (cwV 1 hts (xgoodV g_790 g_792 gp_22 g_10 g_793) rfl rfl rfl (by decide +kernel) ⟨Nat.le_of_ble_eq_true rfl, Nat.le_of_ble_eq_true rfl⟩) hNz (ci := 8) (q0 := 0) rfl rfl hA hP hD hS hK [0] [1, 2, 3, 4, 5, 6] [] rfl rfl rfl rfl (by decide) rfl rfl rfl rfl hl.1 (Nat.le_of_ble_eq_true rfl) ⟨Nat.zero_le _, Nat.zero_le _⟩ d_Md_places_8 (fun H locs hP hD hS => ?_)
  have hP : va_P (dC, dI) x_cl [(a_t_text, .inl (c_t_text, n_t_text, .inl e_t_text)), (a_t_digits, .inl (c_t_digits, n_t_digits, .inl e_t_digits)), (a_t_counts, .inl (c_t_counts, n_t_counts, .inl e_t_counts)), (a_t_points, .inl (c_t_points, n_t_points, .inl e_t_points)), (a_t_limbs, .inl (c_t_limbs, n_t_limbs, .inl e_t_limbs)), (a_t_draft, .inl (c_t_draft, n_t_draft, .inl e_t_draft)), (a_t, .inr (8, [.int s_t_thrown_4, .int s_t_length, .ref a_t_text, .int s_t_place, .ref a_t_digits, .ref a_t_counts, .ref a_t_points, .ref a_t_limbs, .int s_t_limbCount, .int s_t_rows, .int s_t_columns, .ref a_t_cells, .int s_t_laid, .ref a_t_lines, .int s_t_size, .ref a_t_draft]))] H := hP
  have hD : va_D A [(a_t_text, .inl (c_t_text, n_t_text, .inl e_t_text)), (a_t_digits, .inl (c_t_digits, n_t_digits, .inl e_t_digits)), (a_t_counts, .inl (c_t_counts, n_t_counts, .inl e_t_counts)), (a_t_points, .inl (c_t_points, n_t_points, .inl e_t_points)), (a_t_limbs, .inl (c_t_limbs, n_t_limbs, .inl e_t_limbs)), (a_t_draft, .inl (c_t_draft, n_t_draft, .inl e_t_draft)), (a_t, .inr (8, [.int s_t_thrown_4, .int s_t_length, .ref a_t_text, .int s_t_place, .ref a_t_digits, .ref a_t_counts, .ref a_t_points, .ref a_t_limbs, .int s_t_limbCount, .int s_t_rows, .int s_t_columns, .ref a_t_cells, .int s_t_laid, .ref a_t_lines, .int s_t_size, .ref a_t_draft]))] := hD
  refine lv_if_ne (tgt := 16) hx hb d_Md_places_11 (by decide) (fun c_6 => ?_) (fun c_6 => ?_)
  · rw [if_neg c_6] at h
    refine lv_aload_n hx hb d_Md_places_16 rfl (lv_at hl 0 rfl) ?_
    refine lv_lload_n hx hb d_Md_places_17 rfl (lv_at hl 1 rfl) ?_
    replace h := xob_s h
    obtain ⟨⟨r_7, s_t_size_8, e_t_draft_9⟩, hc_10, h⟩ := h
    try dsimp only at h
    refine xcV (As := [.long x1]) (rest := []) (st1 := [.int r_7]) (wr := [(a_t_text, .inl (c_t_text, n_t_text, .inl e_t_text)), (a_t_digits, .inl (c_t_digits, n_t_digits, .inl e_t_digits)), (a_t_counts, .inl (c_t_counts, n_t_counts, .inl e_t_counts)), (a_t_points, .inl (c_t_points, n_t_points, .inl e_t_points)), (a_t_limbs, .inl (c_t_limbs, n_t_limbs, .inl e_t_limbs))]) ⟨hx, hb, hml, hown, hts⟩ (c_Md_special l dC dI a_t a_t_text a_t_digits a_t_counts a_t_points a_t_limbs a_t_cells a_t_lines a_t_draft c_t_draft n_t_draft s_t_thrown_4 s_t_length s_t_place s_t_limbCount s_t_rows s_t_columns s_t_laid s_t_size e_t_draft x1 r_7 s_t_size_8 e_t_draft_9 hc_10) (cwV 1 hts (xgoodV g_848 g_850 gp_31 g_10 g_851) rfl rfl rfl (by decide +kernel) ⟨Nat.le_of_ble_eq_true rfl, Nat.le_of_ble_eq_true rfl⟩) hNz (ci := 8) (q0 := 6) rfl rfl hA hP hD hS hK [6, 5] [0, 1, 2, 3, 4] [5] rfl rfl rfl rfl (by decide) rfl rfl rfl rfl hl.1 (Nat.le_of_ble_eq_true rfl) ⟨Nat.zero_le _, Nat.zero_le _⟩ d_Md_places_18 (fun H locs hP hD hS => ?_)
    have hP : va_P (dC, dI) x_cl [(a_t_text, .inl (c_t_text, n_t_text, .inl e_t_text)), (a_t_digits, .inl (c_t_digits, n_t_digits, .inl e_t_digits)), (a_t_counts, .inl (c_t_counts, n_t_counts, .inl e_t_counts)), (a_t_points, .inl (c_t_points, n_t_points, .inl e_t_points)), (a_t_limbs, .inl (c_t_limbs, n_t_limbs, .inl e_t_limbs)), (a_t, .inr (8, [.int s_t_thrown_4, .int s_t_length, .ref a_t_text, .int s_t_place, .ref a_t_digits, .ref a_t_counts, .ref a_t_points, .ref a_t_limbs, .int s_t_limbCount, .int s_t_rows, .int s_t_columns, .ref a_t_cells, .int s_t_laid, .ref a_t_lines, .int s_t_size_8, .ref a_t_draft])), (a_t_draft, .inl (c_t_draft, n_t_draft, .inl e_t_draft_9))] H := hP
    have hD : va_D A [(a_t_text, .inl (c_t_text, n_t_text, .inl e_t_text)), (a_t_digits, .inl (c_t_digits, n_t_digits, .inl e_t_digits)), (a_t_counts, .inl (c_t_counts, n_t_counts, .inl e_t_counts)), (a_t_points, .inl (c_t_points, n_t_points, .inl e_t_points)), (a_t_limbs, .inl (c_t_limbs, n_t_limbs, .inl e_t_limbs)), (a_t, .inr (8, [.int s_t_thrown_4, .int s_t_length, .ref a_t_text, .int s_t_place, .ref a_t_digits, .ref a_t_counts, .ref a_t_points, .ref a_t_limbs, .int s_t_limbCount, .int s_t_rows, .int s_t_columns, .ref a_t_cells, .int s_t_laid, .ref a_t_lines, .int s_t_size_8, .ref a_t_draft])), (a_t_draft, .inl (c_t_draft, n_t_draft, .inl e_t_draft_9))] := hD
    replace h := xob_s h
    obtain ⟨⟨s_t_limbCount_11, s_t_size_12, e_t_digits_13, e_t_counts_14, e_t_points_15, e_t_limbs_16, e_t_draft_17⟩, hj_18, h⟩ := h
    try dsimp only at h
    have hJ_19 : ∀ (H : Heap) (locs : List Loc) (ls : Array Slot), va_P (dC, dI) x_cl [(a_t, .inr (8, [.int s_t_thrown_4, .int s_t_length, .ref a_t_text, .int s_t_place, .ref a_t_digits, .ref a_t_counts, .ref a_t_points, .ref a_t_limbs, .int s_t_limbCount_11, .int s_t_rows, .int s_t_columns, .ref a_t_cells, .int s_t_laid, .ref a_t_lines, .int s_t_size_12, .ref a_t_draft])), (a_t_text, .inl (c_t_text, n_t_text, .inl e_t_text)), (a_t_digits, .inl (c_t_digits, n_t_digits, .inl e_t_digits_13)), (a_t_counts, .inl (c_t_counts, n_t_counts, .inl e_t_counts_14)), (a_t_points, .inl (c_t_points, n_t_points, .inl e_t_points_15)), (a_t_limbs, .inl (c_t_limbs, n_t_limbs, .inl e_t_limbs_16)), (a_t_draft, .inl (c_t_draft, n_t_draft, .inl e_t_draft_17))] H → va_D A [(a_t, .inr (8, [.int s_t_thrown_4, .int s_t_length, .ref a_t_text, .int s_t_place, .ref a_t_digits, .ref a_t_counts, .ref a_t_points, .ref a_t_limbs, .int s_t_limbCount_11, .int s_t_rows, .int s_t_columns, .ref a_t_cells, .int s_t_laid, .ref a_t_lines, .int s_t_size_12, .ref a_t_draft])), (a_t_text, .inl (c_t_text, n_t_text, .inl e_t_text)), (a_t_digits, .inl (c_t_digits, n_t_digits, .inl e_t_digits_13)), (a_t_counts, .inl (c_t_counts, n_t_counts, .inl e_t_counts_14)), (a_t_points, .inl (c_t_points, n_t_points, .inl e_t_points_15)), (a_t_limbs, .inl (c_t_limbs, n_t_limbs, .inl e_t_limbs_16)), (a_t_draft, .inl (c_t_draft, n_t_draft, .inl e_t_draft_17))] → va_S A s.heap H locs → lv_has ls 4 [(0, .ref a_t)] → W p l e rm_Md_places s m args below meth c H locs 0 0 Q (F0 m 30 ls []) := by
      intro H locs ls hP hD hS hl
      refine lv_aload_n hx hb d_Md_places_30 rfl (lv_at hl 0 rfl) ?_
      replace h := xob_s h
      obtain ⟨⟨r_20, s_t_length_21, e_t_text_22⟩, hc_23, h⟩ := h
      try dsimp only at h
      refine xcV (As := []) (rest := []) (st1 := [.int r_20]) (wr := [(a_t_digits, .inl (c_t_digits, n_t_digits, .inl e_t_digits_13)), (a_t_counts, .inl (c_t_counts, n_t_counts, .inl e_t_counts_14)), (a_t_points, .inl (c_t_points, n_t_points, .inl e_t_points_15)), (a_t_limbs, .inl (c_t_limbs, n_t_limbs, .inl e_t_limbs_16))]) ⟨hx, hb, hml, hown, hts⟩ (c_Md_done l dC dI a_t a_t_text a_t_digits a_t_counts a_t_points a_t_limbs a_t_cells a_t_lines a_t_draft c_t_text c_t_draft n_t_text n_t_draft s_t_thrown_4 s_t_length s_t_place s_t_limbCount_11 s_t_rows s_t_columns s_t_laid s_t_size_12 e_t_text e_t_draft_17 r_20 s_t_length_21 e_t_text_22 hc_23) (cwV 0 hts (xgoodV g_900 g_902 gp_43 g_10 g_903) rfl rfl rfl (by decide +kernel) ⟨Nat.le_of_ble_eq_true rfl, Nat.le_of_ble_eq_true rfl⟩) hNz (ci := 8) (q0 := 0) rfl rfl hA hP hD hS hK [0, 1, 6] [2, 3, 4, 5] [0, 5] rfl rfl rfl rfl (by decide) rfl rfl rfl rfl hl.1 (Nat.le_of_ble_eq_true rfl) ⟨Nat.zero_le _, Nat.zero_le _⟩ d_Md_places_31 (fun H locs hP hD hS => ?_)
      have hP : va_P (dC, dI) x_cl [(a_t_digits, .inl (c_t_digits, n_t_digits, .inl e_t_digits_13)), (a_t_counts, .inl (c_t_counts, n_t_counts, .inl e_t_counts_14)), (a_t_points, .inl (c_t_points, n_t_points, .inl e_t_points_15)), (a_t_limbs, .inl (c_t_limbs, n_t_limbs, .inl e_t_limbs_16)), (a_t, .inr (8, [.int s_t_thrown_4, .int s_t_length_21, .ref a_t_text, .int s_t_place, .ref a_t_digits, .ref a_t_counts, .ref a_t_points, .ref a_t_limbs, .int s_t_limbCount_11, .int s_t_rows, .int s_t_columns, .ref a_t_cells, .int s_t_laid, .ref a_t_lines, .int s_t_size_12, .ref a_t_draft])), (a_t_text, .inl (c_t_text, n_t_text, .inl e_t_text_22)), (a_t_draft, .inl (c_t_draft, n_t_draft, .inl e_t_draft_17))] H := hP
      have hD : va_D A [(a_t_digits, .inl (c_t_digits, n_t_digits, .inl e_t_digits_13)), (a_t_counts, .inl (c_t_counts, n_t_counts, .inl e_t_counts_14)), (a_t_points, .inl (c_t_points, n_t_points, .inl e_t_points_15)), (a_t_limbs, .inl (c_t_limbs, n_t_limbs, .inl e_t_limbs_16)), (a_t, .inr (8, [.int s_t_thrown_4, .int s_t_length_21, .ref a_t_text, .int s_t_place, .ref a_t_digits, .ref a_t_counts, .ref a_t_points, .ref a_t_limbs, .int s_t_limbCount_11, .int s_t_rows, .int s_t_columns, .ref a_t_cells, .int s_t_laid, .ref a_t_lines, .int s_t_size_12, .ref a_t_draft])), (a_t_text, .inl (c_t_text, n_t_text, .inl e_t_text_22)), (a_t_draft, .inl (c_t_draft, n_t_draft, .inl e_t_draft_17))] := hD
      replace h := Option.some.inj h
      replace h := Prod.mk.inj h
      obtain ⟨h1, h⟩ := h
      subst h1
      replace h := Prod.mk.inj h
      obtain ⟨h1, h⟩ := h
      subst h1
      replace h := Prod.mk.inj h
      obtain ⟨h1, h⟩ := h
      subst h1
      replace h := Prod.mk.inj h
      obtain ⟨h1, h⟩ := h
      subst h1
      replace h := Prod.mk.inj h
      obtain ⟨h1, h⟩ := h
      subst h1
      replace h := Prod.mk.inj h
      obtain ⟨h1, h⟩ := h
      subst h1
      replace h := Prod.mk.inj h
      obtain ⟨h1, h⟩ := h
      subst h1
      replace h := Prod.mk.inj h
      obtain ⟨h1, h⟩ := h
      subst h1
      replace h := Prod.mk.inj h
      obtain ⟨h1, h⟩ := h
      subst h1
      replace h := Prod.mk.inj h
      obtain ⟨h1, h⟩ := h
      subst h1
      subst h
      exact hret _ _ (hP.sub [4, 5, 0, 1, 2, 3, 6] rfl) (hD.sub [4, 5, 0, 1, 2, 3, 6] (by decide) rfl) hS _ _ d_Md_places_34
    replace h := hj_18
    clear hj_18
    refine lv_if_ne (tgt := 30) hx hb d_Md_places_21 (by decide) (fun c_24 => ?_) (fun c_24 => ?_)
    · rw [if_neg c_24] at h
      replace h := Option.some.inj h
      replace h := Prod.mk.inj h
      obtain ⟨h1, h⟩ := h
      subst h1
      replace h := Prod.mk.inj h
      obtain ⟨h1, h⟩ := h
      subst h1
      replace h := Prod.mk.inj h
      obtain ⟨h1, h⟩ := h
      subst h1
      replace h := Prod.mk.inj h
      obtain ⟨h1, h⟩ := h
      subst h1
      replace h := Prod.mk.inj h
      obtain ⟨h1, h⟩ := h
      subst h1
      replace h := Prod.mk.inj h
      obtain ⟨h1, h⟩ := h
      subst h1
      subst h
      exact hJ_19 _ _ _ (hP.sub [5, 0, 1, 2, 3, 4, 6] rfl) (hD.sub [5, 0, 1, 2, 3, 4, 6] (by decide) rfl) hS (lv_sub hl [0] rfl)
    · rw [if_pos c_24] at h
      refine lv_aload_n hx hb d_Md_places_24 rfl (lv_at hl 0 rfl) ?_
      refine lv_lload_n hx hb d_Md_places_25 rfl (lv_at hl 1 rfl) ?_
      refine lv_iload_n hx hb d_Md_places_26 rfl (lv_at hl 2 rfl) ?_
      replace h := xob_s h
      obtain ⟨⟨s_t_limbCount_25, s_t_size_26, e_t_digits_27, e_t_counts_28, e_t_points_29, e_t_limbs_30, e_t_draft_31⟩, hc_32, h⟩ := h
      try dsimp only at h
      refine xcV (As := [.long x1, .int x3]) (rest := []) (st1 := []) (wr := [(a_t_text, .inl (c_t_text, n_t_text, .inl e_t_text))]) ⟨hx, hb, hml, hown, hts⟩ (c_Md_toPlaces l dC dI a_t a_t_text a_t_digits a_t_counts a_t_points a_t_limbs a_t_cells a_t_lines a_t_draft c_t_digits c_t_counts c_t_points c_t_limbs c_t_draft n_t_digits n_t_counts n_t_points n_t_limbs n_t_draft s_t_thrown_4 s_t_length s_t_place s_t_limbCount s_t_rows s_t_columns s_t_laid s_t_size_8 e_t_digits e_t_counts e_t_points e_t_limbs e_t_draft_9 x1 x3 s_t_limbCount_25 s_t_size_26 e_t_digits_27 e_t_counts_28 e_t_points_29 e_t_limbs_30 e_t_draft_31 hc_32) (cwV 2 hts (xgoodV g_916 g_918 gp_45 g_10 g_919) rfl rfl rfl (by decide +kernel) ⟨Nat.le_of_ble_eq_true rfl, Nat.le_of_ble_eq_true rfl⟩) hNz (ci := 8) (q0 := 5) rfl rfl hA hP hD hS hK [5, 1, 2, 3, 4, 6] [0] [1, 2, 3, 4, 5] rfl rfl rfl rfl (by decide) rfl rfl rfl rfl hl.1 (Nat.le_of_ble_eq_true rfl) ⟨Nat.zero_le _, Nat.zero_le _⟩ d_Md_places_27 (fun H locs hP hD hS => ?_)
      have hP : va_P (dC, dI) x_cl [(a_t_text, .inl (c_t_text, n_t_text, .inl e_t_text)), (a_t, .inr (8, [.int s_t_thrown_4, .int s_t_length, .ref a_t_text, .int s_t_place, .ref a_t_digits, .ref a_t_counts, .ref a_t_points, .ref a_t_limbs, .int s_t_limbCount_25, .int s_t_rows, .int s_t_columns, .ref a_t_cells, .int s_t_laid, .ref a_t_lines, .int s_t_size_26, .ref a_t_draft])), (a_t_digits, .inl (c_t_digits, n_t_digits, .inl e_t_digits_27)), (a_t_counts, .inl (c_t_counts, n_t_counts, .inl e_t_counts_28)), (a_t_points, .inl (c_t_points, n_t_points, .inl e_t_points_29)), (a_t_limbs, .inl (c_t_limbs, n_t_limbs, .inl e_t_limbs_30)), (a_t_draft, .inl (c_t_draft, n_t_draft, .inl e_t_draft_31))] H := hP
      have hD : va_D A [(a_t_text, .inl (c_t_text, n_t_text, .inl e_t_text)), (a_t, .inr (8, [.int s_t_thrown_4, .int s_t_length, .ref a_t_text, .int s_t_place, .ref a_t_digits, .ref a_t_counts, .ref a_t_points, .ref a_t_limbs, .int s_t_limbCount_25, .int s_t_rows, .int s_t_columns, .ref a_t_cells, .int s_t_laid, .ref a_t_lines, .int s_t_size_26, .ref a_t_draft])), (a_t_digits, .inl (c_t_digits, n_t_digits, .inl e_t_digits_27)), (a_t_counts, .inl (c_t_counts, n_t_counts, .inl e_t_counts_28)), (a_t_points, .inl (c_t_points, n_t_points, .inl e_t_points_29)), (a_t_limbs, .inl (c_t_limbs, n_t_limbs, .inl e_t_limbs_30)), (a_t_draft, .inl (c_t_draft, n_t_draft, .inl e_t_draft_31))] := hD
      replace h := Option.some.inj h
      replace h := Prod.mk.inj h
      obtain ⟨h1, h⟩ := h
      subst h1
      replace h := Prod.mk.inj h
      obtain ⟨h1, h⟩ := h
      subst h1
      replace h := Prod.mk.inj h
      obtain ⟨h1, h⟩ := h
      subst h1
      replace h := Prod.mk.inj h
      obtain ⟨h1, h⟩ := h
      subst h1
      replace h := Prod.mk.inj h
      obtain ⟨h1, h⟩ := h
      subst h1
      replace h := Prod.mk.inj h
      obtain ⟨h1, h⟩ := h
      subst h1
      subst h
      exact hJ_19 _ _ _ (hP.sub [1, 0, 2, 3, 4, 5, 6] rfl) (hD.sub [1, 0, 2, 3, 4, 5, 6] (by decide) rfl) hS (lv_sub hl [0] rfl)
  · rw [if_pos c_6] at h
    refine lv_iconst (v := 0) hx hb d_Md_places_14 (by decide) ?_
    replace h := Option.some.inj h
    replace h := Prod.mk.inj h
    obtain ⟨h1, h⟩ := h
    subst h1
    replace h := Prod.mk.inj h
    obtain ⟨h1, h⟩ := h
    subst h1
    replace h := Prod.mk.inj h
    obtain ⟨h1, h⟩ := h
    subst h1
    replace h := Prod.mk.inj h
    obtain ⟨h1, h⟩ := h
    subst h1
    replace h := Prod.mk.inj h
    obtain ⟨h1, h⟩ := h
    subst h1
    replace h := Prod.mk.inj h
    obtain ⟨h1, h⟩ := h
    subst h1
    replace h := Prod.mk.inj h
    obtain ⟨h1, h⟩ := h
    subst h1
    replace h := Prod.mk.inj h
    obtain ⟨h1, h⟩ := h
    subst h1
    replace h := Prod.mk.inj h
    obtain ⟨h1, h⟩ := h
    subst h1
    replace h := Prod.mk.inj h
    obtain ⟨h1, h⟩ := h
    subst h1
    subst h
    exact hret _ _ (hP.sub [6, 0, 1, 2, 3, 4, 5] rfl) (hD.sub [6, 0, 1, 2, 3, 4, 5] (by decide) rfl) hS _ _ d_Md_places_15
def f_Md_full (n_t_text : Nat) (n_t_digits : Nat) (n_t_counts : Nat) (n_t_points : Nat) (n_t_limbs : Nat) (n_t_draft : Nat) (s_t_thrown : Int32) (s_t_length : Int32) (s_t_place : Int32) (s_t_limbCount : Int32) (s_t_rows : Int32) (s_t_columns : Int32) (s_t_laid : Int32) (s_t_size : Int32) (e_t_text : Nat → Int32) (e_t_digits : Nat → Int32) (e_t_counts : Nat → Int32) (e_t_points : Nat → Int32) (e_t_limbs : Nat → Int32) (e_t_draft : Nat → Int32) (x1 : Int64) : Option (Int32 × Int32 × Int32 × Int32 × Int32 × (Nat → Int32) × (Nat → Int32) × (Nat → Int32) × (Nat → Int32) × (Nat → Int32) × (Nat → Int32)) :=
  xob (f_Md_special n_t_draft (0 : Int32) s_t_length s_t_place s_t_limbCount s_t_rows s_t_columns s_t_laid s_t_size e_t_draft x1) fun (r_1, s_t_size_2, e_t_draft_3) => xob (if r_1 = 0 then (xob (f_Md_isZero x1) fun r_19 => if r_19 = 0 then (xob (f_Md_value n_t_digits n_t_counts n_t_points n_t_limbs (0 : Int32) s_t_length s_t_place s_t_limbCount s_t_rows s_t_columns s_t_laid s_t_size_2 e_t_digits e_t_counts e_t_points e_t_limbs (0 : Int32) (x1 &&& (9223372036854775807 : Int64))) fun (s_t_limbCount_22, e_t_digits_23, e_t_counts_24, e_t_points_25, e_t_limbs_26) => if ((0 : Int32) < 0 ∨ n_t_points ≤ (0 : Int32).toNatClampNeg) then none else xnm (e_t_points_25 (0 : Int32).toNatClampNeg) fun x3_29 => if 0 < x3_29 then (xob (f_Md_putDigits n_t_digits n_t_counts n_t_draft (0 : Int32) s_t_length s_t_place s_t_limbCount_22 s_t_rows s_t_columns s_t_laid s_t_size_2 e_t_digits_23 e_t_counts_24 e_t_draft_3 (0 : Int32) (0 : Int32) x3_29) fun (s_t_size_31, e_t_draft_32) => if ((0 : Int32) < 0 ∨ n_t_counts ≤ (0 : Int32).toNatClampNeg) then none else if (e_t_counts_24 (0 : Int32).toNatClampNeg) ≤ x3_29 then (some (s_t_limbCount_22, s_t_size_31, e_t_digits_23, e_t_counts_24, e_t_points_25, e_t_limbs_26, e_t_draft_32)) else (xob (f_Md_put n_t_draft (0 : Int32) s_t_length s_t_place s_t_limbCount_22 s_t_rows s_t_columns s_t_laid s_t_size_31 e_t_draft_32 (46 : Int32)) fun (s_t_size_36, e_t_draft_37) => if ((0 : Int32) < 0 ∨ n_t_counts ≤ (0 : Int32).toNatClampNeg) then none else xob (f_Md_putDigits n_t_digits n_t_counts n_t_draft (0 : Int32) s_t_length s_t_place s_t_limbCount_22 s_t_rows s_t_columns s_t_laid s_t_size_36 e_t_digits_23 e_t_counts_24 e_t_draft_37 (0 : Int32) x3_29 (e_t_counts_24 (0 : Int32).toNatClampNeg)) fun (s_t_size_40, e_t_draft_41) => some (s_t_limbCount_22, s_t_size_40, e_t_digits_23, e_t_counts_24, e_t_points_25, e_t_limbs_26, e_t_draft_41))) else (xob (f_Md_put n_t_draft (0 : Int32) s_t_length s_t_place s_t_limbCount_22 s_t_rows s_t_columns s_t_laid s_t_size_2 e_t_draft_3 (48 : Int32)) fun (s_t_size_43, e_t_draft_44) => xob (f_Md_put n_t_draft (0 : Int32) s_t_length s_t_place s_t_limbCount_22 s_t_rows s_t_columns s_t_laid s_t_size_43 e_t_draft_44 (46 : Int32)) fun (s_t_size_46, e_t_draft_47) => xob (f_Md_putZeros n_t_draft (0 : Int32) s_t_length s_t_place s_t_limbCount_22 s_t_rows s_t_columns s_t_laid s_t_size_46 e_t_draft_47 (-x3_29)) fun (s_t_size_49, e_t_draft_50) => if ((0 : Int32) < 0 ∨ n_t_counts ≤ (0 : Int32).toNatClampNeg) then none else xob (f_Md_putDigits n_t_digits n_t_counts n_t_draft (0 : Int32) s_t_length s_t_place s_t_limbCount_22 s_t_rows s_t_columns s_t_laid s_t_size_49 e_t_digits_23 e_t_counts_24 e_t_draft_50 (0 : Int32) (0 : Int32) (e_t_counts_24 (0 : Int32).toNatClampNeg)) fun (s_t_size_53, e_t_draft_54) => some (s_t_limbCount_22, s_t_size_53, e_t_digits_23, e_t_counts_24, e_t_points_25, e_t_limbs_26, e_t_draft_54))) else (xob (f_Md_put n_t_draft (0 : Int32) s_t_length s_t_place s_t_limbCount s_t_rows s_t_columns s_t_laid s_t_size_2 e_t_draft_3 (48 : Int32)) fun (s_t_size_56, e_t_draft_57) => some (s_t_limbCount, s_t_size_56, e_t_digits, e_t_counts, e_t_points, e_t_limbs, e_t_draft_57))) else (some (s_t_limbCount, s_t_size_2, e_t_digits, e_t_counts, e_t_points, e_t_limbs, e_t_draft_3))) fun (s_t_limbCount_5, s_t_size_6, e_t_digits_7, e_t_counts_8, e_t_points_9, e_t_limbs_10, e_t_draft_11) => xob (f_Md_done n_t_text n_t_draft (0 : Int32) s_t_length s_t_place s_t_limbCount_5 s_t_rows s_t_columns s_t_laid s_t_size_6 e_t_text e_t_draft_11) fun (r_14, s_t_length_15, e_t_text_16) => some (r_14, s_t_length_15, s_t_limbCount_5, s_t_size_6, (0 : Int32), e_t_text_16, e_t_digits_7, e_t_counts_8, e_t_points_9, e_t_limbs_10, e_t_draft_11)
def rm_Md_full : Room := { frames := 4, cells := 0, slots := 0, locals := 104 }
set_option maxHeartbeats 4000000 in
set_option maxRecDepth 100000 in
theorem c_Md_full (l : Launch) (dC : Nat → ClassId) (dI : Nat → Nat → Nat) (a_t a_t_text a_t_digits a_t_counts a_t_points a_t_limbs a_t_cells a_t_lines a_t_draft : Nat) (c_t_text c_t_digits c_t_counts c_t_points c_t_limbs c_t_draft : ClassId) (n_t_text : Nat) (n_t_digits : Nat) (n_t_counts : Nat) (n_t_points : Nat) (n_t_limbs : Nat) (n_t_draft : Nat) (s_t_thrown : Int32) (s_t_length : Int32) (s_t_place : Int32) (s_t_limbCount : Int32) (s_t_rows : Int32) (s_t_columns : Int32) (s_t_laid : Int32) (s_t_size : Int32) (e_t_text : Nat → Int32) (e_t_digits : Nat → Int32) (e_t_counts : Nat → Int32) (e_t_points : Nat → Int32) (e_t_limbs : Nat → Int32) (e_t_draft : Nat → Int32) (x1 : Int64) (r_ : Int32) (s_t_length_o : Int32) (s_t_limbCount_o : Int32) (s_t_size_o : Int32) (s_t_thrown_o : Int32) (e_t_text_o : Nat → Int32) (e_t_digits_o : Nat → Int32) (e_t_counts_o : Nat → Int32) (e_t_points_o : Nat → Int32) (e_t_limbs_o : Nat → Int32) (e_t_draft_o : Nat → Int32) (h : f_Md_full n_t_text n_t_digits n_t_counts n_t_points n_t_limbs n_t_draft s_t_thrown s_t_length s_t_place s_t_limbCount s_t_rows s_t_columns s_t_laid s_t_size e_t_text e_t_digits e_t_counts e_t_points e_t_limbs e_t_draft x1 = some (r_, s_t_length_o, s_t_limbCount_o, s_t_size_o, s_t_thrown_o, e_t_text_o, e_t_digits_o, e_t_counts_o, e_t_points_o, e_t_limbs_o, e_t_draft_o)) : xM l y_Md_full (Cond.code y_Md_full b_Md_full 4 (some .int) :: xG) rm_Md_full (dC, dI) x_cl x_nz [.ref a_t, .long x1] [(c_t_text, .int), (c_t_digits, .int), (c_t_counts, .int), (c_t_points, .int), (c_t_limbs, .int), (c_t_draft, .int)] [(a_t, .inr (8, [.int s_t_thrown, .int s_t_length, .ref a_t_text, .int s_t_place, .ref a_t_digits, .ref a_t_counts, .ref a_t_points, .ref a_t_limbs, .int s_t_limbCount, .int s_t_rows, .int s_t_columns, .ref a_t_cells, .int s_t_laid, .ref a_t_lines, .int s_t_size, .ref a_t_draft])), (a_t_text, .inl (c_t_text, n_t_text, .inl e_t_text)), (a_t_digits, .inl (c_t_digits, n_t_digits, .inl e_t_digits)), (a_t_counts, .inl (c_t_counts, n_t_counts, .inl e_t_counts)), (a_t_points, .inl (c_t_points, n_t_points, .inl e_t_points)), (a_t_limbs, .inl (c_t_limbs, n_t_limbs, .inl e_t_limbs)), (a_t_draft, .inl (c_t_draft, n_t_draft, .inl e_t_draft))] (some (.int r_)) [(a_t, .inr (8, [.int s_t_thrown_o, .int s_t_length_o, .ref a_t_text, .int s_t_place, .ref a_t_digits, .ref a_t_counts, .ref a_t_points, .ref a_t_limbs, .int s_t_limbCount_o, .int s_t_rows, .int s_t_columns, .ref a_t_cells, .int s_t_laid, .ref a_t_lines, .int s_t_size_o, .ref a_t_draft])), (a_t_text, .inl (c_t_text, n_t_text, .inl e_t_text_o)), (a_t_digits, .inl (c_t_digits, n_t_digits, .inl e_t_digits_o)), (a_t_counts, .inl (c_t_counts, n_t_counts, .inl e_t_counts_o)), (a_t_points, .inl (c_t_points, n_t_points, .inl e_t_points_o)), (a_t_limbs, .inl (c_t_limbs, n_t_limbs, .inl e_t_limbs_o)), (a_t_draft, .inl (c_t_draft, n_t_draft, .inl e_t_draft_o))] := by
  unfold f_Md_full at h
  refine xM.mkI (cc := b_Md_full) (maxL := 4)  (by decide +kernel) rfl (Nat.le_of_ble_eq_true rfl) ?_
  intro p e s m args below meth c A Q ls hx hb hml hown hts hNz hA hP hD hK hl hret
  have hS : va_S A s.heap s.heap [] := va_S.rf
  have hl : lv_has ls 4 [(0, .ref a_t), (1, .long x1)] := hl
  refine lv_aload_n hx hb d_Md_full_0 rfl (lv_at hl 0 rfl) ?_
  refine lv_iconst (v := 0) hx hb d_Md_full_1 (by decide) ?_
  refine va_put (D := (dC, dI)) (ci := 8) (v := .int (0 : Int32)) (ty := .int) (C := R_Md) (T := T_Md) (N := 16) hx hb hts in_Md ty_Md tyok_Md nn_Md hown hK hP hD hS 0 rfl rfl 0 (by decide) (hts _ g_706) (fun _ h9 => h9) rfl (by decide +kernel) rfl rfl (Nat.le_of_ble_eq_true rfl) d_Md_full_2 (fun H locs hP hD hS => ?_)
  have hP : va_P (dC, dI) x_cl [(a_t, .inr (8, [.int (0 : Int32), .int s_t_length, .ref a_t_text, .int s_t_place, .ref a_t_digits, .ref a_t_counts, .ref a_t_points, .ref a_t_limbs, .int s_t_limbCount, .int s_t_rows, .int s_t_columns, .ref a_t_cells, .int s_t_laid, .ref a_t_lines, .int s_t_size, .ref a_t_draft])), (a_t_text, .inl (c_t_text, n_t_text, .inl e_t_text)), (a_t_digits, .inl (c_t_digits, n_t_digits, .inl e_t_digits)), (a_t_counts, .inl (c_t_counts, n_t_counts, .inl e_t_counts)), (a_t_points, .inl (c_t_points, n_t_points, .inl e_t_points)), (a_t_limbs, .inl (c_t_limbs, n_t_limbs, .inl e_t_limbs)), (a_t_draft, .inl (c_t_draft, n_t_draft, .inl e_t_draft))] H := hP
  have hD : va_D A [(a_t, .inr (8, [.int (0 : Int32), .int s_t_length, .ref a_t_text, .int s_t_place, .ref a_t_digits, .ref a_t_counts, .ref a_t_points, .ref a_t_limbs, .int s_t_limbCount, .int s_t_rows, .int s_t_columns, .ref a_t_cells, .int s_t_laid, .ref a_t_lines, .int s_t_size, .ref a_t_draft])), (a_t_text, .inl (c_t_text, n_t_text, .inl e_t_text)), (a_t_digits, .inl (c_t_digits, n_t_digits, .inl e_t_digits)), (a_t_counts, .inl (c_t_counts, n_t_counts, .inl e_t_counts)), (a_t_points, .inl (c_t_points, n_t_points, .inl e_t_points)), (a_t_limbs, .inl (c_t_limbs, n_t_limbs, .inl e_t_limbs)), (a_t_draft, .inl (c_t_draft, n_t_draft, .inl e_t_draft))] := hD
  refine lv_aload_n hx hb d_Md_full_5 rfl (lv_at hl 0 rfl) ?_
  refine lv_lload_n hx hb d_Md_full_6 rfl (lv_at hl 1 rfl) ?_
  replace h := xob_s h
  obtain ⟨⟨r_1, s_t_size_2, e_t_draft_3⟩, hc_4, h⟩ := h
  try dsimp only at h
  refine xcV (As := [.long x1]) (rest := []) (st1 := [.int r_1]) (wr := [(a_t_text, .inl (c_t_text, n_t_text, .inl e_t_text)), (a_t_digits, .inl (c_t_digits, n_t_digits, .inl e_t_digits)), (a_t_counts, .inl (c_t_counts, n_t_counts, .inl e_t_counts)), (a_t_points, .inl (c_t_points, n_t_points, .inl e_t_points)), (a_t_limbs, .inl (c_t_limbs, n_t_limbs, .inl e_t_limbs))]) ⟨hx, hb, hml, hown, hts⟩ (c_Md_special l dC dI a_t a_t_text a_t_digits a_t_counts a_t_points a_t_limbs a_t_cells a_t_lines a_t_draft c_t_draft n_t_draft (0 : Int32) s_t_length s_t_place s_t_limbCount s_t_rows s_t_columns s_t_laid s_t_size e_t_draft x1 r_1 s_t_size_2 e_t_draft_3 hc_4) (cwV 1 hts (xgoodV g_848 g_850 gp_31 g_10 g_851) rfl rfl rfl (by decide +kernel) ⟨Nat.le_of_ble_eq_true rfl, Nat.le_of_ble_eq_true rfl⟩) hNz (ci := 8) (q0 := 0) rfl rfl hA hP hD hS hK [0, 6] [1, 2, 3, 4, 5] [5] rfl rfl rfl rfl (by decide) rfl rfl rfl rfl hl.1 (Nat.le_of_ble_eq_true rfl) ⟨Nat.zero_le _, Nat.zero_le _⟩ d_Md_full_7 (fun H locs hP hD hS => ?_)
  have hP : va_P (dC, dI) x_cl [(a_t_text, .inl (c_t_text, n_t_text, .inl e_t_text)), (a_t_digits, .inl (c_t_digits, n_t_digits, .inl e_t_digits)), (a_t_counts, .inl (c_t_counts, n_t_counts, .inl e_t_counts)), (a_t_points, .inl (c_t_points, n_t_points, .inl e_t_points)), (a_t_limbs, .inl (c_t_limbs, n_t_limbs, .inl e_t_limbs)), (a_t, .inr (8, [.int (0 : Int32), .int s_t_length, .ref a_t_text, .int s_t_place, .ref a_t_digits, .ref a_t_counts, .ref a_t_points, .ref a_t_limbs, .int s_t_limbCount, .int s_t_rows, .int s_t_columns, .ref a_t_cells, .int s_t_laid, .ref a_t_lines, .int s_t_size_2, .ref a_t_draft])), (a_t_draft, .inl (c_t_draft, n_t_draft, .inl e_t_draft_3))] H := hP
  have hD : va_D A [(a_t_text, .inl (c_t_text, n_t_text, .inl e_t_text)), (a_t_digits, .inl (c_t_digits, n_t_digits, .inl e_t_digits)), (a_t_counts, .inl (c_t_counts, n_t_counts, .inl e_t_counts)), (a_t_points, .inl (c_t_points, n_t_points, .inl e_t_points)), (a_t_limbs, .inl (c_t_limbs, n_t_limbs, .inl e_t_limbs)), (a_t, .inr (8, [.int (0 : Int32), .int s_t_length, .ref a_t_text, .int s_t_place, .ref a_t_digits, .ref a_t_counts, .ref a_t_points, .ref a_t_limbs, .int s_t_limbCount, .int s_t_rows, .int s_t_columns, .ref a_t_cells, .int s_t_laid, .ref a_t_lines, .int s_t_size_2, .ref a_t_draft])), (a_t_draft, .inl (c_t_draft, n_t_draft, .inl e_t_draft_3))] := hD
  replace h := xob_s h
  obtain ⟨⟨s_t_limbCount_5, s_t_size_6, e_t_digits_7, e_t_counts_8, e_t_points_9, e_t_limbs_10, e_t_draft_11⟩, hj_12, h⟩ := h
  try dsimp only at h
  have hJ_13 : ∀ (H : Heap) (locs : List Loc) (ls : Array Slot), va_P (dC, dI) x_cl [(a_t, .inr (8, [.int (0 : Int32), .int s_t_length, .ref a_t_text, .int s_t_place, .ref a_t_digits, .ref a_t_counts, .ref a_t_points, .ref a_t_limbs, .int s_t_limbCount_5, .int s_t_rows, .int s_t_columns, .ref a_t_cells, .int s_t_laid, .ref a_t_lines, .int s_t_size_6, .ref a_t_draft])), (a_t_text, .inl (c_t_text, n_t_text, .inl e_t_text)), (a_t_digits, .inl (c_t_digits, n_t_digits, .inl e_t_digits_7)), (a_t_counts, .inl (c_t_counts, n_t_counts, .inl e_t_counts_8)), (a_t_points, .inl (c_t_points, n_t_points, .inl e_t_points_9)), (a_t_limbs, .inl (c_t_limbs, n_t_limbs, .inl e_t_limbs_10)), (a_t_draft, .inl (c_t_draft, n_t_draft, .inl e_t_draft_11))] H → va_D A [(a_t, .inr (8, [.int (0 : Int32), .int s_t_length, .ref a_t_text, .int s_t_place, .ref a_t_digits, .ref a_t_counts, .ref a_t_points, .ref a_t_limbs, .int s_t_limbCount_5, .int s_t_rows, .int s_t_columns, .ref a_t_cells, .int s_t_laid, .ref a_t_lines, .int s_t_size_6, .ref a_t_draft])), (a_t_text, .inl (c_t_text, n_t_text, .inl e_t_text)), (a_t_digits, .inl (c_t_digits, n_t_digits, .inl e_t_digits_7)), (a_t_counts, .inl (c_t_counts, n_t_counts, .inl e_t_counts_8)), (a_t_points, .inl (c_t_points, n_t_points, .inl e_t_points_9)), (a_t_limbs, .inl (c_t_limbs, n_t_limbs, .inl e_t_limbs_10)), (a_t_draft, .inl (c_t_draft, n_t_draft, .inl e_t_draft_11))] → va_S A s.heap H locs → lv_has ls 4 [(0, .ref a_t)] → W p l e rm_Md_full s m args below meth c H locs 0 0 Q (F0 m 118 ls []) := by
    intro H locs ls hP hD hS hl
    refine lv_aload_n hx hb d_Md_full_118 rfl (lv_at hl 0 rfl) ?_
    replace h := xob_s h
    obtain ⟨⟨r_14, s_t_length_15, e_t_text_16⟩, hc_17, h⟩ := h
    try dsimp only at h
    refine xcV (As := []) (rest := []) (st1 := [.int r_14]) (wr := [(a_t_digits, .inl (c_t_digits, n_t_digits, .inl e_t_digits_7)), (a_t_counts, .inl (c_t_counts, n_t_counts, .inl e_t_counts_8)), (a_t_points, .inl (c_t_points, n_t_points, .inl e_t_points_9)), (a_t_limbs, .inl (c_t_limbs, n_t_limbs, .inl e_t_limbs_10))]) ⟨hx, hb, hml, hown, hts⟩ (c_Md_done l dC dI a_t a_t_text a_t_digits a_t_counts a_t_points a_t_limbs a_t_cells a_t_lines a_t_draft c_t_text c_t_draft n_t_text n_t_draft (0 : Int32) s_t_length s_t_place s_t_limbCount_5 s_t_rows s_t_columns s_t_laid s_t_size_6 e_t_text e_t_draft_11 r_14 s_t_length_15 e_t_text_16 hc_17) (cwV 0 hts (xgoodV g_900 g_902 gp_43 g_10 g_903) rfl rfl rfl (by decide +kernel) ⟨Nat.le_of_ble_eq_true rfl, Nat.le_of_ble_eq_true rfl⟩) hNz (ci := 8) (q0 := 0) rfl rfl hA hP hD hS hK [0, 1, 6] [2, 3, 4, 5] [0, 5] rfl rfl rfl rfl (by decide) rfl rfl rfl rfl hl.1 (Nat.le_of_ble_eq_true rfl) ⟨Nat.zero_le _, Nat.zero_le _⟩ d_Md_full_119 (fun H locs hP hD hS => ?_)
    have hP : va_P (dC, dI) x_cl [(a_t_digits, .inl (c_t_digits, n_t_digits, .inl e_t_digits_7)), (a_t_counts, .inl (c_t_counts, n_t_counts, .inl e_t_counts_8)), (a_t_points, .inl (c_t_points, n_t_points, .inl e_t_points_9)), (a_t_limbs, .inl (c_t_limbs, n_t_limbs, .inl e_t_limbs_10)), (a_t, .inr (8, [.int (0 : Int32), .int s_t_length_15, .ref a_t_text, .int s_t_place, .ref a_t_digits, .ref a_t_counts, .ref a_t_points, .ref a_t_limbs, .int s_t_limbCount_5, .int s_t_rows, .int s_t_columns, .ref a_t_cells, .int s_t_laid, .ref a_t_lines, .int s_t_size_6, .ref a_t_draft])), (a_t_text, .inl (c_t_text, n_t_text, .inl e_t_text_16)), (a_t_draft, .inl (c_t_draft, n_t_draft, .inl e_t_draft_11))] H := hP
    have hD : va_D A [(a_t_digits, .inl (c_t_digits, n_t_digits, .inl e_t_digits_7)), (a_t_counts, .inl (c_t_counts, n_t_counts, .inl e_t_counts_8)), (a_t_points, .inl (c_t_points, n_t_points, .inl e_t_points_9)), (a_t_limbs, .inl (c_t_limbs, n_t_limbs, .inl e_t_limbs_10)), (a_t, .inr (8, [.int (0 : Int32), .int s_t_length_15, .ref a_t_text, .int s_t_place, .ref a_t_digits, .ref a_t_counts, .ref a_t_points, .ref a_t_limbs, .int s_t_limbCount_5, .int s_t_rows, .int s_t_columns, .ref a_t_cells, .int s_t_laid, .ref a_t_lines, .int s_t_size_6, .ref a_t_draft])), (a_t_text, .inl (c_t_text, n_t_text, .inl e_t_text_16)), (a_t_draft, .inl (c_t_draft, n_t_draft, .inl e_t_draft_11))] := hD
    replace h := Option.some.inj h
    replace h := Prod.mk.inj h
    obtain ⟨h1, h⟩ := h
    subst h1
    replace h := Prod.mk.inj h
    obtain ⟨h1, h⟩ := h
    subst h1
    replace h := Prod.mk.inj h
    obtain ⟨h1, h⟩ := h
    subst h1
    replace h := Prod.mk.inj h
    obtain ⟨h1, h⟩ := h
    subst h1
    replace h := Prod.mk.inj h
    obtain ⟨h1, h⟩ := h
    subst h1
    replace h := Prod.mk.inj h
    obtain ⟨h1, h⟩ := h
    subst h1
    replace h := Prod.mk.inj h
    obtain ⟨h1, h⟩ := h
    subst h1
    replace h := Prod.mk.inj h
    obtain ⟨h1, h⟩ := h
    subst h1
    replace h := Prod.mk.inj h
    obtain ⟨h1, h⟩ := h
    subst h1
    replace h := Prod.mk.inj h
    obtain ⟨h1, h⟩ := h
    subst h1
    subst h
    exact hret _ _ (hP.sub [4, 5, 0, 1, 2, 3, 6] rfl) (hD.sub [4, 5, 0, 1, 2, 3, 6] (by decide) rfl) hS _ _ d_Md_full_122
  replace h := hj_12
  clear hj_12
  refine lv_if_ne (tgt := 118) hx hb d_Md_full_10 (by decide) (fun c_18 => ?_) (fun c_18 => ?_)
  · rw [if_neg c_18] at h
    replace h := Option.some.inj h
    replace h := Prod.mk.inj h
    obtain ⟨h1, h⟩ := h
    subst h1
    replace h := Prod.mk.inj h
    obtain ⟨h1, h⟩ := h
    subst h1
    replace h := Prod.mk.inj h
    obtain ⟨h1, h⟩ := h
    subst h1
    replace h := Prod.mk.inj h
    obtain ⟨h1, h⟩ := h
    subst h1
    replace h := Prod.mk.inj h
    obtain ⟨h1, h⟩ := h
    subst h1
    replace h := Prod.mk.inj h
    obtain ⟨h1, h⟩ := h
    subst h1
    subst h
    exact hJ_13 _ _ _ (hP.sub [5, 0, 1, 2, 3, 4, 6] rfl) (hD.sub [5, 0, 1, 2, 3, 4, 6] (by decide) rfl) hS (lv_sub hl [0] rfl)
  · rw [if_pos c_18] at h
    refine lv_lload_n hx hb d_Md_full_13 rfl (lv_at hl 1 rfl) ?_
    replace h := xob_s h
    obtain ⟨r_19, hc_20, h⟩ := h
    try dsimp only at h
    refine xcS (As := [.long x1]) (rest := []) (st1 := [.int r_19]) (wr := [(a_t_text, .inl (c_t_text, n_t_text, .inl e_t_text)), (a_t_digits, .inl (c_t_digits, n_t_digits, .inl e_t_digits)), (a_t_counts, .inl (c_t_counts, n_t_counts, .inl e_t_counts)), (a_t_points, .inl (c_t_points, n_t_points, .inl e_t_points)), (a_t_limbs, .inl (c_t_limbs, n_t_limbs, .inl e_t_limbs)), (a_t, .inr (8, [.int (0 : Int32), .int s_t_length, .ref a_t_text, .int s_t_place, .ref a_t_digits, .ref a_t_counts, .ref a_t_points, .ref a_t_limbs, .int s_t_limbCount, .int s_t_rows, .int s_t_columns, .ref a_t_cells, .int s_t_laid, .ref a_t_lines, .int s_t_size_2, .ref a_t_draft])), (a_t_draft, .inl (c_t_draft, n_t_draft, .inl e_t_draft_3))]) ⟨hx, hb, hml, hown, hts⟩ (c_Md_isZero l dC dI x1 r_19 hc_20) (⟨callB_of 1 hts (xgood g_863) rfl rfl rfl (hts _ g_10) (hts _ g_861) (by decide +kernel) ⟨Nat.le_of_ble_eq_true rfl, Nat.le_of_ble_eq_true rfl⟩, (hts _ g_862)⟩) hNz hA hP hD hS hK [] [0, 1, 2, 3, 4, 5, 6] [] rfl rfl rfl rfl (by decide) rfl rfl rfl rfl hl.1 (Nat.le_of_ble_eq_true rfl) ⟨Nat.zero_le _, Nat.zero_le _⟩ d_Md_full_14 (fun H locs hP hD hS => ?_)
    have hP : va_P (dC, dI) x_cl [(a_t_text, .inl (c_t_text, n_t_text, .inl e_t_text)), (a_t_digits, .inl (c_t_digits, n_t_digits, .inl e_t_digits)), (a_t_counts, .inl (c_t_counts, n_t_counts, .inl e_t_counts)), (a_t_points, .inl (c_t_points, n_t_points, .inl e_t_points)), (a_t_limbs, .inl (c_t_limbs, n_t_limbs, .inl e_t_limbs)), (a_t, .inr (8, [.int (0 : Int32), .int s_t_length, .ref a_t_text, .int s_t_place, .ref a_t_digits, .ref a_t_counts, .ref a_t_points, .ref a_t_limbs, .int s_t_limbCount, .int s_t_rows, .int s_t_columns, .ref a_t_cells, .int s_t_laid, .ref a_t_lines, .int s_t_size_2, .ref a_t_draft])), (a_t_draft, .inl (c_t_draft, n_t_draft, .inl e_t_draft_3))] H := hP
    have hD : va_D A [(a_t_text, .inl (c_t_text, n_t_text, .inl e_t_text)), (a_t_digits, .inl (c_t_digits, n_t_digits, .inl e_t_digits)), (a_t_counts, .inl (c_t_counts, n_t_counts, .inl e_t_counts)), (a_t_points, .inl (c_t_points, n_t_points, .inl e_t_points)), (a_t_limbs, .inl (c_t_limbs, n_t_limbs, .inl e_t_limbs)), (a_t, .inr (8, [.int (0 : Int32), .int s_t_length, .ref a_t_text, .int s_t_place, .ref a_t_digits, .ref a_t_counts, .ref a_t_points, .ref a_t_limbs, .int s_t_limbCount, .int s_t_rows, .int s_t_columns, .ref a_t_cells, .int s_t_laid, .ref a_t_lines, .int s_t_size_2, .ref a_t_draft])), (a_t_draft, .inl (c_t_draft, n_t_draft, .inl e_t_draft_3))] := hD
    refine lv_if_eq (tgt := 29) hx hb d_Md_full_17 (by decide) (fun c_21 => ?_) (fun c_21 => ?_)
    · rw [if_pos c_21] at h
      refine lv_aload_n hx hb d_Md_full_29 rfl (lv_at hl 0 rfl) ?_
      refine lv_iconst (v := 0) hx hb d_Md_full_30 (by decide) ?_
      refine lv_lload_n hx hb d_Md_full_31 rfl (lv_at hl 1 rfl) ?_
      refine lv_ldc2 (v := 9223372036854775807) hx hb hown (hts _ g_852) d_Md_full_32 ?_
      refine lv_land hx hb d_Md_full_35 ?_
      replace h := xob_s h
      obtain ⟨⟨s_t_limbCount_22, e_t_digits_23, e_t_counts_24, e_t_points_25, e_t_limbs_26⟩, hc_27, h⟩ := h
      try dsimp only at h
      refine xcV (As := [.int (0 : Int32), .long (x1 &&& (9223372036854775807 : Int64))]) (rest := []) (st1 := []) (wr := [(a_t_text, .inl (c_t_text, n_t_text, .inl e_t_text)), (a_t_draft, .inl (c_t_draft, n_t_draft, .inl e_t_draft_3))]) ⟨hx, hb, hml, hown, hts⟩ (c_Md_value l dC dI a_t a_t_text a_t_digits a_t_counts a_t_points a_t_limbs a_t_cells a_t_lines a_t_draft c_t_digits c_t_counts c_t_points c_t_limbs n_t_digits n_t_counts n_t_points n_t_limbs (0 : Int32) s_t_length s_t_place s_t_limbCount s_t_rows s_t_columns s_t_laid s_t_size_2 e_t_digits e_t_counts e_t_points e_t_limbs (0 : Int32) (x1 &&& (9223372036854775807 : Int64)) s_t_limbCount_22 e_t_digits_23 e_t_counts_24 e_t_points_25 e_t_limbs_26 hc_27) (cwV 2 hts (xgoodV g_806 g_808 gp_25 g_10 g_809) rfl rfl rfl (by decide +kernel) ⟨Nat.le_of_ble_eq_true rfl, Nat.le_of_ble_eq_true rfl⟩) hNz (ci := 8) (q0 := 5) rfl rfl hA hP hD hS hK [5, 1, 2, 3, 4] [0, 6] [1, 2, 3, 4] rfl rfl rfl rfl (by decide) rfl rfl rfl rfl hl.1 (Nat.le_of_ble_eq_true rfl) ⟨Nat.zero_le _, Nat.zero_le _⟩ d_Md_full_36 (fun H locs hP hD hS => ?_)
      have hP : va_P (dC, dI) x_cl [(a_t_text, .inl (c_t_text, n_t_text, .inl e_t_text)), (a_t_draft, .inl (c_t_draft, n_t_draft, .inl e_t_draft_3)), (a_t, .inr (8, [.int (0 : Int32), .int s_t_length, .ref a_t_text, .int s_t_place, .ref a_t_digits, .ref a_t_counts, .ref a_t_points, .ref a_t_limbs, .int s_t_limbCount_22, .int s_t_rows, .int s_t_columns, .ref a_t_cells, .int s_t_laid, .ref a_t_lines, .int s_t_size_2, .ref a_t_draft])), (a_t_digits, .inl (c_t_digits, n_t_digits, .inl e_t_digits_23)), (a_t_counts, .inl (c_t_counts, n_t_counts, .inl e_t_counts_24)), (a_t_points, .inl (c_t_points, n_t_points, .inl e_t_points_25)), (a_t_limbs, .inl (c_t_limbs, n_t_limbs, .inl e_t_limbs_26))] H := hP
      have hD : va_D A [(a_t_text, .inl (c_t_text, n_t_text, .inl e_t_text)), (a_t_draft, .inl (c_t_draft, n_t_draft, .inl e_t_draft_3)), (a_t, .inr (8, [.int (0 : Int32), .int s_t_length, .ref a_t_text, .int s_t_place, .ref a_t_digits, .ref a_t_counts, .ref a_t_points, .ref a_t_limbs, .int s_t_limbCount_22, .int s_t_rows, .int s_t_columns, .ref a_t_cells, .int s_t_laid, .ref a_t_lines, .int s_t_size_2, .ref a_t_draft])), (a_t_digits, .inl (c_t_digits, n_t_digits, .inl e_t_digits_23)), (a_t_counts, .inl (c_t_counts, n_t_counts, .inl e_t_counts_24)), (a_t_points, .inl (c_t_points, n_t_points, .inl e_t_points_25)), (a_t_limbs, .inl (c_t_limbs, n_t_limbs, .inl e_t_limbs_26))] := hD
      refine lv_aload_n hx hb d_Md_full_39 rfl (lv_at hl 0 rfl) ?_
      refine va_get (D := (dC, dI)) (ci := 8) (v := .ref a_t_points) (C := R_Md) (T := T_Md) (N := 16) hx hb hts in_Md hown hK hP 2 rfl rfl 6 (by decide) (hts _ g_712) (fun _ h9 => h9) rfl d_Md_full_40 ?_
      refine lv_iconst (v := 0) hx hb d_Md_full_43 (by decide) ?_
      replace h := xg h
      obtain ⟨hg_28, h⟩ := h
      refine va_iald hx hb hK hP 5 3 rfl rfl hg_28 d_Md_full_44 ?_
      replace h := xnm_s h
      obtain ⟨x3_29, ex3_29, h⟩ := h
      refine x_topi ex3_29 ?_
      refine lv_istore_n (lv' := [(3, .int x3_29), (0, .ref a_t), (1, .long x1)]) hx hb d_Md_full_45 rfl hl (by decide) rfl (fun ls hl => ?_)
      refine lv_iload_n hx hb d_Md_full_46 rfl (lv_at hl 0 rfl) ?_
      refine lv_if_gt (tgt := 83) hx hb d_Md_full_47 (by decide) (fun c_30 => ?_) (fun c_30 => ?_)
      · rw [if_pos c_30] at h
        refine lv_aload_n hx hb d_Md_full_83 rfl (lv_at hl 1 rfl) ?_
        refine lv_iconst (v := 0) hx hb d_Md_full_84 (by decide) ?_
        refine lv_iconst (v := 0) hx hb d_Md_full_85 (by decide) ?_
        refine lv_iload_n hx hb d_Md_full_86 rfl (lv_at hl 0 rfl) ?_
        replace h := xob_s h
        obtain ⟨⟨s_t_size_31, e_t_draft_32⟩, hc_33, h⟩ := h
        try dsimp only at h
        refine xcV (As := [.int (0 : Int32), .int (0 : Int32), .int x3_29]) (rest := []) (st1 := []) (wr := [(a_t_text, .inl (c_t_text, n_t_text, .inl e_t_text)), (a_t_points, .inl (c_t_points, n_t_points, .inl e_t_points_25)), (a_t_limbs, .inl (c_t_limbs, n_t_limbs, .inl e_t_limbs_26))]) ⟨hx, hb, hml, hown, hts⟩ (c_Md_putDigits l dC dI a_t a_t_text a_t_digits a_t_counts a_t_points a_t_limbs a_t_cells a_t_lines a_t_draft c_t_digits c_t_counts c_t_draft n_t_digits n_t_counts n_t_draft (0 : Int32) s_t_length s_t_place s_t_limbCount_22 s_t_rows s_t_columns s_t_laid s_t_size_2 e_t_digits_23 e_t_counts_24 e_t_draft_3 (0 : Int32) (0 : Int32) x3_29 s_t_size_31 e_t_draft_32 hc_33) (cwV 3 hts (xgoodV g_892 g_894 gp_41 g_10 g_895) rfl rfl rfl (by decide +kernel) ⟨Nat.le_of_ble_eq_true rfl, Nat.le_of_ble_eq_true rfl⟩) hNz (ci := 8) (q0 := 2) rfl rfl hA hP hD hS hK [2, 3, 4, 1] [0, 5, 6] [1, 2, 5] rfl rfl rfl rfl (by decide) rfl rfl rfl rfl hl.1 (Nat.le_of_ble_eq_true rfl) ⟨Nat.zero_le _, Nat.zero_le _⟩ d_Md_full_87 (fun H locs hP hD hS => ?_)
        have hP : va_P (dC, dI) x_cl [(a_t_text, .inl (c_t_text, n_t_text, .inl e_t_text)), (a_t_points, .inl (c_t_points, n_t_points, .inl e_t_points_25)), (a_t_limbs, .inl (c_t_limbs, n_t_limbs, .inl e_t_limbs_26)), (a_t, .inr (8, [.int (0 : Int32), .int s_t_length, .ref a_t_text, .int s_t_place, .ref a_t_digits, .ref a_t_counts, .ref a_t_points, .ref a_t_limbs, .int s_t_limbCount_22, .int s_t_rows, .int s_t_columns, .ref a_t_cells, .int s_t_laid, .ref a_t_lines, .int s_t_size_31, .ref a_t_draft])), (a_t_digits, .inl (c_t_digits, n_t_digits, .inl e_t_digits_23)), (a_t_counts, .inl (c_t_counts, n_t_counts, .inl e_t_counts_24)), (a_t_draft, .inl (c_t_draft, n_t_draft, .inl e_t_draft_32))] H := hP
        have hD : va_D A [(a_t_text, .inl (c_t_text, n_t_text, .inl e_t_text)), (a_t_points, .inl (c_t_points, n_t_points, .inl e_t_points_25)), (a_t_limbs, .inl (c_t_limbs, n_t_limbs, .inl e_t_limbs_26)), (a_t, .inr (8, [.int (0 : Int32), .int s_t_length, .ref a_t_text, .int s_t_place, .ref a_t_digits, .ref a_t_counts, .ref a_t_points, .ref a_t_limbs, .int s_t_limbCount_22, .int s_t_rows, .int s_t_columns, .ref a_t_cells, .int s_t_laid, .ref a_t_lines, .int s_t_size_31, .ref a_t_draft])), (a_t_digits, .inl (c_t_digits, n_t_digits, .inl e_t_digits_23)), (a_t_counts, .inl (c_t_counts, n_t_counts, .inl e_t_counts_24)), (a_t_draft, .inl (c_t_draft, n_t_draft, .inl e_t_draft_32))] := hD
        refine lv_aload_n hx hb d_Md_full_90 rfl (lv_at hl 1 rfl) ?_
        refine va_get (D := (dC, dI)) (ci := 8) (v := .ref a_t_counts) (C := R_Md) (T := T_Md) (N := 16) hx hb hts in_Md hown hK hP 3 rfl rfl 5 (by decide) (hts _ g_711) (fun _ h9 => h9) rfl d_Md_full_91 ?_
        refine lv_iconst (v := 0) hx hb d_Md_full_94 (by decide) ?_
        replace h := xg h
        obtain ⟨hg_34, h⟩ := h
        refine va_iald hx hb hK hP 5 2 rfl rfl hg_34 d_Md_full_95 ?_
        refine lv_iload_n hx hb d_Md_full_96 rfl (lv_at hl 0 rfl) ?_
        refine lv_icmp_le (tgt := 118) hx hb d_Md_full_97 (by decide) (fun c_35 => ?_) (fun c_35 => ?_)
        · rw [if_pos c_35] at h
          replace h := Option.some.inj h
          replace h := Prod.mk.inj h
          obtain ⟨h1, h⟩ := h
          subst h1
          replace h := Prod.mk.inj h
          obtain ⟨h1, h⟩ := h
          subst h1
          replace h := Prod.mk.inj h
          obtain ⟨h1, h⟩ := h
          subst h1
          replace h := Prod.mk.inj h
          obtain ⟨h1, h⟩ := h
          subst h1
          replace h := Prod.mk.inj h
          obtain ⟨h1, h⟩ := h
          subst h1
          replace h := Prod.mk.inj h
          obtain ⟨h1, h⟩ := h
          subst h1
          subst h
          exact hJ_13 _ _ _ (hP.sub [3, 0, 4, 5, 1, 2, 6] rfl) (hD.sub [3, 0, 4, 5, 1, 2, 6] (by decide) rfl) hS (lv_sub hl [1] rfl)
        · rw [if_neg c_35] at h
          refine lv_aload_n hx hb d_Md_full_100 rfl (lv_at hl 1 rfl) ?_
          refine lv_bipush (v := 46) hx hb d_Md_full_101 (by decide) ?_
          replace h := xob_s h
          obtain ⟨⟨s_t_size_36, e_t_draft_37⟩, hc_38, h⟩ := h
          try dsimp only at h
          refine xcV (As := [.int (46 : Int32)]) (rest := []) (st1 := []) (wr := [(a_t_text, .inl (c_t_text, n_t_text, .inl e_t_text)), (a_t_points, .inl (c_t_points, n_t_points, .inl e_t_points_25)), (a_t_limbs, .inl (c_t_limbs, n_t_limbs, .inl e_t_limbs_26)), (a_t_digits, .inl (c_t_digits, n_t_digits, .inl e_t_digits_23)), (a_t_counts, .inl (c_t_counts, n_t_counts, .inl e_t_counts_24))]) ⟨hx, hb, hml, hown, hts⟩ (c_Md_put l dC dI a_t a_t_text a_t_digits a_t_counts a_t_points a_t_limbs a_t_cells a_t_lines a_t_draft c_t_draft n_t_draft (0 : Int32) s_t_length s_t_place s_t_limbCount_22 s_t_rows s_t_columns s_t_laid s_t_size_31 e_t_draft_32 (46 : Int32) s_t_size_36 e_t_draft_37 hc_38) (cwV 1 hts (xgoodV g_857 g_859 gp_33 g_10 g_860) rfl rfl rfl (by decide +kernel) ⟨Nat.le_of_ble_eq_true rfl, Nat.le_of_ble_eq_true rfl⟩) hNz (ci := 8) (q0 := 3) rfl rfl hA hP hD hS hK [3, 6] [0, 1, 2, 4, 5] [5] rfl rfl rfl rfl (by decide) rfl rfl rfl rfl hl.1 (Nat.le_of_ble_eq_true rfl) ⟨Nat.zero_le _, Nat.zero_le _⟩ d_Md_full_103 (fun H locs hP hD hS => ?_)
          have hP : va_P (dC, dI) x_cl [(a_t_text, .inl (c_t_text, n_t_text, .inl e_t_text)), (a_t_points, .inl (c_t_points, n_t_points, .inl e_t_points_25)), (a_t_limbs, .inl (c_t_limbs, n_t_limbs, .inl e_t_limbs_26)), (a_t_digits, .inl (c_t_digits, n_t_digits, .inl e_t_digits_23)), (a_t_counts, .inl (c_t_counts, n_t_counts, .inl e_t_counts_24)), (a_t, .inr (8, [.int (0 : Int32), .int s_t_length, .ref a_t_text, .int s_t_place, .ref a_t_digits, .ref a_t_counts, .ref a_t_points, .ref a_t_limbs, .int s_t_limbCount_22, .int s_t_rows, .int s_t_columns, .ref a_t_cells, .int s_t_laid, .ref a_t_lines, .int s_t_size_36, .ref a_t_draft])), (a_t_draft, .inl (c_t_draft, n_t_draft, .inl e_t_draft_37))] H := hP
          have hD : va_D A [(a_t_text, .inl (c_t_text, n_t_text, .inl e_t_text)), (a_t_points, .inl (c_t_points, n_t_points, .inl e_t_points_25)), (a_t_limbs, .inl (c_t_limbs, n_t_limbs, .inl e_t_limbs_26)), (a_t_digits, .inl (c_t_digits, n_t_digits, .inl e_t_digits_23)), (a_t_counts, .inl (c_t_counts, n_t_counts, .inl e_t_counts_24)), (a_t, .inr (8, [.int (0 : Int32), .int s_t_length, .ref a_t_text, .int s_t_place, .ref a_t_digits, .ref a_t_counts, .ref a_t_points, .ref a_t_limbs, .int s_t_limbCount_22, .int s_t_rows, .int s_t_columns, .ref a_t_cells, .int s_t_laid, .ref a_t_lines, .int s_t_size_36, .ref a_t_draft])), (a_t_draft, .inl (c_t_draft, n_t_draft, .inl e_t_draft_37))] := hD
          refine lv_aload_n hx hb d_Md_full_106 rfl (lv_at hl 1 rfl) ?_
          refine lv_iconst (v := 0) hx hb d_Md_full_107 (by decide) ?_
          refine lv_iload_n hx hb d_Md_full_108 rfl (lv_at hl 0 rfl) ?_
          refine lv_aload_n hx hb d_Md_full_109 rfl (lv_at hl 1 rfl) ?_
          refine va_get (D := (dC, dI)) (ci := 8) (v := .ref a_t_counts) (C := R_Md) (T := T_Md) (N := 16) hx hb hts in_Md hown hK hP 5 rfl rfl 5 (by decide) (hts _ g_711) (fun _ h9 => h9) rfl d_Md_full_110 ?_
          refine lv_iconst (v := 0) hx hb d_Md_full_113 (by decide) ?_
          replace h := xg h
          obtain ⟨hg_39, h⟩ := h
          refine va_iald hx hb hK hP 4 2 rfl rfl hg_39 d_Md_full_114 ?_
          replace h := xob_s h
          obtain ⟨⟨s_t_size_40, e_t_draft_41⟩, hc_42, h⟩ := h
          try dsimp only at h
          refine xcV (As := [.int (0 : Int32), .int x3_29, .int (e_t_counts_24 (0 : Int32).toNatClampNeg)]) (rest := []) (st1 := []) (wr := [(a_t_text, .inl (c_t_text, n_t_text, .inl e_t_text)), (a_t_points, .inl (c_t_points, n_t_points, .inl e_t_points_25)), (a_t_limbs, .inl (c_t_limbs, n_t_limbs, .inl e_t_limbs_26))]) ⟨hx, hb, hml, hown, hts⟩ (c_Md_putDigits l dC dI a_t a_t_text a_t_digits a_t_counts a_t_points a_t_limbs a_t_cells a_t_lines a_t_draft c_t_digits c_t_counts c_t_draft n_t_digits n_t_counts n_t_draft (0 : Int32) s_t_length s_t_place s_t_limbCount_22 s_t_rows s_t_columns s_t_laid s_t_size_36 e_t_digits_23 e_t_counts_24 e_t_draft_37 (0 : Int32) x3_29 (e_t_counts_24 (0 : Int32).toNatClampNeg) s_t_size_40 e_t_draft_41 hc_42) (cwV 3 hts (xgoodV g_892 g_894 gp_41 g_10 g_895) rfl rfl rfl (by decide +kernel) ⟨Nat.le_of_ble_eq_true rfl, Nat.le_of_ble_eq_true rfl⟩) hNz (ci := 8) (q0 := 5) rfl rfl hA hP hD hS hK [5, 3, 4, 6] [0, 1, 2] [1, 2, 5] rfl rfl rfl rfl (by decide) rfl rfl rfl rfl hl.1 (Nat.le_of_ble_eq_true rfl) ⟨Nat.zero_le _, Nat.zero_le _⟩ d_Md_full_115 (fun H locs hP hD hS => ?_)
          have hP : va_P (dC, dI) x_cl [(a_t_text, .inl (c_t_text, n_t_text, .inl e_t_text)), (a_t_points, .inl (c_t_points, n_t_points, .inl e_t_points_25)), (a_t_limbs, .inl (c_t_limbs, n_t_limbs, .inl e_t_limbs_26)), (a_t, .inr (8, [.int (0 : Int32), .int s_t_length, .ref a_t_text, .int s_t_place, .ref a_t_digits, .ref a_t_counts, .ref a_t_points, .ref a_t_limbs, .int s_t_limbCount_22, .int s_t_rows, .int s_t_columns, .ref a_t_cells, .int s_t_laid, .ref a_t_lines, .int s_t_size_40, .ref a_t_draft])), (a_t_digits, .inl (c_t_digits, n_t_digits, .inl e_t_digits_23)), (a_t_counts, .inl (c_t_counts, n_t_counts, .inl e_t_counts_24)), (a_t_draft, .inl (c_t_draft, n_t_draft, .inl e_t_draft_41))] H := hP
          have hD : va_D A [(a_t_text, .inl (c_t_text, n_t_text, .inl e_t_text)), (a_t_points, .inl (c_t_points, n_t_points, .inl e_t_points_25)), (a_t_limbs, .inl (c_t_limbs, n_t_limbs, .inl e_t_limbs_26)), (a_t, .inr (8, [.int (0 : Int32), .int s_t_length, .ref a_t_text, .int s_t_place, .ref a_t_digits, .ref a_t_counts, .ref a_t_points, .ref a_t_limbs, .int s_t_limbCount_22, .int s_t_rows, .int s_t_columns, .ref a_t_cells, .int s_t_laid, .ref a_t_lines, .int s_t_size_40, .ref a_t_draft])), (a_t_digits, .inl (c_t_digits, n_t_digits, .inl e_t_digits_23)), (a_t_counts, .inl (c_t_counts, n_t_counts, .inl e_t_counts_24)), (a_t_draft, .inl (c_t_draft, n_t_draft, .inl e_t_draft_41))] := hD
          replace h := Option.some.inj h
          replace h := Prod.mk.inj h
          obtain ⟨h1, h⟩ := h
          subst h1
          replace h := Prod.mk.inj h
          obtain ⟨h1, h⟩ := h
          subst h1
          replace h := Prod.mk.inj h
          obtain ⟨h1, h⟩ := h
          subst h1
          replace h := Prod.mk.inj h
          obtain ⟨h1, h⟩ := h
          subst h1
          replace h := Prod.mk.inj h
          obtain ⟨h1, h⟩ := h
          subst h1
          replace h := Prod.mk.inj h
          obtain ⟨h1, h⟩ := h
          subst h1
          subst h
          exact hJ_13 _ _ _ (hP.sub [3, 0, 4, 5, 1, 2, 6] rfl) (hD.sub [3, 0, 4, 5, 1, 2, 6] (by decide) rfl) hS (lv_sub hl [1] rfl)
      · rw [if_neg c_30] at h
        refine lv_aload_n hx hb d_Md_full_50 rfl (lv_at hl 1 rfl) ?_
        refine lv_bipush (v := 48) hx hb d_Md_full_51 (by decide) ?_
        replace h := xob_s h
        obtain ⟨⟨s_t_size_43, e_t_draft_44⟩, hc_45, h⟩ := h
        try dsimp only at h
        refine xcV (As := [.int (48 : Int32)]) (rest := []) (st1 := []) (wr := [(a_t_text, .inl (c_t_text, n_t_text, .inl e_t_text)), (a_t_digits, .inl (c_t_digits, n_t_digits, .inl e_t_digits_23)), (a_t_counts, .inl (c_t_counts, n_t_counts, .inl e_t_counts_24)), (a_t_points, .inl (c_t_points, n_t_points, .inl e_t_points_25)), (a_t_limbs, .inl (c_t_limbs, n_t_limbs, .inl e_t_limbs_26))]) ⟨hx, hb, hml, hown, hts⟩ (c_Md_put l dC dI a_t a_t_text a_t_digits a_t_counts a_t_points a_t_limbs a_t_cells a_t_lines a_t_draft c_t_draft n_t_draft (0 : Int32) s_t_length s_t_place s_t_limbCount_22 s_t_rows s_t_columns s_t_laid s_t_size_2 e_t_draft_3 (48 : Int32) s_t_size_43 e_t_draft_44 hc_45) (cwV 1 hts (xgoodV g_857 g_859 gp_33 g_10 g_860) rfl rfl rfl (by decide +kernel) ⟨Nat.le_of_ble_eq_true rfl, Nat.le_of_ble_eq_true rfl⟩) hNz (ci := 8) (q0 := 2) rfl rfl hA hP hD hS hK [2, 1] [0, 3, 4, 5, 6] [5] rfl rfl rfl rfl (by decide) rfl rfl rfl rfl hl.1 (Nat.le_of_ble_eq_true rfl) ⟨Nat.zero_le _, Nat.zero_le _⟩ d_Md_full_53 (fun H locs hP hD hS => ?_)
        have hP : va_P (dC, dI) x_cl [(a_t_text, .inl (c_t_text, n_t_text, .inl e_t_text)), (a_t_digits, .inl (c_t_digits, n_t_digits, .inl e_t_digits_23)), (a_t_counts, .inl (c_t_counts, n_t_counts, .inl e_t_counts_24)), (a_t_points, .inl (c_t_points, n_t_points, .inl e_t_points_25)), (a_t_limbs, .inl (c_t_limbs, n_t_limbs, .inl e_t_limbs_26)), (a_t, .inr (8, [.int (0 : Int32), .int s_t_length, .ref a_t_text, .int s_t_place, .ref a_t_digits, .ref a_t_counts, .ref a_t_points, .ref a_t_limbs, .int s_t_limbCount_22, .int s_t_rows, .int s_t_columns, .ref a_t_cells, .int s_t_laid, .ref a_t_lines, .int s_t_size_43, .ref a_t_draft])), (a_t_draft, .inl (c_t_draft, n_t_draft, .inl e_t_draft_44))] H := hP
        have hD : va_D A [(a_t_text, .inl (c_t_text, n_t_text, .inl e_t_text)), (a_t_digits, .inl (c_t_digits, n_t_digits, .inl e_t_digits_23)), (a_t_counts, .inl (c_t_counts, n_t_counts, .inl e_t_counts_24)), (a_t_points, .inl (c_t_points, n_t_points, .inl e_t_points_25)), (a_t_limbs, .inl (c_t_limbs, n_t_limbs, .inl e_t_limbs_26)), (a_t, .inr (8, [.int (0 : Int32), .int s_t_length, .ref a_t_text, .int s_t_place, .ref a_t_digits, .ref a_t_counts, .ref a_t_points, .ref a_t_limbs, .int s_t_limbCount_22, .int s_t_rows, .int s_t_columns, .ref a_t_cells, .int s_t_laid, .ref a_t_lines, .int s_t_size_43, .ref a_t_draft])), (a_t_draft, .inl (c_t_draft, n_t_draft, .inl e_t_draft_44))] := hD
        refine lv_aload_n hx hb d_Md_full_56 rfl (lv_at hl 1 rfl) ?_
        refine lv_bipush (v := 46) hx hb d_Md_full_57 (by decide) ?_
        replace h := xob_s h
        obtain ⟨⟨s_t_size_46, e_t_draft_47⟩, hc_48, h⟩ := h
        try dsimp only at h
        refine xcV (As := [.int (46 : Int32)]) (rest := []) (st1 := []) (wr := [(a_t_text, .inl (c_t_text, n_t_text, .inl e_t_text)), (a_t_digits, .inl (c_t_digits, n_t_digits, .inl e_t_digits_23)), (a_t_counts, .inl (c_t_counts, n_t_counts, .inl e_t_counts_24)), (a_t_points, .inl (c_t_points, n_t_points, .inl e_t_points_25)), (a_t_limbs, .inl (c_t_limbs, n_t_limbs, .inl e_t_limbs_26))]) ⟨hx, hb, hml, hown, hts⟩ (c_Md_put l dC dI a_t a_t_text a_t_digits a_t_counts a_t_points a_t_limbs a_t_cells a_t_lines a_t_draft c_t_draft n_t_draft (0 : Int32) s_t_length s_t_place s_t_limbCount_22 s_t_rows s_t_columns s_t_laid s_t_size_43 e_t_draft_44 (46 : Int32) s_t_size_46 e_t_draft_47 hc_48) (cwV 1 hts (xgoodV g_857 g_859 gp_33 g_10 g_860) rfl rfl rfl (by decide +kernel) ⟨Nat.le_of_ble_eq_true rfl, Nat.le_of_ble_eq_true rfl⟩) hNz (ci := 8) (q0 := 5) rfl rfl hA hP hD hS hK [5, 6] [0, 1, 2, 3, 4] [5] rfl rfl rfl rfl (by decide) rfl rfl rfl rfl hl.1 (Nat.le_of_ble_eq_true rfl) ⟨Nat.zero_le _, Nat.zero_le _⟩ d_Md_full_59 (fun H locs hP hD hS => ?_)
        have hP : va_P (dC, dI) x_cl [(a_t_text, .inl (c_t_text, n_t_text, .inl e_t_text)), (a_t_digits, .inl (c_t_digits, n_t_digits, .inl e_t_digits_23)), (a_t_counts, .inl (c_t_counts, n_t_counts, .inl e_t_counts_24)), (a_t_points, .inl (c_t_points, n_t_points, .inl e_t_points_25)), (a_t_limbs, .inl (c_t_limbs, n_t_limbs, .inl e_t_limbs_26)), (a_t, .inr (8, [.int (0 : Int32), .int s_t_length, .ref a_t_text, .int s_t_place, .ref a_t_digits, .ref a_t_counts, .ref a_t_points, .ref a_t_limbs, .int s_t_limbCount_22, .int s_t_rows, .int s_t_columns, .ref a_t_cells, .int s_t_laid, .ref a_t_lines, .int s_t_size_46, .ref a_t_draft])), (a_t_draft, .inl (c_t_draft, n_t_draft, .inl e_t_draft_47))] H := hP
        have hD : va_D A [(a_t_text, .inl (c_t_text, n_t_text, .inl e_t_text)), (a_t_digits, .inl (c_t_digits, n_t_digits, .inl e_t_digits_23)), (a_t_counts, .inl (c_t_counts, n_t_counts, .inl e_t_counts_24)), (a_t_points, .inl (c_t_points, n_t_points, .inl e_t_points_25)), (a_t_limbs, .inl (c_t_limbs, n_t_limbs, .inl e_t_limbs_26)), (a_t, .inr (8, [.int (0 : Int32), .int s_t_length, .ref a_t_text, .int s_t_place, .ref a_t_digits, .ref a_t_counts, .ref a_t_points, .ref a_t_limbs, .int s_t_limbCount_22, .int s_t_rows, .int s_t_columns, .ref a_t_cells, .int s_t_laid, .ref a_t_lines, .int s_t_size_46, .ref a_t_draft])), (a_t_draft, .inl (c_t_draft, n_t_draft, .inl e_t_draft_47))] := hD
        refine lv_aload_n hx hb d_Md_full_62 rfl (lv_at hl 1 rfl) ?_
        refine lv_iload_n hx hb d_Md_full_63 rfl (lv_at hl 0 rfl) ?_
        refine lv_ineg hx hb d_Md_full_64 ?_
        replace h := xob_s h
        obtain ⟨⟨s_t_size_49, e_t_draft_50⟩, hc_51, h⟩ := h
        try dsimp only at h
        refine xcV (As := [.int (-x3_29)]) (rest := []) (st1 := []) (wr := [(a_t_text, .inl (c_t_text, n_t_text, .inl e_t_text)), (a_t_digits, .inl (c_t_digits, n_t_digits, .inl e_t_digits_23)), (a_t_counts, .inl (c_t_counts, n_t_counts, .inl e_t_counts_24)), (a_t_points, .inl (c_t_points, n_t_points, .inl e_t_points_25)), (a_t_limbs, .inl (c_t_limbs, n_t_limbs, .inl e_t_limbs_26))]) ⟨hx, hb, hml, hown, hts⟩ (c_Md_putZeros l dC dI a_t a_t_text a_t_digits a_t_counts a_t_points a_t_limbs a_t_cells a_t_lines a_t_draft c_t_draft n_t_draft (0 : Int32) s_t_length s_t_place s_t_limbCount_22 s_t_rows s_t_columns s_t_laid s_t_size_46 e_t_draft_47 (-x3_29) s_t_size_49 e_t_draft_50 hc_51) (cwV 1 hts (xgoodV g_896 g_898 gp_42 g_10 g_899) rfl rfl rfl (by decide +kernel) ⟨Nat.le_of_ble_eq_true rfl, Nat.le_of_ble_eq_true rfl⟩) hNz (ci := 8) (q0 := 5) rfl rfl hA hP hD hS hK [5, 6] [0, 1, 2, 3, 4] [5] rfl rfl rfl rfl (by decide) rfl rfl rfl rfl hl.1 (Nat.le_of_ble_eq_true rfl) ⟨Nat.zero_le _, Nat.zero_le _⟩ d_Md_full_65 (fun H locs hP hD hS => ?_)
        have hP : va_P (dC, dI) x_cl [(a_t_text, .inl (c_t_text, n_t_text, .inl e_t_text)), (a_t_digits, .inl (c_t_digits, n_t_digits, .inl e_t_digits_23)), (a_t_counts, .inl (c_t_counts, n_t_counts, .inl e_t_counts_24)), (a_t_points, .inl (c_t_points, n_t_points, .inl e_t_points_25)), (a_t_limbs, .inl (c_t_limbs, n_t_limbs, .inl e_t_limbs_26)), (a_t, .inr (8, [.int (0 : Int32), .int s_t_length, .ref a_t_text, .int s_t_place, .ref a_t_digits, .ref a_t_counts, .ref a_t_points, .ref a_t_limbs, .int s_t_limbCount_22, .int s_t_rows, .int s_t_columns, .ref a_t_cells, .int s_t_laid, .ref a_t_lines, .int s_t_size_49, .ref a_t_draft])), (a_t_draft, .inl (c_t_draft, n_t_draft, .inl e_t_draft_50))] H := hP
        have hD : va_D A [(a_t_text, .inl (c_t_text, n_t_text, .inl e_t_text)), (a_t_digits, .inl (c_t_digits, n_t_digits, .inl e_t_digits_23)), (a_t_counts, .inl (c_t_counts, n_t_counts, .inl e_t_counts_24)), (a_t_points, .inl (c_t_points, n_t_points, .inl e_t_points_25)), (a_t_limbs, .inl (c_t_limbs, n_t_limbs, .inl e_t_limbs_26)), (a_t, .inr (8, [.int (0 : Int32), .int s_t_length, .ref a_t_text, .int s_t_place, .ref a_t_digits, .ref a_t_counts, .ref a_t_points, .ref a_t_limbs, .int s_t_limbCount_22, .int s_t_rows, .int s_t_columns, .ref a_t_cells, .int s_t_laid, .ref a_t_lines, .int s_t_size_49, .ref a_t_draft])), (a_t_draft, .inl (c_t_draft, n_t_draft, .inl e_t_draft_50))] := hD
        refine lv_aload_n hx hb d_Md_full_68 rfl (lv_at hl 1 rfl) ?_
        refine lv_iconst (v := 0) hx hb d_Md_full_69 (by decide) ?_
        refine lv_iconst (v := 0) hx hb d_Md_full_70 (by decide) ?_
        refine lv_aload_n hx hb d_Md_full_71 rfl (lv_at hl 1 rfl) ?_
        refine va_get (D := (dC, dI)) (ci := 8) (v := .ref a_t_counts) (C := R_Md) (T := T_Md) (N := 16) hx hb hts in_Md hown hK hP 5 rfl rfl 5 (by decide) (hts _ g_711) (fun _ h9 => h9) rfl d_Md_full_72 ?_
        refine lv_iconst (v := 0) hx hb d_Md_full_75 (by decide) ?_
        replace h := xg h
        obtain ⟨hg_52, h⟩ := h
        refine va_iald hx hb hK hP 2 2 rfl rfl hg_52 d_Md_full_76 ?_
        replace h := xob_s h
        obtain ⟨⟨s_t_size_53, e_t_draft_54⟩, hc_55, h⟩ := h
        try dsimp only at h
        refine xcV (As := [.int (0 : Int32), .int (0 : Int32), .int (e_t_counts_24 (0 : Int32).toNatClampNeg)]) (rest := []) (st1 := []) (wr := [(a_t_text, .inl (c_t_text, n_t_text, .inl e_t_text)), (a_t_points, .inl (c_t_points, n_t_points, .inl e_t_points_25)), (a_t_limbs, .inl (c_t_limbs, n_t_limbs, .inl e_t_limbs_26))]) ⟨hx, hb, hml, hown, hts⟩ (c_Md_putDigits l dC dI a_t a_t_text a_t_digits a_t_counts a_t_points a_t_limbs a_t_cells a_t_lines a_t_draft c_t_digits c_t_counts c_t_draft n_t_digits n_t_counts n_t_draft (0 : Int32) s_t_length s_t_place s_t_limbCount_22 s_t_rows s_t_columns s_t_laid s_t_size_49 e_t_digits_23 e_t_counts_24 e_t_draft_50 (0 : Int32) (0 : Int32) (e_t_counts_24 (0 : Int32).toNatClampNeg) s_t_size_53 e_t_draft_54 hc_55) (cwV 3 hts (xgoodV g_892 g_894 gp_41 g_10 g_895) rfl rfl rfl (by decide +kernel) ⟨Nat.le_of_ble_eq_true rfl, Nat.le_of_ble_eq_true rfl⟩) hNz (ci := 8) (q0 := 5) rfl rfl hA hP hD hS hK [5, 1, 2, 6] [0, 3, 4] [1, 2, 5] rfl rfl rfl rfl (by decide) rfl rfl rfl rfl hl.1 (Nat.le_of_ble_eq_true rfl) ⟨Nat.zero_le _, Nat.zero_le _⟩ d_Md_full_77 (fun H locs hP hD hS => ?_)
        have hP : va_P (dC, dI) x_cl [(a_t_text, .inl (c_t_text, n_t_text, .inl e_t_text)), (a_t_points, .inl (c_t_points, n_t_points, .inl e_t_points_25)), (a_t_limbs, .inl (c_t_limbs, n_t_limbs, .inl e_t_limbs_26)), (a_t, .inr (8, [.int (0 : Int32), .int s_t_length, .ref a_t_text, .int s_t_place, .ref a_t_digits, .ref a_t_counts, .ref a_t_points, .ref a_t_limbs, .int s_t_limbCount_22, .int s_t_rows, .int s_t_columns, .ref a_t_cells, .int s_t_laid, .ref a_t_lines, .int s_t_size_53, .ref a_t_draft])), (a_t_digits, .inl (c_t_digits, n_t_digits, .inl e_t_digits_23)), (a_t_counts, .inl (c_t_counts, n_t_counts, .inl e_t_counts_24)), (a_t_draft, .inl (c_t_draft, n_t_draft, .inl e_t_draft_54))] H := hP
        have hD : va_D A [(a_t_text, .inl (c_t_text, n_t_text, .inl e_t_text)), (a_t_points, .inl (c_t_points, n_t_points, .inl e_t_points_25)), (a_t_limbs, .inl (c_t_limbs, n_t_limbs, .inl e_t_limbs_26)), (a_t, .inr (8, [.int (0 : Int32), .int s_t_length, .ref a_t_text, .int s_t_place, .ref a_t_digits, .ref a_t_counts, .ref a_t_points, .ref a_t_limbs, .int s_t_limbCount_22, .int s_t_rows, .int s_t_columns, .ref a_t_cells, .int s_t_laid, .ref a_t_lines, .int s_t_size_53, .ref a_t_draft])), (a_t_digits, .inl (c_t_digits, n_t_digits, .inl e_t_digits_23)), (a_t_counts, .inl (c_t_counts, n_t_counts, .inl e_t_counts_24)), (a_t_draft, .inl (c_t_draft, n_t_draft, .inl e_t_draft_54))] := hD
        refine lv_goto (tgt := 118) hx hb d_Md_full_80 (by decide) ?_
        replace h := Option.some.inj h
        replace h := Prod.mk.inj h
        obtain ⟨h1, h⟩ := h
        subst h1
        replace h := Prod.mk.inj h
        obtain ⟨h1, h⟩ := h
        subst h1
        replace h := Prod.mk.inj h
        obtain ⟨h1, h⟩ := h
        subst h1
        replace h := Prod.mk.inj h
        obtain ⟨h1, h⟩ := h
        subst h1
        replace h := Prod.mk.inj h
        obtain ⟨h1, h⟩ := h
        subst h1
        replace h := Prod.mk.inj h
        obtain ⟨h1, h⟩ := h
        subst h1
        subst h
        exact hJ_13 _ _ _ (hP.sub [3, 0, 4, 5, 1, 2, 6] rfl) (hD.sub [3, 0, 4, 5, 1, 2, 6] (by decide) rfl) hS (lv_sub hl [1] rfl)
    · rw [if_neg c_21] at h
      refine lv_aload_n hx hb d_Md_full_20 rfl (lv_at hl 0 rfl) ?_
      refine lv_bipush (v := 48) hx hb d_Md_full_21 (by decide) ?_
      replace h := xob_s h
      obtain ⟨⟨s_t_size_56, e_t_draft_57⟩, hc_58, h⟩ := h
      try dsimp only at h
      refine xcV (As := [.int (48 : Int32)]) (rest := []) (st1 := []) (wr := [(a_t_text, .inl (c_t_text, n_t_text, .inl e_t_text)), (a_t_digits, .inl (c_t_digits, n_t_digits, .inl e_t_digits)), (a_t_counts, .inl (c_t_counts, n_t_counts, .inl e_t_counts)), (a_t_points, .inl (c_t_points, n_t_points, .inl e_t_points)), (a_t_limbs, .inl (c_t_limbs, n_t_limbs, .inl e_t_limbs))]) ⟨hx, hb, hml, hown, hts⟩ (c_Md_put l dC dI a_t a_t_text a_t_digits a_t_counts a_t_points a_t_limbs a_t_cells a_t_lines a_t_draft c_t_draft n_t_draft (0 : Int32) s_t_length s_t_place s_t_limbCount s_t_rows s_t_columns s_t_laid s_t_size_2 e_t_draft_3 (48 : Int32) s_t_size_56 e_t_draft_57 hc_58) (cwV 1 hts (xgoodV g_857 g_859 gp_33 g_10 g_860) rfl rfl rfl (by decide +kernel) ⟨Nat.le_of_ble_eq_true rfl, Nat.le_of_ble_eq_true rfl⟩) hNz (ci := 8) (q0 := 5) rfl rfl hA hP hD hS hK [5, 6] [0, 1, 2, 3, 4] [5] rfl rfl rfl rfl (by decide) rfl rfl rfl rfl hl.1 (Nat.le_of_ble_eq_true rfl) ⟨Nat.zero_le _, Nat.zero_le _⟩ d_Md_full_23 (fun H locs hP hD hS => ?_)
      have hP : va_P (dC, dI) x_cl [(a_t_text, .inl (c_t_text, n_t_text, .inl e_t_text)), (a_t_digits, .inl (c_t_digits, n_t_digits, .inl e_t_digits)), (a_t_counts, .inl (c_t_counts, n_t_counts, .inl e_t_counts)), (a_t_points, .inl (c_t_points, n_t_points, .inl e_t_points)), (a_t_limbs, .inl (c_t_limbs, n_t_limbs, .inl e_t_limbs)), (a_t, .inr (8, [.int (0 : Int32), .int s_t_length, .ref a_t_text, .int s_t_place, .ref a_t_digits, .ref a_t_counts, .ref a_t_points, .ref a_t_limbs, .int s_t_limbCount, .int s_t_rows, .int s_t_columns, .ref a_t_cells, .int s_t_laid, .ref a_t_lines, .int s_t_size_56, .ref a_t_draft])), (a_t_draft, .inl (c_t_draft, n_t_draft, .inl e_t_draft_57))] H := hP
      have hD : va_D A [(a_t_text, .inl (c_t_text, n_t_text, .inl e_t_text)), (a_t_digits, .inl (c_t_digits, n_t_digits, .inl e_t_digits)), (a_t_counts, .inl (c_t_counts, n_t_counts, .inl e_t_counts)), (a_t_points, .inl (c_t_points, n_t_points, .inl e_t_points)), (a_t_limbs, .inl (c_t_limbs, n_t_limbs, .inl e_t_limbs)), (a_t, .inr (8, [.int (0 : Int32), .int s_t_length, .ref a_t_text, .int s_t_place, .ref a_t_digits, .ref a_t_counts, .ref a_t_points, .ref a_t_limbs, .int s_t_limbCount, .int s_t_rows, .int s_t_columns, .ref a_t_cells, .int s_t_laid, .ref a_t_lines, .int s_t_size_56, .ref a_t_draft])), (a_t_draft, .inl (c_t_draft, n_t_draft, .inl e_t_draft_57))] := hD
      refine lv_goto (tgt := 118) hx hb d_Md_full_26 (by decide) ?_
      replace h := Option.some.inj h
      replace h := Prod.mk.inj h
      obtain ⟨h1, h⟩ := h
      subst h1
      replace h := Prod.mk.inj h
      obtain ⟨h1, h⟩ := h
      subst h1
      replace h := Prod.mk.inj h
      obtain ⟨h1, h⟩ := h
      subst h1
      replace h := Prod.mk.inj h
      obtain ⟨h1, h⟩ := h
      subst h1
      replace h := Prod.mk.inj h
      obtain ⟨h1, h⟩ := h
      subst h1
      replace h := Prod.mk.inj h
      obtain ⟨h1, h⟩ := h
      subst h1
      subst h
      exact hJ_13 _ _ _ (hP.sub [5, 0, 1, 2, 3, 4, 6] rfl) (hD.sub [5, 0, 1, 2, 3, 4, 6] (by decide) rfl) hS (lv_sub hl [0] rfl)
def lp_Md_table_50 (s_t_thrown_7 : Int32) (s_t_length : Int32) (s_t_place : Int32) (s_t_limbCount : Int32) (x1 : Int32) (x2 : Int32) (s_t_size : Int32) (n_t_cells : Nat) : Nat → Int32 → (Nat → Int64) → Option ((Nat → Int64))
  | 0, _, _ => none
  | n_ + 1, x3_10, e_t_cells_11 =>
    if (64 : Int32) ≤ x3_10 then (some e_t_cells_11) else (if (x3_10 < 0 ∨ n_t_cells ≤ x3_10.toNatClampNeg) then none else xnm (x3_10 + (1 : Int32)) fun x3_18 => lp_Md_table_50 s_t_thrown_7 s_t_length s_t_place s_t_limbCount x1 x2 s_t_size n_t_cells n_ x3_18 (vp_updL e_t_cells_11 x3_10.toNatClampNeg (0 : Int64)))
def f_Md_table (n_t_cells : Nat) (s_t_thrown : Int32) (s_t_length : Int32) (s_t_place : Int32) (s_t_limbCount : Int32) (s_t_rows : Int32) (s_t_columns : Int32) (s_t_laid : Int32) (s_t_size : Int32) (e_t_cells : Nat → Int64) (x1 : Int32) (x2 : Int32) : Option (Int32 × Int32 × Int32 × Int32 × (Nat → Int64)) :=
  xob (f_Md_in x1 (1 : Int32) (8 : Int32)) fun r_1 => xob (if r_1 = 0 then (some (0 : Int32)) else (xob (f_Md_in x2 (1 : Int32) (8 : Int32)) fun r_20 => if r_20 = 0 then (some (0 : Int32)) else (some (1 : Int32)))) fun z_3 => xob (f_Md_goes s_t_thrown s_t_length s_t_place s_t_limbCount s_t_rows s_t_columns s_t_laid s_t_size z_3) fun (r_6, s_t_thrown_7) => if r_6 = 0 then (some (s_t_columns, s_t_laid, s_t_rows, s_t_thrown_7, e_t_cells)) else (xob (lp_Md_table_50 s_t_thrown_7 s_t_length s_t_place s_t_limbCount x1 x2 s_t_size n_t_cells xF (0 : Int32) e_t_cells) fun e_t_cells_12 => some (x2, (0 : Int32), x1, s_t_thrown_7, e_t_cells_12))
def rm_Md_table : Room := { frames := 1, cells := 0, slots := 0, locals := 22 }
set_option maxHeartbeats 4000000 in
set_option maxRecDepth 100000 in
theorem c_Md_table (l : Launch) (dC : Nat → ClassId) (dI : Nat → Nat → Nat) (a_t a_t_text a_t_digits a_t_counts a_t_points a_t_limbs a_t_cells a_t_lines a_t_draft : Nat) (c_t_cells : ClassId) (n_t_cells : Nat) (s_t_thrown : Int32) (s_t_length : Int32) (s_t_place : Int32) (s_t_limbCount : Int32) (s_t_rows : Int32) (s_t_columns : Int32) (s_t_laid : Int32) (s_t_size : Int32) (e_t_cells : Nat → Int64) (x1 : Int32) (x2 : Int32) (s_t_columns_o : Int32) (s_t_laid_o : Int32) (s_t_rows_o : Int32) (s_t_thrown_o : Int32) (e_t_cells_o : Nat → Int64) (h : f_Md_table n_t_cells s_t_thrown s_t_length s_t_place s_t_limbCount s_t_rows s_t_columns s_t_laid s_t_size e_t_cells x1 x2 = some (s_t_columns_o, s_t_laid_o, s_t_rows_o, s_t_thrown_o, e_t_cells_o)) : xM l y_Md_table (Cond.code y_Md_table b_Md_table 4 none :: xG) rm_Md_table (dC, dI) x_cl x_nz [.ref a_t, .int x1, .int x2] [(c_t_cells, .long)] [(a_t, .inr (8, [.int s_t_thrown, .int s_t_length, .ref a_t_text, .int s_t_place, .ref a_t_digits, .ref a_t_counts, .ref a_t_points, .ref a_t_limbs, .int s_t_limbCount, .int s_t_rows, .int s_t_columns, .ref a_t_cells, .int s_t_laid, .ref a_t_lines, .int s_t_size, .ref a_t_draft])), (a_t_cells, .inl (c_t_cells, n_t_cells, .inr (.inl e_t_cells)))] none [(a_t, .inr (8, [.int s_t_thrown_o, .int s_t_length, .ref a_t_text, .int s_t_place, .ref a_t_digits, .ref a_t_counts, .ref a_t_points, .ref a_t_limbs, .int s_t_limbCount, .int s_t_rows_o, .int s_t_columns_o, .ref a_t_cells, .int s_t_laid_o, .ref a_t_lines, .int s_t_size, .ref a_t_draft])), (a_t_cells, .inl (c_t_cells, n_t_cells, .inr (.inl e_t_cells_o)))] := by
  unfold f_Md_table at h
  refine xM.mkV (cc := b_Md_table) (maxL := 4)  (by decide +kernel) rfl (Nat.le_of_ble_eq_true rfl) ?_
  intro p e s m args below meth c A Q ls hx hb hml hown hts hNz hA hP hD hK hl hret
  have hS : va_S A s.heap s.heap [] := va_S.rf
  have hl : lv_has ls 4 [(0, .ref a_t), (1, .int x1), (2, .int x2)] := hl
  refine lv_aload_n hx hb d_Md_table_0 rfl (lv_at hl 0 rfl) ?_
  refine lv_iload_n hx hb d_Md_table_1 rfl (lv_at hl 1 rfl) ?_
  refine lv_iconst (v := 1) hx hb d_Md_table_2 (by decide) ?_
  refine lv_bipush (v := 8) hx hb d_Md_table_3 (by decide) ?_
  replace h := xob_s h
  obtain ⟨r_1, hc_2, h⟩ := h
  try dsimp only at h
  refine xcS (As := [.int x1, .int (1 : Int32), .int (8 : Int32)]) (rest := [.ref a_t]) (st1 := [.int r_1, .ref a_t]) (wr := [(a_t, .inr (8, [.int s_t_thrown, .int s_t_length, .ref a_t_text, .int s_t_place, .ref a_t_digits, .ref a_t_counts, .ref a_t_points, .ref a_t_limbs, .int s_t_limbCount, .int s_t_rows, .int s_t_columns, .ref a_t_cells, .int s_t_laid, .ref a_t_lines, .int s_t_size, .ref a_t_draft])), (a_t_cells, .inl (c_t_cells, n_t_cells, .inr (.inl e_t_cells)))]) ⟨hx, hb, hml, hown, hts⟩ (c_Md_in l dC dI x1 (1 : Int32) (8 : Int32) r_1 hc_2) (⟨callB_of 3 hts (xgood g_765) rfl rfl rfl (hts _ g_10) (hts _ g_763) (by decide +kernel) ⟨Nat.le_of_ble_eq_true rfl, Nat.le_of_ble_eq_true rfl⟩, (hts _ g_764)⟩) hNz hA hP hD hS hK [] [0, 1] [] rfl rfl rfl rfl (by decide) rfl rfl rfl rfl hl.1 (Nat.le_of_ble_eq_true rfl) ⟨Nat.zero_le _, Nat.zero_le _⟩ d_Md_table_5 (fun H locs hP hD hS => ?_)
  have hP : va_P (dC, dI) x_cl [(a_t, .inr (8, [.int s_t_thrown, .int s_t_length, .ref a_t_text, .int s_t_place, .ref a_t_digits, .ref a_t_counts, .ref a_t_points, .ref a_t_limbs, .int s_t_limbCount, .int s_t_rows, .int s_t_columns, .ref a_t_cells, .int s_t_laid, .ref a_t_lines, .int s_t_size, .ref a_t_draft])), (a_t_cells, .inl (c_t_cells, n_t_cells, .inr (.inl e_t_cells)))] H := hP
  have hD : va_D A [(a_t, .inr (8, [.int s_t_thrown, .int s_t_length, .ref a_t_text, .int s_t_place, .ref a_t_digits, .ref a_t_counts, .ref a_t_points, .ref a_t_limbs, .int s_t_limbCount, .int s_t_rows, .int s_t_columns, .ref a_t_cells, .int s_t_laid, .ref a_t_lines, .int s_t_size, .ref a_t_draft])), (a_t_cells, .inl (c_t_cells, n_t_cells, .inr (.inl e_t_cells)))] := hD
  replace h := xob_s h
  obtain ⟨z_3, hj_4, h⟩ := h
  try dsimp only at h
  have hJ_5 : ∀ (H : Heap) (locs : List Loc) (ls : Array Slot), va_P (dC, dI) x_cl [(a_t, .inr (8, [.int s_t_thrown, .int s_t_length, .ref a_t_text, .int s_t_place, .ref a_t_digits, .ref a_t_counts, .ref a_t_points, .ref a_t_limbs, .int s_t_limbCount, .int s_t_rows, .int s_t_columns, .ref a_t_cells, .int s_t_laid, .ref a_t_lines, .int s_t_size, .ref a_t_draft])), (a_t_cells, .inl (c_t_cells, n_t_cells, .inr (.inl e_t_cells)))] H → va_D A [(a_t, .inr (8, [.int s_t_thrown, .int s_t_length, .ref a_t_text, .int s_t_place, .ref a_t_digits, .ref a_t_counts, .ref a_t_points, .ref a_t_limbs, .int s_t_limbCount, .int s_t_rows, .int s_t_columns, .ref a_t_cells, .int s_t_laid, .ref a_t_lines, .int s_t_size, .ref a_t_draft])), (a_t_cells, .inl (c_t_cells, n_t_cells, .inr (.inl e_t_cells)))] → va_S A s.heap H locs → lv_has ls 4 [(0, .ref a_t), (1, .int x1), (2, .int x2)] → W p l e rm_Md_table s m args below meth c H locs 0 0 Q (F0 m 26 ls [.int z_3, .ref a_t]) := by
    intro H locs ls hP hD hS hl
    replace h := xob_s h
    obtain ⟨⟨r_6, s_t_thrown_7⟩, hc_8, h⟩ := h
    try dsimp only at h
    refine xcV (As := [.int z_3]) (rest := []) (st1 := [.int r_6]) (wr := [(a_t_cells, .inl (c_t_cells, n_t_cells, .inr (.inl e_t_cells)))]) ⟨hx, hb, hml, hown, hts⟩ (c_Md_goes l dC dI a_t a_t_text a_t_digits a_t_counts a_t_points a_t_limbs a_t_cells a_t_lines a_t_draft s_t_thrown s_t_length s_t_place s_t_limbCount s_t_rows s_t_columns s_t_laid s_t_size z_3 r_6 s_t_thrown_7 hc_8) (cwV 1 hts (xgoodV g_790 g_792 gp_22 g_10 g_793) rfl rfl rfl (by decide +kernel) ⟨Nat.le_of_ble_eq_true rfl, Nat.le_of_ble_eq_true rfl⟩) hNz (ci := 8) (q0 := 0) rfl rfl hA hP hD hS hK [0] [1] [] rfl rfl rfl rfl (by decide) rfl rfl rfl rfl hl.1 (Nat.le_of_ble_eq_true rfl) ⟨Nat.zero_le _, Nat.zero_le _⟩ d_Md_table_26 (fun H locs hP hD hS => ?_)
    have hP : va_P (dC, dI) x_cl [(a_t_cells, .inl (c_t_cells, n_t_cells, .inr (.inl e_t_cells))), (a_t, .inr (8, [.int s_t_thrown_7, .int s_t_length, .ref a_t_text, .int s_t_place, .ref a_t_digits, .ref a_t_counts, .ref a_t_points, .ref a_t_limbs, .int s_t_limbCount, .int s_t_rows, .int s_t_columns, .ref a_t_cells, .int s_t_laid, .ref a_t_lines, .int s_t_size, .ref a_t_draft]))] H := hP
    have hD : va_D A [(a_t_cells, .inl (c_t_cells, n_t_cells, .inr (.inl e_t_cells))), (a_t, .inr (8, [.int s_t_thrown_7, .int s_t_length, .ref a_t_text, .int s_t_place, .ref a_t_digits, .ref a_t_counts, .ref a_t_points, .ref a_t_limbs, .int s_t_limbCount, .int s_t_rows, .int s_t_columns, .ref a_t_cells, .int s_t_laid, .ref a_t_lines, .int s_t_size, .ref a_t_draft]))] := hD
    refine lv_if_ne (tgt := 33) hx hb d_Md_table_29 (by decide) (fun c_9 => ?_) (fun c_9 => ?_)
    · rw [if_neg c_9] at h
      refine lv_aload_n hx hb d_Md_table_33 rfl (lv_at hl 0 rfl) ?_
      refine lv_iload_n hx hb d_Md_table_34 rfl (lv_at hl 1 rfl) ?_
      refine va_put (D := (dC, dI)) (ci := 8) (v := .int x1) (ty := .int) (C := R_Md) (T := T_Md) (N := 16) hx hb hts in_Md ty_Md tyok_Md nn_Md hown hK hP hD hS 1 rfl rfl 9 (by decide) (hts _ g_715) (fun _ h9 => h9) rfl (by decide +kernel) rfl rfl (Nat.le_of_ble_eq_true rfl) d_Md_table_35 (fun H locs hP hD hS => ?_)
      have hP : va_P (dC, dI) x_cl [(a_t_cells, .inl (c_t_cells, n_t_cells, .inr (.inl e_t_cells))), (a_t, .inr (8, [.int s_t_thrown_7, .int s_t_length, .ref a_t_text, .int s_t_place, .ref a_t_digits, .ref a_t_counts, .ref a_t_points, .ref a_t_limbs, .int s_t_limbCount, .int x1, .int s_t_columns, .ref a_t_cells, .int s_t_laid, .ref a_t_lines, .int s_t_size, .ref a_t_draft]))] H := hP
      have hD : va_D A [(a_t_cells, .inl (c_t_cells, n_t_cells, .inr (.inl e_t_cells))), (a_t, .inr (8, [.int s_t_thrown_7, .int s_t_length, .ref a_t_text, .int s_t_place, .ref a_t_digits, .ref a_t_counts, .ref a_t_points, .ref a_t_limbs, .int s_t_limbCount, .int x1, .int s_t_columns, .ref a_t_cells, .int s_t_laid, .ref a_t_lines, .int s_t_size, .ref a_t_draft]))] := hD
      refine lv_aload_n hx hb d_Md_table_38 rfl (lv_at hl 0 rfl) ?_
      refine lv_iload_n hx hb d_Md_table_39 rfl (lv_at hl 2 rfl) ?_
      refine va_put (D := (dC, dI)) (ci := 8) (v := .int x2) (ty := .int) (C := R_Md) (T := T_Md) (N := 16) hx hb hts in_Md ty_Md tyok_Md nn_Md hown hK hP hD hS 1 rfl rfl 10 (by decide) (hts _ g_716) (fun _ h9 => h9) rfl (by decide +kernel) rfl rfl (Nat.le_of_ble_eq_true rfl) d_Md_table_40 (fun H locs hP hD hS => ?_)
      have hP : va_P (dC, dI) x_cl [(a_t_cells, .inl (c_t_cells, n_t_cells, .inr (.inl e_t_cells))), (a_t, .inr (8, [.int s_t_thrown_7, .int s_t_length, .ref a_t_text, .int s_t_place, .ref a_t_digits, .ref a_t_counts, .ref a_t_points, .ref a_t_limbs, .int s_t_limbCount, .int x1, .int x2, .ref a_t_cells, .int s_t_laid, .ref a_t_lines, .int s_t_size, .ref a_t_draft]))] H := hP
      have hD : va_D A [(a_t_cells, .inl (c_t_cells, n_t_cells, .inr (.inl e_t_cells))), (a_t, .inr (8, [.int s_t_thrown_7, .int s_t_length, .ref a_t_text, .int s_t_place, .ref a_t_digits, .ref a_t_counts, .ref a_t_points, .ref a_t_limbs, .int s_t_limbCount, .int x1, .int x2, .ref a_t_cells, .int s_t_laid, .ref a_t_lines, .int s_t_size, .ref a_t_draft]))] := hD
      refine lv_aload_n hx hb d_Md_table_43 rfl (lv_at hl 0 rfl) ?_
      refine lv_iconst (v := 0) hx hb d_Md_table_44 (by decide) ?_
      refine va_put (D := (dC, dI)) (ci := 8) (v := .int (0 : Int32)) (ty := .int) (C := R_Md) (T := T_Md) (N := 16) hx hb hts in_Md ty_Md tyok_Md nn_Md hown hK hP hD hS 1 rfl rfl 12 (by decide) (hts _ g_718) (fun _ h9 => h9) rfl (by decide +kernel) rfl rfl (Nat.le_of_ble_eq_true rfl) d_Md_table_45 (fun H locs hP hD hS => ?_)
      have hP : va_P (dC, dI) x_cl [(a_t_cells, .inl (c_t_cells, n_t_cells, .inr (.inl e_t_cells))), (a_t, .inr (8, [.int s_t_thrown_7, .int s_t_length, .ref a_t_text, .int s_t_place, .ref a_t_digits, .ref a_t_counts, .ref a_t_points, .ref a_t_limbs, .int s_t_limbCount, .int x1, .int x2, .ref a_t_cells, .int (0 : Int32), .ref a_t_lines, .int s_t_size, .ref a_t_draft]))] H := hP
      have hD : va_D A [(a_t_cells, .inl (c_t_cells, n_t_cells, .inr (.inl e_t_cells))), (a_t, .inr (8, [.int s_t_thrown_7, .int s_t_length, .ref a_t_text, .int s_t_place, .ref a_t_digits, .ref a_t_counts, .ref a_t_points, .ref a_t_limbs, .int s_t_limbCount, .int x1, .int x2, .ref a_t_cells, .int (0 : Int32), .ref a_t_lines, .int s_t_size, .ref a_t_draft]))] := hD
      refine lv_iconst (v := 0) hx hb d_Md_table_48 (by decide) ?_
      refine lv_istore_n (lv' := [(3, .int (0 : Int32)), (0, .ref a_t), (1, .int x1), (2, .int x2)]) hx hb d_Md_table_49 rfl hl (by decide) rfl (fun ls hl => ?_)
      replace h := xob_s h
      obtain ⟨e_t_cells_12, hlp_13, h⟩ := h
      try dsimp only at h
      have hX_14 : ∀ (H : Heap) (locs : List Loc) (ls : Array Slot), va_P (dC, dI) x_cl [(a_t, .inr (8, [.int s_t_thrown_7, .int s_t_length, .ref a_t_text, .int s_t_place, .ref a_t_digits, .ref a_t_counts, .ref a_t_points, .ref a_t_limbs, .int s_t_limbCount, .int x1, .int x2, .ref a_t_cells, .int (0 : Int32), .ref a_t_lines, .int s_t_size, .ref a_t_draft])), (a_t_cells, .inl (c_t_cells, n_t_cells, .inr (.inl e_t_cells_12)))] H → va_D A [(a_t, .inr (8, [.int s_t_thrown_7, .int s_t_length, .ref a_t_text, .int s_t_place, .ref a_t_digits, .ref a_t_counts, .ref a_t_points, .ref a_t_limbs, .int s_t_limbCount, .int x1, .int x2, .ref a_t_cells, .int (0 : Int32), .ref a_t_lines, .int s_t_size, .ref a_t_draft])), (a_t_cells, .inl (c_t_cells, n_t_cells, .inr (.inl e_t_cells_12)))] → va_S A s.heap H locs → lv_has ls 4 [] → W p l e rm_Md_table s m args below meth c H locs 0 0 Q (F0 m 69 ls []) := by
        intro H locs ls hP hD hS hl
        replace h := Option.some.inj h
        replace h := Prod.mk.inj h
        obtain ⟨h1, h⟩ := h
        subst h1
        replace h := Prod.mk.inj h
        obtain ⟨h1, h⟩ := h
        subst h1
        replace h := Prod.mk.inj h
        obtain ⟨h1, h⟩ := h
        subst h1
        replace h := Prod.mk.inj h
        obtain ⟨h1, h⟩ := h
        subst h1
        subst h
        exact hret _ _ hP hD hS _ _ d_Md_table_69
      clear h
      have hL_15 : ∀ (n_ : Nat) (x3_10 : Int32) (e_t_cells_11 : Nat → Int64) (H : Heap) (locs : List Loc) (ls : Array Slot), lp_Md_table_50 s_t_thrown_7 s_t_length s_t_place s_t_limbCount x1 x2 s_t_size n_t_cells n_ x3_10 e_t_cells_11 = some e_t_cells_12 → va_P (dC, dI) x_cl [(a_t, .inr (8, [.int s_t_thrown_7, .int s_t_length, .ref a_t_text, .int s_t_place, .ref a_t_digits, .ref a_t_counts, .ref a_t_points, .ref a_t_limbs, .int s_t_limbCount, .int x1, .int x2, .ref a_t_cells, .int (0 : Int32), .ref a_t_lines, .int s_t_size, .ref a_t_draft])), (a_t_cells, .inl (c_t_cells, n_t_cells, .inr (.inl e_t_cells_11)))] H → va_D A [(a_t, .inr (8, [.int s_t_thrown_7, .int s_t_length, .ref a_t_text, .int s_t_place, .ref a_t_digits, .ref a_t_counts, .ref a_t_points, .ref a_t_limbs, .int s_t_limbCount, .int x1, .int x2, .ref a_t_cells, .int (0 : Int32), .ref a_t_lines, .int s_t_size, .ref a_t_draft])), (a_t_cells, .inl (c_t_cells, n_t_cells, .inr (.inl e_t_cells_11)))] → va_S A s.heap H locs → lv_has ls 4 [(0, .ref a_t), (3, .int x3_10)] → W p l e rm_Md_table s m args below meth c H locs 0 0 Q (F0 m 50 ls []) := by
        intro n_
        induction n_ with
        | zero => intro x3_10 e_t_cells_11 H locs ls h; cases h
        | succ n_ ih =>
          intro x3_10 e_t_cells_11 H locs ls h hP hD hS hl
          rw [lp_Md_table_50] at h
          refine lv_iload_n hx hb d_Md_table_50 rfl (lv_at hl 1 rfl) ?_
          refine lv_bipush (v := 64) hx hb d_Md_table_51 (by decide) ?_
          refine lv_icmp_ge (tgt := 69) hx hb d_Md_table_53 (by decide) (fun c_16 => ?_) (fun c_16 => ?_)
          · rw [if_pos c_16] at h
            replace h := Option.some.inj h
            subst h
            exact hX_14 _ _ _ hP hD hS (lv_sub hl [] rfl)
          · rw [if_neg c_16] at h
            refine lv_aload_n hx hb d_Md_table_56 rfl (lv_at hl 0 rfl) ?_
            refine va_get (D := (dC, dI)) (ci := 8) (v := .ref a_t_cells) (C := R_Md) (T := T_Md) (N := 16) hx hb hts in_Md hown hK hP 0 rfl rfl 11 (by decide) (hts _ g_717) (fun _ h9 => h9) rfl d_Md_table_57 ?_
            refine lv_iload_n hx hb d_Md_table_60 rfl (lv_at hl 1 rfl) ?_
            refine lv_lconst (v := 0) hx hb d_Md_table_61 (by decide) ?_
            replace h := xg h
            obtain ⟨hg_17, h⟩ := h
            refine va_last hx hb hK hP hD hS 1 0 rfl rfl hg_17 d_Md_table_62 (fun H locs hP hD hS => ?_)
            have hP : va_P (dC, dI) x_cl [(a_t, .inr (8, [.int s_t_thrown_7, .int s_t_length, .ref a_t_text, .int s_t_place, .ref a_t_digits, .ref a_t_counts, .ref a_t_points, .ref a_t_limbs, .int s_t_limbCount, .int x1, .int x2, .ref a_t_cells, .int (0 : Int32), .ref a_t_lines, .int s_t_size, .ref a_t_draft])), (a_t_cells, .inl (c_t_cells, n_t_cells, .inr (.inl ((vp_updL e_t_cells_11 x3_10.toNatClampNeg (0 : Int64))))))] H := hP
            have hD : va_D A [(a_t, .inr (8, [.int s_t_thrown_7, .int s_t_length, .ref a_t_text, .int s_t_place, .ref a_t_digits, .ref a_t_counts, .ref a_t_points, .ref a_t_limbs, .int s_t_limbCount, .int x1, .int x2, .ref a_t_cells, .int (0 : Int32), .ref a_t_lines, .int s_t_size, .ref a_t_draft])), (a_t_cells, .inl (c_t_cells, n_t_cells, .inr (.inl ((vp_updL e_t_cells_11 x3_10.toNatClampNeg (0 : Int64))))))] := hD
            replace h := xnm_s h
            obtain ⟨x3_18, ex3_18, h⟩ := h
            refine lv_iinc (v := x3_18) (lv' := [(3, .int x3_18), (0, .ref a_t)]) hx hb d_Md_table_63 hl (k := 1) rfl (by rw [← ex3_18]; rfl) (by decide) rfl (fun ls hl => ?_)
            refine lv_goto (tgt := 50) hx hb d_Md_table_66 (by decide) ?_
            exact ih _ _ _ _ _ h hP hD hS (lv_sub hl [1, 0] rfl)
      exact hL_15 xF _ _ _ _ _ hlp_13 (hP.sub [1, 0] rfl) (hD.sub [1, 0] (by decide) rfl) hS (lv_sub hl [1, 0] rfl)
    · rw [if_pos c_9] at h
      replace h := Option.some.inj h
      replace h := Prod.mk.inj h
      obtain ⟨h1, h⟩ := h
      subst h1
      replace h := Prod.mk.inj h
      obtain ⟨h1, h⟩ := h
      subst h1
      replace h := Prod.mk.inj h
      obtain ⟨h1, h⟩ := h
      subst h1
      replace h := Prod.mk.inj h
      obtain ⟨h1, h⟩ := h
      subst h1
      subst h
      exact hret _ _ (hP.sub [1, 0] rfl) (hD.sub [1, 0] (by decide) rfl) hS _ _ d_Md_table_32
  replace h := hj_4
  clear hj_4
  refine lv_if_eq (tgt := 25) hx hb d_Md_table_8 (by decide) (fun c_19 => ?_) (fun c_19 => ?_)
  · rw [if_pos c_19] at h
    refine lv_iconst (v := 0) hx hb d_Md_table_25 (by decide) ?_
    replace h := Option.some.inj h
    subst h
    exact hJ_5 _ _ _ hP hD hS hl
  · rw [if_neg c_19] at h
    refine lv_iload_n hx hb d_Md_table_11 rfl (lv_at hl 2 rfl) ?_
    refine lv_iconst (v := 1) hx hb d_Md_table_12 (by decide) ?_
    refine lv_bipush (v := 8) hx hb d_Md_table_13 (by decide) ?_
    replace h := xob_s h
    obtain ⟨r_20, hc_21, h⟩ := h
    try dsimp only at h
    refine xcS (As := [.int x2, .int (1 : Int32), .int (8 : Int32)]) (rest := [.ref a_t]) (st1 := [.int r_20, .ref a_t]) (wr := [(a_t, .inr (8, [.int s_t_thrown, .int s_t_length, .ref a_t_text, .int s_t_place, .ref a_t_digits, .ref a_t_counts, .ref a_t_points, .ref a_t_limbs, .int s_t_limbCount, .int s_t_rows, .int s_t_columns, .ref a_t_cells, .int s_t_laid, .ref a_t_lines, .int s_t_size, .ref a_t_draft])), (a_t_cells, .inl (c_t_cells, n_t_cells, .inr (.inl e_t_cells)))]) ⟨hx, hb, hml, hown, hts⟩ (c_Md_in l dC dI x2 (1 : Int32) (8 : Int32) r_20 hc_21) (⟨callB_of 3 hts (xgood g_765) rfl rfl rfl (hts _ g_10) (hts _ g_763) (by decide +kernel) ⟨Nat.le_of_ble_eq_true rfl, Nat.le_of_ble_eq_true rfl⟩, (hts _ g_764)⟩) hNz hA hP hD hS hK [] [0, 1] [] rfl rfl rfl rfl (by decide) rfl rfl rfl rfl hl.1 (Nat.le_of_ble_eq_true rfl) ⟨Nat.zero_le _, Nat.zero_le _⟩ d_Md_table_15 (fun H locs hP hD hS => ?_)
    have hP : va_P (dC, dI) x_cl [(a_t, .inr (8, [.int s_t_thrown, .int s_t_length, .ref a_t_text, .int s_t_place, .ref a_t_digits, .ref a_t_counts, .ref a_t_points, .ref a_t_limbs, .int s_t_limbCount, .int s_t_rows, .int s_t_columns, .ref a_t_cells, .int s_t_laid, .ref a_t_lines, .int s_t_size, .ref a_t_draft])), (a_t_cells, .inl (c_t_cells, n_t_cells, .inr (.inl e_t_cells)))] H := hP
    have hD : va_D A [(a_t, .inr (8, [.int s_t_thrown, .int s_t_length, .ref a_t_text, .int s_t_place, .ref a_t_digits, .ref a_t_counts, .ref a_t_points, .ref a_t_limbs, .int s_t_limbCount, .int s_t_rows, .int s_t_columns, .ref a_t_cells, .int s_t_laid, .ref a_t_lines, .int s_t_size, .ref a_t_draft])), (a_t_cells, .inl (c_t_cells, n_t_cells, .inr (.inl e_t_cells)))] := hD
    refine lv_if_eq (tgt := 25) hx hb d_Md_table_18 (by decide) (fun c_22 => ?_) (fun c_22 => ?_)
    · rw [if_pos c_22] at h
      refine lv_iconst (v := 0) hx hb d_Md_table_25 (by decide) ?_
      replace h := Option.some.inj h
      subst h
      exact hJ_5 _ _ _ hP hD hS hl
    · rw [if_neg c_22] at h
      refine lv_iconst (v := 1) hx hb d_Md_table_21 (by decide) ?_
      refine lv_goto (tgt := 26) hx hb d_Md_table_22 (by decide) ?_
      replace h := Option.some.inj h
      subst h
      exact hJ_5 _ _ _ hP hD hS hl
