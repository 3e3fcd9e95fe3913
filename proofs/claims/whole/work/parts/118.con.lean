def f_Md_isZero (x0 : Int64) : Option (Int32) :=
  if (lg_cmp (x0 &&& (9223372036854775807 : Int64)) (0 : Int64)) = 0 then (some (1 : Int32)) else (some (0 : Int32))
def rm_Md_isZero : Room := { frames := 0, cells := 0, slots := 0, locals := 0 }
set_option maxHeartbeats 4000000 in
set_option maxRecDepth 100000 in
theorem c_Md_isZero (l : Launch) (dC : Nat → ClassId) (dI : Nat → Nat → Nat) (x0 : Int64) (r_ : Int32) (h : f_Md_isZero x0 = some r_) : xM l y_Md_isZero (Cond.code y_Md_isZero b_Md_isZero 2 (some .boolean) :: xG) rm_Md_isZero (dC, dI) x_cl x_nz [.long x0] [] [] (some (.int r_)) [] := by
  unfold f_Md_isZero at h
  refine xM.mkZ (cc := b_Md_isZero) (maxL := 2)  (by decide +kernel) rfl (Nat.le_of_ble_eq_true rfl) ?_
  intro p e s m args below meth c A Q ls hx hb hml hown hts hNz hA hP hD hK hl hret
  have hS : va_S A s.heap s.heap [] := va_S.rf
  have hl : lv_has ls 2 [(0, .long x0)] := hl
  refine lv_lload_n hx hb d_Md_isZero_0 rfl (lv_at hl 0 rfl) ?_
  refine lv_ldc2 (v := 9223372036854775807) hx hb hown (hts _ g_852) d_Md_isZero_1 ?_
  refine lv_land hx hb d_Md_isZero_4 ?_
  refine lv_lconst (v := 0) hx hb d_Md_isZero_5 (by decide) ?_
  refine W.lcmp hx hb d_Md_isZero_6 ?_
  refine lv_if_ne (tgt := 14) hx hb d_Md_isZero_7 (by decide) (fun c_1 => ?_) (fun c_1 => ?_)
  · rw [if_neg c_1] at h
    refine lv_iconst (v := 0) hx hb d_Md_isZero_14 (by decide) ?_
    replace h := Option.some.inj h
    subst h
    exact hret _ _ hP hD hS _ _ d_Md_isZero_15 rfl
  · rw [if_pos c_1] at h
    refine lv_iconst (v := 1) hx hb d_Md_isZero_10 (by decide) ?_
    refine lv_goto (tgt := 15) hx hb d_Md_isZero_11 (by decide) ?_
    replace h := Option.some.inj h
    subst h
    exact hret _ _ hP hD hS _ _ d_Md_isZero_15 rfl
def f_Md_write (n_t_text : Nat) (n_t_digits : Nat) (n_t_counts : Nat) (n_t_points : Nat) (n_t_limbs : Nat) (n_t_draft : Nat) (s_t_thrown : Int32) (s_t_length : Int32) (s_t_place : Int32) (s_t_limbCount : Int32) (s_t_rows : Int32) (s_t_columns : Int32) (s_t_laid : Int32) (s_t_size : Int32) (e_t_text : Nat → Int32) (e_t_digits : Nat → Int32) (e_t_counts : Nat → Int32) (e_t_points : Nat → Int32) (e_t_limbs : Nat → Int32) (e_t_draft : Nat → Int32) (x1 : Int64) : Option (Int32 × Int32 × Int32 × Int32 × Int32 × (Nat → Int32) × (Nat → Int32) × (Nat → Int32) × (Nat → Int32) × (Nat → Int32) × (Nat → Int32)) :=
  xob (f_Md_special n_t_draft (0 : Int32) s_t_length s_t_place s_t_limbCount s_t_rows s_t_columns s_t_laid s_t_size e_t_draft x1) fun (r_1, s_t_size_2, e_t_draft_3) => xob (if r_1 = 0 then (xob (f_Md_isZero x1) fun r_19 => if r_19 = 0 then (xob (f_Md_shortest n_t_digits n_t_counts n_t_points n_t_limbs (0 : Int32) s_t_length s_t_place s_t_limbCount s_t_rows s_t_columns s_t_laid s_t_size_2 e_t_digits e_t_counts e_t_points e_t_limbs x1) fun (s_t_limbCount_22, e_t_digits_23, e_t_counts_24, e_t_points_25, e_t_limbs_26) => xob (f_Md_sign n_t_draft (0 : Int32) s_t_length s_t_place s_t_limbCount_22 s_t_rows s_t_columns s_t_laid s_t_size_2 e_t_draft_3 x1) fun (s_t_size_28, e_t_draft_29) => xob (f_Md_written n_t_digits n_t_counts n_t_points n_t_draft (0 : Int32) s_t_length s_t_place s_t_limbCount_22 s_t_rows s_t_columns s_t_laid s_t_size_28 e_t_digits_23 e_t_counts_24 e_t_points_25 e_t_draft_29 (3 : Int32)) fun (s_t_size_31, e_t_draft_32) => some (s_t_limbCount_22, s_t_size_31, e_t_digits_23, e_t_counts_24, e_t_points_25, e_t_limbs_26, e_t_draft_32)) else (xob (f_Md_put n_t_draft (0 : Int32) s_t_length s_t_place s_t_limbCount s_t_rows s_t_columns s_t_laid s_t_size_2 e_t_draft_3 (48 : Int32)) fun (s_t_size_34, e_t_draft_35) => some (s_t_limbCount, s_t_size_34, e_t_digits, e_t_counts, e_t_points, e_t_limbs, e_t_draft_35))) else (some (s_t_limbCount, s_t_size_2, e_t_digits, e_t_counts, e_t_points, e_t_limbs, e_t_draft_3))) fun (s_t_limbCount_5, s_t_size_6, e_t_digits_7, e_t_counts_8, e_t_points_9, e_t_limbs_10, e_t_draft_11) => xob (f_Md_done n_t_text n_t_draft (0 : Int32) s_t_length s_t_place s_t_limbCount_5 s_t_rows s_t_columns s_t_laid s_t_size_6 e_t_text e_t_draft_11) fun (r_14, s_t_length_15, e_t_text_16) => some (r_14, s_t_length_15, s_t_limbCount_5, s_t_size_6, (0 : Int32), e_t_text_16, e_t_digits_7, e_t_counts_8, e_t_points_9, e_t_limbs_10, e_t_draft_11)
def rm_Md_write : Room := { frames := 6, cells := 0, slots := 0, locals := 163 }
set_option maxHeartbeats 4000000 in
set_option maxRecDepth 100000 in
theorem c_Md_write (l : Launch) (dC : Nat → ClassId) (dI : Nat → Nat → Nat) (a_t a_t_text a_t_digits a_t_counts a_t_points a_t_limbs a_t_cells a_t_lines a_t_draft : Nat) (c_t_text c_t_digits c_t_counts c_t_points c_t_limbs c_t_draft : ClassId) (n_t_text : Nat) (n_t_digits : Nat) (n_t_counts : Nat) (n_t_points : Nat) (n_t_limbs : Nat) (n_t_draft : Nat) (s_t_thrown : Int32) (s_t_length : Int32) (s_t_place : Int32) (s_t_limbCount : Int32) (s_t_rows : Int32) (s_t_columns : Int32) (s_t_laid : Int32) (s_t_size : Int32) (e_t_text : Nat → Int32) (e_t_digits : Nat → Int32) (e_t_counts : Nat → Int32) (e_t_points : Nat → Int32) (e_t_limbs : Nat → Int32) (e_t_draft : Nat → Int32) (x1 : Int64) (r_ : Int32) (s_t_length_o : Int32) (s_t_limbCount_o : Int32) (s_t_size_o : Int32) (s_t_thrown_o : Int32) (e_t_text_o : Nat → Int32) (e_t_digits_o : Nat → Int32) (e_t_counts_o : Nat → Int32) (e_t_points_o : Nat → Int32) (e_t_limbs_o : Nat → Int32) (e_t_draft_o : Nat → Int32) (h : f_Md_write n_t_text n_t_digits n_t_counts n_t_points n_t_limbs n_t_draft s_t_thrown s_t_length s_t_place s_t_limbCount s_t_rows s_t_columns s_t_laid s_t_size e_t_text e_t_digits e_t_counts e_t_points e_t_limbs e_t_draft x1 = some (r_, s_t_length_o, s_t_limbCount_o, s_t_size_o, s_t_thrown_o, e_t_text_o, e_t_digits_o, e_t_counts_o, e_t_points_o, e_t_limbs_o, e_t_draft_o)) : xM l y_Md_write (Cond.code y_Md_write b_Md_write 3 (some .int) :: xG) rm_Md_write (dC, dI) x_cl x_nz [.ref a_t, .long x1] [(c_t_text, .int), (c_t_digits, .int), (c_t_counts, .int), (c_t_points, .int), (c_t_limbs, .int), (c_t_draft, .int)] [(a_t, .inr (8, [.int s_t_thrown, .int s_t_length, .ref a_t_text, .int s_t_place, .ref a_t_digits, .ref a_t_counts, .ref a_t_points, .ref a_t_limbs, .int s_t_limbCount, .int s_t_rows, .int s_t_columns, .ref a_t_cells, .int s_t_laid, .ref a_t_lines, .int s_t_size, .ref a_t_draft])), (a_t_text, .inl (c_t_text, n_t_text, .inl e_t_text)), (a_t_digits, .inl (c_t_digits, n_t_digits, .inl e_t_digits)), (a_t_counts, .inl (c_t_counts, n_t_counts, .inl e_t_counts)), (a_t_points, .inl (c_t_points, n_t_points, .inl e_t_points)), (a_t_limbs, .inl (c_t_limbs, n_t_limbs, .inl e_t_limbs)), (a_t_draft, .inl (c_t_draft, n_t_draft, .inl e_t_draft))] (some (.int r_)) [(a_t, .inr (8, [.int s_t_thrown_o, .int s_t_length_o, .ref a_t_text, .int s_t_place, .ref a_t_digits, .ref a_t_counts, .ref a_t_points, .ref a_t_limbs, .int s_t_limbCount_o, .int s_t_rows, .int s_t_columns, .ref a_t_cells, .int s_t_laid, .ref a_t_lines, .int s_t_size_o, .ref a_t_draft])), (a_t_text, .inl (c_t_text, n_t_text, .inl e_t_text_o)), (a_t_digits, .inl (c_t_digits, n_t_digits, .inl e_t_digits_o)), (a_t_counts, .inl (c_t_counts, n_t_counts, .inl e_t_counts_o)), (a_t_points, .inl (c_t_points, n_t_points, .inl e_t_points_o)), (a_t_limbs, .inl (c_t_limbs, n_t_limbs, .inl e_t_limbs_o)), (a_t_draft, .inl (c_t_draft, n_t_draft, .inl e_t_draft_o))] := by
  unfold f_Md_write at h
  refine xM.mkI (cc := b_Md_write) (maxL := 3)  (by decide +kernel) rfl (Nat.le_of_ble_eq_true rfl) ?_
  intro p e s m args below meth c A Q ls hx hb hml hown hts hNz hA hP hD hK hl hret
  have hS : va_S A s.heap s.heap [] := va_S.rf
  have hl : lv_has ls 3 [(0, .ref a_t), (1, .long x1)] := hl
  refine lv_aload_n hx hb d_Md_write_0 rfl (lv_at hl 0 rfl) ?_
  refine lv_iconst (v := 0) hx hb d_Md_write_1 (by decide) ?_
  refine va_put (D := (dC, dI)) (ci := 8) (v := .int (0 : Int32)) (ty := .int) (C := R_Md) (T := T_Md) (N := 16) hx hb hts in_Md ty_Md tyok_Md nn_Md hown hK hP hD hS 0 rfl rfl 0 (by decide) (hts _ g_706) (fun _ h9 => h9) rfl (by decide +kernel) rfl rfl (Nat.le_of_ble_eq_true rfl) d_Md_write_2 (fun H locs hP hD hS => ?_)
  have hP : va_P (dC, dI) x_cl [(a_t, .inr (8, [.int (0 : Int32), .int s_t_length, .ref a_t_text, .int s_t_place, .ref a_t_digits, .ref a_t_counts, .ref a_t_points, .ref a_t_limbs, .int s_t_limbCount, .int s_t_rows, .int s_t_columns, .ref a_t_cells, .int s_t_laid, .ref a_t_lines, .int s_t_size, .ref a_t_draft])), (a_t_text, .inl (c_t_text, n_t_text, .inl e_t_text)), (a_t_digits, .inl (c_t_digits, n_t_digits, .inl e_t_digits)), (a_t_counts, .inl (c_t_counts, n_t_counts, .inl e_t_counts)), (a_t_points, .inl (c_t_points, n_t_points, .inl e_t_points)), (a_t_limbs, .inl (c_t_limbs, n_t_limbs, .inl e_t_limbs)), (a_t_draft, .inl (c_t_draft, n_t_draft, .inl e_t_draft))] H := hP
  have hD : va_D A [(a_t, .inr (8, [.int (0 : Int32), .int s_t_length, .ref a_t_text, .int s_t_place, .ref a_t_digits, .ref a_t_counts, .ref a_t_points, .ref a_t_limbs, .int s_t_limbCount, .int s_t_rows, .int s_t_columns, .ref a_t_cells, .int s_t_laid, .ref a_t_lines, .int s_t_size, .ref a_t_draft])), (a_t_text, .inl (c_t_text, n_t_text, .inl e_t_text)), (a_t_digits, .inl (c_t_digits, n_t_digits, .inl e_t_digits)), (a_t_counts, .inl (c_t_counts, n_t_counts, .inl e_t_counts)), (a_t_points, .inl (c_t_points, n_t_points, .inl e_t_points)), (a_t_limbs, .inl (c_t_limbs, n_t_limbs, .inl e_t_limbs)), (a_t_draft, .inl (c_t_draft, n_t_draft, .inl e_t_draft))] := hD
  refine lv_aload_n hx hb d_Md_write_5 rfl (lv_at hl 0 rfl) ?_
  refine lv_lload_n hx hb d_Md_write_6 rfl (lv_at hl 1 rfl) ?_
  replace h := xob_s h
  obtain ⟨⟨r_1, s_t_size_2, e_t_draft_3⟩, hc_4, h⟩ := h
  try dsimp only at h
  refine xcV (As := [.long x1]) (rest := []) (st1 := [.int r_1]) (wr := [(a_t_text, .inl (c_t_text, n_t_text, .inl e_t_text)), (a_t_digits, .inl (c_t_digits, n_t_digits, .inl e_t_digits)), (a_t_counts, .inl (c_t_counts, n_t_counts, .inl e_t_counts)), (a_t_points, .inl (c_t_points, n_t_points, .inl e_t_points)), (a_t_limbs, .inl (c_t_limbs, n_t_limbs, .inl e_t_limbs))]) ⟨hx, hb, hml, hown, hts⟩ (c_Md_special l dC dI a_t a_t_text a_t_digits a_t_counts a_t_points a_t_limbs a_t_cells a_t_lines a_t_draft c_t_draft n_t_draft (0 : Int32) s_t_length s_t_place s_t_limbCount s_t_rows s_t_columns s_t_laid s_t_size e_t_draft x1 r_1 s_t_size_2 e_t_draft_3 hc_4) (cwV 1 hts (xgoodV g_848 g_850 gp_31 g_10 g_851) rfl rfl rfl (by decide +kernel) ⟨Nat.le_of_ble_eq_true rfl, Nat.le_of_ble_eq_true rfl⟩) hNz (ci := 8) (q0 := 0) rfl rfl hA hP hD hS hK [0, 6] [1, 2, 3, 4, 5] [5] rfl rfl rfl rfl (by decide) rfl rfl rfl rfl hl.1 (Nat.le_of_ble_eq_true rfl) ⟨Nat.zero_le _, Nat.zero_le _⟩ d_Md_write_7 (fun H locs hP hD hS => ?_)
  have hP : va_P (dC, dI) x_cl [(a_t_text, .inl (c_t_text, n_t_text, .inl e_t_text)), (a_t_digits, .inl (c_t_digits, n_t_digits, .inl e_t_digits)), (a_t_counts, .inl (c_t_counts, n_t_counts, .inl e_t_counts)), (a_t_points, .inl (c_t_points, n_t_points, .inl e_t_points)), (a_t_limbs, .inl (c_t_limbs, n_t_limbs, .inl e_t_limbs)), (a_t, .inr (8, [.int (0 : Int32), .int s_t_length, .ref a_t_text, .int s_t_place, .ref a_t_digits, .ref a_t_counts, .ref a_t_points, .ref a_t_limbs, .int s_t_limbCount, .int s_t_rows, .int s_t_columns, .ref a_t_cells, .int s_t_laid, .ref a_t_lines, .int s_t_size_2, .ref a_t_draft])), (a_t_draft, .inl (c_t_draft, n_t_draft, .inl e_t_draft_3))] H := hP
  have hD : va_D A [(a_t_text, .inl (c_t_text, n_t_text, .inl e_t_text)), (a_t_digits, .inl (c_t_digits, n_t_digits, .inl e_t_digits)), (a_t_counts, .inl (c_t_counts, n_t_counts, .inl e_t_counts)), (a_t_points, .inl (c_t_points, n_t_points, .inl e_t_points)), (a_t_limbs, .inl (c_t_limbs, n_t_limbs, .inl e_t_limbs)), (a_t, .inr (8, [.int (0 : Int32), .int s_t_length, .ref a_t_text, .int s_t_place, .ref a_t_digits, .ref a_t_counts, .ref a_t_points, .ref a_t_limbs, .int s_t_limbCount, .int s_t_rows, .int s_t_columns, .ref a_t_cells, .int s_t_laid, .ref a_t_lines, .int s_t_size_2, .ref a_t_draft])), (a_t_draft, .inl (c_t_draft, n_t_draft, .inl e_t_draft_3))] := hD
  replace h := xob_s h
  obtain ⟨⟨s_t_limbCount_5, s_t_size_6, e_t_digits_7, e_t_counts_8, e_t_points_9, e_t_limbs_10, e_t_draft_11⟩, hj_12, h⟩ := h
  try dsimp only at h
  have hJ_13 : ∀ (H : Heap) (locs : List Loc) (ls : Array Slot), va_P (dC, dI) x_cl [(a_t, .inr (8, [.int (0 : Int32), .int s_t_length, .ref a_t_text, .int s_t_place, .ref a_t_digits, .ref a_t_counts, .ref a_t_points, .ref a_t_limbs, .int s_t_limbCount_5, .int s_t_rows, .int s_t_columns, .ref a_t_cells, .int s_t_laid, .ref a_t_lines, .int s_t_size_6, .ref a_t_draft])), (a_t_text, .inl (c_t_text, n_t_text, .inl e_t_text)), (a_t_digits, .inl (c_t_digits, n_t_digits, .inl e_t_digits_7)), (a_t_counts, .inl (c_t_counts, n_t_counts, .inl e_t_counts_8)), (a_t_points, .inl (c_t_points, n_t_points, .inl e_t_points_9)), (a_t_limbs, .inl (c_t_limbs, n_t_limbs, .inl e_t_limbs_10)), (a_t_draft, .inl (c_t_draft, n_t_draft, .inl e_t_draft_11))] H → va_D A [(a_t, .inr (8, [.int (0 : Int32), .int s_t_length, .ref a_t_text, .int s_t_place, .ref a_t_digits, .ref a_t_counts, .ref a_t_points, .ref a_t_limbs, .int s_t_limbCount_5, .int s_t_rows, .int s_t_columns, .ref a_t_cells, .int s_t_laid, .ref a_t_lines, .int s_t_size_6, .ref a_t_draft])), (a_t_text, .inl (c_t_text, n_t_text, .inl e_t_text)), (a_t_digits, .inl (c_t_digits, n_t_digits, .inl e_t_digits_7)), (a_t_counts, .inl (c_t_counts, n_t_counts, .inl e_t_counts_8)), (a_t_points, .inl (c_t_points, n_t_points, .inl e_t_points_9)), (a_t_limbs, .inl (c_t_limbs, n_t_limbs, .inl e_t_limbs_10)), (a_t_draft, .inl (c_t_draft, n_t_draft, .inl e_t_draft_11))] → va_S A s.heap H locs → lv_has ls 3 [(0, .ref a_t)] → W p l e rm_Md_write s m args below meth c H locs 0 0 Q (F0 m 44 ls []) := by
    intro H locs ls hP hD hS hl
    refine lv_aload_n hx hb d_Md_write_44 rfl (lv_at hl 0 rfl) ?_
    replace h := xob_s h
    obtain ⟨⟨r_14, s_t_length_15, e_t_text_16⟩, hc_17, h⟩ := h
    try dsimp only at h
    refine xcV (As := []) (rest := []) (st1 := [.int r_14]) (wr := [(a_t_digits, .inl (c_t_digits, n_t_digits, .inl e_t_digits_7)), (a_t_counts, .inl (c_t_counts, n_t_counts, .inl e_t_counts_8)), (a_t_points, .inl (c_t_points, n_t_points, .inl e_t_points_9)), (a_t_limbs, .inl (c_t_limbs, n_t_limbs, .inl e_t_limbs_10))]) ⟨hx, hb, hml, hown, hts⟩ (c_Md_done l dC dI a_t a_t_text a_t_digits a_t_counts a_t_points a_t_limbs a_t_cells a_t_lines a_t_draft c_t_text c_t_draft n_t_text n_t_draft (0 : Int32) s_t_length s_t_place s_t_limbCount_5 s_t_rows s_t_columns s_t_laid s_t_size_6 e_t_text e_t_draft_11 r_14 s_t_length_15 e_t_text_16 hc_17) (cwV 0 hts (xgoodV g_900 g_902 gp_43 g_10 g_903) rfl rfl rfl (by decide +kernel) ⟨Nat.le_of_ble_eq_true rfl, Nat.le_of_ble_eq_true rfl⟩) hNz (ci := 8) (q0 := 0) rfl rfl hA hP hD hS hK [0, 1, 6] [2, 3, 4, 5] [0, 5] rfl rfl rfl rfl (by decide) rfl rfl rfl rfl hl.1 (Nat.le_of_ble_eq_true rfl) ⟨Nat.zero_le _, Nat.zero_le _⟩ d_Md_write_45 (fun H locs hP hD hS => ?_)
    have hP : va_P (dC, dI) x_cl [(a_t_digits, .inl (c_t_digits, n_t_digits, .inl e_t_digits_7)), (a_t_counts, .inl (c_t_counts, n_t_counts, .inl e_t_counts_8)), (a_t_points, .inl (c_t_points, n_t_points, .inl e_t_points_9)), (a_t_limbs, .inl (c_t_limbs, n_t_limbs, .inl e_t_limbs_10)), (a_t, .inr (8, [.int (0 : Int32), .int s_t_length_15, .ref a_t_text, .int s_t_place, .ref a_t_digits, .ref a_t_counts, .ref a_t_points, .ref a_t_limbs, .int s_t_limbCount_5, .int s_t_rows, .int s_t_columns, .ref a_t_cells, .int s_t_laid, .ref a_t_lines, .int s_t_size_6, .ref a_t_draft])), (a_t_text, .inl (c_t_text, n_t_text, .inl e_t_text_16)), (a_t_draft, .inl (c_t_draft, n_t_draft, .inl e_t_draft_11))] H := hP
    have hD : va_D A [(a_t_digits, .inl (c_t_digits, n_t_digits, .inl e_t_digits_7)), (a_t_counts, .inl (c_t_counts, n_t_counts, .inl e_t_counts_8)), (a_t_points, .inl (c_t_points, n_t_points, .inl e_t_points_9)), (a_t_limbs, .inl (c_t_limbs, n_t_limbs, .inl e_t_limbs_10)), (a_t, .inr (8, [.int (0 : Int32), .int s_t_length_15, .ref a_t_text, .int s_t_place, .ref a_t_digits, .ref a_t_counts, .ref a_t_points, .ref a_t_limbs, .int s_t_limbCount_5, .int s_t_rows, .int s_t_columns, .ref a_t_cells, .int s_t_laid, .ref a_t_lines, .int s_t_size_6, .ref a_t_draft])), (a_t_text, .inl (c_t_text, n_t_text, .inl e_t_text_16)), (a_t_draft, .inl (c_t_draft, n_t_draft, .inl e_t_draft_11))] := hD
    replace h := Option.some.inj h
    replace h := Prod.mk.inj h
    obtain ⟨h1, h⟩ := h
    subst h1
    replace h := Prod.mk.inj h
    obtain ⟨h1, h⟩ := h
    subst h1
    replace h := Prod.mk.inj h
    obtain ⟨h1, h⟩ := h
    subst h1
    replace h := Prod.mk.inj h
    obtain ⟨h1, h⟩ := h
    subst h1
    replace h := Prod.mk.inj h
    obtain ⟨h1, h⟩ := h
    subst h1
    replace h := Prod.mk.inj h
    obtain ⟨h1, h⟩ := h
    subst h1
    replace h := Prod.mk.inj h
    obtain ⟨h1, h⟩ := h
    subst h1
    replace h := Prod.mk.inj h
    obtain ⟨h1, h⟩ := h
    subst h1
    replace h := Prod.mk.inj h
    obtain ⟨h1, h⟩ := h
    subst h1
    replace h := Prod.mk.inj h
    obtain ⟨h1, h⟩ := h
    subst h1
    subst h
    exact hret _ _ (hP.sub [4, 5, 0, 1, 2, 3, 6] rfl) (hD.sub [4, 5, 0, 1, 2, 3, 6] (by decide) rfl) hS _ _ d_Md_write_48
  replace h := hj_12
  clear hj_12
  refine lv_if_ne (tgt := 44) hx hb d_Md_write_10 (by decide) (fun c_18 => ?_) (fun c_18 => ?_)
  · rw [if_neg c_18] at h
    replace h := Option.some.inj h
    replace h := Prod.mk.inj h
    obtain ⟨h1, h⟩ := h
    subst h1
    replace h := Prod.mk.inj h
    obtain ⟨h1, h⟩ := h
    subst h1
    replace h := Prod.mk.inj h
    obtain ⟨h1, h⟩ := h
    subst h1
    replace h := Prod.mk.inj h
    obtain ⟨h1, h⟩ := h
    subst h1
    replace h := Prod.mk.inj h
    obtain ⟨h1, h⟩ := h
    subst h1
    replace h := Prod.mk.inj h
    obtain ⟨h1, h⟩ := h
    subst h1
    subst h
    exact hJ_13 _ _ _ (hP.sub [5, 0, 1, 2, 3, 4, 6] rfl) (hD.sub [5, 0, 1, 2, 3, 4, 6] (by decide) rfl) hS (lv_sub hl [0] rfl)
  · rw [if_pos c_18] at h
    refine lv_lload_n hx hb d_Md_write_13 rfl (lv_at hl 1 rfl) ?_
    replace h := xob_s h
    obtain ⟨r_19, hc_20, h⟩ := h
    try dsimp only at h
    refine xcS (As := [.long x1]) (rest := []) (st1 := [.int r_19]) (wr := [(a_t_text, .inl (c_t_text, n_t_text, .inl e_t_text)), (a_t_digits, .inl (c_t_digits, n_t_digits, .inl e_t_digits)), (a_t_counts, .inl (c_t_counts, n_t_counts, .inl e_t_counts)), (a_t_points, .inl (c_t_points, n_t_points, .inl e_t_points)), (a_t_limbs, .inl (c_t_limbs, n_t_limbs, .inl e_t_limbs)), (a_t, .inr (8, [.int (0 : Int32), .int s_t_length, .ref a_t_text, .int s_t_place, .ref a_t_digits, .ref a_t_counts, .ref a_t_points, .ref a_t_limbs, .int s_t_limbCount, .int s_t_rows, .int s_t_columns, .ref a_t_cells, .int s_t_laid, .ref a_t_lines, .int s_t_size_2, .ref a_t_draft])), (a_t_draft, .inl (c_t_draft, n_t_draft, .inl e_t_draft_3))]) ⟨hx, hb, hml, hown, hts⟩ (c_Md_isZero l dC dI x1 r_19 hc_20) (⟨callB_of 1 hts (xgood g_863) rfl rfl rfl (hts _ g_10) (hts _ g_861) (by decide +kernel) ⟨Nat.le_of_ble_eq_true rfl, Nat.le_of_ble_eq_true rfl⟩, (hts _ g_862)⟩) hNz hA hP hD hS hK [] [0, 1, 2, 3, 4, 5, 6] [] rfl rfl rfl rfl (by decide) rfl rfl rfl rfl hl.1 (Nat.le_of_ble_eq_true rfl) ⟨Nat.zero_le _, Nat.zero_le _⟩ d_Md_write_14 (fun H locs hP hD hS => ?_)
    have hP : va_P (dC, dI) x_cl [(a_t_text, .inl (c_t_text, n_t_text, .inl e_t_text)), (a_t_digits, .inl (c_t_digits, n_t_digits, .inl e_t_digits)), (a_t_counts, .inl (c_t_counts, n_t_counts, .inl e_t_counts)), (a_t_points, .inl (c_t_points, n_t_points, .inl e_t_points)), (a_t_limbs, .inl (c_t_limbs, n_t_limbs, .inl e_t_limbs)), (a_t, .inr (8, [.int (0 : Int32), .int s_t_length, .ref a_t_text, .int s_t_place, .ref a_t_digits, .ref a_t_counts, .ref a_t_points, .ref a_t_limbs, .int s_t_limbCount, .int s_t_rows, .int s_t_columns, .ref a_t_cells, .int s_t_laid, .ref a_t_lines, .int s_t_size_2, .ref a_t_draft])), (a_t_draft, .inl (c_t_draft, n_t_draft, .inl e_t_draft_3))] H := hP
    have hD : va_D A [(a_t_text, .inl (c_t_text, n_t_text, .inl e_t_text)), (a_t_digits, .inl (c_t_digits, n_t_digits, .inl e_t_digits)), (a_t_counts, .inl (c_t_counts, n_t_counts, .inl e_t_counts)), (a_t_points, .inl (c_t_points, n_t_points, .inl e_t_points)), (a_t_limbs, .inl (c_t_limbs, n_t_limbs, .inl e_t_limbs)), (a_t, .inr (8, [.int (0 : Int32), .int s_t_length, .ref a_t_text, .int s_t_place, .ref a_t_digits, .ref a_t_counts, .ref a_t_points, .ref a_t_limbs, .int s_t_limbCount, .int s_t_rows, .int s_t_columns, .ref a_t_cells, .int s_t_laid, .ref a_t_lines, .int s_t_size_2, .ref a_t_draft])), (a_t_draft, .inl (c_t_draft, n_t_draft, .inl e_t_draft_3))] := hD
    refine lv_if_eq (tgt := 29) hx hb d_Md_write_17 (by decide) (fun c_21 => ?_) (fun c_21 => ?_)
    · rw [if_pos c_21] at h
      refine lv_aload_n hx hb d_Md_write_29 rfl (lv_at hl 0 rfl) ?_
      refine lv_lload_n hx hb d_Md_write_30 rfl (lv_at hl 1 rfl) ?_
      replace h := xob_s h
      obtain ⟨⟨s_t_limbCount_22, e_t_digits_23, e_t_counts_24, e_t_points_25, e_t_limbs_26⟩, hc_27, h⟩ := h
      try dsimp only at h
      refine xcV (As := [.long x1]) (rest := []) (st1 := []) (wr := [(a_t_text, .inl (c_t_text, n_t_text, .inl e_t_text)), (a_t_draft, .inl (c_t_draft, n_t_draft, .inl e_t_draft_3))]) ⟨hx, hb, hml, hown, hts⟩ (c_Md_shortest l dC dI a_t a_t_text a_t_digits a_t_counts a_t_points a_t_limbs a_t_cells a_t_lines a_t_draft c_t_digits c_t_counts c_t_points c_t_limbs n_t_digits n_t_counts n_t_points n_t_limbs (0 : Int32) s_t_length s_t_place s_t_limbCount s_t_rows s_t_columns s_t_laid s_t_size_2 e_t_digits e_t_counts e_t_points e_t_limbs x1 s_t_limbCount_22 e_t_digits_23 e_t_counts_24 e_t_points_25 e_t_limbs_26 hc_27) (cwV 1 hts (xgoodV g_864 g_866 gp_34 g_10 g_867) rfl rfl rfl (by decide +kernel) ⟨Nat.le_of_ble_eq_true rfl, Nat.le_of_ble_eq_true rfl⟩) hNz (ci := 8) (q0 := 5) rfl rfl hA hP hD hS hK [5, 1, 2, 3, 4] [0, 6] [1, 2, 3, 4] rfl rfl rfl rfl (by decide) rfl rfl rfl rfl hl.1 (Nat.le_of_ble_eq_true rfl) ⟨Nat.zero_le _, Nat.zero_le _⟩ d_Md_write_31 (fun H locs hP hD hS => ?_)
      have hP : va_P (dC, dI) x_cl [(a_t_text, .inl (c_t_text, n_t_text, .inl e_t_text)), (a_t_draft, .inl (c_t_draft, n_t_draft, .inl e_t_draft_3)), (a_t, .inr (8, [.int (0 : Int32), .int s_t_length, .ref a_t_text, .int s_t_place, .ref a_t_digits, .ref a_t_counts, .ref a_t_points, .ref a_t_limbs, .int s_t_limbCount_22, .int s_t_rows, .int s_t_columns, .ref a_t_cells, .int s_t_laid, .ref a_t_lines, .int s_t_size_2, .ref a_t_draft])), (a_t_digits, .inl (c_t_digits, n_t_digits, .inl e_t_digits_23)), (a_t_counts, .inl (c_t_counts, n_t_counts, .inl e_t_counts_24)), (a_t_points, .inl (c_t_points, n_t_points, .inl e_t_points_25)), (a_t_limbs, .inl (c_t_limbs, n_t_limbs, .inl e_t_limbs_26))] H := hP
      have hD : va_D A [(a_t_text, .inl (c_t_text, n_t_text, .inl e_t_text)), (a_t_draft, .inl (c_t_draft, n_t_draft, .inl e_t_draft_3)), (a_t, .inr (8, [.int (0 : Int32), .int s_t_length, .ref a_t_text, .int s_t_place, .ref a_t_digits, .ref a_t_counts, .ref a_t_points, .ref a_t_limbs, .int s_t_limbCount_22, .int s_t_rows, .int s_t_columns, .ref a_t_cells, .int s_t_laid, .ref a_t_lines, .int s_t_size_2, .ref a_t_draft])), (a_t_digits, .inl (c_t_digits, n_t_digits, .inl e_t_digits_23)), (a_t_counts, .inl (c_t_counts, n_t_counts, .inl e_t_counts_24)), (a_t_points, .inl (c_t_points, n_t_points, .inl e_t_points_25)), (a_t_limbs, .inl (c_t_limbs, n_t_limbs, .inl e_t_limbs_26))] := hD
      refine lv_aload_n hx hb d_Md_write_34 rfl (lv_at hl 0 rfl) ?_
      refine lv_lload_n hx hb d_Md_write_35 rfl (lv_at hl 1 rfl) ?_
      replace h := xob_s h
      obtain ⟨⟨s_t_size_28, e_t_draft_29⟩, hc_30, h⟩ := h
      try dsimp only at h
      refine xcV (As := [.long x1]) (rest := []) (st1 := []) (wr := [(a_t_text, .inl (c_t_text, n_t_text, .inl e_t_text)), (a_t_digits, .inl (c_t_digits, n_t_digits, .inl e_t_digits_23)), (a_t_counts, .inl (c_t_counts, n_t_counts, .inl e_t_counts_24)), (a_t_points, .inl (c_t_points, n_t_points, .inl e_t_points_25)), (a_t_limbs, .inl (c_t_limbs, n_t_limbs, .inl e_t_limbs_26))]) ⟨hx, hb, hml, hown, hts⟩ (c_Md_sign l dC dI a_t a_t_text a_t_digits a_t_counts a_t_points a_t_limbs a_t_cells a_t_lines a_t_draft c_t_draft n_t_draft (0 : Int32) s_t_length s_t_place s_t_limbCount_22 s_t_rows s_t_columns s_t_laid s_t_size_2 e_t_draft_3 x1 s_t_size_28 e_t_draft_29 hc_30) (cwV 1 hts (xgoodV g_853 g_855 gp_32 g_10 g_856) rfl rfl rfl (by decide +kernel) ⟨Nat.le_of_ble_eq_true rfl, Nat.le_of_ble_eq_true rfl⟩) hNz (ci := 8) (q0 := 2) rfl rfl hA hP hD hS hK [2, 1] [0, 3, 4, 5, 6] [5] rfl rfl rfl rfl (by decide) rfl rfl rfl rfl hl.1 (Nat.le_of_ble_eq_true rfl) ⟨Nat.zero_le _, Nat.zero_le _⟩ d_Md_write_36 (fun H locs hP hD hS => ?_)
      have hP : va_P (dC, dI) x_cl [(a_t_text, .inl (c_t_text, n_t_text, .inl e_t_text)), (a_t_digits, .inl (c_t_digits, n_t_digits, .inl e_t_digits_23)), (a_t_counts, .inl (c_t_counts, n_t_counts, .inl e_t_counts_24)), (a_t_points, .inl (c_t_points, n_t_points, .inl e_t_points_25)), (a_t_limbs, .inl (c_t_limbs, n_t_limbs, .inl e_t_limbs_26)), (a_t, .inr (8, [.int (0 : Int32), .int s_t_length, .ref a_t_text, .int s_t_place, .ref a_t_digits, .ref a_t_counts, .ref a_t_points, .ref a_t_limbs, .int s_t_limbCount_22, .int s_t_rows, .int s_t_columns, .ref a_t_cells, .int s_t_laid, .ref a_t_lines, .int s_t_size_28, .ref a_t_draft])), (a_t_draft, .inl (c_t_draft, n_t_draft, .inl e_t_draft_29))] H := hP
      have hD : va_D A [(a_t_text, .inl (c_t_text, n_t_text, .inl e_t_text)), (a_t_digits, .inl (c_t_digits, n_t_digits, .inl e_t_digits_23)), (a_t_counts, .inl (c_t_counts, n_t_counts, .inl e_t_counts_24)), (a_t_points, .inl (c_t_points, n_t_points, .inl e_t_points_25)), (a_t_limbs, .inl (c_t_limbs, n_t_limbs, .inl e_t_limbs_26)), (a_t, .inr (8, [.int (0 : Int32), .int s_t_length, .ref a_t_text, .int s_t_place, .ref a_t_digits, .ref a_t_counts, .ref a_t_points, .ref a_t_limbs, .int s_t_limbCount_22, .int s_t_rows, .int s_t_columns, .ref a_t_cells, .int s_t_laid, .ref a_t_lines, .int s_t_size_28, .ref a_t_draft])), (a_t_draft, .inl (c_t_draft, n_t_draft, .inl e_t_draft_29))] := hD
      refine lv_aload_n hx hb d_Md_write_39 rfl (lv_at hl 0 rfl) ?_
      refine lv_iconst (v := 3) hx hb d_Md_write_40 (by decide) ?_
      replace h := xob_s h
      obtain ⟨⟨s_t_size_31, e_t_draft_32⟩, hc_33, h⟩ := h
      try dsimp only at h
      refine xcV (As := [.int (3 : Int32)]) (rest := []) (st1 := []) (wr := [(a_t_text, .inl (c_t_text, n_t_text, .inl e_t_text)), (a_t_limbs, .inl (c_t_limbs, n_t_limbs, .inl e_t_limbs_26))]) ⟨hx, hb, hml, hown, hts⟩ (c_Md_written l dC dI a_t a_t_text a_t_digits a_t_counts a_t_points a_t_limbs a_t_cells a_t_lines a_t_draft c_t_digits c_t_counts c_t_points c_t_draft n_t_digits n_t_counts n_t_points n_t_draft (0 : Int32) s_t_length s_t_place s_t_limbCount_22 s_t_rows s_t_columns s_t_laid s_t_size_28 e_t_digits_23 e_t_counts_24 e_t_points_25 e_t_draft_29 (3 : Int32) s_t_size_31 e_t_draft_32 hc_33) (cwV 1 hts (xgoodV g_880 g_882 gp_38 g_10 g_883) rfl rfl rfl (by decide +kernel) ⟨Nat.le_of_ble_eq_true rfl, Nat.le_of_ble_eq_true rfl⟩) hNz (ci := 8) (q0 := 5) rfl rfl hA hP hD hS hK [5, 1, 2, 3, 6] [0, 4] [1, 2, 3, 5] rfl rfl rfl rfl (by decide) rfl rfl rfl rfl hl.1 (Nat.le_of_ble_eq_true rfl) ⟨Nat.zero_le _, Nat.zero_le _⟩ d_Md_write_41 (fun H locs hP hD hS => ?_)
      have hP : va_P (dC, dI) x_cl [(a_t_text, .inl (c_t_text, n_t_text, .inl e_t_text)), (a_t_limbs, .inl (c_t_limbs, n_t_limbs, .inl e_t_limbs_26)), (a_t, .inr (8, [.int (0 : Int32), .int s_t_length, .ref a_t_text, .int s_t_place, .ref a_t_digits, .ref a_t_counts, .ref a_t_points, .ref a_t_limbs, .int s_t_limbCount_22, .int s_t_rows, .int s_t_columns, .ref a_t_cells, .int s_t_laid, .ref a_t_lines, .int s_t_size_31, .ref a_t_draft])), (a_t_digits, .inl (c_t_digits, n_t_digits, .inl e_t_digits_23)), (a_t_counts, .inl (c_t_counts, n_t_counts, .inl e_t_counts_24)), (a_t_points, .inl (c_t_points, n_t_points, .inl e_t_points_25)), (a_t_draft, .inl (c_t_draft, n_t_draft, .inl e_t_draft_32))] H := hP
      have hD : va_D A [(a_t_text, .inl (c_t_text, n_t_text, .inl e_t_text)), (a_t_limbs, .inl (c_t_limbs, n_t_limbs, .inl e_t_limbs_26)), (a_t, .inr (8, [.int (0 : Int32), .int s_t_length, .ref a_t_text, .int s_t_place, .ref a_t_digits, .ref a_t_counts, .ref a_t_points, .ref a_t_limbs, .int s_t_limbCount_22, .int s_t_rows, .int s_t_columns, .ref a_t_cells, .int s_t_laid, .ref a_t_lines, .int s_t_size_31, .ref a_t_draft])), (a_t_digits, .inl (c_t_digits, n_t_digits, .inl e_t_digits_23)), (a_t_counts, .inl (c_t_counts, n_t_counts, .inl e_t_counts_24)), (a_t_points, .inl (c_t_points, n_t_points, .inl e_t_points_25)), (a_t_draft, .inl (c_t_draft, n_t_draft, .inl e_t_draft_32))] := hD
      replace h := Option.some.inj h
      replace h := Prod.mk.inj h
      obtain ⟨h1, h⟩ := h
      subst h1
      replace h := Prod.mk.inj h
      obtain ⟨h1, h⟩ := h
      subst h1
      replace h := Prod.mk.inj h
      obtain ⟨h1, h⟩ := h
      subst h1
      replace h := Prod.mk.inj h
      obtain ⟨h1, h⟩ := h
      subst h1
      replace h := Prod.mk.inj h
      obtain ⟨h1, h⟩ := h
      subst h1
      replace h := Prod.mk.inj h
      obtain ⟨h1, h⟩ := h
      subst h1
      subst h
      exact hJ_13 _ _ _ (hP.sub [2, 0, 3, 4, 5, 1, 6] rfl) (hD.sub [2, 0, 3, 4, 5, 1, 6] (by decide) rfl) hS (lv_sub hl [0] rfl)
    · rw [if_neg c_21] at h
      refine lv_aload_n hx hb d_Md_write_20 rfl (lv_at hl 0 rfl) ?_
      refine lv_bipush (v := 48) hx hb d_Md_write_21 (by decide) ?_
      replace h := xob_s h
      obtain ⟨⟨s_t_size_34, e_t_draft_35⟩, hc_36, h⟩ := h
      try dsimp only at h
      refine xcV (As := [.int (48 : Int32)]) (rest := []) (st1 := []) (wr := [(a_t_text, .inl (c_t_text, n_t_text, .inl e_t_text)), (a_t_digits, .inl (c_t_digits, n_t_digits, .inl e_t_digits)), (a_t_counts, .inl (c_t_counts, n_t_counts, .inl e_t_counts)), (a_t_points, .inl (c_t_points, n_t_points, .inl e_t_points)), (a_t_limbs, .inl (c_t_limbs, n_t_limbs, .inl e_t_limbs))]) ⟨hx, hb, hml, hown, hts⟩ (c_Md_put l dC dI a_t a_t_text a_t_digits a_t_counts a_t_points a_t_limbs a_t_cells a_t_lines a_t_draft c_t_draft n_t_draft (0 : Int32) s_t_length s_t_place s_t_limbCount s_t_rows s_t_columns s_t_laid s_t_size_2 e_t_draft_3 (48 : Int32) s_t_size_34 e_t_draft_35 hc_36) (cwV 1 hts (xgoodV g_857 g_859 gp_33 g_10 g_860) rfl rfl rfl (by decide +kernel) ⟨Nat.le_of_ble_eq_true rfl, Nat.le_of_ble_eq_true rfl⟩) hNz (ci := 8) (q0 := 5) rfl rfl hA hP hD hS hK [5, 6] [0, 1, 2, 3, 4] [5] rfl rfl rfl rfl (by decide) rfl rfl rfl rfl hl.1 (Nat.le_of_ble_eq_true rfl) ⟨Nat.zero_le _, Nat.zero_le _⟩ d_Md_write_23 (fun H locs hP hD hS => ?_)
      have hP : va_P (dC, dI) x_cl [(a_t_text, .inl (c_t_text, n_t_text, .inl e_t_text)), (a_t_digits, .inl (c_t_digits, n_t_digits, .inl e_t_digits)), (a_t_counts, .inl (c_t_counts, n_t_counts, .inl e_t_counts)), (a_t_points, .inl (c_t_points, n_t_points, .inl e_t_points)), (a_t_limbs, .inl (c_t_limbs, n_t_limbs, .inl e_t_limbs)), (a_t, .inr (8, [.int (0 : Int32), .int s_t_length, .ref a_t_text, .int s_t_place, .ref a_t_digits, .ref a_t_counts, .ref a_t_points, .ref a_t_limbs, .int s_t_limbCount, .int s_t_rows, .int s_t_columns, .ref a_t_cells, .int s_t_laid, .ref a_t_lines, .int s_t_size_34, .ref a_t_draft])), (a_t_draft, .inl (c_t_draft, n_t_draft, .inl e_t_draft_35))] H := hP
      have hD : va_D A [(a_t_text, .inl (c_t_text, n_t_text, .inl e_t_text)), (a_t_digits, .inl (c_t_digits, n_t_digits, .inl e_t_digits)), (a_t_counts, .inl (c_t_counts, n_t_counts, .inl e_t_counts)), (a_t_points, .inl (c_t_points, n_t_points, .inl e_t_points)), (a_t_limbs, .inl (c_t_limbs, n_t_limbs, .inl e_t_limbs)), (a_t, .inr (8, [.int (0 : Int32), .int s_t_length, .ref a_t_text, .int s_t_place, .ref a_t_digits, .ref a_t_counts, .ref a_t_points, .ref a_t_limbs, .int s_t_limbCount, .int s_t_rows, .int s_t_columns, .ref a_t_cells, .int s_t_laid, .ref a_t_lines, .int s_t_size_34, .ref a_t_draft])), (a_t_draft, .inl (c_t_draft, n_t_draft, .inl e_t_draft_35))] := hD
      refine lv_goto (tgt := 44) hx hb d_Md_write_26 (by decide) ?_
      replace h := Option.some.inj h
      replace h := Prod.mk.inj h
      obtain ⟨h1, h⟩ := h
      subst h1
      replace h := Prod.mk.inj h
      obtain ⟨h1, h⟩ := h
      subst h1
      replace h := Prod.mk.inj h
      obtain ⟨h1, h⟩ := h
      subst h1
      replace h := Prod.mk.inj h
      obtain ⟨h1, h⟩ := h
      subst h1
      replace h := Prod.mk.inj h
      obtain ⟨h1, h⟩ := h
      subst h1
      replace h := Prod.mk.inj h
      obtain ⟨h1, h⟩ := h
      subst h1
      subst h
      exact hJ_13 _ _ _ (hP.sub [5, 0, 1, 2, 3, 4, 6] rfl) (hD.sub [5, 0, 1, 2, 3, 4, 6] (by decide) rfl) hS (lv_sub hl [0] rfl)
def f_Md_digits (n_t_text : Nat) (n_t_digits : Nat) (n_t_counts : Nat) (n_t_points : Nat) (n_t_limbs : Nat) (n_t_draft : Nat) (s_t_thrown : Int32) (s_t_length : Int32) (s_t_place : Int32) (s_t_limbCount : Int32) (s_t_rows : Int32) (s_t_columns : Int32) (s_t_laid : Int32) (s_t_size : Int32) (e_t_text : Nat → Int32) (e_t_digits : Nat → Int32) (e_t_counts : Nat → Int32) (e_t_points : Nat → Int32) (e_t_limbs : Nat → Int32) (e_t_draft : Nat → Int32) (x1 : Int64) (x3 : Int32) : Option (Int32 × Int32 × Int32 × Int32 × Int32 × (Nat → Int32) × (Nat → Int32) × (Nat → Int32) × (Nat → Int32) × (Nat → Int32) × (Nat → Int32)) :=
  xob (f_Md_in x3 (1 : Int32) (17 : Int32)) fun r_1 => xob (f_Md_goes s_t_thrown s_t_length s_t_place s_t_limbCount s_t_rows s_t_columns s_t_laid s_t_size r_1) fun (r_3, s_t_thrown_4) => if r_3 = 0 then (some ((0 : Int32), s_t_length, s_t_limbCount, s_t_size, s_t_thrown_4, e_t_text, e_t_digits, e_t_counts, e_t_points, e_t_limbs, e_t_draft)) else (xob (f_Md_special n_t_draft s_t_thrown_4 s_t_length s_t_place s_t_limbCount s_t_rows s_t_columns s_t_laid s_t_size e_t_draft x1) fun (r_7, s_t_size_8, e_t_draft_9) => xob (if r_7 = 0 then (xob (f_Md_isZero x1) fun r_25 => if r_25 = 0 then (xob (f_Md_value n_t_digits n_t_counts n_t_points n_t_limbs s_t_thrown_4 s_t_length s_t_place s_t_limbCount s_t_rows s_t_columns s_t_laid s_t_size_8 e_t_digits e_t_counts e_t_points e_t_limbs (0 : Int32) (x1 &&& (9223372036854775807 : Int64))) fun (s_t_limbCount_28, e_t_digits_29, e_t_counts_30, e_t_points_31, e_t_limbs_32) => xob (f_Md_round n_t_digits n_t_counts n_t_points s_t_thrown_4 s_t_length s_t_place s_t_limbCount_28 s_t_rows s_t_columns s_t_laid s_t_size_8 e_t_digits_29 e_t_counts_30 e_t_points_31 (0 : Int32) (3 : Int32) x3) fun (e_t_digits_34, e_t_counts_35, e_t_points_36) => xob (f_Md_written n_t_digits n_t_counts n_t_points n_t_draft s_t_thrown_4 s_t_length s_t_place s_t_limbCount_28 s_t_rows s_t_columns s_t_laid s_t_size_8 e_t_digits_34 e_t_counts_35 e_t_points_36 e_t_draft_9 (3 : Int32)) fun (s_t_size_38, e_t_draft_39) => some (s_t_limbCount_28, s_t_size_38, e_t_digits_34, e_t_counts_35, e_t_points_36, e_t_limbs_32, e_t_draft_39)) else (xob (f_Md_put n_t_draft s_t_thrown_4 s_t_length s_t_place s_t_limbCount s_t_rows s_t_columns s_t_laid s_t_size_8 e_t_draft_9 (48 : Int32)) fun (s_t_size_41, e_t_draft_42) => some (s_t_limbCount, s_t_size_41, e_t_digits, e_t_counts, e_t_points, e_t_limbs, e_t_draft_42))) else (some (s_t_limbCount, s_t_size_8, e_t_digits, e_t_counts, e_t_points, e_t_limbs, e_t_draft_9))) fun (s_t_limbCount_11, s_t_size_12, e_t_digits_13, e_t_counts_14, e_t_points_15, e_t_limbs_16, e_t_draft_17) => xob (f_Md_done n_t_text n_t_draft s_t_thrown_4 s_t_length s_t_place s_t_limbCount_11 s_t_rows s_t_columns s_t_laid s_t_size_12 e_t_text e_t_draft_17) fun (r_20, s_t_length_21, e_t_text_22) => some (r_20, s_t_length_21, s_t_limbCount_11, s_t_size_12, s_t_thrown_4, e_t_text_22, e_t_digits_13, e_t_counts_14, e_t_points_15, e_t_limbs_16, e_t_draft_17))
def rm_Md_digits : Room := { frames := 4, cells := 0, slots := 0, locals := 104 }
set_option maxHeartbeats 4000000 in
set_option maxRecDepth 100000 in
theorem c_Md_digits (l : Launch) (dC : Nat → ClassId) (dI : Nat → Nat → Nat) (a_t a_t_text a_t_digits a_t_counts a_t_points a_t_limbs a_t_cells a_t_lines a_t_draft : Nat) (c_t_text c_t_digits c_t_counts c_t_points c_t_limbs c_t_draft : ClassId) (n_t_text : Nat) (n_t_digits : Nat) (n_t_counts : Nat) (n_t_points : Nat) (n_t_limbs : Nat) (n_t_draft : Nat) (s_t_thrown : Int32) (s_t_length : Int32) (s_t_place : Int32) (s_t_limbCount : Int32) (s_t_rows : Int32) (s_t_columns : Int32) (s_t_laid : Int32) (s_t_size : Int32) (e_t_text : Nat → Int32) (e_t_digits : Nat → Int32) (e_t_counts : Nat → Int32) (e_t_points : Nat → Int32) (e_t_limbs : Nat → Int32) (e_t_draft : Nat → Int32) (x1 : Int64) (x3 : Int32) (r_ : Int32) (s_t_length_o : Int32) (s_t_limbCount_o : Int32) (s_t_size_o : Int32) (s_t_thrown_o : Int32) (e_t_text_o : Nat → Int32) (e_t_digits_o : Nat → Int32) (e_t_counts_o : Nat → Int32) (e_t_points_o : Nat → Int32) (e_t_limbs_o : Nat → Int32) (e_t_draft_o : Nat → Int32) (h : f_Md_digits n_t_text n_t_digits n_t_counts n_t_points n_t_limbs n_t_draft s_t_thrown s_t_length s_t_place s_t_limbCount s_t_rows s_t_columns s_t_laid s_t_size e_t_text e_t_digits e_t_counts e_t_points e_t_limbs e_t_draft x1 x3 = some (r_, s_t_length_o, s_t_limbCount_o, s_t_size_o, s_t_thrown_o, e_t_text_o, e_t_digits_o, e_t_counts_o, e_t_points_o, e_t_limbs_o, e_t_draft_o)) : xM l y_Md_digits (Cond.code y_Md_digits b_Md_digits 4 (some .int) :: xG) rm_Md_digits (dC, dI) x_cl x_nz [.ref a_t, .long x1, .int x3] [(c_t_text, .int), (c_t_digits, .int), (c_t_counts, .int), (c_t_points, .int), (c_t_limbs, .int), (c_t_draft, .int)] [(a_t, .inr (8, [.int s_t_thrown, .int s_t_length, .ref a_t_text, .int s_t_place, .ref a_t_digits, .ref a_t_counts, .ref a_t_points, .ref a_t_limbs, .int s_t_limbCount, .int s_t_rows, .int s_t_columns, .ref a_t_cells, .int s_t_laid, .ref a_t_lines, .int s_t_size, .ref a_t_draft])), (a_t_text, .inl (c_t_text, n_t_text, .inl e_t_text)), (a_t_digits, .inl (c_t_digits, n_t_digits, .inl e_t_digits)), (a_t_counts, .inl (c_t_counts, n_t_counts, .inl e_t_counts)), (a_t_points, .inl (c_t_points, n_t_points, .inl e_t_points)), (a_t_limbs, .inl (c_t_limbs, n_t_limbs, .inl e_t_limbs)), (a_t_draft, .inl (c_t_draft, n_t_draft, .inl e_t_draft))] (some (.int r_)) [(a_t, .inr (8, [.int s_t_thrown_o, .int s_t_length_o, .ref a_t_text, .int s_t_place, .ref a_t_digits, .ref a_t_counts, .ref a_t_points, .ref a_t_limbs, .int s_t_limbCount_o, .int s_t_rows, .int s_t_columns, .ref a_t_cells, .int s_t_laid, .ref a_t_lines, .int s_t_size_o, .ref a_t_draft])), (a_t_text, .inl (c_t_text, n_t_text, .inl e_t_text_o)), (a_t_digits, .inl (c_t_digits, n_t_digits, .inl e_t_digits_o)), (a_t_counts, .inl (c_t_counts, n_t_counts, .inl e_t_counts_o)), (a_t_points, .inl (c_t_points, n_t_points, .inl e_t_points_o)), (a_t_limbs, .inl (c_t_limbs, n_t_limbs, .inl e_t_limbs_o)), (a_t_draft, .inl (c_t_draft, n_t_draft, .inl e_t_draft_o))] := by
  unfold f_Md_digits at h
  refine xM.mkI (cc := b_Md_digits) (maxL := 4)  (by decide +kernel) rfl (Nat.le_of_ble_eq_true rfl) ?_
  intro p e s m args below meth c A Q ls hx hb hml hown hts hNz hA hP hD hK hl hret
  have hS : va_S A s.heap s.heap [] := va_S.rf
  have hl : lv_has ls 4 [(0, .ref a_t), (1, .long x1), (3, .int x3)] := hl
  refine lv_aload_n hx hb d_Md_digits_0 rfl (lv_at hl 0 rfl) ?_
  refine lv_iload_n hx hb d_Md_digits_1 rfl (lv_at hl 2 rfl) ?_
  refine lv_iconst (v := 1) hx hb d_Md_digits_2 (by decide) ?_
  refine lv_bipush (v := 17) hx hb d_Md_digits_3 (by decide) ?_
  replace h := xob_s h
  obtain ⟨r_1, hc_2, h⟩ := h
  try dsimp only at h
  refine xcS (As := [.int x3, .int (1 : Int32), .int (17 : Int32)]) (rest := [.ref a_t]) (st1 := [.int r_1, .ref a_t]) (wr := [(a_t, .inr (8, [.int s_t_thrown, .int s_t_length, .ref a_t_text, .int s_t_place, .ref a_t_digits, .ref a_t_counts, .ref a_t_points, .ref a_t_limbs, .int s_t_limbCount, .int s_t_rows, .int s_t_columns, .ref a_t_cells, .int s_t_laid, .ref a_t_lines, .int s_t_size, .ref a_t_draft])), (a_t_text, .inl (c_t_text, n_t_text, .inl e_t_text)), (a_t_digits, .inl (c_t_digits, n_t_digits, .inl e_t_digits)), (a_t_counts, .inl (c_t_counts, n_t_counts, .inl e_t_counts)), (a_t_points, .inl (c_t_points, n_t_points, .inl e_t_points)), (a_t_limbs, .inl (c_t_limbs, n_t_limbs, .inl e_t_limbs)), (a_t_draft, .inl (c_t_draft, n_t_draft, .inl e_t_draft))]) ⟨hx, hb, hml, hown, hts⟩ (c_Md_in l dC dI x3 (1 : Int32) (17 : Int32) r_1 hc_2) (⟨callB_of 3 hts (xgood g_765) rfl rfl rfl (hts _ g_10) (hts _ g_763) (by decide +kernel) ⟨Nat.le_of_ble_eq_true rfl, Nat.le_of_ble_eq_true rfl⟩, (hts _ g_764)⟩) hNz hA hP hD hS hK [] [0, 1, 2, 3, 4, 5, 6] [] rfl rfl rfl rfl (by decide) rfl rfl rfl rfl hl.1 (Nat.le_of_ble_eq_true rfl) ⟨Nat.zero_le _, Nat.zero_le _⟩ d_Md_digits_5 (fun H locs hP hD hS => ?_)
  have hP : va_P (dC, dI) x_cl [(a_t, .inr (8, [.int s_t_thrown, .int s_t_length, .ref a_t_text, .int s_t_place, .ref a_t_digits, .ref a_t_counts, .ref a_t_points, .ref a_t_limbs, .int s_t_limbCount, .int s_t_rows, .int s_t_columns, .ref a_t_cells, .int s_t_laid, .ref a_t_lines, .int s_t_size, .ref a_t_draft])), (a_t_text, .inl (c_t_text, n_t_text, .inl e_t_text)), (a_t_digits, .inl (c_t_digits, n_t_digits, .inl e_t_digits)), (a_t_counts, .inl (c_t_counts, n_t_counts, .inl e_t_counts)), (a_t_points, .inl (c_t_points, n_t_points, .inl e_t_points)), (a_t_limbs, .inl (c_t_limbs, n_t_limbs, .inl e_t_limbs)), (a_t_draft, .inl (c_t_draft, n_t_draft, .inl e_t_draft))] H := hP
  have hD : va_D A [(a_t, .inr (8, [.int s_t_thrown, .int s_t_length, .ref a_t_text, .int s_t_place, .ref a_t_digits, .ref a_t_counts, .ref a_t_points, .ref a_t_limbs, .int s_t_limbCount, .int s_t_rows, .int s_t_columns, .ref a_t_cells, .int s_t_laid, .ref a_t_lines, .int s_t_size, .ref a_t_draft])), (a_t_text, .inl (c_t_text, n_t_text, .inl e_t_text)), (a_t_digits, .inl (c_t_digits, n_t_digits, .inl e_t_digits)), (a_t_counts, .inl (c_t_counts, n_t_counts, .inl e_t_counts)), (a_t_points, .inl (c_t_points, n_t_points, .inl e_t_points)), (a_t_limbs, .inl (c_t_limbs, n_t_limbs, .inl e_t_limbs)), (a_t_draft, .inl (c_t_draft, n_t_draft, .inl e_t_draft))] := hD
  replace h := xob_s h
  obtain ⟨⟨r_3, s_t_thrown_4⟩, hc_5, h⟩ := h
  try dsimp only at h
  refine xcV (As := [.int r_1]) (rest := []) (st1 := [.int r_3]) (wr := [(a_t_text, .inl (c_t_text, n_t_text, .inl e_t_text)), (a_t_digits, .inl (c_t_digits, n_t_digits, .inl e_t_digits)), (a_t_counts, .inl (c_t_counts, n_t_counts, .inl e_t_counts)), (a_t_points, .inl (c_t_points, n_t_points, .inl e_t_points)), (a_t_limbs, .inl (c_t_limbs, n_t_limbs, .inl e_t_limbs)), (a_t_draft, .inl (c_t_draft, n_t_draft, .inl e_t_draft))]) ⟨hx, hb, hml, hown, hts⟩ (c_Md_goes l dC dI a_t a_t_text a_t_digits a_t_counts a_t_points a_t_limbs a_t_cells a_t_lines a_t_draft s_t_thrown s_t_length s_t_place s_t_limbCount s_t_rows s_t_columns s_t_laid s_t_size r_1 r_3 s_t_thrown_4 hc_5) (cwV 1 hts (xgoodV g_790 g_792 gp_22 g_10 g_793) rfl rfl rfl (by decide +kernel) ⟨Nat.le_of_ble_eq_true rfl, Nat.le_of_ble_eq_true rfl⟩) hNz (ci := 8) (q0 := 0) rfl rfl hA hP hD hS hK [0] [1, 2, 3, 4, 5, 6] [] rfl rfl rfl rfl (by decide) rfl rfl rfl rfl hl.1 (Nat.le_of_ble_eq_true rfl) ⟨Nat.zero_le _, Nat.zero_le _⟩ d_Md_digits_8 (fun H locs hP hD hS => ?_)
  have hP : va_P (dC, dI) x_cl [(a_t_text, .inl (c_t_text, n_t_text, .inl e_t_text)), (a_t_digits, .inl (c_t_digits, n_t_digits, .inl e_t_digits)), (a_t_counts, .inl (c_t_counts, n_t_counts, .inl e_t_counts)), (a_t_points, .inl (c_t_points, n_t_points, .inl e_t_points)), (a_t_limbs, .inl (c_t_limbs, n_t_limbs, .inl e_t_limbs)), (a_t_draft, .inl (c_t_draft, n_t_draft, .inl e_t_draft)), (a_t, .inr (8, [.int s_t_thrown_4, .int s_t_length, .ref a_t_text, .int s_t_place, .ref a_t_digits, .ref a_t_counts, .ref a_t_points, .ref a_t_limbs, .int s_t_limbCount, .int s_t_rows, .int s_t_columns, .ref a_t_cells, .int s_t_laid, .ref a_t_lines, .int s_t_size, .ref a_t_draft]))] H := hP
  have hD : va_D A [(a_t_text, .inl (c_t_text, n_t_text, .inl e_t_text)), (a_t_digits, .inl (c_t_digits, n_t_digits, .inl e_t_digits)), (a_t_counts, .inl (c_t_counts, n_t_counts, .inl e_t_counts)), (a_t_points, .inl (c_t_points, n_t_points, .inl e_t_points)), (a_t_limbs, .inl (c_t_limbs, n_t_limbs, .inl e_t_limbs)), (a_t_draft, .inl (c_t_draft, n_t_draft, .inl e_t_draft)), (a_t, .inr (8, [.int s_t_thrown_4, .int s_t_length, .ref a_t_text, .int s_t_place, .ref a_t_digits, .ref a_t_counts, .ref a_t_points, .ref a_t_limbs, .int s_t_limbCount, .int s_t_rows, .int s_t_columns, .ref a_t_cells, .int s_t_laid, .ref a_t_lines, .int s_t_size, .ref a_t_draft]))] := hD
  refine lv_if_ne (tgt := 16) hx hb d_Md_digits_11 (by decide) (fun c_6 => ?_) (fun c_6 => ?_)
  · rw [if_neg c_6] at h
    refine lv_aload_n hx hb d_Md_digits_16 rfl (lv_at hl 0 rfl) ?_
    refine lv_lload_n hx hb d_Md_digits_17 rfl (lv_at hl 1 rfl) ?_
    replace h := xob_s h
    obtain ⟨⟨r_7, s_t_size_8, e_t_draft_9⟩, hc_10, h⟩ := h
    try dsimp only at h
    refine xcV (As := [.long x1]) (rest := []) (st1 := [.int r_7]) (wr := [(a_t_text, .inl (c_t_text, n_t_text, .inl e_t_text)), (a_t_digits, .inl (c_t_digits, n_t_digits, .inl e_t_digits)), (a_t_counts, .inl (c_t_counts, n_t_counts, .inl e_t_counts)), (a_t_points, .inl (c_t_points, n_t_points, .inl e_t_points)), (a_t_limbs, .inl (c_t_limbs, n_t_limbs, .inl e_t_limbs))]) ⟨hx, hb, hml, hown, hts⟩ (c_Md_special l dC dI a_t a_t_text a_t_digits a_t_counts a_t_points a_t_limbs a_t_cells a_t_lines a_t_draft c_t_draft n_t_draft s_t_thrown_4 s_t_length s_t_place s_t_limbCount s_t_rows s_t_columns s_t_laid s_t_size e_t_draft x1 r_7 s_t_size_8 e_t_draft_9 hc_10) (cwV 1 hts (xgoodV g_848 g_850 gp_31 g_10 g_851) rfl rfl rfl (by decide +kernel) ⟨Nat.le_of_ble_eq_true rfl, Nat.le_of_ble_eq_true rfl⟩) hNz (ci := 8) (q0 := 6) rfl rfl hA hP hD hS hK [6, 5] [0, 1, 2, 3, 4] [5] rfl rfl rfl rfl (by decide) rfl rfl rfl rfl hl.1 (Nat.le_of_ble_eq_true rfl) ⟨Nat.zero_le _, Nat.zero_le _⟩ d_Md_digits_18 (fun H locs hP hD hS => ?_)
    have hP : va_P (dC, dI) x_cl [(a_t_text, .inl (c_t_text, n_t_text, .inl e_t_text)), (a_t_digits, .inl (c_t_digits, n_t_digits, .inl e_t_digits)), (a_t_counts, .inl (c_t_counts, n_t_counts, .inl e_t_counts)), (a_t_points, .inl (c_t_points, n_t_points, .inl e_t_points)), (a_t_limbs, .inl (c_t_limbs, n_t_limbs, .inl e_t_limbs)), (a_t, .inr (8, [.int s_t_thrown_4, .int s_t_length, .ref a_t_text, .int s_t_place, .ref a_t_digits, .ref a_t_counts, .ref a_t_points, .ref a_t_limbs, .int s_t_limbCount, .int s_t_rows, .int s_t_columns, .ref a_t_cells, .int s_t_laid, .ref a_t_lines, .int s_t_size_8, .ref a_t_draft])), (a_t_draft, .inl (c_t_draft, n_t_draft, .inl e_t_draft_9))] H := hP
    have hD : va_D A [(a_t_text, .inl (c_t_text, n_t_text, .inl e_t_text)), (a_t_digits, .inl (c_t_digits, n_t_digits, .inl e_t_digits)), (a_t_counts, .inl (c_t_counts, n_t_counts, .inl e_t_counts)), (a_t_points, .inl (c_t_points, n_t_points, .inl e_t_points)), (a_t_limbs, .inl (c_t_limbs, n_t_limbs, .inl e_t_limbs)), (a_t, .inr (8, [.int s_t_thrown_4, .int s_t_length, .ref a_t_text, .int s_t_place, .ref a_t_digits, .ref a_t_counts, .ref a_t_points, .ref a_t_limbs, .int s_t_limbCount, .int s_t_rows, .int s_t_columns, .ref a_t_cells, .int s_t_laid, .ref a_t_lines, .int s_t_size_8, .ref a_t_draft])), (a_t_draft, .inl (c_t_draft, n_t_draft, .inl e_t_draft_9))] := hD
    replace h := xob_s h
    obtain ⟨⟨s_t_limbCount_11, s_t_size_12, e_t_digits_13, e_t_counts_14, e_t_points_15, e_t_limbs_16, e_t_draft_17⟩, hj_18, h⟩ := h
    try dsimp only at h
    have hJ_19 : ∀ (H : Heap) (locs : List Loc) (ls : Array Slot), va_P (dC, dI) x_cl [(a_t, .inr (8, [.int s_t_thrown_4, .int s_t_length, .ref a_t_text, .int s_t_place, .ref a_t_digits, .ref a_t_counts, .ref a_t_points, .ref a_t_limbs, .int s_t_limbCount_11, .int s_t_rows, .int s_t_columns, .ref a_t_cells, .int s_t_laid, .ref a_t_lines, .int s_t_size_12, .ref a_t_draft])), (a_t_text, .inl (c_t_text, n_t_text, .inl e_t_text)), (a_t_digits, .inl (c_t_digits, n_t_digits, .inl e_t_digits_13)), (a_t_counts, .inl (c_t_counts, n_t_counts, .inl e_t_counts_14)), (a_t_points, .inl (c_t_points, n_t_points, .inl e_t_points_15)), (a_t_limbs, .inl (c_t_limbs, n_t_limbs, .inl e_t_limbs_16)), (a_t_draft, .inl (c_t_draft, n_t_draft, .inl e_t_draft_17))] H → va_D A [(a_t, .inr (8, [.int s_t_thrown_4, .int s_t_length, .ref a_t_text, .int s_t_place, .ref a_t_digits, .ref a_t_counts, .ref a_t_points, .ref a_t_limbs, .int s_t_limbCount_11, .int s_t_rows, .int s_t_columns, .ref a_t_cells, .int s_t_laid, .ref a_t_lines, .int s_t_size_12, .ref a_t_draft])), (a_t_text, .inl (c_t_text, n_t_text, .inl e_t_text)), (a_t_digits, .inl (c_t_digits, n_t_digits, .inl e_t_digits_13)), (a_t_counts, .inl (c_t_counts, n_t_counts, .inl e_t_counts_14)), (a_t_points, .inl (c_t_points, n_t_points, .inl e_t_points_15)), (a_t_limbs, .inl (c_t_limbs, n_t_limbs, .inl e_t_limbs_16)), (a_t_draft, .inl (c_t_draft, n_t_draft, .inl e_t_draft_17))] → va_S A s.heap H locs → lv_has ls 4 [(0, .ref a_t)] → W p l e rm_Md_digits s m args below meth c H locs 0 0 Q (F0 m 62 ls []) := by
      intro H locs ls hP hD hS hl
      refine lv_aload_n hx hb d_Md_digits_62 rfl (lv_at hl 0 rfl) ?_
      replace h := xob_s h
      obtain ⟨⟨r_20, s_t_length_21, e_t_text_22⟩, hc_23, h⟩ := h
      try dsimp only at h
      refine xcV (As := []) (rest := []) (st1 := [.int r_20]) (wr := [(a_t_digits, .inl (c_t_digits, n_t_digits, .inl e_t_digits_13)), (a_t_counts, .inl (c_t_counts, n_t_counts, .inl e_t_counts_14)), (a_t_points, .inl (c_t_points, n_t_points, .inl e_t_points_15)), (a_t_limbs, .inl (c_t_limbs, n_t_limbs, .inl e_t_limbs_16))]) ⟨hx, hb, hml, hown, hts⟩ (c_Md_done l dC dI a_t a_t_text a_t_digits a_t_counts a_t_points a_t_limbs a_t_cells a_t_lines a_t_draft c_t_text c_t_draft n_t_text n_t_draft s_t_thrown_4 s_t_length s_t_place s_t_limbCount_11 s_t_rows s_t_columns s_t_laid s_t_size_12 e_t_text e_t_draft_17 r_20 s_t_length_21 e_t_text_22 hc_23) (cwV 0 hts (xgoodV g_900 g_902 gp_43 g_10 g_903) rfl rfl rfl (by decide +kernel) ⟨Nat.le_of_ble_eq_true rfl, Nat.le_of_ble_eq_true rfl⟩) hNz (ci := 8) (q0 := 0) rfl rfl hA hP hD hS hK [0, 1, 6] [2, 3, 4, 5] [0, 5] rfl rfl rfl rfl (by decide) rfl rfl rfl rfl hl.1 (Nat.le_of_ble_eq_true rfl) ⟨Nat.zero_le _, Nat.zero_le _⟩ d_Md_digits_63 (fun H locs hP hD hS => ?_)
      have hP : va_P (dC, dI) x_cl [(a_t_digits, .inl (c_t_digits, n_t_digits, .inl e_t_digits_13)), (a_t_counts, .inl (c_t_counts, n_t_counts, .inl e_t_counts_14)), (a_t_points, .inl (c_t_points, n_t_points, .inl e_t_points_15)), (a_t_limbs, .inl (c_t_limbs, n_t_limbs, .inl e_t_limbs_16)), (a_t, .inr (8, [.int s_t_thrown_4, .int s_t_length_21, .ref a_t_text, .int s_t_place, .ref a_t_digits, .ref a_t_counts, .ref a_t_points, .ref a_t_limbs, .int s_t_limbCount_11, .int s_t_rows, .int s_t_columns, .ref a_t_cells, .int s_t_laid, .ref a_t_lines, .int s_t_size_12, .ref a_t_draft])), (a_t_text, .inl (c_t_text, n_t_text, .inl e_t_text_22)), (a_t_draft, .inl (c_t_draft, n_t_draft, .inl e_t_draft_17))] H := hP
      have hD : va_D A [(a_t_digits, .inl (c_t_digits, n_t_digits, .inl e_t_digits_13)), (a_t_counts, .inl (c_t_counts, n_t_counts, .inl e_t_counts_14)), (a_t_points, .inl (c_t_points, n_t_points, .inl e_t_points_15)), (a_t_limbs, .inl (c_t_limbs, n_t_limbs, .inl e_t_limbs_16)), (a_t, .inr (8, [.int s_t_thrown_4, .int s_t_length_21, .ref a_t_text, .int s_t_place, .ref a_t_digits, .ref a_t_counts, .ref a_t_points, .ref a_t_limbs, .int s_t_limbCount_11, .int s_t_rows, .int s_t_columns, .ref a_t_cells, .int s_t_laid, .ref a_t_lines, .int s_t_size_12, .ref a_t_draft])), (a_t_text, .inl (c_t_text, n_t_text, .inl e_t_text_22)), (a_t_draft, .inl (c_t_draft, n_t_draft, .inl e_t_draft_17))] := hD
      replace h := Option.some.inj h
      replace h := Prod.mk.inj h
      obtain ⟨h1, h⟩ := h
      subst h1
      replace h := Prod.mk.inj h
      obtain ⟨h1, h⟩ := h
      subst h1
      replace h := Prod.mk.inj h
      obtain ⟨h1, h⟩ := h
      subst h1
      replace h := Prod.mk.inj h
      obtain ⟨h1, h⟩ := h
      subst h1
      replace h := Prod.mk.inj h
      obtain ⟨h1, h⟩ := h
      subst h1
      replace h := Prod.mk.inj h
      obtain ⟨h1, h⟩ := h
      subst h1
      replace h := Prod.mk.inj h
      obtain ⟨h1, h⟩ := h
      subst h1
      replace h := Prod.mk.inj h
      obtain ⟨h1, h⟩ := h
      subst h1
      replace h := Prod.mk.inj h
      obtain ⟨h1, h⟩ := h
      subst h1
      replace h := Prod.mk.inj h
      obtain ⟨h1, h⟩ := h
      subst h1
      subst h
      exact hret _ _ (hP.sub [4, 5, 0, 1, 2, 3, 6] rfl) (hD.sub [4, 5, 0, 1, 2, 3, 6] (by decide) rfl) hS _ _ d_Md_digits_66
    replace h := hj_18
    clear hj_18
    refine lv_if_ne (tgt := 62) hx hb d_Md_digits_21 (by decide) (fun c_24 => ?_) (fun c_24 => ?_)
    · rw [if_neg c_24] at h
      replace h := Option.some.inj h
      replace h := Prod.mk.inj h
      obtain ⟨h1, h⟩ := h
      subst h1
      replace h := Prod.mk.inj h
      obtain ⟨h1, h⟩ := h
      subst h1
      replace h := Prod.mk.inj h
      obtain ⟨h1, h⟩ := h
      subst h1
      replace h := Prod.mk.inj h
      obtain ⟨h1, h⟩ := h
      subst h1
      replace h := Prod.mk.inj h
      obtain ⟨h1, h⟩ := h
      subst h1
      replace h := Prod.mk.inj h
      obtain ⟨h1, h⟩ := h
      subst h1
      subst h
      exact hJ_19 _ _ _ (hP.sub [5, 0, 1, 2, 3, 4, 6] rfl) (hD.sub [5, 0, 1, 2, 3, 4, 6] (by decide) rfl) hS (lv_sub hl [0] rfl)
    · rw [if_pos c_24] at h
      refine lv_lload_n hx hb d_Md_digits_24 rfl (lv_at hl 1 rfl) ?_
      replace h := xob_s h
      obtain ⟨r_25, hc_26, h⟩ := h
      try dsimp only at h
      refine xcS (As := [.long x1]) (rest := []) (st1 := [.int r_25]) (wr := [(a_t_text, .inl (c_t_text, n_t_text, .inl e_t_text)), (a_t_digits, .inl (c_t_digits, n_t_digits, .inl e_t_digits)), (a_t_counts, .inl (c_t_counts, n_t_counts, .inl e_t_counts)), (a_t_points, .inl (c_t_points, n_t_points, .inl e_t_points)), (a_t_limbs, .inl (c_t_limbs, n_t_limbs, .inl e_t_limbs)), (a_t, .inr (8, [.int s_t_thrown_4, .int s_t_length, .ref a_t_text, .int s_t_place, .ref a_t_digits, .ref a_t_counts, .ref a_t_points, .ref a_t_limbs, .int s_t_limbCount, .int s_t_rows, .int s_t_columns, .ref a_t_cells, .int s_t_laid, .ref a_t_lines, .int s_t_size_8, .ref a_t_draft])), (a_t_draft, .inl (c_t_draft, n_t_draft, .inl e_t_draft_9))]) ⟨hx, hb, hml, hown, hts⟩ (c_Md_isZero l dC dI x1 r_25 hc_26) (⟨callB_of 1 hts (xgood g_863) rfl rfl rfl (hts _ g_10) (hts _ g_861) (by decide +kernel) ⟨Nat.le_of_ble_eq_true rfl, Nat.le_of_ble_eq_true rfl⟩, (hts _ g_862)⟩) hNz hA hP hD hS hK [] [0, 1, 2, 3, 4, 5, 6] [] rfl rfl rfl rfl (by decide) rfl rfl rfl rfl hl.1 (Nat.le_of_ble_eq_true rfl) ⟨Nat.zero_le _, Nat.zero_le _⟩ d_Md_digits_25 (fun H locs hP hD hS => ?_)
      have hP : va_P (dC, dI) x_cl [(a_t_text, .inl (c_t_text, n_t_text, .inl e_t_text)), (a_t_digits, .inl (c_t_digits, n_t_digits, .inl e_t_digits)), (a_t_counts, .inl (c_t_counts, n_t_counts, .inl e_t_counts)), (a_t_points, .inl (c_t_points, n_t_points, .inl e_t_points)), (a_t_limbs, .inl (c_t_limbs, n_t_limbs, .inl e_t_limbs)), (a_t, .inr (8, [.int s_t_thrown_4, .int s_t_length, .ref a_t_text, .int s_t_place, .ref a_t_digits, .ref a_t_counts, .ref a_t_points, .ref a_t_limbs, .int s_t_limbCount, .int s_t_rows, .int s_t_columns, .ref a_t_cells, .int s_t_laid, .ref a_t_lines, .int s_t_size_8, .ref a_t_draft])), (a_t_draft, .inl (c_t_draft, n_t_draft, .inl e_t_draft_9))] H := hP
      have hD : va_D A [(a_t_text, .inl (c_t_text, n_t_text, .inl e_t_text)), (a_t_digits, .inl (c_t_digits, n_t_digits, .inl e_t_digits)), (a_t_counts, .inl (c_t_counts, n_t_counts, .inl e_t_counts)), (a_t_points, .inl (c_t_points, n_t_points, .inl e_t_points)), (a_t_limbs, .inl (c_t_limbs, n_t_limbs, .inl e_t_limbs)), (a_t, .inr (8, [.int s_t_thrown_4, .int s_t_length, .ref a_t_text, .int s_t_place, .ref a_t_digits, .ref a_t_counts, .ref a_t_points, .ref a_t_limbs, .int s_t_limbCount, .int s_t_rows, .int s_t_columns, .ref a_t_cells, .int s_t_laid, .ref a_t_lines, .int s_t_size_8, .ref a_t_draft])), (a_t_draft, .inl (c_t_draft, n_t_draft, .inl e_t_draft_9))] := hD
      refine lv_if_eq (tgt := 40) hx hb d_Md_digits_28 (by decide) (fun c_27 => ?_) (fun c_27 => ?_)
      · rw [if_pos c_27] at h
        refine lv_aload_n hx hb d_Md_digits_40 rfl (lv_at hl 0 rfl) ?_
        refine lv_iconst (v := 0) hx hb d_Md_digits_41 (by decide) ?_
        refine lv_lload_n hx hb d_Md_digits_42 rfl (lv_at hl 1 rfl) ?_
        refine lv_ldc2 (v := 9223372036854775807) hx hb hown (hts _ g_852) d_Md_digits_43 ?_
        refine lv_land hx hb d_Md_digits_46 ?_
        replace h := xob_s h
        obtain ⟨⟨s_t_limbCount_28, e_t_digits_29, e_t_counts_30, e_t_points_31, e_t_limbs_32⟩, hc_33, h⟩ := h
        try dsimp only at h
        refine xcV (As := [.int (0 : Int32), .long (x1 &&& (9223372036854775807 : Int64))]) (rest := []) (st1 := []) (wr := [(a_t_text, .inl (c_t_text, n_t_text, .inl e_t_text)), (a_t_draft, .inl (c_t_draft, n_t_draft, .inl e_t_draft_9))]) ⟨hx, hb, hml, hown, hts⟩ (c_Md_value l dC dI a_t a_t_text a_t_digits a_t_counts a_t_points a_t_limbs a_t_cells a_t_lines a_t_draft c_t_digits c_t_counts c_t_points c_t_limbs n_t_digits n_t_counts n_t_points n_t_limbs s_t_thrown_4 s_t_length s_t_place s_t_limbCount s_t_rows s_t_columns s_t_laid s_t_size_8 e_t_digits e_t_counts e_t_points e_t_limbs (0 : Int32) (x1 &&& (9223372036854775807 : Int64)) s_t_limbCount_28 e_t_digits_29 e_t_counts_30 e_t_points_31 e_t_limbs_32 hc_33) (cwV 2 hts (xgoodV g_806 g_808 gp_25 g_10 g_809) rfl rfl rfl (by decide +kernel) ⟨Nat.le_of_ble_eq_true rfl, Nat.le_of_ble_eq_true rfl⟩) hNz (ci := 8) (q0 := 5) rfl rfl hA hP hD hS hK [5, 1, 2, 3, 4] [0, 6] [1, 2, 3, 4] rfl rfl rfl rfl (by decide) rfl rfl rfl rfl hl.1 (Nat.le_of_ble_eq_true rfl) ⟨Nat.zero_le _, Nat.zero_le _⟩ d_Md_digits_47 (fun H locs hP hD hS => ?_)
        have hP : va_P (dC, dI) x_cl [(a_t_text, .inl (c_t_text, n_t_text, .inl e_t_text)), (a_t_draft, .inl (c_t_draft, n_t_draft, .inl e_t_draft_9)), (a_t, .inr (8, [.int s_t_thrown_4, .int s_t_length, .ref a_t_text, .int s_t_place, .ref a_t_digits, .ref a_t_counts, .ref a_t_points, .ref a_t_limbs, .int s_t_limbCount_28, .int s_t_rows, .int s_t_columns, .ref a_t_cells, .int s_t_laid, .ref a_t_lines, .int s_t_size_8, .ref a_t_draft])), (a_t_digits, .inl (c_t_digits, n_t_digits, .inl e_t_digits_29)), (a_t_counts, .inl (c_t_counts, n_t_counts, .inl e_t_counts_30)), (a_t_points, .inl (c_t_points, n_t_points, .inl e_t_points_31)), (a_t_limbs, .inl (c_t_limbs, n_t_limbs, .inl e_t_limbs_32))] H := hP
        have hD : va_D A [(a_t_text, .inl (c_t_text, n_t_text, .inl e_t_text)), (a_t_draft, .inl (c_t_draft, n_t_draft, .inl e_t_draft_9)), (a_t, .inr (8, [.int s_t_thrown_4, .int s_t_length, .ref a_t_text, .int s_t_place, .ref a_t_digits, .ref a_t_counts, .ref a_t_points, .ref a_t_limbs, .int s_t_limbCount_28, .int s_t_rows, .int s_t_columns, .ref a_t_cells, .int s_t_laid, .ref a_t_lines, .int s_t_size_8, .ref a_t_draft])), (a_t_digits, .inl (c_t_digits, n_t_digits, .inl e_t_digits_29)), (a_t_counts, .inl (c_t_counts, n_t_counts, .inl e_t_counts_30)), (a_t_points, .inl (c_t_points, n_t_points, .inl e_t_points_31)), (a_t_limbs, .inl (c_t_limbs, n_t_limbs, .inl e_t_limbs_32))] := hD
        refine lv_aload_n hx hb d_Md_digits_50 rfl (lv_at hl 0 rfl) ?_
        refine lv_iconst (v := 0) hx hb d_Md_digits_51 (by decide) ?_
        refine lv_iconst (v := 3) hx hb d_Md_digits_52 (by decide) ?_
        refine lv_iload_n hx hb d_Md_digits_53 rfl (lv_at hl 2 rfl) ?_
        replace h := xob_s h
        obtain ⟨⟨e_t_digits_34, e_t_counts_35, e_t_points_36⟩, hc_37, h⟩ := h
        try dsimp only at h
        refine xcV (As := [.int (0 : Int32), .int (3 : Int32), .int x3]) (rest := []) (st1 := []) (wr := [(a_t_text, .inl (c_t_text, n_t_text, .inl e_t_text)), (a_t_draft, .inl (c_t_draft, n_t_draft, .inl e_t_draft_9)), (a_t_limbs, .inl (c_t_limbs, n_t_limbs, .inl e_t_limbs_32))]) ⟨hx, hb, hml, hown, hts⟩ (c_Md_round l dC dI a_t a_t_text a_t_digits a_t_counts a_t_points a_t_limbs a_t_cells a_t_lines a_t_draft c_t_digits c_t_counts c_t_points n_t_digits n_t_counts n_t_points s_t_thrown_4 s_t_length s_t_place s_t_limbCount_28 s_t_rows s_t_columns s_t_laid s_t_size_8 e_t_digits_29 e_t_counts_30 e_t_points_31 (0 : Int32) (3 : Int32) x3 e_t_digits_34 e_t_counts_35 e_t_points_36 hc_37) (cwV 3 hts (xgoodV g_908 g_910 gp_44 g_10 g_911) rfl rfl rfl (by decide +kernel) ⟨Nat.le_of_ble_eq_true rfl, Nat.le_of_ble_eq_true rfl⟩) hNz (ci := 8) (q0 := 2) rfl rfl hA hP hD hS hK [2, 3, 4, 5] [0, 1, 6] [1, 2, 3] rfl rfl rfl rfl (by decide) rfl rfl rfl rfl hl.1 (Nat.le_of_ble_eq_true rfl) ⟨Nat.zero_le _, Nat.zero_le _⟩ d_Md_digits_54 (fun H locs hP hD hS => ?_)
        have hP : va_P (dC, dI) x_cl [(a_t_text, .inl (c_t_text, n_t_text, .inl e_t_text)), (a_t_draft, .inl (c_t_draft, n_t_draft, .inl e_t_draft_9)), (a_t_limbs, .inl (c_t_limbs, n_t_limbs, .inl e_t_limbs_32)), (a_t, .inr (8, [.int s_t_thrown_4, .int s_t_length, .ref a_t_text, .int s_t_place, .ref a_t_digits, .ref a_t_counts, .ref a_t_points, .ref a_t_limbs, .int s_t_limbCount_28, .int s_t_rows, .int s_t_columns, .ref a_t_cells, .int s_t_laid, .ref a_t_lines, .int s_t_size_8, .ref a_t_draft])), (a_t_digits, .inl (c_t_digits, n_t_digits, .inl e_t_digits_34)), (a_t_counts, .inl (c_t_counts, n_t_counts, .inl e_t_counts_35)), (a_t_points, .inl (c_t_points, n_t_points, .inl e_t_points_36))] H := hP
        have hD : va_D A [(a_t_text, .inl (c_t_text, n_t_text, .inl e_t_text)), (a_t_draft, .inl (c_t_draft, n_t_draft, .inl e_t_draft_9)), (a_t_limbs, .inl (c_t_limbs, n_t_limbs, .inl e_t_limbs_32)), (a_t, .inr (8, [.int s_t_thrown_4, .int s_t_length, .ref a_t_text, .int s_t_place, .ref a_t_digits, .ref a_t_counts, .ref a_t_points, .ref a_t_limbs, .int s_t_limbCount_28, .int s_t_rows, .int s_t_columns, .ref a_t_cells, .int s_t_laid, .ref a_t_lines, .int s_t_size_8, .ref a_t_draft])), (a_t_digits, .inl (c_t_digits, n_t_digits, .inl e_t_digits_34)), (a_t_counts, .inl (c_t_counts, n_t_counts, .inl e_t_counts_35)), (a_t_points, .inl (c_t_points, n_t_points, .inl e_t_points_36))] := hD
        refine lv_aload_n hx hb d_Md_digits_57 rfl (lv_at hl 0 rfl) ?_
        refine lv_iconst (v := 3) hx hb d_Md_digits_58 (by decide) ?_
        replace h := xob_s h
        obtain ⟨⟨s_t_size_38, e_t_draft_39⟩, hc_40, h⟩ := h
        try dsimp only at h
        refine xcV (As := [.int (3 : Int32)]) (rest := []) (st1 := []) (wr := [(a_t_text, .inl (c_t_text, n_t_text, .inl e_t_text)), (a_t_limbs, .inl (c_t_limbs, n_t_limbs, .inl e_t_limbs_32))]) ⟨hx, hb, hml, hown, hts⟩ (c_Md_written l dC dI a_t a_t_text a_t_digits a_t_counts a_t_points a_t_limbs a_t_cells a_t_lines a_t_draft c_t_digits c_t_counts c_t_points c_t_draft n_t_digits n_t_counts n_t_points n_t_draft s_t_thrown_4 s_t_length s_t_place s_t_limbCount_28 s_t_rows s_t_columns s_t_laid s_t_size_8 e_t_digits_34 e_t_counts_35 e_t_points_36 e_t_draft_9 (3 : Int32) s_t_size_38 e_t_draft_39 hc_40) (cwV 1 hts (xgoodV g_880 g_882 gp_38 g_10 g_883) rfl rfl rfl (by decide +kernel) ⟨Nat.le_of_ble_eq_true rfl, Nat.le_of_ble_eq_true rfl⟩) hNz (ci := 8) (q0 := 3) rfl rfl hA hP hD hS hK [3, 4, 5, 6, 1] [0, 2] [1, 2, 3, 5] rfl rfl rfl rfl (by decide) rfl rfl rfl rfl hl.1 (Nat.le_of_ble_eq_true rfl) ⟨Nat.zero_le _, Nat.zero_le _⟩ d_Md_digits_59 (fun H locs hP hD hS => ?_)
        have hP : va_P (dC, dI) x_cl [(a_t_text, .inl (c_t_text, n_t_text, .inl e_t_text)), (a_t_limbs, .inl (c_t_limbs, n_t_limbs, .inl e_t_limbs_32)), (a_t, .inr (8, [.int s_t_thrown_4, .int s_t_length, .ref a_t_text, .int s_t_place, .ref a_t_digits, .ref a_t_counts, .ref a_t_points, .ref a_t_limbs, .int s_t_limbCount_28, .int s_t_rows, .int s_t_columns, .ref a_t_cells, .int s_t_laid, .ref a_t_lines, .int s_t_size_38, .ref a_t_draft])), (a_t_digits, .inl (c_t_digits, n_t_digits, .inl e_t_digits_34)), (a_t_counts, .inl (c_t_counts, n_t_counts, .inl e_t_counts_35)), (a_t_points, .inl (c_t_points, n_t_points, .inl e_t_points_36)), (a_t_draft, .inl (c_t_draft, n_t_draft, .inl e_t_draft_39))] H := hP
        have hD : va_D A [(a_t_text, .inl (c_t_text, n_t_text, .inl e_t_text)), (a_t_limbs, .inl (c_t_limbs, n_t_limbs, .inl e_t_limbs_32)), (a_t, .inr (8, [.int s_t_thrown_4, .int s_t_length, .ref a_t_text, .int s_t_place, .ref a_t_digits, .ref a_t_counts, .ref a_t_points, .ref a_t_limbs, .int s_t_limbCount_28, .int s_t_rows, .int s_t_columns, .ref a_t_cells, .int s_t_laid, .ref a_t_lines, .int s_t_size_38, .ref a_t_draft])), (a_t_digits, .inl (c_t_digits, n_t_digits, .inl e_t_digits_34)), (a_t_counts, .inl (c_t_counts, n_t_counts, .inl e_t_counts_35)), (a_t_points, .inl (c_t_points, n_t_points, .inl e_t_points_36)), (a_t_draft, .inl (c_t_draft, n_t_draft, .inl e_t_draft_39))] := hD
        replace h := Option.some.inj h
        replace h := Prod.mk.inj h
        obtain ⟨h1, h⟩ := h
        subst h1
        replace h := Prod.mk.inj h
        obtain ⟨h1, h⟩ := h
        subst h1
        replace h := Prod.mk.inj h
        obtain ⟨h1, h⟩ := h
        subst h1
        replace h := Prod.mk.inj h
        obtain ⟨h1, h⟩ := h
        subst h1
        replace h := Prod.mk.inj h
        obtain ⟨h1, h⟩ := h
        subst h1
        replace h := Prod.mk.inj h
        obtain ⟨h1, h⟩ := h
        subst h1
        subst h
        exact hJ_19 _ _ _ (hP.sub [2, 0, 3, 4, 5, 1, 6] rfl) (hD.sub [2, 0, 3, 4, 5, 1, 6] (by decide) rfl) hS (lv_sub hl [0] rfl)
      · rw [if_neg c_27] at h
        refine lv_aload_n hx hb d_Md_digits_31 rfl (lv_at hl 0 rfl) ?_
        refine lv_bipush (v := 48) hx hb d_Md_digits_32 (by decide) ?_
        replace h := xob_s h
        obtain ⟨⟨s_t_size_41, e_t_draft_42⟩, hc_43, h⟩ := h
        try dsimp only at h
        refine xcV (As := [.int (48 : Int32)]) (rest := []) (st1 := []) (wr := [(a_t_text, .inl (c_t_text, n_t_text, .inl e_t_text)), (a_t_digits, .inl (c_t_digits, n_t_digits, .inl e_t_digits)), (a_t_counts, .inl (c_t_counts, n_t_counts, .inl e_t_counts)), (a_t_points, .inl (c_t_points, n_t_points, .inl e_t_points)), (a_t_limbs, .inl (c_t_limbs, n_t_limbs, .inl e_t_limbs))]) ⟨hx, hb, hml, hown, hts⟩ (c_Md_put l dC dI a_t a_t_text a_t_digits a_t_counts a_t_points a_t_limbs a_t_cells a_t_lines a_t_draft c_t_draft n_t_draft s_t_thrown_4 s_t_length s_t_place s_t_limbCount s_t_rows s_t_columns s_t_laid s_t_size_8 e_t_draft_9 (48 : Int32) s_t_size_41 e_t_draft_42 hc_43) (cwV 1 hts (xgoodV g_857 g_859 gp_33 g_10 g_860) rfl rfl rfl (by decide +kernel) ⟨Nat.le_of_ble_eq_true rfl, Nat.le_of_ble_eq_true rfl⟩) hNz (ci := 8) (q0 := 5) rfl rfl hA hP hD hS hK [5, 6] [0, 1, 2, 3, 4] [5] rfl rfl rfl rfl (by decide) rfl rfl rfl rfl hl.1 (Nat.le_of_ble_eq_true rfl) ⟨Nat.zero_le _, Nat.zero_le _⟩ d_Md_digits_34 (fun H locs hP hD hS => ?_)
        have hP : va_P (dC, dI) x_cl [(a_t_text, .inl (c_t_text, n_t_text, .inl e_t_text)), (a_t_digits, .inl (c_t_digits, n_t_digits, .inl e_t_digits)), (a_t_counts, .inl (c_t_counts, n_t_counts, .inl e_t_counts)), (a_t_points, .inl (c_t_points, n_t_points, .inl e_t_points)), (a_t_limbs, .inl (c_t_limbs, n_t_limbs, .inl e_t_limbs)), (a_t, .inr (8, [.int s_t_thrown_4, .int s_t_length, .ref a_t_text, .int s_t_place, .ref a_t_digits, .ref a_t_counts, .ref a_t_points, .ref a_t_limbs, .int s_t_limbCount, .int s_t_rows, .int s_t_columns, .ref a_t_cells, .int s_t_laid, .ref a_t_lines, .int s_t_size_41, .ref a_t_draft])), (a_t_draft, .inl (c_t_draft, n_t_draft, .inl e_t_draft_42))] H := hP
        have hD : va_D A [(a_t_text, .inl (c_t_text, n_t_text, .inl e_t_text)), (a_t_digits, .inl (c_t_digits, n_t_digits, .inl e_t_digits)), (a_t_counts, .inl (c_t_counts, n_t_counts, .inl e_t_counts)), (a_t_points, .inl (c_t_points, n_t_points, .inl e_t_points)), (a_t_limbs, .inl (c_t_limbs, n_t_limbs, .inl e_t_limbs)), (a_t, .inr (8, [.int s_t_thrown_4, .int s_t_length, .ref a_t_text, .int s_t_place, .ref a_t_digits, .ref a_t_counts, .ref a_t_points, .ref a_t_limbs, .int s_t_limbCount, .int s_t_rows, .int s_t_columns, .ref a_t_cells, .int s_t_laid, .ref a_t_lines, .int s_t_size_41, .ref a_t_draft])), (a_t_draft, .inl (c_t_draft, n_t_draft, .inl e_t_draft_42))] := hD
        refine lv_goto (tgt := 62) hx hb d_Md_digits_37 (by decide) ?_
        replace h := Option.some.inj h
        replace h := Prod.mk.inj h
        obtain ⟨h1, h⟩ := h
        subst h1
        replace h := Prod.mk.inj h
        obtain ⟨h1, h⟩ := h
        subst h1
        replace h := Prod.mk.inj h
        obtain ⟨h1, h⟩ := h
        subst h1
        replace h := Prod.mk.inj h
        obtain ⟨h1, h⟩ := h
        subst h1
        replace h := Prod.mk.inj h
        obtain ⟨h1, h⟩ := h
        subst h1
        replace h := Prod.mk.inj h
        obtain ⟨h1, h⟩ := h
        subst h1
        subst h
        exact hJ_19 _ _ _ (hP.sub [5, 0, 1, 2, 3, 4, 6] rfl) (hD.sub [5, 0, 1, 2, 3, 4, 6] (by decide) rfl) hS (lv_sub hl [0] rfl)
  · rw [if_pos c_6] at h
    refine lv_iconst (v := 0) hx hb d_Md_digits_14 (by decide) ?_
    replace h := Option.some.inj h
    replace h := Prod.mk.inj h
    obtain ⟨h1, h⟩ := h
    subst h1
    replace h := Prod.mk.inj h
    obtain ⟨h1, h⟩ := h
    subst h1
    replace h := Prod.mk.inj h
    obtain ⟨h1, h⟩ := h
    subst h1
    replace h := Prod.mk.inj h
    obtain ⟨h1, h⟩ := h
    subst h1
    replace h := Prod.mk.inj h
    obtain ⟨h1, h⟩ := h
    subst h1
    replace h := Prod.mk.inj h
    obtain ⟨h1, h⟩ := h
    subst h1
    replace h := Prod.mk.inj h
    obtain ⟨h1, h⟩ := h
    subst h1
    replace h := Prod.mk.inj h
    obtain ⟨h1, h⟩ := h
    subst h1
    replace h := Prod.mk.inj h
    obtain ⟨h1, h⟩ := h
    subst h1
    replace h := Prod.mk.inj h
    obtain ⟨h1, h⟩ := h
    subst h1
    subst h
    exact hret _ _ (hP.sub [6, 0, 1, 2, 3, 4, 5] rfl) (hD.sub [6, 0, 1, 2, 3, 4, 5] (by decide) rfl) hS _ _ d_Md_digits_15
def f_Md_toPlaces (n_t_digits : Nat) (n_t_counts : Nat) (n_t_points : Nat) (n_t_limbs : Nat) (n_t_draft : Nat) (s_t_thrown : Int32) (s_t_length : Int32) (s_t_place : Int32) (s_t_limbCount : Int32) (s_t_rows : Int32) (s_t_columns : Int32) (s_t_laid : Int32) (s_t_size : Int32) (e_t_digits : Nat → Int32) (e_t_counts : Nat → Int32) (e_t_points : Nat → Int32) (e_t_limbs : Nat → Int32) (e_t_draft : Nat → Int32) (x1 : Int64) (x3 : Int32) : Option (Int32 × Int32 × (Nat → Int32) × (Nat → Int32) × (Nat → Int32) × (Nat → Int32) × (Nat → Int32)) :=
  xob (f_Md_isZero x1) fun r_1 => xob (if r_1 = 0 then (xob (f_Md_value n_t_digits n_t_counts n_t_points n_t_limbs s_t_thrown s_t_length s_t_place s_t_limbCount s_t_rows s_t_columns s_t_laid s_t_size e_t_digits e_t_counts e_t_points e_t_limbs (0 : Int32) (x1 &&& (9223372036854775807 : Int64))) fun (s_t_limbCount_73, e_t_digits_74, e_t_counts_75, e_t_points_76, e_t_limbs_77) => if ((0 : Int32) < 0 ∨ n_t_points ≤ (0 : Int32).toNatClampNeg) then none else xnm ((e_t_points_76 (0 : Int32).toNatClampNeg) + x3) fun x4_80 => some (x4_80, s_t_limbCount_73, e_t_digits_74, e_t_counts_75, e_t_points_76, e_t_limbs_77)) else (some ((-1 : Int32), s_t_limbCount, e_t_digits, e_t_counts, e_t_points, e_t_limbs))) fun (x4_3, s_t_limbCount_4, e_t_digits_5, e_t_counts_6, e_t_points_7, e_t_limbs_8) => if ((3 : Int32) < 0 ∨ n_t_counts ≤ (3 : Int32).toNatClampNeg) then none else if ((3 : Int32) < 0 ∨ n_t_points ≤ (3 : Int32).toNatClampNeg) then none else xob (if x4_3 = 0 then (xob (f_Md_rest n_t_digits n_t_counts s_t_thrown s_t_length s_t_place s_t_limbCount_4 s_t_rows s_t_columns s_t_laid s_t_size e_t_digits_5 (upd e_t_counts_6 (3 : Int32).toNatClampNeg (0 : Int32)) (0 : Int32) (0 : Int32)) fun r_59 => if r_59 ≤ 0 then (if x4_3 ≤ 0 then (some (e_t_digits_5, (upd e_t_counts_6 (3 : Int32).toNatClampNeg (0 : Int32)), (upd e_t_points_7 (3 : Int32).toNatClampNeg (0 : Int32)))) else (xob (f_Md_round n_t_digits n_t_counts n_t_points s_t_thrown s_t_length s_t_place s_t_limbCount_4 s_t_rows s_t_columns s_t_laid s_t_size e_t_digits_5 (upd e_t_counts_6 (3 : Int32).toNatClampNeg (0 : Int32)) (upd e_t_points_7 (3 : Int32).toNatClampNeg (0 : Int32)) (0 : Int32) (3 : Int32) x4_3) fun (e_t_digits_63, e_t_counts_64, e_t_points_65) => if ((3 : Int32) < 0 ∨ n_t_points ≤ (3 : Int32).toNatClampNeg) then none else if ((3 : Int32) < 0 ∨ n_t_points ≤ (3 : Int32).toNatClampNeg) then none else some (e_t_digits_63, e_t_counts_64, (upd e_t_points_65 (3 : Int32).toNatClampNeg ((e_t_points_65 (3 : Int32).toNatClampNeg) + x3))))) else (if ((3900 : Int32) < 0 ∨ n_t_digits ≤ (3900 : Int32).toNatClampNeg) then none else if ((3 : Int32) < 0 ∨ n_t_counts ≤ (3 : Int32).toNatClampNeg) then none else if ((3 : Int32) < 0 ∨ n_t_points ≤ (3 : Int32).toNatClampNeg) then none else some ((upd e_t_digits_5 (3900 : Int32).toNatClampNeg (1 : Int32)), (upd ((upd e_t_counts_6 (3 : Int32).toNatClampNeg (0 : Int32))) (3 : Int32).toNatClampNeg (1 : Int32)), (upd ((upd e_t_points_7 (3 : Int32).toNatClampNeg (0 : Int32))) (3 : Int32).toNatClampNeg (1 : Int32))))) else (if x4_3 ≤ 0 then (some (e_t_digits_5, (upd e_t_counts_6 (3 : Int32).toNatClampNeg (0 : Int32)), (upd e_t_points_7 (3 : Int32).toNatClampNeg (0 : Int32)))) else (xob (f_Md_round n_t_digits n_t_counts n_t_points s_t_thrown s_t_length s_t_place s_t_limbCount_4 s_t_rows s_t_columns s_t_laid s_t_size e_t_digits_5 (upd e_t_counts_6 (3 : Int32).toNatClampNeg (0 : Int32)) (upd e_t_points_7 (3 : Int32).toNatClampNeg (0 : Int32)) (0 : Int32) (3 : Int32) x4_3) fun (e_t_digits_53, e_t_counts_54, e_t_points_55) => if ((3 : Int32) < 0 ∨ n_t_points ≤ (3 : Int32).toNatClampNeg) then none else if ((3 : Int32) < 0 ∨ n_t_points ≤ (3 : Int32).toNatClampNeg) then none else some (e_t_digits_53, e_t_counts_54, (upd e_t_points_55 (3 : Int32).toNatClampNeg ((e_t_points_55 (3 : Int32).toNatClampNeg) + x3)))))) fun (e_t_digits_13, e_t_counts_14, e_t_points_15) => if ((3 : Int32) < 0 ∨ n_t_points ≤ (3 : Int32).toNatClampNeg) then none else xob (if (e_t_points_15 (3 : Int32).toNatClampNeg) ≤ x3 then (some (0 : Int32)) else (if ((3 : Int32) < 0 ∨ n_t_points ≤ (3 : Int32).toNatClampNeg) then none else some ((e_t_points_15 (3 : Int32).toNatClampNeg) - x3))) fun z_19 => xob (if z_19 = 0 then (xob (f_Md_put n_t_draft s_t_thrown s_t_length s_t_place s_t_limbCount_4 s_t_rows s_t_columns s_t_laid s_t_size e_t_draft (48 : Int32)) fun (s_t_size_46, e_t_draft_47) => some (s_t_size_46, e_t_draft_47)) else (some (s_t_size, e_t_draft))) fun (s_t_size_22, e_t_draft_23) => xob (f_Md_putDigits n_t_digits n_t_counts n_t_draft s_t_thrown s_t_length s_t_place s_t_limbCount_4 s_t_rows s_t_columns s_t_laid s_t_size_22 e_t_digits_13 e_t_counts_14 e_t_draft_23 (3 : Int32) (0 : Int32) z_19) fun (s_t_size_26, e_t_draft_27) => if x3 ≤ 0 then (some (s_t_limbCount_4, s_t_size_26, e_t_digits_13, e_t_counts_14, e_t_points_15, e_t_limbs_8, e_t_draft_27)) else (xob (f_Md_put n_t_draft s_t_thrown s_t_length s_t_place s_t_limbCount_4 s_t_rows s_t_columns s_t_laid s_t_size_26 e_t_draft_27 (46 : Int32)) fun (s_t_size_30, e_t_draft_31) => if ((3 : Int32) < 0 ∨ n_t_points ≤ (3 : Int32).toNatClampNeg) then none else xob (if x3 ≤ (e_t_points_15 (3 : Int32).toNatClampNeg) then (some (0 : Int32)) else (if ((3 : Int32) < 0 ∨ n_t_points ≤ (3 : Int32).toNatClampNeg) then none else some (x3 - (e_t_points_15 (3 : Int32).toNatClampNeg)))) fun z_34 => xob (f_Md_putZeros n_t_draft s_t_thrown s_t_length s_t_place s_t_limbCount_4 s_t_rows s_t_columns s_t_laid s_t_size_30 e_t_draft_31 z_34) fun (s_t_size_37, e_t_draft_38) => xob (f_Md_putDigits n_t_digits n_t_counts n_t_draft s_t_thrown s_t_length s_t_place s_t_limbCount_4 s_t_rows s_t_columns s_t_laid s_t_size_37 e_t_digits_13 e_t_counts_14 e_t_draft_38 (3 : Int32) z_19 ((z_19 + x3) - z_34)) fun (s_t_size_40, e_t_draft_41) => some (s_t_limbCount_4, s_t_size_40, e_t_digits_13, e_t_counts_14, e_t_points_15, e_t_limbs_8, e_t_draft_41))
def rm_Md_toPlaces : Room := { frames := 4, cells := 0, slots := 0, locals := 104 }
set_option maxHeartbeats 4000000 in
set_option maxRecDepth 100000 in
theorem c_Md_toPlaces (l : Launch) (dC : Nat → ClassId) (dI : Nat → Nat → Nat) (a_t a_t_text a_t_digits a_t_counts a_t_points a_t_limbs a_t_cells a_t_lines a_t_draft : Nat) (c_t_digits c_t_counts c_t_points c_t_limbs c_t_draft : ClassId) (n_t_digits : Nat) (n_t_counts : Nat) (n_t_points : Nat) (n_t_limbs : Nat) (n_t_draft : Nat) (s_t_thrown : Int32) (s_t_length : Int32) (s_t_place : Int32) (s_t_limbCount : Int32) (s_t_rows : Int32) (s_t_columns : Int32) (s_t_laid : Int32) (s_t_size : Int32) (e_t_digits : Nat → Int32) (e_t_counts : Nat → Int32) (e_t_points : Nat → Int32) (e_t_limbs : Nat → Int32) (e_t_draft : Nat → Int32) (x1 : Int64) (x3 : Int32) (s_t_limbCount_o : Int32) (s_t_size_o : Int32) (e_t_digits_o : Nat → Int32) (e_t_counts_o : Nat → Int32) (e_t_points_o : Nat → Int32) (e_t_limbs_o : Nat → Int32) (e_t_draft_o : Nat → Int32) (h : f_Md_toPlaces n_t_digits n_t_counts n_t_points n_t_limbs n_t_draft s_t_thrown s_t_length s_t_place s_t_limbCount s_t_rows s_t_columns s_t_laid s_t_size e_t_digits e_t_counts e_t_points e_t_limbs e_t_draft x1 x3 = some (s_t_limbCount_o, s_t_size_o, e_t_digits_o, e_t_counts_o, e_t_points_o, e_t_limbs_o, e_t_draft_o)) : xM l y_Md_toPlaces (Cond.code y_Md_toPlaces b_Md_toPlaces 7 none :: xG) rm_Md_toPlaces (dC, dI) x_cl x_nz [.ref a_t, .long x1, .int x3] [(c_t_digits, .int), (c_t_counts, .int), (c_t_points, .int), (c_t_limbs, .int), (c_t_draft, .int)] [(a_t, .inr (8, [.int s_t_thrown, .int s_t_length, .ref a_t_text, .int s_t_place, .ref a_t_digits, .ref a_t_counts, .ref a_t_points, .ref a_t_limbs, .int s_t_limbCount, .int s_t_rows, .int s_t_columns, .ref a_t_cells, .int s_t_laid, .ref a_t_lines, .int s_t_size, .ref a_t_draft])), (a_t_digits, .inl (c_t_digits, n_t_digits, .inl e_t_digits)), (a_t_counts, .inl (c_t_counts, n_t_counts, .inl e_t_counts)), (a_t_points, .inl (c_t_points, n_t_points, .inl e_t_points)), (a_t_limbs, .inl (c_t_limbs, n_t_limbs, .inl e_t_limbs)), (a_t_draft, .inl (c_t_draft, n_t_draft, .inl e_t_draft))] none [(a_t, .inr (8, [.int s_t_thrown, .int s_t_length, .ref a_t_text, .int s_t_place, .ref a_t_digits, .ref a_t_counts, .ref a_t_points, .ref a_t_limbs, .int s_t_limbCount_o, .int s_t_rows, .int s_t_columns, .ref a_t_cells, .int s_t_laid, .ref a_t_lines, .int s_t_size_o, .ref a_t_draft])), (a_t_digits, .inl (c_t_digits, n_t_digits, .inl e_t_digits_o)), (a_t_counts, .inl (c_t_counts, n_t_counts, .inl e_t_counts_o)), (a_t_points, .inl (c_t_points, n_t_points, .inl e_t_points_o)), (a_t_limbs, .inl (c_t_limbs, n_t_limbs, .inl e_t_limbs_o)), (a_t_draft, .inl (c_t_draft, n_t_draft, .inl e_t_draft_o))] := by
  unfold f_Md_toPlaces at h
  refine xM.mkV (cc := b_Md_toPlaces) (maxL := 7)  (by decide +kernel) rfl (Nat.le_of_ble_eq_true rfl) ?_
  intro p e s m args below meth c A Q ls hx hb hml hown hts hNz hA hP hD hK hl hret
  have hS : va_S A s.heap s.heap [] := va_S.rf
  have hl : lv_has ls 7 [(0, .ref a_t), (1, .long x1), (3, .int x3)] := hl
  refine lv_iconst (v := -1) hx hb d_Md_toPlaces_0 (by decide) ?_
  refine lv_istore (lv' := [(4, .int (-1 : Int32)), (0, .ref a_t), (1, .long x1), (3, .int x3)]) hx hb d_Md_toPlaces_1 hl (by decide) rfl (fun ls hl => ?_)
  refine lv_lload_n hx hb d_Md_toPlaces_3 rfl (lv_at hl 2 rfl) ?_
  replace h := xob_s h
  obtain ⟨r_1, hc_2, h⟩ := h
  try dsimp only at h
  refine xcS (As := [.long x1]) (rest := []) (st1 := [.int r_1]) (wr := [(a_t, .inr (8, [.int s_t_thrown, .int s_t_length, .ref a_t_text, .int s_t_place, .ref a_t_digits, .ref a_t_counts, .ref a_t_points, .ref a_t_limbs, .int s_t_limbCount, .int s_t_rows, .int s_t_columns, .ref a_t_cells, .int s_t_laid, .ref a_t_lines, .int s_t_size, .ref a_t_draft])), (a_t_digits, .inl (c_t_digits, n_t_digits, .inl e_t_digits)), (a_t_counts, .inl (c_t_counts, n_t_counts, .inl e_t_counts)), (a_t_points, .inl (c_t_points, n_t_points, .inl e_t_points)), (a_t_limbs, .inl (c_t_limbs, n_t_limbs, .inl e_t_limbs)), (a_t_draft, .inl (c_t_draft, n_t_draft, .inl e_t_draft))]) ⟨hx, hb, hml, hown, hts⟩ (c_Md_isZero l dC dI x1 r_1 hc_2) (⟨callB_of 1 hts (xgood g_863) rfl rfl rfl (hts _ g_10) (hts _ g_861) (by decide +kernel) ⟨Nat.le_of_ble_eq_true rfl, Nat.le_of_ble_eq_true rfl⟩, (hts _ g_862)⟩) hNz hA hP hD hS hK [] [0, 1, 2, 3, 4, 5] [] rfl rfl rfl rfl (by decide) rfl rfl rfl rfl hl.1 (Nat.le_of_ble_eq_true rfl) ⟨Nat.zero_le _, Nat.zero_le _⟩ d_Md_toPlaces_4 (fun H locs hP hD hS => ?_)
  have hP : va_P (dC, dI) x_cl [(a_t, .inr (8, [.int s_t_thrown, .int s_t_length, .ref a_t_text, .int s_t_place, .ref a_t_digits, .ref a_t_counts, .ref a_t_points, .ref a_t_limbs, .int s_t_limbCount, .int s_t_rows, .int s_t_columns, .ref a_t_cells, .int s_t_laid, .ref a_t_lines, .int s_t_size, .ref a_t_draft])), (a_t_digits, .inl (c_t_digits, n_t_digits, .inl e_t_digits)), (a_t_counts, .inl (c_t_counts, n_t_counts, .inl e_t_counts)), (a_t_points, .inl (c_t_points, n_t_points, .inl e_t_points)), (a_t_limbs, .inl (c_t_limbs, n_t_limbs, .inl e_t_limbs)), (a_t_draft, .inl (c_t_draft, n_t_draft, .inl e_t_draft))] H := hP
  have hD : va_D A [(a_t, .inr (8, [.int s_t_thrown, .int s_t_length, .ref a_t_text, .int s_t_place, .ref a_t_digits, .ref a_t_counts, .ref a_t_points, .ref a_t_limbs, .int s_t_limbCount, .int s_t_rows, .int s_t_columns, .ref a_t_cells, .int s_t_laid, .ref a_t_lines, .int s_t_size, .ref a_t_draft])), (a_t_digits, .inl (c_t_digits, n_t_digits, .inl e_t_digits)), (a_t_counts, .inl (c_t_counts, n_t_counts, .inl e_t_counts)), (a_t_points, .inl (c_t_points, n_t_points, .inl e_t_points)), (a_t_limbs, .inl (c_t_limbs, n_t_limbs, .inl e_t_limbs)), (a_t_draft, .inl (c_t_draft, n_t_draft, .inl e_t_draft))] := hD
  replace h := xob_s h
  obtain ⟨⟨x4_3, s_t_limbCount_4, e_t_digits_5, e_t_counts_6, e_t_points_7, e_t_limbs_8⟩, hj_9, h⟩ := h
  try dsimp only at h
  have hJ_10 : ∀ (H : Heap) (locs : List Loc) (ls : Array Slot), va_P (dC, dI) x_cl [(a_t, .inr (8, [.int s_t_thrown, .int s_t_length, .ref a_t_text, .int s_t_place, .ref a_t_digits, .ref a_t_counts, .ref a_t_points, .ref a_t_limbs, .int s_t_limbCount_4, .int s_t_rows, .int s_t_columns, .ref a_t_cells, .int s_t_laid, .ref a_t_lines, .int s_t_size, .ref a_t_draft])), (a_t_digits, .inl (c_t_digits, n_t_digits, .inl e_t_digits_5)), (a_t_counts, .inl (c_t_counts, n_t_counts, .inl e_t_counts_6)), (a_t_points, .inl (c_t_points, n_t_points, .inl e_t_points_7)), (a_t_limbs, .inl (c_t_limbs, n_t_limbs, .inl e_t_limbs_8)), (a_t_draft, .inl (c_t_draft, n_t_draft, .inl e_t_draft))] H → va_D A [(a_t, .inr (8, [.int s_t_thrown, .int s_t_length, .ref a_t_text, .int s_t_place, .ref a_t_digits, .ref a_t_counts, .ref a_t_points, .ref a_t_limbs, .int s_t_limbCount_4, .int s_t_rows, .int s_t_columns, .ref a_t_cells, .int s_t_laid, .ref a_t_lines, .int s_t_size, .ref a_t_draft])), (a_t_digits, .inl (c_t_digits, n_t_digits, .inl e_t_digits_5)), (a_t_counts, .inl (c_t_counts, n_t_counts, .inl e_t_counts_6)), (a_t_points, .inl (c_t_points, n_t_points, .inl e_t_points_7)), (a_t_limbs, .inl (c_t_limbs, n_t_limbs, .inl e_t_limbs_8)), (a_t_draft, .inl (c_t_draft, n_t_draft, .inl e_t_draft))] → va_S A s.heap H locs → lv_has ls 7 [(0, .ref a_t), (3, .int x3), (4, .int x4_3)] → W p l e rm_Md_toPlaces s m args below meth c H locs 0 0 Q (F0 m 30 ls []) := by
    intro H locs ls hP hD hS hl
    refine lv_aload_n hx hb d_Md_toPlaces_30 rfl (lv_at hl 0 rfl) ?_
    refine va_get (D := (dC, dI)) (ci := 8) (v := .ref a_t_counts) (C := R_Md) (T := T_Md) (N := 16) hx hb hts in_Md hown hK hP 0 rfl rfl 5 (by decide) (hts _ g_711) (fun _ h9 => h9) rfl d_Md_toPlaces_31 ?_
    refine lv_iconst (v := 3) hx hb d_Md_toPlaces_34 (by decide) ?_
    refine lv_iconst (v := 0) hx hb d_Md_toPlaces_35 (by decide) ?_
    replace h := xg h
    obtain ⟨hg_11, h⟩ := h
    refine va_iast hx hb hK hP hD hS 2 1 rfl rfl hg_11 d_Md_toPlaces_36 (fun H locs hP hD hS => ?_)
    have hP : va_P (dC, dI) x_cl [(a_t, .inr (8, [.int s_t_thrown, .int s_t_length, .ref a_t_text, .int s_t_place, .ref a_t_digits, .ref a_t_counts, .ref a_t_points, .ref a_t_limbs, .int s_t_limbCount_4, .int s_t_rows, .int s_t_columns, .ref a_t_cells, .int s_t_laid, .ref a_t_lines, .int s_t_size, .ref a_t_draft])), (a_t_digits, .inl (c_t_digits, n_t_digits, .inl e_t_digits_5)), (a_t_counts, .inl (c_t_counts, n_t_counts, .inl ((upd e_t_counts_6 (3 : Int32).toNatClampNeg (0 : Int32))))), (a_t_points, .inl (c_t_points, n_t_points, .inl e_t_points_7)), (a_t_limbs, .inl (c_t_limbs, n_t_limbs, .inl e_t_limbs_8)), (a_t_draft, .inl (c_t_draft, n_t_draft, .inl e_t_draft))] H := hP
    have hD : va_D A [(a_t, .inr (8, [.int s_t_thrown, .int s_t_length, .ref a_t_text, .int s_t_place, .ref a_t_digits, .ref a_t_counts, .ref a_t_points, .ref a_t_limbs, .int s_t_limbCount_4, .int s_t_rows, .int s_t_columns, .ref a_t_cells, .int s_t_laid, .ref a_t_lines, .int s_t_size, .ref a_t_draft])), (a_t_digits, .inl (c_t_digits, n_t_digits, .inl e_t_digits_5)), (a_t_counts, .inl (c_t_counts, n_t_counts, .inl ((upd e_t_counts_6 (3 : Int32).toNatClampNeg (0 : Int32))))), (a_t_points, .inl (c_t_points, n_t_points, .inl e_t_points_7)), (a_t_limbs, .inl (c_t_limbs, n_t_limbs, .inl e_t_limbs_8)), (a_t_draft, .inl (c_t_draft, n_t_draft, .inl e_t_draft))] := hD
    refine lv_aload_n hx hb d_Md_toPlaces_37 rfl (lv_at hl 0 rfl) ?_
    refine va_get (D := (dC, dI)) (ci := 8) (v := .ref a_t_points) (C := R_Md) (T := T_Md) (N := 16) hx hb hts in_Md hown hK hP 0 rfl rfl 6 (by decide) (hts _ g_712) (fun _ h9 => h9) rfl d_Md_toPlaces_38 ?_
    refine lv_iconst (v := 3) hx hb d_Md_toPlaces_41 (by decide) ?_
    refine lv_iconst (v := 0) hx hb d_Md_toPlaces_42 (by decide) ?_
    replace h := xg h
    obtain ⟨hg_12, h⟩ := h
    refine va_iast hx hb hK hP hD hS 3 2 rfl rfl hg_12 d_Md_toPlaces_43 (fun H locs hP hD hS => ?_)
    have hP : va_P (dC, dI) x_cl [(a_t, .inr (8, [.int s_t_thrown, .int s_t_length, .ref a_t_text, .int s_t_place, .ref a_t_digits, .ref a_t_counts, .ref a_t_points, .ref a_t_limbs, .int s_t_limbCount_4, .int s_t_rows, .int s_t_columns, .ref a_t_cells, .int s_t_laid, .ref a_t_lines, .int s_t_size, .ref a_t_draft])), (a_t_digits, .inl (c_t_digits, n_t_digits, .inl e_t_digits_5)), (a_t_counts, .inl (c_t_counts, n_t_counts, .inl ((upd e_t_counts_6 (3 : Int32).toNatClampNeg (0 : Int32))))), (a_t_points, .inl (c_t_points, n_t_points, .inl ((upd e_t_points_7 (3 : Int32).toNatClampNeg (0 : Int32))))), (a_t_limbs, .inl (c_t_limbs, n_t_limbs, .inl e_t_limbs_8)), (a_t_draft, .inl (c_t_draft, n_t_draft, .inl e_t_draft))] H := hP
    have hD : va_D A [(a_t, .inr (8, [.int s_t_thrown, .int s_t_length, .ref a_t_text, .int s_t_place, .ref a_t_digits, .ref a_t_counts, .ref a_t_points, .ref a_t_limbs, .int s_t_limbCount_4, .int s_t_rows, .int s_t_columns, .ref a_t_cells, .int s_t_laid, .ref a_t_lines, .int s_t_size, .ref a_t_draft])), (a_t_digits, .inl (c_t_digits, n_t_digits, .inl e_t_digits_5)), (a_t_counts, .inl (c_t_counts, n_t_counts, .inl ((upd e_t_counts_6 (3 : Int32).toNatClampNeg (0 : Int32))))), (a_t_points, .inl (c_t_points, n_t_points, .inl ((upd e_t_points_7 (3 : Int32).toNatClampNeg (0 : Int32))))), (a_t_limbs, .inl (c_t_limbs, n_t_limbs, .inl e_t_limbs_8)), (a_t_draft, .inl (c_t_draft, n_t_draft, .inl e_t_draft))] := hD
    refine lv_iload hx hb d_Md_toPlaces_44 (lv_at hl 2 rfl) ?_
    replace h := xob_s h
    obtain ⟨⟨e_t_digits_13, e_t_counts_14, e_t_points_15⟩, hj_16, h⟩ := h
    try dsimp only at h
    have hJ_17 : ∀ (H : Heap) (locs : List Loc) (ls : Array Slot), va_P (dC, dI) x_cl [(a_t, .inr (8, [.int s_t_thrown, .int s_t_length, .ref a_t_text, .int s_t_place, .ref a_t_digits, .ref a_t_counts, .ref a_t_points, .ref a_t_limbs, .int s_t_limbCount_4, .int s_t_rows, .int s_t_columns, .ref a_t_cells, .int s_t_laid, .ref a_t_lines, .int s_t_size, .ref a_t_draft])), (a_t_digits, .inl (c_t_digits, n_t_digits, .inl e_t_digits_13)), (a_t_counts, .inl (c_t_counts, n_t_counts, .inl e_t_counts_14)), (a_t_points, .inl (c_t_points, n_t_points, .inl e_t_points_15)), (a_t_limbs, .inl (c_t_limbs, n_t_limbs, .inl e_t_limbs_8)), (a_t_draft, .inl (c_t_draft, n_t_draft, .inl e_t_draft))] H → va_D A [(a_t, .inr (8, [.int s_t_thrown, .int s_t_length, .ref a_t_text, .int s_t_place, .ref a_t_digits, .ref a_t_counts, .ref a_t_points, .ref a_t_limbs, .int s_t_limbCount_4, .int s_t_rows, .int s_t_columns, .ref a_t_cells, .int s_t_laid, .ref a_t_lines, .int s_t_size, .ref a_t_draft])), (a_t_digits, .inl (c_t_digits, n_t_digits, .inl e_t_digits_13)), (a_t_counts, .inl (c_t_counts, n_t_counts, .inl e_t_counts_14)), (a_t_points, .inl (c_t_points, n_t_points, .inl e_t_points_15)), (a_t_limbs, .inl (c_t_limbs, n_t_limbs, .inl e_t_limbs_8)), (a_t_draft, .inl (c_t_draft, n_t_draft, .inl e_t_draft))] → va_S A s.heap H locs → lv_has ls 7 [(0, .ref a_t), (3, .int x3)] → W p l e rm_Md_toPlaces s m args below meth c H locs 0 0 Q (F0 m 111 ls []) := by
      intro H locs ls hP hD hS hl
      refine lv_aload_n hx hb d_Md_toPlaces_111 rfl (lv_at hl 0 rfl) ?_
      refine va_get (D := (dC, dI)) (ci := 8) (v := .ref a_t_points) (C := R_Md) (T := T_Md) (N := 16) hx hb hts in_Md hown hK hP 0 rfl rfl 6 (by decide) (hts _ g_712) (fun _ h9 => h9) rfl d_Md_toPlaces_112 ?_
      refine lv_iconst (v := 3) hx hb d_Md_toPlaces_115 (by decide) ?_
      replace h := xg h
      obtain ⟨hg_18, h⟩ := h
      refine va_iald hx hb hK hP 3 2 rfl rfl hg_18 d_Md_toPlaces_116 ?_
      refine lv_iload_n hx hb d_Md_toPlaces_117 rfl (lv_at hl 1 rfl) ?_
      replace h := xob_s h
      obtain ⟨z_19, hj_20, h⟩ := h
      try dsimp only at h
      have hJ_21 : ∀ (H : Heap) (locs : List Loc) (ls : Array Slot), va_P (dC, dI) x_cl [(a_t, .inr (8, [.int s_t_thrown, .int s_t_length, .ref a_t_text, .int s_t_place, .ref a_t_digits, .ref a_t_counts, .ref a_t_points, .ref a_t_limbs, .int s_t_limbCount_4, .int s_t_rows, .int s_t_columns, .ref a_t_cells, .int s_t_laid, .ref a_t_lines, .int s_t_size, .ref a_t_draft])), (a_t_digits, .inl (c_t_digits, n_t_digits, .inl e_t_digits_13)), (a_t_counts, .inl (c_t_counts, n_t_counts, .inl e_t_counts_14)), (a_t_points, .inl (c_t_points, n_t_points, .inl e_t_points_15)), (a_t_limbs, .inl (c_t_limbs, n_t_limbs, .inl e_t_limbs_8)), (a_t_draft, .inl (c_t_draft, n_t_draft, .inl e_t_draft))] H → va_D A [(a_t, .inr (8, [.int s_t_thrown, .int s_t_length, .ref a_t_text, .int s_t_place, .ref a_t_digits, .ref a_t_counts, .ref a_t_points, .ref a_t_limbs, .int s_t_limbCount_4, .int s_t_rows, .int s_t_columns, .ref a_t_cells, .int s_t_laid, .ref a_t_lines, .int s_t_size, .ref a_t_draft])), (a_t_digits, .inl (c_t_digits, n_t_digits, .inl e_t_digits_13)), (a_t_counts, .inl (c_t_counts, n_t_counts, .inl e_t_counts_14)), (a_t_points, .inl (c_t_points, n_t_points, .inl e_t_points_15)), (a_t_limbs, .inl (c_t_limbs, n_t_limbs, .inl e_t_limbs_8)), (a_t_draft, .inl (c_t_draft, n_t_draft, .inl e_t_draft))] → va_S A s.heap H locs → lv_has ls 7 [(0, .ref a_t), (3, .int x3)] → W p l e rm_Md_toPlaces s m args below meth c H locs 0 0 Q (F0 m 133 ls [.int z_19]) := by
        intro H locs ls hP hD hS hl
        refine lv_istore (lv' := [(5, .int z_19), (0, .ref a_t), (3, .int x3)]) hx hb d_Md_toPlaces_133 hl (by decide) rfl (fun ls hl => ?_)
        refine lv_iload hx hb d_Md_toPlaces_135 (lv_at hl 0 rfl) ?_
        replace h := xob_s h
        obtain ⟨⟨s_t_size_22, e_t_draft_23⟩, hj_24, h⟩ := h
        try dsimp only at h
        have hJ_25 : ∀ (H : Heap) (locs : List Loc) (ls : Array Slot), va_P (dC, dI) x_cl [(a_t, .inr (8, [.int s_t_thrown, .int s_t_length, .ref a_t_text, .int s_t_place, .ref a_t_digits, .ref a_t_counts, .ref a_t_points, .ref a_t_limbs, .int s_t_limbCount_4, .int s_t_rows, .int s_t_columns, .ref a_t_cells, .int s_t_laid, .ref a_t_lines, .int s_t_size_22, .ref a_t_draft])), (a_t_digits, .inl (c_t_digits, n_t_digits, .inl e_t_digits_13)), (a_t_counts, .inl (c_t_counts, n_t_counts, .inl e_t_counts_14)), (a_t_points, .inl (c_t_points, n_t_points, .inl e_t_points_15)), (a_t_limbs, .inl (c_t_limbs, n_t_limbs, .inl e_t_limbs_8)), (a_t_draft, .inl (c_t_draft, n_t_draft, .inl e_t_draft_23))] H → va_D A [(a_t, .inr (8, [.int s_t_thrown, .int s_t_length, .ref a_t_text, .int s_t_place, .ref a_t_digits, .ref a_t_counts, .ref a_t_points, .ref a_t_limbs, .int s_t_limbCount_4, .int s_t_rows, .int s_t_columns, .ref a_t_cells, .int s_t_laid, .ref a_t_lines, .int s_t_size_22, .ref a_t_draft])), (a_t_digits, .inl (c_t_digits, n_t_digits, .inl e_t_digits_13)), (a_t_counts, .inl (c_t_counts, n_t_counts, .inl e_t_counts_14)), (a_t_points, .inl (c_t_points, n_t_points, .inl e_t_points_15)), (a_t_limbs, .inl (c_t_limbs, n_t_limbs, .inl e_t_limbs_8)), (a_t_draft, .inl (c_t_draft, n_t_draft, .inl e_t_draft_23))] → va_S A s.heap H locs → lv_has ls 7 [(0, .ref a_t), (3, .int x3), (5, .int z_19)] → W p l e rm_Md_toPlaces s m args below meth c H locs 0 0 Q (F0 m 146 ls []) := by
          intro H locs ls hP hD hS hl
          refine lv_aload_n hx hb d_Md_toPlaces_146 rfl (lv_at hl 0 rfl) ?_
          refine lv_iconst (v := 3) hx hb d_Md_toPlaces_147 (by decide) ?_
          refine lv_iconst (v := 0) hx hb d_Md_toPlaces_148 (by decide) ?_
          refine lv_iload hx hb d_Md_toPlaces_149 (lv_at hl 2 rfl) ?_
          replace h := xob_s h
          obtain ⟨⟨s_t_size_26, e_t_draft_27⟩, hc_28, h⟩ := h
          try dsimp only at h
          refine xcV (As := [.int (3 : Int32), .int (0 : Int32), .int z_19]) (rest := []) (st1 := []) (wr := [(a_t_points, .inl (c_t_points, n_t_points, .inl e_t_points_15)), (a_t_limbs, .inl (c_t_limbs, n_t_limbs, .inl e_t_limbs_8))]) ⟨hx, hb, hml, hown, hts⟩ (c_Md_putDigits l dC dI a_t a_t_text a_t_digits a_t_counts a_t_points a_t_limbs a_t_cells a_t_lines a_t_draft c_t_digits c_t_counts c_t_draft n_t_digits n_t_counts n_t_draft s_t_thrown s_t_length s_t_place s_t_limbCount_4 s_t_rows s_t_columns s_t_laid s_t_size_22 e_t_digits_13 e_t_counts_14 e_t_draft_23 (3 : Int32) (0 : Int32) z_19 s_t_size_26 e_t_draft_27 hc_28) (cwV 3 hts (xgoodV g_892 g_894 gp_41 g_10 g_895) rfl rfl rfl (by decide +kernel) ⟨Nat.le_of_ble_eq_true rfl, Nat.le_of_ble_eq_true rfl⟩) hNz (ci := 8) (q0 := 0) rfl rfl hA hP hD hS hK [0, 1, 2, 5] [3, 4] [0, 1, 4] rfl rfl rfl rfl (by decide) rfl rfl rfl rfl hl.1 (Nat.le_of_ble_eq_true rfl) ⟨Nat.zero_le _, Nat.zero_le _⟩ d_Md_toPlaces_151 (fun H locs hP hD hS => ?_)
          have hP : va_P (dC, dI) x_cl [(a_t_points, .inl (c_t_points, n_t_points, .inl e_t_points_15)), (a_t_limbs, .inl (c_t_limbs, n_t_limbs, .inl e_t_limbs_8)), (a_t, .inr (8, [.int s_t_thrown, .int s_t_length, .ref a_t_text, .int s_t_place, .ref a_t_digits, .ref a_t_counts, .ref a_t_points, .ref a_t_limbs, .int s_t_limbCount_4, .int s_t_rows, .int s_t_columns, .ref a_t_cells, .int s_t_laid, .ref a_t_lines, .int s_t_size_26, .ref a_t_draft])), (a_t_digits, .inl (c_t_digits, n_t_digits, .inl e_t_digits_13)), (a_t_counts, .inl (c_t_counts, n_t_counts, .inl e_t_counts_14)), (a_t_draft, .inl (c_t_draft, n_t_draft, .inl e_t_draft_27))] H := hP
          have hD : va_D A [(a_t_points, .inl (c_t_points, n_t_points, .inl e_t_points_15)), (a_t_limbs, .inl (c_t_limbs, n_t_limbs, .inl e_t_limbs_8)), (a_t, .inr (8, [.int s_t_thrown, .int s_t_length, .ref a_t_text, .int s_t_place, .ref a_t_digits, .ref a_t_counts, .ref a_t_points, .ref a_t_limbs, .int s_t_limbCount_4, .int s_t_rows, .int s_t_columns, .ref a_t_cells, .int s_t_laid, .ref a_t_lines, .int s_t_size_26, .ref a_t_draft])), (a_t_digits, .inl (c_t_digits, n_t_digits, .inl e_t_digits_13)), (a_t_counts, .inl (c_t_counts, n_t_counts, .inl e_t_counts_14)), (a_t_draft, .inl (c_t_draft, n_t_draft, .inl e_t_draft_27))] := hD
          refine lv_iload_n hx hb d_Md_toPlaces_154 rfl (lv_at hl 1 rfl) ?_
          refine lv_if_le (tgt := 208) hx hb d_Md_toPlaces_155 (by decide) (fun c_29 => ?_) (fun c_29 => ?_)
          · rw [if_pos c_29] at h
            replace h := Option.some.inj h
            replace h := Prod.mk.inj h
            obtain ⟨h1, h⟩ := h
            subst h1
            replace h := Prod.mk.inj h
            obtain ⟨h1, h⟩ := h
            subst h1
            replace h := Prod.mk.inj h
            obtain ⟨h1, h⟩ := h
            subst h1
            replace h := Prod.mk.inj h
            obtain ⟨h1, h⟩ := h
            subst h1
            replace h := Prod.mk.inj h
            obtain ⟨h1, h⟩ := h
            subst h1
            replace h := Prod.mk.inj h
            obtain ⟨h1, h⟩ := h
            subst h1
            subst h
            exact hret _ _ (hP.sub [2, 3, 4, 0, 1, 5] rfl) (hD.sub [2, 3, 4, 0, 1, 5] (by decide) rfl) hS _ _ d_Md_toPlaces_208
          · rw [if_neg c_29] at h
            refine lv_aload_n hx hb d_Md_toPlaces_158 rfl (lv_at hl 0 rfl) ?_
            refine lv_bipush (v := 46) hx hb d_Md_toPlaces_159 (by decide) ?_
            replace h := xob_s h
            obtain ⟨⟨s_t_size_30, e_t_draft_31⟩, hc_32, h⟩ := h
            try dsimp only at h
            refine xcV (As := [.int (46 : Int32)]) (rest := []) (st1 := []) (wr := [(a_t_points, .inl (c_t_points, n_t_points, .inl e_t_points_15)), (a_t_limbs, .inl (c_t_limbs, n_t_limbs, .inl e_t_limbs_8)), (a_t_digits, .inl (c_t_digits, n_t_digits, .inl e_t_digits_13)), (a_t_counts, .inl (c_t_counts, n_t_counts, .inl e_t_counts_14))]) ⟨hx, hb, hml, hown, hts⟩ (c_Md_put l dC dI a_t a_t_text a_t_digits a_t_counts a_t_points a_t_limbs a_t_cells a_t_lines a_t_draft c_t_draft n_t_draft s_t_thrown s_t_length s_t_place s_t_limbCount_4 s_t_rows s_t_columns s_t_laid s_t_size_26 e_t_draft_27 (46 : Int32) s_t_size_30 e_t_draft_31 hc_32) (cwV 1 hts (xgoodV g_857 g_859 gp_33 g_10 g_860) rfl rfl rfl (by decide +kernel) ⟨Nat.le_of_ble_eq_true rfl, Nat.le_of_ble_eq_true rfl⟩) hNz (ci := 8) (q0 := 2) rfl rfl hA hP hD hS hK [2, 5] [0, 1, 3, 4] [4] rfl rfl rfl rfl (by decide) rfl rfl rfl rfl hl.1 (Nat.le_of_ble_eq_true rfl) ⟨Nat.zero_le _, Nat.zero_le _⟩ d_Md_toPlaces_161 (fun H locs hP hD hS => ?_)
            have hP : va_P (dC, dI) x_cl [(a_t_points, .inl (c_t_points, n_t_points, .inl e_t_points_15)), (a_t_limbs, .inl (c_t_limbs, n_t_limbs, .inl e_t_limbs_8)), (a_t_digits, .inl (c_t_digits, n_t_digits, .inl e_t_digits_13)), (a_t_counts, .inl (c_t_counts, n_t_counts, .inl e_t_counts_14)), (a_t, .inr (8, [.int s_t_thrown, .int s_t_length, .ref a_t_text, .int s_t_place, .ref a_t_digits, .ref a_t_counts, .ref a_t_points, .ref a_t_limbs, .int s_t_limbCount_4, .int s_t_rows, .int s_t_columns, .ref a_t_cells, .int s_t_laid, .ref a_t_lines, .int s_t_size_30, .ref a_t_draft])), (a_t_draft, .inl (c_t_draft, n_t_draft, .inl e_t_draft_31))] H := hP
            have hD : va_D A [(a_t_points, .inl (c_t_points, n_t_points, .inl e_t_points_15)), (a_t_limbs, .inl (c_t_limbs, n_t_limbs, .inl e_t_limbs_8)), (a_t_digits, .inl (c_t_digits, n_t_digits, .inl e_t_digits_13)), (a_t_counts, .inl (c_t_counts, n_t_counts, .inl e_t_counts_14)), (a_t, .inr (8, [.int s_t_thrown, .int s_t_length, .ref a_t_text, .int s_t_place, .ref a_t_digits, .ref a_t_counts, .ref a_t_points, .ref a_t_limbs, .int s_t_limbCount_4, .int s_t_rows, .int s_t_columns, .ref a_t_cells, .int s_t_laid, .ref a_t_lines, .int s_t_size_30, .ref a_t_draft])), (a_t_draft, .inl (c_t_draft, n_t_draft, .inl e_t_draft_31))] := hD
            refine lv_aload_n hx hb d_Md_toPlaces_164 rfl (lv_at hl 0 rfl) ?_
            refine va_get (D := (dC, dI)) (ci := 8) (v := .ref a_t_points) (C := R_Md) (T := T_Md) (N := 16) hx hb hts in_Md hown hK hP 4 rfl rfl 6 (by decide) (hts _ g_712) (fun _ h9 => h9) rfl d_Md_toPlaces_165 ?_
            refine lv_iconst (v := 3) hx hb d_Md_toPlaces_168 (by decide) ?_
            replace h := xg h
            obtain ⟨hg_33, h⟩ := h
            refine va_iald hx hb hK hP 0 2 rfl rfl hg_33 d_Md_toPlaces_169 ?_
            refine lv_iload_n hx hb d_Md_toPlaces_170 rfl (lv_at hl 1 rfl) ?_
            replace h := xob_s h
            obtain ⟨z_34, hj_35, h⟩ := h
            try dsimp only at h
            have hJ_36 : ∀ (H : Heap) (locs : List Loc) (ls : Array Slot), va_P (dC, dI) x_cl [(a_t, .inr (8, [.int s_t_thrown, .int s_t_length, .ref a_t_text, .int s_t_place, .ref a_t_digits, .ref a_t_counts, .ref a_t_points, .ref a_t_limbs, .int s_t_limbCount_4, .int s_t_rows, .int s_t_columns, .ref a_t_cells, .int s_t_laid, .ref a_t_lines, .int s_t_size_30, .ref a_t_draft])), (a_t_digits, .inl (c_t_digits, n_t_digits, .inl e_t_digits_13)), (a_t_counts, .inl (c_t_counts, n_t_counts, .inl e_t_counts_14)), (a_t_points, .inl (c_t_points, n_t_points, .inl e_t_points_15)), (a_t_limbs, .inl (c_t_limbs, n_t_limbs, .inl e_t_limbs_8)), (a_t_draft, .inl (c_t_draft, n_t_draft, .inl e_t_draft_31))] H → va_D A [(a_t, .inr (8, [.int s_t_thrown, .int s_t_length, .ref a_t_text, .int s_t_place, .ref a_t_digits, .ref a_t_counts, .ref a_t_points, .ref a_t_limbs, .int s_t_limbCount_4, .int s_t_rows, .int s_t_columns, .ref a_t_cells, .int s_t_laid, .ref a_t_lines, .int s_t_size_30, .ref a_t_draft])), (a_t_digits, .inl (c_t_digits, n_t_digits, .inl e_t_digits_13)), (a_t_counts, .inl (c_t_counts, n_t_counts, .inl e_t_counts_14)), (a_t_points, .inl (c_t_points, n_t_points, .inl e_t_points_15)), (a_t_limbs, .inl (c_t_limbs, n_t_limbs, .inl e_t_limbs_8)), (a_t_draft, .inl (c_t_draft, n_t_draft, .inl e_t_draft_31))] → va_S A s.heap H locs → lv_has ls 7 [(0, .ref a_t), (3, .int x3), (5, .int z_19)] → W p l e rm_Md_toPlaces s m args below meth c H locs 0 0 Q (F0 m 186 ls [.int z_34]) := by
              intro H locs ls hP hD hS hl
              refine lv_istore (lv' := [(6, .int z_34), (0, .ref a_t), (3, .int x3), (5, .int z_19)]) hx hb d_Md_toPlaces_186 hl (by decide) rfl (fun ls hl => ?_)
              refine lv_aload_n hx hb d_Md_toPlaces_188 rfl (lv_at hl 1 rfl) ?_
              refine lv_iload hx hb d_Md_toPlaces_189 (lv_at hl 0 rfl) ?_
              replace h := xob_s h
              obtain ⟨⟨s_t_size_37, e_t_draft_38⟩, hc_39, h⟩ := h
              try dsimp only at h
              refine xcV (As := [.int z_34]) (rest := []) (st1 := []) (wr := [(a_t_digits, .inl (c_t_digits, n_t_digits, .inl e_t_digits_13)), (a_t_counts, .inl (c_t_counts, n_t_counts, .inl e_t_counts_14)), (a_t_points, .inl (c_t_points, n_t_points, .inl e_t_points_15)), (a_t_limbs, .inl (c_t_limbs, n_t_limbs, .inl e_t_limbs_8))]) ⟨hx, hb, hml, hown, hts⟩ (c_Md_putZeros l dC dI a_t a_t_text a_t_digits a_t_counts a_t_points a_t_limbs a_t_cells a_t_lines a_t_draft c_t_draft n_t_draft s_t_thrown s_t_length s_t_place s_t_limbCount_4 s_t_rows s_t_columns s_t_laid s_t_size_30 e_t_draft_31 z_34 s_t_size_37 e_t_draft_38 hc_39) (cwV 1 hts (xgoodV g_896 g_898 gp_42 g_10 g_899) rfl rfl rfl (by decide +kernel) ⟨Nat.le_of_ble_eq_true rfl, Nat.le_of_ble_eq_true rfl⟩) hNz (ci := 8) (q0 := 0) rfl rfl hA hP hD hS hK [0, 5] [1, 2, 3, 4] [4] rfl rfl rfl rfl (by decide) rfl rfl rfl rfl hl.1 (Nat.le_of_ble_eq_true rfl) ⟨Nat.zero_le _, Nat.zero_le _⟩ d_Md_toPlaces_191 (fun H locs hP hD hS => ?_)
              have hP : va_P (dC, dI) x_cl [(a_t_digits, .inl (c_t_digits, n_t_digits, .inl e_t_digits_13)), (a_t_counts, .inl (c_t_counts, n_t_counts, .inl e_t_counts_14)), (a_t_points, .inl (c_t_points, n_t_points, .inl e_t_points_15)), (a_t_limbs, .inl (c_t_limbs, n_t_limbs, .inl e_t_limbs_8)), (a_t, .inr (8, [.int s_t_thrown, .int s_t_length, .ref a_t_text, .int s_t_place, .ref a_t_digits, .ref a_t_counts, .ref a_t_points, .ref a_t_limbs, .int s_t_limbCount_4, .int s_t_rows, .int s_t_columns, .ref a_t_cells, .int s_t_laid, .ref a_t_lines, .int s_t_size_37, .ref a_t_draft])), (a_t_draft, .inl (c_t_draft, n_t_draft, .inl e_t_draft_38))] H := hP
              have hD : va_D A [(a_t_digits, .inl (c_t_digits, n_t_digits, .inl e_t_digits_13)), (a_t_counts, .inl (c_t_counts, n_t_counts, .inl e_t_counts_14)), (a_t_points, .inl (c_t_points, n_t_points, .inl e_t_points_15)), (a_t_limbs, .inl (c_t_limbs, n_t_limbs, .inl e_t_limbs_8)), (a_t, .inr (8, [.int s_t_thrown, .int s_t_length, .ref a_t_text, .int s_t_place, .ref a_t_digits, .ref a_t_counts, .ref a_t_points, .ref a_t_limbs, .int s_t_limbCount_4, .int s_t_rows, .int s_t_columns, .ref a_t_cells, .int s_t_laid, .ref a_t_lines, .int s_t_size_37, .ref a_t_draft])), (a_t_draft, .inl (c_t_draft, n_t_draft, .inl e_t_draft_38))] := hD
              refine lv_aload_n hx hb d_Md_toPlaces_194 rfl (lv_at hl 1 rfl) ?_
              refine lv_iconst (v := 3) hx hb d_Md_toPlaces_195 (by decide) ?_
              refine lv_iload hx hb d_Md_toPlaces_196 (lv_at hl 3 rfl) ?_
              refine lv_iload hx hb d_Md_toPlaces_198 (lv_at hl 3 rfl) ?_
              refine lv_iload_n hx hb d_Md_toPlaces_200 rfl (lv_at hl 2 rfl) ?_
              refine lv_iadd hx hb d_Md_toPlaces_201 ?_
              refine lv_iload hx hb d_Md_toPlaces_202 (lv_at hl 0 rfl) ?_
              refine lv_isub hx hb d_Md_toPlaces_204 ?_
              replace h := xob_s h
              obtain ⟨⟨s_t_size_40, e_t_draft_41⟩, hc_42, h⟩ := h
              try dsimp only at h
              refine xcV (As := [.int (3 : Int32), .int z_19, .int ((z_19 + x3) - z_34)]) (rest := []) (st1 := []) (wr := [(a_t_points, .inl (c_t_points, n_t_points, .inl e_t_points_15)), (a_t_limbs, .inl (c_t_limbs, n_t_limbs, .inl e_t_limbs_8))]) ⟨hx, hb, hml, hown, hts⟩ (c_Md_putDigits l dC dI a_t a_t_text a_t_digits a_t_counts a_t_points a_t_limbs a_t_cells a_t_lines a_t_draft c_t_digits c_t_counts c_t_draft n_t_digits n_t_counts n_t_draft s_t_thrown s_t_length s_t_place s_t_limbCount_4 s_t_rows s_t_columns s_t_laid s_t_size_37 e_t_digits_13 e_t_counts_14 e_t_draft_38 (3 : Int32) z_19 ((z_19 + x3) - z_34) s_t_size_40 e_t_draft_41 hc_42) (cwV 3 hts (xgoodV g_892 g_894 gp_41 g_10 g_895) rfl rfl rfl (by decide +kernel) ⟨Nat.le_of_ble_eq_true rfl, Nat.le_of_ble_eq_true rfl⟩) hNz (ci := 8) (q0 := 4) rfl rfl hA hP hD hS hK [4, 0, 1, 5] [2, 3] [0, 1, 4] rfl rfl rfl rfl (by decide) rfl rfl rfl rfl hl.1 (Nat.le_of_ble_eq_true rfl) ⟨Nat.zero_le _, Nat.zero_le _⟩ d_Md_toPlaces_205 (fun H locs hP hD hS => ?_)
              have hP : va_P (dC, dI) x_cl [(a_t_points, .inl (c_t_points, n_t_points, .inl e_t_points_15)), (a_t_limbs, .inl (c_t_limbs, n_t_limbs, .inl e_t_limbs_8)), (a_t, .inr (8, [.int s_t_thrown, .int s_t_length, .ref a_t_text, .int s_t_place, .ref a_t_digits, .ref a_t_counts, .ref a_t_points, .ref a_t_limbs, .int s_t_limbCount_4, .int s_t_rows, .int s_t_columns, .ref a_t_cells, .int s_t_laid, .ref a_t_lines, .int s_t_size_40, .ref a_t_draft])), (a_t_digits, .inl (c_t_digits, n_t_digits, .inl e_t_digits_13)), (a_t_counts, .inl (c_t_counts, n_t_counts, .inl e_t_counts_14)), (a_t_draft, .inl (c_t_draft, n_t_draft, .inl e_t_draft_41))] H := hP
              have hD : va_D A [(a_t_points, .inl (c_t_points, n_t_points, .inl e_t_points_15)), (a_t_limbs, .inl (c_t_limbs, n_t_limbs, .inl e_t_limbs_8)), (a_t, .inr (8, [.int s_t_thrown, .int s_t_length, .ref a_t_text, .int s_t_place, .ref a_t_digits, .ref a_t_counts, .ref a_t_points, .ref a_t_limbs, .int s_t_limbCount_4, .int s_t_rows, .int s_t_columns, .ref a_t_cells, .int s_t_laid, .ref a_t_lines, .int s_t_size_40, .ref a_t_draft])), (a_t_digits, .inl (c_t_digits, n_t_digits, .inl e_t_digits_13)), (a_t_counts, .inl (c_t_counts, n_t_counts, .inl e_t_counts_14)), (a_t_draft, .inl (c_t_draft, n_t_draft, .inl e_t_draft_41))] := hD
              replace h := Option.some.inj h
              replace h := Prod.mk.inj h
              obtain ⟨h1, h⟩ := h
              subst h1
              replace h := Prod.mk.inj h
              obtain ⟨h1, h⟩ := h
              subst h1
              replace h := Prod.mk.inj h
              obtain ⟨h1, h⟩ := h
              subst h1
              replace h := Prod.mk.inj h
              obtain ⟨h1, h⟩ := h
              subst h1
              replace h := Prod.mk.inj h
              obtain ⟨h1, h⟩ := h
              subst h1
              replace h := Prod.mk.inj h
              obtain ⟨h1, h⟩ := h
              subst h1
              subst h
              exact hret _ _ (hP.sub [2, 3, 4, 0, 1, 5] rfl) (hD.sub [2, 3, 4, 0, 1, 5] (by decide) rfl) hS _ _ d_Md_toPlaces_208
            replace h := hj_35
            clear hj_35
            refine lv_icmp_ge (tgt := 185) hx hb d_Md_toPlaces_171 (by decide) (fun c_43 => ?_) (fun c_43 => ?_)
            · rw [if_pos c_43] at h
              refine lv_iconst (v := 0) hx hb d_Md_toPlaces_185 (by decide) ?_
              replace h := Option.some.inj h
              subst h
              exact hJ_36 _ _ _ (hP.sub [4, 2, 3, 0, 1, 5] rfl) (hD.sub [4, 2, 3, 0, 1, 5] (by decide) rfl) hS hl
            · rw [if_neg c_43] at h
              refine lv_iload_n hx hb d_Md_toPlaces_174 rfl (lv_at hl 1 rfl) ?_
              refine lv_aload_n hx hb d_Md_toPlaces_175 rfl (lv_at hl 0 rfl) ?_
              refine va_get (D := (dC, dI)) (ci := 8) (v := .ref a_t_points) (C := R_Md) (T := T_Md) (N := 16) hx hb hts in_Md hown hK hP 4 rfl rfl 6 (by decide) (hts _ g_712) (fun _ h9 => h9) rfl d_Md_toPlaces_176 ?_
              refine lv_iconst (v := 3) hx hb d_Md_toPlaces_179 (by decide) ?_
              replace h := xg h
              obtain ⟨hg_44, h⟩ := h
              refine va_iald hx hb hK hP 0 2 rfl rfl hg_44 d_Md_toPlaces_180 ?_
              refine lv_isub hx hb d_Md_toPlaces_181 ?_
              refine lv_goto (tgt := 186) hx hb d_Md_toPlaces_182 (by decide) ?_
              replace h := Option.some.inj h
              subst h
              exact hJ_36 _ _ _ (hP.sub [4, 2, 3, 0, 1, 5] rfl) (hD.sub [4, 2, 3, 0, 1, 5] (by decide) rfl) hS hl
        replace h := hj_24
        clear hj_24
        refine lv_if_ne (tgt := 146) hx hb d_Md_toPlaces_137 (by decide) (fun c_45 => ?_) (fun c_45 => ?_)
        · rw [if_neg c_45] at h
          replace h := Option.some.inj h
          replace h := Prod.mk.inj h
          obtain ⟨h1, h⟩ := h
          subst h1
          subst h
          exact hJ_25 _ _ _ hP hD hS (lv_sub hl [1, 2, 0] rfl)
        · rw [if_pos c_45] at h
          refine lv_aload_n hx hb d_Md_toPlaces_140 rfl (lv_at hl 1 rfl) ?_
          refine lv_bipush (v := 48) hx hb d_Md_toPlaces_141 (by decide) ?_
          replace h := xob_s h
          obtain ⟨⟨s_t_size_46, e_t_draft_47⟩, hc_48, h⟩ := h
          try dsimp only at h
          refine xcV (As := [.int (48 : Int32)]) (rest := []) (st1 := []) (wr := [(a_t_digits, .inl (c_t_digits, n_t_digits, .inl e_t_digits_13)), (a_t_counts, .inl (c_t_counts, n_t_counts, .inl e_t_counts_14)), (a_t_points, .inl (c_t_points, n_t_points, .inl e_t_points_15)), (a_t_limbs, .inl (c_t_limbs, n_t_limbs, .inl e_t_limbs_8))]) ⟨hx, hb, hml, hown, hts⟩ (c_Md_put l dC dI a_t a_t_text a_t_digits a_t_counts a_t_points a_t_limbs a_t_cells a_t_lines a_t_draft c_t_draft n_t_draft s_t_thrown s_t_length s_t_place s_t_limbCount_4 s_t_rows s_t_columns s_t_laid s_t_size e_t_draft (48 : Int32) s_t_size_46 e_t_draft_47 hc_48) (cwV 1 hts (xgoodV g_857 g_859 gp_33 g_10 g_860) rfl rfl rfl (by decide +kernel) ⟨Nat.le_of_ble_eq_true rfl, Nat.le_of_ble_eq_true rfl⟩) hNz (ci := 8) (q0 := 0) rfl rfl hA hP hD hS hK [0, 5] [1, 2, 3, 4] [4] rfl rfl rfl rfl (by decide) rfl rfl rfl rfl hl.1 (Nat.le_of_ble_eq_true rfl) ⟨Nat.zero_le _, Nat.zero_le _⟩ d_Md_toPlaces_143 (fun H locs hP hD hS => ?_)
          have hP : va_P (dC, dI) x_cl [(a_t_digits, .inl (c_t_digits, n_t_digits, .inl e_t_digits_13)), (a_t_counts, .inl (c_t_counts, n_t_counts, .inl e_t_counts_14)), (a_t_points, .inl (c_t_points, n_t_points, .inl e_t_points_15)), (a_t_limbs, .inl (c_t_limbs, n_t_limbs, .inl e_t_limbs_8)), (a_t, .inr (8, [.int s_t_thrown, .int s_t_length, .ref a_t_text, .int s_t_place, .ref a_t_digits, .ref a_t_counts, .ref a_t_points, .ref a_t_limbs, .int s_t_limbCount_4, .int s_t_rows, .int s_t_columns, .ref a_t_cells, .int s_t_laid, .ref a_t_lines, .int s_t_size_46, .ref a_t_draft])), (a_t_draft, .inl (c_t_draft, n_t_draft, .inl e_t_draft_47))] H := hP
          have hD : va_D A [(a_t_digits, .inl (c_t_digits, n_t_digits, .inl e_t_digits_13)), (a_t_counts, .inl (c_t_counts, n_t_counts, .inl e_t_counts_14)), (a_t_points, .inl (c_t_points, n_t_points, .inl e_t_points_15)), (a_t_limbs, .inl (c_t_limbs, n_t_limbs, .inl e_t_limbs_8)), (a_t, .inr (8, [.int s_t_thrown, .int s_t_length, .ref a_t_text, .int s_t_place, .ref a_t_digits, .ref a_t_counts, .ref a_t_points, .ref a_t_limbs, .int s_t_limbCount_4, .int s_t_rows, .int s_t_columns, .ref a_t_cells, .int s_t_laid, .ref a_t_lines, .int s_t_size_46, .ref a_t_draft])), (a_t_draft, .inl (c_t_draft, n_t_draft, .inl e_t_draft_47))] := hD
          replace h := Option.some.inj h
          replace h := Prod.mk.inj h
          obtain ⟨h1, h⟩ := h
          subst h1
          subst h
          exact hJ_25 _ _ _ (hP.sub [4, 0, 1, 2, 3, 5] rfl) (hD.sub [4, 0, 1, 2, 3, 5] (by decide) rfl) hS (lv_sub hl [1, 2, 0] rfl)
      replace h := hj_20
      clear hj_20
      refine lv_icmp_le (tgt := 132) hx hb d_Md_toPlaces_118 (by decide) (fun c_49 => ?_) (fun c_49 => ?_)
      · rw [if_pos c_49] at h
        refine lv_iconst (v := 0) hx hb d_Md_toPlaces_132 (by decide) ?_
        replace h := Option.some.inj h
        subst h
        exact hJ_21 _ _ _ hP hD hS hl
      · rw [if_neg c_49] at h
        refine lv_aload_n hx hb d_Md_toPlaces_121 rfl (lv_at hl 0 rfl) ?_
        refine va_get (D := (dC, dI)) (ci := 8) (v := .ref a_t_points) (C := R_Md) (T := T_Md) (N := 16) hx hb hts in_Md hown hK hP 0 rfl rfl 6 (by decide) (hts _ g_712) (fun _ h9 => h9) rfl d_Md_toPlaces_122 ?_
        refine lv_iconst (v := 3) hx hb d_Md_toPlaces_125 (by decide) ?_
        replace h := xg h
        obtain ⟨hg_50, h⟩ := h
        refine va_iald hx hb hK hP 3 2 rfl rfl hg_50 d_Md_toPlaces_126 ?_
        refine lv_iload_n hx hb d_Md_toPlaces_127 rfl (lv_at hl 1 rfl) ?_
        refine lv_isub hx hb d_Md_toPlaces_128 ?_
        refine lv_goto (tgt := 133) hx hb d_Md_toPlaces_129 (by decide) ?_
        replace h := Option.some.inj h
        subst h
        exact hJ_21 _ _ _ hP hD hS hl
    replace h := hj_16
    clear hj_16
    refine lv_if_ne (tgt := 84) hx hb d_Md_toPlaces_46 (by decide) (fun c_51 => ?_) (fun c_51 => ?_)
    · rw [if_neg c_51] at h
      refine lv_iload hx hb d_Md_toPlaces_84 (lv_at hl 2 rfl) ?_
      refine lv_if_le (tgt := 111) hx hb d_Md_toPlaces_86 (by decide) (fun c_52 => ?_) (fun c_52 => ?_)
      · rw [if_pos c_52] at h
        replace h := Option.some.inj h
        replace h := Prod.mk.inj h
        obtain ⟨h1, h⟩ := h
        subst h1
        replace h := Prod.mk.inj h
        obtain ⟨h1, h⟩ := h
        subst h1
        subst h
        exact hJ_17 _ _ _ hP hD hS (lv_sub hl [0, 1] rfl)
      · rw [if_neg c_52] at h
        refine lv_aload_n hx hb d_Md_toPlaces_89 rfl (lv_at hl 0 rfl) ?_
        refine lv_iconst (v := 0) hx hb d_Md_toPlaces_90 (by decide) ?_
        refine lv_iconst (v := 3) hx hb d_Md_toPlaces_91 (by decide) ?_
        refine lv_iload hx hb d_Md_toPlaces_92 (lv_at hl 2 rfl) ?_
        replace h := xob_s h
        obtain ⟨⟨e_t_digits_53, e_t_counts_54, e_t_points_55⟩, hc_56, h⟩ := h
        try dsimp only at h
        refine xcV (As := [.int (0 : Int32), .int (3 : Int32), .int x4_3]) (rest := []) (st1 := []) (wr := [(a_t_limbs, .inl (c_t_limbs, n_t_limbs, .inl e_t_limbs_8)), (a_t_draft, .inl (c_t_draft, n_t_draft, .inl e_t_draft))]) ⟨hx, hb, hml, hown, hts⟩ (c_Md_round l dC dI a_t a_t_text a_t_digits a_t_counts a_t_points a_t_limbs a_t_cells a_t_lines a_t_draft c_t_digits c_t_counts c_t_points n_t_digits n_t_counts n_t_points s_t_thrown s_t_length s_t_place s_t_limbCount_4 s_t_rows s_t_columns s_t_laid s_t_size e_t_digits_5 (upd e_t_counts_6 (3 : Int32).toNatClampNeg (0 : Int32)) (upd e_t_points_7 (3 : Int32).toNatClampNeg (0 : Int32)) (0 : Int32) (3 : Int32) x4_3 e_t_digits_53 e_t_counts_54 e_t_points_55 hc_56) (cwV 3 hts (xgoodV g_908 g_910 gp_44 g_10 g_911) rfl rfl rfl (by decide +kernel) ⟨Nat.le_of_ble_eq_true rfl, Nat.le_of_ble_eq_true rfl⟩) hNz (ci := 8) (q0 := 0) rfl rfl hA hP hD hS hK [0, 1, 2, 3] [4, 5] [0, 1, 2] rfl rfl rfl rfl (by decide) rfl rfl rfl rfl hl.1 (Nat.le_of_ble_eq_true rfl) ⟨Nat.zero_le _, Nat.zero_le _⟩ d_Md_toPlaces_94 (fun H locs hP hD hS => ?_)
        have hP : va_P (dC, dI) x_cl [(a_t_limbs, .inl (c_t_limbs, n_t_limbs, .inl e_t_limbs_8)), (a_t_draft, .inl (c_t_draft, n_t_draft, .inl e_t_draft)), (a_t, .inr (8, [.int s_t_thrown, .int s_t_length, .ref a_t_text, .int s_t_place, .ref a_t_digits, .ref a_t_counts, .ref a_t_points, .ref a_t_limbs, .int s_t_limbCount_4, .int s_t_rows, .int s_t_columns, .ref a_t_cells, .int s_t_laid, .ref a_t_lines, .int s_t_size, .ref a_t_draft])), (a_t_digits, .inl (c_t_digits, n_t_digits, .inl e_t_digits_53)), (a_t_counts, .inl (c_t_counts, n_t_counts, .inl e_t_counts_54)), (a_t_points, .inl (c_t_points, n_t_points, .inl e_t_points_55))] H := hP
        have hD : va_D A [(a_t_limbs, .inl (c_t_limbs, n_t_limbs, .inl e_t_limbs_8)), (a_t_draft, .inl (c_t_draft, n_t_draft, .inl e_t_draft)), (a_t, .inr (8, [.int s_t_thrown, .int s_t_length, .ref a_t_text, .int s_t_place, .ref a_t_digits, .ref a_t_counts, .ref a_t_points, .ref a_t_limbs, .int s_t_limbCount_4, .int s_t_rows, .int s_t_columns, .ref a_t_cells, .int s_t_laid, .ref a_t_lines, .int s_t_size, .ref a_t_draft])), (a_t_digits, .inl (c_t_digits, n_t_digits, .inl e_t_digits_53)), (a_t_counts, .inl (c_t_counts, n_t_counts, .inl e_t_counts_54)), (a_t_points, .inl (c_t_points, n_t_points, .inl e_t_points_55))] := hD
        refine lv_aload_n hx hb d_Md_toPlaces_97 rfl (lv_at hl 0 rfl) ?_
        refine va_get (D := (dC, dI)) (ci := 8) (v := .ref a_t_points) (C := R_Md) (T := T_Md) (N := 16) hx hb hts in_Md hown hK hP 2 rfl rfl 6 (by decide) (hts _ g_712) (fun _ h9 => h9) rfl d_Md_toPlaces_98 ?_
        refine lv_iconst (v := 3) hx hb d_Md_toPlaces_101 (by decide) ?_
        refine lv_aload_n hx hb d_Md_toPlaces_102 rfl (lv_at hl 0 rfl) ?_
        refine va_get (D := (dC, dI)) (ci := 8) (v := .ref a_t_points) (C := R_Md) (T := T_Md) (N := 16) hx hb hts in_Md hown hK hP 2 rfl rfl 6 (by decide) (hts _ g_712) (fun _ h9 => h9) rfl d_Md_toPlaces_103 ?_
        refine lv_iconst (v := 3) hx hb d_Md_toPlaces_106 (by decide) ?_
        replace h := xg h
        obtain ⟨hg_57, h⟩ := h
        refine va_iald hx hb hK hP 5 2 rfl rfl hg_57 d_Md_toPlaces_107 ?_
        refine lv_iload_n hx hb d_Md_toPlaces_108 rfl (lv_at hl 1 rfl) ?_
        refine lv_iadd hx hb d_Md_toPlaces_109 ?_
        replace h := xg h
        obtain ⟨hg_58, h⟩ := h
        refine va_iast hx hb hK hP hD hS 5 2 rfl rfl hg_58 d_Md_toPlaces_110 (fun H locs hP hD hS => ?_)
        have hP : va_P (dC, dI) x_cl [(a_t_limbs, .inl (c_t_limbs, n_t_limbs, .inl e_t_limbs_8)), (a_t_draft, .inl (c_t_draft, n_t_draft, .inl e_t_draft)), (a_t, .inr (8, [.int s_t_thrown, .int s_t_length, .ref a_t_text, .int s_t_place, .ref a_t_digits, .ref a_t_counts, .ref a_t_points, .ref a_t_limbs, .int s_t_limbCount_4, .int s_t_rows, .int s_t_columns, .ref a_t_cells, .int s_t_laid, .ref a_t_lines, .int s_t_size, .ref a_t_draft])), (a_t_digits, .inl (c_t_digits, n_t_digits, .inl e_t_digits_53)), (a_t_counts, .inl (c_t_counts, n_t_counts, .inl e_t_counts_54)), (a_t_points, .inl (c_t_points, n_t_points, .inl ((upd e_t_points_55 (3 : Int32).toNatClampNeg ((e_t_points_55 (3 : Int32).toNatClampNeg) + x3)))))] H := hP
        have hD : va_D A [(a_t_limbs, .inl (c_t_limbs, n_t_limbs, .inl e_t_limbs_8)), (a_t_draft, .inl (c_t_draft, n_t_draft, .inl e_t_draft)), (a_t, .inr (8, [.int s_t_thrown, .int s_t_length, .ref a_t_text, .int s_t_place, .ref a_t_digits, .ref a_t_counts, .ref a_t_points, .ref a_t_limbs, .int s_t_limbCount_4, .int s_t_rows, .int s_t_columns, .ref a_t_cells, .int s_t_laid, .ref a_t_lines, .int s_t_size, .ref a_t_draft])), (a_t_digits, .inl (c_t_digits, n_t_digits, .inl e_t_digits_53)), (a_t_counts, .inl (c_t_counts, n_t_counts, .inl e_t_counts_54)), (a_t_points, .inl (c_t_points, n_t_points, .inl ((upd e_t_points_55 (3 : Int32).toNatClampNeg ((e_t_points_55 (3 : Int32).toNatClampNeg) + x3)))))] := hD
        replace h := Option.some.inj h
        replace h := Prod.mk.inj h
        obtain ⟨h1, h⟩ := h
        subst h1
        replace h := Prod.mk.inj h
        obtain ⟨h1, h⟩ := h
        subst h1
        subst h
        exact hJ_17 _ _ _ (hP.sub [2, 3, 4, 5, 0, 1] rfl) (hD.sub [2, 3, 4, 5, 0, 1] (by decide) rfl) hS (lv_sub hl [0, 1] rfl)
    · rw [if_pos c_51] at h
      refine lv_aload_n hx hb d_Md_toPlaces_49 rfl (lv_at hl 0 rfl) ?_
      refine lv_iconst (v := 0) hx hb d_Md_toPlaces_50 (by decide) ?_
      refine lv_iconst (v := 0) hx hb d_Md_toPlaces_51 (by decide) ?_
      replace h := xob_s h
      obtain ⟨r_59, hc_60, h⟩ := h
      try dsimp only at h
      refine xcV (As := [.int (0 : Int32), .int (0 : Int32)]) (rest := []) (st1 := [.int r_59]) (wr := [(a_t_points, .inl (c_t_points, n_t_points, .inl ((upd e_t_points_7 (3 : Int32).toNatClampNeg (0 : Int32))))), (a_t_limbs, .inl (c_t_limbs, n_t_limbs, .inl e_t_limbs_8)), (a_t_draft, .inl (c_t_draft, n_t_draft, .inl e_t_draft))]) ⟨hx, hb, hml, hown, hts⟩ (c_Md_rest l dC dI a_t a_t_text a_t_digits a_t_counts a_t_points a_t_limbs a_t_cells a_t_lines a_t_draft c_t_digits c_t_counts n_t_digits n_t_counts s_t_thrown s_t_length s_t_place s_t_limbCount_4 s_t_rows s_t_columns s_t_laid s_t_size e_t_digits_5 (upd e_t_counts_6 (3 : Int32).toNatClampNeg (0 : Int32)) (0 : Int32) (0 : Int32) r_59 hc_60) (cwV 2 hts (xgoodV g_876 g_878 gp_37 g_10 g_879) rfl rfl rfl (by decide +kernel) ⟨Nat.le_of_ble_eq_true rfl, Nat.le_of_ble_eq_true rfl⟩) hNz (ci := 8) (q0 := 0) rfl rfl hA hP hD hS hK [0, 1, 2] [3, 4, 5] [0, 1] rfl rfl rfl rfl (by decide) rfl rfl rfl rfl hl.1 (Nat.le_of_ble_eq_true rfl) ⟨Nat.zero_le _, Nat.zero_le _⟩ d_Md_toPlaces_52 (fun H locs hP hD hS => ?_)
      have hP : va_P (dC, dI) x_cl [(a_t_points, .inl (c_t_points, n_t_points, .inl ((upd e_t_points_7 (3 : Int32).toNatClampNeg (0 : Int32))))), (a_t_limbs, .inl (c_t_limbs, n_t_limbs, .inl e_t_limbs_8)), (a_t_draft, .inl (c_t_draft, n_t_draft, .inl e_t_draft)), (a_t, .inr (8, [.int s_t_thrown, .int s_t_length, .ref a_t_text, .int s_t_place, .ref a_t_digits, .ref a_t_counts, .ref a_t_points, .ref a_t_limbs, .int s_t_limbCount_4, .int s_t_rows, .int s_t_columns, .ref a_t_cells, .int s_t_laid, .ref a_t_lines, .int s_t_size, .ref a_t_draft])), (a_t_digits, .inl (c_t_digits, n_t_digits, .inl e_t_digits_5)), (a_t_counts, .inl (c_t_counts, n_t_counts, .inl ((upd e_t_counts_6 (3 : Int32).toNatClampNeg (0 : Int32)))))] H := hP
      have hD : va_D A [(a_t_points, .inl (c_t_points, n_t_points, .inl ((upd e_t_points_7 (3 : Int32).toNatClampNeg (0 : Int32))))), (a_t_limbs, .inl (c_t_limbs, n_t_limbs, .inl e_t_limbs_8)), (a_t_draft, .inl (c_t_draft, n_t_draft, .inl e_t_draft)), (a_t, .inr (8, [.int s_t_thrown, .int s_t_length, .ref a_t_text, .int s_t_place, .ref a_t_digits, .ref a_t_counts, .ref a_t_points, .ref a_t_limbs, .int s_t_limbCount_4, .int s_t_rows, .int s_t_columns, .ref a_t_cells, .int s_t_laid, .ref a_t_lines, .int s_t_size, .ref a_t_draft])), (a_t_digits, .inl (c_t_digits, n_t_digits, .inl e_t_digits_5)), (a_t_counts, .inl (c_t_counts, n_t_counts, .inl ((upd e_t_counts_6 (3 : Int32).toNatClampNeg (0 : Int32)))))] := hD
      refine lv_if_le (tgt := 84) hx hb d_Md_toPlaces_55 (by decide) (fun c_61 => ?_) (fun c_61 => ?_)
      · rw [if_pos c_61] at h
        refine lv_iload hx hb d_Md_toPlaces_84 (lv_at hl 2 rfl) ?_
        refine lv_if_le (tgt := 111) hx hb d_Md_toPlaces_86 (by decide) (fun c_62 => ?_) (fun c_62 => ?_)
        · rw [if_pos c_62] at h
          replace h := Option.some.inj h
          replace h := Prod.mk.inj h
          obtain ⟨h1, h⟩ := h
          subst h1
          replace h := Prod.mk.inj h
          obtain ⟨h1, h⟩ := h
          subst h1
          subst h
          exact hJ_17 _ _ _ (hP.sub [3, 4, 5, 0, 1, 2] rfl) (hD.sub [3, 4, 5, 0, 1, 2] (by decide) rfl) hS (lv_sub hl [0, 1] rfl)
        · rw [if_neg c_62] at h
          refine lv_aload_n hx hb d_Md_toPlaces_89 rfl (lv_at hl 0 rfl) ?_
          refine lv_iconst (v := 0) hx hb d_Md_toPlaces_90 (by decide) ?_
          refine lv_iconst (v := 3) hx hb d_Md_toPlaces_91 (by decide) ?_
          refine lv_iload hx hb d_Md_toPlaces_92 (lv_at hl 2 rfl) ?_
          replace h := xob_s h
          obtain ⟨⟨e_t_digits_63, e_t_counts_64, e_t_points_65⟩, hc_66, h⟩ := h
          try dsimp only at h
          refine xcV (As := [.int (0 : Int32), .int (3 : Int32), .int x4_3]) (rest := []) (st1 := []) (wr := [(a_t_limbs, .inl (c_t_limbs, n_t_limbs, .inl e_t_limbs_8)), (a_t_draft, .inl (c_t_draft, n_t_draft, .inl e_t_draft))]) ⟨hx, hb, hml, hown, hts⟩ (c_Md_round l dC dI a_t a_t_text a_t_digits a_t_counts a_t_points a_t_limbs a_t_cells a_t_lines a_t_draft c_t_digits c_t_counts c_t_points n_t_digits n_t_counts n_t_points s_t_thrown s_t_length s_t_place s_t_limbCount_4 s_t_rows s_t_columns s_t_laid s_t_size e_t_digits_5 (upd e_t_counts_6 (3 : Int32).toNatClampNeg (0 : Int32)) (upd e_t_points_7 (3 : Int32).toNatClampNeg (0 : Int32)) (0 : Int32) (3 : Int32) x4_3 e_t_digits_63 e_t_counts_64 e_t_points_65 hc_66) (cwV 3 hts (xgoodV g_908 g_910 gp_44 g_10 g_911) rfl rfl rfl (by decide +kernel) ⟨Nat.le_of_ble_eq_true rfl, Nat.le_of_ble_eq_true rfl⟩) hNz (ci := 8) (q0 := 3) rfl rfl hA hP hD hS hK [3, 4, 5, 0] [1, 2] [0, 1, 2] rfl rfl rfl rfl (by decide) rfl rfl rfl rfl hl.1 (Nat.le_of_ble_eq_true rfl) ⟨Nat.zero_le _, Nat.zero_le _⟩ d_Md_toPlaces_94 (fun H locs hP hD hS => ?_)
          have hP : va_P (dC, dI) x_cl [(a_t_limbs, .inl (c_t_limbs, n_t_limbs, .inl e_t_limbs_8)), (a_t_draft, .inl (c_t_draft, n_t_draft, .inl e_t_draft)), (a_t, .inr (8, [.int s_t_thrown, .int s_t_length, .ref a_t_text, .int s_t_place, .ref a_t_digits, .ref a_t_counts, .ref a_t_points, .ref a_t_limbs, .int s_t_limbCount_4, .int s_t_rows, .int s_t_columns, .ref a_t_cells, .int s_t_laid, .ref a_t_lines, .int s_t_size, .ref a_t_draft])), (a_t_digits, .inl (c_t_digits, n_t_digits, .inl e_t_digits_63)), (a_t_counts, .inl (c_t_counts, n_t_counts, .inl e_t_counts_64)), (a_t_points, .inl (c_t_points, n_t_points, .inl e_t_points_65))] H := hP
          have hD : va_D A [(a_t_limbs, .inl (c_t_limbs, n_t_limbs, .inl e_t_limbs_8)), (a_t_draft, .inl (c_t_draft, n_t_draft, .inl e_t_draft)), (a_t, .inr (8, [.int s_t_thrown, .int s_t_length, .ref a_t_text, .int s_t_place, .ref a_t_digits, .ref a_t_counts, .ref a_t_points, .ref a_t_limbs, .int s_t_limbCount_4, .int s_t_rows, .int s_t_columns, .ref a_t_cells, .int s_t_laid, .ref a_t_lines, .int s_t_size, .ref a_t_draft])), (a_t_digits, .inl (c_t_digits, n_t_digits, .inl e_t_digits_63)), (a_t_counts, .inl (c_t_counts, n_t_counts, .inl e_t_counts_64)), (a_t_points, .inl (c_t_points, n_t_points, .inl e_t_points_65))] := hD
          refine lv_aload_n hx hb d_Md_toPlaces_97 rfl (lv_at hl 0 rfl) ?_
          refine va_get (D := (dC, dI)) (ci := 8) (v := .ref a_t_points) (C := R_Md) (T := T_Md) (N := 16) hx hb hts in_Md hown hK hP 2 rfl rfl 6 (by decide) (hts _ g_712) (fun _ h9 => h9) rfl d_Md_toPlaces_98 ?_
          refine lv_iconst (v := 3) hx hb d_Md_toPlaces_101 (by decide) ?_
          refine lv_aload_n hx hb d_Md_toPlaces_102 rfl (lv_at hl 0 rfl) ?_
          refine va_get (D := (dC, dI)) (ci := 8) (v := .ref a_t_points) (C := R_Md) (T := T_Md) (N := 16) hx hb hts in_Md hown hK hP 2 rfl rfl 6 (by decide) (hts _ g_712) (fun _ h9 => h9) rfl d_Md_toPlaces_103 ?_
          refine lv_iconst (v := 3) hx hb d_Md_toPlaces_106 (by decide) ?_
          replace h := xg h
          obtain ⟨hg_67, h⟩ := h
          refine va_iald hx hb hK hP 5 2 rfl rfl hg_67 d_Md_toPlaces_107 ?_
          refine lv_iload_n hx hb d_Md_toPlaces_108 rfl (lv_at hl 1 rfl) ?_
          refine lv_iadd hx hb d_Md_toPlaces_109 ?_
          replace h := xg h
          obtain ⟨hg_68, h⟩ := h
          refine va_iast hx hb hK hP hD hS 5 2 rfl rfl hg_68 d_Md_toPlaces_110 (fun H locs hP hD hS => ?_)
          have hP : va_P (dC, dI) x_cl [(a_t_limbs, .inl (c_t_limbs, n_t_limbs, .inl e_t_limbs_8)), (a_t_draft, .inl (c_t_draft, n_t_draft, .inl e_t_draft)), (a_t, .inr (8, [.int s_t_thrown, .int s_t_length, .ref a_t_text, .int s_t_place, .ref a_t_digits, .ref a_t_counts, .ref a_t_points, .ref a_t_limbs, .int s_t_limbCount_4, .int s_t_rows, .int s_t_columns, .ref a_t_cells, .int s_t_laid, .ref a_t_lines, .int s_t_size, .ref a_t_draft])), (a_t_digits, .inl (c_t_digits, n_t_digits, .inl e_t_digits_63)), (a_t_counts, .inl (c_t_counts, n_t_counts, .inl e_t_counts_64)), (a_t_points, .inl (c_t_points, n_t_points, .inl ((upd e_t_points_65 (3 : Int32).toNatClampNeg ((e_t_points_65 (3 : Int32).toNatClampNeg) + x3)))))] H := hP
          have hD : va_D A [(a_t_limbs, .inl (c_t_limbs, n_t_limbs, .inl e_t_limbs_8)), (a_t_draft, .inl (c_t_draft, n_t_draft, .inl e_t_draft)), (a_t, .inr (8, [.int s_t_thrown, .int s_t_length, .ref a_t_text, .int s_t_place, .ref a_t_digits, .ref a_t_counts, .ref a_t_points, .ref a_t_limbs, .int s_t_limbCount_4, .int s_t_rows, .int s_t_columns, .ref a_t_cells, .int s_t_laid, .ref a_t_lines, .int s_t_size, .ref a_t_draft])), (a_t_digits, .inl (c_t_digits, n_t_digits, .inl e_t_digits_63)), (a_t_counts, .inl (c_t_counts, n_t_counts, .inl e_t_counts_64)), (a_t_points, .inl (c_t_points, n_t_points, .inl ((upd e_t_points_65 (3 : Int32).toNatClampNeg ((e_t_points_65 (3 : Int32).toNatClampNeg) + x3)))))] := hD
          replace h := Option.some.inj h
          replace h := Prod.mk.inj h
          obtain ⟨h1, h⟩ := h
          subst h1
          replace h := Prod.mk.inj h
          obtain ⟨h1, h⟩ := h
          subst h1
          subst h
          exact hJ_17 _ _ _ (hP.sub [2, 3, 4, 5, 0, 1] rfl) (hD.sub [2, 3, 4, 5, 0, 1] (by decide) rfl) hS (lv_sub hl [0, 1] rfl)
      · rw [if_neg c_61] at h
        refine lv_aload_n hx hb d_Md_toPlaces_58 rfl (lv_at hl 0 rfl) ?_
        refine va_get (D := (dC, dI)) (ci := 8) (v := .ref a_t_digits) (C := R_Md) (T := T_Md) (N := 16) hx hb hts in_Md hown hK hP 3 rfl rfl 4 (by decide) (hts _ g_710) (fun _ h9 => h9) rfl d_Md_toPlaces_59 ?_
        refine lv_sipush (v := 3900) hx hb d_Md_toPlaces_62 (by decide) ?_
        refine lv_iconst (v := 1) hx hb d_Md_toPlaces_65 (by decide) ?_
        replace h := xg h
        obtain ⟨hg_69, h⟩ := h
        refine va_iast hx hb hK hP hD hS 4 0 rfl rfl hg_69 d_Md_toPlaces_66 (fun H locs hP hD hS => ?_)
        have hP : va_P (dC, dI) x_cl [(a_t_points, .inl (c_t_points, n_t_points, .inl ((upd e_t_points_7 (3 : Int32).toNatClampNeg (0 : Int32))))), (a_t_limbs, .inl (c_t_limbs, n_t_limbs, .inl e_t_limbs_8)), (a_t_draft, .inl (c_t_draft, n_t_draft, .inl e_t_draft)), (a_t, .inr (8, [.int s_t_thrown, .int s_t_length, .ref a_t_text, .int s_t_place, .ref a_t_digits, .ref a_t_counts, .ref a_t_points, .ref a_t_limbs, .int s_t_limbCount_4, .int s_t_rows, .int s_t_columns, .ref a_t_cells, .int s_t_laid, .ref a_t_lines, .int s_t_size, .ref a_t_draft])), (a_t_digits, .inl (c_t_digits, n_t_digits, .inl ((upd e_t_digits_5 (3900 : Int32).toNatClampNeg (1 : Int32))))), (a_t_counts, .inl (c_t_counts, n_t_counts, .inl ((upd e_t_counts_6 (3 : Int32).toNatClampNeg (0 : Int32)))))] H := hP
        have hD : va_D A [(a_t_points, .inl (c_t_points, n_t_points, .inl ((upd e_t_points_7 (3 : Int32).toNatClampNeg (0 : Int32))))), (a_t_limbs, .inl (c_t_limbs, n_t_limbs, .inl e_t_limbs_8)), (a_t_draft, .inl (c_t_draft, n_t_draft, .inl e_t_draft)), (a_t, .inr (8, [.int s_t_thrown, .int s_t_length, .ref a_t_text, .int s_t_place, .ref a_t_digits, .ref a_t_counts, .ref a_t_points, .ref a_t_limbs, .int s_t_limbCount_4, .int s_t_rows, .int s_t_columns, .ref a_t_cells, .int s_t_laid, .ref a_t_lines, .int s_t_size, .ref a_t_draft])), (a_t_digits, .inl (c_t_digits, n_t_digits, .inl ((upd e_t_digits_5 (3900 : Int32).toNatClampNeg (1 : Int32))))), (a_t_counts, .inl (c_t_counts, n_t_counts, .inl ((upd e_t_counts_6 (3 : Int32).toNatClampNeg (0 : Int32)))))] := hD
        refine lv_aload_n hx hb d_Md_toPlaces_67 rfl (lv_at hl 0 rfl) ?_
        refine va_get (D := (dC, dI)) (ci := 8) (v := .ref a_t_counts) (C := R_Md) (T := T_Md) (N := 16) hx hb hts in_Md hown hK hP 3 rfl rfl 5 (by decide) (hts _ g_711) (fun _ h9 => h9) rfl d_Md_toPlaces_68 ?_
        refine lv_iconst (v := 3) hx hb d_Md_toPlaces_71 (by decide) ?_
        refine lv_iconst (v := 1) hx hb d_Md_toPlaces_72 (by decide) ?_
        replace h := xg h
        obtain ⟨hg_70, h⟩ := h
        refine va_iast hx hb hK hP hD hS 5 1 rfl rfl hg_70 d_Md_toPlaces_73 (fun H locs hP hD hS => ?_)
        have hP : va_P (dC, dI) x_cl [(a_t_points, .inl (c_t_points, n_t_points, .inl ((upd e_t_points_7 (3 : Int32).toNatClampNeg (0 : Int32))))), (a_t_limbs, .inl (c_t_limbs, n_t_limbs, .inl e_t_limbs_8)), (a_t_draft, .inl (c_t_draft, n_t_draft, .inl e_t_draft)), (a_t, .inr (8, [.int s_t_thrown, .int s_t_length, .ref a_t_text, .int s_t_place, .ref a_t_digits, .ref a_t_counts, .ref a_t_points, .ref a_t_limbs, .int s_t_limbCount_4, .int s_t_rows, .int s_t_columns, .ref a_t_cells, .int s_t_laid, .ref a_t_lines, .int s_t_size, .ref a_t_draft])), (a_t_digits, .inl (c_t_digits, n_t_digits, .inl ((upd e_t_digits_5 (3900 : Int32).toNatClampNeg (1 : Int32))))), (a_t_counts, .inl (c_t_counts, n_t_counts, .inl ((upd ((upd e_t_counts_6 (3 : Int32).toNatClampNeg (0 : Int32))) (3 : Int32).toNatClampNeg (1 : Int32)))))] H := hP
        have hD : va_D A [(a_t_points, .inl (c_t_points, n_t_points, .inl ((upd e_t_points_7 (3 : Int32).toNatClampNeg (0 : Int32))))), (a_t_limbs, .inl (c_t_limbs, n_t_limbs, .inl e_t_limbs_8)), (a_t_draft, .inl (c_t_draft, n_t_draft, .inl e_t_draft)), (a_t, .inr (8, [.int s_t_thrown, .int s_t_length, .ref a_t_text, .int s_t_place, .ref a_t_digits, .ref a_t_counts, .ref a_t_points, .ref a_t_limbs, .int s_t_limbCount_4, .int s_t_rows, .int s_t_columns, .ref a_t_cells, .int s_t_laid, .ref a_t_lines, .int s_t_size, .ref a_t_draft])), (a_t_digits, .inl (c_t_digits, n_t_digits, .inl ((upd e_t_digits_5 (3900 : Int32).toNatClampNeg (1 : Int32))))), (a_t_counts, .inl (c_t_counts, n_t_counts, .inl ((upd ((upd e_t_counts_6 (3 : Int32).toNatClampNeg (0 : Int32))) (3 : Int32).toNatClampNeg (1 : Int32)))))] := hD
        refine lv_aload_n hx hb d_Md_toPlaces_74 rfl (lv_at hl 0 rfl) ?_
        refine va_get (D := (dC, dI)) (ci := 8) (v := .ref a_t_points) (C := R_Md) (T := T_Md) (N := 16) hx hb hts in_Md hown hK hP 3 rfl rfl 6 (by decide) (hts _ g_712) (fun _ h9 => h9) rfl d_Md_toPlaces_75 ?_
        refine lv_iconst (v := 3) hx hb d_Md_toPlaces_78 (by decide) ?_
        refine lv_iconst (v := 1) hx hb d_Md_toPlaces_79 (by decide) ?_
        replace h := xg h
        obtain ⟨hg_71, h⟩ := h
        refine va_iast hx hb hK hP hD hS 0 2 rfl rfl hg_71 d_Md_toPlaces_80 (fun H locs hP hD hS => ?_)
        have hP : va_P (dC, dI) x_cl [(a_t_points, .inl (c_t_points, n_t_points, .inl ((upd ((upd e_t_points_7 (3 : Int32).toNatClampNeg (0 : Int32))) (3 : Int32).toNatClampNeg (1 : Int32))))), (a_t_limbs, .inl (c_t_limbs, n_t_limbs, .inl e_t_limbs_8)), (a_t_draft, .inl (c_t_draft, n_t_draft, .inl e_t_draft)), (a_t, .inr (8, [.int s_t_thrown, .int s_t_length, .ref a_t_text, .int s_t_place, .ref a_t_digits, .ref a_t_counts, .ref a_t_points, .ref a_t_limbs, .int s_t_limbCount_4, .int s_t_rows, .int s_t_columns, .ref a_t_cells, .int s_t_laid, .ref a_t_lines, .int s_t_size, .ref a_t_draft])), (a_t_digits, .inl (c_t_digits, n_t_digits, .inl ((upd e_t_digits_5 (3900 : Int32).toNatClampNeg (1 : Int32))))), (a_t_counts, .inl (c_t_counts, n_t_counts, .inl ((upd ((upd e_t_counts_6 (3 : Int32).toNatClampNeg (0 : Int32))) (3 : Int32).toNatClampNeg (1 : Int32)))))] H := hP
        have hD : va_D A [(a_t_points, .inl (c_t_points, n_t_points, .inl ((upd ((upd e_t_points_7 (3 : Int32).toNatClampNeg (0 : Int32))) (3 : Int32).toNatClampNeg (1 : Int32))))), (a_t_limbs, .inl (c_t_limbs, n_t_limbs, .inl e_t_limbs_8)), (a_t_draft, .inl (c_t_draft, n_t_draft, .inl e_t_draft)), (a_t, .inr (8, [.int s_t_thrown, .int s_t_length, .ref a_t_text, .int s_t_place, .ref a_t_digits, .ref a_t_counts, .ref a_t_points, .ref a_t_limbs, .int s_t_limbCount_4, .int s_t_rows, .int s_t_columns, .ref a_t_cells, .int s_t_laid, .ref a_t_lines, .int s_t_size, .ref a_t_draft])), (a_t_digits, .inl (c_t_digits, n_t_digits, .inl ((upd e_t_digits_5 (3900 : Int32).toNatClampNeg (1 : Int32))))), (a_t_counts, .inl (c_t_counts, n_t_counts, .inl ((upd ((upd e_t_counts_6 (3 : Int32).toNatClampNeg (0 : Int32))) (3 : Int32).toNatClampNeg (1 : Int32)))))] := hD
        refine lv_goto (tgt := 111) hx hb d_Md_toPlaces_81 (by decide) ?_
        replace h := Option.some.inj h
        replace h := Prod.mk.inj h
        obtain ⟨h1, h⟩ := h
        subst h1
        replace h := Prod.mk.inj h
        obtain ⟨h1, h⟩ := h
        subst h1
        subst h
        exact hJ_17 _ _ _ (hP.sub [3, 4, 5, 0, 1, 2] rfl) (hD.sub [3, 4, 5, 0, 1, 2] (by decide) rfl) hS (lv_sub hl [0, 1] rfl)
  replace h := hj_9
  clear hj_9
  refine lv_if_ne (tgt := 30) hx hb d_Md_toPlaces_7 (by decide) (fun c_72 => ?_) (fun c_72 => ?_)
  · rw [if_neg c_72] at h
    replace h := Option.some.inj h
    replace h := Prod.mk.inj h
    obtain ⟨h1, h⟩ := h
    subst h1
    replace h := Prod.mk.inj h
    obtain ⟨h1, h⟩ := h
    subst h1
    replace h := Prod.mk.inj h
    obtain ⟨h1, h⟩ := h
    subst h1
    replace h := Prod.mk.inj h
    obtain ⟨h1, h⟩ := h
    subst h1
    replace h := Prod.mk.inj h
    obtain ⟨h1, h⟩ := h
    subst h1
    subst h
    exact hJ_10 _ _ _ hP hD hS (lv_sub hl [1, 3, 0] rfl)
  · rw [if_pos c_72] at h
    refine lv_aload_n hx hb d_Md_toPlaces_10 rfl (lv_at hl 1 rfl) ?_
    refine lv_iconst (v := 0) hx hb d_Md_toPlaces_11 (by decide) ?_
    refine lv_lload_n hx hb d_Md_toPlaces_12 rfl (lv_at hl 2 rfl) ?_
    refine lv_ldc2 (v := 9223372036854775807) hx hb hown (hts _ g_852) d_Md_toPlaces_13 ?_
    refine lv_land hx hb d_Md_toPlaces_16 ?_
    replace h := xob_s h
    obtain ⟨⟨s_t_limbCount_73, e_t_digits_74, e_t_counts_75, e_t_points_76, e_t_limbs_77⟩, hc_78, h⟩ := h
    try dsimp only at h
    refine xcV (As := [.int (0 : Int32), .long (x1 &&& (9223372036854775807 : Int64))]) (rest := []) (st1 := []) (wr := [(a_t_draft, .inl (c_t_draft, n_t_draft, .inl e_t_draft))]) ⟨hx, hb, hml, hown, hts⟩ (c_Md_value l dC dI a_t a_t_text a_t_digits a_t_counts a_t_points a_t_limbs a_t_cells a_t_lines a_t_draft c_t_digits c_t_counts c_t_points c_t_limbs n_t_digits n_t_counts n_t_points n_t_limbs s_t_thrown s_t_length s_t_place s_t_limbCount s_t_rows s_t_columns s_t_laid s_t_size e_t_digits e_t_counts e_t_points e_t_limbs (0 : Int32) (x1 &&& (9223372036854775807 : Int64)) s_t_limbCount_73 e_t_digits_74 e_t_counts_75 e_t_points_76 e_t_limbs_77 hc_78) (cwV 2 hts (xgoodV g_806 g_808 gp_25 g_10 g_809) rfl rfl rfl (by decide +kernel) ⟨Nat.le_of_ble_eq_true rfl, Nat.le_of_ble_eq_true rfl⟩) hNz (ci := 8) (q0 := 0) rfl rfl hA hP hD hS hK [0, 1, 2, 3, 4] [5] [0, 1, 2, 3] rfl rfl rfl rfl (by decide) rfl rfl rfl rfl hl.1 (Nat.le_of_ble_eq_true rfl) ⟨Nat.zero_le _, Nat.zero_le _⟩ d_Md_toPlaces_17 (fun H locs hP hD hS => ?_)
    have hP : va_P (dC, dI) x_cl [(a_t_draft, .inl (c_t_draft, n_t_draft, .inl e_t_draft)), (a_t, .inr (8, [.int s_t_thrown, .int s_t_length, .ref a_t_text, .int s_t_place, .ref a_t_digits, .ref a_t_counts, .ref a_t_points, .ref a_t_limbs, .int s_t_limbCount_73, .int s_t_rows, .int s_t_columns, .ref a_t_cells, .int s_t_laid, .ref a_t_lines, .int s_t_size, .ref a_t_draft])), (a_t_digits, .inl (c_t_digits, n_t_digits, .inl e_t_digits_74)), (a_t_counts, .inl (c_t_counts, n_t_counts, .inl e_t_counts_75)), (a_t_points, .inl (c_t_points, n_t_points, .inl e_t_points_76)), (a_t_limbs, .inl (c_t_limbs, n_t_limbs, .inl e_t_limbs_77))] H := hP
    have hD : va_D A [(a_t_draft, .inl (c_t_draft, n_t_draft, .inl e_t_draft)), (a_t, .inr (8, [.int s_t_thrown, .int s_t_length, .ref a_t_text, .int s_t_place, .ref a_t_digits, .ref a_t_counts, .ref a_t_points, .ref a_t_limbs, .int s_t_limbCount_73, .int s_t_rows, .int s_t_columns, .ref a_t_cells, .int s_t_laid, .ref a_t_lines, .int s_t_size, .ref a_t_draft])), (a_t_digits, .inl (c_t_digits, n_t_digits, .inl e_t_digits_74)), (a_t_counts, .inl (c_t_counts, n_t_counts, .inl e_t_counts_75)), (a_t_points, .inl (c_t_points, n_t_points, .inl e_t_points_76)), (a_t_limbs, .inl (c_t_limbs, n_t_limbs, .inl e_t_limbs_77))] := hD
    refine lv_aload_n hx hb d_Md_toPlaces_20 rfl (lv_at hl 1 rfl) ?_
    refine va_get (D := (dC, dI)) (ci := 8) (v := .ref a_t_points) (C := R_Md) (T := T_Md) (N := 16) hx hb hts in_Md hown hK hP 1 rfl rfl 6 (by decide) (hts _ g_712) (fun _ h9 => h9) rfl d_Md_toPlaces_21 ?_
    refine lv_iconst (v := 0) hx hb d_Md_toPlaces_24 (by decide) ?_
    replace h := xg h
    obtain ⟨hg_79, h⟩ := h
    refine va_iald hx hb hK hP 4 2 rfl rfl hg_79 d_Md_toPlaces_25 ?_
    refine lv_iload_n hx hb d_Md_toPlaces_26 rfl (lv_at hl 3 rfl) ?_
    refine lv_iadd hx hb d_Md_toPlaces_27 ?_
    replace h := xnm_s h
    obtain ⟨x4_80, ex4_80, h⟩ := h
    refine x_topi ex4_80 ?_
    refine lv_istore (lv' := [(4, .int x4_80), (0, .ref a_t), (1, .long x1), (3, .int x3)]) hx hb d_Md_toPlaces_28 hl (by decide) rfl (fun ls hl => ?_)
    replace h := Option.some.inj h
    replace h := Prod.mk.inj h
    obtain ⟨h1, h⟩ := h
    subst h1
    replace h := Prod.mk.inj h
    obtain ⟨h1, h⟩ := h
    subst h1
    replace h := Prod.mk.inj h
    obtain ⟨h1, h⟩ := h
    subst h1
    replace h := Prod.mk.inj h
    obtain ⟨h1, h⟩ := h
    subst h1
    replace h := Prod.mk.inj h
    obtain ⟨h1, h⟩ := h
    subst h1
    subst h
    exact hJ_10 _ _ _ (hP.sub [1, 2, 3, 4, 5, 0] rfl) (hD.sub [1, 2, 3, 4, 5, 0] (by decide) rfl) hS (lv_sub hl [1, 3, 0] rfl)
