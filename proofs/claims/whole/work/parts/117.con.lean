def f_Md_special (n_t_draft : Nat) (s_t_thrown : Int32) (s_t_length : Int32) (s_t_place : Int32) (s_t_limbCount : Int32) (s_t_rows : Int32) (s_t_columns : Int32) (s_t_laid : Int32) (s_t_size : Int32) (e_t_draft : Nat → Int32) (x1 : Int64) : Option (Int32 × Int32 × (Nat → Int32)) :=
  xnm (x1 &&& (9223372036854775807 : Int64)) fun x3_1 => if 0 ≤ (lg_cmp x3_1 (9218868437227405312 : Int64)) then (if (lg_cmp x3_1 (9218868437227405312 : Int64)) ≤ 0 then (xob (f_Md_sign n_t_draft s_t_thrown s_t_length s_t_place s_t_limbCount s_t_rows s_t_columns s_t_laid (0 : Int32) e_t_draft x1) fun (s_t_size_4, e_t_draft_5) => xob (f_Md_put n_t_draft s_t_thrown s_t_length s_t_place s_t_limbCount s_t_rows s_t_columns s_t_laid s_t_size_4 e_t_draft_5 (105 : Int32)) fun (s_t_size_7, e_t_draft_8) => xob (f_Md_put n_t_draft s_t_thrown s_t_length s_t_place s_t_limbCount s_t_rows s_t_columns s_t_laid s_t_size_7 e_t_draft_8 (110 : Int32)) fun (s_t_size_10, e_t_draft_11) => xob (f_Md_put n_t_draft s_t_thrown s_t_length s_t_place s_t_limbCount s_t_rows s_t_columns s_t_laid s_t_size_10 e_t_draft_11 (102 : Int32)) fun (s_t_size_13, e_t_draft_14) => some ((1 : Int32), s_t_size_13, e_t_draft_14)) else (xob (f_Md_put n_t_draft s_t_thrown s_t_length s_t_place s_t_limbCount s_t_rows s_t_columns s_t_laid (0 : Int32) e_t_draft (110 : Int32)) fun (s_t_size_16, e_t_draft_17) => xob (f_Md_put n_t_draft s_t_thrown s_t_length s_t_place s_t_limbCount s_t_rows s_t_columns s_t_laid s_t_size_16 e_t_draft_17 (97 : Int32)) fun (s_t_size_19, e_t_draft_20) => xob (f_Md_put n_t_draft s_t_thrown s_t_length s_t_place s_t_limbCount s_t_rows s_t_columns s_t_laid s_t_size_19 e_t_draft_20 (110 : Int32)) fun (s_t_size_22, e_t_draft_23) => some ((1 : Int32), s_t_size_22, e_t_draft_23))) else (xob (f_Md_sign n_t_draft s_t_thrown s_t_length s_t_place s_t_limbCount s_t_rows s_t_columns s_t_laid (0 : Int32) e_t_draft x1) fun (s_t_size_25, e_t_draft_26) => some ((0 : Int32), s_t_size_25, e_t_draft_26))
def rm_Md_special : Room := { frames := 2, cells := 0, slots := 0, locals := 43 }
set_option maxHeartbeats 4000000 in
set_option maxRecDepth 100000 in
theorem c_Md_special (l : Launch) (dC : Nat → ClassId) (dI : Nat → Nat → Nat) (a_t a_t_text a_t_digits a_t_counts a_t_points a_t_limbs a_t_cells a_t_lines a_t_draft : Nat) (c_t_draft : ClassId) (n_t_draft : Nat) (s_t_thrown : Int32) (s_t_length : Int32) (s_t_place : Int32) (s_t_limbCount : Int32) (s_t_rows : Int32) (s_t_columns : Int32) (s_t_laid : Int32) (s_t_size : Int32) (e_t_draft : Nat → Int32) (x1 : Int64) (r_ : Int32) (s_t_size_o : Int32) (e_t_draft_o : Nat → Int32) (h : f_Md_special n_t_draft s_t_thrown s_t_length s_t_place s_t_limbCount s_t_rows s_t_columns s_t_laid s_t_size e_t_draft x1 = some (r_, s_t_size_o, e_t_draft_o)) : xM l y_Md_special (Cond.code y_Md_special b_Md_special 5 (some .boolean) :: xG) rm_Md_special (dC, dI) x_cl x_nz [.ref a_t, .long x1] [(c_t_draft, .int)] [(a_t, .inr (8, [.int s_t_thrown, .int s_t_length, .ref a_t_text, .int s_t_place, .ref a_t_digits, .ref a_t_counts, .ref a_t_points, .ref a_t_limbs, .int s_t_limbCount, .int s_t_rows, .int s_t_columns, .ref a_t_cells, .int s_t_laid, .ref a_t_lines, .int s_t_size, .ref a_t_draft])), (a_t_draft, .inl (c_t_draft, n_t_draft, .inl e_t_draft))] (some (.int r_)) [(a_t, .inr (8, [.int s_t_thrown, .int s_t_length, .ref a_t_text, .int s_t_place, .ref a_t_digits, .ref a_t_counts, .ref a_t_points, .ref a_t_limbs, .int s_t_limbCount, .int s_t_rows, .int s_t_columns, .ref a_t_cells, .int s_t_laid, .ref a_t_lines, .int s_t_size_o, .ref a_t_draft])), (a_t_draft, .inl (c_t_draft, n_t_draft, .inl e_t_draft_o))] := by
  unfold f_Md_special at h
  refine xM.mkZ (cc := b_Md_special) (maxL := 5)  (by decide +kernel) rfl (Nat.le_of_ble_eq_true rfl) ?_
  intro p e s m args below meth c A Q ls hx hb hml hown hts hNz hA hP hD hK hl hret
  have hS : va_S A s.heap s.heap [] := va_S.rf
  have hl : lv_has ls 5 [(0, .ref a_t), (1, .long x1)] := hl
  refine lv_aload_n hx hb d_Md_special_0 rfl (lv_at hl 0 rfl) ?_
  refine lv_iconst (v := 0) hx hb d_Md_special_1 (by decide) ?_
  refine va_put (D := (dC, dI)) (ci := 8) (v := .int (0 : Int32)) (ty := .int) (C := R_Md) (T := T_Md) (N := 16) hx hb hts in_Md ty_Md tyok_Md nn_Md hown hK hP hD hS 0 rfl rfl 14 (by decide) (hts _ g_720) (fun _ h9 => h9) rfl (by decide +kernel) rfl rfl (Nat.le_of_ble_eq_true rfl) d_Md_special_2 (fun H locs hP hD hS => ?_)
  have hP : va_P (dC, dI) x_cl [(a_t, .inr (8, [.int s_t_thrown, .int s_t_length, .ref a_t_text, .int s_t_place, .ref a_t_digits, .ref a_t_counts, .ref a_t_points, .ref a_t_limbs, .int s_t_limbCount, .int s_t_rows, .int s_t_columns, .ref a_t_cells, .int s_t_laid, .ref a_t_lines, .int (0 : Int32), .ref a_t_draft])), (a_t_draft, .inl (c_t_draft, n_t_draft, .inl e_t_draft))] H := hP
  have hD : va_D A [(a_t, .inr (8, [.int s_t_thrown, .int s_t_length, .ref a_t_text, .int s_t_place, .ref a_t_digits, .ref a_t_counts, .ref a_t_points, .ref a_t_limbs, .int s_t_limbCount, .int s_t_rows, .int s_t_columns, .ref a_t_cells, .int s_t_laid, .ref a_t_lines, .int (0 : Int32), .ref a_t_draft])), (a_t_draft, .inl (c_t_draft, n_t_draft, .inl e_t_draft))] := hD
  refine lv_lload_n hx hb d_Md_special_5 rfl (lv_at hl 1 rfl) ?_
  refine lv_ldc2 (v := 9223372036854775807) hx hb hown (hts _ g_852) d_Md_special_6 ?_
  refine lv_land hx hb d_Md_special_9 ?_
  replace h := xnm_s h
  obtain ⟨x3_1, ex3_1, h⟩ := h
  refine x_topl ex3_1 ?_
  refine lv_lstore_n (lv' := [(3, .long x3_1), (0, .ref a_t), (1, .long x1)]) hx hb d_Md_special_10 rfl hl (by decide) rfl (fun ls hl => ?_)
  refine lv_lload_n hx hb d_Md_special_11 rfl (lv_at hl 0 rfl) ?_
  refine lv_ldc2 (v := 9218868437227405312) hx hb hown (hts _ g_796) d_Md_special_12 ?_
  refine W.lcmp hx hb d_Md_special_15 ?_
  refine lv_if_ge (tgt := 26) hx hb d_Md_special_16 (by decide) (fun c_2 => ?_) (fun c_2 => ?_)
  · rw [if_pos c_2] at h
    refine lv_lload_n hx hb d_Md_special_26 rfl (lv_at hl 0 rfl) ?_
    refine lv_ldc2 (v := 9218868437227405312) hx hb hown (hts _ g_796) d_Md_special_27 ?_
    refine W.lcmp hx hb d_Md_special_30 ?_
    refine lv_if_le (tgt := 54) hx hb d_Md_special_31 (by decide) (fun c_3 => ?_) (fun c_3 => ?_)
    · rw [if_pos c_3] at h
      refine lv_aload_n hx hb d_Md_special_54 rfl (lv_at hl 1 rfl) ?_
      refine lv_lload_n hx hb d_Md_special_55 rfl (lv_at hl 2 rfl) ?_
      replace h := xob_s h
      obtain ⟨⟨s_t_size_4, e_t_draft_5⟩, hc_6, h⟩ := h
      try dsimp only at h
      refine xcV (As := [.long x1]) (rest := []) (st1 := []) (wr := []) ⟨hx, hb, hml, hown, hts⟩ (c_Md_sign l dC dI a_t a_t_text a_t_digits a_t_counts a_t_points a_t_limbs a_t_cells a_t_lines a_t_draft c_t_draft n_t_draft s_t_thrown s_t_length s_t_place s_t_limbCount s_t_rows s_t_columns s_t_laid (0 : Int32) e_t_draft x1 s_t_size_4 e_t_draft_5 hc_6) (cwV 1 hts (xgoodV g_853 g_855 gp_32 g_10 g_856) rfl rfl rfl (by decide +kernel) ⟨Nat.le_of_ble_eq_true rfl, Nat.le_of_ble_eq_true rfl⟩) hNz (ci := 8) (q0 := 0) rfl rfl hA hP hD hS hK [0, 1] [] [0] rfl rfl rfl rfl (by decide) rfl rfl rfl rfl hl.1 (Nat.le_of_ble_eq_true rfl) ⟨Nat.zero_le _, Nat.zero_le _⟩ d_Md_special_56 (fun H locs hP hD hS => ?_)
      have hP : va_P (dC, dI) x_cl [(a_t, .inr (8, [.int s_t_thrown, .int s_t_length, .ref a_t_text, .int s_t_place, .ref a_t_digits, .ref a_t_counts, .ref a_t_points, .ref a_t_limbs, .int s_t_limbCount, .int s_t_rows, .int s_t_columns, .ref a_t_cells, .int s_t_laid, .ref a_t_lines, .int s_t_size_4, .ref a_t_draft])), (a_t_draft, .inl (c_t_draft, n_t_draft, .inl e_t_draft_5))] H := hP
      have hD : va_D A [(a_t, .inr (8, [.int s_t_thrown, .int s_t_length, .ref a_t_text, .int s_t_place, .ref a_t_digits, .ref a_t_counts, .ref a_t_points, .ref a_t_limbs, .int s_t_limbCount, .int s_t_rows, .int s_t_columns, .ref a_t_cells, .int s_t_laid, .ref a_t_lines, .int s_t_size_4, .ref a_t_draft])), (a_t_draft, .inl (c_t_draft, n_t_draft, .inl e_t_draft_5))] := hD
      refine lv_aload_n hx hb d_Md_special_59 rfl (lv_at hl 1 rfl) ?_
      refine lv_bipush (v := 105) hx hb d_Md_special_60 (by decide) ?_
      replace h := xob_s h
      obtain ⟨⟨s_t_size_7, e_t_draft_8⟩, hc_9, h⟩ := h
      try dsimp only at h
      refine xcV (As := [.int (105 : Int32)]) (rest := []) (st1 := []) (wr := []) ⟨hx, hb, hml, hown, hts⟩ (c_Md_put l dC dI a_t a_t_text a_t_digits a_t_counts a_t_points a_t_limbs a_t_cells a_t_lines a_t_draft c_t_draft n_t_draft s_t_thrown s_t_length s_t_place s_t_limbCount s_t_rows s_t_columns s_t_laid s_t_size_4 e_t_draft_5 (105 : Int32) s_t_size_7 e_t_draft_8 hc_9) (cwV 1 hts (xgoodV g_857 g_859 gp_33 g_10 g_860) rfl rfl rfl (by decide +kernel) ⟨Nat.le_of_ble_eq_true rfl, Nat.le_of_ble_eq_true rfl⟩) hNz (ci := 8) (q0 := 0) rfl rfl hA hP hD hS hK [0, 1] [] [0] rfl rfl rfl rfl (by decide) rfl rfl rfl rfl hl.1 (Nat.le_of_ble_eq_true rfl) ⟨Nat.zero_le _, Nat.zero_le _⟩ d_Md_special_62 (fun H locs hP hD hS => ?_)
      have hP : va_P (dC, dI) x_cl [(a_t, .inr (8, [.int s_t_thrown, .int s_t_length, .ref a_t_text, .int s_t_place, .ref a_t_digits, .ref a_t_counts, .ref a_t_points, .ref a_t_limbs, .int s_t_limbCount, .int s_t_rows, .int s_t_columns, .ref a_t_cells, .int s_t_laid, .ref a_t_lines, .int s_t_size_7, .ref a_t_draft])), (a_t_draft, .inl (c_t_draft, n_t_draft, .inl e_t_draft_8))] H := hP
      have hD : va_D A [(a_t, .inr (8, [.int s_t_thrown, .int s_t_length, .ref a_t_text, .int s_t_place, .ref a_t_digits, .ref a_t_counts, .ref a_t_points, .ref a_t_limbs, .int s_t_limbCount, .int s_t_rows, .int s_t_columns, .ref a_t_cells, .int s_t_laid, .ref a_t_lines, .int s_t_size_7, .ref a_t_draft])), (a_t_draft, .inl (c_t_draft, n_t_draft, .inl e_t_draft_8))] := hD
      refine lv_aload_n hx hb d_Md_special_65 rfl (lv_at hl 1 rfl) ?_
      refine lv_bipush (v := 110) hx hb d_Md_special_66 (by decide) ?_
      replace h := xob_s h
      obtain ⟨⟨s_t_size_10, e_t_draft_11⟩, hc_12, h⟩ := h
      try dsimp only at h
      refine xcV (As := [.int (110 : Int32)]) (rest := []) (st1 := []) (wr := []) ⟨hx, hb, hml, hown, hts⟩ (c_Md_put l dC dI a_t a_t_text a_t_digits a_t_counts a_t_points a_t_limbs a_t_cells a_t_lines a_t_draft c_t_draft n_t_draft s_t_thrown s_t_length s_t_place s_t_limbCount s_t_rows s_t_columns s_t_laid s_t_size_7 e_t_draft_8 (110 : Int32) s_t_size_10 e_t_draft_11 hc_12) (cwV 1 hts (xgoodV g_857 g_859 gp_33 g_10 g_860) rfl rfl rfl (by decide +kernel) ⟨Nat.le_of_ble_eq_true rfl, Nat.le_of_ble_eq_true rfl⟩) hNz (ci := 8) (q0 := 0) rfl rfl hA hP hD hS hK [0, 1] [] [0] rfl rfl rfl rfl (by decide) rfl rfl rfl rfl hl.1 (Nat.le_of_ble_eq_true rfl) ⟨Nat.zero_le _, Nat.zero_le _⟩ d_Md_special_68 (fun H locs hP hD hS => ?_)
      have hP : va_P (dC, dI) x_cl [(a_t, .inr (8, [.int s_t_thrown, .int s_t_length, .ref a_t_text, .int s_t_place, .ref a_t_digits, .ref a_t_counts, .ref a_t_points, .ref a_t_limbs, .int s_t_limbCount, .int s_t_rows, .int s_t_columns, .ref a_t_cells, .int s_t_laid, .ref a_t_lines, .int s_t_size_10, .ref a_t_draft])), (a_t_draft, .inl (c_t_draft, n_t_draft, .inl e_t_draft_11))] H := hP
      have hD : va_D A [(a_t, .inr (8, [.int s_t_thrown, .int s_t_length, .ref a_t_text, .int s_t_place, .ref a_t_digits, .ref a_t_counts, .ref a_t_points, .ref a_t_limbs, .int s_t_limbCount, .int s_t_rows, .int s_t_columns, .ref a_t_cells, .int s_t_laid, .ref a_t_lines, .int s_t_size_10, .ref a_t_draft])), (a_t_draft, .inl (c_t_draft, n_t_draft, .inl e_t_draft_11))] := hD
      refine lv_aload_n hx hb d_Md_special_71 rfl (lv_at hl 1 rfl) ?_
      refine lv_bipush (v := 102) hx hb d_Md_special_72 (by decide) ?_
      replace h := xob_s h
      obtain ⟨⟨s_t_size_13, e_t_draft_14⟩, hc_15, h⟩ := h
      try dsimp only at h
      refine xcV (As := [.int (102 : Int32)]) (rest := []) (st1 := []) (wr := []) ⟨hx, hb, hml, hown, hts⟩ (c_Md_put l dC dI a_t a_t_text a_t_digits a_t_counts a_t_points a_t_limbs a_t_cells a_t_lines a_t_draft c_t_draft n_t_draft s_t_thrown s_t_length s_t_place s_t_limbCount s_t_rows s_t_columns s_t_laid s_t_size_10 e_t_draft_11 (102 : Int32) s_t_size_13 e_t_draft_14 hc_15) (cwV 1 hts (xgoodV g_857 g_859 gp_33 g_10 g_860) rfl rfl rfl (by decide +kernel) ⟨Nat.le_of_ble_eq_true rfl, Nat.le_of_ble_eq_true rfl⟩) hNz (ci := 8) (q0 := 0) rfl rfl hA hP hD hS hK [0, 1] [] [0] rfl rfl rfl rfl (by decide) rfl rfl rfl rfl hl.1 (Nat.le_of_ble_eq_true rfl) ⟨Nat.zero_le _, Nat.zero_le _⟩ d_Md_special_74 (fun H locs hP hD hS => ?_)
      have hP : va_P (dC, dI) x_cl [(a_t, .inr (8, [.int s_t_thrown, .int s_t_length, .ref a_t_text, .int s_t_place, .ref a_t_digits, .ref a_t_counts, .ref a_t_points, .ref a_t_limbs, .int s_t_limbCount, .int s_t_rows, .int s_t_columns, .ref a_t_cells, .int s_t_laid, .ref a_t_lines, .int s_t_size_13, .ref a_t_draft])), (a_t_draft, .inl (c_t_draft, n_t_draft, .inl e_t_draft_14))] H := hP
      have hD : va_D A [(a_t, .inr (8, [.int s_t_thrown, .int s_t_length, .ref a_t_text, .int s_t_place, .ref a_t_digits, .ref a_t_counts, .ref a_t_points, .ref a_t_limbs, .int s_t_limbCount, .int s_t_rows, .int s_t_columns, .ref a_t_cells, .int s_t_laid, .ref a_t_lines, .int s_t_size_13, .ref a_t_draft])), (a_t_draft, .inl (c_t_draft, n_t_draft, .inl e_t_draft_14))] := hD
      refine lv_iconst (v := 1) hx hb d_Md_special_77 (by decide) ?_
      replace h := Option.some.inj h
      replace h := Prod.mk.inj h
      obtain ⟨h1, h⟩ := h
      subst h1
      replace h := Prod.mk.inj h
      obtain ⟨h1, h⟩ := h
      subst h1
      subst h
      exact hret _ _ hP hD hS _ _ d_Md_special_78 rfl
    · rw [if_neg c_3] at h
      refine lv_aload_n hx hb d_Md_special_34 rfl (lv_at hl 1 rfl) ?_
      refine lv_bipush (v := 110) hx hb d_Md_special_35 (by decide) ?_
      replace h := xob_s h
      obtain ⟨⟨s_t_size_16, e_t_draft_17⟩, hc_18, h⟩ := h
      try dsimp only at h
      refine xcV (As := [.int (110 : Int32)]) (rest := []) (st1 := []) (wr := []) ⟨hx, hb, hml, hown, hts⟩ (c_Md_put l dC dI a_t a_t_text a_t_digits a_t_counts a_t_points a_t_limbs a_t_cells a_t_lines a_t_draft c_t_draft n_t_draft s_t_thrown s_t_length s_t_place s_t_limbCount s_t_rows s_t_columns s_t_laid (0 : Int32) e_t_draft (110 : Int32) s_t_size_16 e_t_draft_17 hc_18) (cwV 1 hts (xgoodV g_857 g_859 gp_33 g_10 g_860) rfl rfl rfl (by decide +kernel) ⟨Nat.le_of_ble_eq_true rfl, Nat.le_of_ble_eq_true rfl⟩) hNz (ci := 8) (q0 := 0) rfl rfl hA hP hD hS hK [0, 1] [] [0] rfl rfl rfl rfl (by decide) rfl rfl rfl rfl hl.1 (Nat.le_of_ble_eq_true rfl) ⟨Nat.zero_le _, Nat.zero_le _⟩ d_Md_special_37 (fun H locs hP hD hS => ?_)
      have hP : va_P (dC, dI) x_cl [(a_t, .inr (8, [.int s_t_thrown, .int s_t_length, .ref a_t_text, .int s_t_place, .ref a_t_digits, .ref a_t_counts, .ref a_t_points, .ref a_t_limbs, .int s_t_limbCount, .int s_t_rows, .int s_t_columns, .ref a_t_cells, .int s_t_laid, .ref a_t_lines, .int s_t_size_16, .ref a_t_draft])), (a_t_draft, .inl (c_t_draft, n_t_draft, .inl e_t_draft_17))] H := hP
      have hD : va_D A [(a_t, .inr (8, [.int s_t_thrown, .int s_t_length, .ref a_t_text, .int s_t_place, .ref a_t_digits, .ref a_t_counts, .ref a_t_points, .ref a_t_limbs, .int s_t_limbCount, .int s_t_rows, .int s_t_columns, .ref a_t_cells, .int s_t_laid, .ref a_t_lines, .int s_t_size_16, .ref a_t_draft])), (a_t_draft, .inl (c_t_draft, n_t_draft, .inl e_t_draft_17))] := hD
      refine lv_aload_n hx hb d_Md_special_40 rfl (lv_at hl 1 rfl) ?_
      refine lv_bipush (v := 97) hx hb d_Md_special_41 (by decide) ?_
      replace h := xob_s h
      obtain ⟨⟨s_t_size_19, e_t_draft_20⟩, hc_21, h⟩ := h
      try dsimp only at h
      refine xcV (As := [.int (97 : Int32)]) (rest := []) (st1 := []) (wr := []) ⟨hx, hb, hml, hown, hts⟩ (c_Md_put l dC dI a_t a_t_text a_t_digits a_t_counts a_t_points a_t_limbs a_t_cells a_t_lines a_t_draft c_t_draft n_t_draft s_t_thrown s_t_length s_t_place s_t_limbCount s_t_rows s_t_columns s_t_laid s_t_size_16 e_t_draft_17 (97 : Int32) s_t_size_19 e_t_draft_20 hc_21) (cwV 1 hts (xgoodV g_857 g_859 gp_33 g_10 g_860) rfl rfl rfl (by decide +kernel) ⟨Nat.le_of_ble_eq_true rfl, Nat.le_of_ble_eq_true rfl⟩) hNz (ci := 8) (q0 := 0) rfl rfl hA hP hD hS hK [0, 1] [] [0] rfl rfl rfl rfl (by decide) rfl rfl rfl rfl hl.1 (Nat.le_of_ble_eq_true rfl) ⟨Nat.zero_le _, Nat.zero_le _⟩ d_Md_special_43 (fun H locs hP hD hS => ?_)
      have hP : va_P (dC, dI) x_cl [(a_t, .inr (8, [.int s_t_thrown, .int s_t_length, .ref a_t_text, .int s_t_place, .ref a_t_digits, .ref a_t_counts, .ref a_t_points, .ref a_t_limbs, .int s_t_limbCount, .int s_t_rows, .int s_t_columns, .ref a_t_cells, .int s_t_laid, .ref a_t_lines, .int s_t_size_19, .ref a_t_draft])), (a_t_draft, .inl (c_t_draft, n_t_draft, .inl e_t_draft_20))] H := hP
      have hD : va_D A [(a_t, .inr (8, [.int s_t_thrown, .int s_t_length, .ref a_t_text, .int s_t_place, .ref a_t_digits, .ref a_t_counts, .ref a_t_points, .ref a_t_limbs, .int s_t_limbCount, .int s_t_rows, .int s_t_columns, .ref a_t_cells, .int s_t_laid, .ref a_t_lines, .int s_t_size_19, .ref a_t_draft])), (a_t_draft, .inl (c_t_draft, n_t_draft, .inl e_t_draft_20))] := hD
      refine lv_aload_n hx hb d_Md_special_46 rfl (lv_at hl 1 rfl) ?_
      refine lv_bipush (v := 110) hx hb d_Md_special_47 (by decide) ?_
      replace h := xob_s h
      obtain ⟨⟨s_t_size_22, e_t_draft_23⟩, hc_24, h⟩ := h
      try dsimp only at h
      refine xcV (As := [.int (110 : Int32)]) (rest := []) (st1 := []) (wr := []) ⟨hx, hb, hml, hown, hts⟩ (c_Md_put l dC dI a_t a_t_text a_t_digits a_t_counts a_t_points a_t_limbs a_t_cells a_t_lines a_t_draft c_t_draft n_t_draft s_t_thrown s_t_length s_t_place s_t_limbCount s_t_rows s_t_columns s_t_laid s_t_size_19 e_t_draft_20 (110 : Int32) s_t_size_22 e_t_draft_23 hc_24) (cwV 1 hts (xgoodV g_857 g_859 gp_33 g_10 g_860) rfl rfl rfl (by decide +kernel) ⟨Nat.le_of_ble_eq_true rfl, Nat.le_of_ble_eq_true rfl⟩) hNz (ci := 8) (q0 := 0) rfl rfl hA hP hD hS hK [0, 1] [] [0] rfl rfl rfl rfl (by decide) rfl rfl rfl rfl hl.1 (Nat.le_of_ble_eq_true rfl) ⟨Nat.zero_le _, Nat.zero_le _⟩ d_Md_special_49 (fun H locs hP hD hS => ?_)
      have hP : va_P (dC, dI) x_cl [(a_t, .inr (8, [.int s_t_thrown, .int s_t_length, .ref a_t_text, .int s_t_place, .ref a_t_digits, .ref a_t_counts, .ref a_t_points, .ref a_t_limbs, .int s_t_limbCount, .int s_t_rows, .int s_t_columns, .ref a_t_cells, .int s_t_laid, .ref a_t_lines, .int s_t_size_22, .ref a_t_draft])), (a_t_draft, .inl (c_t_draft, n_t_draft, .inl e_t_draft_23))] H := hP
      have hD : va_D A [(a_t, .inr (8, [.int s_t_thrown, .int s_t_length, .ref a_t_text, .int s_t_place, .ref a_t_digits, .ref a_t_counts, .ref a_t_points, .ref a_t_limbs, .int s_t_limbCount, .int s_t_rows, .int s_t_columns, .ref a_t_cells, .int s_t_laid, .ref a_t_lines, .int s_t_size_22, .ref a_t_draft])), (a_t_draft, .inl (c_t_draft, n_t_draft, .inl e_t_draft_23))] := hD
      refine lv_iconst (v := 1) hx hb d_Md_special_52 (by decide) ?_
      replace h := Option.some.inj h
      replace h := Prod.mk.inj h
      obtain ⟨h1, h⟩ := h
      subst h1
      replace h := Prod.mk.inj h
      obtain ⟨h1, h⟩ := h
      subst h1
      subst h
      exact hret _ _ hP hD hS _ _ d_Md_special_53 rfl
  · rw [if_neg c_2] at h
    refine lv_aload_n hx hb d_Md_special_19 rfl (lv_at hl 1 rfl) ?_
    refine lv_lload_n hx hb d_Md_special_20 rfl (lv_at hl 2 rfl) ?_
    replace h := xob_s h
    obtain ⟨⟨s_t_size_25, e_t_draft_26⟩, hc_27, h⟩ := h
    try dsimp only at h
    refine xcV (As := [.long x1]) (rest := []) (st1 := []) (wr := []) ⟨hx, hb, hml, hown, hts⟩ (c_Md_sign l dC dI a_t a_t_text a_t_digits a_t_counts a_t_points a_t_limbs a_t_cells a_t_lines a_t_draft c_t_draft n_t_draft s_t_thrown s_t_length s_t_place s_t_limbCount s_t_rows s_t_columns s_t_laid (0 : Int32) e_t_draft x1 s_t_size_25 e_t_draft_26 hc_27) (cwV 1 hts (xgoodV g_853 g_855 gp_32 g_10 g_856) rfl rfl rfl (by decide +kernel) ⟨Nat.le_of_ble_eq_true rfl, Nat.le_of_ble_eq_true rfl⟩) hNz (ci := 8) (q0 := 0) rfl rfl hA hP hD hS hK [0, 1] [] [0] rfl rfl rfl rfl (by decide) rfl rfl rfl rfl hl.1 (Nat.le_of_ble_eq_true rfl) ⟨Nat.zero_le _, Nat.zero_le _⟩ d_Md_special_21 (fun H locs hP hD hS => ?_)
    have hP : va_P (dC, dI) x_cl [(a_t, .inr (8, [.int s_t_thrown, .int s_t_length, .ref a_t_text, .int s_t_place, .ref a_t_digits, .ref a_t_counts, .ref a_t_points, .ref a_t_limbs, .int s_t_limbCount, .int s_t_rows, .int s_t_columns, .ref a_t_cells, .int s_t_laid, .ref a_t_lines, .int s_t_size_25, .ref a_t_draft])), (a_t_draft, .inl (c_t_draft, n_t_draft, .inl e_t_draft_26))] H := hP
    have hD : va_D A [(a_t, .inr (8, [.int s_t_thrown, .int s_t_length, .ref a_t_text, .int s_t_place, .ref a_t_digits, .ref a_t_counts, .ref a_t_points, .ref a_t_limbs, .int s_t_limbCount, .int s_t_rows, .int s_t_columns, .ref a_t_cells, .int s_t_laid, .ref a_t_lines, .int s_t_size_25, .ref a_t_draft])), (a_t_draft, .inl (c_t_draft, n_t_draft, .inl e_t_draft_26))] := hD
    refine lv_iconst (v := 0) hx hb d_Md_special_24 (by decide) ?_
    replace h := Option.some.inj h
    replace h := Prod.mk.inj h
    obtain ⟨h1, h⟩ := h
    subst h1
    replace h := Prod.mk.inj h
    obtain ⟨h1, h⟩ := h
    subst h1
    subst h
    exact hret _ _ hP hD hS _ _ d_Md_special_25 rfl
def f_Md_scientific (n_t_digits : Nat) (n_t_counts : Nat) (n_t_points : Nat) (n_t_draft : Nat) (s_t_thrown : Int32) (s_t_length : Int32) (s_t_place : Int32) (s_t_limbCount : Int32) (s_t_rows : Int32) (s_t_columns : Int32) (s_t_laid : Int32) (s_t_size : Int32) (e_t_digits : Nat → Int32) (e_t_counts : Nat → Int32) (e_t_points : Nat → Int32) (e_t_draft : Nat → Int32) (x1 : Int32) : Option (Int32 × (Nat → Int32)) :=
  xob (f_Md_putDigits n_t_digits n_t_counts n_t_draft s_t_thrown s_t_length s_t_place s_t_limbCount s_t_rows s_t_columns s_t_laid s_t_size e_t_digits e_t_counts e_t_draft x1 (0 : Int32) (1 : Int32)) fun (s_t_size_1, e_t_draft_2) => if (x1 < 0 ∨ n_t_counts ≤ x1.toNatClampNeg) then none else xob (if (e_t_counts x1.toNatClampNeg) ≤ (1 : Int32) then (some (s_t_size_1, e_t_draft_2)) else (xob (f_Md_put n_t_draft s_t_thrown s_t_length s_t_place s_t_limbCount s_t_rows s_t_columns s_t_laid s_t_size_1 e_t_draft_2 (46 : Int32)) fun (s_t_size_44, e_t_draft_45) => if (x1 < 0 ∨ n_t_counts ≤ x1.toNatClampNeg) then none else xob (f_Md_putDigits n_t_digits n_t_counts n_t_draft s_t_thrown s_t_length s_t_place s_t_limbCount s_t_rows s_t_columns s_t_laid s_t_size_44 e_t_digits e_t_counts e_t_draft_45 x1 (1 : Int32) (e_t_counts x1.toNatClampNeg)) fun (s_t_size_48, e_t_draft_49) => some (s_t_size_48, e_t_draft_49))) fun (s_t_size_5, e_t_draft_6) => xob (f_Md_put n_t_draft s_t_thrown s_t_length s_t_place s_t_limbCount s_t_rows s_t_columns s_t_laid s_t_size_5 e_t_draft_6 (101 : Int32)) fun (s_t_size_9, e_t_draft_10) => if (x1 < 0 ∨ n_t_points ≤ x1.toNatClampNeg) then none else xnm ((e_t_points x1.toNatClampNeg) - (1 : Int32)) fun x2_13 => xob (if 0 ≤ x2_13 then (some (x2_13, s_t_size_9, e_t_draft_10)) else (xob (f_Md_put n_t_draft s_t_thrown s_t_length s_t_place s_t_limbCount s_t_rows s_t_columns s_t_laid s_t_size_9 e_t_draft_10 (45 : Int32)) fun (s_t_size_39, e_t_draft_40) => xnm (-x2_13) fun x2_42 => some (x2_42, s_t_size_39, e_t_draft_40))) fun (x2_14, s_t_size_15, e_t_draft_16) => xob (if x2_14 ≤ (99 : Int32) then (some (s_t_size_15, e_t_draft_16)) else (xob (f_Md_put n_t_draft s_t_thrown s_t_length s_t_place s_t_limbCount s_t_rows s_t_columns s_t_laid s_t_size_15 e_t_draft_16 ((48 : Int32) + (x2_14 / (100 : Int32)))) fun (s_t_size_35, e_t_draft_36) => some (s_t_size_35, e_t_draft_36))) fun (s_t_size_19, e_t_draft_20) => xob (if x2_14 ≤ (9 : Int32) then (some (s_t_size_19, e_t_draft_20)) else (xob (f_Md_put n_t_draft s_t_thrown s_t_length s_t_place s_t_limbCount s_t_rows s_t_columns s_t_laid s_t_size_19 e_t_draft_20 ((48 : Int32) + ((x2_14 / (10 : Int32)) - (x2_14 / (10 : Int32)) / (10 : Int32) * (10 : Int32)))) fun (s_t_size_31, e_t_draft_32) => some (s_t_size_31, e_t_draft_32))) fun (s_t_size_23, e_t_draft_24) => xob (f_Md_put n_t_draft s_t_thrown s_t_length s_t_place s_t_limbCount s_t_rows s_t_columns s_t_laid s_t_size_23 e_t_draft_24 ((48 : Int32) + (x2_14 - x2_14 / (10 : Int32) * (10 : Int32)))) fun (s_t_size_27, e_t_draft_28) => some (s_t_size_27, e_t_draft_28)
def rm_Md_scientific : Room := { frames := 2, cells := 0, slots := 0, locals := 45 }
set_option maxHeartbeats 4000000 in
set_option maxRecDepth 100000 in
theorem c_Md_scientific (l : Launch) (dC : Nat → ClassId) (dI : Nat → Nat → Nat) (a_t a_t_text a_t_digits a_t_counts a_t_points a_t_limbs a_t_cells a_t_lines a_t_draft : Nat) (c_t_digits c_t_counts c_t_points c_t_draft : ClassId) (n_t_digits : Nat) (n_t_counts : Nat) (n_t_points : Nat) (n_t_draft : Nat) (s_t_thrown : Int32) (s_t_length : Int32) (s_t_place : Int32) (s_t_limbCount : Int32) (s_t_rows : Int32) (s_t_columns : Int32) (s_t_laid : Int32) (s_t_size : Int32) (e_t_digits : Nat → Int32) (e_t_counts : Nat → Int32) (e_t_points : Nat → Int32) (e_t_draft : Nat → Int32) (x1 : Int32) (s_t_size_o : Int32) (e_t_draft_o : Nat → Int32) (h : f_Md_scientific n_t_digits n_t_counts n_t_points n_t_draft s_t_thrown s_t_length s_t_place s_t_limbCount s_t_rows s_t_columns s_t_laid s_t_size e_t_digits e_t_counts e_t_points e_t_draft x1 = some (s_t_size_o, e_t_draft_o)) : xM l y_Md_scientific (Cond.code y_Md_scientific b_Md_scientific 3 none :: xG) rm_Md_scientific (dC, dI) x_cl x_nz [.ref a_t, .int x1] [(c_t_digits, .int), (c_t_counts, .int), (c_t_points, .int), (c_t_draft, .int)] [(a_t, .inr (8, [.int s_t_thrown, .int s_t_length, .ref a_t_text, .int s_t_place, .ref a_t_digits, .ref a_t_counts, .ref a_t_points, .ref a_t_limbs, .int s_t_limbCount, .int s_t_rows, .int s_t_columns, .ref a_t_cells, .int s_t_laid, .ref a_t_lines, .int s_t_size, .ref a_t_draft])), (a_t_digits, .inl (c_t_digits, n_t_digits, .inl e_t_digits)), (a_t_counts, .inl (c_t_counts, n_t_counts, .inl e_t_counts)), (a_t_points, .inl (c_t_points, n_t_points, .inl e_t_points)), (a_t_draft, .inl (c_t_draft, n_t_draft, .inl e_t_draft))] none [(a_t, .inr (8, [.int s_t_thrown, .int s_t_length, .ref a_t_text, .int s_t_place, .ref a_t_digits, .ref a_t_counts, .ref a_t_points, .ref a_t_limbs, .int s_t_limbCount, .int s_t_rows, .int s_t_columns, .ref a_t_cells, .int s_t_laid, .ref a_t_lines, .int s_t_size_o, .ref a_t_draft])), (a_t_digits, .inl (c_t_digits, n_t_digits, .inl e_t_digits)), (a_t_counts, .inl (c_t_counts, n_t_counts, .inl e_t_counts)), (a_t_points, .inl (c_t_points, n_t_points, .inl e_t_points)), (a_t_draft, .inl (c_t_draft, n_t_draft, .inl e_t_draft_o))] := by
  unfold f_Md_scientific at h
  refine xM.mkV (cc := b_Md_scientific) (maxL := 3)  (by decide +kernel) rfl (Nat.le_of_ble_eq_true rfl) ?_
  intro p e s m args below meth c A Q ls hx hb hml hown hts hNz hA hP hD hK hl hret
  have hS : va_S A s.heap s.heap [] := va_S.rf
  have hl : lv_has ls 3 [(0, .ref a_t), (1, .int x1)] := hl
  refine lv_aload_n hx hb d_Md_scientific_0 rfl (lv_at hl 0 rfl) ?_
  refine lv_iload_n hx hb d_Md_scientific_1 rfl (lv_at hl 1 rfl) ?_
  refine lv_iconst (v := 0) hx hb d_Md_scientific_2 (by decide) ?_
  refine lv_iconst (v := 1) hx hb d_Md_scientific_3 (by decide) ?_
  replace h := xob_s h
  obtain ⟨⟨s_t_size_1, e_t_draft_2⟩, hc_3, h⟩ := h
  try dsimp only at h
  refine xcV (As := [.int x1, .int (0 : Int32), .int (1 : Int32)]) (rest := []) (st1 := []) (wr := [(a_t_points, .inl (c_t_points, n_t_points, .inl e_t_points))]) ⟨hx, hb, hml, hown, hts⟩ (c_Md_putDigits l dC dI a_t a_t_text a_t_digits a_t_counts a_t_points a_t_limbs a_t_cells a_t_lines a_t_draft c_t_digits c_t_counts c_t_draft n_t_digits n_t_counts n_t_draft s_t_thrown s_t_length s_t_place s_t_limbCount s_t_rows s_t_columns s_t_laid s_t_size e_t_digits e_t_counts e_t_draft x1 (0 : Int32) (1 : Int32) s_t_size_1 e_t_draft_2 hc_3) (cwV 3 hts (xgoodV g_892 g_894 gp_41 g_10 g_895) rfl rfl rfl (by decide +kernel) ⟨Nat.le_of_ble_eq_true rfl, Nat.le_of_ble_eq_true rfl⟩) hNz (ci := 8) (q0 := 0) rfl rfl hA hP hD hS hK [0, 1, 2, 4] [3] [0, 1, 3] rfl rfl rfl rfl (by decide) rfl rfl rfl rfl hl.1 (Nat.le_of_ble_eq_true rfl) ⟨Nat.zero_le _, Nat.zero_le _⟩ d_Md_scientific_4 (fun H locs hP hD hS => ?_)
  have hP : va_P (dC, dI) x_cl [(a_t_points, .inl (c_t_points, n_t_points, .inl e_t_points)), (a_t, .inr (8, [.int s_t_thrown, .int s_t_length, .ref a_t_text, .int s_t_place, .ref a_t_digits, .ref a_t_counts, .ref a_t_points, .ref a_t_limbs, .int s_t_limbCount, .int s_t_rows, .int s_t_columns, .ref a_t_cells, .int s_t_laid, .ref a_t_lines, .int s_t_size_1, .ref a_t_draft])), (a_t_digits, .inl (c_t_digits, n_t_digits, .inl e_t_digits)), (a_t_counts, .inl (c_t_counts, n_t_counts, .inl e_t_counts)), (a_t_draft, .inl (c_t_draft, n_t_draft, .inl e_t_draft_2))] H := hP
  have hD : va_D A [(a_t_points, .inl (c_t_points, n_t_points, .inl e_t_points)), (a_t, .inr (8, [.int s_t_thrown, .int s_t_length, .ref a_t_text, .int s_t_place, .ref a_t_digits, .ref a_t_counts, .ref a_t_points, .ref a_t_limbs, .int s_t_limbCount, .int s_t_rows, .int s_t_columns, .ref a_t_cells, .int s_t_laid, .ref a_t_lines, .int s_t_size_1, .ref a_t_draft])), (a_t_digits, .inl (c_t_digits, n_t_digits, .inl e_t_digits)), (a_t_counts, .inl (c_t_counts, n_t_counts, .inl e_t_counts)), (a_t_draft, .inl (c_t_draft, n_t_draft, .inl e_t_draft_2))] := hD
  refine lv_aload_n hx hb d_Md_scientific_7 rfl (lv_at hl 0 rfl) ?_
  refine va_get (D := (dC, dI)) (ci := 8) (v := .ref a_t_counts) (C := R_Md) (T := T_Md) (N := 16) hx hb hts in_Md hown hK hP 1 rfl rfl 5 (by decide) (hts _ g_711) (fun _ h9 => h9) rfl d_Md_scientific_8 ?_
  refine lv_iload_n hx hb d_Md_scientific_11 rfl (lv_at hl 1 rfl) ?_
  replace h := xg h
  obtain ⟨hg_4, h⟩ := h
  refine va_iald hx hb hK hP 3 1 rfl rfl hg_4 d_Md_scientific_12 ?_
  refine lv_iconst (v := 1) hx hb d_Md_scientific_13 (by decide) ?_
  replace h := xob_s h
  obtain ⟨⟨s_t_size_5, e_t_draft_6⟩, hj_7, h⟩ := h
  try dsimp only at h
  have hJ_8 : ∀ (H : Heap) (locs : List Loc) (ls : Array Slot), va_P (dC, dI) x_cl [(a_t, .inr (8, [.int s_t_thrown, .int s_t_length, .ref a_t_text, .int s_t_place, .ref a_t_digits, .ref a_t_counts, .ref a_t_points, .ref a_t_limbs, .int s_t_limbCount, .int s_t_rows, .int s_t_columns, .ref a_t_cells, .int s_t_laid, .ref a_t_lines, .int s_t_size_5, .ref a_t_draft])), (a_t_digits, .inl (c_t_digits, n_t_digits, .inl e_t_digits)), (a_t_counts, .inl (c_t_counts, n_t_counts, .inl e_t_counts)), (a_t_points, .inl (c_t_points, n_t_points, .inl e_t_points)), (a_t_draft, .inl (c_t_draft, n_t_draft, .inl e_t_draft_6))] H → va_D A [(a_t, .inr (8, [.int s_t_thrown, .int s_t_length, .ref a_t_text, .int s_t_place, .ref a_t_digits, .ref a_t_counts, .ref a_t_points, .ref a_t_limbs, .int s_t_limbCount, .int s_t_rows, .int s_t_columns, .ref a_t_cells, .int s_t_laid, .ref a_t_lines, .int s_t_size_5, .ref a_t_draft])), (a_t_digits, .inl (c_t_digits, n_t_digits, .inl e_t_digits)), (a_t_counts, .inl (c_t_counts, n_t_counts, .inl e_t_counts)), (a_t_points, .inl (c_t_points, n_t_points, .inl e_t_points)), (a_t_draft, .inl (c_t_draft, n_t_draft, .inl e_t_draft_6))] → va_S A s.heap H locs → lv_has ls 3 [(0, .ref a_t), (1, .int x1)] → W p l e rm_Md_scientific s m args below meth c H locs 0 0 Q (F0 m 35 ls []) := by
    intro H locs ls hP hD hS hl
    refine lv_aload_n hx hb d_Md_scientific_35 rfl (lv_at hl 0 rfl) ?_
    refine lv_bipush (v := 101) hx hb d_Md_scientific_36 (by decide) ?_
    replace h := xob_s h
    obtain ⟨⟨s_t_size_9, e_t_draft_10⟩, hc_11, h⟩ := h
    try dsimp only at h
    refine xcV (As := [.int (101 : Int32)]) (rest := []) (st1 := []) (wr := [(a_t_digits, .inl (c_t_digits, n_t_digits, .inl e_t_digits)), (a_t_counts, .inl (c_t_counts, n_t_counts, .inl e_t_counts)), (a_t_points, .inl (c_t_points, n_t_points, .inl e_t_points))]) ⟨hx, hb, hml, hown, hts⟩ (c_Md_put l dC dI a_t a_t_text a_t_digits a_t_counts a_t_points a_t_limbs a_t_cells a_t_lines a_t_draft c_t_draft n_t_draft s_t_thrown s_t_length s_t_place s_t_limbCount s_t_rows s_t_columns s_t_laid s_t_size_5 e_t_draft_6 (101 : Int32) s_t_size_9 e_t_draft_10 hc_11) (cwV 1 hts (xgoodV g_857 g_859 gp_33 g_10 g_860) rfl rfl rfl (by decide +kernel) ⟨Nat.le_of_ble_eq_true rfl, Nat.le_of_ble_eq_true rfl⟩) hNz (ci := 8) (q0 := 0) rfl rfl hA hP hD hS hK [0, 4] [1, 2, 3] [3] rfl rfl rfl rfl (by decide) rfl rfl rfl rfl hl.1 (Nat.le_of_ble_eq_true rfl) ⟨Nat.zero_le _, Nat.zero_le _⟩ d_Md_scientific_38 (fun H locs hP hD hS => ?_)
    have hP : va_P (dC, dI) x_cl [(a_t_digits, .inl (c_t_digits, n_t_digits, .inl e_t_digits)), (a_t_counts, .inl (c_t_counts, n_t_counts, .inl e_t_counts)), (a_t_points, .inl (c_t_points, n_t_points, .inl e_t_points)), (a_t, .inr (8, [.int s_t_thrown, .int s_t_length, .ref a_t_text, .int s_t_place, .ref a_t_digits, .ref a_t_counts, .ref a_t_points, .ref a_t_limbs, .int s_t_limbCount, .int s_t_rows, .int s_t_columns, .ref a_t_cells, .int s_t_laid, .ref a_t_lines, .int s_t_size_9, .ref a_t_draft])), (a_t_draft, .inl (c_t_draft, n_t_draft, .inl e_t_draft_10))] H := hP
    have hD : va_D A [(a_t_digits, .inl (c_t_digits, n_t_digits, .inl e_t_digits)), (a_t_counts, .inl (c_t_counts, n_t_counts, .inl e_t_counts)), (a_t_points, .inl (c_t_points, n_t_points, .inl e_t_points)), (a_t, .inr (8, [.int s_t_thrown, .int s_t_length, .ref a_t_text, .int s_t_place, .ref a_t_digits, .ref a_t_counts, .ref a_t_points, .ref a_t_limbs, .int s_t_limbCount, .int s_t_rows, .int s_t_columns, .ref a_t_cells, .int s_t_laid, .ref a_t_lines, .int s_t_size_9, .ref a_t_draft])), (a_t_draft, .inl (c_t_draft, n_t_draft, .inl e_t_draft_10))] := hD
    refine lv_aload_n hx hb d_Md_scientific_41 rfl (lv_at hl 0 rfl) ?_
    refine va_get (D := (dC, dI)) (ci := 8) (v := .ref a_t_points) (C := R_Md) (T := T_Md) (N := 16) hx hb hts in_Md hown hK hP 3 rfl rfl 6 (by decide) (hts _ g_712) (fun _ h9 => h9) rfl d_Md_scientific_42 ?_
    refine lv_iload_n hx hb d_Md_scientific_45 rfl (lv_at hl 1 rfl) ?_
    replace h := xg h
    obtain ⟨hg_12, h⟩ := h
    refine va_iald hx hb hK hP 2 2 rfl rfl hg_12 d_Md_scientific_46 ?_
    refine lv_iconst (v := 1) hx hb d_Md_scientific_47 (by decide) ?_
    refine lv_isub hx hb d_Md_scientific_48 ?_
    replace h := xnm_s h
    obtain ⟨x2_13, ex2_13, h⟩ := h
    refine x_topi ex2_13 ?_
    refine lv_istore_n (lv' := [(2, .int x2_13), (0, .ref a_t), (1, .int x1)]) hx hb d_Md_scientific_49 rfl hl (by decide) rfl (fun ls hl => ?_)
    refine lv_iload_n hx hb d_Md_scientific_50 rfl (lv_at hl 0 rfl) ?_
    replace h := xob_s h
    obtain ⟨⟨x2_14, s_t_size_15, e_t_draft_16⟩, hj_17, h⟩ := h
    try dsimp only at h
    have hJ_18 : ∀ (H : Heap) (locs : List Loc) (ls : Array Slot), va_P (dC, dI) x_cl [(a_t, .inr (8, [.int s_t_thrown, .int s_t_length, .ref a_t_text, .int s_t_place, .ref a_t_digits, .ref a_t_counts, .ref a_t_points, .ref a_t_limbs, .int s_t_limbCount, .int s_t_rows, .int s_t_columns, .ref a_t_cells, .int s_t_laid, .ref a_t_lines, .int s_t_size_15, .ref a_t_draft])), (a_t_digits, .inl (c_t_digits, n_t_digits, .inl e_t_digits)), (a_t_counts, .inl (c_t_counts, n_t_counts, .inl e_t_counts)), (a_t_points, .inl (c_t_points, n_t_points, .inl e_t_points)), (a_t_draft, .inl (c_t_draft, n_t_draft, .inl e_t_draft_16))] H → va_D A [(a_t, .inr (8, [.int s_t_thrown, .int s_t_length, .ref a_t_text, .int s_t_place, .ref a_t_digits, .ref a_t_counts, .ref a_t_points, .ref a_t_limbs, .int s_t_limbCount, .int s_t_rows, .int s_t_columns, .ref a_t_cells, .int s_t_laid, .ref a_t_lines, .int s_t_size_15, .ref a_t_draft])), (a_t_digits, .inl (c_t_digits, n_t_digits, .inl e_t_digits)), (a_t_counts, .inl (c_t_counts, n_t_counts, .inl e_t_counts)), (a_t_points, .inl (c_t_points, n_t_points, .inl e_t_points)), (a_t_draft, .inl (c_t_draft, n_t_draft, .inl e_t_draft_16))] → va_S A s.heap H locs → lv_has ls 3 [(0, .ref a_t), (2, .int x2_14)] → W p l e rm_Md_scientific s m args below meth c H locs 0 0 Q (F0 m 63 ls []) := by
      intro H locs ls hP hD hS hl
      refine lv_iload_n hx hb d_Md_scientific_63 rfl (lv_at hl 1 rfl) ?_
      refine lv_bipush (v := 99) hx hb d_Md_scientific_64 (by decide) ?_
      replace h := xob_s h
      obtain ⟨⟨s_t_size_19, e_t_draft_20⟩, hj_21, h⟩ := h
      try dsimp only at h
      have hJ_22 : ∀ (H : Heap) (locs : List Loc) (ls : Array Slot), va_P (dC, dI) x_cl [(a_t, .inr (8, [.int s_t_thrown, .int s_t_length, .ref a_t_text, .int s_t_place, .ref a_t_digits, .ref a_t_counts, .ref a_t_points, .ref a_t_limbs, .int s_t_limbCount, .int s_t_rows, .int s_t_columns, .ref a_t_cells, .int s_t_laid, .ref a_t_lines, .int s_t_size_19, .ref a_t_draft])), (a_t_digits, .inl (c_t_digits, n_t_digits, .inl e_t_digits)), (a_t_counts, .inl (c_t_counts, n_t_counts, .inl e_t_counts)), (a_t_points, .inl (c_t_points, n_t_points, .inl e_t_points)), (a_t_draft, .inl (c_t_draft, n_t_draft, .inl e_t_draft_20))] H → va_D A [(a_t, .inr (8, [.int s_t_thrown, .int s_t_length, .ref a_t_text, .int s_t_place, .ref a_t_digits, .ref a_t_counts, .ref a_t_points, .ref a_t_limbs, .int s_t_limbCount, .int s_t_rows, .int s_t_columns, .ref a_t_cells, .int s_t_laid, .ref a_t_lines, .int s_t_size_19, .ref a_t_draft])), (a_t_digits, .inl (c_t_digits, n_t_digits, .inl e_t_digits)), (a_t_counts, .inl (c_t_counts, n_t_counts, .inl e_t_counts)), (a_t_points, .inl (c_t_points, n_t_points, .inl e_t_points)), (a_t_draft, .inl (c_t_draft, n_t_draft, .inl e_t_draft_20))] → va_S A s.heap H locs → lv_has ls 3 [(0, .ref a_t), (2, .int x2_14)] → W p l e rm_Md_scientific s m args below meth c H locs 0 0 Q (F0 m 80 ls []) := by
        intro H locs ls hP hD hS hl
        refine lv_iload_n hx hb d_Md_scientific_80 rfl (lv_at hl 1 rfl) ?_
        refine lv_bipush (v := 9) hx hb d_Md_scientific_81 (by decide) ?_
        replace h := xob_s h
        obtain ⟨⟨s_t_size_23, e_t_draft_24⟩, hj_25, h⟩ := h
        try dsimp only at h
        have hJ_26 : ∀ (H : Heap) (locs : List Loc) (ls : Array Slot), va_P (dC, dI) x_cl [(a_t, .inr (8, [.int s_t_thrown, .int s_t_length, .ref a_t_text, .int s_t_place, .ref a_t_digits, .ref a_t_counts, .ref a_t_points, .ref a_t_limbs, .int s_t_limbCount, .int s_t_rows, .int s_t_columns, .ref a_t_cells, .int s_t_laid, .ref a_t_lines, .int s_t_size_23, .ref a_t_draft])), (a_t_digits, .inl (c_t_digits, n_t_digits, .inl e_t_digits)), (a_t_counts, .inl (c_t_counts, n_t_counts, .inl e_t_counts)), (a_t_points, .inl (c_t_points, n_t_points, .inl e_t_points)), (a_t_draft, .inl (c_t_draft, n_t_draft, .inl e_t_draft_24))] H → va_D A [(a_t, .inr (8, [.int s_t_thrown, .int s_t_length, .ref a_t_text, .int s_t_place, .ref a_t_digits, .ref a_t_counts, .ref a_t_points, .ref a_t_limbs, .int s_t_limbCount, .int s_t_rows, .int s_t_columns, .ref a_t_cells, .int s_t_laid, .ref a_t_lines, .int s_t_size_23, .ref a_t_draft])), (a_t_digits, .inl (c_t_digits, n_t_digits, .inl e_t_digits)), (a_t_counts, .inl (c_t_counts, n_t_counts, .inl e_t_counts)), (a_t_points, .inl (c_t_points, n_t_points, .inl e_t_points)), (a_t_draft, .inl (c_t_draft, n_t_draft, .inl e_t_draft_24))] → va_S A s.heap H locs → lv_has ls 3 [(0, .ref a_t), (2, .int x2_14)] → W p l e rm_Md_scientific s m args below meth c H locs 0 0 Q (F0 m 100 ls []) := by
          intro H locs ls hP hD hS hl
          refine lv_aload_n hx hb d_Md_scientific_100 rfl (lv_at hl 0 rfl) ?_
          refine lv_bipush (v := 48) hx hb d_Md_scientific_101 (by decide) ?_
          refine lv_iload_n hx hb d_Md_scientific_103 rfl (lv_at hl 1 rfl) ?_
          refine lv_bipush (v := 10) hx hb d_Md_scientific_104 (by decide) ?_
          refine lv_irem hx hb d_Md_scientific_106 (by decide) ?_
          refine lv_iadd hx hb d_Md_scientific_107 ?_
          replace h := xob_s h
          obtain ⟨⟨s_t_size_27, e_t_draft_28⟩, hc_29, h⟩ := h
          try dsimp only at h
          refine xcV (As := [.int ((48 : Int32) + (x2_14 - x2_14 / (10 : Int32) * (10 : Int32)))]) (rest := []) (st1 := []) (wr := [(a_t_digits, .inl (c_t_digits, n_t_digits, .inl e_t_digits)), (a_t_counts, .inl (c_t_counts, n_t_counts, .inl e_t_counts)), (a_t_points, .inl (c_t_points, n_t_points, .inl e_t_points))]) ⟨hx, hb, hml, hown, hts⟩ (c_Md_put l dC dI a_t a_t_text a_t_digits a_t_counts a_t_points a_t_limbs a_t_cells a_t_lines a_t_draft c_t_draft n_t_draft s_t_thrown s_t_length s_t_place s_t_limbCount s_t_rows s_t_columns s_t_laid s_t_size_23 e_t_draft_24 ((48 : Int32) + (x2_14 - x2_14 / (10 : Int32) * (10 : Int32))) s_t_size_27 e_t_draft_28 hc_29) (cwV 1 hts (xgoodV g_857 g_859 gp_33 g_10 g_860) rfl rfl rfl (by decide +kernel) ⟨Nat.le_of_ble_eq_true rfl, Nat.le_of_ble_eq_true rfl⟩) hNz (ci := 8) (q0 := 0) rfl rfl hA hP hD hS hK [0, 4] [1, 2, 3] [3] rfl rfl rfl rfl (by decide) rfl rfl rfl rfl hl.1 (Nat.le_of_ble_eq_true rfl) ⟨Nat.zero_le _, Nat.zero_le _⟩ d_Md_scientific_108 (fun H locs hP hD hS => ?_)
          have hP : va_P (dC, dI) x_cl [(a_t_digits, .inl (c_t_digits, n_t_digits, .inl e_t_digits)), (a_t_counts, .inl (c_t_counts, n_t_counts, .inl e_t_counts)), (a_t_points, .inl (c_t_points, n_t_points, .inl e_t_points)), (a_t, .inr (8, [.int s_t_thrown, .int s_t_length, .ref a_t_text, .int s_t_place, .ref a_t_digits, .ref a_t_counts, .ref a_t_points, .ref a_t_limbs, .int s_t_limbCount, .int s_t_rows, .int s_t_columns, .ref a_t_cells, .int s_t_laid, .ref a_t_lines, .int s_t_size_27, .ref a_t_draft])), (a_t_draft, .inl (c_t_draft, n_t_draft, .inl e_t_draft_28))] H := hP
          have hD : va_D A [(a_t_digits, .inl (c_t_digits, n_t_digits, .inl e_t_digits)), (a_t_counts, .inl (c_t_counts, n_t_counts, .inl e_t_counts)), (a_t_points, .inl (c_t_points, n_t_points, .inl e_t_points)), (a_t, .inr (8, [.int s_t_thrown, .int s_t_length, .ref a_t_text, .int s_t_place, .ref a_t_digits, .ref a_t_counts, .ref a_t_points, .ref a_t_limbs, .int s_t_limbCount, .int s_t_rows, .int s_t_columns, .ref a_t_cells, .int s_t_laid, .ref a_t_lines, .int s_t_size_27, .ref a_t_draft])), (a_t_draft, .inl (c_t_draft, n_t_draft, .inl e_t_draft_28))] := hD
          replace h := Option.some.inj h
          replace h := Prod.mk.inj h
          obtain ⟨h1, h⟩ := h
          subst h1
          subst h
          exact hret _ _ (hP.sub [3, 0, 1, 2, 4] rfl) (hD.sub [3, 0, 1, 2, 4] (by decide) rfl) hS _ _ d_Md_scientific_111
        replace h := hj_25
        clear hj_25
        refine lv_icmp_le (tgt := 100) hx hb d_Md_scientific_83 (by decide) (fun c_30 => ?_) (fun c_30 => ?_)
        · rw [if_pos c_30] at h
          replace h := Option.some.inj h
          replace h := Prod.mk.inj h
          obtain ⟨h1, h⟩ := h
          subst h1
          subst h
          exact hJ_26 _ _ _ hP hD hS hl
        · rw [if_neg c_30] at h
          refine lv_aload_n hx hb d_Md_scientific_86 rfl (lv_at hl 0 rfl) ?_
          refine lv_bipush (v := 48) hx hb d_Md_scientific_87 (by decide) ?_
          refine lv_iload_n hx hb d_Md_scientific_89 rfl (lv_at hl 1 rfl) ?_
          refine lv_bipush (v := 10) hx hb d_Md_scientific_90 (by decide) ?_
          refine lv_idiv hx hb d_Md_scientific_92 (by decide) ?_
          refine lv_bipush (v := 10) hx hb d_Md_scientific_93 (by decide) ?_
          refine lv_irem hx hb d_Md_scientific_95 (by decide) ?_
          refine lv_iadd hx hb d_Md_scientific_96 ?_
          replace h := xob_s h
          obtain ⟨⟨s_t_size_31, e_t_draft_32⟩, hc_33, h⟩ := h
          try dsimp only at h
          refine xcV (As := [.int ((48 : Int32) + ((x2_14 / (10 : Int32)) - (x2_14 / (10 : Int32)) / (10 : Int32) * (10 : Int32)))]) (rest := []) (st1 := []) (wr := [(a_t_digits, .inl (c_t_digits, n_t_digits, .inl e_t_digits)), (a_t_counts, .inl (c_t_counts, n_t_counts, .inl e_t_counts)), (a_t_points, .inl (c_t_points, n_t_points, .inl e_t_points))]) ⟨hx, hb, hml, hown, hts⟩ (c_Md_put l dC dI a_t a_t_text a_t_digits a_t_counts a_t_points a_t_limbs a_t_cells a_t_lines a_t_draft c_t_draft n_t_draft s_t_thrown s_t_length s_t_place s_t_limbCount s_t_rows s_t_columns s_t_laid s_t_size_19 e_t_draft_20 ((48 : Int32) + ((x2_14 / (10 : Int32)) - (x2_14 / (10 : Int32)) / (10 : Int32) * (10 : Int32))) s_t_size_31 e_t_draft_32 hc_33) (cwV 1 hts (xgoodV g_857 g_859 gp_33 g_10 g_860) rfl rfl rfl (by decide +kernel) ⟨Nat.le_of_ble_eq_true rfl, Nat.le_of_ble_eq_true rfl⟩) hNz (ci := 8) (q0 := 0) rfl rfl hA hP hD hS hK [0, 4] [1, 2, 3] [3] rfl rfl rfl rfl (by decide) rfl rfl rfl rfl hl.1 (Nat.le_of_ble_eq_true rfl) ⟨Nat.zero_le _, Nat.zero_le _⟩ d_Md_scientific_97 (fun H locs hP hD hS => ?_)
          have hP : va_P (dC, dI) x_cl [(a_t_digits, .inl (c_t_digits, n_t_digits, .inl e_t_digits)), (a_t_counts, .inl (c_t_counts, n_t_counts, .inl e_t_counts)), (a_t_points, .inl (c_t_points, n_t_points, .inl e_t_points)), (a_t, .inr (8, [.int s_t_thrown, .int s_t_length, .ref a_t_text, .int s_t_place, .ref a_t_digits, .ref a_t_counts, .ref a_t_points, .ref a_t_limbs, .int s_t_limbCount, .int s_t_rows, .int s_t_columns, .ref a_t_cells, .int s_t_laid, .ref a_t_lines, .int s_t_size_31, .ref a_t_draft])), (a_t_draft, .inl (c_t_draft, n_t_draft, .inl e_t_draft_32))] H := hP
          have hD : va_D A [(a_t_digits, .inl (c_t_digits, n_t_digits, .inl e_t_digits)), (a_t_counts, .inl (c_t_counts, n_t_counts, .inl e_t_counts)), (a_t_points, .inl (c_t_points, n_t_points, .inl e_t_points)), (a_t, .inr (8, [.int s_t_thrown, .int s_t_length, .ref a_t_text, .int s_t_place, .ref a_t_digits, .ref a_t_counts, .ref a_t_points, .ref a_t_limbs, .int s_t_limbCount, .int s_t_rows, .int s_t_columns, .ref a_t_cells, .int s_t_laid, .ref a_t_lines, .int s_t_size_31, .ref a_t_draft])), (a_t_draft, .inl (c_t_draft, n_t_draft, .inl e_t_draft_32))] := hD
          replace h := Option.some.inj h
          replace h := Prod.mk.inj h
          obtain ⟨h1, h⟩ := h
          subst h1
          subst h
          exact hJ_26 _ _ _ (hP.sub [3, 0, 1, 2, 4] rfl) (hD.sub [3, 0, 1, 2, 4] (by decide) rfl) hS hl
      replace h := hj_21
      clear hj_21
      refine lv_icmp_le (tgt := 80) hx hb d_Md_scientific_66 (by decide) (fun c_34 => ?_) (fun c_34 => ?_)
      · rw [if_pos c_34] at h
        replace h := Option.some.inj h
        replace h := Prod.mk.inj h
        obtain ⟨h1, h⟩ := h
        subst h1
        subst h
        exact hJ_22 _ _ _ hP hD hS hl
      · rw [if_neg c_34] at h
        refine lv_aload_n hx hb d_Md_scientific_69 rfl (lv_at hl 0 rfl) ?_
        refine lv_bipush (v := 48) hx hb d_Md_scientific_70 (by decide) ?_
        refine lv_iload_n hx hb d_Md_scientific_72 rfl (lv_at hl 1 rfl) ?_
        refine lv_bipush (v := 100) hx hb d_Md_scientific_73 (by decide) ?_
        refine lv_idiv hx hb d_Md_scientific_75 (by decide) ?_
        refine lv_iadd hx hb d_Md_scientific_76 ?_
        replace h := xob_s h
        obtain ⟨⟨s_t_size_35, e_t_draft_36⟩, hc_37, h⟩ := h
        try dsimp only at h
        refine xcV (As := [.int ((48 : Int32) + (x2_14 / (100 : Int32)))]) (rest := []) (st1 := []) (wr := [(a_t_digits, .inl (c_t_digits, n_t_digits, .inl e_t_digits)), (a_t_counts, .inl (c_t_counts, n_t_counts, .inl e_t_counts)), (a_t_points, .inl (c_t_points, n_t_points, .inl e_t_points))]) ⟨hx, hb, hml, hown, hts⟩ (c_Md_put l dC dI a_t a_t_text a_t_digits a_t_counts a_t_points a_t_limbs a_t_cells a_t_lines a_t_draft c_t_draft n_t_draft s_t_thrown s_t_length s_t_place s_t_limbCount s_t_rows s_t_columns s_t_laid s_t_size_15 e_t_draft_16 ((48 : Int32) + (x2_14 / (100 : Int32))) s_t_size_35 e_t_draft_36 hc_37) (cwV 1 hts (xgoodV g_857 g_859 gp_33 g_10 g_860) rfl rfl rfl (by decide +kernel) ⟨Nat.le_of_ble_eq_true rfl, Nat.le_of_ble_eq_true rfl⟩) hNz (ci := 8) (q0 := 0) rfl rfl hA hP hD hS hK [0, 4] [1, 2, 3] [3] rfl rfl rfl rfl (by decide) rfl rfl rfl rfl hl.1 (Nat.le_of_ble_eq_true rfl) ⟨Nat.zero_le _, Nat.zero_le _⟩ d_Md_scientific_77 (fun H locs hP hD hS => ?_)
        have hP : va_P (dC, dI) x_cl [(a_t_digits, .inl (c_t_digits, n_t_digits, .inl e_t_digits)), (a_t_counts, .inl (c_t_counts, n_t_counts, .inl e_t_counts)), (a_t_points, .inl (c_t_points, n_t_points, .inl e_t_points)), (a_t, .inr (8, [.int s_t_thrown, .int s_t_length, .ref a_t_text, .int s_t_place, .ref a_t_digits, .ref a_t_counts, .ref a_t_points, .ref a_t_limbs, .int s_t_limbCount, .int s_t_rows, .int s_t_columns, .ref a_t_cells, .int s_t_laid, .ref a_t_lines, .int s_t_size_35, .ref a_t_draft])), (a_t_draft, .inl (c_t_draft, n_t_draft, .inl e_t_draft_36))] H := hP
        have hD : va_D A [(a_t_digits, .inl (c_t_digits, n_t_digits, .inl e_t_digits)), (a_t_counts, .inl (c_t_counts, n_t_counts, .inl e_t_counts)), (a_t_points, .inl (c_t_points, n_t_points, .inl e_t_points)), (a_t, .inr (8, [.int s_t_thrown, .int s_t_length, .ref a_t_text, .int s_t_place, .ref a_t_digits, .ref a_t_counts, .ref a_t_points, .ref a_t_limbs, .int s_t_limbCount, .int s_t_rows, .int s_t_columns, .ref a_t_cells, .int s_t_laid, .ref a_t_lines, .int s_t_size_35, .ref a_t_draft])), (a_t_draft, .inl (c_t_draft, n_t_draft, .inl e_t_draft_36))] := hD
        replace h := Option.some.inj h
        replace h := Prod.mk.inj h
        obtain ⟨h1, h⟩ := h
        subst h1
        subst h
        exact hJ_22 _ _ _ (hP.sub [3, 0, 1, 2, 4] rfl) (hD.sub [3, 0, 1, 2, 4] (by decide) rfl) hS hl
    replace h := hj_17
    clear hj_17
    refine lv_if_ge (tgt := 63) hx hb d_Md_scientific_51 (by decide) (fun c_38 => ?_) (fun c_38 => ?_)
    · rw [if_pos c_38] at h
      replace h := Option.some.inj h
      replace h := Prod.mk.inj h
      obtain ⟨h1, h⟩ := h
      subst h1
      replace h := Prod.mk.inj h
      obtain ⟨h1, h⟩ := h
      subst h1
      subst h
      exact hJ_18 _ _ _ (hP.sub [3, 0, 1, 2, 4] rfl) (hD.sub [3, 0, 1, 2, 4] (by decide) rfl) hS (lv_sub hl [1, 0] rfl)
    · rw [if_neg c_38] at h
      refine lv_aload_n hx hb d_Md_scientific_54 rfl (lv_at hl 1 rfl) ?_
      refine lv_bipush (v := 45) hx hb d_Md_scientific_55 (by decide) ?_
      replace h := xob_s h
      obtain ⟨⟨s_t_size_39, e_t_draft_40⟩, hc_41, h⟩ := h
      try dsimp only at h
      refine xcV (As := [.int (45 : Int32)]) (rest := []) (st1 := []) (wr := [(a_t_digits, .inl (c_t_digits, n_t_digits, .inl e_t_digits)), (a_t_counts, .inl (c_t_counts, n_t_counts, .inl e_t_counts)), (a_t_points, .inl (c_t_points, n_t_points, .inl e_t_points))]) ⟨hx, hb, hml, hown, hts⟩ (c_Md_put l dC dI a_t a_t_text a_t_digits a_t_counts a_t_points a_t_limbs a_t_cells a_t_lines a_t_draft c_t_draft n_t_draft s_t_thrown s_t_length s_t_place s_t_limbCount s_t_rows s_t_columns s_t_laid s_t_size_9 e_t_draft_10 (45 : Int32) s_t_size_39 e_t_draft_40 hc_41) (cwV 1 hts (xgoodV g_857 g_859 gp_33 g_10 g_860) rfl rfl rfl (by decide +kernel) ⟨Nat.le_of_ble_eq_true rfl, Nat.le_of_ble_eq_true rfl⟩) hNz (ci := 8) (q0 := 3) rfl rfl hA hP hD hS hK [3, 4] [0, 1, 2] [3] rfl rfl rfl rfl (by decide) rfl rfl rfl rfl hl.1 (Nat.le_of_ble_eq_true rfl) ⟨Nat.zero_le _, Nat.zero_le _⟩ d_Md_scientific_57 (fun H locs hP hD hS => ?_)
      have hP : va_P (dC, dI) x_cl [(a_t_digits, .inl (c_t_digits, n_t_digits, .inl e_t_digits)), (a_t_counts, .inl (c_t_counts, n_t_counts, .inl e_t_counts)), (a_t_points, .inl (c_t_points, n_t_points, .inl e_t_points)), (a_t, .inr (8, [.int s_t_thrown, .int s_t_length, .ref a_t_text, .int s_t_place, .ref a_t_digits, .ref a_t_counts, .ref a_t_points, .ref a_t_limbs, .int s_t_limbCount, .int s_t_rows, .int s_t_columns, .ref a_t_cells, .int s_t_laid, .ref a_t_lines, .int s_t_size_39, .ref a_t_draft])), (a_t_draft, .inl (c_t_draft, n_t_draft, .inl e_t_draft_40))] H := hP
      have hD : va_D A [(a_t_digits, .inl (c_t_digits, n_t_digits, .inl e_t_digits)), (a_t_counts, .inl (c_t_counts, n_t_counts, .inl e_t_counts)), (a_t_points, .inl (c_t_points, n_t_points, .inl e_t_points)), (a_t, .inr (8, [.int s_t_thrown, .int s_t_length, .ref a_t_text, .int s_t_place, .ref a_t_digits, .ref a_t_counts, .ref a_t_points, .ref a_t_limbs, .int s_t_limbCount, .int s_t_rows, .int s_t_columns, .ref a_t_cells, .int s_t_laid, .ref a_t_lines, .int s_t_size_39, .ref a_t_draft])), (a_t_draft, .inl (c_t_draft, n_t_draft, .inl e_t_draft_40))] := hD
      refine lv_iload_n hx hb d_Md_scientific_60 rfl (lv_at hl 0 rfl) ?_
      refine lv_ineg hx hb d_Md_scientific_61 ?_
      replace h := xnm_s h
      obtain ⟨x2_42, ex2_42, h⟩ := h
      refine x_topi ex2_42 ?_
      refine lv_istore_n (lv' := [(2, .int x2_42), (0, .ref a_t), (1, .int x1)]) hx hb d_Md_scientific_62 rfl hl (by decide) rfl (fun ls hl => ?_)
      replace h := Option.some.inj h
      replace h := Prod.mk.inj h
      obtain ⟨h1, h⟩ := h
      subst h1
      replace h := Prod.mk.inj h
      obtain ⟨h1, h⟩ := h
      subst h1
      subst h
      exact hJ_18 _ _ _ (hP.sub [3, 0, 1, 2, 4] rfl) (hD.sub [3, 0, 1, 2, 4] (by decide) rfl) hS (lv_sub hl [1, 0] rfl)
  replace h := hj_7
  clear hj_7
  refine lv_icmp_le (tgt := 35) hx hb d_Md_scientific_14 (by decide) (fun c_43 => ?_) (fun c_43 => ?_)
  · rw [if_pos c_43] at h
    replace h := Option.some.inj h
    replace h := Prod.mk.inj h
    obtain ⟨h1, h⟩ := h
    subst h1
    subst h
    exact hJ_8 _ _ _ (hP.sub [1, 2, 3, 0, 4] rfl) (hD.sub [1, 2, 3, 0, 4] (by decide) rfl) hS hl
  · rw [if_neg c_43] at h
    refine lv_aload_n hx hb d_Md_scientific_17 rfl (lv_at hl 0 rfl) ?_
    refine lv_bipush (v := 46) hx hb d_Md_scientific_18 (by decide) ?_
    replace h := xob_s h
    obtain ⟨⟨s_t_size_44, e_t_draft_45⟩, hc_46, h⟩ := h
    try dsimp only at h
    refine xcV (As := [.int (46 : Int32)]) (rest := []) (st1 := []) (wr := [(a_t_points, .inl (c_t_points, n_t_points, .inl e_t_points)), (a_t_digits, .inl (c_t_digits, n_t_digits, .inl e_t_digits)), (a_t_counts, .inl (c_t_counts, n_t_counts, .inl e_t_counts))]) ⟨hx, hb, hml, hown, hts⟩ (c_Md_put l dC dI a_t a_t_text a_t_digits a_t_counts a_t_points a_t_limbs a_t_cells a_t_lines a_t_draft c_t_draft n_t_draft s_t_thrown s_t_length s_t_place s_t_limbCount s_t_rows s_t_columns s_t_laid s_t_size_1 e_t_draft_2 (46 : Int32) s_t_size_44 e_t_draft_45 hc_46) (cwV 1 hts (xgoodV g_857 g_859 gp_33 g_10 g_860) rfl rfl rfl (by decide +kernel) ⟨Nat.le_of_ble_eq_true rfl, Nat.le_of_ble_eq_true rfl⟩) hNz (ci := 8) (q0 := 1) rfl rfl hA hP hD hS hK [1, 4] [0, 2, 3] [3] rfl rfl rfl rfl (by decide) rfl rfl rfl rfl hl.1 (Nat.le_of_ble_eq_true rfl) ⟨Nat.zero_le _, Nat.zero_le _⟩ d_Md_scientific_20 (fun H locs hP hD hS => ?_)
    have hP : va_P (dC, dI) x_cl [(a_t_points, .inl (c_t_points, n_t_points, .inl e_t_points)), (a_t_digits, .inl (c_t_digits, n_t_digits, .inl e_t_digits)), (a_t_counts, .inl (c_t_counts, n_t_counts, .inl e_t_counts)), (a_t, .inr (8, [.int s_t_thrown, .int s_t_length, .ref a_t_text, .int s_t_place, .ref a_t_digits, .ref a_t_counts, .ref a_t_points, .ref a_t_limbs, .int s_t_limbCount, .int s_t_rows, .int s_t_columns, .ref a_t_cells, .int s_t_laid, .ref a_t_lines, .int s_t_size_44, .ref a_t_draft])), (a_t_draft, .inl (c_t_draft, n_t_draft, .inl e_t_draft_45))] H := hP
    have hD : va_D A [(a_t_points, .inl (c_t_points, n_t_points, .inl e_t_points)), (a_t_digits, .inl (c_t_digits, n_t_digits, .inl e_t_digits)), (a_t_counts, .inl (c_t_counts, n_t_counts, .inl e_t_counts)), (a_t, .inr (8, [.int s_t_thrown, .int s_t_length, .ref a_t_text, .int s_t_place, .ref a_t_digits, .ref a_t_counts, .ref a_t_points, .ref a_t_limbs, .int s_t_limbCount, .int s_t_rows, .int s_t_columns, .ref a_t_cells, .int s_t_laid, .ref a_t_lines, .int s_t_size_44, .ref a_t_draft])), (a_t_draft, .inl (c_t_draft, n_t_draft, .inl e_t_draft_45))] := hD
    refine lv_aload_n hx hb d_Md_scientific_23 rfl (lv_at hl 0 rfl) ?_
    refine lv_iload_n hx hb d_Md_scientific_24 rfl (lv_at hl 1 rfl) ?_
    refine lv_iconst (v := 1) hx hb d_Md_scientific_25 (by decide) ?_
    refine lv_aload_n hx hb d_Md_scientific_26 rfl (lv_at hl 0 rfl) ?_
    refine va_get (D := (dC, dI)) (ci := 8) (v := .ref a_t_counts) (C := R_Md) (T := T_Md) (N := 16) hx hb hts in_Md hown hK hP 3 rfl rfl 5 (by decide) (hts _ g_711) (fun _ h9 => h9) rfl d_Md_scientific_27 ?_
    refine lv_iload_n hx hb d_Md_scientific_30 rfl (lv_at hl 1 rfl) ?_
    replace h := xg h
    obtain ⟨hg_47, h⟩ := h
    refine va_iald hx hb hK hP 2 1 rfl rfl hg_47 d_Md_scientific_31 ?_
    replace h := xob_s h
    obtain ⟨⟨s_t_size_48, e_t_draft_49⟩, hc_50, h⟩ := h
    try dsimp only at h
    refine xcV (As := [.int x1, .int (1 : Int32), .int (e_t_counts x1.toNatClampNeg)]) (rest := []) (st1 := []) (wr := [(a_t_points, .inl (c_t_points, n_t_points, .inl e_t_points))]) ⟨hx, hb, hml, hown, hts⟩ (c_Md_putDigits l dC dI a_t a_t_text a_t_digits a_t_counts a_t_points a_t_limbs a_t_cells a_t_lines a_t_draft c_t_digits c_t_counts c_t_draft n_t_digits n_t_counts n_t_draft s_t_thrown s_t_length s_t_place s_t_limbCount s_t_rows s_t_columns s_t_laid s_t_size_44 e_t_digits e_t_counts e_t_draft_45 x1 (1 : Int32) (e_t_counts x1.toNatClampNeg) s_t_size_48 e_t_draft_49 hc_50) (cwV 3 hts (xgoodV g_892 g_894 gp_41 g_10 g_895) rfl rfl rfl (by decide +kernel) ⟨Nat.le_of_ble_eq_true rfl, Nat.le_of_ble_eq_true rfl⟩) hNz (ci := 8) (q0 := 3) rfl rfl hA hP hD hS hK [3, 1, 2, 4] [0] [0, 1, 3] rfl rfl rfl rfl (by decide) rfl rfl rfl rfl hl.1 (Nat.le_of_ble_eq_true rfl) ⟨Nat.zero_le _, Nat.zero_le _⟩ d_Md_scientific_32 (fun H locs hP hD hS => ?_)
    have hP : va_P (dC, dI) x_cl [(a_t_points, .inl (c_t_points, n_t_points, .inl e_t_points)), (a_t, .inr (8, [.int s_t_thrown, .int s_t_length, .ref a_t_text, .int s_t_place, .ref a_t_digits, .ref a_t_counts, .ref a_t_points, .ref a_t_limbs, .int s_t_limbCount, .int s_t_rows, .int s_t_columns, .ref a_t_cells, .int s_t_laid, .ref a_t_lines, .int s_t_size_48, .ref a_t_draft])), (a_t_digits, .inl (c_t_digits, n_t_digits, .inl e_t_digits)), (a_t_counts, .inl (c_t_counts, n_t_counts, .inl e_t_counts)), (a_t_draft, .inl (c_t_draft, n_t_draft, .inl e_t_draft_49))] H := hP
    have hD : va_D A [(a_t_points, .inl (c_t_points, n_t_points, .inl e_t_points)), (a_t, .inr (8, [.int s_t_thrown, .int s_t_length, .ref a_t_text, .int s_t_place, .ref a_t_digits, .ref a_t_counts, .ref a_t_points, .ref a_t_limbs, .int s_t_limbCount, .int s_t_rows, .int s_t_columns, .ref a_t_cells, .int s_t_laid, .ref a_t_lines, .int s_t_size_48, .ref a_t_draft])), (a_t_digits, .inl (c_t_digits, n_t_digits, .inl e_t_digits)), (a_t_counts, .inl (c_t_counts, n_t_counts, .inl e_t_counts)), (a_t_draft, .inl (c_t_draft, n_t_draft, .inl e_t_draft_49))] := hD
    replace h := Option.some.inj h
    replace h := Prod.mk.inj h
    obtain ⟨h1, h⟩ := h
    subst h1
    subst h
    exact hJ_8 _ _ _ (hP.sub [1, 2, 3, 0, 4] rfl) (hD.sub [1, 2, 3, 0, 4] (by decide) rfl) hS hl
def f_Md_isPlain (n_t_points : Nat) (s_t_thrown : Int32) (s_t_length : Int32) (s_t_place : Int32) (s_t_limbCount : Int32) (s_t_rows : Int32) (s_t_columns : Int32) (s_t_laid : Int32) (s_t_size : Int32) (e_t_points : Nat → Int32) (x1 : Int32) : Option (Int32) :=
  if (x1 < 0 ∨ n_t_points ≤ x1.toNatClampNeg) then none else xob (f_Md_in (e_t_points x1.toNatClampNeg) (-3 : Int32) (16 : Int32)) fun r_2 => some r_2
def rm_Md_isPlain : Room := { frames := 1, cells := 0, slots := 0, locals := 22 }
set_option maxHeartbeats 4000000 in
set_option maxRecDepth 100000 in
theorem c_Md_isPlain (l : Launch) (dC : Nat → ClassId) (dI : Nat → Nat → Nat) (a_t a_t_text a_t_digits a_t_counts a_t_points a_t_limbs a_t_cells a_t_lines a_t_draft : Nat) (c_t_points : ClassId) (n_t_points : Nat) (s_t_thrown : Int32) (s_t_length : Int32) (s_t_place : Int32) (s_t_limbCount : Int32) (s_t_rows : Int32) (s_t_columns : Int32) (s_t_laid : Int32) (s_t_size : Int32) (e_t_points : Nat → Int32) (x1 : Int32) (r_ : Int32) (h : f_Md_isPlain n_t_points s_t_thrown s_t_length s_t_place s_t_limbCount s_t_rows s_t_columns s_t_laid s_t_size e_t_points x1 = some r_) : xM l y_Md_isPlain (Cond.code y_Md_isPlain b_Md_isPlain 2 (some .boolean) :: xG) rm_Md_isPlain (dC, dI) x_cl x_nz [.ref a_t, .int x1] [(c_t_points, .int)] [(a_t, .inr (8, [.int s_t_thrown, .int s_t_length, .ref a_t_text, .int s_t_place, .ref a_t_digits, .ref a_t_counts, .ref a_t_points, .ref a_t_limbs, .int s_t_limbCount, .int s_t_rows, .int s_t_columns, .ref a_t_cells, .int s_t_laid, .ref a_t_lines, .int s_t_size, .ref a_t_draft])), (a_t_points, .inl (c_t_points, n_t_points, .inl e_t_points))] (some (.int r_)) [(a_t, .inr (8, [.int s_t_thrown, .int s_t_length, .ref a_t_text, .int s_t_place, .ref a_t_digits, .ref a_t_counts, .ref a_t_points, .ref a_t_limbs, .int s_t_limbCount, .int s_t_rows, .int s_t_columns, .ref a_t_cells, .int s_t_laid, .ref a_t_lines, .int s_t_size, .ref a_t_draft])), (a_t_points, .inl (c_t_points, n_t_points, .inl e_t_points))] := by
  unfold f_Md_isPlain at h
  refine xM.mkZ (cc := b_Md_isPlain) (maxL := 2)  (by decide +kernel) rfl (Nat.le_of_ble_eq_true rfl) ?_
  intro p e s m args below meth c A Q ls hx hb hml hown hts hNz hA hP hD hK hl hret
  have hS : va_S A s.heap s.heap [] := va_S.rf
  have hl : lv_has ls 2 [(0, .ref a_t), (1, .int x1)] := hl
  refine lv_aload_n hx hb d_Md_isPlain_0 rfl (lv_at hl 0 rfl) ?_
  refine va_get (D := (dC, dI)) (ci := 8) (v := .ref a_t_points) (C := R_Md) (T := T_Md) (N := 16) hx hb hts in_Md hown hK hP 0 rfl rfl 6 (by decide) (hts _ g_712) (fun _ h9 => h9) rfl d_Md_isPlain_1 ?_
  refine lv_iload_n hx hb d_Md_isPlain_4 rfl (lv_at hl 1 rfl) ?_
  replace h := xg h
  obtain ⟨hg_1, h⟩ := h
  refine va_iald hx hb hK hP 1 0 rfl rfl hg_1 d_Md_isPlain_5 ?_
  refine lv_bipush (v := -3) hx hb d_Md_isPlain_6 (by decide) ?_
  refine lv_bipush (v := 16) hx hb d_Md_isPlain_8 (by decide) ?_
  replace h := xob_s h
  obtain ⟨r_2, hc_3, h⟩ := h
  try dsimp only at h
  refine xcS (As := [.int (e_t_points x1.toNatClampNeg), .int (-3 : Int32), .int (16 : Int32)]) (rest := []) (st1 := [.int r_2]) (wr := [(a_t, .inr (8, [.int s_t_thrown, .int s_t_length, .ref a_t_text, .int s_t_place, .ref a_t_digits, .ref a_t_counts, .ref a_t_points, .ref a_t_limbs, .int s_t_limbCount, .int s_t_rows, .int s_t_columns, .ref a_t_cells, .int s_t_laid, .ref a_t_lines, .int s_t_size, .ref a_t_draft])), (a_t_points, .inl (c_t_points, n_t_points, .inl e_t_points))]) ⟨hx, hb, hml, hown, hts⟩ (c_Md_in l dC dI (e_t_points x1.toNatClampNeg) (-3 : Int32) (16 : Int32) r_2 hc_3) (⟨callB_of 3 hts (xgood g_765) rfl rfl rfl (hts _ g_10) (hts _ g_763) (by decide +kernel) ⟨Nat.le_of_ble_eq_true rfl, Nat.le_of_ble_eq_true rfl⟩, (hts _ g_764)⟩) hNz hA hP hD hS hK [] [0, 1] [] rfl rfl rfl rfl (by decide) rfl rfl rfl rfl hl.1 (Nat.le_of_ble_eq_true rfl) ⟨Nat.zero_le _, Nat.zero_le _⟩ d_Md_isPlain_10 (fun H locs hP hD hS => ?_)
  have hP : va_P (dC, dI) x_cl [(a_t, .inr (8, [.int s_t_thrown, .int s_t_length, .ref a_t_text, .int s_t_place, .ref a_t_digits, .ref a_t_counts, .ref a_t_points, .ref a_t_limbs, .int s_t_limbCount, .int s_t_rows, .int s_t_columns, .ref a_t_cells, .int s_t_laid, .ref a_t_lines, .int s_t_size, .ref a_t_draft])), (a_t_points, .inl (c_t_points, n_t_points, .inl e_t_points))] H := hP
  have hD : va_D A [(a_t, .inr (8, [.int s_t_thrown, .int s_t_length, .ref a_t_text, .int s_t_place, .ref a_t_digits, .ref a_t_counts, .ref a_t_points, .ref a_t_limbs, .int s_t_limbCount, .int s_t_rows, .int s_t_columns, .ref a_t_cells, .int s_t_laid, .ref a_t_lines, .int s_t_size, .ref a_t_draft])), (a_t_points, .inl (c_t_points, n_t_points, .inl e_t_points))] := hD
  replace h := Option.some.inj h
  subst h
  exact hret _ _ hP hD hS _ _ d_Md_isPlain_13 (z_Md_in hc_3)
def f_Md_written (n_t_digits : Nat) (n_t_counts : Nat) (n_t_points : Nat) (n_t_draft : Nat) (s_t_thrown : Int32) (s_t_length : Int32) (s_t_place : Int32) (s_t_limbCount : Int32) (s_t_rows : Int32) (s_t_columns : Int32) (s_t_laid : Int32) (s_t_size : Int32) (e_t_digits : Nat → Int32) (e_t_counts : Nat → Int32) (e_t_points : Nat → Int32) (e_t_draft : Nat → Int32) (x1 : Int32) : Option (Int32 × (Nat → Int32)) :=
  if (x1 < 0 ∨ n_t_points ≤ x1.toNatClampNeg) then none else xnm (e_t_points x1.toNatClampNeg) fun x2_2 => xob (f_Md_isPlain n_t_points s_t_thrown s_t_length s_t_place s_t_limbCount s_t_rows s_t_columns s_t_laid s_t_size e_t_points x1) fun r_3 => if r_3 = 0 then (xob (f_Md_scientific n_t_digits n_t_counts n_t_points n_t_draft s_t_thrown s_t_length s_t_place s_t_limbCount s_t_rows s_t_columns s_t_laid s_t_size e_t_digits e_t_counts e_t_points e_t_draft x1) fun (s_t_size_40, e_t_draft_41) => some (s_t_size_40, e_t_draft_41)) else (if 0 < x2_2 then (if (x1 < 0 ∨ n_t_counts ≤ x1.toNatClampNeg) then none else if x2_2 < (e_t_counts x1.toNatClampNeg) then (xob (f_Md_putDigits n_t_digits n_t_counts n_t_draft s_t_thrown s_t_length s_t_place s_t_limbCount s_t_rows s_t_columns s_t_laid s_t_size e_t_digits e_t_counts e_t_draft x1 (0 : Int32) x2_2) fun (s_t_size_9, e_t_draft_10) => xob (f_Md_put n_t_draft s_t_thrown s_t_length s_t_place s_t_limbCount s_t_rows s_t_columns s_t_laid s_t_size_9 e_t_draft_10 (46 : Int32)) fun (s_t_size_12, e_t_draft_13) => if (x1 < 0 ∨ n_t_counts ≤ x1.toNatClampNeg) then none else xob (f_Md_putDigits n_t_digits n_t_counts n_t_draft s_t_thrown s_t_length s_t_place s_t_limbCount s_t_rows s_t_columns s_t_laid s_t_size_12 e_t_digits e_t_counts e_t_draft_13 x1 x2_2 (e_t_counts x1.toNatClampNeg)) fun (s_t_size_16, e_t_draft_17) => some (s_t_size_16, e_t_draft_17)) else (if (x1 < 0 ∨ n_t_counts ≤ x1.toNatClampNeg) then none else xob (f_Md_putDigits n_t_digits n_t_counts n_t_draft s_t_thrown s_t_length s_t_place s_t_limbCount s_t_rows s_t_columns s_t_laid s_t_size e_t_digits e_t_counts e_t_draft x1 (0 : Int32) (e_t_counts x1.toNatClampNeg)) fun (s_t_size_20, e_t_draft_21) => if (x1 < 0 ∨ n_t_counts ≤ x1.toNatClampNeg) then none else xob (f_Md_putZeros n_t_draft s_t_thrown s_t_length s_t_place s_t_limbCount s_t_rows s_t_columns s_t_laid s_t_size_20 e_t_draft_21 (x2_2 - (e_t_counts x1.toNatClampNeg))) fun (s_t_size_24, e_t_draft_25) => some (s_t_size_24, e_t_draft_25))) else (xob (f_Md_put n_t_draft s_t_thrown s_t_length s_t_place s_t_limbCount s_t_rows s_t_columns s_t_laid s_t_size e_t_draft (48 : Int32)) fun (s_t_size_27, e_t_draft_28) => xob (f_Md_put n_t_draft s_t_thrown s_t_length s_t_place s_t_limbCount s_t_rows s_t_columns s_t_laid s_t_size_27 e_t_draft_28 (46 : Int32)) fun (s_t_size_30, e_t_draft_31) => xob (f_Md_putZeros n_t_draft s_t_thrown s_t_length s_t_place s_t_limbCount s_t_rows s_t_columns s_t_laid s_t_size_30 e_t_draft_31 (-x2_2)) fun (s_t_size_33, e_t_draft_34) => if (x1 < 0 ∨ n_t_counts ≤ x1.toNatClampNeg) then none else xob (f_Md_putDigits n_t_digits n_t_counts n_t_draft s_t_thrown s_t_length s_t_place s_t_limbCount s_t_rows s_t_columns s_t_laid s_t_size_33 e_t_digits e_t_counts e_t_draft_34 x1 (0 : Int32) (e_t_counts x1.toNatClampNeg)) fun (s_t_size_37, e_t_draft_38) => some (s_t_size_37, e_t_draft_38)))
def rm_Md_written : Room := { frames := 3, cells := 0, slots := 0, locals := 67 }
set_option maxHeartbeats 4000000 in
set_option maxRecDepth 100000 in
theorem c_Md_written (l : Launch) (dC : Nat → ClassId) (dI : Nat → Nat → Nat) (a_t a_t_text a_t_digits a_t_counts a_t_points a_t_limbs a_t_cells a_t_lines a_t_draft : Nat) (c_t_digits c_t_counts c_t_points c_t_draft : ClassId) (n_t_digits : Nat) (n_t_counts : Nat) (n_t_points : Nat) (n_t_draft : Nat) (s_t_thrown : Int32) (s_t_length : Int32) (s_t_place : Int32) (s_t_limbCount : Int32) (s_t_rows : Int32) (s_t_columns : Int32) (s_t_laid : Int32) (s_t_size : Int32) (e_t_digits : Nat → Int32) (e_t_counts : Nat → Int32) (e_t_points : Nat → Int32) (e_t_draft : Nat → Int32) (x1 : Int32) (s_t_size_o : Int32) (e_t_draft_o : Nat → Int32) (h : f_Md_written n_t_digits n_t_counts n_t_points n_t_draft s_t_thrown s_t_length s_t_place s_t_limbCount s_t_rows s_t_columns s_t_laid s_t_size e_t_digits e_t_counts e_t_points e_t_draft x1 = some (s_t_size_o, e_t_draft_o)) : xM l y_Md_written (Cond.code y_Md_written b_Md_written 3 none :: xG) rm_Md_written (dC, dI) x_cl x_nz [.ref a_t, .int x1] [(c_t_digits, .int), (c_t_counts, .int), (c_t_points, .int), (c_t_draft, .int)] [(a_t, .inr (8, [.int s_t_thrown, .int s_t_length, .ref a_t_text, .int s_t_place, .ref a_t_digits, .ref a_t_counts, .ref a_t_points, .ref a_t_limbs, .int s_t_limbCount, .int s_t_rows, .int s_t_columns, .ref a_t_cells, .int s_t_laid, .ref a_t_lines, .int s_t_size, .ref a_t_draft])), (a_t_digits, .inl (c_t_digits, n_t_digits, .inl e_t_digits)), (a_t_counts, .inl (c_t_counts, n_t_counts, .inl e_t_counts)), (a_t_points, .inl (c_t_points, n_t_points, .inl e_t_points)), (a_t_draft, .inl (c_t_draft, n_t_draft, .inl e_t_draft))] none [(a_t, .inr (8, [.int s_t_thrown, .int s_t_length, .ref a_t_text, .int s_t_place, .ref a_t_digits, .ref a_t_counts, .ref a_t_points, .ref a_t_limbs, .int s_t_limbCount, .int s_t_rows, .int s_t_columns, .ref a_t_cells, .int s_t_laid, .ref a_t_lines, .int s_t_size_o, .ref a_t_draft])), (a_t_digits, .inl (c_t_digits, n_t_digits, .inl e_t_digits)), (a_t_counts, .inl (c_t_counts, n_t_counts, .inl e_t_counts)), (a_t_points, .inl (c_t_points, n_t_points, .inl e_t_points)), (a_t_draft, .inl (c_t_draft, n_t_draft, .inl e_t_draft_o))] := by
  unfold f_Md_written at h
  refine xM.mkV (cc := b_Md_written) (maxL := 3)  (by decide +kernel) rfl (Nat.le_of_ble_eq_true rfl) ?_
  intro p e s m args below meth c A Q ls hx hb hml hown hts hNz hA hP hD hK hl hret
  have hS : va_S A s.heap s.heap [] := va_S.rf
  have hl : lv_has ls 3 [(0, .ref a_t), (1, .int x1)] := hl
  refine lv_aload_n hx hb d_Md_written_0 rfl (lv_at hl 0 rfl) ?_
  refine va_get (D := (dC, dI)) (ci := 8) (v := .ref a_t_points) (C := R_Md) (T := T_Md) (N := 16) hx hb hts in_Md hown hK hP 0 rfl rfl 6 (by decide) (hts _ g_712) (fun _ h9 => h9) rfl d_Md_written_1 ?_
  refine lv_iload_n hx hb d_Md_written_4 rfl (lv_at hl 1 rfl) ?_
  replace h := xg h
  obtain ⟨hg_1, h⟩ := h
  refine va_iald hx hb hK hP 3 2 rfl rfl hg_1 d_Md_written_5 ?_
  replace h := xnm_s h
  obtain ⟨x2_2, ex2_2, h⟩ := h
  refine x_topi ex2_2 ?_
  refine lv_istore_n (lv' := [(2, .int x2_2), (0, .ref a_t), (1, .int x1)]) hx hb d_Md_written_6 rfl hl (by decide) rfl (fun ls hl => ?_)
  refine lv_aload_n hx hb d_Md_written_7 rfl (lv_at hl 1 rfl) ?_
  refine lv_iload_n hx hb d_Md_written_8 rfl (lv_at hl 2 rfl) ?_
  replace h := xob_s h
  obtain ⟨r_3, hc_4, h⟩ := h
  try dsimp only at h
  refine xcV (As := [.int x1]) (rest := []) (st1 := [.int r_3]) (wr := [(a_t_digits, .inl (c_t_digits, n_t_digits, .inl e_t_digits)), (a_t_counts, .inl (c_t_counts, n_t_counts, .inl e_t_counts)), (a_t_draft, .inl (c_t_draft, n_t_draft, .inl e_t_draft))]) ⟨hx, hb, hml, hown, hts⟩ (c_Md_isPlain l dC dI a_t a_t_text a_t_digits a_t_counts a_t_points a_t_limbs a_t_cells a_t_lines a_t_draft c_t_points n_t_points s_t_thrown s_t_length s_t_place s_t_limbCount s_t_rows s_t_columns s_t_laid s_t_size e_t_points x1 r_3 hc_4) (cwV 1 hts (xgoodV g_884 g_886 gp_39 g_10 g_887) rfl rfl rfl (by decide +kernel) ⟨Nat.le_of_ble_eq_true rfl, Nat.le_of_ble_eq_true rfl⟩) hNz (ci := 8) (q0 := 0) rfl rfl hA hP hD hS hK [0, 3] [1, 2, 4] [2] rfl rfl rfl rfl (by decide) rfl rfl rfl rfl hl.1 (Nat.le_of_ble_eq_true rfl) ⟨Nat.zero_le _, Nat.zero_le _⟩ d_Md_written_9 (fun H locs hP hD hS => ?_)
  have hP : va_P (dC, dI) x_cl [(a_t_digits, .inl (c_t_digits, n_t_digits, .inl e_t_digits)), (a_t_counts, .inl (c_t_counts, n_t_counts, .inl e_t_counts)), (a_t_draft, .inl (c_t_draft, n_t_draft, .inl e_t_draft)), (a_t, .inr (8, [.int s_t_thrown, .int s_t_length, .ref a_t_text, .int s_t_place, .ref a_t_digits, .ref a_t_counts, .ref a_t_points, .ref a_t_limbs, .int s_t_limbCount, .int s_t_rows, .int s_t_columns, .ref a_t_cells, .int s_t_laid, .ref a_t_lines, .int s_t_size, .ref a_t_draft])), (a_t_points, .inl (c_t_points, n_t_points, .inl e_t_points))] H := hP
  have hD : va_D A [(a_t_digits, .inl (c_t_digits, n_t_digits, .inl e_t_digits)), (a_t_counts, .inl (c_t_counts, n_t_counts, .inl e_t_counts)), (a_t_draft, .inl (c_t_draft, n_t_draft, .inl e_t_draft)), (a_t, .inr (8, [.int s_t_thrown, .int s_t_length, .ref a_t_text, .int s_t_place, .ref a_t_digits, .ref a_t_counts, .ref a_t_points, .ref a_t_limbs, .int s_t_limbCount, .int s_t_rows, .int s_t_columns, .ref a_t_cells, .int s_t_laid, .ref a_t_lines, .int s_t_size, .ref a_t_draft])), (a_t_points, .inl (c_t_points, n_t_points, .inl e_t_points))] := hD
  refine lv_if_ne (tgt := 23) hx hb d_Md_written_12 (by decide) (fun c_5 => ?_) (fun c_5 => ?_)
  · rw [if_neg c_5] at h
    refine lv_iload_n hx hb d_Md_written_23 rfl (lv_at hl 0 rfl) ?_
    refine lv_if_gt (tgt := 60) hx hb d_Md_written_24 (by decide) (fun c_6 => ?_) (fun c_6 => ?_)
    · rw [if_pos c_6] at h
      refine lv_iload_n hx hb d_Md_written_60 rfl (lv_at hl 0 rfl) ?_
      refine lv_aload_n hx hb d_Md_written_61 rfl (lv_at hl 1 rfl) ?_
      refine va_get (D := (dC, dI)) (ci := 8) (v := .ref a_t_counts) (C := R_Md) (T := T_Md) (N := 16) hx hb hts in_Md hown hK hP 3 rfl rfl 5 (by decide) (hts _ g_711) (fun _ h9 => h9) rfl d_Md_written_62 ?_
      refine lv_iload_n hx hb d_Md_written_65 rfl (lv_at hl 2 rfl) ?_
      replace h := xg h
      obtain ⟨hg_7, h⟩ := h
      refine va_iald hx hb hK hP 1 1 rfl rfl hg_7 d_Md_written_66 ?_
      refine lv_icmp_lt (tgt := 97) hx hb d_Md_written_67 (by decide) (fun c_8 => ?_) (fun c_8 => ?_)
      · rw [if_pos c_8] at h
        refine lv_aload_n hx hb d_Md_written_97 rfl (lv_at hl 1 rfl) ?_
        refine lv_iload_n hx hb d_Md_written_98 rfl (lv_at hl 2 rfl) ?_
        refine lv_iconst (v := 0) hx hb d_Md_written_99 (by decide) ?_
        refine lv_iload_n hx hb d_Md_written_100 rfl (lv_at hl 0 rfl) ?_
        replace h := xob_s h
        obtain ⟨⟨s_t_size_9, e_t_draft_10⟩, hc_11, h⟩ := h
        try dsimp only at h
        refine xcV (As := [.int x1, .int (0 : Int32), .int x2_2]) (rest := []) (st1 := []) (wr := [(a_t_points, .inl (c_t_points, n_t_points, .inl e_t_points))]) ⟨hx, hb, hml, hown, hts⟩ (c_Md_putDigits l dC dI a_t a_t_text a_t_digits a_t_counts a_t_points a_t_limbs a_t_cells a_t_lines a_t_draft c_t_digits c_t_counts c_t_draft n_t_digits n_t_counts n_t_draft s_t_thrown s_t_length s_t_place s_t_limbCount s_t_rows s_t_columns s_t_laid s_t_size e_t_digits e_t_counts e_t_draft x1 (0 : Int32) x2_2 s_t_size_9 e_t_draft_10 hc_11) (cwV 3 hts (xgoodV g_892 g_894 gp_41 g_10 g_895) rfl rfl rfl (by decide +kernel) ⟨Nat.le_of_ble_eq_true rfl, Nat.le_of_ble_eq_true rfl⟩) hNz (ci := 8) (q0 := 3) rfl rfl hA hP hD hS hK [3, 0, 1, 2] [4] [0, 1, 3] rfl rfl rfl rfl (by decide) rfl rfl rfl rfl hl.1 (Nat.le_of_ble_eq_true rfl) ⟨Nat.zero_le _, Nat.zero_le _⟩ d_Md_written_101 (fun H locs hP hD hS => ?_)
        have hP : va_P (dC, dI) x_cl [(a_t_points, .inl (c_t_points, n_t_points, .inl e_t_points)), (a_t, .inr (8, [.int s_t_thrown, .int s_t_length, .ref a_t_text, .int s_t_place, .ref a_t_digits, .ref a_t_counts, .ref a_t_points, .ref a_t_limbs, .int s_t_limbCount, .int s_t_rows, .int s_t_columns, .ref a_t_cells, .int s_t_laid, .ref a_t_lines, .int s_t_size_9, .ref a_t_draft])), (a_t_digits, .inl (c_t_digits, n_t_digits, .inl e_t_digits)), (a_t_counts, .inl (c_t_counts, n_t_counts, .inl e_t_counts)), (a_t_draft, .inl (c_t_draft, n_t_draft, .inl e_t_draft_10))] H := hP
        have hD : va_D A [(a_t_points, .inl (c_t_points, n_t_points, .inl e_t_points)), (a_t, .inr (8, [.int s_t_thrown, .int s_t_length, .ref a_t_text, .int s_t_place, .ref a_t_digits, .ref a_t_counts, .ref a_t_points, .ref a_t_limbs, .int s_t_limbCount, .int s_t_rows, .int s_t_columns, .ref a_t_cells, .int s_t_laid, .ref a_t_lines, .int s_t_size_9, .ref a_t_draft])), (a_t_digits, .inl (c_t_digits, n_t_digits, .inl e_t_digits)), (a_t_counts, .inl (c_t_counts, n_t_counts, .inl e_t_counts)), (a_t_draft, .inl (c_t_draft, n_t_draft, .inl e_t_draft_10))] := hD
        refine lv_aload_n hx hb d_Md_written_104 rfl (lv_at hl 1 rfl) ?_
        refine lv_bipush (v := 46) hx hb d_Md_written_105 (by decide) ?_
        replace h := xob_s h
        obtain ⟨⟨s_t_size_12, e_t_draft_13⟩, hc_14, h⟩ := h
        try dsimp only at h
        refine xcV (As := [.int (46 : Int32)]) (rest := []) (st1 := []) (wr := [(a_t_points, .inl (c_t_points, n_t_points, .inl e_t_points)), (a_t_digits, .inl (c_t_digits, n_t_digits, .inl e_t_digits)), (a_t_counts, .inl (c_t_counts, n_t_counts, .inl e_t_counts))]) ⟨hx, hb, hml, hown, hts⟩ (c_Md_put l dC dI a_t a_t_text a_t_digits a_t_counts a_t_points a_t_limbs a_t_cells a_t_lines a_t_draft c_t_draft n_t_draft s_t_thrown s_t_length s_t_place s_t_limbCount s_t_rows s_t_columns s_t_laid s_t_size_9 e_t_draft_10 (46 : Int32) s_t_size_12 e_t_draft_13 hc_14) (cwV 1 hts (xgoodV g_857 g_859 gp_33 g_10 g_860) rfl rfl rfl (by decide +kernel) ⟨Nat.le_of_ble_eq_true rfl, Nat.le_of_ble_eq_true rfl⟩) hNz (ci := 8) (q0 := 1) rfl rfl hA hP hD hS hK [1, 4] [0, 2, 3] [3] rfl rfl rfl rfl (by decide) rfl rfl rfl rfl hl.1 (Nat.le_of_ble_eq_true rfl) ⟨Nat.zero_le _, Nat.zero_le _⟩ d_Md_written_107 (fun H locs hP hD hS => ?_)
        have hP : va_P (dC, dI) x_cl [(a_t_points, .inl (c_t_points, n_t_points, .inl e_t_points)), (a_t_digits, .inl (c_t_digits, n_t_digits, .inl e_t_digits)), (a_t_counts, .inl (c_t_counts, n_t_counts, .inl e_t_counts)), (a_t, .inr (8, [.int s_t_thrown, .int s_t_length, .ref a_t_text, .int s_t_place, .ref a_t_digits, .ref a_t_counts, .ref a_t_points, .ref a_t_limbs, .int s_t_limbCount, .int s_t_rows, .int s_t_columns, .ref a_t_cells, .int s_t_laid, .ref a_t_lines, .int s_t_size_12, .ref a_t_draft])), (a_t_draft, .inl (c_t_draft, n_t_draft, .inl e_t_draft_13))] H := hP
        have hD : va_D A [(a_t_points, .inl (c_t_points, n_t_points, .inl e_t_points)), (a_t_digits, .inl (c_t_digits, n_t_digits, .inl e_t_digits)), (a_t_counts, .inl (c_t_counts, n_t_counts, .inl e_t_counts)), (a_t, .inr (8, [.int s_t_thrown, .int s_t_length, .ref a_t_text, .int s_t_place, .ref a_t_digits, .ref a_t_counts, .ref a_t_points, .ref a_t_limbs, .int s_t_limbCount, .int s_t_rows, .int s_t_columns, .ref a_t_cells, .int s_t_laid, .ref a_t_lines, .int s_t_size_12, .ref a_t_draft])), (a_t_draft, .inl (c_t_draft, n_t_draft, .inl e_t_draft_13))] := hD
        refine lv_aload_n hx hb d_Md_written_110 rfl (lv_at hl 1 rfl) ?_
        refine lv_iload_n hx hb d_Md_written_111 rfl (lv_at hl 2 rfl) ?_
        refine lv_iload_n hx hb d_Md_written_112 rfl (lv_at hl 0 rfl) ?_
        refine lv_aload_n hx hb d_Md_written_113 rfl (lv_at hl 1 rfl) ?_
        refine va_get (D := (dC, dI)) (ci := 8) (v := .ref a_t_counts) (C := R_Md) (T := T_Md) (N := 16) hx hb hts in_Md hown hK hP 3 rfl rfl 5 (by decide) (hts _ g_711) (fun _ h9 => h9) rfl d_Md_written_114 ?_
        refine lv_iload_n hx hb d_Md_written_117 rfl (lv_at hl 2 rfl) ?_
        replace h := xg h
        obtain ⟨hg_15, h⟩ := h
        refine va_iald hx hb hK hP 2 1 rfl rfl hg_15 d_Md_written_118 ?_
        replace h := xob_s h
        obtain ⟨⟨s_t_size_16, e_t_draft_17⟩, hc_18, h⟩ := h
        try dsimp only at h
        refine xcV (As := [.int x1, .int x2_2, .int (e_t_counts x1.toNatClampNeg)]) (rest := []) (st1 := []) (wr := [(a_t_points, .inl (c_t_points, n_t_points, .inl e_t_points))]) ⟨hx, hb, hml, hown, hts⟩ (c_Md_putDigits l dC dI a_t a_t_text a_t_digits a_t_counts a_t_points a_t_limbs a_t_cells a_t_lines a_t_draft c_t_digits c_t_counts c_t_draft n_t_digits n_t_counts n_t_draft s_t_thrown s_t_length s_t_place s_t_limbCount s_t_rows s_t_columns s_t_laid s_t_size_12 e_t_digits e_t_counts e_t_draft_13 x1 x2_2 (e_t_counts x1.toNatClampNeg) s_t_size_16 e_t_draft_17 hc_18) (cwV 3 hts (xgoodV g_892 g_894 gp_41 g_10 g_895) rfl rfl rfl (by decide +kernel) ⟨Nat.le_of_ble_eq_true rfl, Nat.le_of_ble_eq_true rfl⟩) hNz (ci := 8) (q0 := 3) rfl rfl hA hP hD hS hK [3, 1, 2, 4] [0] [0, 1, 3] rfl rfl rfl rfl (by decide) rfl rfl rfl rfl hl.1 (Nat.le_of_ble_eq_true rfl) ⟨Nat.zero_le _, Nat.zero_le _⟩ d_Md_written_119 (fun H locs hP hD hS => ?_)
        have hP : va_P (dC, dI) x_cl [(a_t_points, .inl (c_t_points, n_t_points, .inl e_t_points)), (a_t, .inr (8, [.int s_t_thrown, .int s_t_length, .ref a_t_text, .int s_t_place, .ref a_t_digits, .ref a_t_counts, .ref a_t_points, .ref a_t_limbs, .int s_t_limbCount, .int s_t_rows, .int s_t_columns, .ref a_t_cells, .int s_t_laid, .ref a_t_lines, .int s_t_size_16, .ref a_t_draft])), (a_t_digits, .inl (c_t_digits, n_t_digits, .inl e_t_digits)), (a_t_counts, .inl (c_t_counts, n_t_counts, .inl e_t_counts)), (a_t_draft, .inl (c_t_draft, n_t_draft, .inl e_t_draft_17))] H := hP
        have hD : va_D A [(a_t_points, .inl (c_t_points, n_t_points, .inl e_t_points)), (a_t, .inr (8, [.int s_t_thrown, .int s_t_length, .ref a_t_text, .int s_t_place, .ref a_t_digits, .ref a_t_counts, .ref a_t_points, .ref a_t_limbs, .int s_t_limbCount, .int s_t_rows, .int s_t_columns, .ref a_t_cells, .int s_t_laid, .ref a_t_lines, .int s_t_size_16, .ref a_t_draft])), (a_t_digits, .inl (c_t_digits, n_t_digits, .inl e_t_digits)), (a_t_counts, .inl (c_t_counts, n_t_counts, .inl e_t_counts)), (a_t_draft, .inl (c_t_draft, n_t_draft, .inl e_t_draft_17))] := hD
        replace h := Option.some.inj h
        replace h := Prod.mk.inj h
        obtain ⟨h1, h⟩ := h
        subst h1
        subst h
        exact hret _ _ (hP.sub [1, 2, 3, 0, 4] rfl) (hD.sub [1, 2, 3, 0, 4] (by decide) rfl) hS _ _ d_Md_written_122
      · rw [if_neg c_8] at h
        refine lv_aload_n hx hb d_Md_written_70 rfl (lv_at hl 1 rfl) ?_
        refine lv_iload_n hx hb d_Md_written_71 rfl (lv_at hl 2 rfl) ?_
        refine lv_iconst (v := 0) hx hb d_Md_written_72 (by decide) ?_
        refine lv_aload_n hx hb d_Md_written_73 rfl (lv_at hl 1 rfl) ?_
        refine va_get (D := (dC, dI)) (ci := 8) (v := .ref a_t_counts) (C := R_Md) (T := T_Md) (N := 16) hx hb hts in_Md hown hK hP 3 rfl rfl 5 (by decide) (hts _ g_711) (fun _ h9 => h9) rfl d_Md_written_74 ?_
        refine lv_iload_n hx hb d_Md_written_77 rfl (lv_at hl 2 rfl) ?_
        replace h := xg h
        obtain ⟨hg_19, h⟩ := h
        refine va_iald hx hb hK hP 1 1 rfl rfl hg_19 d_Md_written_78 ?_
        replace h := xob_s h
        obtain ⟨⟨s_t_size_20, e_t_draft_21⟩, hc_22, h⟩ := h
        try dsimp only at h
        refine xcV (As := [.int x1, .int (0 : Int32), .int (e_t_counts x1.toNatClampNeg)]) (rest := []) (st1 := []) (wr := [(a_t_points, .inl (c_t_points, n_t_points, .inl e_t_points))]) ⟨hx, hb, hml, hown, hts⟩ (c_Md_putDigits l dC dI a_t a_t_text a_t_digits a_t_counts a_t_points a_t_limbs a_t_cells a_t_lines a_t_draft c_t_digits c_t_counts c_t_draft n_t_digits n_t_counts n_t_draft s_t_thrown s_t_length s_t_place s_t_limbCount s_t_rows s_t_columns s_t_laid s_t_size e_t_digits e_t_counts e_t_draft x1 (0 : Int32) (e_t_counts x1.toNatClampNeg) s_t_size_20 e_t_draft_21 hc_22) (cwV 3 hts (xgoodV g_892 g_894 gp_41 g_10 g_895) rfl rfl rfl (by decide +kernel) ⟨Nat.le_of_ble_eq_true rfl, Nat.le_of_ble_eq_true rfl⟩) hNz (ci := 8) (q0 := 3) rfl rfl hA hP hD hS hK [3, 0, 1, 2] [4] [0, 1, 3] rfl rfl rfl rfl (by decide) rfl rfl rfl rfl hl.1 (Nat.le_of_ble_eq_true rfl) ⟨Nat.zero_le _, Nat.zero_le _⟩ d_Md_written_79 (fun H locs hP hD hS => ?_)
        have hP : va_P (dC, dI) x_cl [(a_t_points, .inl (c_t_points, n_t_points, .inl e_t_points)), (a_t, .inr (8, [.int s_t_thrown, .int s_t_length, .ref a_t_text, .int s_t_place, .ref a_t_digits, .ref a_t_counts, .ref a_t_points, .ref a_t_limbs, .int s_t_limbCount, .int s_t_rows, .int s_t_columns, .ref a_t_cells, .int s_t_laid, .ref a_t_lines, .int s_t_size_20, .ref a_t_draft])), (a_t_digits, .inl (c_t_digits, n_t_digits, .inl e_t_digits)), (a_t_counts, .inl (c_t_counts, n_t_counts, .inl e_t_counts)), (a_t_draft, .inl (c_t_draft, n_t_draft, .inl e_t_draft_21))] H := hP
        have hD : va_D A [(a_t_points, .inl (c_t_points, n_t_points, .inl e_t_points)), (a_t, .inr (8, [.int s_t_thrown, .int s_t_length, .ref a_t_text, .int s_t_place, .ref a_t_digits, .ref a_t_counts, .ref a_t_points, .ref a_t_limbs, .int s_t_limbCount, .int s_t_rows, .int s_t_columns, .ref a_t_cells, .int s_t_laid, .ref a_t_lines, .int s_t_size_20, .ref a_t_draft])), (a_t_digits, .inl (c_t_digits, n_t_digits, .inl e_t_digits)), (a_t_counts, .inl (c_t_counts, n_t_counts, .inl e_t_counts)), (a_t_draft, .inl (c_t_draft, n_t_draft, .inl e_t_draft_21))] := hD
        refine lv_aload_n hx hb d_Md_written_82 rfl (lv_at hl 1 rfl) ?_
        refine lv_iload_n hx hb d_Md_written_83 rfl (lv_at hl 0 rfl) ?_
        refine lv_aload_n hx hb d_Md_written_84 rfl (lv_at hl 1 rfl) ?_
        refine va_get (D := (dC, dI)) (ci := 8) (v := .ref a_t_counts) (C := R_Md) (T := T_Md) (N := 16) hx hb hts in_Md hown hK hP 1 rfl rfl 5 (by decide) (hts _ g_711) (fun _ h9 => h9) rfl d_Md_written_85 ?_
        refine lv_iload_n hx hb d_Md_written_88 rfl (lv_at hl 2 rfl) ?_
        replace h := xg h
        obtain ⟨hg_23, h⟩ := h
        refine va_iald hx hb hK hP 3 1 rfl rfl hg_23 d_Md_written_89 ?_
        refine lv_isub hx hb d_Md_written_90 ?_
        replace h := xob_s h
        obtain ⟨⟨s_t_size_24, e_t_draft_25⟩, hc_26, h⟩ := h
        try dsimp only at h
        refine xcV (As := [.int (x2_2 - (e_t_counts x1.toNatClampNeg))]) (rest := []) (st1 := []) (wr := [(a_t_points, .inl (c_t_points, n_t_points, .inl e_t_points)), (a_t_digits, .inl (c_t_digits, n_t_digits, .inl e_t_digits)), (a_t_counts, .inl (c_t_counts, n_t_counts, .inl e_t_counts))]) ⟨hx, hb, hml, hown, hts⟩ (c_Md_putZeros l dC dI a_t a_t_text a_t_digits a_t_counts a_t_points a_t_limbs a_t_cells a_t_lines a_t_draft c_t_draft n_t_draft s_t_thrown s_t_length s_t_place s_t_limbCount s_t_rows s_t_columns s_t_laid s_t_size_20 e_t_draft_21 (x2_2 - (e_t_counts x1.toNatClampNeg)) s_t_size_24 e_t_draft_25 hc_26) (cwV 1 hts (xgoodV g_896 g_898 gp_42 g_10 g_899) rfl rfl rfl (by decide +kernel) ⟨Nat.le_of_ble_eq_true rfl, Nat.le_of_ble_eq_true rfl⟩) hNz (ci := 8) (q0 := 1) rfl rfl hA hP hD hS hK [1, 4] [0, 2, 3] [3] rfl rfl rfl rfl (by decide) rfl rfl rfl rfl hl.1 (Nat.le_of_ble_eq_true rfl) ⟨Nat.zero_le _, Nat.zero_le _⟩ d_Md_written_91 (fun H locs hP hD hS => ?_)
        have hP : va_P (dC, dI) x_cl [(a_t_points, .inl (c_t_points, n_t_points, .inl e_t_points)), (a_t_digits, .inl (c_t_digits, n_t_digits, .inl e_t_digits)), (a_t_counts, .inl (c_t_counts, n_t_counts, .inl e_t_counts)), (a_t, .inr (8, [.int s_t_thrown, .int s_t_length, .ref a_t_text, .int s_t_place, .ref a_t_digits, .ref a_t_counts, .ref a_t_points, .ref a_t_limbs, .int s_t_limbCount, .int s_t_rows, .int s_t_columns, .ref a_t_cells, .int s_t_laid, .ref a_t_lines, .int s_t_size_24, .ref a_t_draft])), (a_t_draft, .inl (c_t_draft, n_t_draft, .inl e_t_draft_25))] H := hP
        have hD : va_D A [(a_t_points, .inl (c_t_points, n_t_points, .inl e_t_points)), (a_t_digits, .inl (c_t_digits, n_t_digits, .inl e_t_digits)), (a_t_counts, .inl (c_t_counts, n_t_counts, .inl e_t_counts)), (a_t, .inr (8, [.int s_t_thrown, .int s_t_length, .ref a_t_text, .int s_t_place, .ref a_t_digits, .ref a_t_counts, .ref a_t_points, .ref a_t_limbs, .int s_t_limbCount, .int s_t_rows, .int s_t_columns, .ref a_t_cells, .int s_t_laid, .ref a_t_lines, .int s_t_size_24, .ref a_t_draft])), (a_t_draft, .inl (c_t_draft, n_t_draft, .inl e_t_draft_25))] := hD
        refine lv_goto (tgt := 122) hx hb d_Md_written_94 (by decide) ?_
        replace h := Option.some.inj h
        replace h := Prod.mk.inj h
        obtain ⟨h1, h⟩ := h
        subst h1
        subst h
        exact hret _ _ (hP.sub [3, 1, 2, 0, 4] rfl) (hD.sub [3, 1, 2, 0, 4] (by decide) rfl) hS _ _ d_Md_written_122
    · rw [if_neg c_6] at h
      refine lv_aload_n hx hb d_Md_written_27 rfl (lv_at hl 1 rfl) ?_
      refine lv_bipush (v := 48) hx hb d_Md_written_28 (by decide) ?_
      replace h := xob_s h
      obtain ⟨⟨s_t_size_27, e_t_draft_28⟩, hc_29, h⟩ := h
      try dsimp only at h
      refine xcV (As := [.int (48 : Int32)]) (rest := []) (st1 := []) (wr := [(a_t_digits, .inl (c_t_digits, n_t_digits, .inl e_t_digits)), (a_t_counts, .inl (c_t_counts, n_t_counts, .inl e_t_counts)), (a_t_points, .inl (c_t_points, n_t_points, .inl e_t_points))]) ⟨hx, hb, hml, hown, hts⟩ (c_Md_put l dC dI a_t a_t_text a_t_digits a_t_counts a_t_points a_t_limbs a_t_cells a_t_lines a_t_draft c_t_draft n_t_draft s_t_thrown s_t_length s_t_place s_t_limbCount s_t_rows s_t_columns s_t_laid s_t_size e_t_draft (48 : Int32) s_t_size_27 e_t_draft_28 hc_29) (cwV 1 hts (xgoodV g_857 g_859 gp_33 g_10 g_860) rfl rfl rfl (by decide +kernel) ⟨Nat.le_of_ble_eq_true rfl, Nat.le_of_ble_eq_true rfl⟩) hNz (ci := 8) (q0 := 3) rfl rfl hA hP hD hS hK [3, 2] [0, 1, 4] [3] rfl rfl rfl rfl (by decide) rfl rfl rfl rfl hl.1 (Nat.le_of_ble_eq_true rfl) ⟨Nat.zero_le _, Nat.zero_le _⟩ d_Md_written_30 (fun H locs hP hD hS => ?_)
      have hP : va_P (dC, dI) x_cl [(a_t_digits, .inl (c_t_digits, n_t_digits, .inl e_t_digits)), (a_t_counts, .inl (c_t_counts, n_t_counts, .inl e_t_counts)), (a_t_points, .inl (c_t_points, n_t_points, .inl e_t_points)), (a_t, .inr (8, [.int s_t_thrown, .int s_t_length, .ref a_t_text, .int s_t_place, .ref a_t_digits, .ref a_t_counts, .ref a_t_points, .ref a_t_limbs, .int s_t_limbCount, .int s_t_rows, .int s_t_columns, .ref a_t_cells, .int s_t_laid, .ref a_t_lines, .int s_t_size_27, .ref a_t_draft])), (a_t_draft, .inl (c_t_draft, n_t_draft, .inl e_t_draft_28))] H := hP
      have hD : va_D A [(a_t_digits, .inl (c_t_digits, n_t_digits, .inl e_t_digits)), (a_t_counts, .inl (c_t_counts, n_t_counts, .inl e_t_counts)), (a_t_points, .inl (c_t_points, n_t_points, .inl e_t_points)), (a_t, .inr (8, [.int s_t_thrown, .int s_t_length, .ref a_t_text, .int s_t_place, .ref a_t_digits, .ref a_t_counts, .ref a_t_points, .ref a_t_limbs, .int s_t_limbCount, .int s_t_rows, .int s_t_columns, .ref a_t_cells, .int s_t_laid, .ref a_t_lines, .int s_t_size_27, .ref a_t_draft])), (a_t_draft, .inl (c_t_draft, n_t_draft, .inl e_t_draft_28))] := hD
      refine lv_aload_n hx hb d_Md_written_33 rfl (lv_at hl 1 rfl) ?_
      refine lv_bipush (v := 46) hx hb d_Md_written_34 (by decide) ?_
      replace h := xob_s h
      obtain ⟨⟨s_t_size_30, e_t_draft_31⟩, hc_32, h⟩ := h
      try dsimp only at h
      refine xcV (As := [.int (46 : Int32)]) (rest := []) (st1 := []) (wr := [(a_t_digits, .inl (c_t_digits, n_t_digits, .inl e_t_digits)), (a_t_counts, .inl (c_t_counts, n_t_counts, .inl e_t_counts)), (a_t_points, .inl (c_t_points, n_t_points, .inl e_t_points))]) ⟨hx, hb, hml, hown, hts⟩ (c_Md_put l dC dI a_t a_t_text a_t_digits a_t_counts a_t_points a_t_limbs a_t_cells a_t_lines a_t_draft c_t_draft n_t_draft s_t_thrown s_t_length s_t_place s_t_limbCount s_t_rows s_t_columns s_t_laid s_t_size_27 e_t_draft_28 (46 : Int32) s_t_size_30 e_t_draft_31 hc_32) (cwV 1 hts (xgoodV g_857 g_859 gp_33 g_10 g_860) rfl rfl rfl (by decide +kernel) ⟨Nat.le_of_ble_eq_true rfl, Nat.le_of_ble_eq_true rfl⟩) hNz (ci := 8) (q0 := 3) rfl rfl hA hP hD hS hK [3, 4] [0, 1, 2] [3] rfl rfl rfl rfl (by decide) rfl rfl rfl rfl hl.1 (Nat.le_of_ble_eq_true rfl) ⟨Nat.zero_le _, Nat.zero_le _⟩ d_Md_written_36 (fun H locs hP hD hS => ?_)
      have hP : va_P (dC, dI) x_cl [(a_t_digits, .inl (c_t_digits, n_t_digits, .inl e_t_digits)), (a_t_counts, .inl (c_t_counts, n_t_counts, .inl e_t_counts)), (a_t_points, .inl (c_t_points, n_t_points, .inl e_t_points)), (a_t, .inr (8, [.int s_t_thrown, .int s_t_length, .ref a_t_text, .int s_t_place, .ref a_t_digits, .ref a_t_counts, .ref a_t_points, .ref a_t_limbs, .int s_t_limbCount, .int s_t_rows, .int s_t_columns, .ref a_t_cells, .int s_t_laid, .ref a_t_lines, .int s_t_size_30, .ref a_t_draft])), (a_t_draft, .inl (c_t_draft, n_t_draft, .inl e_t_draft_31))] H := hP
      have hD : va_D A [(a_t_digits, .inl (c_t_digits, n_t_digits, .inl e_t_digits)), (a_t_counts, .inl (c_t_counts, n_t_counts, .inl e_t_counts)), (a_t_points, .inl (c_t_points, n_t_points, .inl e_t_points)), (a_t, .inr (8, [.int s_t_thrown, .int s_t_length, .ref a_t_text, .int s_t_place, .ref a_t_digits, .ref a_t_counts, .ref a_t_points, .ref a_t_limbs, .int s_t_limbCount, .int s_t_rows, .int s_t_columns, .ref a_t_cells, .int s_t_laid, .ref a_t_lines, .int s_t_size_30, .ref a_t_draft])), (a_t_draft, .inl (c_t_draft, n_t_draft, .inl e_t_draft_31))] := hD
      refine lv_aload_n hx hb d_Md_written_39 rfl (lv_at hl 1 rfl) ?_
      refine lv_iload_n hx hb d_Md_written_40 rfl (lv_at hl 0 rfl) ?_
      refine lv_ineg hx hb d_Md_written_41 ?_
      replace h := xob_s h
      obtain ⟨⟨s_t_size_33, e_t_draft_34⟩, hc_35, h⟩ := h
      try dsimp only at h
      refine xcV (As := [.int (-x2_2)]) (rest := []) (st1 := []) (wr := [(a_t_digits, .inl (c_t_digits, n_t_digits, .inl e_t_digits)), (a_t_counts, .inl (c_t_counts, n_t_counts, .inl e_t_counts)), (a_t_points, .inl (c_t_points, n_t_points, .inl e_t_points))]) ⟨hx, hb, hml, hown, hts⟩ (c_Md_putZeros l dC dI a_t a_t_text a_t_digits a_t_counts a_t_points a_t_limbs a_t_cells a_t_lines a_t_draft c_t_draft n_t_draft s_t_thrown s_t_length s_t_place s_t_limbCount s_t_rows s_t_columns s_t_laid s_t_size_30 e_t_draft_31 (-x2_2) s_t_size_33 e_t_draft_34 hc_35) (cwV 1 hts (xgoodV g_896 g_898 gp_42 g_10 g_899) rfl rfl rfl (by decide +kernel) ⟨Nat.le_of_ble_eq_true rfl, Nat.le_of_ble_eq_true rfl⟩) hNz (ci := 8) (q0 := 3) rfl rfl hA hP hD hS hK [3, 4] [0, 1, 2] [3] rfl rfl rfl rfl (by decide) rfl rfl rfl rfl hl.1 (Nat.le_of_ble_eq_true rfl) ⟨Nat.zero_le _, Nat.zero_le _⟩ d_Md_written_42 (fun H locs hP hD hS => ?_)
      have hP : va_P (dC, dI) x_cl [(a_t_digits, .inl (c_t_digits, n_t_digits, .inl e_t_digits)), (a_t_counts, .inl (c_t_counts, n_t_counts, .inl e_t_counts)), (a_t_points, .inl (c_t_points, n_t_points, .inl e_t_points)), (a_t, .inr (8, [.int s_t_thrown, .int s_t_length, .ref a_t_text, .int s_t_place, .ref a_t_digits, .ref a_t_counts, .ref a_t_points, .ref a_t_limbs, .int s_t_limbCount, .int s_t_rows, .int s_t_columns, .ref a_t_cells, .int s_t_laid, .ref a_t_lines, .int s_t_size_33, .ref a_t_draft])), (a_t_draft, .inl (c_t_draft, n_t_draft, .inl e_t_draft_34))] H := hP
      have hD : va_D A [(a_t_digits, .inl (c_t_digits, n_t_digits, .inl e_t_digits)), (a_t_counts, .inl (c_t_counts, n_t_counts, .inl e_t_counts)), (a_t_points, .inl (c_t_points, n_t_points, .inl e_t_points)), (a_t, .inr (8, [.int s_t_thrown, .int s_t_length, .ref a_t_text, .int s_t_place, .ref a_t_digits, .ref a_t_counts, .ref a_t_points, .ref a_t_limbs, .int s_t_limbCount, .int s_t_rows, .int s_t_columns, .ref a_t_cells, .int s_t_laid, .ref a_t_lines, .int s_t_size_33, .ref a_t_draft])), (a_t_draft, .inl (c_t_draft, n_t_draft, .inl e_t_draft_34))] := hD
      refine lv_aload_n hx hb d_Md_written_45 rfl (lv_at hl 1 rfl) ?_
      refine lv_iload_n hx hb d_Md_written_46 rfl (lv_at hl 2 rfl) ?_
      refine lv_iconst (v := 0) hx hb d_Md_written_47 (by decide) ?_
      refine lv_aload_n hx hb d_Md_written_48 rfl (lv_at hl 1 rfl) ?_
      refine va_get (D := (dC, dI)) (ci := 8) (v := .ref a_t_counts) (C := R_Md) (T := T_Md) (N := 16) hx hb hts in_Md hown hK hP 3 rfl rfl 5 (by decide) (hts _ g_711) (fun _ h9 => h9) rfl d_Md_written_49 ?_
      refine lv_iload_n hx hb d_Md_written_52 rfl (lv_at hl 2 rfl) ?_
      replace h := xg h
      obtain ⟨hg_36, h⟩ := h
      refine va_iald hx hb hK hP 1 1 rfl rfl hg_36 d_Md_written_53 ?_
      replace h := xob_s h
      obtain ⟨⟨s_t_size_37, e_t_draft_38⟩, hc_39, h⟩ := h
      try dsimp only at h
      refine xcV (As := [.int x1, .int (0 : Int32), .int (e_t_counts x1.toNatClampNeg)]) (rest := []) (st1 := []) (wr := [(a_t_points, .inl (c_t_points, n_t_points, .inl e_t_points))]) ⟨hx, hb, hml, hown, hts⟩ (c_Md_putDigits l dC dI a_t a_t_text a_t_digits a_t_counts a_t_points a_t_limbs a_t_cells a_t_lines a_t_draft c_t_digits c_t_counts c_t_draft n_t_digits n_t_counts n_t_draft s_t_thrown s_t_length s_t_place s_t_limbCount s_t_rows s_t_columns s_t_laid s_t_size_33 e_t_digits e_t_counts e_t_draft_34 x1 (0 : Int32) (e_t_counts x1.toNatClampNeg) s_t_size_37 e_t_draft_38 hc_39) (cwV 3 hts (xgoodV g_892 g_894 gp_41 g_10 g_895) rfl rfl rfl (by decide +kernel) ⟨Nat.le_of_ble_eq_true rfl, Nat.le_of_ble_eq_true rfl⟩) hNz (ci := 8) (q0 := 3) rfl rfl hA hP hD hS hK [3, 0, 1, 4] [2] [0, 1, 3] rfl rfl rfl rfl (by decide) rfl rfl rfl rfl hl.1 (Nat.le_of_ble_eq_true rfl) ⟨Nat.zero_le _, Nat.zero_le _⟩ d_Md_written_54 (fun H locs hP hD hS => ?_)
      have hP : va_P (dC, dI) x_cl [(a_t_points, .inl (c_t_points, n_t_points, .inl e_t_points)), (a_t, .inr (8, [.int s_t_thrown, .int s_t_length, .ref a_t_text, .int s_t_place, .ref a_t_digits, .ref a_t_counts, .ref a_t_points, .ref a_t_limbs, .int s_t_limbCount, .int s_t_rows, .int s_t_columns, .ref a_t_cells, .int s_t_laid, .ref a_t_lines, .int s_t_size_37, .ref a_t_draft])), (a_t_digits, .inl (c_t_digits, n_t_digits, .inl e_t_digits)), (a_t_counts, .inl (c_t_counts, n_t_counts, .inl e_t_counts)), (a_t_draft, .inl (c_t_draft, n_t_draft, .inl e_t_draft_38))] H := hP
      have hD : va_D A [(a_t_points, .inl (c_t_points, n_t_points, .inl e_t_points)), (a_t, .inr (8, [.int s_t_thrown, .int s_t_length, .ref a_t_text, .int s_t_place, .ref a_t_digits, .ref a_t_counts, .ref a_t_points, .ref a_t_limbs, .int s_t_limbCount, .int s_t_rows, .int s_t_columns, .ref a_t_cells, .int s_t_laid, .ref a_t_lines, .int s_t_size_37, .ref a_t_draft])), (a_t_digits, .inl (c_t_digits, n_t_digits, .inl e_t_digits)), (a_t_counts, .inl (c_t_counts, n_t_counts, .inl e_t_counts)), (a_t_draft, .inl (c_t_draft, n_t_draft, .inl e_t_draft_38))] := hD
      refine lv_goto (tgt := 122) hx hb d_Md_written_57 (by decide) ?_
      replace h := Option.some.inj h
      replace h := Prod.mk.inj h
      obtain ⟨h1, h⟩ := h
      subst h1
      subst h
      exact hret _ _ (hP.sub [1, 2, 3, 0, 4] rfl) (hD.sub [1, 2, 3, 0, 4] (by decide) rfl) hS _ _ d_Md_written_122
  · rw [if_pos c_5] at h
    refine lv_aload_n hx hb d_Md_written_15 rfl (lv_at hl 1 rfl) ?_
    refine lv_iload_n hx hb d_Md_written_16 rfl (lv_at hl 2 rfl) ?_
    replace h := xob_s h
    obtain ⟨⟨s_t_size_40, e_t_draft_41⟩, hc_42, h⟩ := h
    try dsimp only at h
    refine xcV (As := [.int x1]) (rest := []) (st1 := []) (wr := []) ⟨hx, hb, hml, hown, hts⟩ (c_Md_scientific l dC dI a_t a_t_text a_t_digits a_t_counts a_t_points a_t_limbs a_t_cells a_t_lines a_t_draft c_t_digits c_t_counts c_t_points c_t_draft n_t_digits n_t_counts n_t_points n_t_draft s_t_thrown s_t_length s_t_place s_t_limbCount s_t_rows s_t_columns s_t_laid s_t_size e_t_digits e_t_counts e_t_points e_t_draft x1 s_t_size_40 e_t_draft_41 hc_42) (cwV 1 hts (xgoodV g_888 g_890 gp_40 g_10 g_891) rfl rfl rfl (by decide +kernel) ⟨Nat.le_of_ble_eq_true rfl, Nat.le_of_ble_eq_true rfl⟩) hNz (ci := 8) (q0 := 3) rfl rfl hA hP hD hS hK [3, 0, 1, 4, 2] [] [0, 1, 2, 3] rfl rfl rfl rfl (by decide) rfl rfl rfl rfl hl.1 (Nat.le_of_ble_eq_true rfl) ⟨Nat.zero_le _, Nat.zero_le _⟩ d_Md_written_17 (fun H locs hP hD hS => ?_)
    have hP : va_P (dC, dI) x_cl [(a_t, .inr (8, [.int s_t_thrown, .int s_t_length, .ref a_t_text, .int s_t_place, .ref a_t_digits, .ref a_t_counts, .ref a_t_points, .ref a_t_limbs, .int s_t_limbCount, .int s_t_rows, .int s_t_columns, .ref a_t_cells, .int s_t_laid, .ref a_t_lines, .int s_t_size_40, .ref a_t_draft])), (a_t_digits, .inl (c_t_digits, n_t_digits, .inl e_t_digits)), (a_t_counts, .inl (c_t_counts, n_t_counts, .inl e_t_counts)), (a_t_points, .inl (c_t_points, n_t_points, .inl e_t_points)), (a_t_draft, .inl (c_t_draft, n_t_draft, .inl e_t_draft_41))] H := hP
    have hD : va_D A [(a_t, .inr (8, [.int s_t_thrown, .int s_t_length, .ref a_t_text, .int s_t_place, .ref a_t_digits, .ref a_t_counts, .ref a_t_points, .ref a_t_limbs, .int s_t_limbCount, .int s_t_rows, .int s_t_columns, .ref a_t_cells, .int s_t_laid, .ref a_t_lines, .int s_t_size_40, .ref a_t_draft])), (a_t_digits, .inl (c_t_digits, n_t_digits, .inl e_t_digits)), (a_t_counts, .inl (c_t_counts, n_t_counts, .inl e_t_counts)), (a_t_points, .inl (c_t_points, n_t_points, .inl e_t_points)), (a_t_draft, .inl (c_t_draft, n_t_draft, .inl e_t_draft_41))] := hD
    refine lv_goto (tgt := 122) hx hb d_Md_written_20 (by decide) ?_
    replace h := Option.some.inj h
    replace h := Prod.mk.inj h
    obtain ⟨h1, h⟩ := h
    subst h1
    subst h
    exact hret _ _ hP hD hS _ _ d_Md_written_122
def lp_Md_done_10 (s_t_thrown : Int32) (s_t_size : Int32) (s_t_place : Int32) (s_t_limbCount : Int32) (s_t_rows : Int32) (s_t_columns : Int32) (s_t_laid : Int32) (e_t_draft : Nat → Int32) (n_t_text : Nat) (n_t_draft : Nat) : Nat → Int32 → (Nat → Int32) → Option ((Nat → Int32))
  | 0, _, _ => none
  | n_ + 1, x1_1, e_t_text_2 =>
    if s_t_size ≤ x1_1 then (some e_t_text_2) else (if (x1_1 < 0 ∨ n_t_draft ≤ x1_1.toNatClampNeg) then none else if (x1_1 < 0 ∨ n_t_text ≤ x1_1.toNatClampNeg) then none else xnm (x1_1 + (1 : Int32)) fun x1_10 => lp_Md_done_10 s_t_thrown s_t_size s_t_place s_t_limbCount s_t_rows s_t_columns s_t_laid e_t_draft n_t_text n_t_draft n_ x1_10 (upd e_t_text_2 x1_1.toNatClampNeg (e_t_draft x1_1.toNatClampNeg)))
def f_Md_done (n_t_text : Nat) (n_t_draft : Nat) (s_t_thrown : Int32) (s_t_length : Int32) (s_t_place : Int32) (s_t_limbCount : Int32) (s_t_rows : Int32) (s_t_columns : Int32) (s_t_laid : Int32) (s_t_size : Int32) (e_t_text : Nat → Int32) (e_t_draft : Nat → Int32) : Option (Int32 × Int32 × (Nat → Int32)) :=
  xob (lp_Md_done_10 s_t_thrown s_t_size s_t_place s_t_limbCount s_t_rows s_t_columns s_t_laid e_t_draft n_t_text n_t_draft xF (0 : Int32) e_t_text) fun e_t_text_3 => some (s_t_size, s_t_size, e_t_text_3)
def rm_Md_done : Room := { frames := 0, cells := 0, slots := 0, locals := 0 }
set_option maxHeartbeats 4000000 in
set_option maxRecDepth 100000 in
theorem c_Md_done (l : Launch) (dC : Nat → ClassId) (dI : Nat → Nat → Nat) (a_t a_t_text a_t_digits a_t_counts a_t_points a_t_limbs a_t_cells a_t_lines a_t_draft : Nat) (c_t_text c_t_draft : ClassId) (n_t_text : Nat) (n_t_draft : Nat) (s_t_thrown : Int32) (s_t_length : Int32) (s_t_place : Int32) (s_t_limbCount : Int32) (s_t_rows : Int32) (s_t_columns : Int32) (s_t_laid : Int32) (s_t_size : Int32) (e_t_text : Nat → Int32) (e_t_draft : Nat → Int32) (r_ : Int32) (s_t_length_o : Int32) (e_t_text_o : Nat → Int32) (h : f_Md_done n_t_text n_t_draft s_t_thrown s_t_length s_t_place s_t_limbCount s_t_rows s_t_columns s_t_laid s_t_size e_t_text e_t_draft = some (r_, s_t_length_o, e_t_text_o)) : xM l y_Md_done (Cond.code y_Md_done b_Md_done 2 (some .int) :: xG) rm_Md_done (dC, dI) x_cl x_nz [.ref a_t] [(c_t_text, .int), (c_t_draft, .int)] [(a_t, .inr (8, [.int s_t_thrown, .int s_t_length, .ref a_t_text, .int s_t_place, .ref a_t_digits, .ref a_t_counts, .ref a_t_points, .ref a_t_limbs, .int s_t_limbCount, .int s_t_rows, .int s_t_columns, .ref a_t_cells, .int s_t_laid, .ref a_t_lines, .int s_t_size, .ref a_t_draft])), (a_t_text, .inl (c_t_text, n_t_text, .inl e_t_text)), (a_t_draft, .inl (c_t_draft, n_t_draft, .inl e_t_draft))] (some (.int r_)) [(a_t, .inr (8, [.int s_t_thrown, .int s_t_length_o, .ref a_t_text, .int s_t_place, .ref a_t_digits, .ref a_t_counts, .ref a_t_points, .ref a_t_limbs, .int s_t_limbCount, .int s_t_rows, .int s_t_columns, .ref a_t_cells, .int s_t_laid, .ref a_t_lines, .int s_t_size, .ref a_t_draft])), (a_t_text, .inl (c_t_text, n_t_text, .inl e_t_text_o)), (a_t_draft, .inl (c_t_draft, n_t_draft, .inl e_t_draft))] := by
  unfold f_Md_done at h
  refine xM.mkI (cc := b_Md_done) (maxL := 2)  (by decide +kernel) rfl (Nat.le_of_ble_eq_true rfl) ?_
  intro p e s m args below meth c A Q ls hx hb hml hown hts hNz hA hP hD hK hl hret
  have hS : va_S A s.heap s.heap [] := va_S.rf
  have hl : lv_has ls 2 [(0, .ref a_t)] := hl
  refine lv_aload_n hx hb d_Md_done_0 rfl (lv_at hl 0 rfl) ?_
  refine lv_aload_n hx hb d_Md_done_1 rfl (lv_at hl 0 rfl) ?_
  refine va_get (D := (dC, dI)) (ci := 8) (v := .int s_t_size) (C := R_Md) (T := T_Md) (N := 16) hx hb hts in_Md hown hK hP 0 rfl rfl 14 (by decide) (hts _ g_720) (fun _ h9 => h9) rfl d_Md_done_2 ?_
  refine va_put (D := (dC, dI)) (ci := 8) (v := .int s_t_size) (ty := .int) (C := R_Md) (T := T_Md) (N := 16) hx hb hts in_Md ty_Md tyok_Md nn_Md hown hK hP hD hS 0 rfl rfl 1 (by decide) (hts _ g_707) (fun _ h9 => h9) rfl (by decide +kernel) rfl rfl (Nat.le_of_ble_eq_true rfl) d_Md_done_5 (fun H locs hP hD hS => ?_)
  have hP : va_P (dC, dI) x_cl [(a_t, .inr (8, [.int s_t_thrown, .int s_t_size, .ref a_t_text, .int s_t_place, .ref a_t_digits, .ref a_t_counts, .ref a_t_points, .ref a_t_limbs, .int s_t_limbCount, .int s_t_rows, .int s_t_columns, .ref a_t_cells, .int s_t_laid, .ref a_t_lines, .int s_t_size, .ref a_t_draft])), (a_t_text, .inl (c_t_text, n_t_text, .inl e_t_text)), (a_t_draft, .inl (c_t_draft, n_t_draft, .inl e_t_draft))] H := hP
  have hD : va_D A [(a_t, .inr (8, [.int s_t_thrown, .int s_t_size, .ref a_t_text, .int s_t_place, .ref a_t_digits, .ref a_t_counts, .ref a_t_points, .ref a_t_limbs, .int s_t_limbCount, .int s_t_rows, .int s_t_columns, .ref a_t_cells, .int s_t_laid, .ref a_t_lines, .int s_t_size, .ref a_t_draft])), (a_t_text, .inl (c_t_text, n_t_text, .inl e_t_text)), (a_t_draft, .inl (c_t_draft, n_t_draft, .inl e_t_draft))] := hD
  refine lv_iconst (v := 0) hx hb d_Md_done_8 (by decide) ?_
  refine lv_istore_n (lv' := [(1, .int (0 : Int32)), (0, .ref a_t)]) hx hb d_Md_done_9 rfl hl (by decide) rfl (fun ls hl => ?_)
  replace h := xob_s h
  obtain ⟨e_t_text_3, hlp_4, h⟩ := h
  try dsimp only at h
  have hX_5 : ∀ (H : Heap) (locs : List Loc) (ls : Array Slot), va_P (dC, dI) x_cl [(a_t, .inr (8, [.int s_t_thrown, .int s_t_size, .ref a_t_text, .int s_t_place, .ref a_t_digits, .ref a_t_counts, .ref a_t_points, .ref a_t_limbs, .int s_t_limbCount, .int s_t_rows, .int s_t_columns, .ref a_t_cells, .int s_t_laid, .ref a_t_lines, .int s_t_size, .ref a_t_draft])), (a_t_text, .inl (c_t_text, n_t_text, .inl e_t_text_3)), (a_t_draft, .inl (c_t_draft, n_t_draft, .inl e_t_draft))] H → va_D A [(a_t, .inr (8, [.int s_t_thrown, .int s_t_size, .ref a_t_text, .int s_t_place, .ref a_t_digits, .ref a_t_counts, .ref a_t_points, .ref a_t_limbs, .int s_t_limbCount, .int s_t_rows, .int s_t_columns, .ref a_t_cells, .int s_t_laid, .ref a_t_lines, .int s_t_size, .ref a_t_draft])), (a_t_text, .inl (c_t_text, n_t_text, .inl e_t_text_3)), (a_t_draft, .inl (c_t_draft, n_t_draft, .inl e_t_draft))] → va_S A s.heap H locs → lv_has ls 2 [(0, .ref a_t)] → W p l e rm_Md_done s m args below meth c H locs 0 0 Q (F0 m 36 ls []) := by
    intro H locs ls hP hD hS hl
    refine lv_aload_n hx hb d_Md_done_36 rfl (lv_at hl 0 rfl) ?_
    refine va_get (D := (dC, dI)) (ci := 8) (v := .int s_t_size) (C := R_Md) (T := T_Md) (N := 16) hx hb hts in_Md hown hK hP 0 rfl rfl 1 (by decide) (hts _ g_707) (fun _ h9 => h9) rfl d_Md_done_37 ?_
    replace h := Option.some.inj h
    replace h := Prod.mk.inj h
    obtain ⟨h1, h⟩ := h
    subst h1
    replace h := Prod.mk.inj h
    obtain ⟨h1, h⟩ := h
    subst h1
    subst h
    exact hret _ _ hP hD hS _ _ d_Md_done_40
  clear h
  have hL_6 : ∀ (n_ : Nat) (x1_1 : Int32) (e_t_text_2 : Nat → Int32) (H : Heap) (locs : List Loc) (ls : Array Slot), lp_Md_done_10 s_t_thrown s_t_size s_t_place s_t_limbCount s_t_rows s_t_columns s_t_laid e_t_draft n_t_text n_t_draft n_ x1_1 e_t_text_2 = some e_t_text_3 → va_P (dC, dI) x_cl [(a_t, .inr (8, [.int s_t_thrown, .int s_t_size, .ref a_t_text, .int s_t_place, .ref a_t_digits, .ref a_t_counts, .ref a_t_points, .ref a_t_limbs, .int s_t_limbCount, .int s_t_rows, .int s_t_columns, .ref a_t_cells, .int s_t_laid, .ref a_t_lines, .int s_t_size, .ref a_t_draft])), (a_t_text, .inl (c_t_text, n_t_text, .inl e_t_text_2)), (a_t_draft, .inl (c_t_draft, n_t_draft, .inl e_t_draft))] H → va_D A [(a_t, .inr (8, [.int s_t_thrown, .int s_t_size, .ref a_t_text, .int s_t_place, .ref a_t_digits, .ref a_t_counts, .ref a_t_points, .ref a_t_limbs, .int s_t_limbCount, .int s_t_rows, .int s_t_columns, .ref a_t_cells, .int s_t_laid, .ref a_t_lines, .int s_t_size, .ref a_t_draft])), (a_t_text, .inl (c_t_text, n_t_text, .inl e_t_text_2)), (a_t_draft, .inl (c_t_draft, n_t_draft, .inl e_t_draft))] → va_S A s.heap H locs → lv_has ls 2 [(0, .ref a_t), (1, .int x1_1)] → W p l e rm_Md_done s m args below meth c H locs 0 0 Q (F0 m 10 ls []) := by
    intro n_
    induction n_ with
    | zero => intro x1_1 e_t_text_2 H locs ls h; cases h
    | succ n_ ih =>
      intro x1_1 e_t_text_2 H locs ls h hP hD hS hl
      rw [lp_Md_done_10] at h
      refine lv_iload_n hx hb d_Md_done_10 rfl (lv_at hl 1 rfl) ?_
      refine lv_aload_n hx hb d_Md_done_11 rfl (lv_at hl 0 rfl) ?_
      refine va_get (D := (dC, dI)) (ci := 8) (v := .int s_t_size) (C := R_Md) (T := T_Md) (N := 16) hx hb hts in_Md hown hK hP 0 rfl rfl 14 (by decide) (hts _ g_720) (fun _ h9 => h9) rfl d_Md_done_12 ?_
      refine lv_icmp_ge (tgt := 36) hx hb d_Md_done_15 (by decide) (fun c_7 => ?_) (fun c_7 => ?_)
      · rw [if_pos c_7] at h
        replace h := Option.some.inj h
        subst h
        exact hX_5 _ _ _ hP hD hS (lv_sub hl [0] rfl)
      · rw [if_neg c_7] at h
        refine lv_aload_n hx hb d_Md_done_18 rfl (lv_at hl 0 rfl) ?_
        refine va_get (D := (dC, dI)) (ci := 8) (v := .ref a_t_text) (C := R_Md) (T := T_Md) (N := 16) hx hb hts in_Md hown hK hP 0 rfl rfl 2 (by decide) (hts _ g_708) (fun _ h9 => h9) rfl d_Md_done_19 ?_
        refine lv_iload_n hx hb d_Md_done_22 rfl (lv_at hl 1 rfl) ?_
        refine lv_aload_n hx hb d_Md_done_23 rfl (lv_at hl 0 rfl) ?_
        refine va_get (D := (dC, dI)) (ci := 8) (v := .ref a_t_draft) (C := R_Md) (T := T_Md) (N := 16) hx hb hts in_Md hown hK hP 0 rfl rfl 15 (by decide) (hts _ g_721) (fun _ h9 => h9) rfl d_Md_done_24 ?_
        refine lv_iload_n hx hb d_Md_done_27 rfl (lv_at hl 1 rfl) ?_
        replace h := xg h
        obtain ⟨hg_8, h⟩ := h
        refine va_iald hx hb hK hP 2 1 rfl rfl hg_8 d_Md_done_28 ?_
        replace h := xg h
        obtain ⟨hg_9, h⟩ := h
        refine va_iast hx hb hK hP hD hS 1 0 rfl rfl hg_9 d_Md_done_29 (fun H locs hP hD hS => ?_)
        have hP : va_P (dC, dI) x_cl [(a_t, .inr (8, [.int s_t_thrown, .int s_t_size, .ref a_t_text, .int s_t_place, .ref a_t_digits, .ref a_t_counts, .ref a_t_points, .ref a_t_limbs, .int s_t_limbCount, .int s_t_rows, .int s_t_columns, .ref a_t_cells, .int s_t_laid, .ref a_t_lines, .int s_t_size, .ref a_t_draft])), (a_t_text, .inl (c_t_text, n_t_text, .inl ((upd e_t_text_2 x1_1.toNatClampNeg (e_t_draft x1_1.toNatClampNeg))))), (a_t_draft, .inl (c_t_draft, n_t_draft, .inl e_t_draft))] H := hP
        have hD : va_D A [(a_t, .inr (8, [.int s_t_thrown, .int s_t_size, .ref a_t_text, .int s_t_place, .ref a_t_digits, .ref a_t_counts, .ref a_t_points, .ref a_t_limbs, .int s_t_limbCount, .int s_t_rows, .int s_t_columns, .ref a_t_cells, .int s_t_laid, .ref a_t_lines, .int s_t_size, .ref a_t_draft])), (a_t_text, .inl (c_t_text, n_t_text, .inl ((upd e_t_text_2 x1_1.toNatClampNeg (e_t_draft x1_1.toNatClampNeg))))), (a_t_draft, .inl (c_t_draft, n_t_draft, .inl e_t_draft))] := hD
        replace h := xnm_s h
        obtain ⟨x1_10, ex1_10, h⟩ := h
        refine lv_iinc (v := x1_10) (lv' := [(1, .int x1_10), (0, .ref a_t)]) hx hb d_Md_done_30 hl (k := 1) rfl (by rw [← ex1_10]; rfl) (by decide) rfl (fun ls hl => ?_)
        refine lv_goto (tgt := 10) hx hb d_Md_done_33 (by decide) ?_
        exact ih _ _ _ _ _ h hP hD hS (lv_sub hl [1, 0] rfl)
  exact hL_6 xF _ _ _ _ _ hlp_4 hP hD hS (lv_sub hl [1, 0] rfl)
