def f_Md_shown (n_t_lines : Nat) (s_t_thrown : Int32) (s_t_length : Int32) (s_t_place : Int32) (s_t_limbCount : Int32) (s_t_rows : Int32) (s_t_columns : Int32) (s_t_laid : Int32) (s_t_size : Int32) (e_t_lines : Nat → Int32) (x1 : Int32) (x2 : Int32) : Option (Int32 × Int32) :=
  xob (f_Md_in x1 (0 : Int32) (s_t_rows - (1 : Int32))) fun r_1 => if r_1 = 0 then (some ((-1 : Int32), (0 : Int32))) else (xob (f_Md_in x2 (0 : Int32) (s_t_laid - (1 : Int32))) fun r_4 => if r_4 = 0 then (some ((-1 : Int32), (0 : Int32))) else (if ((((1200 : Int32) * x1) + x2) < 0 ∨ n_t_lines ≤ (((1200 : Int32) * x1) + x2).toNatClampNeg) then none else some ((e_t_lines (((1200 : Int32) * x1) + x2).toNatClampNeg), (0 : Int32))))
def rm_Md_shown : Room := { frames := 1, cells := 0, slots := 0, locals := 22 }
set_option maxHeartbeats 4000000 in
set_option maxRecDepth 100000 in
theorem c_Md_shown (l : Launch) (dC : Nat → ClassId) (dI : Nat → Nat → Nat) (a_t a_t_text a_t_digits a_t_counts a_t_points a_t_limbs a_t_cells a_t_lines a_t_draft : Nat) (c_t_lines : ClassId) (n_t_lines : Nat) (s_t_thrown : Int32) (s_t_length : Int32) (s_t_place : Int32) (s_t_limbCount : Int32) (s_t_rows : Int32) (s_t_columns : Int32) (s_t_laid : Int32) (s_t_size : Int32) (e_t_lines : Nat → Int32) (x1 : Int32) (x2 : Int32) (r_ : Int32) (s_t_thrown_o : Int32) (h : f_Md_shown n_t_lines s_t_thrown s_t_length s_t_place s_t_limbCount s_t_rows s_t_columns s_t_laid s_t_size e_t_lines x1 x2 = some (r_, s_t_thrown_o)) : xM l y_Md_shown (Cond.code y_Md_shown b_Md_shown 3 (some .int) :: xG) rm_Md_shown (dC, dI) x_cl x_nz [.ref a_t, .int x1, .int x2] [(c_t_lines, .int)] [(a_t, .inr (8, [.int s_t_thrown, .int s_t_length, .ref a_t_text, .int s_t_place, .ref a_t_digits, .ref a_t_counts, .ref a_t_points, .ref a_t_limbs, .int s_t_limbCount, .int s_t_rows, .int s_t_columns, .ref a_t_cells, .int s_t_laid, .ref a_t_lines, .int s_t_size, .ref a_t_draft])), (a_t_lines, .inl (c_t_lines, n_t_lines, .inl e_t_lines))] (some (.int r_)) [(a_t, .inr (8, [.int s_t_thrown_o, .int s_t_length, .ref a_t_text, .int s_t_place, .ref a_t_digits, .ref a_t_counts, .ref a_t_points, .ref a_t_limbs, .int s_t_limbCount, .int s_t_rows, .int s_t_columns, .ref a_t_cells, .int s_t_laid, .ref a_t_lines, .int s_t_size, .ref a_t_draft])), (a_t_lines, .inl (c_t_lines, n_t_lines, .inl e_t_lines))] := by
  unfold f_Md_shown at h
  refine xM.mkI (cc := b_Md_shown) (maxL := 3)  (by decide +kernel) rfl (Nat.le_of_ble_eq_true rfl) ?_
  intro p e s m args below meth c A Q ls hx hb hml hown hts hNz hA hP hD hK hl hret
  have hS : va_S A s.heap s.heap [] := va_S.rf
  have hl : lv_has ls 3 [(0, .ref a_t), (1, .int x1), (2, .int x2)] := hl
  refine lv_aload_n hx hb d_Md_shown_0 rfl (lv_at hl 0 rfl) ?_
  refine lv_iconst (v := 0) hx hb d_Md_shown_1 (by decide) ?_
  refine va_put (D := (dC, dI)) (ci := 8) (v := .int (0 : Int32)) (ty := .int) (C := R_Md) (T := T_Md) (N := 16) hx hb hts in_Md ty_Md tyok_Md nn_Md hown hK hP hD hS 0 rfl rfl 0 (by decide) (hts _ g_706) (fun _ h9 => h9) rfl (by decide +kernel) rfl rfl (Nat.le_of_ble_eq_true rfl) d_Md_shown_2 (fun H locs hP hD hS => ?_)
  have hP : va_P (dC, dI) x_cl [(a_t, .inr (8, [.int (0 : Int32), .int s_t_length, .ref a_t_text, .int s_t_place, .ref a_t_digits, .ref a_t_counts, .ref a_t_points, .ref a_t_limbs, .int s_t_limbCount, .int s_t_rows, .int s_t_columns, .ref a_t_cells, .int s_t_laid, .ref a_t_lines, .int s_t_size, .ref a_t_draft])), (a_t_lines, .inl (c_t_lines, n_t_lines, .inl e_t_lines))] H := hP
  have hD : va_D A [(a_t, .inr (8, [.int (0 : Int32), .int s_t_length, .ref a_t_text, .int s_t_place, .ref a_t_digits, .ref a_t_counts, .ref a_t_points, .ref a_t_limbs, .int s_t_limbCount, .int s_t_rows, .int s_t_columns, .ref a_t_cells, .int s_t_laid, .ref a_t_lines, .int s_t_size, .ref a_t_draft])), (a_t_lines, .inl (c_t_lines, n_t_lines, .inl e_t_lines))] := hD
  refine lv_iload_n hx hb d_Md_shown_5 rfl (lv_at hl 1 rfl) ?_
  refine lv_iconst (v := 0) hx hb d_Md_shown_6 (by decide) ?_
  refine lv_aload_n hx hb d_Md_shown_7 rfl (lv_at hl 0 rfl) ?_
  refine va_get (D := (dC, dI)) (ci := 8) (v := .int s_t_rows) (C := R_Md) (T := T_Md) (N := 16) hx hb hts in_Md hown hK hP 0 rfl rfl 9 (by decide) (hts _ g_715) (fun _ h9 => h9) rfl d_Md_shown_8 ?_
  refine lv_iconst (v := 1) hx hb d_Md_shown_11 (by decide) ?_
  refine lv_isub hx hb d_Md_shown_12 ?_
  replace h := xob_s h
  obtain ⟨r_1, hc_2, h⟩ := h
  try dsimp only at h
  refine xcS (As := [.int x1, .int (0 : Int32), .int (s_t_rows - (1 : Int32))]) (rest := []) (st1 := [.int r_1]) (wr := [(a_t, .inr (8, [.int (0 : Int32), .int s_t_length, .ref a_t_text, .int s_t_place, .ref a_t_digits, .ref a_t_counts, .ref a_t_points, .ref a_t_limbs, .int s_t_limbCount, .int s_t_rows, .int s_t_columns, .ref a_t_cells, .int s_t_laid, .ref a_t_lines, .int s_t_size, .ref a_t_draft])), (a_t_lines, .inl (c_t_lines, n_t_lines, .inl e_t_lines))]) ⟨hx, hb, hml, hown, hts⟩ (c_Md_in l dC dI x1 (0 : Int32) (s_t_rows - (1 : Int32)) r_1 hc_2) (⟨callB_of 3 hts (xgood g_765) rfl rfl rfl (hts _ g_10) (hts _ g_763) (by decide +kernel) ⟨Nat.le_of_ble_eq_true rfl, Nat.le_of_ble_eq_true rfl⟩, (hts _ g_764)⟩) hNz hA hP hD hS hK [] [0, 1] [] rfl rfl rfl rfl (by decide) rfl rfl rfl rfl hl.1 (Nat.le_of_ble_eq_true rfl) ⟨Nat.zero_le _, Nat.zero_le _⟩ d_Md_shown_13 (fun H locs hP hD hS => ?_)
  have hP : va_P (dC, dI) x_cl [(a_t, .inr (8, [.int (0 : Int32), .int s_t_length, .ref a_t_text, .int s_t_place, .ref a_t_digits, .ref a_t_counts, .ref a_t_points, .ref a_t_limbs, .int s_t_limbCount, .int s_t_rows, .int s_t_columns, .ref a_t_cells, .int s_t_laid, .ref a_t_lines, .int s_t_size, .ref a_t_draft])), (a_t_lines, .inl (c_t_lines, n_t_lines, .inl e_t_lines))] H := hP
  have hD : va_D A [(a_t, .inr (8, [.int (0 : Int32), .int s_t_length, .ref a_t_text, .int s_t_place, .ref a_t_digits, .ref a_t_counts, .ref a_t_points, .ref a_t_limbs, .int s_t_limbCount, .int s_t_rows, .int s_t_columns, .ref a_t_cells, .int s_t_laid, .ref a_t_lines, .int s_t_size, .ref a_t_draft])), (a_t_lines, .inl (c_t_lines, n_t_lines, .inl e_t_lines))] := hD
  refine lv_if_eq (tgt := 48) hx hb d_Md_shown_16 (by decide) (fun c_3 => ?_) (fun c_3 => ?_)
  · rw [if_pos c_3] at h
    refine lv_iconst (v := -1) hx hb d_Md_shown_48 (by decide) ?_
    replace h := Option.some.inj h
    replace h := Prod.mk.inj h
    obtain ⟨h1, h⟩ := h
    subst h1
    subst h
    exact hret _ _ hP hD hS _ _ d_Md_shown_49
  · rw [if_neg c_3] at h
    refine lv_iload_n hx hb d_Md_shown_19 rfl (lv_at hl 2 rfl) ?_
    refine lv_iconst (v := 0) hx hb d_Md_shown_20 (by decide) ?_
    refine lv_aload_n hx hb d_Md_shown_21 rfl (lv_at hl 0 rfl) ?_
    refine va_get (D := (dC, dI)) (ci := 8) (v := .int s_t_laid) (C := R_Md) (T := T_Md) (N := 16) hx hb hts in_Md hown hK hP 0 rfl rfl 12 (by decide) (hts _ g_718) (fun _ h9 => h9) rfl d_Md_shown_22 ?_
    refine lv_iconst (v := 1) hx hb d_Md_shown_25 (by decide) ?_
    refine lv_isub hx hb d_Md_shown_26 ?_
    replace h := xob_s h
    obtain ⟨r_4, hc_5, h⟩ := h
    try dsimp only at h
    refine xcS (As := [.int x2, .int (0 : Int32), .int (s_t_laid - (1 : Int32))]) (rest := []) (st1 := [.int r_4]) (wr := [(a_t, .inr (8, [.int (0 : Int32), .int s_t_length, .ref a_t_text, .int s_t_place, .ref a_t_digits, .ref a_t_counts, .ref a_t_points, .ref a_t_limbs, .int s_t_limbCount, .int s_t_rows, .int s_t_columns, .ref a_t_cells, .int s_t_laid, .ref a_t_lines, .int s_t_size, .ref a_t_draft])), (a_t_lines, .inl (c_t_lines, n_t_lines, .inl e_t_lines))]) ⟨hx, hb, hml, hown, hts⟩ (c_Md_in l dC dI x2 (0 : Int32) (s_t_laid - (1 : Int32)) r_4 hc_5) (⟨callB_of 3 hts (xgood g_765) rfl rfl rfl (hts _ g_10) (hts _ g_763) (by decide +kernel) ⟨Nat.le_of_ble_eq_true rfl, Nat.le_of_ble_eq_true rfl⟩, (hts _ g_764)⟩) hNz hA hP hD hS hK [] [0, 1] [] rfl rfl rfl rfl (by decide) rfl rfl rfl rfl hl.1 (Nat.le_of_ble_eq_true rfl) ⟨Nat.zero_le _, Nat.zero_le _⟩ d_Md_shown_27 (fun H locs hP hD hS => ?_)
    have hP : va_P (dC, dI) x_cl [(a_t, .inr (8, [.int (0 : Int32), .int s_t_length, .ref a_t_text, .int s_t_place, .ref a_t_digits, .ref a_t_counts, .ref a_t_points, .ref a_t_limbs, .int s_t_limbCount, .int s_t_rows, .int s_t_columns, .ref a_t_cells, .int s_t_laid, .ref a_t_lines, .int s_t_size, .ref a_t_draft])), (a_t_lines, .inl (c_t_lines, n_t_lines, .inl e_t_lines))] H := hP
    have hD : va_D A [(a_t, .inr (8, [.int (0 : Int32), .int s_t_length, .ref a_t_text, .int s_t_place, .ref a_t_digits, .ref a_t_counts, .ref a_t_points, .ref a_t_limbs, .int s_t_limbCount, .int s_t_rows, .int s_t_columns, .ref a_t_cells, .int s_t_laid, .ref a_t_lines, .int s_t_size, .ref a_t_draft])), (a_t_lines, .inl (c_t_lines, n_t_lines, .inl e_t_lines))] := hD
    refine lv_if_eq (tgt := 48) hx hb d_Md_shown_30 (by decide) (fun c_6 => ?_) (fun c_6 => ?_)
    · rw [if_pos c_6] at h
      refine lv_iconst (v := -1) hx hb d_Md_shown_48 (by decide) ?_
      replace h := Option.some.inj h
      replace h := Prod.mk.inj h
      obtain ⟨h1, h⟩ := h
      subst h1
      subst h
      exact hret _ _ hP hD hS _ _ d_Md_shown_49
    · rw [if_neg c_6] at h
      refine lv_aload_n hx hb d_Md_shown_33 rfl (lv_at hl 0 rfl) ?_
      refine va_get (D := (dC, dI)) (ci := 8) (v := .ref a_t_lines) (C := R_Md) (T := T_Md) (N := 16) hx hb hts in_Md hown hK hP 0 rfl rfl 13 (by decide) (hts _ g_719) (fun _ h9 => h9) rfl d_Md_shown_34 ?_
      refine lv_sipush (v := 1200) hx hb d_Md_shown_37 (by decide) ?_
      refine lv_iload_n hx hb d_Md_shown_40 rfl (lv_at hl 1 rfl) ?_
      refine lv_imul hx hb d_Md_shown_41 ?_
      refine lv_iload_n hx hb d_Md_shown_42 rfl (lv_at hl 2 rfl) ?_
      refine lv_iadd hx hb d_Md_shown_43 ?_
      replace h := xg h
      obtain ⟨hg_7, h⟩ := h
      refine va_iald hx hb hK hP 1 0 rfl rfl hg_7 d_Md_shown_44 ?_
      refine lv_goto (tgt := 49) hx hb d_Md_shown_45 (by decide) ?_
      replace h := Option.some.inj h
      replace h := Prod.mk.inj h
      obtain ⟨h1, h⟩ := h
      subst h1
      subst h
      exact hret _ _ hP hD hS _ _ d_Md_shown_49
