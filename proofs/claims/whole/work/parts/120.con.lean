def f_Md_set (n_t_cells : Nat) (s_t_thrown : Int32) (s_t_length : Int32) (s_t_place : Int32) (s_t_limbCount : Int32) (s_t_rows : Int32) (s_t_columns : Int32) (s_t_laid : Int32) (s_t_size : Int32) (e_t_cells : Nat → Int64) (x1 : Int32) (x2 : Int32) (x3 : Int64) : Option (Int32 × (Nat → Int64)) :=
  xob (f_Md_in x1 (0 : Int32) (s_t_rows - (1 : Int32))) fun r_1 => xob (if r_1 = 0 then (some (0 : Int32)) else (xob (f_Md_in x2 (0 : Int32) (s_t_columns - (1 : Int32))) fun r_12 => if r_12 = 0 then (some (0 : Int32)) else (some (1 : Int32)))) fun z_3 => xob (f_Md_goes s_t_thrown s_t_length s_t_place s_t_limbCount s_t_rows s_t_columns s_t_laid s_t_size z_3) fun (r_6, s_t_thrown_7) => if r_6 = 0 then (some (s_t_thrown_7, e_t_cells)) else (if ((((8 : Int32) * x1) + x2) < 0 ∨ n_t_cells ≤ (((8 : Int32) * x1) + x2).toNatClampNeg) then none else some (s_t_thrown_7, (vp_updL e_t_cells (((8 : Int32) * x1) + x2).toNatClampNeg x3)))
def rm_Md_set : Room := { frames := 1, cells := 0, slots := 0, locals := 22 }
set_option maxHeartbeats 4000000 in
set_option maxRecDepth 100000 in
theorem c_Md_set (l : Launch) (dC : Nat → ClassId) (dI : Nat → Nat → Nat) (a_t a_t_text a_t_digits a_t_counts a_t_points a_t_limbs a_t_cells a_t_lines a_t_draft : Nat) (c_t_cells : ClassId) (n_t_cells : Nat) (s_t_thrown : Int32) (s_t_length : Int32) (s_t_place : Int32) (s_t_limbCount : Int32) (s_t_rows : Int32) (s_t_columns : Int32) (s_t_laid : Int32) (s_t_size : Int32) (e_t_cells : Nat → Int64) (x1 : Int32) (x2 : Int32) (x3 : Int64) (s_t_thrown_o : Int32) (e_t_cells_o : Nat → Int64) (h : f_Md_set n_t_cells s_t_thrown s_t_length s_t_place s_t_limbCount s_t_rows s_t_columns s_t_laid s_t_size e_t_cells x1 x2 x3 = some (s_t_thrown_o, e_t_cells_o)) : xM l y_Md_set (Cond.code y_Md_set b_Md_set 5 none :: xG) rm_Md_set (dC, dI) x_cl x_nz [.ref a_t, .int x1, .int x2, .long x3] [(c_t_cells, .long)] [(a_t, .inr (8, [.int s_t_thrown, .int s_t_length, .ref a_t_text, .int s_t_place, .ref a_t_digits, .ref a_t_counts, .ref a_t_points, .ref a_t_limbs, .int s_t_limbCount, .int s_t_rows, .int s_t_columns, .ref a_t_cells, .int s_t_laid, .ref a_t_lines, .int s_t_size, .ref a_t_draft])), (a_t_cells, .inl (c_t_cells, n_t_cells, .inr (.inl e_t_cells)))] none [(a_t, .inr (8, [.int s_t_thrown_o, .int s_t_length, .ref a_t_text, .int s_t_place, .ref a_t_digits, .ref a_t_counts, .ref a_t_points, .ref a_t_limbs, .int s_t_limbCount, .int s_t_rows, .int s_t_columns, .ref a_t_cells, .int s_t_laid, .ref a_t_lines, .int s_t_size, .ref a_t_draft])), (a_t_cells, .inl (c_t_cells, n_t_cells, .inr (.inl e_t_cells_o)))] := by
  unfold f_Md_set at h
  refine xM.mkV (cc := b_Md_set) (maxL := 5)  (by decide +kernel) rfl (Nat.le_of_ble_eq_true rfl) ?_
  intro p e s m args below meth c A Q ls hx hb hml hown hts hNz hA hP hD hK hl hret
  have hS : va_S A s.heap s.heap [] := va_S.rf
  have hl : lv_has ls 5 [(0, .ref a_t), (1, .int x1), (2, .int x2), (3, .long x3)] := hl
  refine lv_aload_n hx hb d_Md_set_0 rfl (lv_at hl 0 rfl) ?_
  refine lv_iload_n hx hb d_Md_set_1 rfl (lv_at hl 1 rfl) ?_
  refine lv_iconst (v := 0) hx hb d_Md_set_2 (by decide) ?_
  refine lv_aload_n hx hb d_Md_set_3 rfl (lv_at hl 0 rfl) ?_
  refine va_get (D := (dC, dI)) (ci := 8) (v := .int s_t_rows) (C := R_Md) (T := T_Md) (N := 16) hx hb hts in_Md hown hK hP 0 rfl rfl 9 (by decide) (hts _ g_715) (fun _ h9 => h9) rfl d_Md_set_4 ?_
  refine lv_iconst (v := 1) hx hb d_Md_set_7 (by decide) ?_
  refine lv_isub hx hb d_Md_set_8 ?_
  replace h := xob_s h
  obtain ⟨r_1, hc_2, h⟩ := h
  try dsimp only at h
  refine xcS (As := [.int x1, .int (0 : Int32), .int (s_t_rows - (1 : Int32))]) (rest := [.ref a_t]) (st1 := [.int r_1, .ref a_t]) (wr := [(a_t, .inr (8, [.int s_t_thrown, .int s_t_length, .ref a_t_text, .int s_t_place, .ref a_t_digits, .ref a_t_counts, .ref a_t_points, .ref a_t_limbs, .int s_t_limbCount, .int s_t_rows, .int s_t_columns, .ref a_t_cells, .int s_t_laid, .ref a_t_lines, .int s_t_size, .ref a_t_draft])), (a_t_cells, .inl (c_t_cells, n_t_cells, .inr (.inl e_t_cells)))]) ⟨hx, hb, hml, hown, hts⟩ (c_Md_in l dC dI x1 (0 : Int32) (s_t_rows - (1 : Int32)) r_1 hc_2) (⟨callB_of 3 hts (xgood g_765) rfl rfl rfl (hts _ g_10) (hts _ g_763) (by decide +kernel) ⟨Nat.le_of_ble_eq_true rfl, Nat.le_of_ble_eq_true rfl⟩, (hts _ g_764)⟩) hNz hA hP hD hS hK [] [0, 1] [] rfl rfl rfl rfl (by decide) rfl rfl rfl rfl hl.1 (Nat.le_of_ble_eq_true rfl) ⟨Nat.zero_le _, Nat.zero_le _⟩ d_Md_set_9 (fun H locs hP hD hS => ?_)
  have hP : va_P (dC, dI) x_cl [(a_t, .inr (8, [.int s_t_thrown, .int s_t_length, .ref a_t_text, .int s_t_place, .ref a_t_digits, .ref a_t_counts, .ref a_t_points, .ref a_t_limbs, .int s_t_limbCount, .int s_t_rows, .int s_t_columns, .ref a_t_cells, .int s_t_laid, .ref a_t_lines, .int s_t_size, .ref a_t_draft])), (a_t_cells, .inl (c_t_cells, n_t_cells, .inr (.inl e_t_cells)))] H := hP
  have hD : va_D A [(a_t, .inr (8, [.int s_t_thrown, .int s_t_length, .ref a_t_text, .int s_t_place, .ref a_t_digits, .ref a_t_counts, .ref a_t_points, .ref a_t_limbs, .int s_t_limbCount, .int s_t_rows, .int s_t_columns, .ref a_t_cells, .int s_t_laid, .ref a_t_lines, .int s_t_size, .ref a_t_draft])), (a_t_cells, .inl (c_t_cells, n_t_cells, .inr (.inl e_t_cells)))] := hD
  replace h := xob_s h
  obtain ⟨z_3, hj_4, h⟩ := h
  try dsimp only at h
  have hJ_5 : ∀ (H : Heap) (locs : List Loc) (ls : Array Slot), va_P (dC, dI) x_cl [(a_t, .inr (8, [.int s_t_thrown, .int s_t_length, .ref a_t_text, .int s_t_place, .ref a_t_digits, .ref a_t_counts, .ref a_t_points, .ref a_t_limbs, .int s_t_limbCount, .int s_t_rows, .int s_t_columns, .ref a_t_cells, .int s_t_laid, .ref a_t_lines, .int s_t_size, .ref a_t_draft])), (a_t_cells, .inl (c_t_cells, n_t_cells, .inr (.inl e_t_cells)))] H → va_D A [(a_t, .inr (8, [.int s_t_thrown, .int s_t_length, .ref a_t_text, .int s_t_place, .ref a_t_digits, .ref a_t_counts, .ref a_t_points, .ref a_t_limbs, .int s_t_limbCount, .int s_t_rows, .int s_t_columns, .ref a_t_cells, .int s_t_laid, .ref a_t_lines, .int s_t_size, .ref a_t_draft])), (a_t_cells, .inl (c_t_cells, n_t_cells, .inr (.inl e_t_cells)))] → va_S A s.heap H locs → lv_has ls 5 [(0, .ref a_t), (1, .int x1), (2, .int x2), (3, .long x3)] → W p l e rm_Md_set s m args below meth c H locs 0 0 Q (F0 m 34 ls [.int z_3, .ref a_t]) := by
    intro H locs ls hP hD hS hl
    replace h := xob_s h
    obtain ⟨⟨r_6, s_t_thrown_7⟩, hc_8, h⟩ := h
    try dsimp only at h
    refine xcV (As := [.int z_3]) (rest := []) (st1 := [.int r_6]) (wr := [(a_t_cells, .inl (c_t_cells, n_t_cells, .inr (.inl e_t_cells)))]) ⟨hx, hb, hml, hown, hts⟩ (c_Md_goes l dC dI a_t a_t_text a_t_digits a_t_counts a_t_points a_t_limbs a_t_cells a_t_lines a_t_draft s_t_thrown s_t_length s_t_place s_t_limbCount s_t_rows s_t_columns s_t_laid s_t_size z_3 r_6 s_t_thrown_7 hc_8) (cwV 1 hts (xgoodV g_790 g_792 gp_22 g_10 g_793) rfl rfl rfl (by decide +kernel) ⟨Nat.le_of_ble_eq_true rfl, Nat.le_of_ble_eq_true rfl⟩) hNz (ci := 8) (q0 := 0) rfl rfl hA hP hD hS hK [0] [1] [] rfl rfl rfl rfl (by decide) rfl rfl rfl rfl hl.1 (Nat.le_of_ble_eq_true rfl) ⟨Nat.zero_le _, Nat.zero_le _⟩ d_Md_set_34 (fun H locs hP hD hS => ?_)
    have hP : va_P (dC, dI) x_cl [(a_t_cells, .inl (c_t_cells, n_t_cells, .inr (.inl e_t_cells))), (a_t, .inr (8, [.int s_t_thrown_7, .int s_t_length, .ref a_t_text, .int s_t_place, .ref a_t_digits, .ref a_t_counts, .ref a_t_points, .ref a_t_limbs, .int s_t_limbCount, .int s_t_rows, .int s_t_columns, .ref a_t_cells, .int s_t_laid, .ref a_t_lines, .int s_t_size, .ref a_t_draft]))] H := hP
    have hD : va_D A [(a_t_cells, .inl (c_t_cells, n_t_cells, .inr (.inl e_t_cells))), (a_t, .inr (8, [.int s_t_thrown_7, .int s_t_length, .ref a_t_text, .int s_t_place, .ref a_t_digits, .ref a_t_counts, .ref a_t_points, .ref a_t_limbs, .int s_t_limbCount, .int s_t_rows, .int s_t_columns, .ref a_t_cells, .int s_t_laid, .ref a_t_lines, .int s_t_size, .ref a_t_draft]))] := hD
    refine lv_if_eq (tgt := 52) hx hb d_Md_set_37 (by decide) (fun c_9 => ?_) (fun c_9 => ?_)
    · rw [if_pos c_9] at h
      replace h := Option.some.inj h
      replace h := Prod.mk.inj h
      obtain ⟨h1, h⟩ := h
      subst h1
      subst h
      exact hret _ _ (hP.sub [1, 0] rfl) (hD.sub [1, 0] (by decide) rfl) hS _ _ d_Md_set_52
    · rw [if_neg c_9] at h
      refine lv_aload_n hx hb d_Md_set_40 rfl (lv_at hl 0 rfl) ?_
      refine va_get (D := (dC, dI)) (ci := 8) (v := .ref a_t_cells) (C := R_Md) (T := T_Md) (N := 16) hx hb hts in_Md hown hK hP 1 rfl rfl 11 (by decide) (hts _ g_717) (fun _ h9 => h9) rfl d_Md_set_41 ?_
      refine lv_bipush (v := 8) hx hb d_Md_set_44 (by decide) ?_
      refine lv_iload_n hx hb d_Md_set_46 rfl (lv_at hl 1 rfl) ?_
      refine lv_imul hx hb d_Md_set_47 ?_
      refine lv_iload_n hx hb d_Md_set_48 rfl (lv_at hl 2 rfl) ?_
      refine lv_iadd hx hb d_Md_set_49 ?_
      refine lv_lload_n hx hb d_Md_set_50 rfl (lv_at hl 3 rfl) ?_
      replace h := xg h
      obtain ⟨hg_10, h⟩ := h
      refine va_last hx hb hK hP hD hS 0 0 rfl rfl hg_10 d_Md_set_51 (fun H locs hP hD hS => ?_)
      have hP : va_P (dC, dI) x_cl [(a_t_cells, .inl (c_t_cells, n_t_cells, .inr (.inl ((vp_updL e_t_cells (((8 : Int32) * x1) + x2).toNatClampNeg x3))))), (a_t, .inr (8, [.int s_t_thrown_7, .int s_t_length, .ref a_t_text, .int s_t_place, .ref a_t_digits, .ref a_t_counts, .ref a_t_points, .ref a_t_limbs, .int s_t_limbCount, .int s_t_rows, .int s_t_columns, .ref a_t_cells, .int s_t_laid, .ref a_t_lines, .int s_t_size, .ref a_t_draft]))] H := hP
      have hD : va_D A [(a_t_cells, .inl (c_t_cells, n_t_cells, .inr (.inl ((vp_updL e_t_cells (((8 : Int32) * x1) + x2).toNatClampNeg x3))))), (a_t, .inr (8, [.int s_t_thrown_7, .int s_t_length, .ref a_t_text, .int s_t_place, .ref a_t_digits, .ref a_t_counts, .ref a_t_points, .ref a_t_limbs, .int s_t_limbCount, .int s_t_rows, .int s_t_columns, .ref a_t_cells, .int s_t_laid, .ref a_t_lines, .int s_t_size, .ref a_t_draft]))] := hD
      replace h := Option.some.inj h
      replace h := Prod.mk.inj h
      obtain ⟨h1, h⟩ := h
      subst h1
      subst h
      exact hret _ _ (hP.sub [1, 0] rfl) (hD.sub [1, 0] (by decide) rfl) hS _ _ d_Md_set_52
  replace h := hj_4
  clear hj_4
  refine lv_if_eq (tgt := 33) hx hb d_Md_set_12 (by decide) (fun c_11 => ?_) (fun c_11 => ?_)
  · rw [if_pos c_11] at h
    refine lv_iconst (v := 0) hx hb d_Md_set_33 (by decide) ?_
    replace h := Option.some.inj h
    subst h
    exact hJ_5 _ _ _ hP hD hS hl
  · rw [if_neg c_11] at h
    refine lv_iload_n hx hb d_Md_set_15 rfl (lv_at hl 2 rfl) ?_
    refine lv_iconst (v := 0) hx hb d_Md_set_16 (by decide) ?_
    refine lv_aload_n hx hb d_Md_set_17 rfl (lv_at hl 0 rfl) ?_
    refine va_get (D := (dC, dI)) (ci := 8) (v := .int s_t_columns) (C := R_Md) (T := T_Md) (N := 16) hx hb hts in_Md hown hK hP 0 rfl rfl 10 (by decide) (hts _ g_716) (fun _ h9 => h9) rfl d_Md_set_18 ?_
    refine lv_iconst (v := 1) hx hb d_Md_set_21 (by decide) ?_
    refine lv_isub hx hb d_Md_set_22 ?_
    replace h := xob_s h
    obtain ⟨r_12, hc_13, h⟩ := h
    try dsimp only at h
    refine xcS (As := [.int x2, .int (0 : Int32), .int (s_t_columns - (1 : Int32))]) (rest := [.ref a_t]) (st1 := [.int r_12, .ref a_t]) (wr := [(a_t, .inr (8, [.int s_t_thrown, .int s_t_length, .ref a_t_text, .int s_t_place, .ref a_t_digits, .ref a_t_counts, .ref a_t_points, .ref a_t_limbs, .int s_t_limbCount, .int s_t_rows, .int s_t_columns, .ref a_t_cells, .int s_t_laid, .ref a_t_lines, .int s_t_size, .ref a_t_draft])), (a_t_cells, .inl (c_t_cells, n_t_cells, .inr (.inl e_t_cells)))]) ⟨hx, hb, hml, hown, hts⟩ (c_Md_in l dC dI x2 (0 : Int32) (s_t_columns - (1 : Int32)) r_12 hc_13) (⟨callB_of 3 hts (xgood g_765) rfl rfl rfl (hts _ g_10) (hts _ g_763) (by decide +kernel) ⟨Nat.le_of_ble_eq_true rfl, Nat.le_of_ble_eq_true rfl⟩, (hts _ g_764)⟩) hNz hA hP hD hS hK [] [0, 1] [] rfl rfl rfl rfl (by decide) rfl rfl rfl rfl hl.1 (Nat.le_of_ble_eq_true rfl) ⟨Nat.zero_le _, Nat.zero_le _⟩ d_Md_set_23 (fun H locs hP hD hS => ?_)
    have hP : va_P (dC, dI) x_cl [(a_t, .inr (8, [.int s_t_thrown, .int s_t_length, .ref a_t_text, .int s_t_place, .ref a_t_digits, .ref a_t_counts, .ref a_t_points, .ref a_t_limbs, .int s_t_limbCount, .int s_t_rows, .int s_t_columns, .ref a_t_cells, .int s_t_laid, .ref a_t_lines, .int s_t_size, .ref a_t_draft])), (a_t_cells, .inl (c_t_cells, n_t_cells, .inr (.inl e_t_cells)))] H := hP
    have hD : va_D A [(a_t, .inr (8, [.int s_t_thrown, .int s_t_length, .ref a_t_text, .int s_t_place, .ref a_t_digits, .ref a_t_counts, .ref a_t_points, .ref a_t_limbs, .int s_t_limbCount, .int s_t_rows, .int s_t_columns, .ref a_t_cells, .int s_t_laid, .ref a_t_lines, .int s_t_size, .ref a_t_draft])), (a_t_cells, .inl (c_t_cells, n_t_cells, .inr (.inl e_t_cells)))] := hD
    refine lv_if_eq (tgt := 33) hx hb d_Md_set_26 (by decide) (fun c_14 => ?_) (fun c_14 => ?_)
    · rw [if_pos c_14] at h
      refine lv_iconst (v := 0) hx hb d_Md_set_33 (by decide) ?_
      replace h := Option.some.inj h
      subst h
      exact hJ_5 _ _ _ hP hD hS hl
    · rw [if_neg c_14] at h
      refine lv_iconst (v := 1) hx hb d_Md_set_29 (by decide) ?_
      refine lv_goto (tgt := 34) hx hb d_Md_set_30 (by decide) ?_
      replace h := Option.some.inj h
      subst h
      exact hJ_5 _ _ _ hP hD hS hl
def f_Md_isFinite (x0 : Int64) : Option (Int32) :=
  if 0 ≤ (lg_cmp (x0 &&& (9223372036854775807 : Int64)) (9218868437227405312 : Int64)) then (some (0 : Int32)) else (some (1 : Int32))
def rm_Md_isFinite : Room := { frames := 0, cells := 0, slots := 0, locals := 0 }
set_option maxHeartbeats 4000000 in
set_option maxRecDepth 100000 in
theorem c_Md_isFinite (l : Launch) (dC : Nat → ClassId) (dI : Nat → Nat → Nat) (x0 : Int64) (r_ : Int32) (h : f_Md_isFinite x0 = some r_) : xM l y_Md_isFinite (Cond.code y_Md_isFinite b_Md_isFinite 2 (some .boolean) :: xG) rm_Md_isFinite (dC, dI) x_cl x_nz [.long x0] [] [] (some (.int r_)) [] := by
  unfold f_Md_isFinite at h
  refine xM.mkZ (cc := b_Md_isFinite) (maxL := 2)  (by decide +kernel) rfl (Nat.le_of_ble_eq_true rfl) ?_
  intro p e s m args below meth c A Q ls hx hb hml hown hts hNz hA hP hD hK hl hret
  have hS : va_S A s.heap s.heap [] := va_S.rf
  have hl : lv_has ls 2 [(0, .long x0)] := hl
  refine lv_lload_n hx hb d_Md_isFinite_0 rfl (lv_at hl 0 rfl) ?_
  refine lv_ldc2 (v := 9223372036854775807) hx hb hown (hts _ g_852) d_Md_isFinite_1 ?_
  refine lv_land hx hb d_Md_isFinite_4 ?_
  refine lv_ldc2 (v := 9218868437227405312) hx hb hown (hts _ g_796) d_Md_isFinite_5 ?_
  refine W.lcmp hx hb d_Md_isFinite_8 ?_
  refine lv_if_ge (tgt := 16) hx hb d_Md_isFinite_9 (by decide) (fun c_1 => ?_) (fun c_1 => ?_)
  · rw [if_pos c_1] at h
    refine lv_iconst (v := 0) hx hb d_Md_isFinite_16 (by decide) ?_
    replace h := Option.some.inj h
    subst h
    exact hret _ _ hP hD hS _ _ d_Md_isFinite_17 rfl
  · rw [if_neg c_1] at h
    refine lv_iconst (v := 1) hx hb d_Md_isFinite_12 (by decide) ?_
    refine lv_goto (tgt := 17) hx hb d_Md_isFinite_13 (by decide) ?_
    replace h := Option.some.inj h
    subst h
    exact hret _ _ hP hD hS _ _ d_Md_isFinite_17 rfl
def lp_Md_placesOf_5 (x1 : Int32) (x2 : Int32) (s_t_thrown : Int32) (s_t_length : Int32) (s_t_place : Int32) (s_t_rows : Int32) (s_t_columns : Int32) (s_t_laid : Int32) (s_t_size : Int32) (e_t_cells : Nat → Int64) (n_t_digits : Nat) (n_t_counts : Nat) (n_t_points : Nat) (n_t_limbs : Nat) (n_t_cells : Nat) : Nat → Int32 → Int32 → Int32 → (Nat → Int32) → (Nat → Int32) → (Nat → Int32) → (Nat → Int32) → Option ((Int32 × Int32 × (Nat → Int32) × (Nat → Int32) × (Nat → Int32) × (Nat → Int32)) ⊕ (Int32 × Int32 × (Nat → Int32) × (Nat → Int32) × (Nat → Int32) × (Nat → Int32)))
  | 0, _, _, _, _, _, _, _ => none
  | n_ + 1, x3_1, x4_2, s_t_limbCount_3, e_t_digits_4, e_t_counts_5, e_t_points_6, e_t_limbs_7 =>
    if s_t_rows ≤ x4_2 then (some (.inl (x3_1, s_t_limbCount_3, e_t_digits_4, e_t_counts_5, e_t_points_6, e_t_limbs_7))) else (if ((((8 : Int32) * x4_2) + x1) < 0 ∨ n_t_cells ≤ (((8 : Int32) * x4_2) + x1).toNatClampNeg) then none else xnm (e_t_cells (((8 : Int32) * x4_2) + x1).toNatClampNeg) fun x5_20 => xob (f_Md_isFinite x5_20) fun r_21 => if r_21 = 0 then (xnm (x4_2 + (1 : Int32)) fun x4_24 => lp_Md_placesOf_5 x1 x2 s_t_thrown s_t_length s_t_place s_t_rows s_t_columns s_t_laid s_t_size e_t_cells n_t_digits n_t_counts n_t_points n_t_limbs n_t_cells n_ x3_1 x4_24 s_t_limbCount_3 e_t_digits_4 e_t_counts_5 e_t_points_6 e_t_limbs_7) else (xob (f_Md_isZero x5_20) fun r_25 => if r_25 = 0 then (xob (f_Md_value n_t_digits n_t_counts n_t_points n_t_limbs s_t_thrown s_t_length s_t_place s_t_limbCount_3 s_t_rows s_t_columns s_t_laid s_t_size e_t_digits_4 e_t_counts_5 e_t_points_6 e_t_limbs_7 (0 : Int32) (x5_20 &&& (9223372036854775807 : Int64))) fun (s_t_limbCount_29, e_t_digits_30, e_t_counts_31, e_t_points_32, e_t_limbs_33) => xob (f_Md_round n_t_digits n_t_counts n_t_points s_t_thrown s_t_length s_t_place s_t_limbCount_29 s_t_rows s_t_columns s_t_laid s_t_size e_t_digits_30 e_t_counts_31 e_t_points_32 (0 : Int32) (3 : Int32) x2) fun (e_t_digits_35, e_t_counts_36, e_t_points_37) => xob (f_Md_isPlain n_t_points s_t_thrown s_t_length s_t_place s_t_limbCount_29 s_t_rows s_t_columns s_t_laid s_t_size e_t_points_37 (3 : Int32)) fun r_39 => if r_39 = 0 then (some (.inr ((-1 : Int32), s_t_limbCount_29, e_t_digits_35, e_t_counts_36, e_t_points_37, e_t_limbs_33))) else (xob (f_Md_cutZeros n_t_digits n_t_counts s_t_thrown s_t_length s_t_place s_t_limbCount_29 s_t_rows s_t_columns s_t_laid s_t_size e_t_digits_35 e_t_counts_36 (3 : Int32)) fun e_t_counts_42 => if ((3 : Int32) < 0 ∨ n_t_counts ≤ (3 : Int32).toNatClampNeg) then none else if ((3 : Int32) < 0 ∨ n_t_points ≤ (3 : Int32).toNatClampNeg) then none else if ((e_t_counts_42 (3 : Int32).toNatClampNeg) - (e_t_points_37 (3 : Int32).toNatClampNeg)) ≤ x3_1 then (xnm (x4_2 + (1 : Int32)) fun x4_47 => lp_Md_placesOf_5 x1 x2 s_t_thrown s_t_length s_t_place s_t_rows s_t_columns s_t_laid s_t_size e_t_cells n_t_digits n_t_counts n_t_points n_t_limbs n_t_cells n_ x3_1 x4_47 s_t_limbCount_29 e_t_digits_35 e_t_counts_42 e_t_points_37 e_t_limbs_33) else (if ((3 : Int32) < 0 ∨ n_t_counts ≤ (3 : Int32).toNatClampNeg) then none else if ((3 : Int32) < 0 ∨ n_t_points ≤ (3 : Int32).toNatClampNeg) then none else xnm ((e_t_counts_42 (3 : Int32).toNatClampNeg) - (e_t_points_37 (3 : Int32).toNatClampNeg)) fun x3_50 => xnm (x4_2 + (1 : Int32)) fun x4_51 => lp_Md_placesOf_5 x1 x2 s_t_thrown s_t_length s_t_place s_t_rows s_t_columns s_t_laid s_t_size e_t_cells n_t_digits n_t_counts n_t_points n_t_limbs n_t_cells n_ x3_50 x4_51 s_t_limbCount_29 e_t_digits_35 e_t_counts_42 e_t_points_37 e_t_limbs_33))) else (xnm (x4_2 + (1 : Int32)) fun x4_28 => lp_Md_placesOf_5 x1 x2 s_t_thrown s_t_length s_t_place s_t_rows s_t_columns s_t_laid s_t_size e_t_cells n_t_digits n_t_counts n_t_points n_t_limbs n_t_cells n_ x3_1 x4_28 s_t_limbCount_3 e_t_digits_4 e_t_counts_5 e_t_points_6 e_t_limbs_7)))
def f_Md_placesOf (n_t_digits : Nat) (n_t_counts : Nat) (n_t_points : Nat) (n_t_limbs : Nat) (n_t_cells : Nat) (s_t_thrown : Int32) (s_t_length : Int32) (s_t_place : Int32) (s_t_limbCount : Int32) (s_t_rows : Int32) (s_t_columns : Int32) (s_t_laid : Int32) (s_t_size : Int32) (e_t_digits : Nat → Int32) (e_t_counts : Nat → Int32) (e_t_points : Nat → Int32) (e_t_limbs : Nat → Int32) (e_t_cells : Nat → Int64) (x1 : Int32) (x2 : Int32) : Option (Int32 × Int32 × (Nat → Int32) × (Nat → Int32) × (Nat → Int32) × (Nat → Int32)) :=
  xob (lp_Md_placesOf_5 x1 x2 s_t_thrown s_t_length s_t_place s_t_rows s_t_columns s_t_laid s_t_size e_t_cells n_t_digits n_t_counts n_t_points n_t_limbs n_t_cells xF (0 : Int32) (0 : Int32) s_t_limbCount e_t_digits e_t_counts e_t_points e_t_limbs) fun zz_17 => match zz_17 with | .inl (x3_8, s_t_limbCount_9, e_t_digits_10, e_t_counts_11, e_t_points_12, e_t_limbs_13) => (some (x3_8, s_t_limbCount_9, e_t_digits_10, e_t_counts_11, e_t_points_12, e_t_limbs_13)) | .inr (r_, s_t_limbCount_e, e_t_digits_e, e_t_counts_e, e_t_points_e, e_t_limbs_e) => some (r_, s_t_limbCount_e, e_t_digits_e, e_t_counts_e, e_t_points_e, e_t_limbs_e)
def rm_Md_placesOf : Room := { frames := 4, cells := 0, slots := 0, locals := 104 }
set_option maxHeartbeats 4000000 in
set_option maxRecDepth 100000 in
theorem c_Md_placesOf (l : Launch) (dC : Nat → ClassId) (dI : Nat → Nat → Nat) (a_t a_t_text a_t_digits a_t_counts a_t_points a_t_limbs a_t_cells a_t_lines a_t_draft : Nat) (c_t_digits c_t_counts c_t_points c_t_limbs c_t_cells : ClassId) (n_t_digits : Nat) (n_t_counts : Nat) (n_t_points : Nat) (n_t_limbs : Nat) (n_t_cells : Nat) (s_t_thrown : Int32) (s_t_length : Int32) (s_t_place : Int32) (s_t_limbCount : Int32) (s_t_rows : Int32) (s_t_columns : Int32) (s_t_laid : Int32) (s_t_size : Int32) (e_t_digits : Nat → Int32) (e_t_counts : Nat → Int32) (e_t_points : Nat → Int32) (e_t_limbs : Nat → Int32) (e_t_cells : Nat → Int64) (x1 : Int32) (x2 : Int32) (r_ : Int32) (s_t_limbCount_o : Int32) (e_t_digits_o : Nat → Int32) (e_t_counts_o : Nat → Int32) (e_t_points_o : Nat → Int32) (e_t_limbs_o : Nat → Int32) (h : f_Md_placesOf n_t_digits n_t_counts n_t_points n_t_limbs n_t_cells s_t_thrown s_t_length s_t_place s_t_limbCount s_t_rows s_t_columns s_t_laid s_t_size e_t_digits e_t_counts e_t_points e_t_limbs e_t_cells x1 x2 = some (r_, s_t_limbCount_o, e_t_digits_o, e_t_counts_o, e_t_points_o, e_t_limbs_o)) : xM l y_Md_placesOf (Cond.code y_Md_placesOf b_Md_placesOf 7 (some .int) :: xG) rm_Md_placesOf (dC, dI) x_cl x_nz [.ref a_t, .int x1, .int x2] [(c_t_digits, .int), (c_t_counts, .int), (c_t_points, .int), (c_t_limbs, .int), (c_t_cells, .long)] [(a_t, .inr (8, [.int s_t_thrown, .int s_t_length, .ref a_t_text, .int s_t_place, .ref a_t_digits, .ref a_t_counts, .ref a_t_points, .ref a_t_limbs, .int s_t_limbCount, .int s_t_rows, .int s_t_columns, .ref a_t_cells, .int s_t_laid, .ref a_t_lines, .int s_t_size, .ref a_t_draft])), (a_t_digits, .inl (c_t_digits, n_t_digits, .inl e_t_digits)), (a_t_counts, .inl (c_t_counts, n_t_counts, .inl e_t_counts)), (a_t_points, .inl (c_t_points, n_t_points, .inl e_t_points)), (a_t_limbs, .inl (c_t_limbs, n_t_limbs, .inl e_t_limbs)), (a_t_cells, .inl (c_t_cells, n_t_cells, .inr (.inl e_t_cells)))] (some (.int r_)) [(a_t, .inr (8, [.int s_t_thrown, .int s_t_length, .ref a_t_text, .int s_t_place, .ref a_t_digits, .ref a_t_counts, .ref a_t_points, .ref a_t_limbs, .int s_t_limbCount_o, .int s_t_rows, .int s_t_columns, .ref a_t_cells, .int s_t_laid, .ref a_t_lines, .int s_t_size, .ref a_t_draft])), (a_t_digits, .inl (c_t_digits, n_t_digits, .inl e_t_digits_o)), (a_t_counts, .inl (c_t_counts, n_t_counts, .inl e_t_counts_o)), (a_t_points, .inl (c_t_points, n_t_points, .inl e_t_points_o)), (a_t_limbs, .inl (c_t_limbs, n_t_limbs, .inl e_t_limbs_o)), (a_t_cells, .inl (c_t_cells, n_t_cells, .inr (.inl e_t_cells)))] := by
  unfold f_Md_placesOf at h
  refine xM.mkI (cc := b_Md_placesOf) (maxL := 7)  (by decide +kernel) rfl (Nat.le_of_ble_eq_true rfl) ?_
  intro p e s m args below meth c A Q ls hx hb hml hown hts hNz hA hP hD hK hl hret
  have hS : va_S A s.heap s.heap [] := va_S.rf
  have hl : lv_has ls 7 [(0, .ref a_t), (1, .int x1), (2, .int x2)] := hl
  refine lv_iconst (v := 0) hx hb d_Md_placesOf_0 (by decide) ?_
  refine lv_istore_n (lv' := [(3, .int (0 : Int32)), (0, .ref a_t), (1, .int x1), (2, .int x2)]) hx hb d_Md_placesOf_1 rfl hl (by decide) rfl (fun ls hl => ?_)
  refine lv_iconst (v := 0) hx hb d_Md_placesOf_2 (by decide) ?_
  refine lv_istore (lv' := [(4, .int (0 : Int32)), (3, .int (0 : Int32)), (0, .ref a_t), (1, .int x1), (2, .int x2)]) hx hb d_Md_placesOf_3 hl (by decide) rfl (fun ls hl => ?_)
  replace h := xob_s h
  obtain ⟨zz_17, hlp_14, h⟩ := h
  have hX_15 : ∀ (x3_8 : Int32) (s_t_limbCount_9 : Int32) (e_t_digits_10 : Nat → Int32) (e_t_counts_11 : Nat → Int32) (e_t_points_12 : Nat → Int32) (e_t_limbs_13 : Nat → Int32), zz_17 = .inl (x3_8, s_t_limbCount_9, e_t_digits_10, e_t_counts_11, e_t_points_12, e_t_limbs_13) → ∀ (H : Heap) (locs : List Loc) (ls : Array Slot), va_P (dC, dI) x_cl [(a_t, .inr (8, [.int s_t_thrown, .int s_t_length, .ref a_t_text, .int s_t_place, .ref a_t_digits, .ref a_t_counts, .ref a_t_points, .ref a_t_limbs, .int s_t_limbCount_9, .int s_t_rows, .int s_t_columns, .ref a_t_cells, .int s_t_laid, .ref a_t_lines, .int s_t_size, .ref a_t_draft])), (a_t_digits, .inl (c_t_digits, n_t_digits, .inl e_t_digits_10)), (a_t_counts, .inl (c_t_counts, n_t_counts, .inl e_t_counts_11)), (a_t_points, .inl (c_t_points, n_t_points, .inl e_t_points_12)), (a_t_limbs, .inl (c_t_limbs, n_t_limbs, .inl e_t_limbs_13)), (a_t_cells, .inl (c_t_cells, n_t_cells, .inr (.inl e_t_cells)))] H → va_D A [(a_t, .inr (8, [.int s_t_thrown, .int s_t_length, .ref a_t_text, .int s_t_place, .ref a_t_digits, .ref a_t_counts, .ref a_t_points, .ref a_t_limbs, .int s_t_limbCount_9, .int s_t_rows, .int s_t_columns, .ref a_t_cells, .int s_t_laid, .ref a_t_lines, .int s_t_size, .ref a_t_draft])), (a_t_digits, .inl (c_t_digits, n_t_digits, .inl e_t_digits_10)), (a_t_counts, .inl (c_t_counts, n_t_counts, .inl e_t_counts_11)), (a_t_points, .inl (c_t_points, n_t_points, .inl e_t_points_12)), (a_t_limbs, .inl (c_t_limbs, n_t_limbs, .inl e_t_limbs_13)), (a_t_cells, .inl (c_t_cells, n_t_cells, .inr (.inl e_t_cells)))] → va_S A s.heap H locs → lv_has ls 7 [(3, .int x3_8)] → W p l e rm_Md_placesOf s m args below meth c H locs 0 0 Q (F0 m 118 ls []) := by
    intro x3_8 s_t_limbCount_9 e_t_digits_10 e_t_counts_11 e_t_points_12 e_t_limbs_13 ez H locs ls hP hD hS hl
    subst ez
    try dsimp only at h
    refine lv_iload_n hx hb d_Md_placesOf_118 rfl (lv_at hl 0 rfl) ?_
    replace h := Option.some.inj h
    replace h := Prod.mk.inj h
    obtain ⟨h1, h⟩ := h
    subst h1
    replace h := Prod.mk.inj h
    obtain ⟨h1, h⟩ := h
    subst h1
    replace h := Prod.mk.inj h
    obtain ⟨h1, h⟩ := h
    subst h1
    replace h := Prod.mk.inj h
    obtain ⟨h1, h⟩ := h
    subst h1
    replace h := Prod.mk.inj h
    obtain ⟨h1, h⟩ := h
    subst h1
    subst h
    exact hret _ _ hP hD hS _ _ d_Md_placesOf_119
  have hz := h
  clear h
  have hL_16 : ∀ (n_ : Nat) (x3_1 : Int32) (x4_2 : Int32) (s_t_limbCount_3 : Int32) (e_t_digits_4 : Nat → Int32) (e_t_counts_5 : Nat → Int32) (e_t_points_6 : Nat → Int32) (e_t_limbs_7 : Nat → Int32) (H : Heap) (locs : List Loc) (ls : Array Slot), lp_Md_placesOf_5 x1 x2 s_t_thrown s_t_length s_t_place s_t_rows s_t_columns s_t_laid s_t_size e_t_cells n_t_digits n_t_counts n_t_points n_t_limbs n_t_cells n_ x3_1 x4_2 s_t_limbCount_3 e_t_digits_4 e_t_counts_5 e_t_points_6 e_t_limbs_7 = some zz_17 → va_P (dC, dI) x_cl [(a_t, .inr (8, [.int s_t_thrown, .int s_t_length, .ref a_t_text, .int s_t_place, .ref a_t_digits, .ref a_t_counts, .ref a_t_points, .ref a_t_limbs, .int s_t_limbCount_3, .int s_t_rows, .int s_t_columns, .ref a_t_cells, .int s_t_laid, .ref a_t_lines, .int s_t_size, .ref a_t_draft])), (a_t_digits, .inl (c_t_digits, n_t_digits, .inl e_t_digits_4)), (a_t_counts, .inl (c_t_counts, n_t_counts, .inl e_t_counts_5)), (a_t_points, .inl (c_t_points, n_t_points, .inl e_t_points_6)), (a_t_limbs, .inl (c_t_limbs, n_t_limbs, .inl e_t_limbs_7)), (a_t_cells, .inl (c_t_cells, n_t_cells, .inr (.inl e_t_cells)))] H → va_D A [(a_t, .inr (8, [.int s_t_thrown, .int s_t_length, .ref a_t_text, .int s_t_place, .ref a_t_digits, .ref a_t_counts, .ref a_t_points, .ref a_t_limbs, .int s_t_limbCount_3, .int s_t_rows, .int s_t_columns, .ref a_t_cells, .int s_t_laid, .ref a_t_lines, .int s_t_size, .ref a_t_draft])), (a_t_digits, .inl (c_t_digits, n_t_digits, .inl e_t_digits_4)), (a_t_counts, .inl (c_t_counts, n_t_counts, .inl e_t_counts_5)), (a_t_points, .inl (c_t_points, n_t_points, .inl e_t_points_6)), (a_t_limbs, .inl (c_t_limbs, n_t_limbs, .inl e_t_limbs_7)), (a_t_cells, .inl (c_t_cells, n_t_cells, .inr (.inl e_t_cells)))] → va_S A s.heap H locs → lv_has ls 7 [(0, .ref a_t), (1, .int x1), (2, .int x2), (3, .int x3_1), (4, .int x4_2)] → W p l e rm_Md_placesOf s m args below meth c H locs 0 0 Q (F0 m 5 ls []) := by
    intro n_
    induction n_ with
    | zero => intro x3_1 x4_2 s_t_limbCount_3 e_t_digits_4 e_t_counts_5 e_t_points_6 e_t_limbs_7 H locs ls h; cases h
    | succ n_ ih =>
      intro x3_1 x4_2 s_t_limbCount_3 e_t_digits_4 e_t_counts_5 e_t_points_6 e_t_limbs_7 H locs ls h hP hD hS hl
      rw [lp_Md_placesOf_5] at h
      refine lv_iload hx hb d_Md_placesOf_5 (lv_at hl 4 rfl) ?_
      refine lv_aload_n hx hb d_Md_placesOf_7 rfl (lv_at hl 0 rfl) ?_
      refine va_get (D := (dC, dI)) (ci := 8) (v := .int s_t_rows) (C := R_Md) (T := T_Md) (N := 16) hx hb hts in_Md hown hK hP 0 rfl rfl 9 (by decide) (hts _ g_715) (fun _ h9 => h9) rfl d_Md_placesOf_8 ?_
      refine lv_icmp_ge (tgt := 118) hx hb d_Md_placesOf_11 (by decide) (fun c_18 => ?_) (fun c_18 => ?_)
      · rw [if_pos c_18] at h
        replace h := Option.some.inj h
        subst h
        exact hX_15 _ _ _ _ _ _ rfl _ _ _ hP hD hS (lv_sub hl [3] rfl)
      · rw [if_neg c_18] at h
        refine lv_aload_n hx hb d_Md_placesOf_14 rfl (lv_at hl 0 rfl) ?_
        refine va_get (D := (dC, dI)) (ci := 8) (v := .ref a_t_cells) (C := R_Md) (T := T_Md) (N := 16) hx hb hts in_Md hown hK hP 0 rfl rfl 11 (by decide) (hts _ g_717) (fun _ h9 => h9) rfl d_Md_placesOf_15 ?_
        refine lv_bipush (v := 8) hx hb d_Md_placesOf_18 (by decide) ?_
        refine lv_iload hx hb d_Md_placesOf_20 (lv_at hl 4 rfl) ?_
        refine lv_imul hx hb d_Md_placesOf_22 ?_
        refine lv_iload_n hx hb d_Md_placesOf_23 rfl (lv_at hl 1 rfl) ?_
        refine lv_iadd hx hb d_Md_placesOf_24 ?_
        replace h := xg h
        obtain ⟨hg_19, h⟩ := h
        refine va_lald hx hb hK hP 5 4 rfl rfl hg_19 d_Md_placesOf_25 ?_
        replace h := xnm_s h
        obtain ⟨x5_20, ex5_20, h⟩ := h
        refine x_topl ex5_20 ?_
        refine lv_lstore (lv' := [(5, .long x5_20), (0, .ref a_t), (1, .int x1), (2, .int x2), (3, .int x3_1), (4, .int x4_2)]) hx hb d_Md_placesOf_26 hl (by decide) rfl (fun ls hl => ?_)
        refine lv_lload hx hb d_Md_placesOf_28 (lv_at hl 0 rfl) ?_
        replace h := xob_s h
        obtain ⟨r_21, hc_22, h⟩ := h
        try dsimp only at h
        refine xcS (As := [.long x5_20]) (rest := []) (st1 := [.int r_21]) (wr := [(a_t, .inr (8, [.int s_t_thrown, .int s_t_length, .ref a_t_text, .int s_t_place, .ref a_t_digits, .ref a_t_counts, .ref a_t_points, .ref a_t_limbs, .int s_t_limbCount_3, .int s_t_rows, .int s_t_columns, .ref a_t_cells, .int s_t_laid, .ref a_t_lines, .int s_t_size, .ref a_t_draft])), (a_t_digits, .inl (c_t_digits, n_t_digits, .inl e_t_digits_4)), (a_t_counts, .inl (c_t_counts, n_t_counts, .inl e_t_counts_5)), (a_t_points, .inl (c_t_points, n_t_points, .inl e_t_points_6)), (a_t_limbs, .inl (c_t_limbs, n_t_limbs, .inl e_t_limbs_7)), (a_t_cells, .inl (c_t_cells, n_t_cells, .inr (.inl e_t_cells)))]) ⟨hx, hb, hml, hown, hts⟩ (c_Md_isFinite l dC dI x5_20 r_21 hc_22) (⟨callB_of 1 hts (xgood g_942) rfl rfl rfl (hts _ g_10) (hts _ g_940) (by decide +kernel) ⟨Nat.le_of_ble_eq_true rfl, Nat.le_of_ble_eq_true rfl⟩, (hts _ g_941)⟩) hNz hA hP hD hS hK [] [0, 1, 2, 3, 4, 5] [] rfl rfl rfl rfl (by decide) rfl rfl rfl rfl hl.1 (Nat.le_of_ble_eq_true rfl) ⟨Nat.zero_le _, Nat.zero_le _⟩ d_Md_placesOf_30 (fun H locs hP hD hS => ?_)
        have hP : va_P (dC, dI) x_cl [(a_t, .inr (8, [.int s_t_thrown, .int s_t_length, .ref a_t_text, .int s_t_place, .ref a_t_digits, .ref a_t_counts, .ref a_t_points, .ref a_t_limbs, .int s_t_limbCount_3, .int s_t_rows, .int s_t_columns, .ref a_t_cells, .int s_t_laid, .ref a_t_lines, .int s_t_size, .ref a_t_draft])), (a_t_digits, .inl (c_t_digits, n_t_digits, .inl e_t_digits_4)), (a_t_counts, .inl (c_t_counts, n_t_counts, .inl e_t_counts_5)), (a_t_points, .inl (c_t_points, n_t_points, .inl e_t_points_6)), (a_t_limbs, .inl (c_t_limbs, n_t_limbs, .inl e_t_limbs_7)), (a_t_cells, .inl (c_t_cells, n_t_cells, .inr (.inl e_t_cells)))] H := hP
        have hD : va_D A [(a_t, .inr (8, [.int s_t_thrown, .int s_t_length, .ref a_t_text, .int s_t_place, .ref a_t_digits, .ref a_t_counts, .ref a_t_points, .ref a_t_limbs, .int s_t_limbCount_3, .int s_t_rows, .int s_t_columns, .ref a_t_cells, .int s_t_laid, .ref a_t_lines, .int s_t_size, .ref a_t_draft])), (a_t_digits, .inl (c_t_digits, n_t_digits, .inl e_t_digits_4)), (a_t_counts, .inl (c_t_counts, n_t_counts, .inl e_t_counts_5)), (a_t_points, .inl (c_t_points, n_t_points, .inl e_t_points_6)), (a_t_limbs, .inl (c_t_limbs, n_t_limbs, .inl e_t_limbs_7)), (a_t_cells, .inl (c_t_cells, n_t_cells, .inr (.inl e_t_cells)))] := hD
        refine lv_if_eq (tgt := 112) hx hb d_Md_placesOf_33 (by decide) (fun c_23 => ?_) (fun c_23 => ?_)
        · rw [if_pos c_23] at h
          replace h := xnm_s h
          obtain ⟨x4_24, ex4_24, h⟩ := h
          refine lv_iinc (v := x4_24) (lv' := [(4, .int x4_24), (5, .long x5_20), (0, .ref a_t), (1, .int x1), (2, .int x2), (3, .int x3_1)]) hx hb d_Md_placesOf_112 hl (k := 5) rfl (by rw [← ex4_24]; rfl) (by decide) rfl (fun ls hl => ?_)
          refine lv_goto (tgt := 5) hx hb d_Md_placesOf_115 (by decide) ?_
          exact ih _ _ _ _ _ _ _ _ _ _ h hP hD hS (lv_sub hl [2, 3, 4, 5, 0] rfl)
        · rw [if_neg c_23] at h
          refine lv_lload hx hb d_Md_placesOf_36 (lv_at hl 0 rfl) ?_
          replace h := xob_s h
          obtain ⟨r_25, hc_26, h⟩ := h
          try dsimp only at h
          refine xcS (As := [.long x5_20]) (rest := []) (st1 := [.int r_25]) (wr := [(a_t, .inr (8, [.int s_t_thrown, .int s_t_length, .ref a_t_text, .int s_t_place, .ref a_t_digits, .ref a_t_counts, .ref a_t_points, .ref a_t_limbs, .int s_t_limbCount_3, .int s_t_rows, .int s_t_columns, .ref a_t_cells, .int s_t_laid, .ref a_t_lines, .int s_t_size, .ref a_t_draft])), (a_t_digits, .inl (c_t_digits, n_t_digits, .inl e_t_digits_4)), (a_t_counts, .inl (c_t_counts, n_t_counts, .inl e_t_counts_5)), (a_t_points, .inl (c_t_points, n_t_points, .inl e_t_points_6)), (a_t_limbs, .inl (c_t_limbs, n_t_limbs, .inl e_t_limbs_7)), (a_t_cells, .inl (c_t_cells, n_t_cells, .inr (.inl e_t_cells)))]) ⟨hx, hb, hml, hown, hts⟩ (c_Md_isZero l dC dI x5_20 r_25 hc_26) (⟨callB_of 1 hts (xgood g_863) rfl rfl rfl (hts _ g_10) (hts _ g_861) (by decide +kernel) ⟨Nat.le_of_ble_eq_true rfl, Nat.le_of_ble_eq_true rfl⟩, (hts _ g_862)⟩) hNz hA hP hD hS hK [] [0, 1, 2, 3, 4, 5] [] rfl rfl rfl rfl (by decide) rfl rfl rfl rfl hl.1 (Nat.le_of_ble_eq_true rfl) ⟨Nat.zero_le _, Nat.zero_le _⟩ d_Md_placesOf_38 (fun H locs hP hD hS => ?_)
          have hP : va_P (dC, dI) x_cl [(a_t, .inr (8, [.int s_t_thrown, .int s_t_length, .ref a_t_text, .int s_t_place, .ref a_t_digits, .ref a_t_counts, .ref a_t_points, .ref a_t_limbs, .int s_t_limbCount_3, .int s_t_rows, .int s_t_columns, .ref a_t_cells, .int s_t_laid, .ref a_t_lines, .int s_t_size, .ref a_t_draft])), (a_t_digits, .inl (c_t_digits, n_t_digits, .inl e_t_digits_4)), (a_t_counts, .inl (c_t_counts, n_t_counts, .inl e_t_counts_5)), (a_t_points, .inl (c_t_points, n_t_points, .inl e_t_points_6)), (a_t_limbs, .inl (c_t_limbs, n_t_limbs, .inl e_t_limbs_7)), (a_t_cells, .inl (c_t_cells, n_t_cells, .inr (.inl e_t_cells)))] H := hP
          have hD : va_D A [(a_t, .inr (8, [.int s_t_thrown, .int s_t_length, .ref a_t_text, .int s_t_place, .ref a_t_digits, .ref a_t_counts, .ref a_t_points, .ref a_t_limbs, .int s_t_limbCount_3, .int s_t_rows, .int s_t_columns, .ref a_t_cells, .int s_t_laid, .ref a_t_lines, .int s_t_size, .ref a_t_draft])), (a_t_digits, .inl (c_t_digits, n_t_digits, .inl e_t_digits_4)), (a_t_counts, .inl (c_t_counts, n_t_counts, .inl e_t_counts_5)), (a_t_points, .inl (c_t_points, n_t_points, .inl e_t_points_6)), (a_t_limbs, .inl (c_t_limbs, n_t_limbs, .inl e_t_limbs_7)), (a_t_cells, .inl (c_t_cells, n_t_cells, .inr (.inl e_t_cells)))] := hD
          refine lv_if_ne (tgt := 112) hx hb d_Md_placesOf_41 (by decide) (fun c_27 => ?_) (fun c_27 => ?_)
          · rw [if_neg c_27] at h
            replace h := xnm_s h
            obtain ⟨x4_28, ex4_28, h⟩ := h
            refine lv_iinc (v := x4_28) (lv' := [(4, .int x4_28), (5, .long x5_20), (0, .ref a_t), (1, .int x1), (2, .int x2), (3, .int x3_1)]) hx hb d_Md_placesOf_112 hl (k := 5) rfl (by rw [← ex4_28]; rfl) (by decide) rfl (fun ls hl => ?_)
            refine lv_goto (tgt := 5) hx hb d_Md_placesOf_115 (by decide) ?_
            exact ih _ _ _ _ _ _ _ _ _ _ h hP hD hS (lv_sub hl [2, 3, 4, 5, 0] rfl)
          · rw [if_pos c_27] at h
            refine lv_aload_n hx hb d_Md_placesOf_44 rfl (lv_at hl 1 rfl) ?_
            refine lv_iconst (v := 0) hx hb d_Md_placesOf_45 (by decide) ?_
            refine lv_lload hx hb d_Md_placesOf_46 (lv_at hl 0 rfl) ?_
            refine lv_ldc2 (v := 9223372036854775807) hx hb hown (hts _ g_852) d_Md_placesOf_48 ?_
            refine lv_land hx hb d_Md_placesOf_51 ?_
            replace h := xob_s h
            obtain ⟨⟨s_t_limbCount_29, e_t_digits_30, e_t_counts_31, e_t_points_32, e_t_limbs_33⟩, hc_34, h⟩ := h
            try dsimp only at h
            refine xcV (As := [.int (0 : Int32), .long (x5_20 &&& (9223372036854775807 : Int64))]) (rest := []) (st1 := []) (wr := [(a_t_cells, .inl (c_t_cells, n_t_cells, .inr (.inl e_t_cells)))]) ⟨hx, hb, hml, hown, hts⟩ (c_Md_value l dC dI a_t a_t_text a_t_digits a_t_counts a_t_points a_t_limbs a_t_cells a_t_lines a_t_draft c_t_digits c_t_counts c_t_points c_t_limbs n_t_digits n_t_counts n_t_points n_t_limbs s_t_thrown s_t_length s_t_place s_t_limbCount_3 s_t_rows s_t_columns s_t_laid s_t_size e_t_digits_4 e_t_counts_5 e_t_points_6 e_t_limbs_7 (0 : Int32) (x5_20 &&& (9223372036854775807 : Int64)) s_t_limbCount_29 e_t_digits_30 e_t_counts_31 e_t_points_32 e_t_limbs_33 hc_34) (cwV 2 hts (xgoodV g_806 g_808 gp_25 g_10 g_809) rfl rfl rfl (by decide +kernel) ⟨Nat.le_of_ble_eq_true rfl, Nat.le_of_ble_eq_true rfl⟩) hNz (ci := 8) (q0 := 0) rfl rfl hA hP hD hS hK [0, 1, 2, 3, 4] [5] [0, 1, 2, 3] rfl rfl rfl rfl (by decide) rfl rfl rfl rfl hl.1 (Nat.le_of_ble_eq_true rfl) ⟨Nat.zero_le _, Nat.zero_le _⟩ d_Md_placesOf_52 (fun H locs hP hD hS => ?_)
            have hP : va_P (dC, dI) x_cl [(a_t_cells, .inl (c_t_cells, n_t_cells, .inr (.inl e_t_cells))), (a_t, .inr (8, [.int s_t_thrown, .int s_t_length, .ref a_t_text, .int s_t_place, .ref a_t_digits, .ref a_t_counts, .ref a_t_points, .ref a_t_limbs, .int s_t_limbCount_29, .int s_t_rows, .int s_t_columns, .ref a_t_cells, .int s_t_laid, .ref a_t_lines, .int s_t_size, .ref a_t_draft])), (a_t_digits, .inl (c_t_digits, n_t_digits, .inl e_t_digits_30)), (a_t_counts, .inl (c_t_counts, n_t_counts, .inl e_t_counts_31)), (a_t_points, .inl (c_t_points, n_t_points, .inl e_t_points_32)), (a_t_limbs, .inl (c_t_limbs, n_t_limbs, .inl e_t_limbs_33))] H := hP
            have hD : va_D A [(a_t_cells, .inl (c_t_cells, n_t_cells, .inr (.inl e_t_cells))), (a_t, .inr (8, [.int s_t_thrown, .int s_t_length, .ref a_t_text, .int s_t_place, .ref a_t_digits, .ref a_t_counts, .ref a_t_points, .ref a_t_limbs, .int s_t_limbCount_29, .int s_t_rows, .int s_t_columns, .ref a_t_cells, .int s_t_laid, .ref a_t_lines, .int s_t_size, .ref a_t_draft])), (a_t_digits, .inl (c_t_digits, n_t_digits, .inl e_t_digits_30)), (a_t_counts, .inl (c_t_counts, n_t_counts, .inl e_t_counts_31)), (a_t_points, .inl (c_t_points, n_t_points, .inl e_t_points_32)), (a_t_limbs, .inl (c_t_limbs, n_t_limbs, .inl e_t_limbs_33))] := hD
            refine lv_aload_n hx hb d_Md_placesOf_55 rfl (lv_at hl 1 rfl) ?_
            refine lv_iconst (v := 0) hx hb d_Md_placesOf_56 (by decide) ?_
            refine lv_iconst (v := 3) hx hb d_Md_placesOf_57 (by decide) ?_
            refine lv_iload_n hx hb d_Md_placesOf_58 rfl (lv_at hl 3 rfl) ?_
            replace h := xob_s h
            obtain ⟨⟨e_t_digits_35, e_t_counts_36, e_t_points_37⟩, hc_38, h⟩ := h
            try dsimp only at h
            refine xcV (As := [.int (0 : Int32), .int (3 : Int32), .int x2]) (rest := []) (st1 := []) (wr := [(a_t_cells, .inl (c_t_cells, n_t_cells, .inr (.inl e_t_cells))), (a_t_limbs, .inl (c_t_limbs, n_t_limbs, .inl e_t_limbs_33))]) ⟨hx, hb, hml, hown, hts⟩ (c_Md_round l dC dI a_t a_t_text a_t_digits a_t_counts a_t_points a_t_limbs a_t_cells a_t_lines a_t_draft c_t_digits c_t_counts c_t_points n_t_digits n_t_counts n_t_points s_t_thrown s_t_length s_t_place s_t_limbCount_29 s_t_rows s_t_columns s_t_laid s_t_size e_t_digits_30 e_t_counts_31 e_t_points_32 (0 : Int32) (3 : Int32) x2 e_t_digits_35 e_t_counts_36 e_t_points_37 hc_38) (cwV 3 hts (xgoodV g_908 g_910 gp_44 g_10 g_911) rfl rfl rfl (by decide +kernel) ⟨Nat.le_of_ble_eq_true rfl, Nat.le_of_ble_eq_true rfl⟩) hNz (ci := 8) (q0 := 1) rfl rfl hA hP hD hS hK [1, 2, 3, 4] [0, 5] [0, 1, 2] rfl rfl rfl rfl (by decide) rfl rfl rfl rfl hl.1 (Nat.le_of_ble_eq_true rfl) ⟨Nat.zero_le _, Nat.zero_le _⟩ d_Md_placesOf_59 (fun H locs hP hD hS => ?_)
            have hP : va_P (dC, dI) x_cl [(a_t_cells, .inl (c_t_cells, n_t_cells, .inr (.inl e_t_cells))), (a_t_limbs, .inl (c_t_limbs, n_t_limbs, .inl e_t_limbs_33)), (a_t, .inr (8, [.int s_t_thrown, .int s_t_length, .ref a_t_text, .int s_t_place, .ref a_t_digits, .ref a_t_counts, .ref a_t_points, .ref a_t_limbs, .int s_t_limbCount_29, .int s_t_rows, .int s_t_columns, .ref a_t_cells, .int s_t_laid, .ref a_t_lines, .int s_t_size, .ref a_t_draft])), (a_t_digits, .inl (c_t_digits, n_t_digits, .inl e_t_digits_35)), (a_t_counts, .inl (c_t_counts, n_t_counts, .inl e_t_counts_36)), (a_t_points, .inl (c_t_points, n_t_points, .inl e_t_points_37))] H := hP
            have hD : va_D A [(a_t_cells, .inl (c_t_cells, n_t_cells, .inr (.inl e_t_cells))), (a_t_limbs, .inl (c_t_limbs, n_t_limbs, .inl e_t_limbs_33)), (a_t, .inr (8, [.int s_t_thrown, .int s_t_length, .ref a_t_text, .int s_t_place, .ref a_t_digits, .ref a_t_counts, .ref a_t_points, .ref a_t_limbs, .int s_t_limbCount_29, .int s_t_rows, .int s_t_columns, .ref a_t_cells, .int s_t_laid, .ref a_t_lines, .int s_t_size, .ref a_t_draft])), (a_t_digits, .inl (c_t_digits, n_t_digits, .inl e_t_digits_35)), (a_t_counts, .inl (c_t_counts, n_t_counts, .inl e_t_counts_36)), (a_t_points, .inl (c_t_points, n_t_points, .inl e_t_points_37))] := hD
            refine lv_aload_n hx hb d_Md_placesOf_62 rfl (lv_at hl 1 rfl) ?_
            refine lv_iconst (v := 3) hx hb d_Md_placesOf_63 (by decide) ?_
            replace h := xob_s h
            obtain ⟨r_39, hc_40, h⟩ := h
            try dsimp only at h
            refine xcV (As := [.int (3 : Int32)]) (rest := []) (st1 := [.int r_39]) (wr := [(a_t_cells, .inl (c_t_cells, n_t_cells, .inr (.inl e_t_cells))), (a_t_limbs, .inl (c_t_limbs, n_t_limbs, .inl e_t_limbs_33)), (a_t_digits, .inl (c_t_digits, n_t_digits, .inl e_t_digits_35)), (a_t_counts, .inl (c_t_counts, n_t_counts, .inl e_t_counts_36))]) ⟨hx, hb, hml, hown, hts⟩ (c_Md_isPlain l dC dI a_t a_t_text a_t_digits a_t_counts a_t_points a_t_limbs a_t_cells a_t_lines a_t_draft c_t_points n_t_points s_t_thrown s_t_length s_t_place s_t_limbCount_29 s_t_rows s_t_columns s_t_laid s_t_size e_t_points_37 (3 : Int32) r_39 hc_40) (cwV 1 hts (xgoodV g_884 g_886 gp_39 g_10 g_887) rfl rfl rfl (by decide +kernel) ⟨Nat.le_of_ble_eq_true rfl, Nat.le_of_ble_eq_true rfl⟩) hNz (ci := 8) (q0 := 2) rfl rfl hA hP hD hS hK [2, 5] [0, 1, 3, 4] [2] rfl rfl rfl rfl (by decide) rfl rfl rfl rfl hl.1 (Nat.le_of_ble_eq_true rfl) ⟨Nat.zero_le _, Nat.zero_le _⟩ d_Md_placesOf_64 (fun H locs hP hD hS => ?_)
            have hP : va_P (dC, dI) x_cl [(a_t_cells, .inl (c_t_cells, n_t_cells, .inr (.inl e_t_cells))), (a_t_limbs, .inl (c_t_limbs, n_t_limbs, .inl e_t_limbs_33)), (a_t_digits, .inl (c_t_digits, n_t_digits, .inl e_t_digits_35)), (a_t_counts, .inl (c_t_counts, n_t_counts, .inl e_t_counts_36)), (a_t, .inr (8, [.int s_t_thrown, .int s_t_length, .ref a_t_text, .int s_t_place, .ref a_t_digits, .ref a_t_counts, .ref a_t_points, .ref a_t_limbs, .int s_t_limbCount_29, .int s_t_rows, .int s_t_columns, .ref a_t_cells, .int s_t_laid, .ref a_t_lines, .int s_t_size, .ref a_t_draft])), (a_t_points, .inl (c_t_points, n_t_points, .inl e_t_points_37))] H := hP
            have hD : va_D A [(a_t_cells, .inl (c_t_cells, n_t_cells, .inr (.inl e_t_cells))), (a_t_limbs, .inl (c_t_limbs, n_t_limbs, .inl e_t_limbs_33)), (a_t_digits, .inl (c_t_digits, n_t_digits, .inl e_t_digits_35)), (a_t_counts, .inl (c_t_counts, n_t_counts, .inl e_t_counts_36)), (a_t, .inr (8, [.int s_t_thrown, .int s_t_length, .ref a_t_text, .int s_t_place, .ref a_t_digits, .ref a_t_counts, .ref a_t_points, .ref a_t_limbs, .int s_t_limbCount_29, .int s_t_rows, .int s_t_columns, .ref a_t_cells, .int s_t_laid, .ref a_t_lines, .int s_t_size, .ref a_t_draft])), (a_t_points, .inl (c_t_points, n_t_points, .inl e_t_points_37))] := hD
            refine lv_if_ne (tgt := 72) hx hb d_Md_placesOf_67 (by decide) (fun c_41 => ?_) (fun c_41 => ?_)
            · rw [if_neg c_41] at h
              refine lv_aload_n hx hb d_Md_placesOf_72 rfl (lv_at hl 1 rfl) ?_
              refine lv_iconst (v := 3) hx hb d_Md_placesOf_73 (by decide) ?_
              replace h := xob_s h
              obtain ⟨e_t_counts_42, hc_43, h⟩ := h
              try dsimp only at h
              refine xcV (As := [.int (3 : Int32)]) (rest := []) (st1 := []) (wr := [(a_t_cells, .inl (c_t_cells, n_t_cells, .inr (.inl e_t_cells))), (a_t_limbs, .inl (c_t_limbs, n_t_limbs, .inl e_t_limbs_33)), (a_t_points, .inl (c_t_points, n_t_points, .inl e_t_points_37))]) ⟨hx, hb, hml, hown, hts⟩ (c_Md_cutZeros l dC dI a_t a_t_text a_t_digits a_t_counts a_t_points a_t_limbs a_t_cells a_t_lines a_t_draft c_t_digits c_t_counts n_t_digits n_t_counts s_t_thrown s_t_length s_t_place s_t_limbCount_29 s_t_rows s_t_columns s_t_laid s_t_size e_t_digits_35 e_t_counts_36 (3 : Int32) e_t_counts_42 hc_43) (cwV 1 hts (xgoodV g_797 g_799 gp_23 g_10 g_800) rfl rfl rfl (by decide +kernel) ⟨Nat.le_of_ble_eq_true rfl, Nat.le_of_ble_eq_true rfl⟩) hNz (ci := 8) (q0 := 4) rfl rfl hA hP hD hS hK [4, 2, 3] [0, 1, 5] [0, 1] rfl rfl rfl rfl (by decide) rfl rfl rfl rfl hl.1 (Nat.le_of_ble_eq_true rfl) ⟨Nat.zero_le _, Nat.zero_le _⟩ d_Md_placesOf_74 (fun H locs hP hD hS => ?_)
              have hP : va_P (dC, dI) x_cl [(a_t_cells, .inl (c_t_cells, n_t_cells, .inr (.inl e_t_cells))), (a_t_limbs, .inl (c_t_limbs, n_t_limbs, .inl e_t_limbs_33)), (a_t_points, .inl (c_t_points, n_t_points, .inl e_t_points_37)), (a_t, .inr (8, [.int s_t_thrown, .int s_t_length, .ref a_t_text, .int s_t_place, .ref a_t_digits, .ref a_t_counts, .ref a_t_points, .ref a_t_limbs, .int s_t_limbCount_29, .int s_t_rows, .int s_t_columns, .ref a_t_cells, .int s_t_laid, .ref a_t_lines, .int s_t_size, .ref a_t_draft])), (a_t_digits, .inl (c_t_digits, n_t_digits, .inl e_t_digits_35)), (a_t_counts, .inl (c_t_counts, n_t_counts, .inl e_t_counts_42))] H := hP
              have hD : va_D A [(a_t_cells, .inl (c_t_cells, n_t_cells, .inr (.inl e_t_cells))), (a_t_limbs, .inl (c_t_limbs, n_t_limbs, .inl e_t_limbs_33)), (a_t_points, .inl (c_t_points, n_t_points, .inl e_t_points_37)), (a_t, .inr (8, [.int s_t_thrown, .int s_t_length, .ref a_t_text, .int s_t_place, .ref a_t_digits, .ref a_t_counts, .ref a_t_points, .ref a_t_limbs, .int s_t_limbCount_29, .int s_t_rows, .int s_t_columns, .ref a_t_cells, .int s_t_laid, .ref a_t_lines, .int s_t_size, .ref a_t_draft])), (a_t_digits, .inl (c_t_digits, n_t_digits, .inl e_t_digits_35)), (a_t_counts, .inl (c_t_counts, n_t_counts, .inl e_t_counts_42))] := hD
              refine lv_aload_n hx hb d_Md_placesOf_77 rfl (lv_at hl 1 rfl) ?_
              refine va_get (D := (dC, dI)) (ci := 8) (v := .ref a_t_counts) (C := R_Md) (T := T_Md) (N := 16) hx hb hts in_Md hown hK hP 3 rfl rfl 5 (by decide) (hts _ g_711) (fun _ h9 => h9) rfl d_Md_placesOf_78 ?_
              refine lv_iconst (v := 3) hx hb d_Md_placesOf_81 (by decide) ?_
              replace h := xg h
              obtain ⟨hg_44, h⟩ := h
              refine va_iald hx hb hK hP 5 1 rfl rfl hg_44 d_Md_placesOf_82 ?_
              refine lv_aload_n hx hb d_Md_placesOf_83 rfl (lv_at hl 1 rfl) ?_
              refine va_get (D := (dC, dI)) (ci := 8) (v := .ref a_t_points) (C := R_Md) (T := T_Md) (N := 16) hx hb hts in_Md hown hK hP 3 rfl rfl 6 (by decide) (hts _ g_712) (fun _ h9 => h9) rfl d_Md_placesOf_84 ?_
              refine lv_iconst (v := 3) hx hb d_Md_placesOf_87 (by decide) ?_
              replace h := xg h
              obtain ⟨hg_45, h⟩ := h
              refine va_iald hx hb hK hP 2 2 rfl rfl hg_45 d_Md_placesOf_88 ?_
              refine lv_isub hx hb d_Md_placesOf_89 ?_
              refine lv_iload_n hx hb d_Md_placesOf_90 rfl (lv_at hl 4 rfl) ?_
              refine lv_icmp_le (tgt := 110) hx hb d_Md_placesOf_91 (by decide) (fun c_46 => ?_) (fun c_46 => ?_)
              · rw [if_pos c_46] at h
                refine lv_iload_n hx hb d_Md_placesOf_110 rfl (lv_at hl 4 rfl) ?_
                refine lv_istore_n (lv' := [(3, .int x3_1), (5, .long x5_20), (0, .ref a_t), (1, .int x1), (2, .int x2), (4, .int x4_2)]) hx hb d_Md_placesOf_111 rfl hl (by decide) rfl (fun ls hl => ?_)
                replace h := xnm_s h
                obtain ⟨x4_47, ex4_47, h⟩ := h
                refine lv_iinc (v := x4_47) (lv' := [(4, .int x4_47), (3, .int x3_1), (5, .long x5_20), (0, .ref a_t), (1, .int x1), (2, .int x2)]) hx hb d_Md_placesOf_112 hl (k := 5) rfl (by rw [← ex4_47]; rfl) (by decide) rfl (fun ls hl => ?_)
                refine lv_goto (tgt := 5) hx hb d_Md_placesOf_115 (by decide) ?_
                exact ih _ _ _ _ _ _ _ _ _ _ h (hP.sub [3, 4, 5, 2, 1, 0] rfl) (hD.sub [3, 4, 5, 2, 1, 0] (by decide) rfl) hS (lv_sub hl [3, 4, 5, 1, 0] rfl)
              · rw [if_neg c_46] at h
                refine lv_aload_n hx hb d_Md_placesOf_94 rfl (lv_at hl 1 rfl) ?_
                refine va_get (D := (dC, dI)) (ci := 8) (v := .ref a_t_counts) (C := R_Md) (T := T_Md) (N := 16) hx hb hts in_Md hown hK hP 3 rfl rfl 5 (by decide) (hts _ g_711) (fun _ h9 => h9) rfl d_Md_placesOf_95 ?_
                refine lv_iconst (v := 3) hx hb d_Md_placesOf_98 (by decide) ?_
                replace h := xg h
                obtain ⟨hg_48, h⟩ := h
                refine va_iald hx hb hK hP 5 1 rfl rfl hg_48 d_Md_placesOf_99 ?_
                refine lv_aload_n hx hb d_Md_placesOf_100 rfl (lv_at hl 1 rfl) ?_
                refine va_get (D := (dC, dI)) (ci := 8) (v := .ref a_t_points) (C := R_Md) (T := T_Md) (N := 16) hx hb hts in_Md hown hK hP 3 rfl rfl 6 (by decide) (hts _ g_712) (fun _ h9 => h9) rfl d_Md_placesOf_101 ?_
                refine lv_iconst (v := 3) hx hb d_Md_placesOf_104 (by decide) ?_
                replace h := xg h
                obtain ⟨hg_49, h⟩ := h
                refine va_iald hx hb hK hP 2 2 rfl rfl hg_49 d_Md_placesOf_105 ?_
                refine lv_isub hx hb d_Md_placesOf_106 ?_
                refine lv_goto (tgt := 111) hx hb d_Md_placesOf_107 (by decide) ?_
                replace h := xnm_s h
                obtain ⟨x3_50, ex3_50, h⟩ := h
                refine x_topi ex3_50 ?_
                refine lv_istore_n (lv' := [(3, .int x3_50), (5, .long x5_20), (0, .ref a_t), (1, .int x1), (2, .int x2), (4, .int x4_2)]) hx hb d_Md_placesOf_111 rfl hl (by decide) rfl (fun ls hl => ?_)
                replace h := xnm_s h
                obtain ⟨x4_51, ex4_51, h⟩ := h
                refine lv_iinc (v := x4_51) (lv' := [(4, .int x4_51), (3, .int x3_50), (5, .long x5_20), (0, .ref a_t), (1, .int x1), (2, .int x2)]) hx hb d_Md_placesOf_112 hl (k := 5) rfl (by rw [← ex4_51]; rfl) (by decide) rfl (fun ls hl => ?_)
                refine lv_goto (tgt := 5) hx hb d_Md_placesOf_115 (by decide) ?_
                exact ih _ _ _ _ _ _ _ _ _ _ h (hP.sub [3, 4, 5, 2, 1, 0] rfl) (hD.sub [3, 4, 5, 2, 1, 0] (by decide) rfl) hS (lv_sub hl [3, 4, 5, 1, 0] rfl)
            · rw [if_pos c_41] at h
              refine lv_iconst (v := -1) hx hb d_Md_placesOf_70 (by decide) ?_
              replace h := Option.some.inj h
              subst h
              try dsimp only at hz
              replace hz := Option.some.inj hz
              replace hz := Prod.mk.inj hz
              obtain ⟨h1, hz⟩ := hz
              subst h1
              replace hz := Prod.mk.inj hz
              obtain ⟨h1, hz⟩ := hz
              subst h1
              replace hz := Prod.mk.inj hz
              obtain ⟨h1, hz⟩ := hz
              subst h1
              replace hz := Prod.mk.inj hz
              obtain ⟨h1, hz⟩ := hz
              subst h1
              replace hz := Prod.mk.inj hz
              obtain ⟨h1, hz⟩ := hz
              subst h1
              subst hz
              exact hret _ _ (hP.sub [4, 2, 3, 5, 1, 0] rfl) (hD.sub [4, 2, 3, 5, 1, 0] (by decide) rfl) hS _ _ d_Md_placesOf_71
  exact hL_16 xF _ _ _ _ _ _ _ _ _ _ hlp_14 hP hD hS (lv_sub hl [2, 3, 4, 1, 0] rfl)
def f_Md_cell (n_t_digits : Nat) (n_t_counts : Nat) (n_t_points : Nat) (n_t_limbs : Nat) (n_t_draft : Nat) (s_t_thrown : Int32) (s_t_length : Int32) (s_t_place : Int32) (s_t_limbCount : Int32) (s_t_rows : Int32) (s_t_columns : Int32) (s_t_laid : Int32) (s_t_size : Int32) (e_t_digits : Nat → Int32) (e_t_counts : Nat → Int32) (e_t_points : Nat → Int32) (e_t_limbs : Nat → Int32) (e_t_draft : Nat → Int32) (x1 : Int64) (x3 : Int32) (x4 : Int32) : Option (Int32 × Int32 × (Nat → Int32) × (Nat → Int32) × (Nat → Int32) × (Nat → Int32) × (Nat → Int32)) :=
  xob (f_Md_special n_t_draft s_t_thrown s_t_length s_t_place s_t_limbCount s_t_rows s_t_columns s_t_laid s_t_size e_t_draft x1) fun (r_1, s_t_size_2, e_t_draft_3) => if r_1 = 0 then (if x4 = (-1 : Int32) then (xob (f_Md_isZero x1) fun r_7 => if r_7 = 0 then (xob (f_Md_value n_t_digits n_t_counts n_t_points n_t_limbs s_t_thrown s_t_length s_t_place s_t_limbCount s_t_rows s_t_columns s_t_laid s_t_size_2 e_t_digits e_t_counts e_t_points e_t_limbs (0 : Int32) (x1 &&& (9223372036854775807 : Int64))) fun (s_t_limbCount_10, e_t_digits_11, e_t_counts_12, e_t_points_13, e_t_limbs_14) => xob (f_Md_round n_t_digits n_t_counts n_t_points s_t_thrown s_t_length s_t_place s_t_limbCount_10 s_t_rows s_t_columns s_t_laid s_t_size_2 e_t_digits_11 e_t_counts_12 e_t_points_13 (0 : Int32) (3 : Int32) x3) fun (e_t_digits_16, e_t_counts_17, e_t_points_18) => xob (f_Md_scientific n_t_digits n_t_counts n_t_points n_t_draft s_t_thrown s_t_length s_t_place s_t_limbCount_10 s_t_rows s_t_columns s_t_laid s_t_size_2 e_t_digits_16 e_t_counts_17 e_t_points_18 e_t_draft_3 (3 : Int32)) fun (s_t_size_20, e_t_draft_21) => some (s_t_limbCount_10, s_t_size_20, e_t_digits_16, e_t_counts_17, e_t_points_18, e_t_limbs_14, e_t_draft_21)) else (xob (f_Md_put n_t_draft s_t_thrown s_t_length s_t_place s_t_limbCount s_t_rows s_t_columns s_t_laid s_t_size_2 e_t_draft_3 (48 : Int32)) fun (s_t_size_23, e_t_draft_24) => some (s_t_limbCount, s_t_size_23, e_t_digits, e_t_counts, e_t_points, e_t_limbs, e_t_draft_24))) else (xob (f_Md_toPlaces n_t_digits n_t_counts n_t_points n_t_limbs n_t_draft s_t_thrown s_t_length s_t_place s_t_limbCount s_t_rows s_t_columns s_t_laid s_t_size_2 e_t_digits e_t_counts e_t_points e_t_limbs e_t_draft_3 x1 x4) fun (s_t_limbCount_26, s_t_size_27, e_t_digits_28, e_t_counts_29, e_t_points_30, e_t_limbs_31, e_t_draft_32) => some (s_t_limbCount_26, s_t_size_27, e_t_digits_28, e_t_counts_29, e_t_points_30, e_t_limbs_31, e_t_draft_32))) else (some (s_t_limbCount, s_t_size_2, e_t_digits, e_t_counts, e_t_points, e_t_limbs, e_t_draft_3))
def rm_Md_cell : Room := { frames := 5, cells := 0, slots := 0, locals := 130 }
set_option maxHeartbeats 4000000 in
set_option maxRecDepth 100000 in
theorem c_Md_cell (l : Launch) (dC : Nat → ClassId) (dI : Nat → Nat → Nat) (a_t a_t_text a_t_digits a_t_counts a_t_points a_t_limbs a_t_cells a_t_lines a_t_draft : Nat) (c_t_digits c_t_counts c_t_points c_t_limbs c_t_draft : ClassId) (n_t_digits : Nat) (n_t_counts : Nat) (n_t_points : Nat) (n_t_limbs : Nat) (n_t_draft : Nat) (s_t_thrown : Int32) (s_t_length : Int32) (s_t_place : Int32) (s_t_limbCount : Int32) (s_t_rows : Int32) (s_t_columns : Int32) (s_t_laid : Int32) (s_t_size : Int32) (e_t_digits : Nat → Int32) (e_t_counts : Nat → Int32) (e_t_points : Nat → Int32) (e_t_limbs : Nat → Int32) (e_t_draft : Nat → Int32) (x1 : Int64) (x3 : Int32) (x4 : Int32) (s_t_limbCount_o : Int32) (s_t_size_o : Int32) (e_t_digits_o : Nat → Int32) (e_t_counts_o : Nat → Int32) (e_t_points_o : Nat → Int32) (e_t_limbs_o : Nat → Int32) (e_t_draft_o : Nat → Int32) (h : f_Md_cell n_t_digits n_t_counts n_t_points n_t_limbs n_t_draft s_t_thrown s_t_length s_t_place s_t_limbCount s_t_rows s_t_columns s_t_laid s_t_size e_t_digits e_t_counts e_t_points e_t_limbs e_t_draft x1 x3 x4 = some (s_t_limbCount_o, s_t_size_o, e_t_digits_o, e_t_counts_o, e_t_points_o, e_t_limbs_o, e_t_draft_o)) : xM l y_Md_cell (Cond.code y_Md_cell b_Md_cell 5 none :: xG) rm_Md_cell (dC, dI) x_cl x_nz [.ref a_t, .long x1, .int x3, .int x4] [(c_t_digits, .int), (c_t_counts, .int), (c_t_points, .int), (c_t_limbs, .int), (c_t_draft, .int)] [(a_t, .inr (8, [.int s_t_thrown, .int s_t_length, .ref a_t_text, .int s_t_place, .ref a_t_digits, .ref a_t_counts, .ref a_t_points, .ref a_t_limbs, .int s_t_limbCount, .int s_t_rows, .int s_t_columns, .ref a_t_cells, .int s_t_laid, .ref a_t_lines, .int s_t_size, .ref a_t_draft])), (a_t_digits, .inl (c_t_digits, n_t_digits, .inl e_t_digits)), (a_t_counts, .inl (c_t_counts, n_t_counts, .inl e_t_counts)), (a_t_points, .inl (c_t_points, n_t_points, .inl e_t_points)), (a_t_limbs, .inl (c_t_limbs, n_t_limbs, .inl e_t_limbs)), (a_t_draft, .inl (c_t_draft, n_t_draft, .inl e_t_draft))] none [(a_t, .inr (8, [.int s_t_thrown, .int s_t_length, .ref a_t_text, .int s_t_place, .ref a_t_digits, .ref a_t_counts, .ref a_t_points, .ref a_t_limbs, .int s_t_limbCount_o, .int s_t_rows, .int s_t_columns, .ref a_t_cells, .int s_t_laid, .ref a_t_lines, .int s_t_size_o, .ref a_t_draft])), (a_t_digits, .inl (c_t_digits, n_t_digits, .inl e_t_digits_o)), (a_t_counts, .inl (c_t_counts, n_t_counts, .inl e_t_counts_o)), (a_t_points, .inl (c_t_points, n_t_points, .inl e_t_points_o)), (a_t_limbs, .inl (c_t_limbs, n_t_limbs, .inl e_t_limbs_o)), (a_t_draft, .inl (c_t_draft, n_t_draft, .inl e_t_draft_o))] := by
  unfold f_Md_cell at h
  refine xM.mkV (cc := b_Md_cell) (maxL := 5)  (by decide +kernel) rfl (Nat.le_of_ble_eq_true rfl) ?_
  intro p e s m args below meth c A Q ls hx hb hml hown hts hNz hA hP hD hK hl hret
  have hS : va_S A s.heap s.heap [] := va_S.rf
  have hl : lv_has ls 5 [(0, .ref a_t), (1, .long x1), (3, .int x3), (4, .int x4)] := hl
  refine lv_aload_n hx hb d_Md_cell_0 rfl (lv_at hl 0 rfl) ?_
  refine lv_lload_n hx hb d_Md_cell_1 rfl (lv_at hl 1 rfl) ?_
  replace h := xob_s h
  obtain ⟨⟨r_1, s_t_size_2, e_t_draft_3⟩, hc_4, h⟩ := h
  try dsimp only at h
  refine xcV (As := [.long x1]) (rest := []) (st1 := [.int r_1]) (wr := [(a_t_digits, .inl (c_t_digits, n_t_digits, .inl e_t_digits)), (a_t_counts, .inl (c_t_counts, n_t_counts, .inl e_t_counts)), (a_t_points, .inl (c_t_points, n_t_points, .inl e_t_points)), (a_t_limbs, .inl (c_t_limbs, n_t_limbs, .inl e_t_limbs))]) ⟨hx, hb, hml, hown, hts⟩ (c_Md_special l dC dI a_t a_t_text a_t_digits a_t_counts a_t_points a_t_limbs a_t_cells a_t_lines a_t_draft c_t_draft n_t_draft s_t_thrown s_t_length s_t_place s_t_limbCount s_t_rows s_t_columns s_t_laid s_t_size e_t_draft x1 r_1 s_t_size_2 e_t_draft_3 hc_4) (cwV 1 hts (xgoodV g_848 g_850 gp_31 g_10 g_851) rfl rfl rfl (by decide +kernel) ⟨Nat.le_of_ble_eq_true rfl, Nat.le_of_ble_eq_true rfl⟩) hNz (ci := 8) (q0 := 0) rfl rfl hA hP hD hS hK [0, 5] [1, 2, 3, 4] [4] rfl rfl rfl rfl (by decide) rfl rfl rfl rfl hl.1 (Nat.le_of_ble_eq_true rfl) ⟨Nat.zero_le _, Nat.zero_le _⟩ d_Md_cell_2 (fun H locs hP hD hS => ?_)
  have hP : va_P (dC, dI) x_cl [(a_t_digits, .inl (c_t_digits, n_t_digits, .inl e_t_digits)), (a_t_counts, .inl (c_t_counts, n_t_counts, .inl e_t_counts)), (a_t_points, .inl (c_t_points, n_t_points, .inl e_t_points)), (a_t_limbs, .inl (c_t_limbs, n_t_limbs, .inl e_t_limbs)), (a_t, .inr (8, [.int s_t_thrown, .int s_t_length, .ref a_t_text, .int s_t_place, .ref a_t_digits, .ref a_t_counts, .ref a_t_points, .ref a_t_limbs, .int s_t_limbCount, .int s_t_rows, .int s_t_columns, .ref a_t_cells, .int s_t_laid, .ref a_t_lines, .int s_t_size_2, .ref a_t_draft])), (a_t_draft, .inl (c_t_draft, n_t_draft, .inl e_t_draft_3))] H := hP
  have hD : va_D A [(a_t_digits, .inl (c_t_digits, n_t_digits, .inl e_t_digits)), (a_t_counts, .inl (c_t_counts, n_t_counts, .inl e_t_counts)), (a_t_points, .inl (c_t_points, n_t_points, .inl e_t_points)), (a_t_limbs, .inl (c_t_limbs, n_t_limbs, .inl e_t_limbs)), (a_t, .inr (8, [.int s_t_thrown, .int s_t_length, .ref a_t_text, .int s_t_place, .ref a_t_digits, .ref a_t_counts, .ref a_t_points, .ref a_t_limbs, .int s_t_limbCount, .int s_t_rows, .int s_t_columns, .ref a_t_cells, .int s_t_laid, .ref a_t_lines, .int s_t_size_2, .ref a_t_draft])), (a_t_draft, .inl (c_t_draft, n_t_draft, .inl e_t_draft_3))] := hD
  refine lv_if_eq (tgt := 9) hx hb d_Md_cell_5 (by decide) (fun c_5 => ?_) (fun c_5 => ?_)
  · rw [if_pos c_5] at h
    refine lv_iload hx hb d_Md_cell_9 (lv_at hl 3 rfl) ?_
    refine lv_iconst (v := -1) hx hb d_Md_cell_11 (by decide) ?_
    refine lv_icmp_eq (tgt := 25) hx hb d_Md_cell_12 (by decide) (fun c_6 => ?_) (fun c_6 => ?_)
    · rw [if_pos c_6] at h
      refine lv_lload_n hx hb d_Md_cell_25 rfl (lv_at hl 1 rfl) ?_
      replace h := xob_s h
      obtain ⟨r_7, hc_8, h⟩ := h
      try dsimp only at h
      refine xcS (As := [.long x1]) (rest := []) (st1 := [.int r_7]) (wr := [(a_t_digits, .inl (c_t_digits, n_t_digits, .inl e_t_digits)), (a_t_counts, .inl (c_t_counts, n_t_counts, .inl e_t_counts)), (a_t_points, .inl (c_t_points, n_t_points, .inl e_t_points)), (a_t_limbs, .inl (c_t_limbs, n_t_limbs, .inl e_t_limbs)), (a_t, .inr (8, [.int s_t_thrown, .int s_t_length, .ref a_t_text, .int s_t_place, .ref a_t_digits, .ref a_t_counts, .ref a_t_points, .ref a_t_limbs, .int s_t_limbCount, .int s_t_rows, .int s_t_columns, .ref a_t_cells, .int s_t_laid, .ref a_t_lines, .int s_t_size_2, .ref a_t_draft])), (a_t_draft, .inl (c_t_draft, n_t_draft, .inl e_t_draft_3))]) ⟨hx, hb, hml, hown, hts⟩ (c_Md_isZero l dC dI x1 r_7 hc_8) (⟨callB_of 1 hts (xgood g_863) rfl rfl rfl (hts _ g_10) (hts _ g_861) (by decide +kernel) ⟨Nat.le_of_ble_eq_true rfl, Nat.le_of_ble_eq_true rfl⟩, (hts _ g_862)⟩) hNz hA hP hD hS hK [] [0, 1, 2, 3, 4, 5] [] rfl rfl rfl rfl (by decide) rfl rfl rfl rfl hl.1 (Nat.le_of_ble_eq_true rfl) ⟨Nat.zero_le _, Nat.zero_le _⟩ d_Md_cell_26 (fun H locs hP hD hS => ?_)
      have hP : va_P (dC, dI) x_cl [(a_t_digits, .inl (c_t_digits, n_t_digits, .inl e_t_digits)), (a_t_counts, .inl (c_t_counts, n_t_counts, .inl e_t_counts)), (a_t_points, .inl (c_t_points, n_t_points, .inl e_t_points)), (a_t_limbs, .inl (c_t_limbs, n_t_limbs, .inl e_t_limbs)), (a_t, .inr (8, [.int s_t_thrown, .int s_t_length, .ref a_t_text, .int s_t_place, .ref a_t_digits, .ref a_t_counts, .ref a_t_points, .ref a_t_limbs, .int s_t_limbCount, .int s_t_rows, .int s_t_columns, .ref a_t_cells, .int s_t_laid, .ref a_t_lines, .int s_t_size_2, .ref a_t_draft])), (a_t_draft, .inl (c_t_draft, n_t_draft, .inl e_t_draft_3))] H := hP
      have hD : va_D A [(a_t_digits, .inl (c_t_digits, n_t_digits, .inl e_t_digits)), (a_t_counts, .inl (c_t_counts, n_t_counts, .inl e_t_counts)), (a_t_points, .inl (c_t_points, n_t_points, .inl e_t_points)), (a_t_limbs, .inl (c_t_limbs, n_t_limbs, .inl e_t_limbs)), (a_t, .inr (8, [.int s_t_thrown, .int s_t_length, .ref a_t_text, .int s_t_place, .ref a_t_digits, .ref a_t_counts, .ref a_t_points, .ref a_t_limbs, .int s_t_limbCount, .int s_t_rows, .int s_t_columns, .ref a_t_cells, .int s_t_laid, .ref a_t_lines, .int s_t_size_2, .ref a_t_draft])), (a_t_draft, .inl (c_t_draft, n_t_draft, .inl e_t_draft_3))] := hD
      refine lv_if_eq (tgt := 41) hx hb d_Md_cell_29 (by decide) (fun c_9 => ?_) (fun c_9 => ?_)
      · rw [if_pos c_9] at h
        refine lv_aload_n hx hb d_Md_cell_41 rfl (lv_at hl 0 rfl) ?_
        refine lv_iconst (v := 0) hx hb d_Md_cell_42 (by decide) ?_
        refine lv_lload_n hx hb d_Md_cell_43 rfl (lv_at hl 1 rfl) ?_
        refine lv_ldc2 (v := 9223372036854775807) hx hb hown (hts _ g_852) d_Md_cell_44 ?_
        refine lv_land hx hb d_Md_cell_47 ?_
        replace h := xob_s h
        obtain ⟨⟨s_t_limbCount_10, e_t_digits_11, e_t_counts_12, e_t_points_13, e_t_limbs_14⟩, hc_15, h⟩ := h
        try dsimp only at h
        refine xcV (As := [.int (0 : Int32), .long (x1 &&& (9223372036854775807 : Int64))]) (rest := []) (st1 := []) (wr := [(a_t_draft, .inl (c_t_draft, n_t_draft, .inl e_t_draft_3))]) ⟨hx, hb, hml, hown, hts⟩ (c_Md_value l dC dI a_t a_t_text a_t_digits a_t_counts a_t_points a_t_limbs a_t_cells a_t_lines a_t_draft c_t_digits c_t_counts c_t_points c_t_limbs n_t_digits n_t_counts n_t_points n_t_limbs s_t_thrown s_t_length s_t_place s_t_limbCount s_t_rows s_t_columns s_t_laid s_t_size_2 e_t_digits e_t_counts e_t_points e_t_limbs (0 : Int32) (x1 &&& (9223372036854775807 : Int64)) s_t_limbCount_10 e_t_digits_11 e_t_counts_12 e_t_points_13 e_t_limbs_14 hc_15) (cwV 2 hts (xgoodV g_806 g_808 gp_25 g_10 g_809) rfl rfl rfl (by decide +kernel) ⟨Nat.le_of_ble_eq_true rfl, Nat.le_of_ble_eq_true rfl⟩) hNz (ci := 8) (q0 := 4) rfl rfl hA hP hD hS hK [4, 0, 1, 2, 3] [5] [0, 1, 2, 3] rfl rfl rfl rfl (by decide) rfl rfl rfl rfl hl.1 (Nat.le_of_ble_eq_true rfl) ⟨Nat.zero_le _, Nat.zero_le _⟩ d_Md_cell_48 (fun H locs hP hD hS => ?_)
        have hP : va_P (dC, dI) x_cl [(a_t_draft, .inl (c_t_draft, n_t_draft, .inl e_t_draft_3)), (a_t, .inr (8, [.int s_t_thrown, .int s_t_length, .ref a_t_text, .int s_t_place, .ref a_t_digits, .ref a_t_counts, .ref a_t_points, .ref a_t_limbs, .int s_t_limbCount_10, .int s_t_rows, .int s_t_columns, .ref a_t_cells, .int s_t_laid, .ref a_t_lines, .int s_t_size_2, .ref a_t_draft])), (a_t_digits, .inl (c_t_digits, n_t_digits, .inl e_t_digits_11)), (a_t_counts, .inl (c_t_counts, n_t_counts, .inl e_t_counts_12)), (a_t_points, .inl (c_t_points, n_t_points, .inl e_t_points_13)), (a_t_limbs, .inl (c_t_limbs, n_t_limbs, .inl e_t_limbs_14))] H := hP
        have hD : va_D A [(a_t_draft, .inl (c_t_draft, n_t_draft, .inl e_t_draft_3)), (a_t, .inr (8, [.int s_t_thrown, .int s_t_length, .ref a_t_text, .int s_t_place, .ref a_t_digits, .ref a_t_counts, .ref a_t_points, .ref a_t_limbs, .int s_t_limbCount_10, .int s_t_rows, .int s_t_columns, .ref a_t_cells, .int s_t_laid, .ref a_t_lines, .int s_t_size_2, .ref a_t_draft])), (a_t_digits, .inl (c_t_digits, n_t_digits, .inl e_t_digits_11)), (a_t_counts, .inl (c_t_counts, n_t_counts, .inl e_t_counts_12)), (a_t_points, .inl (c_t_points, n_t_points, .inl e_t_points_13)), (a_t_limbs, .inl (c_t_limbs, n_t_limbs, .inl e_t_limbs_14))] := hD
        refine lv_aload_n hx hb d_Md_cell_51 rfl (lv_at hl 0 rfl) ?_
        refine lv_iconst (v := 0) hx hb d_Md_cell_52 (by decide) ?_
        refine lv_iconst (v := 3) hx hb d_Md_cell_53 (by decide) ?_
        refine lv_iload_n hx hb d_Md_cell_54 rfl (lv_at hl 2 rfl) ?_
        replace h := xob_s h
        obtain ⟨⟨e_t_digits_16, e_t_counts_17, e_t_points_18⟩, hc_19, h⟩ := h
        try dsimp only at h
        refine xcV (As := [.int (0 : Int32), .int (3 : Int32), .int x3]) (rest := []) (st1 := []) (wr := [(a_t_draft, .inl (c_t_draft, n_t_draft, .inl e_t_draft_3)), (a_t_limbs, .inl (c_t_limbs, n_t_limbs, .inl e_t_limbs_14))]) ⟨hx, hb, hml, hown, hts⟩ (c_Md_round l dC dI a_t a_t_text a_t_digits a_t_counts a_t_points a_t_limbs a_t_cells a_t_lines a_t_draft c_t_digits c_t_counts c_t_points n_t_digits n_t_counts n_t_points s_t_thrown s_t_length s_t_place s_t_limbCount_10 s_t_rows s_t_columns s_t_laid s_t_size_2 e_t_digits_11 e_t_counts_12 e_t_points_13 (0 : Int32) (3 : Int32) x3 e_t_digits_16 e_t_counts_17 e_t_points_18 hc_19) (cwV 3 hts (xgoodV g_908 g_910 gp_44 g_10 g_911) rfl rfl rfl (by decide +kernel) ⟨Nat.le_of_ble_eq_true rfl, Nat.le_of_ble_eq_true rfl⟩) hNz (ci := 8) (q0 := 1) rfl rfl hA hP hD hS hK [1, 2, 3, 4] [0, 5] [0, 1, 2] rfl rfl rfl rfl (by decide) rfl rfl rfl rfl hl.1 (Nat.le_of_ble_eq_true rfl) ⟨Nat.zero_le _, Nat.zero_le _⟩ d_Md_cell_55 (fun H locs hP hD hS => ?_)
        have hP : va_P (dC, dI) x_cl [(a_t_draft, .inl (c_t_draft, n_t_draft, .inl e_t_draft_3)), (a_t_limbs, .inl (c_t_limbs, n_t_limbs, .inl e_t_limbs_14)), (a_t, .inr (8, [.int s_t_thrown, .int s_t_length, .ref a_t_text, .int s_t_place, .ref a_t_digits, .ref a_t_counts, .ref a_t_points, .ref a_t_limbs, .int s_t_limbCount_10, .int s_t_rows, .int s_t_columns, .ref a_t_cells, .int s_t_laid, .ref a_t_lines, .int s_t_size_2, .ref a_t_draft])), (a_t_digits, .inl (c_t_digits, n_t_digits, .inl e_t_digits_16)), (a_t_counts, .inl (c_t_counts, n_t_counts, .inl e_t_counts_17)), (a_t_points, .inl (c_t_points, n_t_points, .inl e_t_points_18))] H := hP
        have hD : va_D A [(a_t_draft, .inl (c_t_draft, n_t_draft, .inl e_t_draft_3)), (a_t_limbs, .inl (c_t_limbs, n_t_limbs, .inl e_t_limbs_14)), (a_t, .inr (8, [.int s_t_thrown, .int s_t_length, .ref a_t_text, .int s_t_place, .ref a_t_digits, .ref a_t_counts, .ref a_t_points, .ref a_t_limbs, .int s_t_limbCount_10, .int s_t_rows, .int s_t_columns, .ref a_t_cells, .int s_t_laid, .ref a_t_lines, .int s_t_size_2, .ref a_t_draft])), (a_t_digits, .inl (c_t_digits, n_t_digits, .inl e_t_digits_16)), (a_t_counts, .inl (c_t_counts, n_t_counts, .inl e_t_counts_17)), (a_t_points, .inl (c_t_points, n_t_points, .inl e_t_points_18))] := hD
        refine lv_aload_n hx hb d_Md_cell_58 rfl (lv_at hl 0 rfl) ?_
        refine lv_iconst (v := 3) hx hb d_Md_cell_59 (by decide) ?_
        replace h := xob_s h
        obtain ⟨⟨s_t_size_20, e_t_draft_21⟩, hc_22, h⟩ := h
        try dsimp only at h
        refine xcV (As := [.int (3 : Int32)]) (rest := []) (st1 := []) (wr := [(a_t_limbs, .inl (c_t_limbs, n_t_limbs, .inl e_t_limbs_14))]) ⟨hx, hb, hml, hown, hts⟩ (c_Md_scientific l dC dI a_t a_t_text a_t_digits a_t_counts a_t_points a_t_limbs a_t_cells a_t_lines a_t_draft c_t_digits c_t_counts c_t_points c_t_draft n_t_digits n_t_counts n_t_points n_t_draft s_t_thrown s_t_length s_t_place s_t_limbCount_10 s_t_rows s_t_columns s_t_laid s_t_size_2 e_t_digits_16 e_t_counts_17 e_t_points_18 e_t_draft_3 (3 : Int32) s_t_size_20 e_t_draft_21 hc_22) (cwV 1 hts (xgoodV g_888 g_890 gp_40 g_10 g_891) rfl rfl rfl (by decide +kernel) ⟨Nat.le_of_ble_eq_true rfl, Nat.le_of_ble_eq_true rfl⟩) hNz (ci := 8) (q0 := 2) rfl rfl hA hP hD hS hK [2, 3, 4, 5, 0] [1] [0, 1, 2, 4] rfl rfl rfl rfl (by decide) rfl rfl rfl rfl hl.1 (Nat.le_of_ble_eq_true rfl) ⟨Nat.zero_le _, Nat.zero_le _⟩ d_Md_cell_60 (fun H locs hP hD hS => ?_)
        have hP : va_P (dC, dI) x_cl [(a_t_limbs, .inl (c_t_limbs, n_t_limbs, .inl e_t_limbs_14)), (a_t, .inr (8, [.int s_t_thrown, .int s_t_length, .ref a_t_text, .int s_t_place, .ref a_t_digits, .ref a_t_counts, .ref a_t_points, .ref a_t_limbs, .int s_t_limbCount_10, .int s_t_rows, .int s_t_columns, .ref a_t_cells, .int s_t_laid, .ref a_t_lines, .int s_t_size_20, .ref a_t_draft])), (a_t_digits, .inl (c_t_digits, n_t_digits, .inl e_t_digits_16)), (a_t_counts, .inl (c_t_counts, n_t_counts, .inl e_t_counts_17)), (a_t_points, .inl (c_t_points, n_t_points, .inl e_t_points_18)), (a_t_draft, .inl (c_t_draft, n_t_draft, .inl e_t_draft_21))] H := hP
        have hD : va_D A [(a_t_limbs, .inl (c_t_limbs, n_t_limbs, .inl e_t_limbs_14)), (a_t, .inr (8, [.int s_t_thrown, .int s_t_length, .ref a_t_text, .int s_t_place, .ref a_t_digits, .ref a_t_counts, .ref a_t_points, .ref a_t_limbs, .int s_t_limbCount_10, .int s_t_rows, .int s_t_columns, .ref a_t_cells, .int s_t_laid, .ref a_t_lines, .int s_t_size_20, .ref a_t_draft])), (a_t_digits, .inl (c_t_digits, n_t_digits, .inl e_t_digits_16)), (a_t_counts, .inl (c_t_counts, n_t_counts, .inl e_t_counts_17)), (a_t_points, .inl (c_t_points, n_t_points, .inl e_t_points_18)), (a_t_draft, .inl (c_t_draft, n_t_draft, .inl e_t_draft_21))] := hD
        replace h := Option.some.inj h
        replace h := Prod.mk.inj h
        obtain ⟨h1, h⟩ := h
        subst h1
        replace h := Prod.mk.inj h
        obtain ⟨h1, h⟩ := h
        subst h1
        replace h := Prod.mk.inj h
        obtain ⟨h1, h⟩ := h
        subst h1
        replace h := Prod.mk.inj h
        obtain ⟨h1, h⟩ := h
        subst h1
        replace h := Prod.mk.inj h
        obtain ⟨h1, h⟩ := h
        subst h1
        replace h := Prod.mk.inj h
        obtain ⟨h1, h⟩ := h
        subst h1
        subst h
        exact hret _ _ (hP.sub [1, 2, 3, 4, 0, 5] rfl) (hD.sub [1, 2, 3, 4, 0, 5] (by decide) rfl) hS _ _ d_Md_cell_63
      · rw [if_neg c_9] at h
        refine lv_aload_n hx hb d_Md_cell_32 rfl (lv_at hl 0 rfl) ?_
        refine lv_bipush (v := 48) hx hb d_Md_cell_33 (by decide) ?_
        replace h := xob_s h
        obtain ⟨⟨s_t_size_23, e_t_draft_24⟩, hc_25, h⟩ := h
        try dsimp only at h
        refine xcV (As := [.int (48 : Int32)]) (rest := []) (st1 := []) (wr := [(a_t_digits, .inl (c_t_digits, n_t_digits, .inl e_t_digits)), (a_t_counts, .inl (c_t_counts, n_t_counts, .inl e_t_counts)), (a_t_points, .inl (c_t_points, n_t_points, .inl e_t_points)), (a_t_limbs, .inl (c_t_limbs, n_t_limbs, .inl e_t_limbs))]) ⟨hx, hb, hml, hown, hts⟩ (c_Md_put l dC dI a_t a_t_text a_t_digits a_t_counts a_t_points a_t_limbs a_t_cells a_t_lines a_t_draft c_t_draft n_t_draft s_t_thrown s_t_length s_t_place s_t_limbCount s_t_rows s_t_columns s_t_laid s_t_size_2 e_t_draft_3 (48 : Int32) s_t_size_23 e_t_draft_24 hc_25) (cwV 1 hts (xgoodV g_857 g_859 gp_33 g_10 g_860) rfl rfl rfl (by decide +kernel) ⟨Nat.le_of_ble_eq_true rfl, Nat.le_of_ble_eq_true rfl⟩) hNz (ci := 8) (q0 := 4) rfl rfl hA hP hD hS hK [4, 5] [0, 1, 2, 3] [4] rfl rfl rfl rfl (by decide) rfl rfl rfl rfl hl.1 (Nat.le_of_ble_eq_true rfl) ⟨Nat.zero_le _, Nat.zero_le _⟩ d_Md_cell_35 (fun H locs hP hD hS => ?_)
        have hP : va_P (dC, dI) x_cl [(a_t_digits, .inl (c_t_digits, n_t_digits, .inl e_t_digits)), (a_t_counts, .inl (c_t_counts, n_t_counts, .inl e_t_counts)), (a_t_points, .inl (c_t_points, n_t_points, .inl e_t_points)), (a_t_limbs, .inl (c_t_limbs, n_t_limbs, .inl e_t_limbs)), (a_t, .inr (8, [.int s_t_thrown, .int s_t_length, .ref a_t_text, .int s_t_place, .ref a_t_digits, .ref a_t_counts, .ref a_t_points, .ref a_t_limbs, .int s_t_limbCount, .int s_t_rows, .int s_t_columns, .ref a_t_cells, .int s_t_laid, .ref a_t_lines, .int s_t_size_23, .ref a_t_draft])), (a_t_draft, .inl (c_t_draft, n_t_draft, .inl e_t_draft_24))] H := hP
        have hD : va_D A [(a_t_digits, .inl (c_t_digits, n_t_digits, .inl e_t_digits)), (a_t_counts, .inl (c_t_counts, n_t_counts, .inl e_t_counts)), (a_t_points, .inl (c_t_points, n_t_points, .inl e_t_points)), (a_t_limbs, .inl (c_t_limbs, n_t_limbs, .inl e_t_limbs)), (a_t, .inr (8, [.int s_t_thrown, .int s_t_length, .ref a_t_text, .int s_t_place, .ref a_t_digits, .ref a_t_counts, .ref a_t_points, .ref a_t_limbs, .int s_t_limbCount, .int s_t_rows, .int s_t_columns, .ref a_t_cells, .int s_t_laid, .ref a_t_lines, .int s_t_size_23, .ref a_t_draft])), (a_t_draft, .inl (c_t_draft, n_t_draft, .inl e_t_draft_24))] := hD
        refine lv_goto (tgt := 63) hx hb d_Md_cell_38 (by decide) ?_
        replace h := Option.some.inj h
        replace h := Prod.mk.inj h
        obtain ⟨h1, h⟩ := h
        subst h1
        replace h := Prod.mk.inj h
        obtain ⟨h1, h⟩ := h
        subst h1
        replace h := Prod.mk.inj h
        obtain ⟨h1, h⟩ := h
        subst h1
        replace h := Prod.mk.inj h
        obtain ⟨h1, h⟩ := h
        subst h1
        replace h := Prod.mk.inj h
        obtain ⟨h1, h⟩ := h
        subst h1
        replace h := Prod.mk.inj h
        obtain ⟨h1, h⟩ := h
        subst h1
        subst h
        exact hret _ _ (hP.sub [4, 0, 1, 2, 3, 5] rfl) (hD.sub [4, 0, 1, 2, 3, 5] (by decide) rfl) hS _ _ d_Md_cell_63
    · rw [if_neg c_6] at h
      refine lv_aload_n hx hb d_Md_cell_15 rfl (lv_at hl 0 rfl) ?_
      refine lv_lload_n hx hb d_Md_cell_16 rfl (lv_at hl 1 rfl) ?_
      refine lv_iload hx hb d_Md_cell_17 (lv_at hl 3 rfl) ?_
      replace h := xob_s h
      obtain ⟨⟨s_t_limbCount_26, s_t_size_27, e_t_digits_28, e_t_counts_29, e_t_points_30, e_t_limbs_31, e_t_draft_32⟩, hc_33, h⟩ := h
      try dsimp only at h
      refine xcV (As := [.long x1, .int x4]) (rest := []) (st1 := []) (wr := []) ⟨hx, hb, hml, hown, hts⟩ (c_Md_toPlaces l dC dI a_t a_t_text a_t_digits a_t_counts a_t_points a_t_limbs a_t_cells a_t_lines a_t_draft c_t_digits c_t_counts c_t_points c_t_limbs c_t_draft n_t_digits n_t_counts n_t_points n_t_limbs n_t_draft s_t_thrown s_t_length s_t_place s_t_limbCount s_t_rows s_t_columns s_t_laid s_t_size_2 e_t_digits e_t_counts e_t_points e_t_limbs e_t_draft_3 x1 x4 s_t_limbCount_26 s_t_size_27 e_t_digits_28 e_t_counts_29 e_t_points_30 e_t_limbs_31 e_t_draft_32 hc_33) (cwV 2 hts (xgoodV g_916 g_918 gp_45 g_10 g_919) rfl rfl rfl (by decide +kernel) ⟨Nat.le_of_ble_eq_true rfl, Nat.le_of_ble_eq_true rfl⟩) hNz (ci := 8) (q0 := 4) rfl rfl hA hP hD hS hK [4, 0, 1, 2, 3, 5] [] [0, 1, 2, 3, 4] rfl rfl rfl rfl (by decide) rfl rfl rfl rfl hl.1 (Nat.le_of_ble_eq_true rfl) ⟨Nat.zero_le _, Nat.zero_le _⟩ d_Md_cell_19 (fun H locs hP hD hS => ?_)
      have hP : va_P (dC, dI) x_cl [(a_t, .inr (8, [.int s_t_thrown, .int s_t_length, .ref a_t_text, .int s_t_place, .ref a_t_digits, .ref a_t_counts, .ref a_t_points, .ref a_t_limbs, .int s_t_limbCount_26, .int s_t_rows, .int s_t_columns, .ref a_t_cells, .int s_t_laid, .ref a_t_lines, .int s_t_size_27, .ref a_t_draft])), (a_t_digits, .inl (c_t_digits, n_t_digits, .inl e_t_digits_28)), (a_t_counts, .inl (c_t_counts, n_t_counts, .inl e_t_counts_29)), (a_t_points, .inl (c_t_points, n_t_points, .inl e_t_points_30)), (a_t_limbs, .inl (c_t_limbs, n_t_limbs, .inl e_t_limbs_31)), (a_t_draft, .inl (c_t_draft, n_t_draft, .inl e_t_draft_32))] H := hP
      have hD : va_D A [(a_t, .inr (8, [.int s_t_thrown, .int s_t_length, .ref a_t_text, .int s_t_place, .ref a_t_digits, .ref a_t_counts, .ref a_t_points, .ref a_t_limbs, .int s_t_limbCount_26, .int s_t_rows, .int s_t_columns, .ref a_t_cells, .int s_t_laid, .ref a_t_lines, .int s_t_size_27, .ref a_t_draft])), (a_t_digits, .inl (c_t_digits, n_t_digits, .inl e_t_digits_28)), (a_t_counts, .inl (c_t_counts, n_t_counts, .inl e_t_counts_29)), (a_t_points, .inl (c_t_points, n_t_points, .inl e_t_points_30)), (a_t_limbs, .inl (c_t_limbs, n_t_limbs, .inl e_t_limbs_31)), (a_t_draft, .inl (c_t_draft, n_t_draft, .inl e_t_draft_32))] := hD
      refine lv_goto (tgt := 63) hx hb d_Md_cell_22 (by decide) ?_
      replace h := Option.some.inj h
      replace h := Prod.mk.inj h
      obtain ⟨h1, h⟩ := h
      subst h1
      replace h := Prod.mk.inj h
      obtain ⟨h1, h⟩ := h
      subst h1
      replace h := Prod.mk.inj h
      obtain ⟨h1, h⟩ := h
      subst h1
      replace h := Prod.mk.inj h
      obtain ⟨h1, h⟩ := h
      subst h1
      replace h := Prod.mk.inj h
      obtain ⟨h1, h⟩ := h
      subst h1
      replace h := Prod.mk.inj h
      obtain ⟨h1, h⟩ := h
      subst h1
      subst h
      exact hret _ _ hP hD hS _ _ d_Md_cell_63
  · rw [if_neg c_5] at h
    replace h := Option.some.inj h
    replace h := Prod.mk.inj h
    obtain ⟨h1, h⟩ := h
    subst h1
    replace h := Prod.mk.inj h
    obtain ⟨h1, h⟩ := h
    subst h1
    replace h := Prod.mk.inj h
    obtain ⟨h1, h⟩ := h
    subst h1
    replace h := Prod.mk.inj h
    obtain ⟨h1, h⟩ := h
    subst h1
    replace h := Prod.mk.inj h
    obtain ⟨h1, h⟩ := h
    subst h1
    replace h := Prod.mk.inj h
    obtain ⟨h1, h⟩ := h
    subst h1
    subst h
    exact hret _ _ (hP.sub [4, 0, 1, 2, 3, 5] rfl) (hD.sub [4, 0, 1, 2, 3, 5] (by decide) rfl) hS _ _ d_Md_cell_8
def lp_Md_layout_188 (x1 : Int32) (x2_30 : Int32) (x3_8 : Int32) (r_34 : Int32) (x5_50 : Int32) (x6_61 : Int32) (s_t_thrown_4 : Int32) (s_t_length : Int32) (s_t_place : Int32) (s_t_limbCount_85 : Int32) (s_t_rows : Int32) (s_t_columns : Int32) (s_t_laid : Int32) (s_t_size_86 : Int32) (e_t_draft_91 : Nat → Int32) (n_t_lines : Nat) (n_t_draft : Nat) : Nat → Int32 → (Nat → Int32) → Option ((Nat → Int32))
  | 0, _, _ => none
  | n_ + 1, x7_93, e_t_lines_94 =>
    if x5_50 ≤ x7_93 then (some e_t_lines_94) else (if (x5_50 - s_t_size_86) ≤ x7_93 then (if (((x7_93 - x5_50) + s_t_size_86) < 0 ∨ n_t_draft ≤ ((x7_93 - x5_50) + s_t_size_86).toNatClampNeg) then none else if (((((1200 : Int32) * x6_61) + x2_30) + x7_93) < 0 ∨ n_t_lines ≤ ((((1200 : Int32) * x6_61) + x2_30) + x7_93).toNatClampNeg) then none else xnm (x7_93 + (1 : Int32)) fun x7_104 => lp_Md_layout_188 x1 x2_30 x3_8 r_34 x5_50 x6_61 s_t_thrown_4 s_t_length s_t_place s_t_limbCount_85 s_t_rows s_t_columns s_t_laid s_t_size_86 e_t_draft_91 n_t_lines n_t_draft n_ x7_104 (upd e_t_lines_94 ((((1200 : Int32) * x6_61) + x2_30) + x7_93).toNatClampNeg (e_t_draft_91 ((x7_93 - x5_50) + s_t_size_86).toNatClampNeg))) else (if (((((1200 : Int32) * x6_61) + x2_30) + x7_93) < 0 ∨ n_t_lines ≤ ((((1200 : Int32) * x6_61) + x2_30) + x7_93).toNatClampNeg) then none else xnm (x7_93 + (1 : Int32)) fun x7_106 => lp_Md_layout_188 x1 x2_30 x3_8 r_34 x5_50 x6_61 s_t_thrown_4 s_t_length s_t_place s_t_limbCount_85 s_t_rows s_t_columns s_t_laid s_t_size_86 e_t_draft_91 n_t_lines n_t_draft n_ x7_106 (upd e_t_lines_94 ((((1200 : Int32) * x6_61) + x2_30) + x7_93).toNatClampNeg (32 : Int32))))
def lp_Md_layout_157 (x1 : Int32) (x2_30 : Int32) (x3_8 : Int32) (r_34 : Int32) (x5_50 : Int32) (s_t_thrown_4 : Int32) (s_t_length : Int32) (s_t_place : Int32) (s_t_rows : Int32) (s_t_columns : Int32) (s_t_laid : Int32) (e_t_cells : Nat → Int64) (n_t_digits : Nat) (n_t_counts : Nat) (n_t_points : Nat) (n_t_limbs : Nat) (n_t_cells : Nat) (n_t_lines : Nat) (n_t_draft : Nat) : Nat → Int32 → Int32 → Int32 → (Nat → Int32) → (Nat → Int32) → (Nat → Int32) → (Nat → Int32) → (Nat → Int32) → (Nat → Int32) → Option (Int32 × Int32 × (Nat → Int32) × (Nat → Int32) × (Nat → Int32) × (Nat → Int32) × (Nat → Int32) × (Nat → Int32))
  | 0, _, _, _, _, _, _, _, _, _ => none
  | n_ + 1, x6_61, s_t_limbCount_62, s_t_size_63, e_t_digits_64, e_t_counts_65, e_t_points_66, e_t_limbs_67, e_t_lines_68, e_t_draft_69 =>
    if s_t_rows ≤ x6_61 then (some (s_t_limbCount_62, s_t_size_63, e_t_digits_64, e_t_counts_65, e_t_points_66, e_t_limbs_67, e_t_lines_68, e_t_draft_69)) else (if ((((8 : Int32) * x6_61) + x3_8) < 0 ∨ n_t_cells ≤ (((8 : Int32) * x6_61) + x3_8).toNatClampNeg) then none else xob (f_Md_cell n_t_digits n_t_counts n_t_points n_t_limbs n_t_draft s_t_thrown_4 s_t_length s_t_place s_t_limbCount_62 s_t_rows s_t_columns s_t_laid s_t_size_63 e_t_digits_64 e_t_counts_65 e_t_points_66 e_t_limbs_67 e_t_draft_69 (e_t_cells (((8 : Int32) * x6_61) + x3_8).toNatClampNeg) x1 r_34) fun (s_t_limbCount_85, s_t_size_86, e_t_digits_87, e_t_counts_88, e_t_points_89, e_t_limbs_90, e_t_draft_91) => xob (lp_Md_layout_188 x1 x2_30 x3_8 r_34 x5_50 x6_61 s_t_thrown_4 s_t_length s_t_place s_t_limbCount_85 s_t_rows s_t_columns s_t_laid s_t_size_86 e_t_draft_91 n_t_lines n_t_draft xF (0 : Int32) e_t_lines_68) fun e_t_lines_95 => xnm (x6_61 + (1 : Int32)) fun x6_99 => lp_Md_layout_157 x1 x2_30 x3_8 r_34 x5_50 s_t_thrown_4 s_t_length s_t_place s_t_rows s_t_columns s_t_laid e_t_cells n_t_digits n_t_counts n_t_points n_t_limbs n_t_cells n_t_lines n_t_draft n_ x6_99 s_t_limbCount_85 s_t_size_86 e_t_digits_87 e_t_counts_88 e_t_points_89 e_t_limbs_90 e_t_lines_95 e_t_draft_91)
def lp_Md_layout_100 (x1 : Int32) (x2_30 : Int32) (x3_8 : Int32) (r_34 : Int32) (s_t_thrown_4 : Int32) (s_t_length : Int32) (s_t_place : Int32) (s_t_rows : Int32) (s_t_columns : Int32) (s_t_laid : Int32) (e_t_cells : Nat → Int64) (n_t_digits : Nat) (n_t_counts : Nat) (n_t_points : Nat) (n_t_limbs : Nat) (n_t_cells : Nat) (n_t_draft : Nat) : Nat → Int32 → Int32 → Int32 → Int32 → (Nat → Int32) → (Nat → Int32) → (Nat → Int32) → (Nat → Int32) → (Nat → Int32) → Option (Int32 × Int32 × Int32 × (Nat → Int32) × (Nat → Int32) × (Nat → Int32) × (Nat → Int32) × (Nat → Int32))
  | 0, _, _, _, _, _, _, _, _, _ => none
  | n_ + 1, x5_41, x6_42, s_t_limbCount_43, s_t_size_44, e_t_digits_45, e_t_counts_46, e_t_points_47, e_t_limbs_48, e_t_draft_49 =>
    if s_t_rows ≤ x6_42 then (some (x5_41, s_t_limbCount_43, s_t_size_44, e_t_digits_45, e_t_counts_46, e_t_points_47, e_t_limbs_48, e_t_draft_49)) else (if ((((8 : Int32) * x6_42) + x3_8) < 0 ∨ n_t_cells ≤ (((8 : Int32) * x6_42) + x3_8).toNatClampNeg) then none else xob (f_Md_cell n_t_digits n_t_counts n_t_points n_t_limbs n_t_draft s_t_thrown_4 s_t_length s_t_place s_t_limbCount_43 s_t_rows s_t_columns s_t_laid s_t_size_44 e_t_digits_45 e_t_counts_46 e_t_points_47 e_t_limbs_48 e_t_draft_49 (e_t_cells (((8 : Int32) * x6_42) + x3_8).toNatClampNeg) x1 r_34) fun (s_t_limbCount_109, s_t_size_110, e_t_digits_111, e_t_counts_112, e_t_points_113, e_t_limbs_114, e_t_draft_115) => if s_t_size_110 ≤ x5_41 then (xnm (x6_42 + (1 : Int32)) fun x6_118 => lp_Md_layout_100 x1 x2_30 x3_8 r_34 s_t_thrown_4 s_t_length s_t_place s_t_rows s_t_columns s_t_laid e_t_cells n_t_digits n_t_counts n_t_points n_t_limbs n_t_cells n_t_draft n_ x5_41 x6_118 s_t_limbCount_109 s_t_size_110 e_t_digits_111 e_t_counts_112 e_t_points_113 e_t_limbs_114 e_t_draft_115) else (xnm (x6_42 + (1 : Int32)) fun x6_119 => lp_Md_layout_100 x1 x2_30 x3_8 r_34 s_t_thrown_4 s_t_length s_t_place s_t_rows s_t_columns s_t_laid e_t_cells n_t_digits n_t_counts n_t_points n_t_limbs n_t_cells n_t_draft n_ s_t_size_110 x6_119 s_t_limbCount_109 s_t_size_110 e_t_digits_111 e_t_counts_112 e_t_points_113 e_t_limbs_114 e_t_draft_115))
def lp_Md_layout_35 (x1 : Int32) (x2_7 : Int32) (x3_8 : Int32) (s_t_thrown_4 : Int32) (s_t_length : Int32) (s_t_place : Int32) (s_t_limbCount_9 : Int32) (s_t_rows : Int32) (s_t_columns : Int32) (s_t_laid : Int32) (s_t_size_10 : Int32) (n_t_lines : Nat) : Nat → Int32 → (Nat → Int32) → Option ((Nat → Int32))
  | 0, _, _ => none
  | n_ + 1, x4_121, e_t_lines_122 =>
    if s_t_rows ≤ x4_121 then (some e_t_lines_122) else (if ((((1200 : Int32) * x4_121) + x2_7) < 0 ∨ n_t_lines ≤ (((1200 : Int32) * x4_121) + x2_7).toNatClampNeg) then none else if (((((1200 : Int32) * x4_121) + x2_7) + (1 : Int32)) < 0 ∨ n_t_lines ≤ ((((1200 : Int32) * x4_121) + x2_7) + (1 : Int32)).toNatClampNeg) then none else xnm (x4_121 + (1 : Int32)) fun x4_131 => lp_Md_layout_35 x1 x2_7 x3_8 s_t_thrown_4 s_t_length s_t_place s_t_limbCount_9 s_t_rows s_t_columns s_t_laid s_t_size_10 n_t_lines n_ x4_131 (upd ((upd e_t_lines_122 (((1200 : Int32) * x4_121) + x2_7).toNatClampNeg (32 : Int32))) ((((1200 : Int32) * x4_121) + x2_7) + (1 : Int32)).toNatClampNeg (32 : Int32)))
def lp_Md_layout_20 (x1 : Int32) (s_t_thrown_4 : Int32) (s_t_length : Int32) (s_t_place : Int32) (s_t_rows : Int32) (s_t_columns : Int32) (s_t_laid : Int32) (e_t_cells : Nat → Int64) (n_t_digits : Nat) (n_t_counts : Nat) (n_t_points : Nat) (n_t_limbs : Nat) (n_t_cells : Nat) (n_t_lines : Nat) (n_t_draft : Nat) : Nat → Int32 → Int32 → Int32 → Int32 → (Nat → Int32) → (Nat → Int32) → (Nat → Int32) → (Nat → Int32) → (Nat → Int32) → (Nat → Int32) → Option (Int32 × Int32 × Int32 × (Nat → Int32) × (Nat → Int32) × (Nat → Int32) × (Nat → Int32) × (Nat → Int32) × (Nat → Int32))
  | 0, _, _, _, _, _, _, _, _, _, _ => none
  | n_ + 1, x2_7, x3_8, s_t_limbCount_9, s_t_size_10, e_t_digits_11, e_t_counts_12, e_t_points_13, e_t_limbs_14, e_t_lines_15, e_t_draft_16 =>
    if s_t_columns ≤ x3_8 then (some (x2_7, s_t_limbCount_9, s_t_size_10, e_t_digits_11, e_t_counts_12, e_t_points_13, e_t_limbs_14, e_t_lines_15, e_t_draft_16)) else (xob (if x3_8 ≤ 0 then (some (x2_7, e_t_lines_15)) else (xob (lp_Md_layout_35 x1 x2_7 x3_8 s_t_thrown_4 s_t_length s_t_place s_t_limbCount_9 s_t_rows s_t_columns s_t_laid s_t_size_10 n_t_lines xF (0 : Int32) e_t_lines_15) fun e_t_lines_123 => xnm (x2_7 + (2 : Int32)) fun x2_127 => some (x2_127, e_t_lines_123))) fun (x2_30, e_t_lines_31) => xob (f_Md_placesOf n_t_digits n_t_counts n_t_points n_t_limbs n_t_cells s_t_thrown_4 s_t_length s_t_place s_t_limbCount_9 s_t_rows s_t_columns s_t_laid s_t_size_10 e_t_digits_11 e_t_counts_12 e_t_points_13 e_t_limbs_14 e_t_cells x3_8 x1) fun (r_34, s_t_limbCount_35, e_t_digits_36, e_t_counts_37, e_t_points_38, e_t_limbs_39) => xob (lp_Md_layout_100 x1 x2_30 x3_8 r_34 s_t_thrown_4 s_t_length s_t_place s_t_rows s_t_columns s_t_laid e_t_cells n_t_digits n_t_counts n_t_points n_t_limbs n_t_cells n_t_draft xF (0 : Int32) (0 : Int32) s_t_limbCount_35 s_t_size_10 e_t_digits_36 e_t_counts_37 e_t_points_38 e_t_limbs_39 e_t_draft_16) fun (x5_50, s_t_limbCount_51, s_t_size_52, e_t_digits_53, e_t_counts_54, e_t_points_55, e_t_limbs_56, e_t_draft_57) => xob (lp_Md_layout_157 x1 x2_30 x3_8 r_34 x5_50 s_t_thrown_4 s_t_length s_t_place s_t_rows s_t_columns s_t_laid e_t_cells n_t_digits n_t_counts n_t_points n_t_limbs n_t_cells n_t_lines n_t_draft xF (0 : Int32) s_t_limbCount_51 s_t_size_52 e_t_digits_53 e_t_counts_54 e_t_points_55 e_t_limbs_56 e_t_lines_31 e_t_draft_57) fun (s_t_limbCount_70, s_t_size_71, e_t_digits_72, e_t_counts_73, e_t_points_74, e_t_limbs_75, e_t_lines_76, e_t_draft_77) => xnm (x2_30 + x5_50) fun x2_81 => xnm (x3_8 + (1 : Int32)) fun x3_82 => lp_Md_layout_20 x1 s_t_thrown_4 s_t_length s_t_place s_t_rows s_t_columns s_t_laid e_t_cells n_t_digits n_t_counts n_t_points n_t_limbs n_t_cells n_t_lines n_t_draft n_ x2_81 x3_82 s_t_limbCount_70 s_t_size_71 e_t_digits_72 e_t_counts_73 e_t_points_74 e_t_limbs_75 e_t_lines_76 e_t_draft_77)
def f_Md_layout (n_t_digits : Nat) (n_t_counts : Nat) (n_t_points : Nat) (n_t_limbs : Nat) (n_t_cells : Nat) (n_t_lines : Nat) (n_t_draft : Nat) (s_t_thrown : Int32) (s_t_length : Int32) (s_t_place : Int32) (s_t_limbCount : Int32) (s_t_rows : Int32) (s_t_columns : Int32) (s_t_laid : Int32) (s_t_size : Int32) (e_t_digits : Nat → Int32) (e_t_counts : Nat → Int32) (e_t_points : Nat → Int32) (e_t_limbs : Nat → Int32) (e_t_cells : Nat → Int64) (e_t_lines : Nat → Int32) (e_t_draft : Nat → Int32) (x1 : Int32) : Option (Int32 × Int32 × Int32 × Int32 × Int32 × (Nat → Int32) × (Nat → Int32) × (Nat → Int32) × (Nat → Int32) × (Nat → Int32) × (Nat → Int32)) :=
  xob (f_Md_in x1 (1 : Int32) (17 : Int32)) fun r_1 => xob (f_Md_goes s_t_thrown s_t_length s_t_place s_t_limbCount s_t_rows s_t_columns s_t_laid s_t_size r_1) fun (r_3, s_t_thrown_4) => if r_3 = 0 then (some ((0 : Int32), s_t_laid, s_t_limbCount, s_t_size, s_t_thrown_4, e_t_digits, e_t_counts, e_t_points, e_t_limbs, e_t_lines, e_t_draft)) else (xob (lp_Md_layout_20 x1 s_t_thrown_4 s_t_length s_t_place s_t_rows s_t_columns s_t_laid e_t_cells n_t_digits n_t_counts n_t_points n_t_limbs n_t_cells n_t_lines n_t_draft xF (0 : Int32) (0 : Int32) s_t_limbCount s_t_size e_t_digits e_t_counts e_t_points e_t_limbs e_t_lines e_t_draft) fun (x2_17, s_t_limbCount_18, s_t_size_19, e_t_digits_20, e_t_counts_21, e_t_points_22, e_t_limbs_23, e_t_lines_24, e_t_draft_25) => some (x2_17, x2_17, s_t_limbCount_18, s_t_size_19, s_t_thrown_4, e_t_digits_20, e_t_counts_21, e_t_points_22, e_t_limbs_23, e_t_lines_24, e_t_draft_25))
def rm_Md_layout : Room := { frames := 6, cells := 0, slots := 0, locals := 154 }
set_option maxHeartbeats 4000000 in
set_option maxRecDepth 100000 in
theorem c_Md_layout (l : Launch) (dC : Nat → ClassId) (dI : Nat → Nat → Nat) (a_t a_t_text a_t_digits a_t_counts a_t_points a_t_limbs a_t_cells a_t_lines a_t_draft : Nat) (c_t_digits c_t_counts c_t_points c_t_limbs c_t_cells c_t_lines c_t_draft : ClassId) (n_t_digits : Nat) (n_t_counts : Nat) (n_t_points : Nat) (n_t_limbs : Nat) (n_t_cells : Nat) (n_t_lines : Nat) (n_t_draft : Nat) (s_t_thrown : Int32) (s_t_length : Int32) (s_t_place : Int32) (s_t_limbCount : Int32) (s_t_rows : Int32) (s_t_columns : Int32) (s_t_laid : Int32) (s_t_size : Int32) (e_t_digits : Nat → Int32) (e_t_counts : Nat → Int32) (e_t_points : Nat → Int32) (e_t_limbs : Nat → Int32) (e_t_cells : Nat → Int64) (e_t_lines : Nat → Int32) (e_t_draft : Nat → Int32) (x1 : Int32) (r_ : Int32) (s_t_laid_o : Int32) (s_t_limbCount_o : Int32) (s_t_size_o : Int32) (s_t_thrown_o : Int32) (e_t_digits_o : Nat → Int32) (e_t_counts_o : Nat → Int32) (e_t_points_o : Nat → Int32) (e_t_limbs_o : Nat → Int32) (e_t_lines_o : Nat → Int32) (e_t_draft_o : Nat → Int32) (h : f_Md_layout n_t_digits n_t_counts n_t_points n_t_limbs n_t_cells n_t_lines n_t_draft s_t_thrown s_t_length s_t_place s_t_limbCount s_t_rows s_t_columns s_t_laid s_t_size e_t_digits e_t_counts e_t_points e_t_limbs e_t_cells e_t_lines e_t_draft x1 = some (r_, s_t_laid_o, s_t_limbCount_o, s_t_size_o, s_t_thrown_o, e_t_digits_o, e_t_counts_o, e_t_points_o, e_t_limbs_o, e_t_lines_o, e_t_draft_o)) : xM l y_Md_layout (Cond.code y_Md_layout b_Md_layout 8 (some .int) :: xG) rm_Md_layout (dC, dI) x_cl x_nz [.ref a_t, .int x1] [(c_t_digits, .int), (c_t_counts, .int), (c_t_points, .int), (c_t_limbs, .int), (c_t_cells, .long), (c_t_lines, .int), (c_t_draft, .int)] [(a_t, .inr (8, [.int s_t_thrown, .int s_t_length, .ref a_t_text, .int s_t_place, .ref a_t_digits, .ref a_t_counts, .ref a_t_points, .ref a_t_limbs, .int s_t_limbCount, .int s_t_rows, .int s_t_columns, .ref a_t_cells, .int s_t_laid, .ref a_t_lines, .int s_t_size, .ref a_t_draft])), (a_t_digits, .inl (c_t_digits, n_t_digits, .inl e_t_digits)), (a_t_counts, .inl (c_t_counts, n_t_counts, .inl e_t_counts)), (a_t_points, .inl (c_t_points, n_t_points, .inl e_t_points)), (a_t_limbs, .inl (c_t_limbs, n_t_limbs, .inl e_t_limbs)), (a_t_cells, .inl (c_t_cells, n_t_cells, .inr (.inl e_t_cells))), (a_t_lines, .inl (c_t_lines, n_t_lines, .inl e_t_lines)), (a_t_draft, .inl (c_t_draft, n_t_draft, .inl e_t_draft))] (some (.int r_)) [(a_t, .inr (8, [.int s_t_thrown_o, .int s_t_length, .ref a_t_text, .int s_t_place, .ref a_t_digits, .ref a_t_counts, .ref a_t_points, .ref a_t_limbs, .int s_t_limbCount_o, .int s_t_rows, .int s_t_columns, .ref a_t_cells, .int s_t_laid_o, .ref a_t_lines, .int s_t_size_o, .ref a_t_draft])), (a_t_digits, .inl (c_t_digits, n_t_digits, .inl e_t_digits_o)), (a_t_counts, .inl (c_t_counts, n_t_counts, .inl e_t_counts_o)), (a_t_points, .inl (c_t_points, n_t_points, .inl e_t_points_o)), (a_t_limbs, .inl (c_t_limbs, n_t_limbs, .inl e_t_limbs_o)), (a_t_cells, .inl (c_t_cells, n_t_cells, .inr (.inl e_t_cells))), (a_t_lines, .inl (c_t_lines, n_t_lines, .inl e_t_lines_o)), (a_t_draft, .inl (c_t_draft, n_t_draft, .inl e_t_draft_o))] := by
  unfold f_Md_layout at h
  refine xM.mkI (cc := b_Md_layout) (maxL := 8)  (by decide +kernel) rfl (Nat.le_of_ble_eq_true rfl) ?_
  intro p e s m args below meth c A Q ls hx hb hml hown hts hNz hA hP hD hK hl hret
  have hS : va_S A s.heap s.heap [] := va_S.rf
  have hl : lv_has ls 8 [(0, .ref a_t), (1, .int x1)] := hl
  refine lv_aload_n hx hb d_Md_layout_0 rfl (lv_at hl 0 rfl) ?_
  refine lv_iload_n hx hb d_Md_layout_1 rfl (lv_at hl 1 rfl) ?_
  refine lv_iconst (v := 1) hx hb d_Md_layout_2 (by decide) ?_
  refine lv_bipush (v := 17) hx hb d_Md_layout_3 (by decide) ?_
  replace h := xob_s h
  obtain ⟨r_1, hc_2, h⟩ := h
  try dsimp only at h
  refine xcS (As := [.int x1, .int (1 : Int32), .int (17 : Int32)]) (rest := [.ref a_t]) (st1 := [.int r_1, .ref a_t]) (wr := [(a_t, .inr (8, [.int s_t_thrown, .int s_t_length, .ref a_t_text, .int s_t_place, .ref a_t_digits, .ref a_t_counts, .ref a_t_points, .ref a_t_limbs, .int s_t_limbCount, .int s_t_rows, .int s_t_columns, .ref a_t_cells, .int s_t_laid, .ref a_t_lines, .int s_t_size, .ref a_t_draft])), (a_t_digits, .inl (c_t_digits, n_t_digits, .inl e_t_digits)), (a_t_counts, .inl (c_t_counts, n_t_counts, .inl e_t_counts)), (a_t_points, .inl (c_t_points, n_t_points, .inl e_t_points)), (a_t_limbs, .inl (c_t_limbs, n_t_limbs, .inl e_t_limbs)), (a_t_cells, .inl (c_t_cells, n_t_cells, .inr (.inl e_t_cells))), (a_t_lines, .inl (c_t_lines, n_t_lines, .inl e_t_lines)), (a_t_draft, .inl (c_t_draft, n_t_draft, .inl e_t_draft))]) ⟨hx, hb, hml, hown, hts⟩ (c_Md_in l dC dI x1 (1 : Int32) (17 : Int32) r_1 hc_2) (⟨callB_of 3 hts (xgood g_765) rfl rfl rfl (hts _ g_10) (hts _ g_763) (by decide +kernel) ⟨Nat.le_of_ble_eq_true rfl, Nat.le_of_ble_eq_true rfl⟩, (hts _ g_764)⟩) hNz hA hP hD hS hK [] [0, 1, 2, 3, 4, 5, 6, 7] [] rfl rfl rfl rfl (by decide) rfl rfl rfl rfl hl.1 (Nat.le_of_ble_eq_true rfl) ⟨Nat.zero_le _, Nat.zero_le _⟩ d_Md_layout_5 (fun H locs hP hD hS => ?_)
  have hP : va_P (dC, dI) x_cl [(a_t, .inr (8, [.int s_t_thrown, .int s_t_length, .ref a_t_text, .int s_t_place, .ref a_t_digits, .ref a_t_counts, .ref a_t_points, .ref a_t_limbs, .int s_t_limbCount, .int s_t_rows, .int s_t_columns, .ref a_t_cells, .int s_t_laid, .ref a_t_lines, .int s_t_size, .ref a_t_draft])), (a_t_digits, .inl (c_t_digits, n_t_digits, .inl e_t_digits)), (a_t_counts, .inl (c_t_counts, n_t_counts, .inl e_t_counts)), (a_t_points, .inl (c_t_points, n_t_points, .inl e_t_points)), (a_t_limbs, .inl (c_t_limbs, n_t_limbs, .inl e_t_limbs)), (a_t_cells, .inl (c_t_cells, n_t_cells, .inr (.inl e_t_cells))), (a_t_lines, .inl (c_t_lines, n_t_lines, .inl e_t_lines)), (a_t_draft, .inl (c_t_draft, n_t_draft, .inl e_t_draft))] H := hP
  have hD : va_D A [(a_t, .inr (8, [.int s_t_thrown, .int s_t_length, .ref a_t_text, .int s_t_place, .ref a_t_digits, .ref a_t_counts, .ref a_t_points, .ref a_t_limbs, .int s_t_limbCount, .int s_t_rows, .int s_t_columns, .ref a_t_cells, .int s_t_laid, .ref a_t_lines, .int s_t_size, .ref a_t_draft])), (a_t_digits, .inl (c_t_digits, n_t_digits, .inl e_t_digits)), (a_t_counts, .inl (c_t_counts, n_t_counts, .inl e_t_counts)), (a_t_points, .inl (c_t_points, n_t_points, .inl e_t_points)), (a_t_limbs, .inl (c_t_limbs, n_t_limbs, .inl e_t_limbs)), (a_t_cells, .inl (c_t_cells, n_t_cells, .inr (.inl e_t_cells))), (a_t_lines, .inl (c_t_lines, n_t_lines, .inl e_t_lines)), (a_t_draft, .inl (c_t_draft, n_t_draft, .inl e_t_draft))] := hD
  replace h := xob_s h
  obtain ⟨⟨r_3, s_t_thrown_4⟩, hc_5, h⟩ := h
  try dsimp only at h
  refine xcV (As := [.int r_1]) (rest := []) (st1 := [.int r_3]) (wr := [(a_t_digits, .inl (c_t_digits, n_t_digits, .inl e_t_digits)), (a_t_counts, .inl (c_t_counts, n_t_counts, .inl e_t_counts)), (a_t_points, .inl (c_t_points, n_t_points, .inl e_t_points)), (a_t_limbs, .inl (c_t_limbs, n_t_limbs, .inl e_t_limbs)), (a_t_cells, .inl (c_t_cells, n_t_cells, .inr (.inl e_t_cells))), (a_t_lines, .inl (c_t_lines, n_t_lines, .inl e_t_lines)), (a_t_draft, .inl (c_t_draft, n_t_draft, .inl e_t_draft))]) ⟨hx, hb, hml, hown, hts⟩ (c_Md_goes l dC dI a_t a_t_text a_t_digits a_t_counts a_t_points a_t_limbs a_t_cells a_t_lines a_t_draft s_t_thrown s_t_length s_t_place s_t_limbCount s_t_rows s_t_columns s_t_laid s_t_size r_1 r_3 s_t_thrown_4 hc_5) (cwV 1 hts (xgoodV g_790 g_792 gp_22 g_10 g_793) rfl rfl rfl (by decide +kernel) ⟨Nat.le_of_ble_eq_true rfl, Nat.le_of_ble_eq_true rfl⟩) hNz (ci := 8) (q0 := 0) rfl rfl hA hP hD hS hK [0] [1, 2, 3, 4, 5, 6, 7] [] rfl rfl rfl rfl (by decide) rfl rfl rfl rfl hl.1 (Nat.le_of_ble_eq_true rfl) ⟨Nat.zero_le _, Nat.zero_le _⟩ d_Md_layout_8 (fun H locs hP hD hS => ?_)
  have hP : va_P (dC, dI) x_cl [(a_t_digits, .inl (c_t_digits, n_t_digits, .inl e_t_digits)), (a_t_counts, .inl (c_t_counts, n_t_counts, .inl e_t_counts)), (a_t_points, .inl (c_t_points, n_t_points, .inl e_t_points)), (a_t_limbs, .inl (c_t_limbs, n_t_limbs, .inl e_t_limbs)), (a_t_cells, .inl (c_t_cells, n_t_cells, .inr (.inl e_t_cells))), (a_t_lines, .inl (c_t_lines, n_t_lines, .inl e_t_lines)), (a_t_draft, .inl (c_t_draft, n_t_draft, .inl e_t_draft)), (a_t, .inr (8, [.int s_t_thrown_4, .int s_t_length, .ref a_t_text, .int s_t_place, .ref a_t_digits, .ref a_t_counts, .ref a_t_points, .ref a_t_limbs, .int s_t_limbCount, .int s_t_rows, .int s_t_columns, .ref a_t_cells, .int s_t_laid, .ref a_t_lines, .int s_t_size, .ref a_t_draft]))] H := hP
  have hD : va_D A [(a_t_digits, .inl (c_t_digits, n_t_digits, .inl e_t_digits)), (a_t_counts, .inl (c_t_counts, n_t_counts, .inl e_t_counts)), (a_t_points, .inl (c_t_points, n_t_points, .inl e_t_points)), (a_t_limbs, .inl (c_t_limbs, n_t_limbs, .inl e_t_limbs)), (a_t_cells, .inl (c_t_cells, n_t_cells, .inr (.inl e_t_cells))), (a_t_lines, .inl (c_t_lines, n_t_lines, .inl e_t_lines)), (a_t_draft, .inl (c_t_draft, n_t_draft, .inl e_t_draft)), (a_t, .inr (8, [.int s_t_thrown_4, .int s_t_length, .ref a_t_text, .int s_t_place, .ref a_t_digits, .ref a_t_counts, .ref a_t_points, .ref a_t_limbs, .int s_t_limbCount, .int s_t_rows, .int s_t_columns, .ref a_t_cells, .int s_t_laid, .ref a_t_lines, .int s_t_size, .ref a_t_draft]))] := hD
  refine lv_if_ne (tgt := 16) hx hb d_Md_layout_11 (by decide) (fun c_6 => ?_) (fun c_6 => ?_)
  · rw [if_neg c_6] at h
    refine lv_iconst (v := 0) hx hb d_Md_layout_16 (by decide) ?_
    refine lv_istore_n (lv' := [(2, .int (0 : Int32)), (0, .ref a_t), (1, .int x1)]) hx hb d_Md_layout_17 rfl hl (by decide) rfl (fun ls hl => ?_)
    refine lv_iconst (v := 0) hx hb d_Md_layout_18 (by decide) ?_
    refine lv_istore_n (lv' := [(3, .int (0 : Int32)), (2, .int (0 : Int32)), (0, .ref a_t), (1, .int x1)]) hx hb d_Md_layout_19 rfl hl (by decide) rfl (fun ls hl => ?_)
    replace h := xob_s h
    obtain ⟨⟨x2_17, s_t_limbCount_18, s_t_size_19, e_t_digits_20, e_t_counts_21, e_t_points_22, e_t_limbs_23, e_t_lines_24, e_t_draft_25⟩, hlp_26, h⟩ := h
    try dsimp only at h
    have hX_27 : ∀ (H : Heap) (locs : List Loc) (ls : Array Slot), va_P (dC, dI) x_cl [(a_t, .inr (8, [.int s_t_thrown_4, .int s_t_length, .ref a_t_text, .int s_t_place, .ref a_t_digits, .ref a_t_counts, .ref a_t_points, .ref a_t_limbs, .int s_t_limbCount_18, .int s_t_rows, .int s_t_columns, .ref a_t_cells, .int s_t_laid, .ref a_t_lines, .int s_t_size_19, .ref a_t_draft])), (a_t_digits, .inl (c_t_digits, n_t_digits, .inl e_t_digits_20)), (a_t_counts, .inl (c_t_counts, n_t_counts, .inl e_t_counts_21)), (a_t_points, .inl (c_t_points, n_t_points, .inl e_t_points_22)), (a_t_limbs, .inl (c_t_limbs, n_t_limbs, .inl e_t_limbs_23)), (a_t_cells, .inl (c_t_cells, n_t_cells, .inr (.inl e_t_cells))), (a_t_lines, .inl (c_t_lines, n_t_lines, .inl e_t_lines_24)), (a_t_draft, .inl (c_t_draft, n_t_draft, .inl e_t_draft_25))] H → va_D A [(a_t, .inr (8, [.int s_t_thrown_4, .int s_t_length, .ref a_t_text, .int s_t_place, .ref a_t_digits, .ref a_t_counts, .ref a_t_points, .ref a_t_limbs, .int s_t_limbCount_18, .int s_t_rows, .int s_t_columns, .ref a_t_cells, .int s_t_laid, .ref a_t_lines, .int s_t_size_19, .ref a_t_draft])), (a_t_digits, .inl (c_t_digits, n_t_digits, .inl e_t_digits_20)), (a_t_counts, .inl (c_t_counts, n_t_counts, .inl e_t_counts_21)), (a_t_points, .inl (c_t_points, n_t_points, .inl e_t_points_22)), (a_t_limbs, .inl (c_t_limbs, n_t_limbs, .inl e_t_limbs_23)), (a_t_cells, .inl (c_t_cells, n_t_cells, .inr (.inl e_t_cells))), (a_t_lines, .inl (c_t_lines, n_t_lines, .inl e_t_lines_24)), (a_t_draft, .inl (c_t_draft, n_t_draft, .inl e_t_draft_25))] → va_S A s.heap H locs → lv_has ls 8 [(0, .ref a_t), (2, .int x2_17)] → W p l e rm_Md_layout s m args below meth c H locs 0 0 Q (F0 m 266 ls []) := by
      intro H locs ls hP hD hS hl
      refine lv_aload_n hx hb d_Md_layout_266 rfl (lv_at hl 0 rfl) ?_
      refine lv_iload_n hx hb d_Md_layout_267 rfl (lv_at hl 1 rfl) ?_
      refine va_put (D := (dC, dI)) (ci := 8) (v := .int x2_17) (ty := .int) (C := R_Md) (T := T_Md) (N := 16) hx hb hts in_Md ty_Md tyok_Md nn_Md hown hK hP hD hS 0 rfl rfl 12 (by decide) (hts _ g_718) (fun _ h9 => h9) rfl (by decide +kernel) rfl rfl (Nat.le_of_ble_eq_true rfl) d_Md_layout_268 (fun H locs hP hD hS => ?_)
      have hP : va_P (dC, dI) x_cl [(a_t, .inr (8, [.int s_t_thrown_4, .int s_t_length, .ref a_t_text, .int s_t_place, .ref a_t_digits, .ref a_t_counts, .ref a_t_points, .ref a_t_limbs, .int s_t_limbCount_18, .int s_t_rows, .int s_t_columns, .ref a_t_cells, .int x2_17, .ref a_t_lines, .int s_t_size_19, .ref a_t_draft])), (a_t_digits, .inl (c_t_digits, n_t_digits, .inl e_t_digits_20)), (a_t_counts, .inl (c_t_counts, n_t_counts, .inl e_t_counts_21)), (a_t_points, .inl (c_t_points, n_t_points, .inl e_t_points_22)), (a_t_limbs, .inl (c_t_limbs, n_t_limbs, .inl e_t_limbs_23)), (a_t_cells, .inl (c_t_cells, n_t_cells, .inr (.inl e_t_cells))), (a_t_lines, .inl (c_t_lines, n_t_lines, .inl e_t_lines_24)), (a_t_draft, .inl (c_t_draft, n_t_draft, .inl e_t_draft_25))] H := hP
      have hD : va_D A [(a_t, .inr (8, [.int s_t_thrown_4, .int s_t_length, .ref a_t_text, .int s_t_place, .ref a_t_digits, .ref a_t_counts, .ref a_t_points, .ref a_t_limbs, .int s_t_limbCount_18, .int s_t_rows, .int s_t_columns, .ref a_t_cells, .int x2_17, .ref a_t_lines, .int s_t_size_19, .ref a_t_draft])), (a_t_digits, .inl (c_t_digits, n_t_digits, .inl e_t_digits_20)), (a_t_counts, .inl (c_t_counts, n_t_counts, .inl e_t_counts_21)), (a_t_points, .inl (c_t_points, n_t_points, .inl e_t_points_22)), (a_t_limbs, .inl (c_t_limbs, n_t_limbs, .inl e_t_limbs_23)), (a_t_cells, .inl (c_t_cells, n_t_cells, .inr (.inl e_t_cells))), (a_t_lines, .inl (c_t_lines, n_t_lines, .inl e_t_lines_24)), (a_t_draft, .inl (c_t_draft, n_t_draft, .inl e_t_draft_25))] := hD
      refine lv_aload_n hx hb d_Md_layout_271 rfl (lv_at hl 0 rfl) ?_
      refine va_get (D := (dC, dI)) (ci := 8) (v := .int x2_17) (C := R_Md) (T := T_Md) (N := 16) hx hb hts in_Md hown hK hP 0 rfl rfl 12 (by decide) (hts _ g_718) (fun _ h9 => h9) rfl d_Md_layout_272 ?_
      replace h := Option.some.inj h
      replace h := Prod.mk.inj h
      obtain ⟨h1, h⟩ := h
      subst h1
      replace h := Prod.mk.inj h
      obtain ⟨h1, h⟩ := h
      subst h1
      replace h := Prod.mk.inj h
      obtain ⟨h1, h⟩ := h
      subst h1
      replace h := Prod.mk.inj h
      obtain ⟨h1, h⟩ := h
      subst h1
      replace h := Prod.mk.inj h
      obtain ⟨h1, h⟩ := h
      subst h1
      replace h := Prod.mk.inj h
      obtain ⟨h1, h⟩ := h
      subst h1
      replace h := Prod.mk.inj h
      obtain ⟨h1, h⟩ := h
      subst h1
      replace h := Prod.mk.inj h
      obtain ⟨h1, h⟩ := h
      subst h1
      replace h := Prod.mk.inj h
      obtain ⟨h1, h⟩ := h
      subst h1
      replace h := Prod.mk.inj h
      obtain ⟨h1, h⟩ := h
      subst h1
      subst h
      exact hret _ _ hP hD hS _ _ d_Md_layout_275
    clear h
    have hL_28 : ∀ (n_ : Nat) (x2_7 : Int32) (x3_8 : Int32) (s_t_limbCount_9 : Int32) (s_t_size_10 : Int32) (e_t_digits_11 : Nat → Int32) (e_t_counts_12 : Nat → Int32) (e_t_points_13 : Nat → Int32) (e_t_limbs_14 : Nat → Int32) (e_t_lines_15 : Nat → Int32) (e_t_draft_16 : Nat → Int32) (H : Heap) (locs : List Loc) (ls : Array Slot), lp_Md_layout_20 x1 s_t_thrown_4 s_t_length s_t_place s_t_rows s_t_columns s_t_laid e_t_cells n_t_digits n_t_counts n_t_points n_t_limbs n_t_cells n_t_lines n_t_draft n_ x2_7 x3_8 s_t_limbCount_9 s_t_size_10 e_t_digits_11 e_t_counts_12 e_t_points_13 e_t_limbs_14 e_t_lines_15 e_t_draft_16 = some (x2_17, s_t_limbCount_18, s_t_size_19, e_t_digits_20, e_t_counts_21, e_t_points_22, e_t_limbs_23, e_t_lines_24, e_t_draft_25) → va_P (dC, dI) x_cl [(a_t, .inr (8, [.int s_t_thrown_4, .int s_t_length, .ref a_t_text, .int s_t_place, .ref a_t_digits, .ref a_t_counts, .ref a_t_points, .ref a_t_limbs, .int s_t_limbCount_9, .int s_t_rows, .int s_t_columns, .ref a_t_cells, .int s_t_laid, .ref a_t_lines, .int s_t_size_10, .ref a_t_draft])), (a_t_digits, .inl (c_t_digits, n_t_digits, .inl e_t_digits_11)), (a_t_counts, .inl (c_t_counts, n_t_counts, .inl e_t_counts_12)), (a_t_points, .inl (c_t_points, n_t_points, .inl e_t_points_13)), (a_t_limbs, .inl (c_t_limbs, n_t_limbs, .inl e_t_limbs_14)), (a_t_cells, .inl (c_t_cells, n_t_cells, .inr (.inl e_t_cells))), (a_t_lines, .inl (c_t_lines, n_t_lines, .inl e_t_lines_15)), (a_t_draft, .inl (c_t_draft, n_t_draft, .inl e_t_draft_16))] H → va_D A [(a_t, .inr (8, [.int s_t_thrown_4, .int s_t_length, .ref a_t_text, .int s_t_place, .ref a_t_digits, .ref a_t_counts, .ref a_t_points, .ref a_t_limbs, .int s_t_limbCount_9, .int s_t_rows, .int s_t_columns, .ref a_t_cells, .int s_t_laid, .ref a_t_lines, .int s_t_size_10, .ref a_t_draft])), (a_t_digits, .inl (c_t_digits, n_t_digits, .inl e_t_digits_11)), (a_t_counts, .inl (c_t_counts, n_t_counts, .inl e_t_counts_12)), (a_t_points, .inl (c_t_points, n_t_points, .inl e_t_points_13)), (a_t_limbs, .inl (c_t_limbs, n_t_limbs, .inl e_t_limbs_14)), (a_t_cells, .inl (c_t_cells, n_t_cells, .inr (.inl e_t_cells))), (a_t_lines, .inl (c_t_lines, n_t_lines, .inl e_t_lines_15)), (a_t_draft, .inl (c_t_draft, n_t_draft, .inl e_t_draft_16))] → va_S A s.heap H locs → lv_has ls 8 [(0, .ref a_t), (1, .int x1), (2, .int x2_7), (3, .int x3_8)] → W p l e rm_Md_layout s m args below meth c H locs 0 0 Q (F0 m 20 ls []) := by
      intro n_
      induction n_ with
      | zero => intro x2_7 x3_8 s_t_limbCount_9 s_t_size_10 e_t_digits_11 e_t_counts_12 e_t_points_13 e_t_limbs_14 e_t_lines_15 e_t_draft_16 H locs ls h; cases h
      | succ n_ ih =>
        intro x2_7 x3_8 s_t_limbCount_9 s_t_size_10 e_t_digits_11 e_t_counts_12 e_t_points_13 e_t_limbs_14 e_t_lines_15 e_t_draft_16 H locs ls h hP hD hS hl
        rw [lp_Md_layout_20] at h
        refine lv_iload_n hx hb d_Md_layout_20 rfl (lv_at hl 3 rfl) ?_
        refine lv_aload_n hx hb d_Md_layout_21 rfl (lv_at hl 0 rfl) ?_
        refine va_get (D := (dC, dI)) (ci := 8) (v := .int s_t_columns) (C := R_Md) (T := T_Md) (N := 16) hx hb hts in_Md hown hK hP 0 rfl rfl 10 (by decide) (hts _ g_716) (fun _ h9 => h9) rfl d_Md_layout_22 ?_
        refine lv_icmp_ge (tgt := 266) hx hb d_Md_layout_25 (by decide) (fun c_29 => ?_) (fun c_29 => ?_)
        · rw [if_pos c_29] at h
          replace h := Option.some.inj h
          replace h := Prod.mk.inj h
          obtain ⟨h1, h⟩ := h
          subst h1
          replace h := Prod.mk.inj h
          obtain ⟨h1, h⟩ := h
          subst h1
          replace h := Prod.mk.inj h
          obtain ⟨h1, h⟩ := h
          subst h1
          replace h := Prod.mk.inj h
          obtain ⟨h1, h⟩ := h
          subst h1
          replace h := Prod.mk.inj h
          obtain ⟨h1, h⟩ := h
          subst h1
          replace h := Prod.mk.inj h
          obtain ⟨h1, h⟩ := h
          subst h1
          replace h := Prod.mk.inj h
          obtain ⟨h1, h⟩ := h
          subst h1
          replace h := Prod.mk.inj h
          obtain ⟨h1, h⟩ := h
          subst h1
          subst h
          exact hX_27 _ _ _ hP hD hS (lv_sub hl [0, 2] rfl)
        · rw [if_neg c_29] at h
          refine lv_iload_n hx hb d_Md_layout_28 rfl (lv_at hl 3 rfl) ?_
          replace h := xob_s h
          obtain ⟨⟨x2_30, e_t_lines_31⟩, hj_32, h⟩ := h
          try dsimp only at h
          have hJ_33 : ∀ (H : Heap) (locs : List Loc) (ls : Array Slot), va_P (dC, dI) x_cl [(a_t, .inr (8, [.int s_t_thrown_4, .int s_t_length, .ref a_t_text, .int s_t_place, .ref a_t_digits, .ref a_t_counts, .ref a_t_points, .ref a_t_limbs, .int s_t_limbCount_9, .int s_t_rows, .int s_t_columns, .ref a_t_cells, .int s_t_laid, .ref a_t_lines, .int s_t_size_10, .ref a_t_draft])), (a_t_digits, .inl (c_t_digits, n_t_digits, .inl e_t_digits_11)), (a_t_counts, .inl (c_t_counts, n_t_counts, .inl e_t_counts_12)), (a_t_points, .inl (c_t_points, n_t_points, .inl e_t_points_13)), (a_t_limbs, .inl (c_t_limbs, n_t_limbs, .inl e_t_limbs_14)), (a_t_cells, .inl (c_t_cells, n_t_cells, .inr (.inl e_t_cells))), (a_t_lines, .inl (c_t_lines, n_t_lines, .inl e_t_lines_31)), (a_t_draft, .inl (c_t_draft, n_t_draft, .inl e_t_draft_16))] H → va_D A [(a_t, .inr (8, [.int s_t_thrown_4, .int s_t_length, .ref a_t_text, .int s_t_place, .ref a_t_digits, .ref a_t_counts, .ref a_t_points, .ref a_t_limbs, .int s_t_limbCount_9, .int s_t_rows, .int s_t_columns, .ref a_t_cells, .int s_t_laid, .ref a_t_lines, .int s_t_size_10, .ref a_t_draft])), (a_t_digits, .inl (c_t_digits, n_t_digits, .inl e_t_digits_11)), (a_t_counts, .inl (c_t_counts, n_t_counts, .inl e_t_counts_12)), (a_t_points, .inl (c_t_points, n_t_points, .inl e_t_points_13)), (a_t_limbs, .inl (c_t_limbs, n_t_limbs, .inl e_t_limbs_14)), (a_t_cells, .inl (c_t_cells, n_t_cells, .inr (.inl e_t_cells))), (a_t_lines, .inl (c_t_lines, n_t_lines, .inl e_t_lines_31)), (a_t_draft, .inl (c_t_draft, n_t_draft, .inl e_t_draft_16))] → va_S A s.heap H locs → lv_has ls 8 [(0, .ref a_t), (1, .int x1), (2, .int x2_30), (3, .int x3_8)] → W p l e rm_Md_layout s m args below meth c H locs 0 0 Q (F0 m 86 ls []) := by
            intro H locs ls hP hD hS hl
            refine lv_aload_n hx hb d_Md_layout_86 rfl (lv_at hl 0 rfl) ?_
            refine lv_iload_n hx hb d_Md_layout_87 rfl (lv_at hl 3 rfl) ?_
            refine lv_iload_n hx hb d_Md_layout_88 rfl (lv_at hl 1 rfl) ?_
            replace h := xob_s h
            obtain ⟨⟨r_34, s_t_limbCount_35, e_t_digits_36, e_t_counts_37, e_t_points_38, e_t_limbs_39⟩, hc_40, h⟩ := h
            try dsimp only at h
            refine xcV (As := [.int x3_8, .int x1]) (rest := []) (st1 := [.int r_34]) (wr := [(a_t_lines, .inl (c_t_lines, n_t_lines, .inl e_t_lines_31)), (a_t_draft, .inl (c_t_draft, n_t_draft, .inl e_t_draft_16))]) ⟨hx, hb, hml, hown, hts⟩ (c_Md_placesOf l dC dI a_t a_t_text a_t_digits a_t_counts a_t_points a_t_limbs a_t_cells a_t_lines a_t_draft c_t_digits c_t_counts c_t_points c_t_limbs c_t_cells n_t_digits n_t_counts n_t_points n_t_limbs n_t_cells s_t_thrown_4 s_t_length s_t_place s_t_limbCount_9 s_t_rows s_t_columns s_t_laid s_t_size_10 e_t_digits_11 e_t_counts_12 e_t_points_13 e_t_limbs_14 e_t_cells x3_8 x1 r_34 s_t_limbCount_35 e_t_digits_36 e_t_counts_37 e_t_points_38 e_t_limbs_39 hc_40) (cwV 2 hts (xgoodV g_936 g_938 gp_46 g_10 g_939) rfl rfl rfl (by decide +kernel) ⟨Nat.le_of_ble_eq_true rfl, Nat.le_of_ble_eq_true rfl⟩) hNz (ci := 8) (q0 := 0) rfl rfl hA hP hD hS hK [0, 1, 2, 3, 4, 5] [6, 7] [0, 1, 2, 3, 4] rfl rfl rfl rfl (by decide) rfl rfl rfl rfl hl.1 (Nat.le_of_ble_eq_true rfl) ⟨Nat.zero_le _, Nat.zero_le _⟩ d_Md_layout_89 (fun H locs hP hD hS => ?_)
            have hP : va_P (dC, dI) x_cl [(a_t_lines, .inl (c_t_lines, n_t_lines, .inl e_t_lines_31)), (a_t_draft, .inl (c_t_draft, n_t_draft, .inl e_t_draft_16)), (a_t, .inr (8, [.int s_t_thrown_4, .int s_t_length, .ref a_t_text, .int s_t_place, .ref a_t_digits, .ref a_t_counts, .ref a_t_points, .ref a_t_limbs, .int s_t_limbCount_35, .int s_t_rows, .int s_t_columns, .ref a_t_cells, .int s_t_laid, .ref a_t_lines, .int s_t_size_10, .ref a_t_draft])), (a_t_digits, .inl (c_t_digits, n_t_digits, .inl e_t_digits_36)), (a_t_counts, .inl (c_t_counts, n_t_counts, .inl e_t_counts_37)), (a_t_points, .inl (c_t_points, n_t_points, .inl e_t_points_38)), (a_t_limbs, .inl (c_t_limbs, n_t_limbs, .inl e_t_limbs_39)), (a_t_cells, .inl (c_t_cells, n_t_cells, .inr (.inl e_t_cells)))] H := hP
            have hD : va_D A [(a_t_lines, .inl (c_t_lines, n_t_lines, .inl e_t_lines_31)), (a_t_draft, .inl (c_t_draft, n_t_draft, .inl e_t_draft_16)), (a_t, .inr (8, [.int s_t_thrown_4, .int s_t_length, .ref a_t_text, .int s_t_place, .ref a_t_digits, .ref a_t_counts, .ref a_t_points, .ref a_t_limbs, .int s_t_limbCount_35, .int s_t_rows, .int s_t_columns, .ref a_t_cells, .int s_t_laid, .ref a_t_lines, .int s_t_size_10, .ref a_t_draft])), (a_t_digits, .inl (c_t_digits, n_t_digits, .inl e_t_digits_36)), (a_t_counts, .inl (c_t_counts, n_t_counts, .inl e_t_counts_37)), (a_t_points, .inl (c_t_points, n_t_points, .inl e_t_points_38)), (a_t_limbs, .inl (c_t_limbs, n_t_limbs, .inl e_t_limbs_39)), (a_t_cells, .inl (c_t_cells, n_t_cells, .inr (.inl e_t_cells)))] := hD
            refine lv_istore (lv' := [(4, .int r_34), (0, .ref a_t), (1, .int x1), (2, .int x2_30), (3, .int x3_8)]) hx hb d_Md_layout_92 hl (by decide) rfl (fun ls hl => ?_)
            refine lv_iconst (v := 0) hx hb d_Md_layout_94 (by decide) ?_
            refine lv_istore (lv' := [(5, .int (0 : Int32)), (4, .int r_34), (0, .ref a_t), (1, .int x1), (2, .int x2_30), (3, .int x3_8)]) hx hb d_Md_layout_95 hl (by decide) rfl (fun ls hl => ?_)
            refine lv_iconst (v := 0) hx hb d_Md_layout_97 (by decide) ?_
            refine lv_istore (lv' := [(6, .int (0 : Int32)), (5, .int (0 : Int32)), (4, .int r_34), (0, .ref a_t), (1, .int x1), (2, .int x2_30), (3, .int x3_8)]) hx hb d_Md_layout_98 hl (by decide) rfl (fun ls hl => ?_)
            replace h := xob_s h
            obtain ⟨⟨x5_50, s_t_limbCount_51, s_t_size_52, e_t_digits_53, e_t_counts_54, e_t_points_55, e_t_limbs_56, e_t_draft_57⟩, hlp_58, h⟩ := h
            try dsimp only at h
            have hX_59 : ∀ (H : Heap) (locs : List Loc) (ls : Array Slot), va_P (dC, dI) x_cl [(a_t, .inr (8, [.int s_t_thrown_4, .int s_t_length, .ref a_t_text, .int s_t_place, .ref a_t_digits, .ref a_t_counts, .ref a_t_points, .ref a_t_limbs, .int s_t_limbCount_51, .int s_t_rows, .int s_t_columns, .ref a_t_cells, .int s_t_laid, .ref a_t_lines, .int s_t_size_52, .ref a_t_draft])), (a_t_digits, .inl (c_t_digits, n_t_digits, .inl e_t_digits_53)), (a_t_counts, .inl (c_t_counts, n_t_counts, .inl e_t_counts_54)), (a_t_points, .inl (c_t_points, n_t_points, .inl e_t_points_55)), (a_t_limbs, .inl (c_t_limbs, n_t_limbs, .inl e_t_limbs_56)), (a_t_cells, .inl (c_t_cells, n_t_cells, .inr (.inl e_t_cells))), (a_t_lines, .inl (c_t_lines, n_t_lines, .inl e_t_lines_31)), (a_t_draft, .inl (c_t_draft, n_t_draft, .inl e_t_draft_57))] H → va_D A [(a_t, .inr (8, [.int s_t_thrown_4, .int s_t_length, .ref a_t_text, .int s_t_place, .ref a_t_digits, .ref a_t_counts, .ref a_t_points, .ref a_t_limbs, .int s_t_limbCount_51, .int s_t_rows, .int s_t_columns, .ref a_t_cells, .int s_t_laid, .ref a_t_lines, .int s_t_size_52, .ref a_t_draft])), (a_t_digits, .inl (c_t_digits, n_t_digits, .inl e_t_digits_53)), (a_t_counts, .inl (c_t_counts, n_t_counts, .inl e_t_counts_54)), (a_t_points, .inl (c_t_points, n_t_points, .inl e_t_points_55)), (a_t_limbs, .inl (c_t_limbs, n_t_limbs, .inl e_t_limbs_56)), (a_t_cells, .inl (c_t_cells, n_t_cells, .inr (.inl e_t_cells))), (a_t_lines, .inl (c_t_lines, n_t_lines, .inl e_t_lines_31)), (a_t_draft, .inl (c_t_draft, n_t_draft, .inl e_t_draft_57))] → va_S A s.heap H locs → lv_has ls 8 [(0, .ref a_t), (1, .int x1), (2, .int x2_30), (3, .int x3_8), (4, .int r_34), (5, .int x5_50)] → W p l e rm_Md_layout s m args below meth c H locs 0 0 Q (F0 m 154 ls []) := by
              intro H locs ls hP hD hS hl
              refine lv_iconst (v := 0) hx hb d_Md_layout_154 (by decide) ?_
              refine lv_istore (lv' := [(6, .int (0 : Int32)), (0, .ref a_t), (1, .int x1), (2, .int x2_30), (3, .int x3_8), (4, .int r_34), (5, .int x5_50)]) hx hb d_Md_layout_155 hl (by decide) rfl (fun ls hl => ?_)
              replace h := xob_s h
              obtain ⟨⟨s_t_limbCount_70, s_t_size_71, e_t_digits_72, e_t_counts_73, e_t_points_74, e_t_limbs_75, e_t_lines_76, e_t_draft_77⟩, hlp_78, h⟩ := h
              try dsimp only at h
              have hX_79 : ∀ (H : Heap) (locs : List Loc) (ls : Array Slot), va_P (dC, dI) x_cl [(a_t, .inr (8, [.int s_t_thrown_4, .int s_t_length, .ref a_t_text, .int s_t_place, .ref a_t_digits, .ref a_t_counts, .ref a_t_points, .ref a_t_limbs, .int s_t_limbCount_70, .int s_t_rows, .int s_t_columns, .ref a_t_cells, .int s_t_laid, .ref a_t_lines, .int s_t_size_71, .ref a_t_draft])), (a_t_digits, .inl (c_t_digits, n_t_digits, .inl e_t_digits_72)), (a_t_counts, .inl (c_t_counts, n_t_counts, .inl e_t_counts_73)), (a_t_points, .inl (c_t_points, n_t_points, .inl e_t_points_74)), (a_t_limbs, .inl (c_t_limbs, n_t_limbs, .inl e_t_limbs_75)), (a_t_cells, .inl (c_t_cells, n_t_cells, .inr (.inl e_t_cells))), (a_t_lines, .inl (c_t_lines, n_t_lines, .inl e_t_lines_76)), (a_t_draft, .inl (c_t_draft, n_t_draft, .inl e_t_draft_77))] H → va_D A [(a_t, .inr (8, [.int s_t_thrown_4, .int s_t_length, .ref a_t_text, .int s_t_place, .ref a_t_digits, .ref a_t_counts, .ref a_t_points, .ref a_t_limbs, .int s_t_limbCount_70, .int s_t_rows, .int s_t_columns, .ref a_t_cells, .int s_t_laid, .ref a_t_lines, .int s_t_size_71, .ref a_t_draft])), (a_t_digits, .inl (c_t_digits, n_t_digits, .inl e_t_digits_72)), (a_t_counts, .inl (c_t_counts, n_t_counts, .inl e_t_counts_73)), (a_t_points, .inl (c_t_points, n_t_points, .inl e_t_points_74)), (a_t_limbs, .inl (c_t_limbs, n_t_limbs, .inl e_t_limbs_75)), (a_t_cells, .inl (c_t_cells, n_t_cells, .inr (.inl e_t_cells))), (a_t_lines, .inl (c_t_lines, n_t_lines, .inl e_t_lines_76)), (a_t_draft, .inl (c_t_draft, n_t_draft, .inl e_t_draft_77))] → va_S A s.heap H locs → lv_has ls 8 [(0, .ref a_t), (1, .int x1), (2, .int x2_30), (3, .int x3_8), (5, .int x5_50)] → W p l e rm_Md_layout s m args below meth c H locs 0 0 Q (F0 m 255 ls []) := by
                intro H locs ls hP hD hS hl
                refine lv_iload_n hx hb d_Md_layout_255 rfl (lv_at hl 2 rfl) ?_
                refine lv_iload hx hb d_Md_layout_256 (lv_at hl 4 rfl) ?_
                refine lv_iadd hx hb d_Md_layout_258 ?_
                replace h := xnm_s h
                obtain ⟨x2_81, ex2_81, h⟩ := h
                refine x_topi ex2_81 ?_
                refine lv_istore_n (lv' := [(2, .int x2_81), (0, .ref a_t), (1, .int x1), (3, .int x3_8), (5, .int x5_50)]) hx hb d_Md_layout_259 rfl hl (by decide) rfl (fun ls hl => ?_)
                replace h := xnm_s h
                obtain ⟨x3_82, ex3_82, h⟩ := h
                refine lv_iinc (v := x3_82) (lv' := [(3, .int x3_82), (2, .int x2_81), (0, .ref a_t), (1, .int x1), (5, .int x5_50)]) hx hb d_Md_layout_260 hl (k := 3) rfl (by rw [← ex3_82]; rfl) (by decide) rfl (fun ls hl => ?_)
                refine lv_goto (tgt := 20) hx hb d_Md_layout_263 (by decide) ?_
                exact ih _ _ _ _ _ _ _ _ _ _ _ _ _ h hP hD hS (lv_sub hl [2, 3, 1, 0] rfl)
              clear h
              have hL_80 : ∀ (n_ : Nat) (x6_61 : Int32) (s_t_limbCount_62 : Int32) (s_t_size_63 : Int32) (e_t_digits_64 : Nat → Int32) (e_t_counts_65 : Nat → Int32) (e_t_points_66 : Nat → Int32) (e_t_limbs_67 : Nat → Int32) (e_t_lines_68 : Nat → Int32) (e_t_draft_69 : Nat → Int32) (H : Heap) (locs : List Loc) (ls : Array Slot), lp_Md_layout_157 x1 x2_30 x3_8 r_34 x5_50 s_t_thrown_4 s_t_length s_t_place s_t_rows s_t_columns s_t_laid e_t_cells n_t_digits n_t_counts n_t_points n_t_limbs n_t_cells n_t_lines n_t_draft n_ x6_61 s_t_limbCount_62 s_t_size_63 e_t_digits_64 e_t_counts_65 e_t_points_66 e_t_limbs_67 e_t_lines_68 e_t_draft_69 = some (s_t_limbCount_70, s_t_size_71, e_t_digits_72, e_t_counts_73, e_t_points_74, e_t_limbs_75, e_t_lines_76, e_t_draft_77) → va_P (dC, dI) x_cl [(a_t, .inr (8, [.int s_t_thrown_4, .int s_t_length, .ref a_t_text, .int s_t_place, .ref a_t_digits, .ref a_t_counts, .ref a_t_points, .ref a_t_limbs, .int s_t_limbCount_62, .int s_t_rows, .int s_t_columns, .ref a_t_cells, .int s_t_laid, .ref a_t_lines, .int s_t_size_63, .ref a_t_draft])), (a_t_digits, .inl (c_t_digits, n_t_digits, .inl e_t_digits_64)), (a_t_counts, .inl (c_t_counts, n_t_counts, .inl e_t_counts_65)), (a_t_points, .inl (c_t_points, n_t_points, .inl e_t_points_66)), (a_t_limbs, .inl (c_t_limbs, n_t_limbs, .inl e_t_limbs_67)), (a_t_cells, .inl (c_t_cells, n_t_cells, .inr (.inl e_t_cells))), (a_t_lines, .inl (c_t_lines, n_t_lines, .inl e_t_lines_68)), (a_t_draft, .inl (c_t_draft, n_t_draft, .inl e_t_draft_69))] H → va_D A [(a_t, .inr (8, [.int s_t_thrown_4, .int s_t_length, .ref a_t_text, .int s_t_place, .ref a_t_digits, .ref a_t_counts, .ref a_t_points, .ref a_t_limbs, .int s_t_limbCount_62, .int s_t_rows, .int s_t_columns, .ref a_t_cells, .int s_t_laid, .ref a_t_lines, .int s_t_size_63, .ref a_t_draft])), (a_t_digits, .inl (c_t_digits, n_t_digits, .inl e_t_digits_64)), (a_t_counts, .inl (c_t_counts, n_t_counts, .inl e_t_counts_65)), (a_t_points, .inl (c_t_points, n_t_points, .inl e_t_points_66)), (a_t_limbs, .inl (c_t_limbs, n_t_limbs, .inl e_t_limbs_67)), (a_t_cells, .inl (c_t_cells, n_t_cells, .inr (.inl e_t_cells))), (a_t_lines, .inl (c_t_lines, n_t_lines, .inl e_t_lines_68)), (a_t_draft, .inl (c_t_draft, n_t_draft, .inl e_t_draft_69))] → va_S A s.heap H locs → lv_has ls 8 [(0, .ref a_t), (1, .int x1), (2, .int x2_30), (3, .int x3_8), (4, .int r_34), (5, .int x5_50), (6, .int x6_61)] → W p l e rm_Md_layout s m args below meth c H locs 0 0 Q (F0 m 157 ls []) := by
                intro n_
                induction n_ with
                | zero => intro x6_61 s_t_limbCount_62 s_t_size_63 e_t_digits_64 e_t_counts_65 e_t_points_66 e_t_limbs_67 e_t_lines_68 e_t_draft_69 H locs ls h; cases h
                | succ n_ ih =>
                  intro x6_61 s_t_limbCount_62 s_t_size_63 e_t_digits_64 e_t_counts_65 e_t_points_66 e_t_limbs_67 e_t_lines_68 e_t_draft_69 H locs ls h hP hD hS hl
                  rw [lp_Md_layout_157] at h
                  refine lv_iload hx hb d_Md_layout_157 (lv_at hl 6 rfl) ?_
                  refine lv_aload_n hx hb d_Md_layout_159 rfl (lv_at hl 0 rfl) ?_
                  refine va_get (D := (dC, dI)) (ci := 8) (v := .int s_t_rows) (C := R_Md) (T := T_Md) (N := 16) hx hb hts in_Md hown hK hP 0 rfl rfl 9 (by decide) (hts _ g_715) (fun _ h9 => h9) rfl d_Md_layout_160 ?_
                  refine lv_icmp_ge (tgt := 255) hx hb d_Md_layout_163 (by decide) (fun c_83 => ?_) (fun c_83 => ?_)
                  · rw [if_pos c_83] at h
                    replace h := Option.some.inj h
                    replace h := Prod.mk.inj h
                    obtain ⟨h1, h⟩ := h
                    subst h1
                    replace h := Prod.mk.inj h
                    obtain ⟨h1, h⟩ := h
                    subst h1
                    replace h := Prod.mk.inj h
                    obtain ⟨h1, h⟩ := h
                    subst h1
                    replace h := Prod.mk.inj h
                    obtain ⟨h1, h⟩ := h
                    subst h1
                    replace h := Prod.mk.inj h
                    obtain ⟨h1, h⟩ := h
                    subst h1
                    replace h := Prod.mk.inj h
                    obtain ⟨h1, h⟩ := h
                    subst h1
                    replace h := Prod.mk.inj h
                    obtain ⟨h1, h⟩ := h
                    subst h1
                    subst h
                    exact hX_79 _ _ _ hP hD hS (lv_sub hl [0, 1, 2, 3, 5] rfl)
                  · rw [if_neg c_83] at h
                    refine lv_aload_n hx hb d_Md_layout_166 rfl (lv_at hl 0 rfl) ?_
                    refine lv_aload_n hx hb d_Md_layout_167 rfl (lv_at hl 0 rfl) ?_
                    refine va_get (D := (dC, dI)) (ci := 8) (v := .ref a_t_cells) (C := R_Md) (T := T_Md) (N := 16) hx hb hts in_Md hown hK hP 0 rfl rfl 11 (by decide) (hts _ g_717) (fun _ h9 => h9) rfl d_Md_layout_168 ?_
                    refine lv_bipush (v := 8) hx hb d_Md_layout_171 (by decide) ?_
                    refine lv_iload hx hb d_Md_layout_173 (lv_at hl 6 rfl) ?_
                    refine lv_imul hx hb d_Md_layout_175 ?_
                    refine lv_iload_n hx hb d_Md_layout_176 rfl (lv_at hl 3 rfl) ?_
                    refine lv_iadd hx hb d_Md_layout_177 ?_
                    replace h := xg h
                    obtain ⟨hg_84, h⟩ := h
                    refine va_lald hx hb hK hP 5 4 rfl rfl hg_84 d_Md_layout_178 ?_
                    refine lv_iload_n hx hb d_Md_layout_179 rfl (lv_at hl 1 rfl) ?_
                    refine lv_iload hx hb d_Md_layout_180 (lv_at hl 4 rfl) ?_
                    replace h := xob_s h
                    obtain ⟨⟨s_t_limbCount_85, s_t_size_86, e_t_digits_87, e_t_counts_88, e_t_points_89, e_t_limbs_90, e_t_draft_91⟩, hc_92, h⟩ := h
                    try dsimp only at h
                    refine xcV (As := [.long (e_t_cells (((8 : Int32) * x6_61) + x3_8).toNatClampNeg), .int x1, .int r_34]) (rest := []) (st1 := []) (wr := [(a_t_cells, .inl (c_t_cells, n_t_cells, .inr (.inl e_t_cells))), (a_t_lines, .inl (c_t_lines, n_t_lines, .inl e_t_lines_68))]) ⟨hx, hb, hml, hown, hts⟩ (c_Md_cell l dC dI a_t a_t_text a_t_digits a_t_counts a_t_points a_t_limbs a_t_cells a_t_lines a_t_draft c_t_digits c_t_counts c_t_points c_t_limbs c_t_draft n_t_digits n_t_counts n_t_points n_t_limbs n_t_draft s_t_thrown_4 s_t_length s_t_place s_t_limbCount_62 s_t_rows s_t_columns s_t_laid s_t_size_63 e_t_digits_64 e_t_counts_65 e_t_points_66 e_t_limbs_67 e_t_draft_69 (e_t_cells (((8 : Int32) * x6_61) + x3_8).toNatClampNeg) x1 r_34 s_t_limbCount_85 s_t_size_86 e_t_digits_87 e_t_counts_88 e_t_points_89 e_t_limbs_90 e_t_draft_91 hc_92) (cwV 3 hts (xgoodV g_943 g_945 gp_47 g_10 g_946) rfl rfl rfl (by decide +kernel) ⟨Nat.le_of_ble_eq_true rfl, Nat.le_of_ble_eq_true rfl⟩) hNz (ci := 8) (q0 := 0) rfl rfl hA hP hD hS hK [0, 1, 2, 3, 4, 7] [5, 6] [0, 1, 2, 3, 6] rfl rfl rfl rfl (by decide) rfl rfl rfl rfl hl.1 (Nat.le_of_ble_eq_true rfl) ⟨Nat.zero_le _, Nat.zero_le _⟩ d_Md_layout_182 (fun H locs hP hD hS => ?_)
                    have hP : va_P (dC, dI) x_cl [(a_t_cells, .inl (c_t_cells, n_t_cells, .inr (.inl e_t_cells))), (a_t_lines, .inl (c_t_lines, n_t_lines, .inl e_t_lines_68)), (a_t, .inr (8, [.int s_t_thrown_4, .int s_t_length, .ref a_t_text, .int s_t_place, .ref a_t_digits, .ref a_t_counts, .ref a_t_points, .ref a_t_limbs, .int s_t_limbCount_85, .int s_t_rows, .int s_t_columns, .ref a_t_cells, .int s_t_laid, .ref a_t_lines, .int s_t_size_86, .ref a_t_draft])), (a_t_digits, .inl (c_t_digits, n_t_digits, .inl e_t_digits_87)), (a_t_counts, .inl (c_t_counts, n_t_counts, .inl e_t_counts_88)), (a_t_points, .inl (c_t_points, n_t_points, .inl e_t_points_89)), (a_t_limbs, .inl (c_t_limbs, n_t_limbs, .inl e_t_limbs_90)), (a_t_draft, .inl (c_t_draft, n_t_draft, .inl e_t_draft_91))] H := hP
                    have hD : va_D A [(a_t_cells, .inl (c_t_cells, n_t_cells, .inr (.inl e_t_cells))), (a_t_lines, .inl (c_t_lines, n_t_lines, .inl e_t_lines_68)), (a_t, .inr (8, [.int s_t_thrown_4, .int s_t_length, .ref a_t_text, .int s_t_place, .ref a_t_digits, .ref a_t_counts, .ref a_t_points, .ref a_t_limbs, .int s_t_limbCount_85, .int s_t_rows, .int s_t_columns, .ref a_t_cells, .int s_t_laid, .ref a_t_lines, .int s_t_size_86, .ref a_t_draft])), (a_t_digits, .inl (c_t_digits, n_t_digits, .inl e_t_digits_87)), (a_t_counts, .inl (c_t_counts, n_t_counts, .inl e_t_counts_88)), (a_t_points, .inl (c_t_points, n_t_points, .inl e_t_points_89)), (a_t_limbs, .inl (c_t_limbs, n_t_limbs, .inl e_t_limbs_90)), (a_t_draft, .inl (c_t_draft, n_t_draft, .inl e_t_draft_91))] := hD
                    refine lv_iconst (v := 0) hx hb d_Md_layout_185 (by decide) ?_
                    refine lv_istore (lv' := [(7, .int (0 : Int32)), (0, .ref a_t), (1, .int x1), (2, .int x2_30), (3, .int x3_8), (4, .int r_34), (5, .int x5_50), (6, .int x6_61)]) hx hb d_Md_layout_186 hl (by decide) rfl (fun ls hl => ?_)
                    replace h := xob_s h
                    obtain ⟨e_t_lines_95, hlp_96, h⟩ := h
                    try dsimp only at h
                    have hX_97 : ∀ (H : Heap) (locs : List Loc) (ls : Array Slot), va_P (dC, dI) x_cl [(a_t, .inr (8, [.int s_t_thrown_4, .int s_t_length, .ref a_t_text, .int s_t_place, .ref a_t_digits, .ref a_t_counts, .ref a_t_points, .ref a_t_limbs, .int s_t_limbCount_85, .int s_t_rows, .int s_t_columns, .ref a_t_cells, .int s_t_laid, .ref a_t_lines, .int s_t_size_86, .ref a_t_draft])), (a_t_digits, .inl (c_t_digits, n_t_digits, .inl e_t_digits_87)), (a_t_counts, .inl (c_t_counts, n_t_counts, .inl e_t_counts_88)), (a_t_points, .inl (c_t_points, n_t_points, .inl e_t_points_89)), (a_t_limbs, .inl (c_t_limbs, n_t_limbs, .inl e_t_limbs_90)), (a_t_cells, .inl (c_t_cells, n_t_cells, .inr (.inl e_t_cells))), (a_t_lines, .inl (c_t_lines, n_t_lines, .inl e_t_lines_95)), (a_t_draft, .inl (c_t_draft, n_t_draft, .inl e_t_draft_91))] H → va_D A [(a_t, .inr (8, [.int s_t_thrown_4, .int s_t_length, .ref a_t_text, .int s_t_place, .ref a_t_digits, .ref a_t_counts, .ref a_t_points, .ref a_t_limbs, .int s_t_limbCount_85, .int s_t_rows, .int s_t_columns, .ref a_t_cells, .int s_t_laid, .ref a_t_lines, .int s_t_size_86, .ref a_t_draft])), (a_t_digits, .inl (c_t_digits, n_t_digits, .inl e_t_digits_87)), (a_t_counts, .inl (c_t_counts, n_t_counts, .inl e_t_counts_88)), (a_t_points, .inl (c_t_points, n_t_points, .inl e_t_points_89)), (a_t_limbs, .inl (c_t_limbs, n_t_limbs, .inl e_t_limbs_90)), (a_t_cells, .inl (c_t_cells, n_t_cells, .inr (.inl e_t_cells))), (a_t_lines, .inl (c_t_lines, n_t_lines, .inl e_t_lines_95)), (a_t_draft, .inl (c_t_draft, n_t_draft, .inl e_t_draft_91))] → va_S A s.heap H locs → lv_has ls 8 [(0, .ref a_t), (1, .int x1), (2, .int x2_30), (3, .int x3_8), (4, .int r_34), (5, .int x5_50), (6, .int x6_61)] → W p l e rm_Md_layout s m args below meth c H locs 0 0 Q (F0 m 249 ls []) := by
                      intro H locs ls hP hD hS hl
                      replace h := xnm_s h
                      obtain ⟨x6_99, ex6_99, h⟩ := h
                      refine lv_iinc (v := x6_99) (lv' := [(6, .int x6_99), (0, .ref a_t), (1, .int x1), (2, .int x2_30), (3, .int x3_8), (4, .int r_34), (5, .int x5_50)]) hx hb d_Md_layout_249 hl (k := 6) rfl (by rw [← ex6_99]; rfl) (by decide) rfl (fun ls hl => ?_)
                      refine lv_goto (tgt := 157) hx hb d_Md_layout_252 (by decide) ?_
                      exact ih _ _ _ _ _ _ _ _ _ _ _ _ h hP hD hS (lv_sub hl [1, 2, 3, 4, 5, 6, 0] rfl)
                    clear h
                    have hL_98 : ∀ (n_ : Nat) (x7_93 : Int32) (e_t_lines_94 : Nat → Int32) (H : Heap) (locs : List Loc) (ls : Array Slot), lp_Md_layout_188 x1 x2_30 x3_8 r_34 x5_50 x6_61 s_t_thrown_4 s_t_length s_t_place s_t_limbCount_85 s_t_rows s_t_columns s_t_laid s_t_size_86 e_t_draft_91 n_t_lines n_t_draft n_ x7_93 e_t_lines_94 = some e_t_lines_95 → va_P (dC, dI) x_cl [(a_t, .inr (8, [.int s_t_thrown_4, .int s_t_length, .ref a_t_text, .int s_t_place, .ref a_t_digits, .ref a_t_counts, .ref a_t_points, .ref a_t_limbs, .int s_t_limbCount_85, .int s_t_rows, .int s_t_columns, .ref a_t_cells, .int s_t_laid, .ref a_t_lines, .int s_t_size_86, .ref a_t_draft])), (a_t_digits, .inl (c_t_digits, n_t_digits, .inl e_t_digits_87)), (a_t_counts, .inl (c_t_counts, n_t_counts, .inl e_t_counts_88)), (a_t_points, .inl (c_t_points, n_t_points, .inl e_t_points_89)), (a_t_limbs, .inl (c_t_limbs, n_t_limbs, .inl e_t_limbs_90)), (a_t_cells, .inl (c_t_cells, n_t_cells, .inr (.inl e_t_cells))), (a_t_lines, .inl (c_t_lines, n_t_lines, .inl e_t_lines_94)), (a_t_draft, .inl (c_t_draft, n_t_draft, .inl e_t_draft_91))] H → va_D A [(a_t, .inr (8, [.int s_t_thrown_4, .int s_t_length, .ref a_t_text, .int s_t_place, .ref a_t_digits, .ref a_t_counts, .ref a_t_points, .ref a_t_limbs, .int s_t_limbCount_85, .int s_t_rows, .int s_t_columns, .ref a_t_cells, .int s_t_laid, .ref a_t_lines, .int s_t_size_86, .ref a_t_draft])), (a_t_digits, .inl (c_t_digits, n_t_digits, .inl e_t_digits_87)), (a_t_counts, .inl (c_t_counts, n_t_counts, .inl e_t_counts_88)), (a_t_points, .inl (c_t_points, n_t_points, .inl e_t_points_89)), (a_t_limbs, .inl (c_t_limbs, n_t_limbs, .inl e_t_limbs_90)), (a_t_cells, .inl (c_t_cells, n_t_cells, .inr (.inl e_t_cells))), (a_t_lines, .inl (c_t_lines, n_t_lines, .inl e_t_lines_94)), (a_t_draft, .inl (c_t_draft, n_t_draft, .inl e_t_draft_91))] → va_S A s.heap H locs → lv_has ls 8 [(0, .ref a_t), (1, .int x1), (2, .int x2_30), (3, .int x3_8), (4, .int r_34), (5, .int x5_50), (6, .int x6_61), (7, .int x7_93)] → W p l e rm_Md_layout s m args below meth c H locs 0 0 Q (F0 m 188 ls []) := by
                      intro n_
                      induction n_ with
                      | zero => intro x7_93 e_t_lines_94 H locs ls h; cases h
                      | succ n_ ih =>
                        intro x7_93 e_t_lines_94 H locs ls h hP hD hS hl
                        rw [lp_Md_layout_188] at h
                        refine lv_iload hx hb d_Md_layout_188 (lv_at hl 7 rfl) ?_
                        refine lv_iload hx hb d_Md_layout_190 (lv_at hl 5 rfl) ?_
                        refine lv_icmp_ge (tgt := 249) hx hb d_Md_layout_192 (by decide) (fun c_100 => ?_) (fun c_100 => ?_)
                        · rw [if_pos c_100] at h
                          replace h := Option.some.inj h
                          subst h
                          exact hX_97 _ _ _ hP hD hS (lv_sub hl [0, 1, 2, 3, 4, 5, 6] rfl)
                        · rw [if_neg c_100] at h
                          refine lv_aload_n hx hb d_Md_layout_195 rfl (lv_at hl 0 rfl) ?_
                          refine va_get (D := (dC, dI)) (ci := 8) (v := .ref a_t_lines) (C := R_Md) (T := T_Md) (N := 16) hx hb hts in_Md hown hK hP 0 rfl rfl 13 (by decide) (hts _ g_719) (fun _ h9 => h9) rfl d_Md_layout_196 ?_
                          refine lv_sipush (v := 1200) hx hb d_Md_layout_199 (by decide) ?_
                          refine lv_iload hx hb d_Md_layout_202 (lv_at hl 6 rfl) ?_
                          refine lv_imul hx hb d_Md_layout_204 ?_
                          refine lv_iload_n hx hb d_Md_layout_205 rfl (lv_at hl 2 rfl) ?_
                          refine lv_iadd hx hb d_Md_layout_206 ?_
                          refine lv_iload hx hb d_Md_layout_207 (lv_at hl 7 rfl) ?_
                          refine lv_iadd hx hb d_Md_layout_209 ?_
                          refine lv_iload hx hb d_Md_layout_210 (lv_at hl 7 rfl) ?_
                          refine lv_iload hx hb d_Md_layout_212 (lv_at hl 5 rfl) ?_
                          refine lv_aload_n hx hb d_Md_layout_214 rfl (lv_at hl 0 rfl) ?_
                          refine va_get (D := (dC, dI)) (ci := 8) (v := .int s_t_size_86) (C := R_Md) (T := T_Md) (N := 16) hx hb hts in_Md hown hK hP 0 rfl rfl 14 (by decide) (hts _ g_720) (fun _ h9 => h9) rfl d_Md_layout_215 ?_
                          refine lv_isub hx hb d_Md_layout_218 ?_
                          refine lv_icmp_ge (tgt := 227) hx hb d_Md_layout_219 (by decide) (fun c_101 => ?_) (fun c_101 => ?_)
                          · rw [if_pos c_101] at h
                            refine lv_aload_n hx hb d_Md_layout_227 rfl (lv_at hl 0 rfl) ?_
                            refine va_get (D := (dC, dI)) (ci := 8) (v := .ref a_t_draft) (C := R_Md) (T := T_Md) (N := 16) hx hb hts in_Md hown hK hP 0 rfl rfl 15 (by decide) (hts _ g_721) (fun _ h9 => h9) rfl d_Md_layout_228 ?_
                            refine lv_iload hx hb d_Md_layout_231 (lv_at hl 7 rfl) ?_
                            refine lv_iload hx hb d_Md_layout_233 (lv_at hl 5 rfl) ?_
                            refine lv_isub hx hb d_Md_layout_235 ?_
                            refine lv_aload_n hx hb d_Md_layout_236 rfl (lv_at hl 0 rfl) ?_
                            refine va_get (D := (dC, dI)) (ci := 8) (v := .int s_t_size_86) (C := R_Md) (T := T_Md) (N := 16) hx hb hts in_Md hown hK hP 0 rfl rfl 14 (by decide) (hts _ g_720) (fun _ h9 => h9) rfl d_Md_layout_237 ?_
                            refine lv_iadd hx hb d_Md_layout_240 ?_
                            replace h := xg h
                            obtain ⟨hg_102, h⟩ := h
                            refine va_iald hx hb hK hP 7 6 rfl rfl hg_102 d_Md_layout_241 ?_
                            replace h := xg h
                            obtain ⟨hg_103, h⟩ := h
                            refine va_iast hx hb hK hP hD hS 6 5 rfl rfl hg_103 d_Md_layout_242 (fun H locs hP hD hS => ?_)
                            have hP : va_P (dC, dI) x_cl [(a_t, .inr (8, [.int s_t_thrown_4, .int s_t_length, .ref a_t_text, .int s_t_place, .ref a_t_digits, .ref a_t_counts, .ref a_t_points, .ref a_t_limbs, .int s_t_limbCount_85, .int s_t_rows, .int s_t_columns, .ref a_t_cells, .int s_t_laid, .ref a_t_lines, .int s_t_size_86, .ref a_t_draft])), (a_t_digits, .inl (c_t_digits, n_t_digits, .inl e_t_digits_87)), (a_t_counts, .inl (c_t_counts, n_t_counts, .inl e_t_counts_88)), (a_t_points, .inl (c_t_points, n_t_points, .inl e_t_points_89)), (a_t_limbs, .inl (c_t_limbs, n_t_limbs, .inl e_t_limbs_90)), (a_t_cells, .inl (c_t_cells, n_t_cells, .inr (.inl e_t_cells))), (a_t_lines, .inl (c_t_lines, n_t_lines, .inl ((upd e_t_lines_94 ((((1200 : Int32) * x6_61) + x2_30) + x7_93).toNatClampNeg (e_t_draft_91 ((x7_93 - x5_50) + s_t_size_86).toNatClampNeg))))), (a_t_draft, .inl (c_t_draft, n_t_draft, .inl e_t_draft_91))] H := hP
                            have hD : va_D A [(a_t, .inr (8, [.int s_t_thrown_4, .int s_t_length, .ref a_t_text, .int s_t_place, .ref a_t_digits, .ref a_t_counts, .ref a_t_points, .ref a_t_limbs, .int s_t_limbCount_85, .int s_t_rows, .int s_t_columns, .ref a_t_cells, .int s_t_laid, .ref a_t_lines, .int s_t_size_86, .ref a_t_draft])), (a_t_digits, .inl (c_t_digits, n_t_digits, .inl e_t_digits_87)), (a_t_counts, .inl (c_t_counts, n_t_counts, .inl e_t_counts_88)), (a_t_points, .inl (c_t_points, n_t_points, .inl e_t_points_89)), (a_t_limbs, .inl (c_t_limbs, n_t_limbs, .inl e_t_limbs_90)), (a_t_cells, .inl (c_t_cells, n_t_cells, .inr (.inl e_t_cells))), (a_t_lines, .inl (c_t_lines, n_t_lines, .inl ((upd e_t_lines_94 ((((1200 : Int32) * x6_61) + x2_30) + x7_93).toNatClampNeg (e_t_draft_91 ((x7_93 - x5_50) + s_t_size_86).toNatClampNeg))))), (a_t_draft, .inl (c_t_draft, n_t_draft, .inl e_t_draft_91))] := hD
                            replace h := xnm_s h
                            obtain ⟨x7_104, ex7_104, h⟩ := h
                            refine lv_iinc (v := x7_104) (lv' := [(7, .int x7_104), (0, .ref a_t), (1, .int x1), (2, .int x2_30), (3, .int x3_8), (4, .int r_34), (5, .int x5_50), (6, .int x6_61)]) hx hb d_Md_layout_243 hl (k := 7) rfl (by rw [← ex7_104]; rfl) (by decide) rfl (fun ls hl => ?_)
                            refine lv_goto (tgt := 188) hx hb d_Md_layout_246 (by decide) ?_
                            exact ih _ _ _ _ _ h hP hD hS (lv_sub hl [1, 2, 3, 4, 5, 6, 7, 0] rfl)
                          · rw [if_neg c_101] at h
                            refine lv_bipush (v := 32) hx hb d_Md_layout_222 (by decide) ?_
                            refine lv_goto (tgt := 242) hx hb d_Md_layout_224 (by decide) ?_
                            replace h := xg h
                            obtain ⟨hg_105, h⟩ := h
                            refine va_iast hx hb hK hP hD hS 6 5 rfl rfl hg_105 d_Md_layout_242 (fun H locs hP hD hS => ?_)
                            have hP : va_P (dC, dI) x_cl [(a_t, .inr (8, [.int s_t_thrown_4, .int s_t_length, .ref a_t_text, .int s_t_place, .ref a_t_digits, .ref a_t_counts, .ref a_t_points, .ref a_t_limbs, .int s_t_limbCount_85, .int s_t_rows, .int s_t_columns, .ref a_t_cells, .int s_t_laid, .ref a_t_lines, .int s_t_size_86, .ref a_t_draft])), (a_t_digits, .inl (c_t_digits, n_t_digits, .inl e_t_digits_87)), (a_t_counts, .inl (c_t_counts, n_t_counts, .inl e_t_counts_88)), (a_t_points, .inl (c_t_points, n_t_points, .inl e_t_points_89)), (a_t_limbs, .inl (c_t_limbs, n_t_limbs, .inl e_t_limbs_90)), (a_t_cells, .inl (c_t_cells, n_t_cells, .inr (.inl e_t_cells))), (a_t_lines, .inl (c_t_lines, n_t_lines, .inl ((upd e_t_lines_94 ((((1200 : Int32) * x6_61) + x2_30) + x7_93).toNatClampNeg (32 : Int32))))), (a_t_draft, .inl (c_t_draft, n_t_draft, .inl e_t_draft_91))] H := hP
                            have hD : va_D A [(a_t, .inr (8, [.int s_t_thrown_4, .int s_t_length, .ref a_t_text, .int s_t_place, .ref a_t_digits, .ref a_t_counts, .ref a_t_points, .ref a_t_limbs, .int s_t_limbCount_85, .int s_t_rows, .int s_t_columns, .ref a_t_cells, .int s_t_laid, .ref a_t_lines, .int s_t_size_86, .ref a_t_draft])), (a_t_digits, .inl (c_t_digits, n_t_digits, .inl e_t_digits_87)), (a_t_counts, .inl (c_t_counts, n_t_counts, .inl e_t_counts_88)), (a_t_points, .inl (c_t_points, n_t_points, .inl e_t_points_89)), (a_t_limbs, .inl (c_t_limbs, n_t_limbs, .inl e_t_limbs_90)), (a_t_cells, .inl (c_t_cells, n_t_cells, .inr (.inl e_t_cells))), (a_t_lines, .inl (c_t_lines, n_t_lines, .inl ((upd e_t_lines_94 ((((1200 : Int32) * x6_61) + x2_30) + x7_93).toNatClampNeg (32 : Int32))))), (a_t_draft, .inl (c_t_draft, n_t_draft, .inl e_t_draft_91))] := hD
                            replace h := xnm_s h
                            obtain ⟨x7_106, ex7_106, h⟩ := h
                            refine lv_iinc (v := x7_106) (lv' := [(7, .int x7_106), (0, .ref a_t), (1, .int x1), (2, .int x2_30), (3, .int x3_8), (4, .int r_34), (5, .int x5_50), (6, .int x6_61)]) hx hb d_Md_layout_243 hl (k := 7) rfl (by rw [← ex7_106]; rfl) (by decide) rfl (fun ls hl => ?_)
                            refine lv_goto (tgt := 188) hx hb d_Md_layout_246 (by decide) ?_
                            exact ih _ _ _ _ _ h hP hD hS (lv_sub hl [1, 2, 3, 4, 5, 6, 7, 0] rfl)
                    exact hL_98 xF _ _ _ _ _ hlp_96 (hP.sub [2, 3, 4, 5, 6, 0, 1, 7] rfl) (hD.sub [2, 3, 4, 5, 6, 0, 1, 7] (by decide) rfl) hS (lv_sub hl [1, 2, 3, 4, 5, 6, 7, 0] rfl)
              exact hL_80 xF _ _ _ _ _ _ _ _ _ _ _ _ hlp_78 hP hD hS (lv_sub hl [1, 2, 3, 4, 5, 6, 0] rfl)
            clear h
            have hL_60 : ∀ (n_ : Nat) (x5_41 : Int32) (x6_42 : Int32) (s_t_limbCount_43 : Int32) (s_t_size_44 : Int32) (e_t_digits_45 : Nat → Int32) (e_t_counts_46 : Nat → Int32) (e_t_points_47 : Nat → Int32) (e_t_limbs_48 : Nat → Int32) (e_t_draft_49 : Nat → Int32) (H : Heap) (locs : List Loc) (ls : Array Slot), lp_Md_layout_100 x1 x2_30 x3_8 r_34 s_t_thrown_4 s_t_length s_t_place s_t_rows s_t_columns s_t_laid e_t_cells n_t_digits n_t_counts n_t_points n_t_limbs n_t_cells n_t_draft n_ x5_41 x6_42 s_t_limbCount_43 s_t_size_44 e_t_digits_45 e_t_counts_46 e_t_points_47 e_t_limbs_48 e_t_draft_49 = some (x5_50, s_t_limbCount_51, s_t_size_52, e_t_digits_53, e_t_counts_54, e_t_points_55, e_t_limbs_56, e_t_draft_57) → va_P (dC, dI) x_cl [(a_t, .inr (8, [.int s_t_thrown_4, .int s_t_length, .ref a_t_text, .int s_t_place, .ref a_t_digits, .ref a_t_counts, .ref a_t_points, .ref a_t_limbs, .int s_t_limbCount_43, .int s_t_rows, .int s_t_columns, .ref a_t_cells, .int s_t_laid, .ref a_t_lines, .int s_t_size_44, .ref a_t_draft])), (a_t_digits, .inl (c_t_digits, n_t_digits, .inl e_t_digits_45)), (a_t_counts, .inl (c_t_counts, n_t_counts, .inl e_t_counts_46)), (a_t_points, .inl (c_t_points, n_t_points, .inl e_t_points_47)), (a_t_limbs, .inl (c_t_limbs, n_t_limbs, .inl e_t_limbs_48)), (a_t_cells, .inl (c_t_cells, n_t_cells, .inr (.inl e_t_cells))), (a_t_lines, .inl (c_t_lines, n_t_lines, .inl e_t_lines_31)), (a_t_draft, .inl (c_t_draft, n_t_draft, .inl e_t_draft_49))] H → va_D A [(a_t, .inr (8, [.int s_t_thrown_4, .int s_t_length, .ref a_t_text, .int s_t_place, .ref a_t_digits, .ref a_t_counts, .ref a_t_points, .ref a_t_limbs, .int s_t_limbCount_43, .int s_t_rows, .int s_t_columns, .ref a_t_cells, .int s_t_laid, .ref a_t_lines, .int s_t_size_44, .ref a_t_draft])), (a_t_digits, .inl (c_t_digits, n_t_digits, .inl e_t_digits_45)), (a_t_counts, .inl (c_t_counts, n_t_counts, .inl e_t_counts_46)), (a_t_points, .inl (c_t_points, n_t_points, .inl e_t_points_47)), (a_t_limbs, .inl (c_t_limbs, n_t_limbs, .inl e_t_limbs_48)), (a_t_cells, .inl (c_t_cells, n_t_cells, .inr (.inl e_t_cells))), (a_t_lines, .inl (c_t_lines, n_t_lines, .inl e_t_lines_31)), (a_t_draft, .inl (c_t_draft, n_t_draft, .inl e_t_draft_49))] → va_S A s.heap H locs → lv_has ls 8 [(0, .ref a_t), (1, .int x1), (2, .int x2_30), (3, .int x3_8), (4, .int r_34), (5, .int x5_41), (6, .int x6_42)] → W p l e rm_Md_layout s m args below meth c H locs 0 0 Q (F0 m 100 ls []) := by
              intro n_
              induction n_ with
              | zero => intro x5_41 x6_42 s_t_limbCount_43 s_t_size_44 e_t_digits_45 e_t_counts_46 e_t_points_47 e_t_limbs_48 e_t_draft_49 H locs ls h; cases h
              | succ n_ ih =>
                intro x5_41 x6_42 s_t_limbCount_43 s_t_size_44 e_t_digits_45 e_t_counts_46 e_t_points_47 e_t_limbs_48 e_t_draft_49 H locs ls h hP hD hS hl
                rw [lp_Md_layout_100] at h
                refine lv_iload hx hb d_Md_layout_100 (lv_at hl 6 rfl) ?_
                refine lv_aload_n hx hb d_Md_layout_102 rfl (lv_at hl 0 rfl) ?_
                refine va_get (D := (dC, dI)) (ci := 8) (v := .int s_t_rows) (C := R_Md) (T := T_Md) (N := 16) hx hb hts in_Md hown hK hP 0 rfl rfl 9 (by decide) (hts _ g_715) (fun _ h9 => h9) rfl d_Md_layout_103 ?_
                refine lv_icmp_ge (tgt := 154) hx hb d_Md_layout_106 (by decide) (fun c_107 => ?_) (fun c_107 => ?_)
                · rw [if_pos c_107] at h
                  replace h := Option.some.inj h
                  replace h := Prod.mk.inj h
                  obtain ⟨h1, h⟩ := h
                  subst h1
                  replace h := Prod.mk.inj h
                  obtain ⟨h1, h⟩ := h
                  subst h1
                  replace h := Prod.mk.inj h
                  obtain ⟨h1, h⟩ := h
                  subst h1
                  replace h := Prod.mk.inj h
                  obtain ⟨h1, h⟩ := h
                  subst h1
                  replace h := Prod.mk.inj h
                  obtain ⟨h1, h⟩ := h
                  subst h1
                  replace h := Prod.mk.inj h
                  obtain ⟨h1, h⟩ := h
                  subst h1
                  replace h := Prod.mk.inj h
                  obtain ⟨h1, h⟩ := h
                  subst h1
                  subst h
                  exact hX_59 _ _ _ hP hD hS (lv_sub hl [0, 1, 2, 3, 4, 5] rfl)
                · rw [if_neg c_107] at h
                  refine lv_aload_n hx hb d_Md_layout_109 rfl (lv_at hl 0 rfl) ?_
                  refine lv_aload_n hx hb d_Md_layout_110 rfl (lv_at hl 0 rfl) ?_
                  refine va_get (D := (dC, dI)) (ci := 8) (v := .ref a_t_cells) (C := R_Md) (T := T_Md) (N := 16) hx hb hts in_Md hown hK hP 0 rfl rfl 11 (by decide) (hts _ g_717) (fun _ h9 => h9) rfl d_Md_layout_111 ?_
                  refine lv_bipush (v := 8) hx hb d_Md_layout_114 (by decide) ?_
                  refine lv_iload hx hb d_Md_layout_116 (lv_at hl 6 rfl) ?_
                  refine lv_imul hx hb d_Md_layout_118 ?_
                  refine lv_iload_n hx hb d_Md_layout_119 rfl (lv_at hl 3 rfl) ?_
                  refine lv_iadd hx hb d_Md_layout_120 ?_
                  replace h := xg h
                  obtain ⟨hg_108, h⟩ := h
                  refine va_lald hx hb hK hP 5 4 rfl rfl hg_108 d_Md_layout_121 ?_
                  refine lv_iload_n hx hb d_Md_layout_122 rfl (lv_at hl 1 rfl) ?_
                  refine lv_iload hx hb d_Md_layout_123 (lv_at hl 4 rfl) ?_
                  replace h := xob_s h
                  obtain ⟨⟨s_t_limbCount_109, s_t_size_110, e_t_digits_111, e_t_counts_112, e_t_points_113, e_t_limbs_114, e_t_draft_115⟩, hc_116, h⟩ := h
                  try dsimp only at h
                  refine xcV (As := [.long (e_t_cells (((8 : Int32) * x6_42) + x3_8).toNatClampNeg), .int x1, .int r_34]) (rest := []) (st1 := []) (wr := [(a_t_cells, .inl (c_t_cells, n_t_cells, .inr (.inl e_t_cells))), (a_t_lines, .inl (c_t_lines, n_t_lines, .inl e_t_lines_31))]) ⟨hx, hb, hml, hown, hts⟩ (c_Md_cell l dC dI a_t a_t_text a_t_digits a_t_counts a_t_points a_t_limbs a_t_cells a_t_lines a_t_draft c_t_digits c_t_counts c_t_points c_t_limbs c_t_draft n_t_digits n_t_counts n_t_points n_t_limbs n_t_draft s_t_thrown_4 s_t_length s_t_place s_t_limbCount_43 s_t_rows s_t_columns s_t_laid s_t_size_44 e_t_digits_45 e_t_counts_46 e_t_points_47 e_t_limbs_48 e_t_draft_49 (e_t_cells (((8 : Int32) * x6_42) + x3_8).toNatClampNeg) x1 r_34 s_t_limbCount_109 s_t_size_110 e_t_digits_111 e_t_counts_112 e_t_points_113 e_t_limbs_114 e_t_draft_115 hc_116) (cwV 3 hts (xgoodV g_943 g_945 gp_47 g_10 g_946) rfl rfl rfl (by decide +kernel) ⟨Nat.le_of_ble_eq_true rfl, Nat.le_of_ble_eq_true rfl⟩) hNz (ci := 8) (q0 := 0) rfl rfl hA hP hD hS hK [0, 1, 2, 3, 4, 7] [5, 6] [0, 1, 2, 3, 6] rfl rfl rfl rfl (by decide) rfl rfl rfl rfl hl.1 (Nat.le_of_ble_eq_true rfl) ⟨Nat.zero_le _, Nat.zero_le _⟩ d_Md_layout_125 (fun H locs hP hD hS => ?_)
                  have hP : va_P (dC, dI) x_cl [(a_t_cells, .inl (c_t_cells, n_t_cells, .inr (.inl e_t_cells))), (a_t_lines, .inl (c_t_lines, n_t_lines, .inl e_t_lines_31)), (a_t, .inr (8, [.int s_t_thrown_4, .int s_t_length, .ref a_t_text, .int s_t_place, .ref a_t_digits, .ref a_t_counts, .ref a_t_points, .ref a_t_limbs, .int s_t_limbCount_109, .int s_t_rows, .int s_t_columns, .ref a_t_cells, .int s_t_laid, .ref a_t_lines, .int s_t_size_110, .ref a_t_draft])), (a_t_digits, .inl (c_t_digits, n_t_digits, .inl e_t_digits_111)), (a_t_counts, .inl (c_t_counts, n_t_counts, .inl e_t_counts_112)), (a_t_points, .inl (c_t_points, n_t_points, .inl e_t_points_113)), (a_t_limbs, .inl (c_t_limbs, n_t_limbs, .inl e_t_limbs_114)), (a_t_draft, .inl (c_t_draft, n_t_draft, .inl e_t_draft_115))] H := hP
                  have hD : va_D A [(a_t_cells, .inl (c_t_cells, n_t_cells, .inr (.inl e_t_cells))), (a_t_lines, .inl (c_t_lines, n_t_lines, .inl e_t_lines_31)), (a_t, .inr (8, [.int s_t_thrown_4, .int s_t_length, .ref a_t_text, .int s_t_place, .ref a_t_digits, .ref a_t_counts, .ref a_t_points, .ref a_t_limbs, .int s_t_limbCount_109, .int s_t_rows, .int s_t_columns, .ref a_t_cells, .int s_t_laid, .ref a_t_lines, .int s_t_size_110, .ref a_t_draft])), (a_t_digits, .inl (c_t_digits, n_t_digits, .inl e_t_digits_111)), (a_t_counts, .inl (c_t_counts, n_t_counts, .inl e_t_counts_112)), (a_t_points, .inl (c_t_points, n_t_points, .inl e_t_points_113)), (a_t_limbs, .inl (c_t_limbs, n_t_limbs, .inl e_t_limbs_114)), (a_t_draft, .inl (c_t_draft, n_t_draft, .inl e_t_draft_115))] := hD
                  refine lv_aload_n hx hb d_Md_layout_128 rfl (lv_at hl 0 rfl) ?_
                  refine va_get (D := (dC, dI)) (ci := 8) (v := .int s_t_size_110) (C := R_Md) (T := T_Md) (N := 16) hx hb hts in_Md hown hK hP 2 rfl rfl 14 (by decide) (hts _ g_720) (fun _ h9 => h9) rfl d_Md_layout_129 ?_
                  refine lv_iload hx hb d_Md_layout_132 (lv_at hl 5 rfl) ?_
                  refine lv_icmp_le (tgt := 144) hx hb d_Md_layout_134 (by decide) (fun c_117 => ?_) (fun c_117 => ?_)
                  · rw [if_pos c_117] at h
                    refine lv_iload hx hb d_Md_layout_144 (lv_at hl 5 rfl) ?_
                    refine lv_istore (lv' := [(5, .int x5_41), (0, .ref a_t), (1, .int x1), (2, .int x2_30), (3, .int x3_8), (4, .int r_34), (6, .int x6_42)]) hx hb d_Md_layout_146 hl (by decide) rfl (fun ls hl => ?_)
                    replace h := xnm_s h
                    obtain ⟨x6_118, ex6_118, h⟩ := h
                    refine lv_iinc (v := x6_118) (lv' := [(6, .int x6_118), (5, .int x5_41), (0, .ref a_t), (1, .int x1), (2, .int x2_30), (3, .int x3_8), (4, .int r_34)]) hx hb d_Md_layout_148 hl (k := 6) rfl (by rw [← ex6_118]; rfl) (by decide) rfl (fun ls hl => ?_)
                    refine lv_goto (tgt := 100) hx hb d_Md_layout_151 (by decide) ?_
                    exact ih _ _ _ _ _ _ _ _ _ _ _ _ h (hP.sub [2, 3, 4, 5, 6, 0, 1, 7] rfl) (hD.sub [2, 3, 4, 5, 6, 0, 1, 7] (by decide) rfl) hS (lv_sub hl [2, 3, 4, 5, 6, 1, 0] rfl)
                  · rw [if_neg c_117] at h
                    refine lv_aload_n hx hb d_Md_layout_137 rfl (lv_at hl 0 rfl) ?_
                    refine va_get (D := (dC, dI)) (ci := 8) (v := .int s_t_size_110) (C := R_Md) (T := T_Md) (N := 16) hx hb hts in_Md hown hK hP 2 rfl rfl 14 (by decide) (hts _ g_720) (fun _ h9 => h9) rfl d_Md_layout_138 ?_
                    refine lv_goto (tgt := 146) hx hb d_Md_layout_141 (by decide) ?_
                    refine lv_istore (lv' := [(5, .int s_t_size_110), (0, .ref a_t), (1, .int x1), (2, .int x2_30), (3, .int x3_8), (4, .int r_34), (6, .int x6_42)]) hx hb d_Md_layout_146 hl (by decide) rfl (fun ls hl => ?_)
                    replace h := xnm_s h
                    obtain ⟨x6_119, ex6_119, h⟩ := h
                    refine lv_iinc (v := x6_119) (lv' := [(6, .int x6_119), (5, .int s_t_size_110), (0, .ref a_t), (1, .int x1), (2, .int x2_30), (3, .int x3_8), (4, .int r_34)]) hx hb d_Md_layout_148 hl (k := 6) rfl (by rw [← ex6_119]; rfl) (by decide) rfl (fun ls hl => ?_)
                    refine lv_goto (tgt := 100) hx hb d_Md_layout_151 (by decide) ?_
                    exact ih _ _ _ _ _ _ _ _ _ _ _ _ h (hP.sub [2, 3, 4, 5, 6, 0, 1, 7] rfl) (hD.sub [2, 3, 4, 5, 6, 0, 1, 7] (by decide) rfl) hS (lv_sub hl [2, 3, 4, 5, 6, 1, 0] rfl)
            exact hL_60 xF _ _ _ _ _ _ _ _ _ _ _ _ hlp_58 (hP.sub [2, 3, 4, 5, 6, 7, 0, 1] rfl) (hD.sub [2, 3, 4, 5, 6, 7, 0, 1] (by decide) rfl) hS (lv_sub hl [3, 4, 5, 6, 2, 1, 0] rfl)
          replace h := hj_32
          clear hj_32
          refine lv_if_le (tgt := 86) hx hb d_Md_layout_29 (by decide) (fun c_120 => ?_) (fun c_120 => ?_)
          · rw [if_pos c_120] at h
            replace h := Option.some.inj h
            replace h := Prod.mk.inj h
            obtain ⟨h1, h⟩ := h
            subst h1
            subst h
            exact hJ_33 _ _ _ hP hD hS hl
          · rw [if_neg c_120] at h
            refine lv_iconst (v := 0) hx hb d_Md_layout_32 (by decide) ?_
            refine lv_istore (lv' := [(4, .int (0 : Int32)), (0, .ref a_t), (1, .int x1), (2, .int x2_7), (3, .int x3_8)]) hx hb d_Md_layout_33 hl (by decide) rfl (fun ls hl => ?_)
            replace h := xob_s h
            obtain ⟨e_t_lines_123, hlp_124, h⟩ := h
            try dsimp only at h
            have hX_125 : ∀ (H : Heap) (locs : List Loc) (ls : Array Slot), va_P (dC, dI) x_cl [(a_t, .inr (8, [.int s_t_thrown_4, .int s_t_length, .ref a_t_text, .int s_t_place, .ref a_t_digits, .ref a_t_counts, .ref a_t_points, .ref a_t_limbs, .int s_t_limbCount_9, .int s_t_rows, .int s_t_columns, .ref a_t_cells, .int s_t_laid, .ref a_t_lines, .int s_t_size_10, .ref a_t_draft])), (a_t_digits, .inl (c_t_digits, n_t_digits, .inl e_t_digits_11)), (a_t_counts, .inl (c_t_counts, n_t_counts, .inl e_t_counts_12)), (a_t_points, .inl (c_t_points, n_t_points, .inl e_t_points_13)), (a_t_limbs, .inl (c_t_limbs, n_t_limbs, .inl e_t_limbs_14)), (a_t_cells, .inl (c_t_cells, n_t_cells, .inr (.inl e_t_cells))), (a_t_lines, .inl (c_t_lines, n_t_lines, .inl e_t_lines_123)), (a_t_draft, .inl (c_t_draft, n_t_draft, .inl e_t_draft_16))] H → va_D A [(a_t, .inr (8, [.int s_t_thrown_4, .int s_t_length, .ref a_t_text, .int s_t_place, .ref a_t_digits, .ref a_t_counts, .ref a_t_points, .ref a_t_limbs, .int s_t_limbCount_9, .int s_t_rows, .int s_t_columns, .ref a_t_cells, .int s_t_laid, .ref a_t_lines, .int s_t_size_10, .ref a_t_draft])), (a_t_digits, .inl (c_t_digits, n_t_digits, .inl e_t_digits_11)), (a_t_counts, .inl (c_t_counts, n_t_counts, .inl e_t_counts_12)), (a_t_points, .inl (c_t_points, n_t_points, .inl e_t_points_13)), (a_t_limbs, .inl (c_t_limbs, n_t_limbs, .inl e_t_limbs_14)), (a_t_cells, .inl (c_t_cells, n_t_cells, .inr (.inl e_t_cells))), (a_t_lines, .inl (c_t_lines, n_t_lines, .inl e_t_lines_123)), (a_t_draft, .inl (c_t_draft, n_t_draft, .inl e_t_draft_16))] → va_S A s.heap H locs → lv_has ls 8 [(0, .ref a_t), (1, .int x1), (2, .int x2_7), (3, .int x3_8)] → W p l e rm_Md_layout s m args below meth c H locs 0 0 Q (F0 m 82 ls []) := by
              intro H locs ls hP hD hS hl
              refine lv_iload_n hx hb d_Md_layout_82 rfl (lv_at hl 2 rfl) ?_
              refine lv_iconst (v := 2) hx hb d_Md_layout_83 (by decide) ?_
              refine lv_iadd hx hb d_Md_layout_84 ?_
              replace h := xnm_s h
              obtain ⟨x2_127, ex2_127, h⟩ := h
              refine x_topi ex2_127 ?_
              refine lv_istore_n (lv' := [(2, .int x2_127), (0, .ref a_t), (1, .int x1), (3, .int x3_8)]) hx hb d_Md_layout_85 rfl hl (by decide) rfl (fun ls hl => ?_)
              replace h := Option.some.inj h
              replace h := Prod.mk.inj h
              obtain ⟨h1, h⟩ := h
              subst h1
              subst h
              exact hJ_33 _ _ _ hP hD hS (lv_sub hl [1, 2, 0, 3] rfl)
            clear h
            have hL_126 : ∀ (n_ : Nat) (x4_121 : Int32) (e_t_lines_122 : Nat → Int32) (H : Heap) (locs : List Loc) (ls : Array Slot), lp_Md_layout_35 x1 x2_7 x3_8 s_t_thrown_4 s_t_length s_t_place s_t_limbCount_9 s_t_rows s_t_columns s_t_laid s_t_size_10 n_t_lines n_ x4_121 e_t_lines_122 = some e_t_lines_123 → va_P (dC, dI) x_cl [(a_t, .inr (8, [.int s_t_thrown_4, .int s_t_length, .ref a_t_text, .int s_t_place, .ref a_t_digits, .ref a_t_counts, .ref a_t_points, .ref a_t_limbs, .int s_t_limbCount_9, .int s_t_rows, .int s_t_columns, .ref a_t_cells, .int s_t_laid, .ref a_t_lines, .int s_t_size_10, .ref a_t_draft])), (a_t_digits, .inl (c_t_digits, n_t_digits, .inl e_t_digits_11)), (a_t_counts, .inl (c_t_counts, n_t_counts, .inl e_t_counts_12)), (a_t_points, .inl (c_t_points, n_t_points, .inl e_t_points_13)), (a_t_limbs, .inl (c_t_limbs, n_t_limbs, .inl e_t_limbs_14)), (a_t_cells, .inl (c_t_cells, n_t_cells, .inr (.inl e_t_cells))), (a_t_lines, .inl (c_t_lines, n_t_lines, .inl e_t_lines_122)), (a_t_draft, .inl (c_t_draft, n_t_draft, .inl e_t_draft_16))] H → va_D A [(a_t, .inr (8, [.int s_t_thrown_4, .int s_t_length, .ref a_t_text, .int s_t_place, .ref a_t_digits, .ref a_t_counts, .ref a_t_points, .ref a_t_limbs, .int s_t_limbCount_9, .int s_t_rows, .int s_t_columns, .ref a_t_cells, .int s_t_laid, .ref a_t_lines, .int s_t_size_10, .ref a_t_draft])), (a_t_digits, .inl (c_t_digits, n_t_digits, .inl e_t_digits_11)), (a_t_counts, .inl (c_t_counts, n_t_counts, .inl e_t_counts_12)), (a_t_points, .inl (c_t_points, n_t_points, .inl e_t_points_13)), (a_t_limbs, .inl (c_t_limbs, n_t_limbs, .inl e_t_limbs_14)), (a_t_cells, .inl (c_t_cells, n_t_cells, .inr (.inl e_t_cells))), (a_t_lines, .inl (c_t_lines, n_t_lines, .inl e_t_lines_122)), (a_t_draft, .inl (c_t_draft, n_t_draft, .inl e_t_draft_16))] → va_S A s.heap H locs → lv_has ls 8 [(0, .ref a_t), (1, .int x1), (2, .int x2_7), (3, .int x3_8), (4, .int x4_121)] → W p l e rm_Md_layout s m args below meth c H locs 0 0 Q (F0 m 35 ls []) := by
              intro n_
              induction n_ with
              | zero => intro x4_121 e_t_lines_122 H locs ls h; cases h
              | succ n_ ih =>
                intro x4_121 e_t_lines_122 H locs ls h hP hD hS hl
                rw [lp_Md_layout_35] at h
                refine lv_iload hx hb d_Md_layout_35 (lv_at hl 4 rfl) ?_
                refine lv_aload_n hx hb d_Md_layout_37 rfl (lv_at hl 0 rfl) ?_
                refine va_get (D := (dC, dI)) (ci := 8) (v := .int s_t_rows) (C := R_Md) (T := T_Md) (N := 16) hx hb hts in_Md hown hK hP 0 rfl rfl 9 (by decide) (hts _ g_715) (fun _ h9 => h9) rfl d_Md_layout_38 ?_
                refine lv_icmp_ge (tgt := 82) hx hb d_Md_layout_41 (by decide) (fun c_128 => ?_) (fun c_128 => ?_)
                · rw [if_pos c_128] at h
                  replace h := Option.some.inj h
                  subst h
                  exact hX_125 _ _ _ hP hD hS (lv_sub hl [0, 1, 2, 3] rfl)
                · rw [if_neg c_128] at h
                  refine lv_aload_n hx hb d_Md_layout_44 rfl (lv_at hl 0 rfl) ?_
                  refine va_get (D := (dC, dI)) (ci := 8) (v := .ref a_t_lines) (C := R_Md) (T := T_Md) (N := 16) hx hb hts in_Md hown hK hP 0 rfl rfl 13 (by decide) (hts _ g_719) (fun _ h9 => h9) rfl d_Md_layout_45 ?_
                  refine lv_sipush (v := 1200) hx hb d_Md_layout_48 (by decide) ?_
                  refine lv_iload hx hb d_Md_layout_51 (lv_at hl 4 rfl) ?_
                  refine lv_imul hx hb d_Md_layout_53 ?_
                  refine lv_iload_n hx hb d_Md_layout_54 rfl (lv_at hl 2 rfl) ?_
                  refine lv_iadd hx hb d_Md_layout_55 ?_
                  refine lv_bipush (v := 32) hx hb d_Md_layout_56 (by decide) ?_
                  replace h := xg h
                  obtain ⟨hg_129, h⟩ := h
                  refine va_iast hx hb hK hP hD hS 6 5 rfl rfl hg_129 d_Md_layout_58 (fun H locs hP hD hS => ?_)
                  have hP : va_P (dC, dI) x_cl [(a_t, .inr (8, [.int s_t_thrown_4, .int s_t_length, .ref a_t_text, .int s_t_place, .ref a_t_digits, .ref a_t_counts, .ref a_t_points, .ref a_t_limbs, .int s_t_limbCount_9, .int s_t_rows, .int s_t_columns, .ref a_t_cells, .int s_t_laid, .ref a_t_lines, .int s_t_size_10, .ref a_t_draft])), (a_t_digits, .inl (c_t_digits, n_t_digits, .inl e_t_digits_11)), (a_t_counts, .inl (c_t_counts, n_t_counts, .inl e_t_counts_12)), (a_t_points, .inl (c_t_points, n_t_points, .inl e_t_points_13)), (a_t_limbs, .inl (c_t_limbs, n_t_limbs, .inl e_t_limbs_14)), (a_t_cells, .inl (c_t_cells, n_t_cells, .inr (.inl e_t_cells))), (a_t_lines, .inl (c_t_lines, n_t_lines, .inl ((upd e_t_lines_122 (((1200 : Int32) * x4_121) + x2_7).toNatClampNeg (32 : Int32))))), (a_t_draft, .inl (c_t_draft, n_t_draft, .inl e_t_draft_16))] H := hP
                  have hD : va_D A [(a_t, .inr (8, [.int s_t_thrown_4, .int s_t_length, .ref a_t_text, .int s_t_place, .ref a_t_digits, .ref a_t_counts, .ref a_t_points, .ref a_t_limbs, .int s_t_limbCount_9, .int s_t_rows, .int s_t_columns, .ref a_t_cells, .int s_t_laid, .ref a_t_lines, .int s_t_size_10, .ref a_t_draft])), (a_t_digits, .inl (c_t_digits, n_t_digits, .inl e_t_digits_11)), (a_t_counts, .inl (c_t_counts, n_t_counts, .inl e_t_counts_12)), (a_t_points, .inl (c_t_points, n_t_points, .inl e_t_points_13)), (a_t_limbs, .inl (c_t_limbs, n_t_limbs, .inl e_t_limbs_14)), (a_t_cells, .inl (c_t_cells, n_t_cells, .inr (.inl e_t_cells))), (a_t_lines, .inl (c_t_lines, n_t_lines, .inl ((upd e_t_lines_122 (((1200 : Int32) * x4_121) + x2_7).toNatClampNeg (32 : Int32))))), (a_t_draft, .inl (c_t_draft, n_t_draft, .inl e_t_draft_16))] := hD
                  refine lv_aload_n hx hb d_Md_layout_59 rfl (lv_at hl 0 rfl) ?_
                  refine va_get (D := (dC, dI)) (ci := 8) (v := .ref a_t_lines) (C := R_Md) (T := T_Md) (N := 16) hx hb hts in_Md hown hK hP 0 rfl rfl 13 (by decide) (hts _ g_719) (fun _ h9 => h9) rfl d_Md_layout_60 ?_
                  refine lv_sipush (v := 1200) hx hb d_Md_layout_63 (by decide) ?_
                  refine lv_iload hx hb d_Md_layout_66 (lv_at hl 4 rfl) ?_
                  refine lv_imul hx hb d_Md_layout_68 ?_
                  refine lv_iload_n hx hb d_Md_layout_69 rfl (lv_at hl 2 rfl) ?_
                  refine lv_iadd hx hb d_Md_layout_70 ?_
                  refine lv_iconst (v := 1) hx hb d_Md_layout_71 (by decide) ?_
                  refine lv_iadd hx hb d_Md_layout_72 ?_
                  refine lv_bipush (v := 32) hx hb d_Md_layout_73 (by decide) ?_
                  replace h := xg h
                  obtain ⟨hg_130, h⟩ := h
                  refine va_iast hx hb hK hP hD hS 6 5 rfl rfl hg_130 d_Md_layout_75 (fun H locs hP hD hS => ?_)
                  have hP : va_P (dC, dI) x_cl [(a_t, .inr (8, [.int s_t_thrown_4, .int s_t_length, .ref a_t_text, .int s_t_place, .ref a_t_digits, .ref a_t_counts, .ref a_t_points, .ref a_t_limbs, .int s_t_limbCount_9, .int s_t_rows, .int s_t_columns, .ref a_t_cells, .int s_t_laid, .ref a_t_lines, .int s_t_size_10, .ref a_t_draft])), (a_t_digits, .inl (c_t_digits, n_t_digits, .inl e_t_digits_11)), (a_t_counts, .inl (c_t_counts, n_t_counts, .inl e_t_counts_12)), (a_t_points, .inl (c_t_points, n_t_points, .inl e_t_points_13)), (a_t_limbs, .inl (c_t_limbs, n_t_limbs, .inl e_t_limbs_14)), (a_t_cells, .inl (c_t_cells, n_t_cells, .inr (.inl e_t_cells))), (a_t_lines, .inl (c_t_lines, n_t_lines, .inl ((upd ((upd e_t_lines_122 (((1200 : Int32) * x4_121) + x2_7).toNatClampNeg (32 : Int32))) ((((1200 : Int32) * x4_121) + x2_7) + (1 : Int32)).toNatClampNeg (32 : Int32))))), (a_t_draft, .inl (c_t_draft, n_t_draft, .inl e_t_draft_16))] H := hP
                  have hD : va_D A [(a_t, .inr (8, [.int s_t_thrown_4, .int s_t_length, .ref a_t_text, .int s_t_place, .ref a_t_digits, .ref a_t_counts, .ref a_t_points, .ref a_t_limbs, .int s_t_limbCount_9, .int s_t_rows, .int s_t_columns, .ref a_t_cells, .int s_t_laid, .ref a_t_lines, .int s_t_size_10, .ref a_t_draft])), (a_t_digits, .inl (c_t_digits, n_t_digits, .inl e_t_digits_11)), (a_t_counts, .inl (c_t_counts, n_t_counts, .inl e_t_counts_12)), (a_t_points, .inl (c_t_points, n_t_points, .inl e_t_points_13)), (a_t_limbs, .inl (c_t_limbs, n_t_limbs, .inl e_t_limbs_14)), (a_t_cells, .inl (c_t_cells, n_t_cells, .inr (.inl e_t_cells))), (a_t_lines, .inl (c_t_lines, n_t_lines, .inl ((upd ((upd e_t_lines_122 (((1200 : Int32) * x4_121) + x2_7).toNatClampNeg (32 : Int32))) ((((1200 : Int32) * x4_121) + x2_7) + (1 : Int32)).toNatClampNeg (32 : Int32))))), (a_t_draft, .inl (c_t_draft, n_t_draft, .inl e_t_draft_16))] := hD
                  replace h := xnm_s h
                  obtain ⟨x4_131, ex4_131, h⟩ := h
                  refine lv_iinc (v := x4_131) (lv' := [(4, .int x4_131), (0, .ref a_t), (1, .int x1), (2, .int x2_7), (3, .int x3_8)]) hx hb d_Md_layout_76 hl (k := 4) rfl (by rw [← ex4_131]; rfl) (by decide) rfl (fun ls hl => ?_)
                  refine lv_goto (tgt := 35) hx hb d_Md_layout_79 (by decide) ?_
                  exact ih _ _ _ _ _ h hP hD hS (lv_sub hl [1, 2, 3, 4, 0] rfl)
            exact hL_126 xF _ _ _ _ _ hlp_124 hP hD hS (lv_sub hl [1, 2, 3, 4, 0] rfl)
    exact hL_28 xF _ _ _ _ _ _ _ _ _ _ _ _ _ hlp_26 (hP.sub [7, 0, 1, 2, 3, 4, 5, 6] rfl) (hD.sub [7, 0, 1, 2, 3, 4, 5, 6] (by decide) rfl) hS (lv_sub hl [2, 3, 1, 0] rfl)
  · rw [if_pos c_6] at h
    refine lv_iconst (v := 0) hx hb d_Md_layout_14 (by decide) ?_
    replace h := Option.some.inj h
    replace h := Prod.mk.inj h
    obtain ⟨h1, h⟩ := h
    subst h1
    replace h := Prod.mk.inj h
    obtain ⟨h1, h⟩ := h
    subst h1
    replace h := Prod.mk.inj h
    obtain ⟨h1, h⟩ := h
    subst h1
    replace h := Prod.mk.inj h
    obtain ⟨h1, h⟩ := h
    subst h1
    replace h := Prod.mk.inj h
    obtain ⟨h1, h⟩ := h
    subst h1
    replace h := Prod.mk.inj h
    obtain ⟨h1, h⟩ := h
    subst h1
    replace h := Prod.mk.inj h
    obtain ⟨h1, h⟩ := h
    subst h1
    replace h := Prod.mk.inj h
    obtain ⟨h1, h⟩ := h
    subst h1
    replace h := Prod.mk.inj h
    obtain ⟨h1, h⟩ := h
    subst h1
    replace h := Prod.mk.inj h
    obtain ⟨h1, h⟩ := h
    subst h1
    subst h
    exact hret _ _ (hP.sub [7, 0, 1, 2, 3, 4, 5, 6] rfl) (hD.sub [7, 0, 1, 2, 3, 4, 5, 6] (by decide) rfl) hS _ _ d_Md_layout_15
