def lp_Md_read_18 (s_t_thrown : Int32) (s_t_length : Int32) (s_t_place : Int32) (s_t_limbCount : Int32) (s_t_rows : Int32) (s_t_columns : Int32) (s_t_laid : Int32) (s_t_size : Int32) (e_t_text : Nat → Int32) (n_t_text : Nat) (n_t_digits : Nat) : Nat → Int32 → Int32 → Int32 → Int32 → Int32 → Int32 → Int32 → (Nat → Int32) → Option (Int32 × Int32 × Int32 × Int32 × Int32 × Int32 × Int32 × (Nat → Int32))
  | 0, _, _, _, _, _, _, _, _ => none
  | n_ + 1, x1_1, x2_2, x3_3, x4_4, x5_5, x6_6, x7_7, e_t_digits_8 =>
    if s_t_length ≤ x2_2 then (some (x1_1, x2_2, x3_3, x4_4, x5_5, x6_6, x7_7, e_t_digits_8)) else (if x1_1 = (-1 : Int32) then (some (x1_1, x2_2, x3_3, x4_4, x5_5, x6_6, x7_7, e_t_digits_8)) else (if (x2_2 < 0 ∨ n_t_text ≤ x2_2.toNatClampNeg) then none else xnm (e_t_text x2_2.toNatClampNeg) fun x8_57 => xob (f_Md_next x1_1 x8_57) fun r_58 => xob (if x6_6 = 0 then (if r_58 = (1 : Int32) then (if x8_57 = (45 : Int32) then (some (1 : Int32)) else (some (0 : Int32))) else (some (0 : Int32))) else (some (1 : Int32))) fun z_60 => xob (if x7_7 = 0 then (if r_58 = (7 : Int32) then (if x8_57 = (45 : Int32) then (some (1 : Int32)) else (some (0 : Int32))) else (some (0 : Int32))) else (some (1 : Int32))) fun z_63 => xob (if r_58 = (2 : Int32) then (xob (if r_58 = (2 : Int32) then (if 0 < x3_3 then (some (x4_4 + (1 : Int32))) else (if x8_57 ≤ (48 : Int32) then (if r_58 = (4 : Int32) then (if x3_3 = 0 then (if x8_57 = (48 : Int32) then (some (x4_4 - (1 : Int32))) else (some x4_4)) else (some x4_4)) else (some x4_4)) else (some (x4_4 + (1 : Int32))))) else (if r_58 = (4 : Int32) then (if x3_3 = 0 then (if x8_57 = (48 : Int32) then (some (x4_4 - (1 : Int32))) else (some x4_4)) else (some x4_4)) else (some x4_4))) fun z_82 => if 0 < x3_3 then (if (x3_3 < 0 ∨ n_t_digits ≤ x3_3.toNatClampNeg) then none else xnm (x3_3 + (1 : Int32)) fun x3_87 => some (x3_87, z_82, (upd e_t_digits_8 x3_3.toNatClampNeg (x8_57 - (48 : Int32))))) else (if x8_57 ≤ (48 : Int32) then (some (x3_3, z_82, e_t_digits_8)) else (if (x3_3 < 0 ∨ n_t_digits ≤ x3_3.toNatClampNeg) then none else xnm (x3_3 + (1 : Int32)) fun x3_90 => some (x3_90, z_82, (upd e_t_digits_8 x3_3.toNatClampNeg (x8_57 - (48 : Int32))))))) else (if r_58 = (4 : Int32) then (xob (if r_58 = (2 : Int32) then (if 0 < x3_3 then (some (x4_4 + (1 : Int32))) else (if x8_57 ≤ (48 : Int32) then (if r_58 = (4 : Int32) then (if x3_3 = 0 then (if x8_57 = (48 : Int32) then (some (x4_4 - (1 : Int32))) else (some x4_4)) else (some x4_4)) else (some x4_4)) else (some (x4_4 + (1 : Int32))))) else (if r_58 = (4 : Int32) then (if x3_3 = 0 then (if x8_57 = (48 : Int32) then (some (x4_4 - (1 : Int32))) else (some x4_4)) else (some x4_4)) else (some x4_4))) fun z_101 => if 0 < x3_3 then (if (x3_3 < 0 ∨ n_t_digits ≤ x3_3.toNatClampNeg) then none else xnm (x3_3 + (1 : Int32)) fun x3_106 => some (x3_106, z_101, (upd e_t_digits_8 x3_3.toNatClampNeg (x8_57 - (48 : Int32))))) else (if x8_57 ≤ (48 : Int32) then (some (x3_3, z_101, e_t_digits_8)) else (if (x3_3 < 0 ∨ n_t_digits ≤ x3_3.toNatClampNeg) then none else xnm (x3_3 + (1 : Int32)) fun x3_109 => some (x3_109, z_101, (upd e_t_digits_8 x3_3.toNatClampNeg (x8_57 - (48 : Int32))))))) else (some (x3_3, x4_4, e_t_digits_8)))) fun (x3_66, x4_67, e_t_digits_68) => xob (if r_58 = (8 : Int32) then (some ((((10 : Int32) * x5_5) + x8_57) - (48 : Int32))) else (some x5_5)) fun z_71 => xob (if z_71 ≤ (99999 : Int32) then (some z_71) else (some (99999 : Int32))) fun z_74 => if r_58 = (-1 : Int32) then (lp_Md_read_18 s_t_thrown s_t_length s_t_place s_t_limbCount s_t_rows s_t_columns s_t_laid s_t_size e_t_text n_t_text n_t_digits n_ r_58 x2_2 x3_66 x4_67 z_74 z_60 z_63 e_t_digits_68) else (xnm (x2_2 + (1 : Int32)) fun x2_78 => lp_Md_read_18 s_t_thrown s_t_length s_t_place s_t_limbCount s_t_rows s_t_columns s_t_laid s_t_size e_t_text n_t_text n_t_digits n_ r_58 x2_78 x3_66 x4_67 z_74 z_60 z_63 e_t_digits_68)))
def f_Md_read (n_t_text : Nat) (n_t_digits : Nat) (n_t_counts : Nat) (n_t_points : Nat) (n_t_limbs : Nat) (s_t_thrown : Int32) (s_t_length : Int32) (s_t_place : Int32) (s_t_limbCount : Int32) (s_t_rows : Int32) (s_t_columns : Int32) (s_t_laid : Int32) (s_t_size : Int32) (e_t_text : Nat → Int32) (e_t_digits : Nat → Int32) (e_t_counts : Nat → Int32) (e_t_points : Nat → Int32) (e_t_limbs : Nat → Int32) : Option (Int64 × Int32 × Int32 × Int32 × Int32 × (Nat → Int32) × (Nat → Int32) × (Nat → Int32) × (Nat → Int32)) :=
  xob (lp_Md_read_18 s_t_thrown s_t_length s_t_place s_t_limbCount s_t_rows s_t_columns s_t_laid s_t_size e_t_text n_t_text n_t_digits xF (0 : Int32) (0 : Int32) (0 : Int32) (0 : Int32) (0 : Int32) (0 : Int32) (0 : Int32) e_t_digits) fun (x1_9, x2_10, x3_11, x4_12, x5_13, x6_14, x7_15, e_t_digits_16) => xob (if x1_9 = (-1 : Int32) then (some (0 : Int32)) else (xob (f_Md_ends x1_9) fun r_51 => if r_51 = 0 then (some (0 : Int32)) else (some (1 : Int32)))) fun z_20 => xob (f_Md_goes s_t_thrown s_t_length s_t_place s_t_limbCount s_t_rows s_t_columns s_t_laid s_t_size z_20) fun (r_23, s_t_thrown_24) => if r_23 = 0 then (some ((0 : Int64), s_t_length, s_t_limbCount, x2_10, s_t_thrown_24, e_t_digits_16, e_t_counts, e_t_points, e_t_limbs)) else (xob (if x6_14 = 0 then (some (0 : Int64)) else (some (-9223372036854775808 : Int64))) fun z_27 => if x1_9 = (14 : Int32) then (some ((9221120237041090560 : Int64), (0 : Int32), s_t_limbCount, s_t_place, s_t_thrown_24, e_t_digits_16, e_t_counts, e_t_points, e_t_limbs)) else (if x1_9 = (11 : Int32) then (some (((9218868437227405312 : Int64) ||| z_27), (0 : Int32), s_t_limbCount, s_t_place, s_t_thrown_24, e_t_digits_16, e_t_counts, e_t_points, e_t_limbs)) else (if ((0 : Int32) < 0 ∨ n_t_counts ≤ (0 : Int32).toNatClampNeg) then none else xob (if x7_15 = 0 then (some x5_13) else (some (-x5_13))) fun z_33 => if ((0 : Int32) < 0 ∨ n_t_points ≤ (0 : Int32).toNatClampNeg) then none else xob (f_Md_cutZeros n_t_digits n_t_counts s_t_thrown_24 (0 : Int32) s_t_place s_t_limbCount s_t_rows s_t_columns s_t_laid s_t_size e_t_digits_16 (upd e_t_counts (0 : Int32).toNatClampNeg x3_11) (0 : Int32)) fun e_t_counts_37 => if ((0 : Int32) < 0 ∨ n_t_counts ≤ (0 : Int32).toNatClampNeg) then none else if (e_t_counts_37 (0 : Int32).toNatClampNeg) = 0 then (some (z_27, (0 : Int32), s_t_limbCount, s_t_place, s_t_thrown_24, e_t_digits_16, e_t_counts_37, (upd e_t_points (0 : Int32).toNatClampNeg (x4_12 + z_33)), e_t_limbs)) else (xob (f_Md_nearest n_t_digits n_t_counts n_t_points n_t_limbs s_t_thrown_24 (0 : Int32) s_t_place s_t_limbCount s_t_rows s_t_columns s_t_laid s_t_size e_t_digits_16 e_t_counts_37 (upd e_t_points (0 : Int32).toNatClampNeg (x4_12 + z_33)) e_t_limbs) fun (r_41, s_t_limbCount_42, e_t_digits_43, e_t_counts_44, e_t_points_45, e_t_limbs_46) => some ((z_27 ||| r_41), (0 : Int32), s_t_limbCount_42, s_t_place, s_t_thrown_24, e_t_digits_43, e_t_counts_44, e_t_points_45, e_t_limbs_46)))))
def rm_Md_read : Room := { frames := 5, cells := 0, slots := 0, locals := 131 }
set_option maxHeartbeats 4000000 in
set_option maxRecDepth 100000 in
theorem c_Md_read (l : Launch) (dC : Nat → ClassId) (dI : Nat → Nat → Nat) (a_t a_t_text a_t_digits a_t_counts a_t_points a_t_limbs a_t_cells a_t_lines a_t_draft : Nat) (c_t_text c_t_digits c_t_counts c_t_points c_t_limbs : ClassId) (n_t_text : Nat) (n_t_digits : Nat) (n_t_counts : Nat) (n_t_points : Nat) (n_t_limbs : Nat) (s_t_thrown : Int32) (s_t_length : Int32) (s_t_place : Int32) (s_t_limbCount : Int32) (s_t_rows : Int32) (s_t_columns : Int32) (s_t_laid : Int32) (s_t_size : Int32) (e_t_text : Nat → Int32) (e_t_digits : Nat → Int32) (e_t_counts : Nat → Int32) (e_t_points : Nat → Int32) (e_t_limbs : Nat → Int32) (r_ : Int64) (s_t_length_o : Int32) (s_t_limbCount_o : Int32) (s_t_place_o : Int32) (s_t_thrown_o : Int32) (e_t_digits_o : Nat → Int32) (e_t_counts_o : Nat → Int32) (e_t_points_o : Nat → Int32) (e_t_limbs_o : Nat → Int32) (h : f_Md_read n_t_text n_t_digits n_t_counts n_t_points n_t_limbs s_t_thrown s_t_length s_t_place s_t_limbCount s_t_rows s_t_columns s_t_laid s_t_size e_t_text e_t_digits e_t_counts e_t_points e_t_limbs = some (r_, s_t_length_o, s_t_limbCount_o, s_t_place_o, s_t_thrown_o, e_t_digits_o, e_t_counts_o, e_t_points_o, e_t_limbs_o)) : xM l y_Md_read (Cond.code y_Md_read b_Md_read 10 (some .long) :: xG) rm_Md_read (dC, dI) x_cl x_nz [.ref a_t] [(c_t_text, .int), (c_t_digits, .int), (c_t_counts, .int), (c_t_points, .int), (c_t_limbs, .int)] [(a_t, .inr (8, [.int s_t_thrown, .int s_t_length, .ref a_t_text, .int s_t_place, .ref a_t_digits, .ref a_t_counts, .ref a_t_points, .ref a_t_limbs, .int s_t_limbCount, .int s_t_rows, .int s_t_columns, .ref a_t_cells, .int s_t_laid, .ref a_t_lines, .int s_t_size, .ref a_t_draft])), (a_t_text, .inl (c_t_text, n_t_text, .inl e_t_text)), (a_t_digits, .inl (c_t_digits, n_t_digits, .inl e_t_digits)), (a_t_counts, .inl (c_t_counts, n_t_counts, .inl e_t_counts)), (a_t_points, .inl (c_t_points, n_t_points, .inl e_t_points)), (a_t_limbs, .inl (c_t_limbs, n_t_limbs, .inl e_t_limbs))] (some (.long r_)) [(a_t, .inr (8, [.int s_t_thrown_o, .int s_t_length_o, .ref a_t_text, .int s_t_place_o, .ref a_t_digits, .ref a_t_counts, .ref a_t_points, .ref a_t_limbs, .int s_t_limbCount_o, .int s_t_rows, .int s_t_columns, .ref a_t_cells, .int s_t_laid, .ref a_t_lines, .int s_t_size, .ref a_t_draft])), (a_t_text, .inl (c_t_text, n_t_text, .inl e_t_text)), (a_t_digits, .inl (c_t_digits, n_t_digits, .inl e_t_digits_o)), (a_t_counts, .inl (c_t_counts, n_t_counts, .inl e_t_counts_o)), (a_t_points, .inl (c_t_points, n_t_points, .inl e_t_points_o)), (a_t_limbs, .inl (c_t_limbs, n_t_limbs, .inl e_t_limbs_o))] := by
  unfold f_Md_read at h
  refine xM.mkL (cc := b_Md_read) (maxL := 10)  (by decide +kernel) rfl (Nat.le_of_ble_eq_true rfl) ?_
  intro p e s m args below meth c A Q ls hx hb hml hown hts hNz hA hP hD hK hl hret
  have hS : va_S A s.heap s.heap [] := va_S.rf
  have hl : lv_has ls 10 [(0, .ref a_t)] := hl
  refine lv_iconst (v := 0) hx hb d_Md_read_0 (by decide) ?_
  refine lv_istore_n (lv' := [(1, .int (0 : Int32)), (0, .ref a_t)]) hx hb d_Md_read_1 rfl hl (by decide) rfl (fun ls hl => ?_)
  refine lv_iconst (v := 0) hx hb d_Md_read_2 (by decide) ?_
  refine lv_istore_n (lv' := [(2, .int (0 : Int32)), (1, .int (0 : Int32)), (0, .ref a_t)]) hx hb d_Md_read_3 rfl hl (by decide) rfl (fun ls hl => ?_)
  refine lv_iconst (v := 0) hx hb d_Md_read_4 (by decide) ?_
  refine lv_istore_n (lv' := [(3, .int (0 : Int32)), (2, .int (0 : Int32)), (1, .int (0 : Int32)), (0, .ref a_t)]) hx hb d_Md_read_5 rfl hl (by decide) rfl (fun ls hl => ?_)
  refine lv_iconst (v := 0) hx hb d_Md_read_6 (by decide) ?_
  refine lv_istore (lv' := [(4, .int (0 : Int32)), (3, .int (0 : Int32)), (2, .int (0 : Int32)), (1, .int (0 : Int32)), (0, .ref a_t)]) hx hb d_Md_read_7 hl (by decide) rfl (fun ls hl => ?_)
  refine lv_iconst (v := 0) hx hb d_Md_read_9 (by decide) ?_
  refine lv_istore (lv' := [(5, .int (0 : Int32)), (4, .int (0 : Int32)), (3, .int (0 : Int32)), (2, .int (0 : Int32)), (1, .int (0 : Int32)), (0, .ref a_t)]) hx hb d_Md_read_10 hl (by decide) rfl (fun ls hl => ?_)
  refine lv_iconst (v := 0) hx hb d_Md_read_12 (by decide) ?_
  refine lv_istore (lv' := [(6, .int (0 : Int32)), (5, .int (0 : Int32)), (4, .int (0 : Int32)), (3, .int (0 : Int32)), (2, .int (0 : Int32)), (1, .int (0 : Int32)), (0, .ref a_t)]) hx hb d_Md_read_13 hl (by decide) rfl (fun ls hl => ?_)
  refine lv_iconst (v := 0) hx hb d_Md_read_15 (by decide) ?_
  refine lv_istore (lv' := [(7, .int (0 : Int32)), (6, .int (0 : Int32)), (5, .int (0 : Int32)), (4, .int (0 : Int32)), (3, .int (0 : Int32)), (2, .int (0 : Int32)), (1, .int (0 : Int32)), (0, .ref a_t)]) hx hb d_Md_read_16 hl (by decide) rfl (fun ls hl => ?_)
  replace h := xob_s h
  obtain ⟨⟨x1_9, x2_10, x3_11, x4_12, x5_13, x6_14, x7_15, e_t_digits_16⟩, hlp_17, h⟩ := h
  try dsimp only at h
  have hX_18 : ∀ (H : Heap) (locs : List Loc) (ls : Array Slot), va_P (dC, dI) x_cl [(a_t, .inr (8, [.int s_t_thrown, .int s_t_length, .ref a_t_text, .int s_t_place, .ref a_t_digits, .ref a_t_counts, .ref a_t_points, .ref a_t_limbs, .int s_t_limbCount, .int s_t_rows, .int s_t_columns, .ref a_t_cells, .int s_t_laid, .ref a_t_lines, .int s_t_size, .ref a_t_draft])), (a_t_text, .inl (c_t_text, n_t_text, .inl e_t_text)), (a_t_digits, .inl (c_t_digits, n_t_digits, .inl e_t_digits_16)), (a_t_counts, .inl (c_t_counts, n_t_counts, .inl e_t_counts)), (a_t_points, .inl (c_t_points, n_t_points, .inl e_t_points)), (a_t_limbs, .inl (c_t_limbs, n_t_limbs, .inl e_t_limbs))] H → va_D A [(a_t, .inr (8, [.int s_t_thrown, .int s_t_length, .ref a_t_text, .int s_t_place, .ref a_t_digits, .ref a_t_counts, .ref a_t_points, .ref a_t_limbs, .int s_t_limbCount, .int s_t_rows, .int s_t_columns, .ref a_t_cells, .int s_t_laid, .ref a_t_lines, .int s_t_size, .ref a_t_draft])), (a_t_text, .inl (c_t_text, n_t_text, .inl e_t_text)), (a_t_digits, .inl (c_t_digits, n_t_digits, .inl e_t_digits_16)), (a_t_counts, .inl (c_t_counts, n_t_counts, .inl e_t_counts)), (a_t_points, .inl (c_t_points, n_t_points, .inl e_t_points)), (a_t_limbs, .inl (c_t_limbs, n_t_limbs, .inl e_t_limbs))] → va_S A s.heap H locs → lv_has ls 10 [(0, .ref a_t), (1, .int x1_9), (2, .int x2_10), (3, .int x3_11), (4, .int x4_12), (5, .int x5_13), (6, .int x6_14), (7, .int x7_15)] → W p l e rm_Md_read s m args below meth c H locs 0 0 Q (F0 m 236 ls []) := by
    intro H locs ls hP hD hS hl
    refine lv_aload_n hx hb d_Md_read_236 rfl (lv_at hl 0 rfl) ?_
    refine lv_iload_n hx hb d_Md_read_237 rfl (lv_at hl 1 rfl) ?_
    refine lv_iconst (v := -1) hx hb d_Md_read_238 (by decide) ?_
    replace h := xob_s h
    obtain ⟨z_20, hj_21, h⟩ := h
    try dsimp only at h
    have hJ_22 : ∀ (H : Heap) (locs : List Loc) (ls : Array Slot), va_P (dC, dI) x_cl [(a_t, .inr (8, [.int s_t_thrown, .int s_t_length, .ref a_t_text, .int s_t_place, .ref a_t_digits, .ref a_t_counts, .ref a_t_points, .ref a_t_limbs, .int s_t_limbCount, .int s_t_rows, .int s_t_columns, .ref a_t_cells, .int s_t_laid, .ref a_t_lines, .int s_t_size, .ref a_t_draft])), (a_t_text, .inl (c_t_text, n_t_text, .inl e_t_text)), (a_t_digits, .inl (c_t_digits, n_t_digits, .inl e_t_digits_16)), (a_t_counts, .inl (c_t_counts, n_t_counts, .inl e_t_counts)), (a_t_points, .inl (c_t_points, n_t_points, .inl e_t_points)), (a_t_limbs, .inl (c_t_limbs, n_t_limbs, .inl e_t_limbs))] H → va_D A [(a_t, .inr (8, [.int s_t_thrown, .int s_t_length, .ref a_t_text, .int s_t_place, .ref a_t_digits, .ref a_t_counts, .ref a_t_points, .ref a_t_limbs, .int s_t_limbCount, .int s_t_rows, .int s_t_columns, .ref a_t_cells, .int s_t_laid, .ref a_t_lines, .int s_t_size, .ref a_t_draft])), (a_t_text, .inl (c_t_text, n_t_text, .inl e_t_text)), (a_t_digits, .inl (c_t_digits, n_t_digits, .inl e_t_digits_16)), (a_t_counts, .inl (c_t_counts, n_t_counts, .inl e_t_counts)), (a_t_points, .inl (c_t_points, n_t_points, .inl e_t_points)), (a_t_limbs, .inl (c_t_limbs, n_t_limbs, .inl e_t_limbs))] → va_S A s.heap H locs → lv_has ls 10 [(0, .ref a_t), (1, .int x1_9), (2, .int x2_10), (3, .int x3_11), (4, .int x4_12), (5, .int x5_13), (6, .int x6_14), (7, .int x7_15)] → W p l e rm_Md_read s m args below meth c H locs 0 0 Q (F0 m 254 ls [.int z_20, .ref a_t]) := by
      intro H locs ls hP hD hS hl
      replace h := xob_s h
      obtain ⟨⟨r_23, s_t_thrown_24⟩, hc_25, h⟩ := h
      try dsimp only at h
      refine xcV (As := [.int z_20]) (rest := []) (st1 := [.int r_23]) (wr := [(a_t_text, .inl (c_t_text, n_t_text, .inl e_t_text)), (a_t_digits, .inl (c_t_digits, n_t_digits, .inl e_t_digits_16)), (a_t_counts, .inl (c_t_counts, n_t_counts, .inl e_t_counts)), (a_t_points, .inl (c_t_points, n_t_points, .inl e_t_points)), (a_t_limbs, .inl (c_t_limbs, n_t_limbs, .inl e_t_limbs))]) ⟨hx, hb, hml, hown, hts⟩ (c_Md_goes l dC dI a_t a_t_text a_t_digits a_t_counts a_t_points a_t_limbs a_t_cells a_t_lines a_t_draft s_t_thrown s_t_length s_t_place s_t_limbCount s_t_rows s_t_columns s_t_laid s_t_size z_20 r_23 s_t_thrown_24 hc_25) (cwV 1 hts (xgoodV g_790 g_792 gp_22 g_10 g_793) rfl rfl rfl (by decide +kernel) ⟨Nat.le_of_ble_eq_true rfl, Nat.le_of_ble_eq_true rfl⟩) hNz (ci := 8) (q0 := 0) rfl rfl hA hP hD hS hK [0] [1, 2, 3, 4, 5] [] rfl rfl rfl rfl (by decide) rfl rfl rfl rfl hl.1 (Nat.le_of_ble_eq_true rfl) ⟨Nat.zero_le _, Nat.zero_le _⟩ d_Md_read_254 (fun H locs hP hD hS => ?_)
      have hP : va_P (dC, dI) x_cl [(a_t_text, .inl (c_t_text, n_t_text, .inl e_t_text)), (a_t_digits, .inl (c_t_digits, n_t_digits, .inl e_t_digits_16)), (a_t_counts, .inl (c_t_counts, n_t_counts, .inl e_t_counts)), (a_t_points, .inl (c_t_points, n_t_points, .inl e_t_points)), (a_t_limbs, .inl (c_t_limbs, n_t_limbs, .inl e_t_limbs)), (a_t, .inr (8, [.int s_t_thrown_24, .int s_t_length, .ref a_t_text, .int s_t_place, .ref a_t_digits, .ref a_t_counts, .ref a_t_points, .ref a_t_limbs, .int s_t_limbCount, .int s_t_rows, .int s_t_columns, .ref a_t_cells, .int s_t_laid, .ref a_t_lines, .int s_t_size, .ref a_t_draft]))] H := hP
      have hD : va_D A [(a_t_text, .inl (c_t_text, n_t_text, .inl e_t_text)), (a_t_digits, .inl (c_t_digits, n_t_digits, .inl e_t_digits_16)), (a_t_counts, .inl (c_t_counts, n_t_counts, .inl e_t_counts)), (a_t_points, .inl (c_t_points, n_t_points, .inl e_t_points)), (a_t_limbs, .inl (c_t_limbs, n_t_limbs, .inl e_t_limbs)), (a_t, .inr (8, [.int s_t_thrown_24, .int s_t_length, .ref a_t_text, .int s_t_place, .ref a_t_digits, .ref a_t_counts, .ref a_t_points, .ref a_t_limbs, .int s_t_limbCount, .int s_t_rows, .int s_t_columns, .ref a_t_cells, .int s_t_laid, .ref a_t_lines, .int s_t_size, .ref a_t_draft]))] := hD
      refine lv_if_ne (tgt := 267) hx hb d_Md_read_257 (by decide) (fun c_26 => ?_) (fun c_26 => ?_)
      · rw [if_neg c_26] at h
        refine lv_aload_n hx hb d_Md_read_267 rfl (lv_at hl 0 rfl) ?_
        refine lv_iconst (v := 0) hx hb d_Md_read_268 (by decide) ?_
        refine va_put (D := (dC, dI)) (ci := 8) (v := .int (0 : Int32)) (ty := .int) (C := R_Md) (T := T_Md) (N := 16) hx hb hts in_Md ty_Md tyok_Md nn_Md hown hK hP hD hS 5 rfl rfl 1 (by decide) (hts _ g_707) (fun _ h9 => h9) rfl (by decide +kernel) rfl rfl (Nat.le_of_ble_eq_true rfl) d_Md_read_269 (fun H locs hP hD hS => ?_)
        have hP : va_P (dC, dI) x_cl [(a_t_text, .inl (c_t_text, n_t_text, .inl e_t_text)), (a_t_digits, .inl (c_t_digits, n_t_digits, .inl e_t_digits_16)), (a_t_counts, .inl (c_t_counts, n_t_counts, .inl e_t_counts)), (a_t_points, .inl (c_t_points, n_t_points, .inl e_t_points)), (a_t_limbs, .inl (c_t_limbs, n_t_limbs, .inl e_t_limbs)), (a_t, .inr (8, [.int s_t_thrown_24, .int (0 : Int32), .ref a_t_text, .int s_t_place, .ref a_t_digits, .ref a_t_counts, .ref a_t_points, .ref a_t_limbs, .int s_t_limbCount, .int s_t_rows, .int s_t_columns, .ref a_t_cells, .int s_t_laid, .ref a_t_lines, .int s_t_size, .ref a_t_draft]))] H := hP
        have hD : va_D A [(a_t_text, .inl (c_t_text, n_t_text, .inl e_t_text)), (a_t_digits, .inl (c_t_digits, n_t_digits, .inl e_t_digits_16)), (a_t_counts, .inl (c_t_counts, n_t_counts, .inl e_t_counts)), (a_t_points, .inl (c_t_points, n_t_points, .inl e_t_points)), (a_t_limbs, .inl (c_t_limbs, n_t_limbs, .inl e_t_limbs)), (a_t, .inr (8, [.int s_t_thrown_24, .int (0 : Int32), .ref a_t_text, .int s_t_place, .ref a_t_digits, .ref a_t_counts, .ref a_t_points, .ref a_t_limbs, .int s_t_limbCount, .int s_t_rows, .int s_t_columns, .ref a_t_cells, .int s_t_laid, .ref a_t_lines, .int s_t_size, .ref a_t_draft]))] := hD
        refine lv_iload hx hb d_Md_read_272 (lv_at hl 6 rfl) ?_
        replace h := xob_s h
        obtain ⟨z_27, hj_28, h⟩ := h
        try dsimp only at h
        have hJ_29 : ∀ (H : Heap) (locs : List Loc) (ls : Array Slot), va_P (dC, dI) x_cl [(a_t, .inr (8, [.int s_t_thrown_24, .int (0 : Int32), .ref a_t_text, .int s_t_place, .ref a_t_digits, .ref a_t_counts, .ref a_t_points, .ref a_t_limbs, .int s_t_limbCount, .int s_t_rows, .int s_t_columns, .ref a_t_cells, .int s_t_laid, .ref a_t_lines, .int s_t_size, .ref a_t_draft])), (a_t_text, .inl (c_t_text, n_t_text, .inl e_t_text)), (a_t_digits, .inl (c_t_digits, n_t_digits, .inl e_t_digits_16)), (a_t_counts, .inl (c_t_counts, n_t_counts, .inl e_t_counts)), (a_t_points, .inl (c_t_points, n_t_points, .inl e_t_points)), (a_t_limbs, .inl (c_t_limbs, n_t_limbs, .inl e_t_limbs))] H → va_D A [(a_t, .inr (8, [.int s_t_thrown_24, .int (0 : Int32), .ref a_t_text, .int s_t_place, .ref a_t_digits, .ref a_t_counts, .ref a_t_points, .ref a_t_limbs, .int s_t_limbCount, .int s_t_rows, .int s_t_columns, .ref a_t_cells, .int s_t_laid, .ref a_t_lines, .int s_t_size, .ref a_t_draft])), (a_t_text, .inl (c_t_text, n_t_text, .inl e_t_text)), (a_t_digits, .inl (c_t_digits, n_t_digits, .inl e_t_digits_16)), (a_t_counts, .inl (c_t_counts, n_t_counts, .inl e_t_counts)), (a_t_points, .inl (c_t_points, n_t_points, .inl e_t_points)), (a_t_limbs, .inl (c_t_limbs, n_t_limbs, .inl e_t_limbs))] → va_S A s.heap H locs → lv_has ls 10 [(0, .ref a_t), (1, .int x1_9), (3, .int x3_11), (4, .int x4_12), (5, .int x5_13), (7, .int x7_15)] → W p l e rm_Md_read s m args below meth c H locs 0 0 Q (F0 m 284 ls [.long z_27]) := by
          intro H locs ls hP hD hS hl
          refine lv_lstore (lv' := [(8, .long z_27), (0, .ref a_t), (1, .int x1_9), (3, .int x3_11), (4, .int x4_12), (5, .int x5_13), (7, .int x7_15)]) hx hb d_Md_read_284 hl (by decide) rfl (fun ls hl => ?_)
          refine lv_iload_n hx hb d_Md_read_286 rfl (lv_at hl 2 rfl) ?_
          refine lv_bipush (v := 14) hx hb d_Md_read_287 (by decide) ?_
          refine lv_icmp_ne (tgt := 296) hx hb d_Md_read_289 (by decide) (fun c_30 => ?_) (fun c_30 => ?_)
          · rw [if_neg c_30] at h
            refine lv_iload_n hx hb d_Md_read_296 rfl (lv_at hl 2 rfl) ?_
            refine lv_bipush (v := 11) hx hb d_Md_read_297 (by decide) ?_
            refine lv_icmp_ne (tgt := 309) hx hb d_Md_read_299 (by decide) (fun c_31 => ?_) (fun c_31 => ?_)
            · rw [if_neg c_31] at h
              refine lv_aload_n hx hb d_Md_read_309 rfl (lv_at hl 1 rfl) ?_
              refine va_get (D := (dC, dI)) (ci := 8) (v := .ref a_t_counts) (C := R_Md) (T := T_Md) (N := 16) hx hb hts in_Md hown hK hP 0 rfl rfl 5 (by decide) (hts _ g_711) (fun _ h9 => h9) rfl d_Md_read_310 ?_
              refine lv_iconst (v := 0) hx hb d_Md_read_313 (by decide) ?_
              refine lv_iload_n hx hb d_Md_read_314 rfl (lv_at hl 3 rfl) ?_
              replace h := xg h
              obtain ⟨hg_32, h⟩ := h
              refine va_iast hx hb hK hP hD hS 3 2 rfl rfl hg_32 d_Md_read_315 (fun H locs hP hD hS => ?_)
              have hP : va_P (dC, dI) x_cl [(a_t, .inr (8, [.int s_t_thrown_24, .int (0 : Int32), .ref a_t_text, .int s_t_place, .ref a_t_digits, .ref a_t_counts, .ref a_t_points, .ref a_t_limbs, .int s_t_limbCount, .int s_t_rows, .int s_t_columns, .ref a_t_cells, .int s_t_laid, .ref a_t_lines, .int s_t_size, .ref a_t_draft])), (a_t_text, .inl (c_t_text, n_t_text, .inl e_t_text)), (a_t_digits, .inl (c_t_digits, n_t_digits, .inl e_t_digits_16)), (a_t_counts, .inl (c_t_counts, n_t_counts, .inl ((upd e_t_counts (0 : Int32).toNatClampNeg x3_11)))), (a_t_points, .inl (c_t_points, n_t_points, .inl e_t_points)), (a_t_limbs, .inl (c_t_limbs, n_t_limbs, .inl e_t_limbs))] H := hP
              have hD : va_D A [(a_t, .inr (8, [.int s_t_thrown_24, .int (0 : Int32), .ref a_t_text, .int s_t_place, .ref a_t_digits, .ref a_t_counts, .ref a_t_points, .ref a_t_limbs, .int s_t_limbCount, .int s_t_rows, .int s_t_columns, .ref a_t_cells, .int s_t_laid, .ref a_t_lines, .int s_t_size, .ref a_t_draft])), (a_t_text, .inl (c_t_text, n_t_text, .inl e_t_text)), (a_t_digits, .inl (c_t_digits, n_t_digits, .inl e_t_digits_16)), (a_t_counts, .inl (c_t_counts, n_t_counts, .inl ((upd e_t_counts (0 : Int32).toNatClampNeg x3_11)))), (a_t_points, .inl (c_t_points, n_t_points, .inl e_t_points)), (a_t_limbs, .inl (c_t_limbs, n_t_limbs, .inl e_t_limbs))] := hD
              refine lv_aload_n hx hb d_Md_read_316 rfl (lv_at hl 1 rfl) ?_
              refine va_get (D := (dC, dI)) (ci := 8) (v := .ref a_t_points) (C := R_Md) (T := T_Md) (N := 16) hx hb hts in_Md hown hK hP 0 rfl rfl 6 (by decide) (hts _ g_712) (fun _ h9 => h9) rfl d_Md_read_317 ?_
              refine lv_iconst (v := 0) hx hb d_Md_read_320 (by decide) ?_
              refine lv_iload hx hb d_Md_read_321 (lv_at hl 4 rfl) ?_
              refine lv_iload hx hb d_Md_read_323 (lv_at hl 6 rfl) ?_
              replace h := xob_s h
              obtain ⟨z_33, hj_34, h⟩ := h
              try dsimp only at h
              have hJ_35 : ∀ (H : Heap) (locs : List Loc) (ls : Array Slot), va_P (dC, dI) x_cl [(a_t, .inr (8, [.int s_t_thrown_24, .int (0 : Int32), .ref a_t_text, .int s_t_place, .ref a_t_digits, .ref a_t_counts, .ref a_t_points, .ref a_t_limbs, .int s_t_limbCount, .int s_t_rows, .int s_t_columns, .ref a_t_cells, .int s_t_laid, .ref a_t_lines, .int s_t_size, .ref a_t_draft])), (a_t_text, .inl (c_t_text, n_t_text, .inl e_t_text)), (a_t_digits, .inl (c_t_digits, n_t_digits, .inl e_t_digits_16)), (a_t_counts, .inl (c_t_counts, n_t_counts, .inl ((upd e_t_counts (0 : Int32).toNatClampNeg x3_11)))), (a_t_points, .inl (c_t_points, n_t_points, .inl e_t_points)), (a_t_limbs, .inl (c_t_limbs, n_t_limbs, .inl e_t_limbs))] H → va_D A [(a_t, .inr (8, [.int s_t_thrown_24, .int (0 : Int32), .ref a_t_text, .int s_t_place, .ref a_t_digits, .ref a_t_counts, .ref a_t_points, .ref a_t_limbs, .int s_t_limbCount, .int s_t_rows, .int s_t_columns, .ref a_t_cells, .int s_t_laid, .ref a_t_lines, .int s_t_size, .ref a_t_draft])), (a_t_text, .inl (c_t_text, n_t_text, .inl e_t_text)), (a_t_digits, .inl (c_t_digits, n_t_digits, .inl e_t_digits_16)), (a_t_counts, .inl (c_t_counts, n_t_counts, .inl ((upd e_t_counts (0 : Int32).toNatClampNeg x3_11)))), (a_t_points, .inl (c_t_points, n_t_points, .inl e_t_points)), (a_t_limbs, .inl (c_t_limbs, n_t_limbs, .inl e_t_limbs))] → va_S A s.heap H locs → lv_has ls 10 [(0, .ref a_t), (8, .long z_27)] → W p l e rm_Md_read s m args below meth c H locs 0 0 Q (F0 m 336 ls [.int z_33, .int x4_12, .int (0 : Int32), .ref a_t_points]) := by
                intro H locs ls hP hD hS hl
                refine lv_iadd hx hb d_Md_read_336 ?_
                replace h := xg h
                obtain ⟨hg_36, h⟩ := h
                refine va_iast hx hb hK hP hD hS 4 3 rfl rfl hg_36 d_Md_read_337 (fun H locs hP hD hS => ?_)
                have hP : va_P (dC, dI) x_cl [(a_t, .inr (8, [.int s_t_thrown_24, .int (0 : Int32), .ref a_t_text, .int s_t_place, .ref a_t_digits, .ref a_t_counts, .ref a_t_points, .ref a_t_limbs, .int s_t_limbCount, .int s_t_rows, .int s_t_columns, .ref a_t_cells, .int s_t_laid, .ref a_t_lines, .int s_t_size, .ref a_t_draft])), (a_t_text, .inl (c_t_text, n_t_text, .inl e_t_text)), (a_t_digits, .inl (c_t_digits, n_t_digits, .inl e_t_digits_16)), (a_t_counts, .inl (c_t_counts, n_t_counts, .inl ((upd e_t_counts (0 : Int32).toNatClampNeg x3_11)))), (a_t_points, .inl (c_t_points, n_t_points, .inl ((upd e_t_points (0 : Int32).toNatClampNeg (x4_12 + z_33))))), (a_t_limbs, .inl (c_t_limbs, n_t_limbs, .inl e_t_limbs))] H := hP
                have hD : va_D A [(a_t, .inr (8, [.int s_t_thrown_24, .int (0 : Int32), .ref a_t_text, .int s_t_place, .ref a_t_digits, .ref a_t_counts, .ref a_t_points, .ref a_t_limbs, .int s_t_limbCount, .int s_t_rows, .int s_t_columns, .ref a_t_cells, .int s_t_laid, .ref a_t_lines, .int s_t_size, .ref a_t_draft])), (a_t_text, .inl (c_t_text, n_t_text, .inl e_t_text)), (a_t_digits, .inl (c_t_digits, n_t_digits, .inl e_t_digits_16)), (a_t_counts, .inl (c_t_counts, n_t_counts, .inl ((upd e_t_counts (0 : Int32).toNatClampNeg x3_11)))), (a_t_points, .inl (c_t_points, n_t_points, .inl ((upd e_t_points (0 : Int32).toNatClampNeg (x4_12 + z_33))))), (a_t_limbs, .inl (c_t_limbs, n_t_limbs, .inl e_t_limbs))] := hD
                refine lv_aload_n hx hb d_Md_read_338 rfl (lv_at hl 0 rfl) ?_
                refine lv_iconst (v := 0) hx hb d_Md_read_339 (by decide) ?_
                replace h := xob_s h
                obtain ⟨e_t_counts_37, hc_38, h⟩ := h
                try dsimp only at h
                refine xcV (As := [.int (0 : Int32)]) (rest := []) (st1 := []) (wr := [(a_t_text, .inl (c_t_text, n_t_text, .inl e_t_text)), (a_t_points, .inl (c_t_points, n_t_points, .inl ((upd e_t_points (0 : Int32).toNatClampNeg (x4_12 + z_33))))), (a_t_limbs, .inl (c_t_limbs, n_t_limbs, .inl e_t_limbs))]) ⟨hx, hb, hml, hown, hts⟩ (c_Md_cutZeros l dC dI a_t a_t_text a_t_digits a_t_counts a_t_points a_t_limbs a_t_cells a_t_lines a_t_draft c_t_digits c_t_counts n_t_digits n_t_counts s_t_thrown_24 (0 : Int32) s_t_place s_t_limbCount s_t_rows s_t_columns s_t_laid s_t_size e_t_digits_16 (upd e_t_counts (0 : Int32).toNatClampNeg x3_11) (0 : Int32) e_t_counts_37 hc_38) (cwV 1 hts (xgoodV g_797 g_799 gp_23 g_10 g_800) rfl rfl rfl (by decide +kernel) ⟨Nat.le_of_ble_eq_true rfl, Nat.le_of_ble_eq_true rfl⟩) hNz (ci := 8) (q0 := 0) rfl rfl hA hP hD hS hK [0, 2, 3] [1, 4, 5] [1, 2] rfl rfl rfl rfl (by decide) rfl rfl rfl rfl hl.1 (Nat.le_of_ble_eq_true rfl) ⟨Nat.zero_le _, Nat.zero_le _⟩ d_Md_read_340 (fun H locs hP hD hS => ?_)
                have hP : va_P (dC, dI) x_cl [(a_t_text, .inl (c_t_text, n_t_text, .inl e_t_text)), (a_t_points, .inl (c_t_points, n_t_points, .inl ((upd e_t_points (0 : Int32).toNatClampNeg (x4_12 + z_33))))), (a_t_limbs, .inl (c_t_limbs, n_t_limbs, .inl e_t_limbs)), (a_t, .inr (8, [.int s_t_thrown_24, .int (0 : Int32), .ref a_t_text, .int s_t_place, .ref a_t_digits, .ref a_t_counts, .ref a_t_points, .ref a_t_limbs, .int s_t_limbCount, .int s_t_rows, .int s_t_columns, .ref a_t_cells, .int s_t_laid, .ref a_t_lines, .int s_t_size, .ref a_t_draft])), (a_t_digits, .inl (c_t_digits, n_t_digits, .inl e_t_digits_16)), (a_t_counts, .inl (c_t_counts, n_t_counts, .inl e_t_counts_37))] H := hP
                have hD : va_D A [(a_t_text, .inl (c_t_text, n_t_text, .inl e_t_text)), (a_t_points, .inl (c_t_points, n_t_points, .inl ((upd e_t_points (0 : Int32).toNatClampNeg (x4_12 + z_33))))), (a_t_limbs, .inl (c_t_limbs, n_t_limbs, .inl e_t_limbs)), (a_t, .inr (8, [.int s_t_thrown_24, .int (0 : Int32), .ref a_t_text, .int s_t_place, .ref a_t_digits, .ref a_t_counts, .ref a_t_points, .ref a_t_limbs, .int s_t_limbCount, .int s_t_rows, .int s_t_columns, .ref a_t_cells, .int s_t_laid, .ref a_t_lines, .int s_t_size, .ref a_t_draft])), (a_t_digits, .inl (c_t_digits, n_t_digits, .inl e_t_digits_16)), (a_t_counts, .inl (c_t_counts, n_t_counts, .inl e_t_counts_37))] := hD
                refine lv_aload_n hx hb d_Md_read_343 rfl (lv_at hl 0 rfl) ?_
                refine va_get (D := (dC, dI)) (ci := 8) (v := .ref a_t_counts) (C := R_Md) (T := T_Md) (N := 16) hx hb hts in_Md hown hK hP 3 rfl rfl 5 (by decide) (hts _ g_711) (fun _ h9 => h9) rfl d_Md_read_344 ?_
                refine lv_iconst (v := 0) hx hb d_Md_read_347 (by decide) ?_
                replace h := xg h
                obtain ⟨hg_39, h⟩ := h
                refine va_iald hx hb hK hP 5 2 rfl rfl hg_39 d_Md_read_348 ?_
                refine lv_if_ne (tgt := 357) hx hb d_Md_read_349 (by decide) (fun c_40 => ?_) (fun c_40 => ?_)
                · rw [if_neg c_40] at h
                  refine lv_lload hx hb d_Md_read_357 (lv_at hl 1 rfl) ?_
                  refine lv_aload_n hx hb d_Md_read_359 rfl (lv_at hl 0 rfl) ?_
                  replace h := xob_s h
                  obtain ⟨⟨r_41, s_t_limbCount_42, e_t_digits_43, e_t_counts_44, e_t_points_45, e_t_limbs_46⟩, hc_47, h⟩ := h
                  try dsimp only at h
                  refine xcV (As := []) (rest := [.long z_27]) (st1 := [.long r_41, .long z_27]) (wr := [(a_t_text, .inl (c_t_text, n_t_text, .inl e_t_text))]) ⟨hx, hb, hml, hown, hts⟩ (c_Md_nearest l dC dI a_t a_t_text a_t_digits a_t_counts a_t_points a_t_limbs a_t_cells a_t_lines a_t_draft c_t_digits c_t_counts c_t_points c_t_limbs n_t_digits n_t_counts n_t_points n_t_limbs s_t_thrown_24 (0 : Int32) s_t_place s_t_limbCount s_t_rows s_t_columns s_t_laid s_t_size e_t_digits_16 e_t_counts_37 (upd e_t_points (0 : Int32).toNatClampNeg (x4_12 + z_33)) e_t_limbs r_41 s_t_limbCount_42 e_t_digits_43 e_t_counts_44 e_t_points_45 e_t_limbs_46 hc_47) (cwV 0 hts (xgoodV g_801 g_803 gp_24 g_10 g_804) rfl rfl rfl (by decide +kernel) ⟨Nat.le_of_ble_eq_true rfl, Nat.le_of_ble_eq_true rfl⟩) hNz (ci := 8) (q0 := 3) rfl rfl hA hP hD hS hK [3, 4, 5, 1, 2] [0] [1, 2, 3, 4] rfl rfl rfl rfl (by decide) rfl rfl rfl rfl hl.1 (Nat.le_of_ble_eq_true rfl) ⟨Nat.zero_le _, Nat.zero_le _⟩ d_Md_read_360 (fun H locs hP hD hS => ?_)
                  have hP : va_P (dC, dI) x_cl [(a_t_text, .inl (c_t_text, n_t_text, .inl e_t_text)), (a_t, .inr (8, [.int s_t_thrown_24, .int (0 : Int32), .ref a_t_text, .int s_t_place, .ref a_t_digits, .ref a_t_counts, .ref a_t_points, .ref a_t_limbs, .int s_t_limbCount_42, .int s_t_rows, .int s_t_columns, .ref a_t_cells, .int s_t_laid, .ref a_t_lines, .int s_t_size, .ref a_t_draft])), (a_t_digits, .inl (c_t_digits, n_t_digits, .inl e_t_digits_43)), (a_t_counts, .inl (c_t_counts, n_t_counts, .inl e_t_counts_44)), (a_t_points, .inl (c_t_points, n_t_points, .inl e_t_points_45)), (a_t_limbs, .inl (c_t_limbs, n_t_limbs, .inl e_t_limbs_46))] H := hP
                  have hD : va_D A [(a_t_text, .inl (c_t_text, n_t_text, .inl e_t_text)), (a_t, .inr (8, [.int s_t_thrown_24, .int (0 : Int32), .ref a_t_text, .int s_t_place, .ref a_t_digits, .ref a_t_counts, .ref a_t_points, .ref a_t_limbs, .int s_t_limbCount_42, .int s_t_rows, .int s_t_columns, .ref a_t_cells, .int s_t_laid, .ref a_t_lines, .int s_t_size, .ref a_t_draft])), (a_t_digits, .inl (c_t_digits, n_t_digits, .inl e_t_digits_43)), (a_t_counts, .inl (c_t_counts, n_t_counts, .inl e_t_counts_44)), (a_t_points, .inl (c_t_points, n_t_points, .inl e_t_points_45)), (a_t_limbs, .inl (c_t_limbs, n_t_limbs, .inl e_t_limbs_46))] := hD
                  refine lv_lor hx hb d_Md_read_363 ?_
                  replace h := Option.some.inj h
                  replace h := Prod.mk.inj h
                  obtain ⟨h1, h⟩ := h
                  subst h1
                  replace h := Prod.mk.inj h
                  obtain ⟨h1, h⟩ := h
                  subst h1
                  replace h := Prod.mk.inj h
                  obtain ⟨h1, h⟩ := h
                  subst h1
                  replace h := Prod.mk.inj h
                  obtain ⟨h1, h⟩ := h
                  subst h1
                  replace h := Prod.mk.inj h
                  obtain ⟨h1, h⟩ := h
                  subst h1
                  replace h := Prod.mk.inj h
                  obtain ⟨h1, h⟩ := h
                  subst h1
                  replace h := Prod.mk.inj h
                  obtain ⟨h1, h⟩ := h
                  subst h1
                  replace h := Prod.mk.inj h
                  obtain ⟨h1, h⟩ := h
                  subst h1
                  subst h
                  exact hret _ _ (hP.sub [1, 0, 2, 3, 4, 5] rfl) (hD.sub [1, 0, 2, 3, 4, 5] (by decide) rfl) hS _ _ d_Md_read_364
                · rw [if_pos c_40] at h
                  refine lv_lload hx hb d_Md_read_352 (lv_at hl 1 rfl) ?_
                  refine lv_goto (tgt := 364) hx hb d_Md_read_354 (by decide) ?_
                  replace h := Option.some.inj h
                  replace h := Prod.mk.inj h
                  obtain ⟨h1, h⟩ := h
                  subst h1
                  replace h := Prod.mk.inj h
                  obtain ⟨h1, h⟩ := h
                  subst h1
                  replace h := Prod.mk.inj h
                  obtain ⟨h1, h⟩ := h
                  subst h1
                  replace h := Prod.mk.inj h
                  obtain ⟨h1, h⟩ := h
                  subst h1
                  replace h := Prod.mk.inj h
                  obtain ⟨h1, h⟩ := h
                  subst h1
                  replace h := Prod.mk.inj h
                  obtain ⟨h1, h⟩ := h
                  subst h1
                  replace h := Prod.mk.inj h
                  obtain ⟨h1, h⟩ := h
                  subst h1
                  replace h := Prod.mk.inj h
                  obtain ⟨h1, h⟩ := h
                  subst h1
                  subst h
                  exact hret _ _ (hP.sub [3, 0, 4, 5, 1, 2] rfl) (hD.sub [3, 0, 4, 5, 1, 2] (by decide) rfl) hS _ _ d_Md_read_364
              replace h := hj_34
              clear hj_34
              refine lv_if_eq (tgt := 334) hx hb d_Md_read_325 (by decide) (fun c_48 => ?_) (fun c_48 => ?_)
              · rw [if_pos c_48] at h
                refine lv_iload hx hb d_Md_read_334 (lv_at hl 5 rfl) ?_
                replace h := Option.some.inj h
                subst h
                exact hJ_35 _ _ _ hP hD hS (lv_sub hl [1, 0] rfl)
              · rw [if_neg c_48] at h
                refine lv_iload hx hb d_Md_read_328 (lv_at hl 5 rfl) ?_
                refine lv_ineg hx hb d_Md_read_330 ?_
                refine lv_goto (tgt := 336) hx hb d_Md_read_331 (by decide) ?_
                replace h := Option.some.inj h
                subst h
                exact hJ_35 _ _ _ hP hD hS (lv_sub hl [1, 0] rfl)
            · rw [if_pos c_31] at h
              refine lv_ldc2 (v := 9218868437227405312) hx hb hown (hts _ g_796) d_Md_read_302 ?_
              refine lv_lload hx hb d_Md_read_305 (lv_at hl 0 rfl) ?_
              refine lv_lor hx hb d_Md_read_307 ?_
              replace h := Option.some.inj h
              replace h := Prod.mk.inj h
              obtain ⟨h1, h⟩ := h
              subst h1
              replace h := Prod.mk.inj h
              obtain ⟨h1, h⟩ := h
              subst h1
              replace h := Prod.mk.inj h
              obtain ⟨h1, h⟩ := h
              subst h1
              replace h := Prod.mk.inj h
              obtain ⟨h1, h⟩ := h
              subst h1
              replace h := Prod.mk.inj h
              obtain ⟨h1, h⟩ := h
              subst h1
              replace h := Prod.mk.inj h
              obtain ⟨h1, h⟩ := h
              subst h1
              replace h := Prod.mk.inj h
              obtain ⟨h1, h⟩ := h
              subst h1
              replace h := Prod.mk.inj h
              obtain ⟨h1, h⟩ := h
              subst h1
              subst h
              exact hret _ _ hP hD hS _ _ d_Md_read_308
          · rw [if_pos c_30] at h
            refine lv_ldc2 (v := 9221120237041090560) hx hb hown (hts _ g_795) d_Md_read_292 ?_
            replace h := Option.some.inj h
            replace h := Prod.mk.inj h
            obtain ⟨h1, h⟩ := h
            subst h1
            replace h := Prod.mk.inj h
            obtain ⟨h1, h⟩ := h
            subst h1
            replace h := Prod.mk.inj h
            obtain ⟨h1, h⟩ := h
            subst h1
            replace h := Prod.mk.inj h
            obtain ⟨h1, h⟩ := h
            subst h1
            replace h := Prod.mk.inj h
            obtain ⟨h1, h⟩ := h
            subst h1
            replace h := Prod.mk.inj h
            obtain ⟨h1, h⟩ := h
            subst h1
            replace h := Prod.mk.inj h
            obtain ⟨h1, h⟩ := h
            subst h1
            replace h := Prod.mk.inj h
            obtain ⟨h1, h⟩ := h
            subst h1
            subst h
            exact hret _ _ hP hD hS _ _ d_Md_read_295
        replace h := hj_28
        clear hj_28
        refine lv_if_eq (tgt := 283) hx hb d_Md_read_274 (by decide) (fun c_49 => ?_) (fun c_49 => ?_)
        · rw [if_pos c_49] at h
          refine lv_lconst (v := 0) hx hb d_Md_read_283 (by decide) ?_
          replace h := Option.some.inj h
          subst h
          exact hJ_29 _ _ _ (hP.sub [5, 0, 1, 2, 3, 4] rfl) (hD.sub [5, 0, 1, 2, 3, 4] (by decide) rfl) hS (lv_sub hl [0, 1, 3, 4, 5, 7] rfl)
        · rw [if_neg c_49] at h
          refine lv_ldc2 (v := -9223372036854775808) hx hb hown (hts _ g_794) d_Md_read_277 ?_
          refine lv_goto (tgt := 284) hx hb d_Md_read_280 (by decide) ?_
          replace h := Option.some.inj h
          subst h
          exact hJ_29 _ _ _ (hP.sub [5, 0, 1, 2, 3, 4] rfl) (hD.sub [5, 0, 1, 2, 3, 4] (by decide) rfl) hS (lv_sub hl [0, 1, 3, 4, 5, 7] rfl)
      · rw [if_pos c_26] at h
        refine lv_aload_n hx hb d_Md_read_260 rfl (lv_at hl 0 rfl) ?_
        refine lv_iload_n hx hb d_Md_read_261 rfl (lv_at hl 2 rfl) ?_
        refine va_put (D := (dC, dI)) (ci := 8) (v := .int x2_10) (ty := .int) (C := R_Md) (T := T_Md) (N := 16) hx hb hts in_Md ty_Md tyok_Md nn_Md hown hK hP hD hS 5 rfl rfl 3 (by decide) (hts _ g_709) (fun _ h9 => h9) rfl (by decide +kernel) rfl rfl (Nat.le_of_ble_eq_true rfl) d_Md_read_262 (fun H locs hP hD hS => ?_)
        have hP : va_P (dC, dI) x_cl [(a_t_text, .inl (c_t_text, n_t_text, .inl e_t_text)), (a_t_digits, .inl (c_t_digits, n_t_digits, .inl e_t_digits_16)), (a_t_counts, .inl (c_t_counts, n_t_counts, .inl e_t_counts)), (a_t_points, .inl (c_t_points, n_t_points, .inl e_t_points)), (a_t_limbs, .inl (c_t_limbs, n_t_limbs, .inl e_t_limbs)), (a_t, .inr (8, [.int s_t_thrown_24, .int s_t_length, .ref a_t_text, .int x2_10, .ref a_t_digits, .ref a_t_counts, .ref a_t_points, .ref a_t_limbs, .int s_t_limbCount, .int s_t_rows, .int s_t_columns, .ref a_t_cells, .int s_t_laid, .ref a_t_lines, .int s_t_size, .ref a_t_draft]))] H := hP
        have hD : va_D A [(a_t_text, .inl (c_t_text, n_t_text, .inl e_t_text)), (a_t_digits, .inl (c_t_digits, n_t_digits, .inl e_t_digits_16)), (a_t_counts, .inl (c_t_counts, n_t_counts, .inl e_t_counts)), (a_t_points, .inl (c_t_points, n_t_points, .inl e_t_points)), (a_t_limbs, .inl (c_t_limbs, n_t_limbs, .inl e_t_limbs)), (a_t, .inr (8, [.int s_t_thrown_24, .int s_t_length, .ref a_t_text, .int x2_10, .ref a_t_digits, .ref a_t_counts, .ref a_t_points, .ref a_t_limbs, .int s_t_limbCount, .int s_t_rows, .int s_t_columns, .ref a_t_cells, .int s_t_laid, .ref a_t_lines, .int s_t_size, .ref a_t_draft]))] := hD
        refine lv_lconst (v := 0) hx hb d_Md_read_265 (by decide) ?_
        replace h := Option.some.inj h
        replace h := Prod.mk.inj h
        obtain ⟨h1, h⟩ := h
        subst h1
        replace h := Prod.mk.inj h
        obtain ⟨h1, h⟩ := h
        subst h1
        replace h := Prod.mk.inj h
        obtain ⟨h1, h⟩ := h
        subst h1
        replace h := Prod.mk.inj h
        obtain ⟨h1, h⟩ := h
        subst h1
        replace h := Prod.mk.inj h
        obtain ⟨h1, h⟩ := h
        subst h1
        replace h := Prod.mk.inj h
        obtain ⟨h1, h⟩ := h
        subst h1
        replace h := Prod.mk.inj h
        obtain ⟨h1, h⟩ := h
        subst h1
        replace h := Prod.mk.inj h
        obtain ⟨h1, h⟩ := h
        subst h1
        subst h
        exact hret _ _ (hP.sub [5, 0, 1, 2, 3, 4] rfl) (hD.sub [5, 0, 1, 2, 3, 4] (by decide) rfl) hS _ _ d_Md_read_266
    replace h := hj_21
    clear hj_21
    refine lv_icmp_eq (tgt := 253) hx hb d_Md_read_239 (by decide) (fun c_50 => ?_) (fun c_50 => ?_)
    · rw [if_pos c_50] at h
      refine lv_iconst (v := 0) hx hb d_Md_read_253 (by decide) ?_
      replace h := Option.some.inj h
      subst h
      exact hJ_22 _ _ _ hP hD hS hl
    · rw [if_neg c_50] at h
      refine lv_iload_n hx hb d_Md_read_242 rfl (lv_at hl 1 rfl) ?_
      replace h := xob_s h
      obtain ⟨r_51, hc_52, h⟩ := h
      try dsimp only at h
      refine xcS (As := [.int x1_9]) (rest := [.ref a_t]) (st1 := [.int r_51, .ref a_t]) (wr := [(a_t, .inr (8, [.int s_t_thrown, .int s_t_length, .ref a_t_text, .int s_t_place, .ref a_t_digits, .ref a_t_counts, .ref a_t_points, .ref a_t_limbs, .int s_t_limbCount, .int s_t_rows, .int s_t_columns, .ref a_t_cells, .int s_t_laid, .ref a_t_lines, .int s_t_size, .ref a_t_draft])), (a_t_text, .inl (c_t_text, n_t_text, .inl e_t_text)), (a_t_digits, .inl (c_t_digits, n_t_digits, .inl e_t_digits_16)), (a_t_counts, .inl (c_t_counts, n_t_counts, .inl e_t_counts)), (a_t_points, .inl (c_t_points, n_t_points, .inl e_t_points)), (a_t_limbs, .inl (c_t_limbs, n_t_limbs, .inl e_t_limbs))]) ⟨hx, hb, hml, hown, hts⟩ (c_Md_ends l dC dI x1_9 r_51 hc_52) (⟨callB_of 1 hts (xgood g_789) rfl rfl rfl (hts _ g_10) (hts _ g_787) (by decide +kernel) ⟨Nat.le_of_ble_eq_true rfl, Nat.le_of_ble_eq_true rfl⟩, (hts _ g_788)⟩) hNz hA hP hD hS hK [] [0, 1, 2, 3, 4, 5] [] rfl rfl rfl rfl (by decide) rfl rfl rfl rfl hl.1 (Nat.le_of_ble_eq_true rfl) ⟨Nat.zero_le _, Nat.zero_le _⟩ d_Md_read_243 (fun H locs hP hD hS => ?_)
      have hP : va_P (dC, dI) x_cl [(a_t, .inr (8, [.int s_t_thrown, .int s_t_length, .ref a_t_text, .int s_t_place, .ref a_t_digits, .ref a_t_counts, .ref a_t_points, .ref a_t_limbs, .int s_t_limbCount, .int s_t_rows, .int s_t_columns, .ref a_t_cells, .int s_t_laid, .ref a_t_lines, .int s_t_size, .ref a_t_draft])), (a_t_text, .inl (c_t_text, n_t_text, .inl e_t_text)), (a_t_digits, .inl (c_t_digits, n_t_digits, .inl e_t_digits_16)), (a_t_counts, .inl (c_t_counts, n_t_counts, .inl e_t_counts)), (a_t_points, .inl (c_t_points, n_t_points, .inl e_t_points)), (a_t_limbs, .inl (c_t_limbs, n_t_limbs, .inl e_t_limbs))] H := hP
      have hD : va_D A [(a_t, .inr (8, [.int s_t_thrown, .int s_t_length, .ref a_t_text, .int s_t_place, .ref a_t_digits, .ref a_t_counts, .ref a_t_points, .ref a_t_limbs, .int s_t_limbCount, .int s_t_rows, .int s_t_columns, .ref a_t_cells, .int s_t_laid, .ref a_t_lines, .int s_t_size, .ref a_t_draft])), (a_t_text, .inl (c_t_text, n_t_text, .inl e_t_text)), (a_t_digits, .inl (c_t_digits, n_t_digits, .inl e_t_digits_16)), (a_t_counts, .inl (c_t_counts, n_t_counts, .inl e_t_counts)), (a_t_points, .inl (c_t_points, n_t_points, .inl e_t_points)), (a_t_limbs, .inl (c_t_limbs, n_t_limbs, .inl e_t_limbs))] := hD
      refine lv_if_eq (tgt := 253) hx hb d_Md_read_246 (by decide) (fun c_53 => ?_) (fun c_53 => ?_)
      · rw [if_pos c_53] at h
        refine lv_iconst (v := 0) hx hb d_Md_read_253 (by decide) ?_
        replace h := Option.some.inj h
        subst h
        exact hJ_22 _ _ _ hP hD hS hl
      · rw [if_neg c_53] at h
        refine lv_iconst (v := 1) hx hb d_Md_read_249 (by decide) ?_
        refine lv_goto (tgt := 254) hx hb d_Md_read_250 (by decide) ?_
        replace h := Option.some.inj h
        subst h
        exact hJ_22 _ _ _ hP hD hS hl
  clear h
  have hL_19 : ∀ (n_ : Nat) (x1_1 : Int32) (x2_2 : Int32) (x3_3 : Int32) (x4_4 : Int32) (x5_5 : Int32) (x6_6 : Int32) (x7_7 : Int32) (e_t_digits_8 : Nat → Int32) (H : Heap) (locs : List Loc) (ls : Array Slot), lp_Md_read_18 s_t_thrown s_t_length s_t_place s_t_limbCount s_t_rows s_t_columns s_t_laid s_t_size e_t_text n_t_text n_t_digits n_ x1_1 x2_2 x3_3 x4_4 x5_5 x6_6 x7_7 e_t_digits_8 = some (x1_9, x2_10, x3_11, x4_12, x5_13, x6_14, x7_15, e_t_digits_16) → va_P (dC, dI) x_cl [(a_t, .inr (8, [.int s_t_thrown, .int s_t_length, .ref a_t_text, .int s_t_place, .ref a_t_digits, .ref a_t_counts, .ref a_t_points, .ref a_t_limbs, .int s_t_limbCount, .int s_t_rows, .int s_t_columns, .ref a_t_cells, .int s_t_laid, .ref a_t_lines, .int s_t_size, .ref a_t_draft])), (a_t_text, .inl (c_t_text, n_t_text, .inl e_t_text)), (a_t_digits, .inl (c_t_digits, n_t_digits, .inl e_t_digits_8)), (a_t_counts, .inl (c_t_counts, n_t_counts, .inl e_t_counts)), (a_t_points, .inl (c_t_points, n_t_points, .inl e_t_points)), (a_t_limbs, .inl (c_t_limbs, n_t_limbs, .inl e_t_limbs))] H → va_D A [(a_t, .inr (8, [.int s_t_thrown, .int s_t_length, .ref a_t_text, .int s_t_place, .ref a_t_digits, .ref a_t_counts, .ref a_t_points, .ref a_t_limbs, .int s_t_limbCount, .int s_t_rows, .int s_t_columns, .ref a_t_cells, .int s_t_laid, .ref a_t_lines, .int s_t_size, .ref a_t_draft])), (a_t_text, .inl (c_t_text, n_t_text, .inl e_t_text)), (a_t_digits, .inl (c_t_digits, n_t_digits, .inl e_t_digits_8)), (a_t_counts, .inl (c_t_counts, n_t_counts, .inl e_t_counts)), (a_t_points, .inl (c_t_points, n_t_points, .inl e_t_points)), (a_t_limbs, .inl (c_t_limbs, n_t_limbs, .inl e_t_limbs))] → va_S A s.heap H locs → lv_has ls 10 [(0, .ref a_t), (1, .int x1_1), (2, .int x2_2), (3, .int x3_3), (4, .int x4_4), (5, .int x5_5), (6, .int x6_6), (7, .int x7_7)] → W p l e rm_Md_read s m args below meth c H locs 0 0 Q (F0 m 18 ls []) := by
    intro n_
    induction n_ with
    | zero => intro x1_1 x2_2 x3_3 x4_4 x5_5 x6_6 x7_7 e_t_digits_8 H locs ls h; cases h
    | succ n_ ih =>
      intro x1_1 x2_2 x3_3 x4_4 x5_5 x6_6 x7_7 e_t_digits_8 H locs ls h hP hD hS hl
      rw [lp_Md_read_18] at h
      refine lv_iload_n hx hb d_Md_read_18 rfl (lv_at hl 2 rfl) ?_
      refine lv_aload_n hx hb d_Md_read_19 rfl (lv_at hl 0 rfl) ?_
      refine va_get (D := (dC, dI)) (ci := 8) (v := .int s_t_length) (C := R_Md) (T := T_Md) (N := 16) hx hb hts in_Md hown hK hP 0 rfl rfl 1 (by decide) (hts _ g_707) (fun _ h9 => h9) rfl d_Md_read_20 ?_
      refine lv_icmp_ge (tgt := 236) hx hb d_Md_read_23 (by decide) (fun c_54 => ?_) (fun c_54 => ?_)
      · rw [if_pos c_54] at h
        replace h := Option.some.inj h
        replace h := Prod.mk.inj h
        obtain ⟨h1, h⟩ := h
        subst h1
        replace h := Prod.mk.inj h
        obtain ⟨h1, h⟩ := h
        subst h1
        replace h := Prod.mk.inj h
        obtain ⟨h1, h⟩ := h
        subst h1
        replace h := Prod.mk.inj h
        obtain ⟨h1, h⟩ := h
        subst h1
        replace h := Prod.mk.inj h
        obtain ⟨h1, h⟩ := h
        subst h1
        replace h := Prod.mk.inj h
        obtain ⟨h1, h⟩ := h
        subst h1
        replace h := Prod.mk.inj h
        obtain ⟨h1, h⟩ := h
        subst h1
        subst h
        exact hX_18 _ _ _ hP hD hS hl
      · rw [if_neg c_54] at h
        refine lv_iload_n hx hb d_Md_read_26 rfl (lv_at hl 1 rfl) ?_
        refine lv_iconst (v := -1) hx hb d_Md_read_27 (by decide) ?_
        refine lv_icmp_eq (tgt := 236) hx hb d_Md_read_28 (by decide) (fun c_55 => ?_) (fun c_55 => ?_)
        · rw [if_pos c_55] at h
          replace h := Option.some.inj h
          replace h := Prod.mk.inj h
          obtain ⟨h1, h⟩ := h
          subst h1
          replace h := Prod.mk.inj h
          obtain ⟨h1, h⟩ := h
          subst h1
          replace h := Prod.mk.inj h
          obtain ⟨h1, h⟩ := h
          subst h1
          replace h := Prod.mk.inj h
          obtain ⟨h1, h⟩ := h
          subst h1
          replace h := Prod.mk.inj h
          obtain ⟨h1, h⟩ := h
          subst h1
          replace h := Prod.mk.inj h
          obtain ⟨h1, h⟩ := h
          subst h1
          replace h := Prod.mk.inj h
          obtain ⟨h1, h⟩ := h
          subst h1
          subst h
          exact hX_18 _ _ _ hP hD hS hl
        · rw [if_neg c_55] at h
          refine lv_aload_n hx hb d_Md_read_31 rfl (lv_at hl 0 rfl) ?_
          refine va_get (D := (dC, dI)) (ci := 8) (v := .ref a_t_text) (C := R_Md) (T := T_Md) (N := 16) hx hb hts in_Md hown hK hP 0 rfl rfl 2 (by decide) (hts _ g_708) (fun _ h9 => h9) rfl d_Md_read_32 ?_
          refine lv_iload_n hx hb d_Md_read_35 rfl (lv_at hl 2 rfl) ?_
          replace h := xg h
          obtain ⟨hg_56, h⟩ := h
          refine va_iald hx hb hK hP 1 0 rfl rfl hg_56 d_Md_read_36 ?_
          replace h := xnm_s h
          obtain ⟨x8_57, ex8_57, h⟩ := h
          refine x_topi ex8_57 ?_
          refine lv_istore (lv' := [(8, .int x8_57), (0, .ref a_t), (1, .int x1_1), (2, .int x2_2), (3, .int x3_3), (4, .int x4_4), (5, .int x5_5), (6, .int x6_6), (7, .int x7_7)]) hx hb d_Md_read_37 hl (by decide) rfl (fun ls hl => ?_)
          refine lv_iload_n hx hb d_Md_read_39 rfl (lv_at hl 2 rfl) ?_
          refine lv_iload hx hb d_Md_read_40 (lv_at hl 0 rfl) ?_
          replace h := xob_s h
          obtain ⟨r_58, hc_59, h⟩ := h
          try dsimp only at h
          refine xcS (As := [.int x1_1, .int x8_57]) (rest := []) (st1 := [.int r_58]) (wr := [(a_t, .inr (8, [.int s_t_thrown, .int s_t_length, .ref a_t_text, .int s_t_place, .ref a_t_digits, .ref a_t_counts, .ref a_t_points, .ref a_t_limbs, .int s_t_limbCount, .int s_t_rows, .int s_t_columns, .ref a_t_cells, .int s_t_laid, .ref a_t_lines, .int s_t_size, .ref a_t_draft])), (a_t_text, .inl (c_t_text, n_t_text, .inl e_t_text)), (a_t_digits, .inl (c_t_digits, n_t_digits, .inl e_t_digits_8)), (a_t_counts, .inl (c_t_counts, n_t_counts, .inl e_t_counts)), (a_t_points, .inl (c_t_points, n_t_points, .inl e_t_points)), (a_t_limbs, .inl (c_t_limbs, n_t_limbs, .inl e_t_limbs))]) ⟨hx, hb, hml, hown, hts⟩ (c_Md_next l dC dI x1_1 x8_57 r_58 hc_59) (⟨callB_of 2 hts (xgood g_785) rfl rfl rfl (hts _ g_10) (hts _ g_783) (by decide +kernel) ⟨Nat.le_of_ble_eq_true rfl, Nat.le_of_ble_eq_true rfl⟩, (hts _ g_784)⟩) hNz hA hP hD hS hK [] [0, 1, 2, 3, 4, 5] [] rfl rfl rfl rfl (by decide) rfl rfl rfl rfl hl.1 (Nat.le_of_ble_eq_true rfl) ⟨Nat.zero_le _, Nat.zero_le _⟩ d_Md_read_42 (fun H locs hP hD hS => ?_)
          have hP : va_P (dC, dI) x_cl [(a_t, .inr (8, [.int s_t_thrown, .int s_t_length, .ref a_t_text, .int s_t_place, .ref a_t_digits, .ref a_t_counts, .ref a_t_points, .ref a_t_limbs, .int s_t_limbCount, .int s_t_rows, .int s_t_columns, .ref a_t_cells, .int s_t_laid, .ref a_t_lines, .int s_t_size, .ref a_t_draft])), (a_t_text, .inl (c_t_text, n_t_text, .inl e_t_text)), (a_t_digits, .inl (c_t_digits, n_t_digits, .inl e_t_digits_8)), (a_t_counts, .inl (c_t_counts, n_t_counts, .inl e_t_counts)), (a_t_points, .inl (c_t_points, n_t_points, .inl e_t_points)), (a_t_limbs, .inl (c_t_limbs, n_t_limbs, .inl e_t_limbs))] H := hP
          have hD : va_D A [(a_t, .inr (8, [.int s_t_thrown, .int s_t_length, .ref a_t_text, .int s_t_place, .ref a_t_digits, .ref a_t_counts, .ref a_t_points, .ref a_t_limbs, .int s_t_limbCount, .int s_t_rows, .int s_t_columns, .ref a_t_cells, .int s_t_laid, .ref a_t_lines, .int s_t_size, .ref a_t_draft])), (a_t_text, .inl (c_t_text, n_t_text, .inl e_t_text)), (a_t_digits, .inl (c_t_digits, n_t_digits, .inl e_t_digits_8)), (a_t_counts, .inl (c_t_counts, n_t_counts, .inl e_t_counts)), (a_t_points, .inl (c_t_points, n_t_points, .inl e_t_points)), (a_t_limbs, .inl (c_t_limbs, n_t_limbs, .inl e_t_limbs))] := hD
          refine lv_istore_n (lv' := [(1, .int r_58), (8, .int x8_57), (0, .ref a_t), (2, .int x2_2), (3, .int x3_3), (4, .int x4_4), (5, .int x5_5), (6, .int x6_6), (7, .int x7_7)]) hx hb d_Md_read_45 rfl hl (by decide) rfl (fun ls hl => ?_)
          refine lv_iload hx hb d_Md_read_46 (lv_at hl 7 rfl) ?_
          replace h := xob_s h
          obtain ⟨z_60, hj_61, h⟩ := h
          try dsimp only at h
          have hJ_62 : ∀ (H : Heap) (locs : List Loc) (ls : Array Slot), va_P (dC, dI) x_cl [(a_t, .inr (8, [.int s_t_thrown, .int s_t_length, .ref a_t_text, .int s_t_place, .ref a_t_digits, .ref a_t_counts, .ref a_t_points, .ref a_t_limbs, .int s_t_limbCount, .int s_t_rows, .int s_t_columns, .ref a_t_cells, .int s_t_laid, .ref a_t_lines, .int s_t_size, .ref a_t_draft])), (a_t_text, .inl (c_t_text, n_t_text, .inl e_t_text)), (a_t_digits, .inl (c_t_digits, n_t_digits, .inl e_t_digits_8)), (a_t_counts, .inl (c_t_counts, n_t_counts, .inl e_t_counts)), (a_t_points, .inl (c_t_points, n_t_points, .inl e_t_points)), (a_t_limbs, .inl (c_t_limbs, n_t_limbs, .inl e_t_limbs))] H → va_D A [(a_t, .inr (8, [.int s_t_thrown, .int s_t_length, .ref a_t_text, .int s_t_place, .ref a_t_digits, .ref a_t_counts, .ref a_t_points, .ref a_t_limbs, .int s_t_limbCount, .int s_t_rows, .int s_t_columns, .ref a_t_cells, .int s_t_laid, .ref a_t_lines, .int s_t_size, .ref a_t_draft])), (a_t_text, .inl (c_t_text, n_t_text, .inl e_t_text)), (a_t_digits, .inl (c_t_digits, n_t_digits, .inl e_t_digits_8)), (a_t_counts, .inl (c_t_counts, n_t_counts, .inl e_t_counts)), (a_t_points, .inl (c_t_points, n_t_points, .inl e_t_points)), (a_t_limbs, .inl (c_t_limbs, n_t_limbs, .inl e_t_limbs))] → va_S A s.heap H locs → lv_has ls 10 [(0, .ref a_t), (1, .int r_58), (2, .int x2_2), (3, .int x3_3), (4, .int x4_4), (5, .int x5_5), (7, .int x7_7), (8, .int x8_57)] → W p l e rm_Md_read s m args below meth c H locs 0 0 Q (F0 m 68 ls [.int z_60]) := by
            intro H locs ls hP hD hS hl
            refine lv_istore (lv' := [(6, .int z_60), (0, .ref a_t), (1, .int r_58), (2, .int x2_2), (3, .int x3_3), (4, .int x4_4), (5, .int x5_5), (7, .int x7_7), (8, .int x8_57)]) hx hb d_Md_read_68 hl (by decide) rfl (fun ls hl => ?_)
            refine lv_iload hx hb d_Md_read_70 (lv_at hl 7 rfl) ?_
            replace h := xob_s h
            obtain ⟨z_63, hj_64, h⟩ := h
            try dsimp only at h
            have hJ_65 : ∀ (H : Heap) (locs : List Loc) (ls : Array Slot), va_P (dC, dI) x_cl [(a_t, .inr (8, [.int s_t_thrown, .int s_t_length, .ref a_t_text, .int s_t_place, .ref a_t_digits, .ref a_t_counts, .ref a_t_points, .ref a_t_limbs, .int s_t_limbCount, .int s_t_rows, .int s_t_columns, .ref a_t_cells, .int s_t_laid, .ref a_t_lines, .int s_t_size, .ref a_t_draft])), (a_t_text, .inl (c_t_text, n_t_text, .inl e_t_text)), (a_t_digits, .inl (c_t_digits, n_t_digits, .inl e_t_digits_8)), (a_t_counts, .inl (c_t_counts, n_t_counts, .inl e_t_counts)), (a_t_points, .inl (c_t_points, n_t_points, .inl e_t_points)), (a_t_limbs, .inl (c_t_limbs, n_t_limbs, .inl e_t_limbs))] H → va_D A [(a_t, .inr (8, [.int s_t_thrown, .int s_t_length, .ref a_t_text, .int s_t_place, .ref a_t_digits, .ref a_t_counts, .ref a_t_points, .ref a_t_limbs, .int s_t_limbCount, .int s_t_rows, .int s_t_columns, .ref a_t_cells, .int s_t_laid, .ref a_t_lines, .int s_t_size, .ref a_t_draft])), (a_t_text, .inl (c_t_text, n_t_text, .inl e_t_text)), (a_t_digits, .inl (c_t_digits, n_t_digits, .inl e_t_digits_8)), (a_t_counts, .inl (c_t_counts, n_t_counts, .inl e_t_counts)), (a_t_points, .inl (c_t_points, n_t_points, .inl e_t_points)), (a_t_limbs, .inl (c_t_limbs, n_t_limbs, .inl e_t_limbs))] → va_S A s.heap H locs → lv_has ls 10 [(0, .ref a_t), (1, .int r_58), (2, .int x2_2), (3, .int x3_3), (4, .int x4_4), (5, .int x5_5), (6, .int z_60), (8, .int x8_57)] → W p l e rm_Md_read s m args below meth c H locs 0 0 Q (F0 m 93 ls [.int z_63]) := by
              intro H locs ls hP hD hS hl
              refine lv_istore (lv' := [(7, .int z_63), (0, .ref a_t), (1, .int r_58), (2, .int x2_2), (3, .int x3_3), (4, .int x4_4), (5, .int x5_5), (6, .int z_60), (8, .int x8_57)]) hx hb d_Md_read_93 hl (by decide) rfl (fun ls hl => ?_)
              refine lv_iload_n hx hb d_Md_read_95 rfl (lv_at hl 2 rfl) ?_
              refine lv_iconst (v := 2) hx hb d_Md_read_96 (by decide) ?_
              replace h := xob_s h
              obtain ⟨⟨x3_66, x4_67, e_t_digits_68⟩, hj_69, h⟩ := h
              try dsimp only at h
              have hJ_70 : ∀ (H : Heap) (locs : List Loc) (ls : Array Slot), va_P (dC, dI) x_cl [(a_t, .inr (8, [.int s_t_thrown, .int s_t_length, .ref a_t_text, .int s_t_place, .ref a_t_digits, .ref a_t_counts, .ref a_t_points, .ref a_t_limbs, .int s_t_limbCount, .int s_t_rows, .int s_t_columns, .ref a_t_cells, .int s_t_laid, .ref a_t_lines, .int s_t_size, .ref a_t_draft])), (a_t_text, .inl (c_t_text, n_t_text, .inl e_t_text)), (a_t_digits, .inl (c_t_digits, n_t_digits, .inl e_t_digits_68)), (a_t_counts, .inl (c_t_counts, n_t_counts, .inl e_t_counts)), (a_t_points, .inl (c_t_points, n_t_points, .inl e_t_points)), (a_t_limbs, .inl (c_t_limbs, n_t_limbs, .inl e_t_limbs))] H → va_D A [(a_t, .inr (8, [.int s_t_thrown, .int s_t_length, .ref a_t_text, .int s_t_place, .ref a_t_digits, .ref a_t_counts, .ref a_t_points, .ref a_t_limbs, .int s_t_limbCount, .int s_t_rows, .int s_t_columns, .ref a_t_cells, .int s_t_laid, .ref a_t_lines, .int s_t_size, .ref a_t_draft])), (a_t_text, .inl (c_t_text, n_t_text, .inl e_t_text)), (a_t_digits, .inl (c_t_digits, n_t_digits, .inl e_t_digits_68)), (a_t_counts, .inl (c_t_counts, n_t_counts, .inl e_t_counts)), (a_t_points, .inl (c_t_points, n_t_points, .inl e_t_points)), (a_t_limbs, .inl (c_t_limbs, n_t_limbs, .inl e_t_limbs))] → va_S A s.heap H locs → lv_has ls 10 [(0, .ref a_t), (1, .int r_58), (2, .int x2_2), (3, .int x3_66), (4, .int x4_67), (5, .int x5_5), (6, .int z_60), (7, .int z_63), (8, .int x8_57)] → W p l e rm_Md_read s m args below meth c H locs 0 0 Q (F0 m 180 ls []) := by
                intro H locs ls hP hD hS hl
                refine lv_iload_n hx hb d_Md_read_180 rfl (lv_at hl 1 rfl) ?_
                refine lv_bipush (v := 8) hx hb d_Md_read_181 (by decide) ?_
                replace h := xob_s h
                obtain ⟨z_71, hj_72, h⟩ := h
                try dsimp only at h
                have hJ_73 : ∀ (H : Heap) (locs : List Loc) (ls : Array Slot), va_P (dC, dI) x_cl [(a_t, .inr (8, [.int s_t_thrown, .int s_t_length, .ref a_t_text, .int s_t_place, .ref a_t_digits, .ref a_t_counts, .ref a_t_points, .ref a_t_limbs, .int s_t_limbCount, .int s_t_rows, .int s_t_columns, .ref a_t_cells, .int s_t_laid, .ref a_t_lines, .int s_t_size, .ref a_t_draft])), (a_t_text, .inl (c_t_text, n_t_text, .inl e_t_text)), (a_t_digits, .inl (c_t_digits, n_t_digits, .inl e_t_digits_68)), (a_t_counts, .inl (c_t_counts, n_t_counts, .inl e_t_counts)), (a_t_points, .inl (c_t_points, n_t_points, .inl e_t_points)), (a_t_limbs, .inl (c_t_limbs, n_t_limbs, .inl e_t_limbs))] H → va_D A [(a_t, .inr (8, [.int s_t_thrown, .int s_t_length, .ref a_t_text, .int s_t_place, .ref a_t_digits, .ref a_t_counts, .ref a_t_points, .ref a_t_limbs, .int s_t_limbCount, .int s_t_rows, .int s_t_columns, .ref a_t_cells, .int s_t_laid, .ref a_t_lines, .int s_t_size, .ref a_t_draft])), (a_t_text, .inl (c_t_text, n_t_text, .inl e_t_text)), (a_t_digits, .inl (c_t_digits, n_t_digits, .inl e_t_digits_68)), (a_t_counts, .inl (c_t_counts, n_t_counts, .inl e_t_counts)), (a_t_points, .inl (c_t_points, n_t_points, .inl e_t_points)), (a_t_limbs, .inl (c_t_limbs, n_t_limbs, .inl e_t_limbs))] → va_S A s.heap H locs → lv_has ls 10 [(0, .ref a_t), (1, .int r_58), (2, .int x2_2), (3, .int x3_66), (4, .int x4_67), (6, .int z_60), (7, .int z_63)] → W p l e rm_Md_read s m args below meth c H locs 0 0 Q (F0 m 202 ls [.int z_71]) := by
                  intro H locs ls hP hD hS hl
                  refine lv_istore (lv' := [(5, .int z_71), (0, .ref a_t), (1, .int r_58), (2, .int x2_2), (3, .int x3_66), (4, .int x4_67), (6, .int z_60), (7, .int z_63)]) hx hb d_Md_read_202 hl (by decide) rfl (fun ls hl => ?_)
                  refine lv_iload hx hb d_Md_read_204 (lv_at hl 0 rfl) ?_
                  refine lv_ldc (v := 99999) hx hb hown (hts _ g_786) d_Md_read_206 ?_
                  replace h := xob_s h
                  obtain ⟨z_74, hj_75, h⟩ := h
                  try dsimp only at h
                  have hJ_76 : ∀ (H : Heap) (locs : List Loc) (ls : Array Slot), va_P (dC, dI) x_cl [(a_t, .inr (8, [.int s_t_thrown, .int s_t_length, .ref a_t_text, .int s_t_place, .ref a_t_digits, .ref a_t_counts, .ref a_t_points, .ref a_t_limbs, .int s_t_limbCount, .int s_t_rows, .int s_t_columns, .ref a_t_cells, .int s_t_laid, .ref a_t_lines, .int s_t_size, .ref a_t_draft])), (a_t_text, .inl (c_t_text, n_t_text, .inl e_t_text)), (a_t_digits, .inl (c_t_digits, n_t_digits, .inl e_t_digits_68)), (a_t_counts, .inl (c_t_counts, n_t_counts, .inl e_t_counts)), (a_t_points, .inl (c_t_points, n_t_points, .inl e_t_points)), (a_t_limbs, .inl (c_t_limbs, n_t_limbs, .inl e_t_limbs))] H → va_D A [(a_t, .inr (8, [.int s_t_thrown, .int s_t_length, .ref a_t_text, .int s_t_place, .ref a_t_digits, .ref a_t_counts, .ref a_t_points, .ref a_t_limbs, .int s_t_limbCount, .int s_t_rows, .int s_t_columns, .ref a_t_cells, .int s_t_laid, .ref a_t_lines, .int s_t_size, .ref a_t_draft])), (a_t_text, .inl (c_t_text, n_t_text, .inl e_t_text)), (a_t_digits, .inl (c_t_digits, n_t_digits, .inl e_t_digits_68)), (a_t_counts, .inl (c_t_counts, n_t_counts, .inl e_t_counts)), (a_t_points, .inl (c_t_points, n_t_points, .inl e_t_points)), (a_t_limbs, .inl (c_t_limbs, n_t_limbs, .inl e_t_limbs))] → va_S A s.heap H locs → lv_has ls 10 [(0, .ref a_t), (1, .int r_58), (2, .int x2_2), (3, .int x3_66), (4, .int x4_67), (6, .int z_60), (7, .int z_63)] → W p l e rm_Md_read s m args below meth c H locs 0 0 Q (F0 m 218 ls [.int z_74]) := by
                    intro H locs ls hP hD hS hl
                    refine lv_istore (lv' := [(5, .int z_74), (0, .ref a_t), (1, .int r_58), (2, .int x2_2), (3, .int x3_66), (4, .int x4_67), (6, .int z_60), (7, .int z_63)]) hx hb d_Md_read_218 hl (by decide) rfl (fun ls hl => ?_)
                    refine lv_iload_n hx hb d_Md_read_220 rfl (lv_at hl 2 rfl) ?_
                    refine lv_iconst (v := -1) hx hb d_Md_read_221 (by decide) ?_
                    refine lv_icmp_ne (tgt := 229) hx hb d_Md_read_222 (by decide) (fun c_77 => ?_) (fun c_77 => ?_)
                    · rw [if_neg c_77] at h
                      refine lv_iload_n hx hb d_Md_read_229 rfl (lv_at hl 3 rfl) ?_
                      refine lv_iconst (v := 1) hx hb d_Md_read_230 (by decide) ?_
                      refine lv_iadd hx hb d_Md_read_231 ?_
                      replace h := xnm_s h
                      obtain ⟨x2_78, ex2_78, h⟩ := h
                      refine x_topi ex2_78 ?_
                      refine lv_istore_n (lv' := [(2, .int x2_78), (5, .int z_74), (0, .ref a_t), (1, .int r_58), (3, .int x3_66), (4, .int x4_67), (6, .int z_60), (7, .int z_63)]) hx hb d_Md_read_232 rfl hl (by decide) rfl (fun ls hl => ?_)
                      refine lv_goto (tgt := 18) hx hb d_Md_read_233 (by decide) ?_
                      exact ih _ _ _ _ _ _ _ _ _ _ _ h hP hD hS (lv_sub hl [2, 3, 0, 4, 5, 1, 6, 7] rfl)
                    · rw [if_pos c_77] at h
                      refine lv_iload_n hx hb d_Md_read_225 rfl (lv_at hl 3 rfl) ?_
                      refine lv_goto (tgt := 232) hx hb d_Md_read_226 (by decide) ?_
                      refine lv_istore_n (lv' := [(2, .int x2_2), (5, .int z_74), (0, .ref a_t), (1, .int r_58), (3, .int x3_66), (4, .int x4_67), (6, .int z_60), (7, .int z_63)]) hx hb d_Md_read_232 rfl hl (by decide) rfl (fun ls hl => ?_)
                      refine lv_goto (tgt := 18) hx hb d_Md_read_233 (by decide) ?_
                      exact ih _ _ _ _ _ _ _ _ _ _ _ h hP hD hS (lv_sub hl [2, 3, 0, 4, 5, 1, 6, 7] rfl)
                  replace h := hj_75
                  clear hj_75
                  refine lv_icmp_le (tgt := 216) hx hb d_Md_read_208 (by decide) (fun c_79 => ?_) (fun c_79 => ?_)
                  · rw [if_pos c_79] at h
                    refine lv_iload hx hb d_Md_read_216 (lv_at hl 0 rfl) ?_
                    replace h := Option.some.inj h
                    subst h
                    exact hJ_76 _ _ _ hP hD hS (lv_sub hl [1, 2, 3, 4, 5, 6, 7] rfl)
                  · rw [if_neg c_79] at h
                    refine lv_ldc (v := 99999) hx hb hown (hts _ g_786) d_Md_read_211 ?_
                    refine lv_goto (tgt := 218) hx hb d_Md_read_213 (by decide) ?_
                    replace h := Option.some.inj h
                    subst h
                    exact hJ_76 _ _ _ hP hD hS (lv_sub hl [1, 2, 3, 4, 5, 6, 7] rfl)
                replace h := hj_72
                clear hj_72
                refine lv_icmp_ne (tgt := 200) hx hb d_Md_read_183 (by decide) (fun c_80 => ?_) (fun c_80 => ?_)
                · rw [if_neg c_80] at h
                  refine lv_iload hx hb d_Md_read_200 (lv_at hl 5 rfl) ?_
                  replace h := Option.some.inj h
                  subst h
                  exact hJ_73 _ _ _ hP hD hS (lv_sub hl [0, 1, 2, 3, 4, 6, 7] rfl)
                · rw [if_pos c_80] at h
                  refine lv_bipush (v := 10) hx hb d_Md_read_186 (by decide) ?_
                  refine lv_iload hx hb d_Md_read_188 (lv_at hl 5 rfl) ?_
                  refine lv_imul hx hb d_Md_read_190 ?_
                  refine lv_iload hx hb d_Md_read_191 (lv_at hl 8 rfl) ?_
                  refine lv_iadd hx hb d_Md_read_193 ?_
                  refine lv_bipush (v := 48) hx hb d_Md_read_194 (by decide) ?_
                  refine lv_isub hx hb d_Md_read_196 ?_
                  refine lv_goto (tgt := 202) hx hb d_Md_read_197 (by decide) ?_
                  replace h := Option.some.inj h
                  subst h
                  exact hJ_73 _ _ _ hP hD hS (lv_sub hl [0, 1, 2, 3, 4, 6, 7] rfl)
              replace h := hj_69
              clear hj_69
              refine lv_icmp_eq (tgt := 105) hx hb d_Md_read_97 (by decide) (fun c_81 => ?_) (fun c_81 => ?_)
              · rw [if_pos c_81] at h
                refine lv_iload_n hx hb d_Md_read_105 rfl (lv_at hl 2 rfl) ?_
                refine lv_iconst (v := 2) hx hb d_Md_read_106 (by decide) ?_
                replace h := xob_s h
                obtain ⟨z_82, hj_83, h⟩ := h
                try dsimp only at h
                have hJ_84 : ∀ (H : Heap) (locs : List Loc) (ls : Array Slot), va_P (dC, dI) x_cl [(a_t, .inr (8, [.int s_t_thrown, .int s_t_length, .ref a_t_text, .int s_t_place, .ref a_t_digits, .ref a_t_counts, .ref a_t_points, .ref a_t_limbs, .int s_t_limbCount, .int s_t_rows, .int s_t_columns, .ref a_t_cells, .int s_t_laid, .ref a_t_lines, .int s_t_size, .ref a_t_draft])), (a_t_text, .inl (c_t_text, n_t_text, .inl e_t_text)), (a_t_digits, .inl (c_t_digits, n_t_digits, .inl e_t_digits_8)), (a_t_counts, .inl (c_t_counts, n_t_counts, .inl e_t_counts)), (a_t_points, .inl (c_t_points, n_t_points, .inl e_t_points)), (a_t_limbs, .inl (c_t_limbs, n_t_limbs, .inl e_t_limbs))] H → va_D A [(a_t, .inr (8, [.int s_t_thrown, .int s_t_length, .ref a_t_text, .int s_t_place, .ref a_t_digits, .ref a_t_counts, .ref a_t_points, .ref a_t_limbs, .int s_t_limbCount, .int s_t_rows, .int s_t_columns, .ref a_t_cells, .int s_t_laid, .ref a_t_lines, .int s_t_size, .ref a_t_draft])), (a_t_text, .inl (c_t_text, n_t_text, .inl e_t_text)), (a_t_digits, .inl (c_t_digits, n_t_digits, .inl e_t_digits_8)), (a_t_counts, .inl (c_t_counts, n_t_counts, .inl e_t_counts)), (a_t_points, .inl (c_t_points, n_t_points, .inl e_t_points)), (a_t_limbs, .inl (c_t_limbs, n_t_limbs, .inl e_t_limbs))] → va_S A s.heap H locs → lv_has ls 10 [(0, .ref a_t), (1, .int r_58), (2, .int x2_2), (3, .int x3_3), (5, .int x5_5), (6, .int z_60), (7, .int z_63), (8, .int x8_57)] → W p l e rm_Md_read s m args below meth c H locs 0 0 Q (F0 m 153 ls [.int z_82]) := by
                  intro H locs ls hP hD hS hl
                  refine lv_istore (lv' := [(4, .int z_82), (0, .ref a_t), (1, .int r_58), (2, .int x2_2), (3, .int x3_3), (5, .int x5_5), (6, .int z_60), (7, .int z_63), (8, .int x8_57)]) hx hb d_Md_read_153 hl (by decide) rfl (fun ls hl => ?_)
                  refine lv_iload_n hx hb d_Md_read_155 rfl (lv_at hl 4 rfl) ?_
                  refine lv_if_gt (tgt := 166) hx hb d_Md_read_156 (by decide) (fun c_85 => ?_) (fun c_85 => ?_)
                  · rw [if_pos c_85] at h
                    refine lv_aload_n hx hb d_Md_read_166 rfl (lv_at hl 1 rfl) ?_
                    refine va_get (D := (dC, dI)) (ci := 8) (v := .ref a_t_digits) (C := R_Md) (T := T_Md) (N := 16) hx hb hts in_Md hown hK hP 0 rfl rfl 4 (by decide) (hts _ g_710) (fun _ h9 => h9) rfl d_Md_read_167 ?_
                    refine lv_iload_n hx hb d_Md_read_170 rfl (lv_at hl 4 rfl) ?_
                    refine lv_iload hx hb d_Md_read_171 (lv_at hl 8 rfl) ?_
                    refine lv_bipush (v := 48) hx hb d_Md_read_173 (by decide) ?_
                    refine lv_isub hx hb d_Md_read_175 ?_
                    replace h := xg h
                    obtain ⟨hg_86, h⟩ := h
                    refine va_iast hx hb hK hP hD hS 2 1 rfl rfl hg_86 d_Md_read_176 (fun H locs hP hD hS => ?_)
                    have hP : va_P (dC, dI) x_cl [(a_t, .inr (8, [.int s_t_thrown, .int s_t_length, .ref a_t_text, .int s_t_place, .ref a_t_digits, .ref a_t_counts, .ref a_t_points, .ref a_t_limbs, .int s_t_limbCount, .int s_t_rows, .int s_t_columns, .ref a_t_cells, .int s_t_laid, .ref a_t_lines, .int s_t_size, .ref a_t_draft])), (a_t_text, .inl (c_t_text, n_t_text, .inl e_t_text)), (a_t_digits, .inl (c_t_digits, n_t_digits, .inl ((upd e_t_digits_8 x3_3.toNatClampNeg (x8_57 - (48 : Int32)))))), (a_t_counts, .inl (c_t_counts, n_t_counts, .inl e_t_counts)), (a_t_points, .inl (c_t_points, n_t_points, .inl e_t_points)), (a_t_limbs, .inl (c_t_limbs, n_t_limbs, .inl e_t_limbs))] H := hP
                    have hD : va_D A [(a_t, .inr (8, [.int s_t_thrown, .int s_t_length, .ref a_t_text, .int s_t_place, .ref a_t_digits, .ref a_t_counts, .ref a_t_points, .ref a_t_limbs, .int s_t_limbCount, .int s_t_rows, .int s_t_columns, .ref a_t_cells, .int s_t_laid, .ref a_t_lines, .int s_t_size, .ref a_t_draft])), (a_t_text, .inl (c_t_text, n_t_text, .inl e_t_text)), (a_t_digits, .inl (c_t_digits, n_t_digits, .inl ((upd e_t_digits_8 x3_3.toNatClampNeg (x8_57 - (48 : Int32)))))), (a_t_counts, .inl (c_t_counts, n_t_counts, .inl e_t_counts)), (a_t_points, .inl (c_t_points, n_t_points, .inl e_t_points)), (a_t_limbs, .inl (c_t_limbs, n_t_limbs, .inl e_t_limbs))] := hD
                    replace h := xnm_s h
                    obtain ⟨x3_87, ex3_87, h⟩ := h
                    refine lv_iinc (v := x3_87) (lv' := [(3, .int x3_87), (4, .int z_82), (0, .ref a_t), (1, .int r_58), (2, .int x2_2), (5, .int x5_5), (6, .int z_60), (7, .int z_63), (8, .int x8_57)]) hx hb d_Md_read_177 hl (k := 4) rfl (by rw [← ex3_87]; rfl) (by decide) rfl (fun ls hl => ?_)
                    replace h := Option.some.inj h
                    replace h := Prod.mk.inj h
                    obtain ⟨h1, h⟩ := h
                    subst h1
                    replace h := Prod.mk.inj h
                    obtain ⟨h1, h⟩ := h
                    subst h1
                    subst h
                    exact hJ_70 _ _ _ hP hD hS (lv_sub hl [2, 3, 4, 0, 1, 5, 6, 7, 8] rfl)
                  · rw [if_neg c_85] at h
                    refine lv_iload hx hb d_Md_read_159 (lv_at hl 8 rfl) ?_
                    refine lv_bipush (v := 48) hx hb d_Md_read_161 (by decide) ?_
                    refine lv_icmp_le (tgt := 180) hx hb d_Md_read_163 (by decide) (fun c_88 => ?_) (fun c_88 => ?_)
                    · rw [if_pos c_88] at h
                      replace h := Option.some.inj h
                      replace h := Prod.mk.inj h
                      obtain ⟨h1, h⟩ := h
                      subst h1
                      replace h := Prod.mk.inj h
                      obtain ⟨h1, h⟩ := h
                      subst h1
                      subst h
                      exact hJ_70 _ _ _ hP hD hS (lv_sub hl [1, 2, 3, 4, 0, 5, 6, 7, 8] rfl)
                    · rw [if_neg c_88] at h
                      refine lv_aload_n hx hb d_Md_read_166 rfl (lv_at hl 1 rfl) ?_
                      refine va_get (D := (dC, dI)) (ci := 8) (v := .ref a_t_digits) (C := R_Md) (T := T_Md) (N := 16) hx hb hts in_Md hown hK hP 0 rfl rfl 4 (by decide) (hts _ g_710) (fun _ h9 => h9) rfl d_Md_read_167 ?_
                      refine lv_iload_n hx hb d_Md_read_170 rfl (lv_at hl 4 rfl) ?_
                      refine lv_iload hx hb d_Md_read_171 (lv_at hl 8 rfl) ?_
                      refine lv_bipush (v := 48) hx hb d_Md_read_173 (by decide) ?_
                      refine lv_isub hx hb d_Md_read_175 ?_
                      replace h := xg h
                      obtain ⟨hg_89, h⟩ := h
                      refine va_iast hx hb hK hP hD hS 2 1 rfl rfl hg_89 d_Md_read_176 (fun H locs hP hD hS => ?_)
                      have hP : va_P (dC, dI) x_cl [(a_t, .inr (8, [.int s_t_thrown, .int s_t_length, .ref a_t_text, .int s_t_place, .ref a_t_digits, .ref a_t_counts, .ref a_t_points, .ref a_t_limbs, .int s_t_limbCount, .int s_t_rows, .int s_t_columns, .ref a_t_cells, .int s_t_laid, .ref a_t_lines, .int s_t_size, .ref a_t_draft])), (a_t_text, .inl (c_t_text, n_t_text, .inl e_t_text)), (a_t_digits, .inl (c_t_digits, n_t_digits, .inl ((upd e_t_digits_8 x3_3.toNatClampNeg (x8_57 - (48 : Int32)))))), (a_t_counts, .inl (c_t_counts, n_t_counts, .inl e_t_counts)), (a_t_points, .inl (c_t_points, n_t_points, .inl e_t_points)), (a_t_limbs, .inl (c_t_limbs, n_t_limbs, .inl e_t_limbs))] H := hP
                      have hD : va_D A [(a_t, .inr (8, [.int s_t_thrown, .int s_t_length, .ref a_t_text, .int s_t_place, .ref a_t_digits, .ref a_t_counts, .ref a_t_points, .ref a_t_limbs, .int s_t_limbCount, .int s_t_rows, .int s_t_columns, .ref a_t_cells, .int s_t_laid, .ref a_t_lines, .int s_t_size, .ref a_t_draft])), (a_t_text, .inl (c_t_text, n_t_text, .inl e_t_text)), (a_t_digits, .inl (c_t_digits, n_t_digits, .inl ((upd e_t_digits_8 x3_3.toNatClampNeg (x8_57 - (48 : Int32)))))), (a_t_counts, .inl (c_t_counts, n_t_counts, .inl e_t_counts)), (a_t_points, .inl (c_t_points, n_t_points, .inl e_t_points)), (a_t_limbs, .inl (c_t_limbs, n_t_limbs, .inl e_t_limbs))] := hD
                      replace h := xnm_s h
                      obtain ⟨x3_90, ex3_90, h⟩ := h
                      refine lv_iinc (v := x3_90) (lv' := [(3, .int x3_90), (4, .int z_82), (0, .ref a_t), (1, .int r_58), (2, .int x2_2), (5, .int x5_5), (6, .int z_60), (7, .int z_63), (8, .int x8_57)]) hx hb d_Md_read_177 hl (k := 4) rfl (by rw [← ex3_90]; rfl) (by decide) rfl (fun ls hl => ?_)
                      replace h := Option.some.inj h
                      replace h := Prod.mk.inj h
                      obtain ⟨h1, h⟩ := h
                      subst h1
                      replace h := Prod.mk.inj h
                      obtain ⟨h1, h⟩ := h
                      subst h1
                      subst h
                      exact hJ_70 _ _ _ hP hD hS (lv_sub hl [2, 3, 4, 0, 1, 5, 6, 7, 8] rfl)
                replace h := hj_83
                clear hj_83
                refine lv_icmp_ne (tgt := 128) hx hb d_Md_read_107 (by decide) (fun c_91 => ?_) (fun c_91 => ?_)
                · rw [if_neg c_91] at h
                  refine lv_iload_n hx hb d_Md_read_128 rfl (lv_at hl 2 rfl) ?_
                  refine lv_iconst (v := 4) hx hb d_Md_read_129 (by decide) ?_
                  refine lv_icmp_ne (tgt := 151) hx hb d_Md_read_130 (by decide) (fun c_92 => ?_) (fun c_92 => ?_)
                  · rw [if_neg c_92] at h
                    refine lv_iload hx hb d_Md_read_151 (lv_at hl 5 rfl) ?_
                    replace h := Option.some.inj h
                    subst h
                    exact hJ_84 _ _ _ hP hD hS (lv_sub hl [1, 2, 3, 4, 6, 7, 0, 8] rfl)
                  · rw [if_pos c_92] at h
                    refine lv_iload_n hx hb d_Md_read_133 rfl (lv_at hl 4 rfl) ?_
                    refine lv_if_ne (tgt := 151) hx hb d_Md_read_134 (by decide) (fun c_93 => ?_) (fun c_93 => ?_)
                    · rw [if_neg c_93] at h
                      refine lv_iload hx hb d_Md_read_151 (lv_at hl 5 rfl) ?_
                      replace h := Option.some.inj h
                      subst h
                      exact hJ_84 _ _ _ hP hD hS (lv_sub hl [1, 2, 3, 4, 6, 7, 0, 8] rfl)
                    · rw [if_pos c_93] at h
                      refine lv_iload hx hb d_Md_read_137 (lv_at hl 8 rfl) ?_
                      refine lv_bipush (v := 48) hx hb d_Md_read_139 (by decide) ?_
                      refine lv_icmp_ne (tgt := 151) hx hb d_Md_read_141 (by decide) (fun c_94 => ?_) (fun c_94 => ?_)
                      · rw [if_neg c_94] at h
                        refine lv_iload hx hb d_Md_read_151 (lv_at hl 5 rfl) ?_
                        replace h := Option.some.inj h
                        subst h
                        exact hJ_84 _ _ _ hP hD hS (lv_sub hl [1, 2, 3, 4, 6, 7, 0, 8] rfl)
                      · rw [if_pos c_94] at h
                        refine lv_iload hx hb d_Md_read_144 (lv_at hl 5 rfl) ?_
                        refine lv_iconst (v := 1) hx hb d_Md_read_146 (by decide) ?_
                        refine lv_isub hx hb d_Md_read_147 ?_
                        refine lv_goto (tgt := 153) hx hb d_Md_read_148 (by decide) ?_
                        replace h := Option.some.inj h
                        subst h
                        exact hJ_84 _ _ _ hP hD hS (lv_sub hl [1, 2, 3, 4, 6, 7, 0, 8] rfl)
                · rw [if_pos c_91] at h
                  refine lv_iload_n hx hb d_Md_read_110 rfl (lv_at hl 4 rfl) ?_
                  refine lv_if_gt (tgt := 121) hx hb d_Md_read_111 (by decide) (fun c_95 => ?_) (fun c_95 => ?_)
                  · rw [if_pos c_95] at h
                    refine lv_iload hx hb d_Md_read_121 (lv_at hl 5 rfl) ?_
                    refine lv_iconst (v := 1) hx hb d_Md_read_123 (by decide) ?_
                    refine lv_iadd hx hb d_Md_read_124 ?_
                    refine lv_goto (tgt := 153) hx hb d_Md_read_125 (by decide) ?_
                    replace h := Option.some.inj h
                    subst h
                    exact hJ_84 _ _ _ hP hD hS (lv_sub hl [1, 2, 3, 4, 6, 7, 0, 8] rfl)
                  · rw [if_neg c_95] at h
                    refine lv_iload hx hb d_Md_read_114 (lv_at hl 8 rfl) ?_
                    refine lv_bipush (v := 48) hx hb d_Md_read_116 (by decide) ?_
                    refine lv_icmp_le (tgt := 128) hx hb d_Md_read_118 (by decide) (fun c_96 => ?_) (fun c_96 => ?_)
                    · rw [if_pos c_96] at h
                      refine lv_iload_n hx hb d_Md_read_128 rfl (lv_at hl 2 rfl) ?_
                      refine lv_iconst (v := 4) hx hb d_Md_read_129 (by decide) ?_
                      refine lv_icmp_ne (tgt := 151) hx hb d_Md_read_130 (by decide) (fun c_97 => ?_) (fun c_97 => ?_)
                      · rw [if_neg c_97] at h
                        refine lv_iload hx hb d_Md_read_151 (lv_at hl 5 rfl) ?_
                        replace h := Option.some.inj h
                        subst h
                        exact hJ_84 _ _ _ hP hD hS (lv_sub hl [1, 2, 3, 4, 6, 7, 0, 8] rfl)
                      · rw [if_pos c_97] at h
                        refine lv_iload_n hx hb d_Md_read_133 rfl (lv_at hl 4 rfl) ?_
                        refine lv_if_ne (tgt := 151) hx hb d_Md_read_134 (by decide) (fun c_98 => ?_) (fun c_98 => ?_)
                        · rw [if_neg c_98] at h
                          refine lv_iload hx hb d_Md_read_151 (lv_at hl 5 rfl) ?_
                          replace h := Option.some.inj h
                          subst h
                          exact hJ_84 _ _ _ hP hD hS (lv_sub hl [1, 2, 3, 4, 6, 7, 0, 8] rfl)
                        · rw [if_pos c_98] at h
                          refine lv_iload hx hb d_Md_read_137 (lv_at hl 8 rfl) ?_
                          refine lv_bipush (v := 48) hx hb d_Md_read_139 (by decide) ?_
                          refine lv_icmp_ne (tgt := 151) hx hb d_Md_read_141 (by decide) (fun c_99 => ?_) (fun c_99 => ?_)
                          · rw [if_neg c_99] at h
                            refine lv_iload hx hb d_Md_read_151 (lv_at hl 5 rfl) ?_
                            replace h := Option.some.inj h
                            subst h
                            exact hJ_84 _ _ _ hP hD hS (lv_sub hl [1, 2, 3, 4, 6, 7, 0, 8] rfl)
                          · rw [if_pos c_99] at h
                            refine lv_iload hx hb d_Md_read_144 (lv_at hl 5 rfl) ?_
                            refine lv_iconst (v := 1) hx hb d_Md_read_146 (by decide) ?_
                            refine lv_isub hx hb d_Md_read_147 ?_
                            refine lv_goto (tgt := 153) hx hb d_Md_read_148 (by decide) ?_
                            replace h := Option.some.inj h
                            subst h
                            exact hJ_84 _ _ _ hP hD hS (lv_sub hl [1, 2, 3, 4, 6, 7, 0, 8] rfl)
                    · rw [if_neg c_96] at h
                      refine lv_iload hx hb d_Md_read_121 (lv_at hl 5 rfl) ?_
                      refine lv_iconst (v := 1) hx hb d_Md_read_123 (by decide) ?_
                      refine lv_iadd hx hb d_Md_read_124 ?_
                      refine lv_goto (tgt := 153) hx hb d_Md_read_125 (by decide) ?_
                      replace h := Option.some.inj h
                      subst h
                      exact hJ_84 _ _ _ hP hD hS (lv_sub hl [1, 2, 3, 4, 6, 7, 0, 8] rfl)
              · rw [if_neg c_81] at h
                refine lv_iload_n hx hb d_Md_read_100 rfl (lv_at hl 2 rfl) ?_
                refine lv_iconst (v := 4) hx hb d_Md_read_101 (by decide) ?_
                refine lv_icmp_ne (tgt := 180) hx hb d_Md_read_102 (by decide) (fun c_100 => ?_) (fun c_100 => ?_)
                · rw [if_neg c_100] at h
                  replace h := Option.some.inj h
                  replace h := Prod.mk.inj h
                  obtain ⟨h1, h⟩ := h
                  subst h1
                  replace h := Prod.mk.inj h
                  obtain ⟨h1, h⟩ := h
                  subst h1
                  subst h
                  exact hJ_70 _ _ _ hP hD hS (lv_sub hl [1, 2, 3, 4, 5, 6, 7, 0, 8] rfl)
                · rw [if_pos c_100] at h
                  refine lv_iload_n hx hb d_Md_read_105 rfl (lv_at hl 2 rfl) ?_
                  refine lv_iconst (v := 2) hx hb d_Md_read_106 (by decide) ?_
                  replace h := xob_s h
                  obtain ⟨z_101, hj_102, h⟩ := h
                  try dsimp only at h
                  have hJ_103 : ∀ (H : Heap) (locs : List Loc) (ls : Array Slot), va_P (dC, dI) x_cl [(a_t, .inr (8, [.int s_t_thrown, .int s_t_length, .ref a_t_text, .int s_t_place, .ref a_t_digits, .ref a_t_counts, .ref a_t_points, .ref a_t_limbs, .int s_t_limbCount, .int s_t_rows, .int s_t_columns, .ref a_t_cells, .int s_t_laid, .ref a_t_lines, .int s_t_size, .ref a_t_draft])), (a_t_text, .inl (c_t_text, n_t_text, .inl e_t_text)), (a_t_digits, .inl (c_t_digits, n_t_digits, .inl e_t_digits_8)), (a_t_counts, .inl (c_t_counts, n_t_counts, .inl e_t_counts)), (a_t_points, .inl (c_t_points, n_t_points, .inl e_t_points)), (a_t_limbs, .inl (c_t_limbs, n_t_limbs, .inl e_t_limbs))] H → va_D A [(a_t, .inr (8, [.int s_t_thrown, .int s_t_length, .ref a_t_text, .int s_t_place, .ref a_t_digits, .ref a_t_counts, .ref a_t_points, .ref a_t_limbs, .int s_t_limbCount, .int s_t_rows, .int s_t_columns, .ref a_t_cells, .int s_t_laid, .ref a_t_lines, .int s_t_size, .ref a_t_draft])), (a_t_text, .inl (c_t_text, n_t_text, .inl e_t_text)), (a_t_digits, .inl (c_t_digits, n_t_digits, .inl e_t_digits_8)), (a_t_counts, .inl (c_t_counts, n_t_counts, .inl e_t_counts)), (a_t_points, .inl (c_t_points, n_t_points, .inl e_t_points)), (a_t_limbs, .inl (c_t_limbs, n_t_limbs, .inl e_t_limbs))] → va_S A s.heap H locs → lv_has ls 10 [(0, .ref a_t), (1, .int r_58), (2, .int x2_2), (3, .int x3_3), (5, .int x5_5), (6, .int z_60), (7, .int z_63), (8, .int x8_57)] → W p l e rm_Md_read s m args below meth c H locs 0 0 Q (F0 m 153 ls [.int z_101]) := by
                    intro H locs ls hP hD hS hl
                    refine lv_istore (lv' := [(4, .int z_101), (0, .ref a_t), (1, .int r_58), (2, .int x2_2), (3, .int x3_3), (5, .int x5_5), (6, .int z_60), (7, .int z_63), (8, .int x8_57)]) hx hb d_Md_read_153 hl (by decide) rfl (fun ls hl => ?_)
                    refine lv_iload_n hx hb d_Md_read_155 rfl (lv_at hl 4 rfl) ?_
                    refine lv_if_gt (tgt := 166) hx hb d_Md_read_156 (by decide) (fun c_104 => ?_) (fun c_104 => ?_)
                    · rw [if_pos c_104] at h
                      refine lv_aload_n hx hb d_Md_read_166 rfl (lv_at hl 1 rfl) ?_
                      refine va_get (D := (dC, dI)) (ci := 8) (v := .ref a_t_digits) (C := R_Md) (T := T_Md) (N := 16) hx hb hts in_Md hown hK hP 0 rfl rfl 4 (by decide) (hts _ g_710) (fun _ h9 => h9) rfl d_Md_read_167 ?_
                      refine lv_iload_n hx hb d_Md_read_170 rfl (lv_at hl 4 rfl) ?_
                      refine lv_iload hx hb d_Md_read_171 (lv_at hl 8 rfl) ?_
                      refine lv_bipush (v := 48) hx hb d_Md_read_173 (by decide) ?_
                      refine lv_isub hx hb d_Md_read_175 ?_
                      replace h := xg h
                      obtain ⟨hg_105, h⟩ := h
                      refine va_iast hx hb hK hP hD hS 2 1 rfl rfl hg_105 d_Md_read_176 (fun H locs hP hD hS => ?_)
                      have hP : va_P (dC, dI) x_cl [(a_t, .inr (8, [.int s_t_thrown, .int s_t_length, .ref a_t_text, .int s_t_place, .ref a_t_digits, .ref a_t_counts, .ref a_t_points, .ref a_t_limbs, .int s_t_limbCount, .int s_t_rows, .int s_t_columns, .ref a_t_cells, .int s_t_laid, .ref a_t_lines, .int s_t_size, .ref a_t_draft])), (a_t_text, .inl (c_t_text, n_t_text, .inl e_t_text)), (a_t_digits, .inl (c_t_digits, n_t_digits, .inl ((upd e_t_digits_8 x3_3.toNatClampNeg (x8_57 - (48 : Int32)))))), (a_t_counts, .inl (c_t_counts, n_t_counts, .inl e_t_counts)), (a_t_points, .inl (c_t_points, n_t_points, .inl e_t_points)), (a_t_limbs, .inl (c_t_limbs, n_t_limbs, .inl e_t_limbs))] H := hP
                      have hD : va_D A [(a_t, .inr (8, [.int s_t_thrown, .int s_t_length, .ref a_t_text, .int s_t_place, .ref a_t_digits, .ref a_t_counts, .ref a_t_points, .ref a_t_limbs, .int s_t_limbCount, .int s_t_rows, .int s_t_columns, .ref a_t_cells, .int s_t_laid, .ref a_t_lines, .int s_t_size, .ref a_t_draft])), (a_t_text, .inl (c_t_text, n_t_text, .inl e_t_text)), (a_t_digits, .inl (c_t_digits, n_t_digits, .inl ((upd e_t_digits_8 x3_3.toNatClampNeg (x8_57 - (48 : Int32)))))), (a_t_counts, .inl (c_t_counts, n_t_counts, .inl e_t_counts)), (a_t_points, .inl (c_t_points, n_t_points, .inl e_t_points)), (a_t_limbs, .inl (c_t_limbs, n_t_limbs, .inl e_t_limbs))] := hD
                      replace h := xnm_s h
                      obtain ⟨x3_106, ex3_106, h⟩ := h
                      refine lv_iinc (v := x3_106) (lv' := [(3, .int x3_106), (4, .int z_101), (0, .ref a_t), (1, .int r_58), (2, .int x2_2), (5, .int x5_5), (6, .int z_60), (7, .int z_63), (8, .int x8_57)]) hx hb d_Md_read_177 hl (k := 4) rfl (by rw [← ex3_106]; rfl) (by decide) rfl (fun ls hl => ?_)
                      replace h := Option.some.inj h
                      replace h := Prod.mk.inj h
                      obtain ⟨h1, h⟩ := h
                      subst h1
                      replace h := Prod.mk.inj h
                      obtain ⟨h1, h⟩ := h
                      subst h1
                      subst h
                      exact hJ_70 _ _ _ hP hD hS (lv_sub hl [2, 3, 4, 0, 1, 5, 6, 7, 8] rfl)
                    · rw [if_neg c_104] at h
                      refine lv_iload hx hb d_Md_read_159 (lv_at hl 8 rfl) ?_
                      refine lv_bipush (v := 48) hx hb d_Md_read_161 (by decide) ?_
                      refine lv_icmp_le (tgt := 180) hx hb d_Md_read_163 (by decide) (fun c_107 => ?_) (fun c_107 => ?_)
                      · rw [if_pos c_107] at h
                        replace h := Option.some.inj h
                        replace h := Prod.mk.inj h
                        obtain ⟨h1, h⟩ := h
                        subst h1
                        replace h := Prod.mk.inj h
                        obtain ⟨h1, h⟩ := h
                        subst h1
                        subst h
                        exact hJ_70 _ _ _ hP hD hS (lv_sub hl [1, 2, 3, 4, 0, 5, 6, 7, 8] rfl)
                      · rw [if_neg c_107] at h
                        refine lv_aload_n hx hb d_Md_read_166 rfl (lv_at hl 1 rfl) ?_
                        refine va_get (D := (dC, dI)) (ci := 8) (v := .ref a_t_digits) (C := R_Md) (T := T_Md) (N := 16) hx hb hts in_Md hown hK hP 0 rfl rfl 4 (by decide) (hts _ g_710) (fun _ h9 => h9) rfl d_Md_read_167 ?_
                        refine lv_iload_n hx hb d_Md_read_170 rfl (lv_at hl 4 rfl) ?_
                        refine lv_iload hx hb d_Md_read_171 (lv_at hl 8 rfl) ?_
                        refine lv_bipush (v := 48) hx hb d_Md_read_173 (by decide) ?_
                        refine lv_isub hx hb d_Md_read_175 ?_
                        replace h := xg h
                        obtain ⟨hg_108, h⟩ := h
                        refine va_iast hx hb hK hP hD hS 2 1 rfl rfl hg_108 d_Md_read_176 (fun H locs hP hD hS => ?_)
                        have hP : va_P (dC, dI) x_cl [(a_t, .inr (8, [.int s_t_thrown, .int s_t_length, .ref a_t_text, .int s_t_place, .ref a_t_digits, .ref a_t_counts, .ref a_t_points, .ref a_t_limbs, .int s_t_limbCount, .int s_t_rows, .int s_t_columns, .ref a_t_cells, .int s_t_laid, .ref a_t_lines, .int s_t_size, .ref a_t_draft])), (a_t_text, .inl (c_t_text, n_t_text, .inl e_t_text)), (a_t_digits, .inl (c_t_digits, n_t_digits, .inl ((upd e_t_digits_8 x3_3.toNatClampNeg (x8_57 - (48 : Int32)))))), (a_t_counts, .inl (c_t_counts, n_t_counts, .inl e_t_counts)), (a_t_points, .inl (c_t_points, n_t_points, .inl e_t_points)), (a_t_limbs, .inl (c_t_limbs, n_t_limbs, .inl e_t_limbs))] H := hP
                        have hD : va_D A [(a_t, .inr (8, [.int s_t_thrown, .int s_t_length, .ref a_t_text, .int s_t_place, .ref a_t_digits, .ref a_t_counts, .ref a_t_points, .ref a_t_limbs, .int s_t_limbCount, .int s_t_rows, .int s_t_columns, .ref a_t_cells, .int s_t_laid, .ref a_t_lines, .int s_t_size, .ref a_t_draft])), (a_t_text, .inl (c_t_text, n_t_text, .inl e_t_text)), (a_t_digits, .inl (c_t_digits, n_t_digits, .inl ((upd e_t_digits_8 x3_3.toNatClampNeg (x8_57 - (48 : Int32)))))), (a_t_counts, .inl (c_t_counts, n_t_counts, .inl e_t_counts)), (a_t_points, .inl (c_t_points, n_t_points, .inl e_t_points)), (a_t_limbs, .inl (c_t_limbs, n_t_limbs, .inl e_t_limbs))] := hD
                        replace h := xnm_s h
                        obtain ⟨x3_109, ex3_109, h⟩ := h
                        refine lv_iinc (v := x3_109) (lv' := [(3, .int x3_109), (4, .int z_101), (0, .ref a_t), (1, .int r_58), (2, .int x2_2), (5, .int x5_5), (6, .int z_60), (7, .int z_63), (8, .int x8_57)]) hx hb d_Md_read_177 hl (k := 4) rfl (by rw [← ex3_109]; rfl) (by decide) rfl (fun ls hl => ?_)
                        replace h := Option.some.inj h
                        replace h := Prod.mk.inj h
                        obtain ⟨h1, h⟩ := h
                        subst h1
                        replace h := Prod.mk.inj h
                        obtain ⟨h1, h⟩ := h
                        subst h1
                        subst h
                        exact hJ_70 _ _ _ hP hD hS (lv_sub hl [2, 3, 4, 0, 1, 5, 6, 7, 8] rfl)
                  replace h := hj_102
                  clear hj_102
                  refine lv_icmp_ne (tgt := 128) hx hb d_Md_read_107 (by decide) (fun c_110 => ?_) (fun c_110 => ?_)
                  · rw [if_neg c_110] at h
                    refine lv_iload_n hx hb d_Md_read_128 rfl (lv_at hl 2 rfl) ?_
                    refine lv_iconst (v := 4) hx hb d_Md_read_129 (by decide) ?_
                    refine lv_icmp_ne (tgt := 151) hx hb d_Md_read_130 (by decide) (fun c_111 => ?_) (fun c_111 => ?_)
                    · rw [if_neg c_111] at h
                      refine lv_iload hx hb d_Md_read_151 (lv_at hl 5 rfl) ?_
                      replace h := Option.some.inj h
                      subst h
                      exact hJ_103 _ _ _ hP hD hS (lv_sub hl [1, 2, 3, 4, 6, 7, 0, 8] rfl)
                    · rw [if_pos c_111] at h
                      refine lv_iload_n hx hb d_Md_read_133 rfl (lv_at hl 4 rfl) ?_
                      refine lv_if_ne (tgt := 151) hx hb d_Md_read_134 (by decide) (fun c_112 => ?_) (fun c_112 => ?_)
                      · rw [if_neg c_112] at h
                        refine lv_iload hx hb d_Md_read_151 (lv_at hl 5 rfl) ?_
                        replace h := Option.some.inj h
                        subst h
                        exact hJ_103 _ _ _ hP hD hS (lv_sub hl [1, 2, 3, 4, 6, 7, 0, 8] rfl)
                      · rw [if_pos c_112] at h
                        refine lv_iload hx hb d_Md_read_137 (lv_at hl 8 rfl) ?_
                        refine lv_bipush (v := 48) hx hb d_Md_read_139 (by decide) ?_
                        refine lv_icmp_ne (tgt := 151) hx hb d_Md_read_141 (by decide) (fun c_113 => ?_) (fun c_113 => ?_)
                        · rw [if_neg c_113] at h
                          refine lv_iload hx hb d_Md_read_151 (lv_at hl 5 rfl) ?_
                          replace h := Option.some.inj h
                          subst h
                          exact hJ_103 _ _ _ hP hD hS (lv_sub hl [1, 2, 3, 4, 6, 7, 0, 8] rfl)
                        · rw [if_pos c_113] at h
                          refine lv_iload hx hb d_Md_read_144 (lv_at hl 5 rfl) ?_
                          refine lv_iconst (v := 1) hx hb d_Md_read_146 (by decide) ?_
                          refine lv_isub hx hb d_Md_read_147 ?_
                          refine lv_goto (tgt := 153) hx hb d_Md_read_148 (by decide) ?_
                          replace h := Option.some.inj h
                          subst h
                          exact hJ_103 _ _ _ hP hD hS (lv_sub hl [1, 2, 3, 4, 6, 7, 0, 8] rfl)
                  · rw [if_pos c_110] at h
                    refine lv_iload_n hx hb d_Md_read_110 rfl (lv_at hl 4 rfl) ?_
                    refine lv_if_gt (tgt := 121) hx hb d_Md_read_111 (by decide) (fun c_114 => ?_) (fun c_114 => ?_)
                    · rw [if_pos c_114] at h
                      refine lv_iload hx hb d_Md_read_121 (lv_at hl 5 rfl) ?_
                      refine lv_iconst (v := 1) hx hb d_Md_read_123 (by decide) ?_
                      refine lv_iadd hx hb d_Md_read_124 ?_
                      refine lv_goto (tgt := 153) hx hb d_Md_read_125 (by decide) ?_
                      replace h := Option.some.inj h
                      subst h
                      exact hJ_103 _ _ _ hP hD hS (lv_sub hl [1, 2, 3, 4, 6, 7, 0, 8] rfl)
                    · rw [if_neg c_114] at h
                      refine lv_iload hx hb d_Md_read_114 (lv_at hl 8 rfl) ?_
                      refine lv_bipush (v := 48) hx hb d_Md_read_116 (by decide) ?_
                      refine lv_icmp_le (tgt := 128) hx hb d_Md_read_118 (by decide) (fun c_115 => ?_) (fun c_115 => ?_)
                      · rw [if_pos c_115] at h
                        refine lv_iload_n hx hb d_Md_read_128 rfl (lv_at hl 2 rfl) ?_
                        refine lv_iconst (v := 4) hx hb d_Md_read_129 (by decide) ?_
                        refine lv_icmp_ne (tgt := 151) hx hb d_Md_read_130 (by decide) (fun c_116 => ?_) (fun c_116 => ?_)
                        · rw [if_neg c_116] at h
                          refine lv_iload hx hb d_Md_read_151 (lv_at hl 5 rfl) ?_
                          replace h := Option.some.inj h
                          subst h
                          exact hJ_103 _ _ _ hP hD hS (lv_sub hl [1, 2, 3, 4, 6, 7, 0, 8] rfl)
                        · rw [if_pos c_116] at h
                          refine lv_iload_n hx hb d_Md_read_133 rfl (lv_at hl 4 rfl) ?_
                          refine lv_if_ne (tgt := 151) hx hb d_Md_read_134 (by decide) (fun c_117 => ?_) (fun c_117 => ?_)
                          · rw [if_neg c_117] at h
                            refine lv_iload hx hb d_Md_read_151 (lv_at hl 5 rfl) ?_
                            replace h := Option.some.inj h
                            subst h
                            exact hJ_103 _ _ _ hP hD hS (lv_sub hl [1, 2, 3, 4, 6, 7, 0, 8] rfl)
                          · rw [if_pos c_117] at h
                            refine lv_iload hx hb d_Md_read_137 (lv_at hl 8 rfl) ?_
                            refine lv_bipush (v := 48) hx hb d_Md_read_139 (by decide) ?_
                            refine lv_icmp_ne (tgt := 151) hx hb d_Md_read_141 (by decide) (fun c_118 => ?_) (fun c_118 => ?_)
                            · rw [if_neg c_118] at h
                              refine lv_iload hx hb d_Md_read_151 (lv_at hl 5 rfl) ?_
                              replace h := Option.some.inj h
                              subst h
                              exact hJ_103 _ _ _ hP hD hS (lv_sub hl [1, 2, 3, 4, 6, 7, 0, 8] rfl)
                            · rw [if_pos c_118] at h
                              refine lv_iload hx hb d_Md_read_144 (lv_at hl 5 rfl) ?_
                              refine lv_iconst (v := 1) hx hb d_Md_read_146 (by decide) ?_
                              refine lv_isub hx hb d_Md_read_147 ?_
                              refine lv_goto (tgt := 153) hx hb d_Md_read_148 (by decide) ?_
                              replace h := Option.some.inj h
                              subst h
                              exact hJ_103 _ _ _ hP hD hS (lv_sub hl [1, 2, 3, 4, 6, 7, 0, 8] rfl)
                      · rw [if_neg c_115] at h
                        refine lv_iload hx hb d_Md_read_121 (lv_at hl 5 rfl) ?_
                        refine lv_iconst (v := 1) hx hb d_Md_read_123 (by decide) ?_
                        refine lv_iadd hx hb d_Md_read_124 ?_
                        refine lv_goto (tgt := 153) hx hb d_Md_read_125 (by decide) ?_
                        replace h := Option.some.inj h
                        subst h
                        exact hJ_103 _ _ _ hP hD hS (lv_sub hl [1, 2, 3, 4, 6, 7, 0, 8] rfl)
            replace h := hj_64
            clear hj_64
            refine lv_if_ne (tgt := 88) hx hb d_Md_read_72 (by decide) (fun c_119 => ?_) (fun c_119 => ?_)
            · rw [if_neg c_119] at h
              refine lv_iconst (v := 1) hx hb d_Md_read_88 (by decide) ?_
              refine lv_goto (tgt := 93) hx hb d_Md_read_89 (by decide) ?_
              replace h := Option.some.inj h
              subst h
              exact hJ_65 _ _ _ hP hD hS (lv_sub hl [1, 2, 3, 4, 5, 6, 0, 8] rfl)
            · rw [if_pos c_119] at h
              refine lv_iload_n hx hb d_Md_read_75 rfl (lv_at hl 2 rfl) ?_
              refine lv_bipush (v := 7) hx hb d_Md_read_76 (by decide) ?_
              refine lv_icmp_ne (tgt := 92) hx hb d_Md_read_78 (by decide) (fun c_120 => ?_) (fun c_120 => ?_)
              · rw [if_neg c_120] at h
                refine lv_iconst (v := 0) hx hb d_Md_read_92 (by decide) ?_
                replace h := Option.some.inj h
                subst h
                exact hJ_65 _ _ _ hP hD hS (lv_sub hl [1, 2, 3, 4, 5, 6, 0, 8] rfl)
              · rw [if_pos c_120] at h
                refine lv_iload hx hb d_Md_read_81 (lv_at hl 8 rfl) ?_
                refine lv_bipush (v := 45) hx hb d_Md_read_83 (by decide) ?_
                refine lv_icmp_ne (tgt := 92) hx hb d_Md_read_85 (by decide) (fun c_121 => ?_) (fun c_121 => ?_)
                · rw [if_neg c_121] at h
                  refine lv_iconst (v := 0) hx hb d_Md_read_92 (by decide) ?_
                  replace h := Option.some.inj h
                  subst h
                  exact hJ_65 _ _ _ hP hD hS (lv_sub hl [1, 2, 3, 4, 5, 6, 0, 8] rfl)
                · rw [if_pos c_121] at h
                  refine lv_iconst (v := 1) hx hb d_Md_read_88 (by decide) ?_
                  refine lv_goto (tgt := 93) hx hb d_Md_read_89 (by decide) ?_
                  replace h := Option.some.inj h
                  subst h
                  exact hJ_65 _ _ _ hP hD hS (lv_sub hl [1, 2, 3, 4, 5, 6, 0, 8] rfl)
          replace h := hj_61
          clear hj_61
          refine lv_if_ne (tgt := 63) hx hb d_Md_read_48 (by decide) (fun c_122 => ?_) (fun c_122 => ?_)
          · rw [if_neg c_122] at h
            refine lv_iconst (v := 1) hx hb d_Md_read_63 (by decide) ?_
            refine lv_goto (tgt := 68) hx hb d_Md_read_64 (by decide) ?_
            replace h := Option.some.inj h
            subst h
            exact hJ_62 _ _ _ hP hD hS (lv_sub hl [2, 0, 3, 4, 5, 6, 8, 1] rfl)
          · rw [if_pos c_122] at h
            refine lv_iload_n hx hb d_Md_read_51 rfl (lv_at hl 0 rfl) ?_
            refine lv_iconst (v := 1) hx hb d_Md_read_52 (by decide) ?_
            refine lv_icmp_ne (tgt := 67) hx hb d_Md_read_53 (by decide) (fun c_123 => ?_) (fun c_123 => ?_)
            · rw [if_neg c_123] at h
              refine lv_iconst (v := 0) hx hb d_Md_read_67 (by decide) ?_
              replace h := Option.some.inj h
              subst h
              exact hJ_62 _ _ _ hP hD hS (lv_sub hl [2, 0, 3, 4, 5, 6, 8, 1] rfl)
            · rw [if_pos c_123] at h
              refine lv_iload hx hb d_Md_read_56 (lv_at hl 1 rfl) ?_
              refine lv_bipush (v := 45) hx hb d_Md_read_58 (by decide) ?_
              refine lv_icmp_ne (tgt := 67) hx hb d_Md_read_60 (by decide) (fun c_124 => ?_) (fun c_124 => ?_)
              · rw [if_neg c_124] at h
                refine lv_iconst (v := 0) hx hb d_Md_read_67 (by decide) ?_
                replace h := Option.some.inj h
                subst h
                exact hJ_62 _ _ _ hP hD hS (lv_sub hl [2, 0, 3, 4, 5, 6, 8, 1] rfl)
              · rw [if_pos c_124] at h
                refine lv_iconst (v := 1) hx hb d_Md_read_63 (by decide) ?_
                refine lv_goto (tgt := 68) hx hb d_Md_read_64 (by decide) ?_
                replace h := Option.some.inj h
                subst h
                exact hJ_62 _ _ _ hP hD hS (lv_sub hl [2, 0, 3, 4, 5, 6, 8, 1] rfl)
  exact hL_19 xF _ _ _ _ _ _ _ _ _ _ _ hlp_17 hP hD hS (lv_sub hl [7, 6, 5, 4, 3, 2, 1, 0] rfl)
