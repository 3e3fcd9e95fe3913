def lp_Md_cut_84 (x2 : Int32) (s_t_thrown : Int32) (s_t_length : Int32) (s_t_place : Int32) (s_t_limbCount : Int32) (s_t_rows : Int32) (s_t_columns : Int32) (s_t_laid : Int32) (s_t_size : Int32) (n_t_digits : Nat) : Nat → Int32 → Int32 → (Nat → Int32) → Option (Int32 × (Nat → Int32))
  | 0, _, _, _ => none
  | n_ + 1, x5_11, x6_12, e_t_digits_13 =>
    if x6_12 = 0 then (some (x6_12, e_t_digits_13)) else (if x5_11 < 0 then (some (x6_12, e_t_digits_13)) else (if ((((1300 : Int32) * x2) + x5_11) < 0 ∨ n_t_digits ≤ (((1300 : Int32) * x2) + x5_11).toNatClampNeg) then none else xnm (e_t_digits_13 (((1300 : Int32) * x2) + x5_11).toNatClampNeg) fun x7_26 => xob (if x7_26 = (9 : Int32) then (some (0 : Int32)) else (some (x7_26 + (1 : Int32)))) fun z_27 => if ((((1300 : Int32) * x2) + x5_11) < 0 ∨ n_t_digits ≤ (((1300 : Int32) * x2) + x5_11).toNatClampNeg) then none else if x7_26 = (9 : Int32) then (xnm (x5_11 + (-1 : Int32)) fun x5_33 => lp_Md_cut_84 x2 s_t_thrown s_t_length s_t_place s_t_limbCount s_t_rows s_t_columns s_t_laid s_t_size n_t_digits n_ x5_33 (1 : Int32) (upd e_t_digits_13 (((1300 : Int32) * x2) + x5_11).toNatClampNeg z_27)) else (xnm (x5_11 + (-1 : Int32)) fun x5_32 => lp_Md_cut_84 x2 s_t_thrown s_t_length s_t_place s_t_limbCount s_t_rows s_t_columns s_t_laid s_t_size n_t_digits n_ x5_32 (0 : Int32) (upd e_t_digits_13 (((1300 : Int32) * x2) + x5_11).toNatClampNeg z_27))))
def lp_Md_cut_3 (x1 : Int32) (x2 : Int32) (x3 : Int32) (x4 : Int32) (s_t_thrown : Int32) (s_t_length : Int32) (s_t_place : Int32) (s_t_limbCount : Int32) (s_t_rows : Int32) (s_t_columns : Int32) (s_t_laid : Int32) (s_t_size : Int32) (e_t_counts : Nat → Int32) (n_t_digits : Nat) (n_t_counts : Nat) : Nat → Int32 → (Nat → Int32) → Option ((Nat → Int32))
  | 0, _, _ => none
  | n_ + 1, x5_1, e_t_digits_2 =>
    if x3 ≤ x5_1 then (some e_t_digits_2) else (if (x1 < 0 ∨ n_t_counts ≤ x1.toNatClampNeg) then none else if (e_t_counts x1.toNatClampNeg) ≤ x5_1 then (if ((((1300 : Int32) * x2) + x5_1) < 0 ∨ n_t_digits ≤ (((1300 : Int32) * x2) + x5_1).toNatClampNeg) then none else xnm (x5_1 + (1 : Int32)) fun x5_39 => lp_Md_cut_3 x1 x2 x3 x4 s_t_thrown s_t_length s_t_place s_t_limbCount s_t_rows s_t_columns s_t_laid s_t_size e_t_counts n_t_digits n_t_counts n_ x5_39 (upd e_t_digits_2 (((1300 : Int32) * x2) + x5_1).toNatClampNeg (0 : Int32))) else (if ((((1300 : Int32) * x1) + x5_1) < 0 ∨ n_t_digits ≤ (((1300 : Int32) * x1) + x5_1).toNatClampNeg) then none else if ((((1300 : Int32) * x2) + x5_1) < 0 ∨ n_t_digits ≤ (((1300 : Int32) * x2) + x5_1).toNatClampNeg) then none else xnm (x5_1 + (1 : Int32)) fun x5_42 => lp_Md_cut_3 x1 x2 x3 x4 s_t_thrown s_t_length s_t_place s_t_limbCount s_t_rows s_t_columns s_t_laid s_t_size e_t_counts n_t_digits n_t_counts n_ x5_42 (upd e_t_digits_2 (((1300 : Int32) * x2) + x5_1).toNatClampNeg (e_t_digits_2 (((1300 : Int32) * x1) + x5_1).toNatClampNeg))))
def f_Md_cut (n_t_digits : Nat) (n_t_counts : Nat) (n_t_points : Nat) (s_t_thrown : Int32) (s_t_length : Int32) (s_t_place : Int32) (s_t_limbCount : Int32) (s_t_rows : Int32) (s_t_columns : Int32) (s_t_laid : Int32) (s_t_size : Int32) (e_t_digits : Nat → Int32) (e_t_counts : Nat → Int32) (e_t_points : Nat → Int32) (x1 : Int32) (x2 : Int32) (x3 : Int32) (x4 : Int32) : Option ((Nat → Int32) × (Nat → Int32) × (Nat → Int32)) :=
  xob (lp_Md_cut_3 x1 x2 x3 x4 s_t_thrown s_t_length s_t_place s_t_limbCount s_t_rows s_t_columns s_t_laid s_t_size e_t_counts n_t_digits n_t_counts xF (0 : Int32) e_t_digits) fun e_t_digits_3 => if (x2 < 0 ∨ n_t_counts ≤ x2.toNatClampNeg) then none else if (x1 < 0 ∨ n_t_points ≤ x1.toNatClampNeg) then none else if (x2 < 0 ∨ n_t_points ≤ x2.toNatClampNeg) then none else xnm (x3 - (1 : Int32)) fun x5_10 => xob (lp_Md_cut_84 x2 s_t_thrown s_t_length s_t_place s_t_limbCount s_t_rows s_t_columns s_t_laid s_t_size n_t_digits xF x5_10 x4 e_t_digits_3) fun (x6_14, e_t_digits_15) => if x6_14 = 0 then (some (e_t_digits_15, (upd e_t_counts x2.toNatClampNeg x3), (upd e_t_points x2.toNatClampNeg (e_t_points x1.toNatClampNeg)))) else (if (((1300 : Int32) * x2) < 0 ∨ n_t_digits ≤ ((1300 : Int32) * x2).toNatClampNeg) then none else if (x2 < 0 ∨ n_t_points ≤ x2.toNatClampNeg) then none else if (x2 < 0 ∨ n_t_points ≤ x2.toNatClampNeg) then none else some ((upd e_t_digits_15 ((1300 : Int32) * x2).toNatClampNeg (1 : Int32)), (upd e_t_counts x2.toNatClampNeg x3), (upd ((upd e_t_points x2.toNatClampNeg (e_t_points x1.toNatClampNeg))) x2.toNatClampNeg ((((upd e_t_points x2.toNatClampNeg (e_t_points x1.toNatClampNeg))) x2.toNatClampNeg) + (1 : Int32)))))
def rm_Md_cut : Room := { frames := 0, cells := 0, slots := 0, locals := 0 }
set_option maxHeartbeats 4000000 in
set_option maxRecDepth 100000 in
theorem c_Md_cut (l : Launch) (dC : Nat → ClassId) (dI : Nat → Nat → Nat) (a_t a_t_text a_t_digits a_t_counts a_t_points a_t_limbs a_t_cells a_t_lines a_t_draft : Nat) (c_t_digits c_t_counts c_t_points : ClassId) (n_t_digits : Nat) (n_t_counts : Nat) (n_t_points : Nat) (s_t_thrown : Int32) (s_t_length : Int32) (s_t_place : Int32) (s_t_limbCount : Int32) (s_t_rows : Int32) (s_t_columns : Int32) (s_t_laid : Int32) (s_t_size : Int32) (e_t_digits : Nat → Int32) (e_t_counts : Nat → Int32) (e_t_points : Nat → Int32) (x1 : Int32) (x2 : Int32) (x3 : Int32) (x4 : Int32) (e_t_digits_o : Nat → Int32) (e_t_counts_o : Nat → Int32) (e_t_points_o : Nat → Int32) (h : f_Md_cut n_t_digits n_t_counts n_t_points s_t_thrown s_t_length s_t_place s_t_limbCount s_t_rows s_t_columns s_t_laid s_t_size e_t_digits e_t_counts e_t_points x1 x2 x3 x4 = some (e_t_digits_o, e_t_counts_o, e_t_points_o)) : xM l y_Md_cut (Cond.code y_Md_cut b_Md_cut 8 none :: xG) rm_Md_cut (dC, dI) x_cl x_nz [.ref a_t, .int x1, .int x2, .int x3, .int x4] [(c_t_digits, .int), (c_t_counts, .int), (c_t_points, .int)] [(a_t, .inr (8, [.int s_t_thrown, .int s_t_length, .ref a_t_text, .int s_t_place, .ref a_t_digits, .ref a_t_counts, .ref a_t_points, .ref a_t_limbs, .int s_t_limbCount, .int s_t_rows, .int s_t_columns, .ref a_t_cells, .int s_t_laid, .ref a_t_lines, .int s_t_size, .ref a_t_draft])), (a_t_digits, .inl (c_t_digits, n_t_digits, .inl e_t_digits)), (a_t_counts, .inl (c_t_counts, n_t_counts, .inl e_t_counts)), (a_t_points, .inl (c_t_points, n_t_points, .inl e_t_points))] none [(a_t, .inr (8, [.int s_t_thrown, .int s_t_length, .ref a_t_text, .int s_t_place, .ref a_t_digits, .ref a_t_counts, .ref a_t_points, .ref a_t_limbs, .int s_t_limbCount, .int s_t_rows, .int s_t_columns, .ref a_t_cells, .int s_t_laid, .ref a_t_lines, .int s_t_size, .ref a_t_draft])), (a_t_digits, .inl (c_t_digits, n_t_digits, .inl e_t_digits_o)), (a_t_counts, .inl (c_t_counts, n_t_counts, .inl e_t_counts_o)), (a_t_points, .inl (c_t_points, n_t_points, .inl e_t_points_o))] := by
  unfold f_Md_cut at h
  refine xM.mkV (cc := b_Md_cut) (maxL := 8)  (by decide +kernel) rfl (Nat.le_of_ble_eq_true rfl) ?_
  intro p e s m args below meth c A Q ls hx hb hml hown hts hNz hA hP hD hK hl hret
  have hS : va_S A s.heap s.heap [] := va_S.rf
  have hl : lv_has ls 8 [(0, .ref a_t), (1, .int x1), (2, .int x2), (3, .int x3), (4, .int x4)] := hl
  refine lv_iconst (v := 0) hx hb d_Md_cut_0 (by decide) ?_
  refine lv_istore (lv' := [(5, .int (0 : Int32)), (0, .ref a_t), (1, .int x1), (2, .int x2), (3, .int x3), (4, .int x4)]) hx hb d_Md_cut_1 hl (by decide) rfl (fun ls hl => ?_)
  replace h := xob_s h
  obtain ⟨e_t_digits_3, hlp_4, h⟩ := h
  try dsimp only at h
  have hX_5 : ∀ (H : Heap) (locs : List Loc) (ls : Array Slot), va_P (dC, dI) x_cl [(a_t, .inr (8, [.int s_t_thrown, .int s_t_length, .ref a_t_text, .int s_t_place, .ref a_t_digits, .ref a_t_counts, .ref a_t_points, .ref a_t_limbs, .int s_t_limbCount, .int s_t_rows, .int s_t_columns, .ref a_t_cells, .int s_t_laid, .ref a_t_lines, .int s_t_size, .ref a_t_draft])), (a_t_digits, .inl (c_t_digits, n_t_digits, .inl e_t_digits_3)), (a_t_counts, .inl (c_t_counts, n_t_counts, .inl e_t_counts)), (a_t_points, .inl (c_t_points, n_t_points, .inl e_t_points))] H → va_D A [(a_t, .inr (8, [.int s_t_thrown, .int s_t_length, .ref a_t_text, .int s_t_place, .ref a_t_digits, .ref a_t_counts, .ref a_t_points, .ref a_t_limbs, .int s_t_limbCount, .int s_t_rows, .int s_t_columns, .ref a_t_cells, .int s_t_laid, .ref a_t_lines, .int s_t_size, .ref a_t_draft])), (a_t_digits, .inl (c_t_digits, n_t_digits, .inl e_t_digits_3)), (a_t_counts, .inl (c_t_counts, n_t_counts, .inl e_t_counts)), (a_t_points, .inl (c_t_points, n_t_points, .inl e_t_points))] → va_S A s.heap H locs → lv_has ls 8 [(0, .ref a_t), (1, .int x1), (2, .int x2), (3, .int x3), (4, .int x4)] → W p l e rm_Md_cut s m args below meth c H locs 0 0 Q (F0 m 56 ls []) := by
    intro H locs ls hP hD hS hl
    refine lv_aload_n hx hb d_Md_cut_56 rfl (lv_at hl 0 rfl) ?_
    refine va_get (D := (dC, dI)) (ci := 8) (v := .ref a_t_counts) (C := R_Md) (T := T_Md) (N := 16) hx hb hts in_Md hown hK hP 0 rfl rfl 5 (by decide) (hts _ g_711) (fun _ h9 => h9) rfl d_Md_cut_57 ?_
    refine lv_iload_n hx hb d_Md_cut_60 rfl (lv_at hl 2 rfl) ?_
    refine lv_iload_n hx hb d_Md_cut_61 rfl (lv_at hl 3 rfl) ?_
    replace h := xg h
    obtain ⟨hg_7, h⟩ := h
    refine va_iast hx hb hK hP hD hS 2 1 rfl rfl hg_7 d_Md_cut_62 (fun H locs hP hD hS => ?_)
    have hP : va_P (dC, dI) x_cl [(a_t, .inr (8, [.int s_t_thrown, .int s_t_length, .ref a_t_text, .int s_t_place, .ref a_t_digits, .ref a_t_counts, .ref a_t_points, .ref a_t_limbs, .int s_t_limbCount, .int s_t_rows, .int s_t_columns, .ref a_t_cells, .int s_t_laid, .ref a_t_lines, .int s_t_size, .ref a_t_draft])), (a_t_digits, .inl (c_t_digits, n_t_digits, .inl e_t_digits_3)), (a_t_counts, .inl (c_t_counts, n_t_counts, .inl ((upd e_t_counts x2.toNatClampNeg x3)))), (a_t_points, .inl (c_t_points, n_t_points, .inl e_t_points))] H := hP
    have hD : va_D A [(a_t, .inr (8, [.int s_t_thrown, .int s_t_length, .ref a_t_text, .int s_t_place, .ref a_t_digits, .ref a_t_counts, .ref a_t_points, .ref a_t_limbs, .int s_t_limbCount, .int s_t_rows, .int s_t_columns, .ref a_t_cells, .int s_t_laid, .ref a_t_lines, .int s_t_size, .ref a_t_draft])), (a_t_digits, .inl (c_t_digits, n_t_digits, .inl e_t_digits_3)), (a_t_counts, .inl (c_t_counts, n_t_counts, .inl ((upd e_t_counts x2.toNatClampNeg x3)))), (a_t_points, .inl (c_t_points, n_t_points, .inl e_t_points))] := hD
    refine lv_aload_n hx hb d_Md_cut_63 rfl (lv_at hl 0 rfl) ?_
    refine va_get (D := (dC, dI)) (ci := 8) (v := .ref a_t_points) (C := R_Md) (T := T_Md) (N := 16) hx hb hts in_Md hown hK hP 0 rfl rfl 6 (by decide) (hts _ g_712) (fun _ h9 => h9) rfl d_Md_cut_64 ?_
    refine lv_iload_n hx hb d_Md_cut_67 rfl (lv_at hl 2 rfl) ?_
    refine lv_aload_n hx hb d_Md_cut_68 rfl (lv_at hl 0 rfl) ?_
    refine va_get (D := (dC, dI)) (ci := 8) (v := .ref a_t_points) (C := R_Md) (T := T_Md) (N := 16) hx hb hts in_Md hown hK hP 0 rfl rfl 6 (by decide) (hts _ g_712) (fun _ h9 => h9) rfl d_Md_cut_69 ?_
    refine lv_iload_n hx hb d_Md_cut_72 rfl (lv_at hl 1 rfl) ?_
    replace h := xg h
    obtain ⟨hg_8, h⟩ := h
    refine va_iald hx hb hK hP 3 2 rfl rfl hg_8 d_Md_cut_73 ?_
    replace h := xg h
    obtain ⟨hg_9, h⟩ := h
    refine va_iast hx hb hK hP hD hS 3 2 rfl rfl hg_9 d_Md_cut_74 (fun H locs hP hD hS => ?_)
    have hP : va_P (dC, dI) x_cl [(a_t, .inr (8, [.int s_t_thrown, .int s_t_length, .ref a_t_text, .int s_t_place, .ref a_t_digits, .ref a_t_counts, .ref a_t_points, .ref a_t_limbs, .int s_t_limbCount, .int s_t_rows, .int s_t_columns, .ref a_t_cells, .int s_t_laid, .ref a_t_lines, .int s_t_size, .ref a_t_draft])), (a_t_digits, .inl (c_t_digits, n_t_digits, .inl e_t_digits_3)), (a_t_counts, .inl (c_t_counts, n_t_counts, .inl ((upd e_t_counts x2.toNatClampNeg x3)))), (a_t_points, .inl (c_t_points, n_t_points, .inl ((upd e_t_points x2.toNatClampNeg (e_t_points x1.toNatClampNeg)))))] H := hP
    have hD : va_D A [(a_t, .inr (8, [.int s_t_thrown, .int s_t_length, .ref a_t_text, .int s_t_place, .ref a_t_digits, .ref a_t_counts, .ref a_t_points, .ref a_t_limbs, .int s_t_limbCount, .int s_t_rows, .int s_t_columns, .ref a_t_cells, .int s_t_laid, .ref a_t_lines, .int s_t_size, .ref a_t_draft])), (a_t_digits, .inl (c_t_digits, n_t_digits, .inl e_t_digits_3)), (a_t_counts, .inl (c_t_counts, n_t_counts, .inl ((upd e_t_counts x2.toNatClampNeg x3)))), (a_t_points, .inl (c_t_points, n_t_points, .inl ((upd e_t_points x2.toNatClampNeg (e_t_points x1.toNatClampNeg)))))] := hD
    refine lv_iload_n hx hb d_Md_cut_75 rfl (lv_at hl 3 rfl) ?_
    refine lv_iconst (v := 1) hx hb d_Md_cut_76 (by decide) ?_
    refine lv_isub hx hb d_Md_cut_77 ?_
    replace h := xnm_s h
    obtain ⟨x5_10, ex5_10, h⟩ := h
    refine x_topi ex5_10 ?_
    refine lv_istore (lv' := [(5, .int x5_10), (0, .ref a_t), (1, .int x1), (2, .int x2), (3, .int x3), (4, .int x4)]) hx hb d_Md_cut_78 hl (by decide) rfl (fun ls hl => ?_)
    refine lv_iload hx hb d_Md_cut_80 (lv_at hl 5 rfl) ?_
    refine lv_istore (lv' := [(6, .int x4), (5, .int x5_10), (0, .ref a_t), (1, .int x1), (2, .int x2), (3, .int x3), (4, .int x4)]) hx hb d_Md_cut_82 hl (by decide) rfl (fun ls hl => ?_)
    replace h := xob_s h
    obtain ⟨⟨x6_14, e_t_digits_15⟩, hlp_16, h⟩ := h
    try dsimp only at h
    have hX_17 : ∀ (H : Heap) (locs : List Loc) (ls : Array Slot), va_P (dC, dI) x_cl [(a_t, .inr (8, [.int s_t_thrown, .int s_t_length, .ref a_t_text, .int s_t_place, .ref a_t_digits, .ref a_t_counts, .ref a_t_points, .ref a_t_limbs, .int s_t_limbCount, .int s_t_rows, .int s_t_columns, .ref a_t_cells, .int s_t_laid, .ref a_t_lines, .int s_t_size, .ref a_t_draft])), (a_t_digits, .inl (c_t_digits, n_t_digits, .inl e_t_digits_15)), (a_t_counts, .inl (c_t_counts, n_t_counts, .inl ((upd e_t_counts x2.toNatClampNeg x3)))), (a_t_points, .inl (c_t_points, n_t_points, .inl ((upd e_t_points x2.toNatClampNeg (e_t_points x1.toNatClampNeg)))))] H → va_D A [(a_t, .inr (8, [.int s_t_thrown, .int s_t_length, .ref a_t_text, .int s_t_place, .ref a_t_digits, .ref a_t_counts, .ref a_t_points, .ref a_t_limbs, .int s_t_limbCount, .int s_t_rows, .int s_t_columns, .ref a_t_cells, .int s_t_laid, .ref a_t_lines, .int s_t_size, .ref a_t_draft])), (a_t_digits, .inl (c_t_digits, n_t_digits, .inl e_t_digits_15)), (a_t_counts, .inl (c_t_counts, n_t_counts, .inl ((upd e_t_counts x2.toNatClampNeg x3)))), (a_t_points, .inl (c_t_points, n_t_points, .inl ((upd e_t_points x2.toNatClampNeg (e_t_points x1.toNatClampNeg)))))] → va_S A s.heap H locs → lv_has ls 8 [(0, .ref a_t), (2, .int x2), (6, .int x6_14)] → W p l e rm_Md_cut s m args below meth c H locs 0 0 Q (F0 m 157 ls []) := by
      intro H locs ls hP hD hS hl
      refine lv_iload hx hb d_Md_cut_157 (lv_at hl 2 rfl) ?_
      refine lv_if_eq (tgt := 183) hx hb d_Md_cut_159 (by decide) (fun c_19 => ?_) (fun c_19 => ?_)
      · rw [if_pos c_19] at h
        replace h := Option.some.inj h
        replace h := Prod.mk.inj h
        obtain ⟨h1, h⟩ := h
        subst h1
        replace h := Prod.mk.inj h
        obtain ⟨h1, h⟩ := h
        subst h1
        subst h
        exact hret _ _ hP hD hS _ _ d_Md_cut_183
      · rw [if_neg c_19] at h
        refine lv_aload_n hx hb d_Md_cut_162 rfl (lv_at hl 0 rfl) ?_
        refine va_get (D := (dC, dI)) (ci := 8) (v := .ref a_t_digits) (C := R_Md) (T := T_Md) (N := 16) hx hb hts in_Md hown hK hP 0 rfl rfl 4 (by decide) (hts _ g_710) (fun _ h9 => h9) rfl d_Md_cut_163 ?_
        refine lv_sipush (v := 1300) hx hb d_Md_cut_166 (by decide) ?_
        refine lv_iload_n hx hb d_Md_cut_169 rfl (lv_at hl 1 rfl) ?_
        refine lv_imul hx hb d_Md_cut_170 ?_
        refine lv_iconst (v := 1) hx hb d_Md_cut_171 (by decide) ?_
        replace h := xg h
        obtain ⟨hg_20, h⟩ := h
        refine va_iast hx hb hK hP hD hS 1 0 rfl rfl hg_20 d_Md_cut_172 (fun H locs hP hD hS => ?_)
        have hP : va_P (dC, dI) x_cl [(a_t, .inr (8, [.int s_t_thrown, .int s_t_length, .ref a_t_text, .int s_t_place, .ref a_t_digits, .ref a_t_counts, .ref a_t_points, .ref a_t_limbs, .int s_t_limbCount, .int s_t_rows, .int s_t_columns, .ref a_t_cells, .int s_t_laid, .ref a_t_lines, .int s_t_size, .ref a_t_draft])), (a_t_digits, .inl (c_t_digits, n_t_digits, .inl ((upd e_t_digits_15 ((1300 : Int32) * x2).toNatClampNeg (1 : Int32))))), (a_t_counts, .inl (c_t_counts, n_t_counts, .inl ((upd e_t_counts x2.toNatClampNeg x3)))), (a_t_points, .inl (c_t_points, n_t_points, .inl ((upd e_t_points x2.toNatClampNeg (e_t_points x1.toNatClampNeg)))))] H := hP
        have hD : va_D A [(a_t, .inr (8, [.int s_t_thrown, .int s_t_length, .ref a_t_text, .int s_t_place, .ref a_t_digits, .ref a_t_counts, .ref a_t_points, .ref a_t_limbs, .int s_t_limbCount, .int s_t_rows, .int s_t_columns, .ref a_t_cells, .int s_t_laid, .ref a_t_lines, .int s_t_size, .ref a_t_draft])), (a_t_digits, .inl (c_t_digits, n_t_digits, .inl ((upd e_t_digits_15 ((1300 : Int32) * x2).toNatClampNeg (1 : Int32))))), (a_t_counts, .inl (c_t_counts, n_t_counts, .inl ((upd e_t_counts x2.toNatClampNeg x3)))), (a_t_points, .inl (c_t_points, n_t_points, .inl ((upd e_t_points x2.toNatClampNeg (e_t_points x1.toNatClampNeg)))))] := hD
        refine lv_aload_n hx hb d_Md_cut_173 rfl (lv_at hl 0 rfl) ?_
        refine va_get (D := (dC, dI)) (ci := 8) (v := .ref a_t_points) (C := R_Md) (T := T_Md) (N := 16) hx hb hts in_Md hown hK hP 0 rfl rfl 6 (by decide) (hts _ g_712) (fun _ h9 => h9) rfl d_Md_cut_174 ?_
        refine lv_iload_n hx hb d_Md_cut_177 rfl (lv_at hl 1 rfl) ?_
        refine lv_dup2_11 hx hb d_Md_cut_178 rfl rfl ?_
        replace h := xg h
        obtain ⟨hg_21, h⟩ := h
        refine va_iald hx hb hK hP 3 2 rfl rfl hg_21 d_Md_cut_179 ?_
        refine lv_iconst (v := 1) hx hb d_Md_cut_180 (by decide) ?_
        refine lv_iadd hx hb d_Md_cut_181 ?_
        replace h := xg h
        obtain ⟨hg_22, h⟩ := h
        refine va_iast hx hb hK hP hD hS 3 2 rfl rfl hg_22 d_Md_cut_182 (fun H locs hP hD hS => ?_)
        have hP : va_P (dC, dI) x_cl [(a_t, .inr (8, [.int s_t_thrown, .int s_t_length, .ref a_t_text, .int s_t_place, .ref a_t_digits, .ref a_t_counts, .ref a_t_points, .ref a_t_limbs, .int s_t_limbCount, .int s_t_rows, .int s_t_columns, .ref a_t_cells, .int s_t_laid, .ref a_t_lines, .int s_t_size, .ref a_t_draft])), (a_t_digits, .inl (c_t_digits, n_t_digits, .inl ((upd e_t_digits_15 ((1300 : Int32) * x2).toNatClampNeg (1 : Int32))))), (a_t_counts, .inl (c_t_counts, n_t_counts, .inl ((upd e_t_counts x2.toNatClampNeg x3)))), (a_t_points, .inl (c_t_points, n_t_points, .inl ((upd ((upd e_t_points x2.toNatClampNeg (e_t_points x1.toNatClampNeg))) x2.toNatClampNeg ((((upd e_t_points x2.toNatClampNeg (e_t_points x1.toNatClampNeg))) x2.toNatClampNeg) + (1 : Int32))))))] H := hP
        have hD : va_D A [(a_t, .inr (8, [.int s_t_thrown, .int s_t_length, .ref a_t_text, .int s_t_place, .ref a_t_digits, .ref a_t_counts, .ref a_t_points, .ref a_t_limbs, .int s_t_limbCount, .int s_t_rows, .int s_t_columns, .ref a_t_cells, .int s_t_laid, .ref a_t_lines, .int s_t_size, .ref a_t_draft])), (a_t_digits, .inl (c_t_digits, n_t_digits, .inl ((upd e_t_digits_15 ((1300 : Int32) * x2).toNatClampNeg (1 : Int32))))), (a_t_counts, .inl (c_t_counts, n_t_counts, .inl ((upd e_t_counts x2.toNatClampNeg x3)))), (a_t_points, .inl (c_t_points, n_t_points, .inl ((upd ((upd e_t_points x2.toNatClampNeg (e_t_points x1.toNatClampNeg))) x2.toNatClampNeg ((((upd e_t_points x2.toNatClampNeg (e_t_points x1.toNatClampNeg))) x2.toNatClampNeg) + (1 : Int32))))))] := hD
        replace h := Option.some.inj h
        replace h := Prod.mk.inj h
        obtain ⟨h1, h⟩ := h
        subst h1
        replace h := Prod.mk.inj h
        obtain ⟨h1, h⟩ := h
        subst h1
        subst h
        exact hret _ _ hP hD hS _ _ d_Md_cut_183
    clear h
    have hL_18 : ∀ (n_ : Nat) (x5_11 : Int32) (x6_12 : Int32) (e_t_digits_13 : Nat → Int32) (H : Heap) (locs : List Loc) (ls : Array Slot), lp_Md_cut_84 x2 s_t_thrown s_t_length s_t_place s_t_limbCount s_t_rows s_t_columns s_t_laid s_t_size n_t_digits n_ x5_11 x6_12 e_t_digits_13 = some (x6_14, e_t_digits_15) → va_P (dC, dI) x_cl [(a_t, .inr (8, [.int s_t_thrown, .int s_t_length, .ref a_t_text, .int s_t_place, .ref a_t_digits, .ref a_t_counts, .ref a_t_points, .ref a_t_limbs, .int s_t_limbCount, .int s_t_rows, .int s_t_columns, .ref a_t_cells, .int s_t_laid, .ref a_t_lines, .int s_t_size, .ref a_t_draft])), (a_t_digits, .inl (c_t_digits, n_t_digits, .inl e_t_digits_13)), (a_t_counts, .inl (c_t_counts, n_t_counts, .inl ((upd e_t_counts x2.toNatClampNeg x3)))), (a_t_points, .inl (c_t_points, n_t_points, .inl ((upd e_t_points x2.toNatClampNeg (e_t_points x1.toNatClampNeg)))))] H → va_D A [(a_t, .inr (8, [.int s_t_thrown, .int s_t_length, .ref a_t_text, .int s_t_place, .ref a_t_digits, .ref a_t_counts, .ref a_t_points, .ref a_t_limbs, .int s_t_limbCount, .int s_t_rows, .int s_t_columns, .ref a_t_cells, .int s_t_laid, .ref a_t_lines, .int s_t_size, .ref a_t_draft])), (a_t_digits, .inl (c_t_digits, n_t_digits, .inl e_t_digits_13)), (a_t_counts, .inl (c_t_counts, n_t_counts, .inl ((upd e_t_counts x2.toNatClampNeg x3)))), (a_t_points, .inl (c_t_points, n_t_points, .inl ((upd e_t_points x2.toNatClampNeg (e_t_points x1.toNatClampNeg)))))] → va_S A s.heap H locs → lv_has ls 8 [(0, .ref a_t), (2, .int x2), (5, .int x5_11), (6, .int x6_12)] → W p l e rm_Md_cut s m args below meth c H locs 0 0 Q (F0 m 84 ls []) := by
      intro n_
      induction n_ with
      | zero => intro x5_11 x6_12 e_t_digits_13 H locs ls h; cases h
      | succ n_ ih =>
        intro x5_11 x6_12 e_t_digits_13 H locs ls h hP hD hS hl
        rw [lp_Md_cut_84] at h
        refine lv_iload hx hb d_Md_cut_84 (lv_at hl 3 rfl) ?_
        refine lv_if_eq (tgt := 157) hx hb d_Md_cut_86 (by decide) (fun c_23 => ?_) (fun c_23 => ?_)
        · rw [if_pos c_23] at h
          replace h := Option.some.inj h
          replace h := Prod.mk.inj h
          obtain ⟨h1, h⟩ := h
          subst h1
          subst h
          exact hX_17 _ _ _ hP hD hS (lv_sub hl [0, 1, 3] rfl)
        · rw [if_neg c_23] at h
          refine lv_iload hx hb d_Md_cut_89 (lv_at hl 2 rfl) ?_
          refine lv_if_lt (tgt := 157) hx hb d_Md_cut_91 (by decide) (fun c_24 => ?_) (fun c_24 => ?_)
          · rw [if_pos c_24] at h
            replace h := Option.some.inj h
            replace h := Prod.mk.inj h
            obtain ⟨h1, h⟩ := h
            subst h1
            subst h
            exact hX_17 _ _ _ hP hD hS (lv_sub hl [0, 1, 3] rfl)
          · rw [if_neg c_24] at h
            refine lv_aload_n hx hb d_Md_cut_94 rfl (lv_at hl 0 rfl) ?_
            refine va_get (D := (dC, dI)) (ci := 8) (v := .ref a_t_digits) (C := R_Md) (T := T_Md) (N := 16) hx hb hts in_Md hown hK hP 0 rfl rfl 4 (by decide) (hts _ g_710) (fun _ h9 => h9) rfl d_Md_cut_95 ?_
            refine lv_sipush (v := 1300) hx hb d_Md_cut_98 (by decide) ?_
            refine lv_iload_n hx hb d_Md_cut_101 rfl (lv_at hl 1 rfl) ?_
            refine lv_imul hx hb d_Md_cut_102 ?_
            refine lv_iload hx hb d_Md_cut_103 (lv_at hl 2 rfl) ?_
            refine lv_iadd hx hb d_Md_cut_105 ?_
            replace h := xg h
            obtain ⟨hg_25, h⟩ := h
            refine va_iald hx hb hK hP 1 0 rfl rfl hg_25 d_Md_cut_106 ?_
            replace h := xnm_s h
            obtain ⟨x7_26, ex7_26, h⟩ := h
            refine x_topi ex7_26 ?_
            refine lv_istore (lv' := [(7, .int x7_26), (0, .ref a_t), (2, .int x2), (5, .int x5_11), (6, .int x6_12)]) hx hb d_Md_cut_107 hl (by decide) rfl (fun ls hl => ?_)
            refine lv_aload_n hx hb d_Md_cut_109 rfl (lv_at hl 1 rfl) ?_
            refine va_get (D := (dC, dI)) (ci := 8) (v := .ref a_t_digits) (C := R_Md) (T := T_Md) (N := 16) hx hb hts in_Md hown hK hP 0 rfl rfl 4 (by decide) (hts _ g_710) (fun _ h9 => h9) rfl d_Md_cut_110 ?_
            refine lv_sipush (v := 1300) hx hb d_Md_cut_113 (by decide) ?_
            refine lv_iload_n hx hb d_Md_cut_116 rfl (lv_at hl 2 rfl) ?_
            refine lv_imul hx hb d_Md_cut_117 ?_
            refine lv_iload hx hb d_Md_cut_118 (lv_at hl 3 rfl) ?_
            refine lv_iadd hx hb d_Md_cut_120 ?_
            refine lv_iload hx hb d_Md_cut_121 (lv_at hl 0 rfl) ?_
            refine lv_bipush (v := 9) hx hb d_Md_cut_123 (by decide) ?_
            replace h := xob_s h
            obtain ⟨z_27, hj_28, h⟩ := h
            try dsimp only at h
            have hJ_29 : ∀ (H : Heap) (locs : List Loc) (ls : Array Slot), va_P (dC, dI) x_cl [(a_t, .inr (8, [.int s_t_thrown, .int s_t_length, .ref a_t_text, .int s_t_place, .ref a_t_digits, .ref a_t_counts, .ref a_t_points, .ref a_t_limbs, .int s_t_limbCount, .int s_t_rows, .int s_t_columns, .ref a_t_cells, .int s_t_laid, .ref a_t_lines, .int s_t_size, .ref a_t_draft])), (a_t_digits, .inl (c_t_digits, n_t_digits, .inl e_t_digits_13)), (a_t_counts, .inl (c_t_counts, n_t_counts, .inl ((upd e_t_counts x2.toNatClampNeg x3)))), (a_t_points, .inl (c_t_points, n_t_points, .inl ((upd e_t_points x2.toNatClampNeg (e_t_points x1.toNatClampNeg)))))] H → va_D A [(a_t, .inr (8, [.int s_t_thrown, .int s_t_length, .ref a_t_text, .int s_t_place, .ref a_t_digits, .ref a_t_counts, .ref a_t_points, .ref a_t_limbs, .int s_t_limbCount, .int s_t_rows, .int s_t_columns, .ref a_t_cells, .int s_t_laid, .ref a_t_lines, .int s_t_size, .ref a_t_draft])), (a_t_digits, .inl (c_t_digits, n_t_digits, .inl e_t_digits_13)), (a_t_counts, .inl (c_t_counts, n_t_counts, .inl ((upd e_t_counts x2.toNatClampNeg x3)))), (a_t_points, .inl (c_t_points, n_t_points, .inl ((upd e_t_points x2.toNatClampNeg (e_t_points x1.toNatClampNeg)))))] → va_S A s.heap H locs → lv_has ls 8 [(0, .ref a_t), (2, .int x2), (5, .int x5_11), (7, .int x7_26)] → W p l e rm_Md_cut s m args below meth c H locs 0 0 Q (F0 m 136 ls [.int z_27, .int (((1300 : Int32) * x2) + x5_11), .ref a_t_digits]) := by
              intro H locs ls hP hD hS hl
              replace h := xg h
              obtain ⟨hg_30, h⟩ := h
              refine va_iast hx hb hK hP hD hS 1 0 rfl rfl hg_30 d_Md_cut_136 (fun H locs hP hD hS => ?_)
              have hP : va_P (dC, dI) x_cl [(a_t, .inr (8, [.int s_t_thrown, .int s_t_length, .ref a_t_text, .int s_t_place, .ref a_t_digits, .ref a_t_counts, .ref a_t_points, .ref a_t_limbs, .int s_t_limbCount, .int s_t_rows, .int s_t_columns, .ref a_t_cells, .int s_t_laid, .ref a_t_lines, .int s_t_size, .ref a_t_draft])), (a_t_digits, .inl (c_t_digits, n_t_digits, .inl ((upd e_t_digits_13 (((1300 : Int32) * x2) + x5_11).toNatClampNeg z_27)))), (a_t_counts, .inl (c_t_counts, n_t_counts, .inl ((upd e_t_counts x2.toNatClampNeg x3)))), (a_t_points, .inl (c_t_points, n_t_points, .inl ((upd e_t_points x2.toNatClampNeg (e_t_points x1.toNatClampNeg)))))] H := hP
              have hD : va_D A [(a_t, .inr (8, [.int s_t_thrown, .int s_t_length, .ref a_t_text, .int s_t_place, .ref a_t_digits, .ref a_t_counts, .ref a_t_points, .ref a_t_limbs, .int s_t_limbCount, .int s_t_rows, .int s_t_columns, .ref a_t_cells, .int s_t_laid, .ref a_t_lines, .int s_t_size, .ref a_t_draft])), (a_t_digits, .inl (c_t_digits, n_t_digits, .inl ((upd e_t_digits_13 (((1300 : Int32) * x2) + x5_11).toNatClampNeg z_27)))), (a_t_counts, .inl (c_t_counts, n_t_counts, .inl ((upd e_t_counts x2.toNatClampNeg x3)))), (a_t_points, .inl (c_t_points, n_t_points, .inl ((upd e_t_points x2.toNatClampNeg (e_t_points x1.toNatClampNeg)))))] := hD
              refine lv_iload hx hb d_Md_cut_137 (lv_at hl 3 rfl) ?_
              refine lv_bipush (v := 9) hx hb d_Md_cut_139 (by decide) ?_
              refine lv_icmp_ne (tgt := 148) hx hb d_Md_cut_141 (by decide) (fun c_31 => ?_) (fun c_31 => ?_)
              · rw [if_neg c_31] at h
                refine lv_iconst (v := 0) hx hb d_Md_cut_148 (by decide) ?_
                refine lv_istore (lv' := [(6, .int (0 : Int32)), (0, .ref a_t), (2, .int x2), (5, .int x5_11), (7, .int x7_26)]) hx hb d_Md_cut_149 hl (by decide) rfl (fun ls hl => ?_)
                replace h := xnm_s h
                obtain ⟨x5_32, ex5_32, h⟩ := h
                refine lv_iinc (v := x5_32) (lv' := [(5, .int x5_32), (6, .int (0 : Int32)), (0, .ref a_t), (2, .int x2), (7, .int x7_26)]) hx hb d_Md_cut_151 hl (k := 3) rfl (by rw [← ex5_32]; rfl) (by decide) rfl (fun ls hl => ?_)
                refine lv_goto (tgt := 84) hx hb d_Md_cut_154 (by decide) ?_
                exact ih _ _ _ _ _ _ h hP hD hS (lv_sub hl [2, 3, 0, 1] rfl)
              · rw [if_pos c_31] at h
                refine lv_iconst (v := 1) hx hb d_Md_cut_144 (by decide) ?_
                refine lv_goto (tgt := 149) hx hb d_Md_cut_145 (by decide) ?_
                refine lv_istore (lv' := [(6, .int (1 : Int32)), (0, .ref a_t), (2, .int x2), (5, .int x5_11), (7, .int x7_26)]) hx hb d_Md_cut_149 hl (by decide) rfl (fun ls hl => ?_)
                replace h := xnm_s h
                obtain ⟨x5_33, ex5_33, h⟩ := h
                refine lv_iinc (v := x5_33) (lv' := [(5, .int x5_33), (6, .int (1 : Int32)), (0, .ref a_t), (2, .int x2), (7, .int x7_26)]) hx hb d_Md_cut_151 hl (k := 3) rfl (by rw [← ex5_33]; rfl) (by decide) rfl (fun ls hl => ?_)
                refine lv_goto (tgt := 84) hx hb d_Md_cut_154 (by decide) ?_
                exact ih _ _ _ _ _ _ h hP hD hS (lv_sub hl [2, 3, 0, 1] rfl)
            replace h := hj_28
            clear hj_28
            refine lv_icmp_ne (tgt := 132) hx hb d_Md_cut_125 (by decide) (fun c_34 => ?_) (fun c_34 => ?_)
            · rw [if_neg c_34] at h
              refine lv_iload hx hb d_Md_cut_132 (lv_at hl 0 rfl) ?_
              refine lv_iconst (v := 1) hx hb d_Md_cut_134 (by decide) ?_
              refine lv_iadd hx hb d_Md_cut_135 ?_
              replace h := Option.some.inj h
              subst h
              exact hJ_29 _ _ _ hP hD hS (lv_sub hl [1, 2, 3, 0] rfl)
            · rw [if_pos c_34] at h
              refine lv_iconst (v := 0) hx hb d_Md_cut_128 (by decide) ?_
              refine lv_goto (tgt := 136) hx hb d_Md_cut_129 (by decide) ?_
              replace h := Option.some.inj h
              subst h
              exact hJ_29 _ _ _ hP hD hS (lv_sub hl [1, 2, 3, 0] rfl)
    exact hL_18 xF _ _ _ _ _ _ hlp_16 hP hD hS (lv_sub hl [2, 4, 1, 0] rfl)
  clear h
  have hL_6 : ∀ (n_ : Nat) (x5_1 : Int32) (e_t_digits_2 : Nat → Int32) (H : Heap) (locs : List Loc) (ls : Array Slot), lp_Md_cut_3 x1 x2 x3 x4 s_t_thrown s_t_length s_t_place s_t_limbCount s_t_rows s_t_columns s_t_laid s_t_size e_t_counts n_t_digits n_t_counts n_ x5_1 e_t_digits_2 = some e_t_digits_3 → va_P (dC, dI) x_cl [(a_t, .inr (8, [.int s_t_thrown, .int s_t_length, .ref a_t_text, .int s_t_place, .ref a_t_digits, .ref a_t_counts, .ref a_t_points, .ref a_t_limbs, .int s_t_limbCount, .int s_t_rows, .int s_t_columns, .ref a_t_cells, .int s_t_laid, .ref a_t_lines, .int s_t_size, .ref a_t_draft])), (a_t_digits, .inl (c_t_digits, n_t_digits, .inl e_t_digits_2)), (a_t_counts, .inl (c_t_counts, n_t_counts, .inl e_t_counts)), (a_t_points, .inl (c_t_points, n_t_points, .inl e_t_points))] H → va_D A [(a_t, .inr (8, [.int s_t_thrown, .int s_t_length, .ref a_t_text, .int s_t_place, .ref a_t_digits, .ref a_t_counts, .ref a_t_points, .ref a_t_limbs, .int s_t_limbCount, .int s_t_rows, .int s_t_columns, .ref a_t_cells, .int s_t_laid, .ref a_t_lines, .int s_t_size, .ref a_t_draft])), (a_t_digits, .inl (c_t_digits, n_t_digits, .inl e_t_digits_2)), (a_t_counts, .inl (c_t_counts, n_t_counts, .inl e_t_counts)), (a_t_points, .inl (c_t_points, n_t_points, .inl e_t_points))] → va_S A s.heap H locs → lv_has ls 8 [(0, .ref a_t), (1, .int x1), (2, .int x2), (3, .int x3), (4, .int x4), (5, .int x5_1)] → W p l e rm_Md_cut s m args below meth c H locs 0 0 Q (F0 m 3 ls []) := by
    intro n_
    induction n_ with
    | zero => intro x5_1 e_t_digits_2 H locs ls h; cases h
    | succ n_ ih =>
      intro x5_1 e_t_digits_2 H locs ls h hP hD hS hl
      rw [lp_Md_cut_3] at h
      refine lv_iload hx hb d_Md_cut_3 (lv_at hl 5 rfl) ?_
      refine lv_iload_n hx hb d_Md_cut_5 rfl (lv_at hl 3 rfl) ?_
      refine lv_icmp_ge (tgt := 56) hx hb d_Md_cut_6 (by decide) (fun c_35 => ?_) (fun c_35 => ?_)
      · rw [if_pos c_35] at h
        replace h := Option.some.inj h
        subst h
        exact hX_5 _ _ _ hP hD hS (lv_sub hl [0, 1, 2, 3, 4] rfl)
      · rw [if_neg c_35] at h
        refine lv_aload_n hx hb d_Md_cut_9 rfl (lv_at hl 0 rfl) ?_
        refine va_get (D := (dC, dI)) (ci := 8) (v := .ref a_t_digits) (C := R_Md) (T := T_Md) (N := 16) hx hb hts in_Md hown hK hP 0 rfl rfl 4 (by decide) (hts _ g_710) (fun _ h9 => h9) rfl d_Md_cut_10 ?_
        refine lv_sipush (v := 1300) hx hb d_Md_cut_13 (by decide) ?_
        refine lv_iload_n hx hb d_Md_cut_16 rfl (lv_at hl 2 rfl) ?_
        refine lv_imul hx hb d_Md_cut_17 ?_
        refine lv_iload hx hb d_Md_cut_18 (lv_at hl 5 rfl) ?_
        refine lv_iadd hx hb d_Md_cut_20 ?_
        refine lv_iload hx hb d_Md_cut_21 (lv_at hl 5 rfl) ?_
        refine lv_aload_n hx hb d_Md_cut_23 rfl (lv_at hl 0 rfl) ?_
        refine va_get (D := (dC, dI)) (ci := 8) (v := .ref a_t_counts) (C := R_Md) (T := T_Md) (N := 16) hx hb hts in_Md hown hK hP 0 rfl rfl 5 (by decide) (hts _ g_711) (fun _ h9 => h9) rfl d_Md_cut_24 ?_
        refine lv_iload_n hx hb d_Md_cut_27 rfl (lv_at hl 1 rfl) ?_
        replace h := xg h
        obtain ⟨hg_36, h⟩ := h
        refine va_iald hx hb hK hP 2 1 rfl rfl hg_36 d_Md_cut_28 ?_
        refine lv_icmp_ge (tgt := 48) hx hb d_Md_cut_29 (by decide) (fun c_37 => ?_) (fun c_37 => ?_)
        · rw [if_pos c_37] at h
          refine lv_iconst (v := 0) hx hb d_Md_cut_48 (by decide) ?_
          replace h := xg h
          obtain ⟨hg_38, h⟩ := h
          refine va_iast hx hb hK hP hD hS 1 0 rfl rfl hg_38 d_Md_cut_49 (fun H locs hP hD hS => ?_)
          have hP : va_P (dC, dI) x_cl [(a_t, .inr (8, [.int s_t_thrown, .int s_t_length, .ref a_t_text, .int s_t_place, .ref a_t_digits, .ref a_t_counts, .ref a_t_points, .ref a_t_limbs, .int s_t_limbCount, .int s_t_rows, .int s_t_columns, .ref a_t_cells, .int s_t_laid, .ref a_t_lines, .int s_t_size, .ref a_t_draft])), (a_t_digits, .inl (c_t_digits, n_t_digits, .inl ((upd e_t_digits_2 (((1300 : Int32) * x2) + x5_1).toNatClampNeg (0 : Int32))))), (a_t_counts, .inl (c_t_counts, n_t_counts, .inl e_t_counts)), (a_t_points, .inl (c_t_points, n_t_points, .inl e_t_points))] H := hP
          have hD : va_D A [(a_t, .inr (8, [.int s_t_thrown, .int s_t_length, .ref a_t_text, .int s_t_place, .ref a_t_digits, .ref a_t_counts, .ref a_t_points, .ref a_t_limbs, .int s_t_limbCount, .int s_t_rows, .int s_t_columns, .ref a_t_cells, .int s_t_laid, .ref a_t_lines, .int s_t_size, .ref a_t_draft])), (a_t_digits, .inl (c_t_digits, n_t_digits, .inl ((upd e_t_digits_2 (((1300 : Int32) * x2) + x5_1).toNatClampNeg (0 : Int32))))), (a_t_counts, .inl (c_t_counts, n_t_counts, .inl e_t_counts)), (a_t_points, .inl (c_t_points, n_t_points, .inl e_t_points))] := hD
          replace h := xnm_s h
          obtain ⟨x5_39, ex5_39, h⟩ := h
          refine lv_iinc (v := x5_39) (lv' := [(5, .int x5_39), (0, .ref a_t), (1, .int x1), (2, .int x2), (3, .int x3), (4, .int x4)]) hx hb d_Md_cut_50 hl (k := 5) rfl (by rw [← ex5_39]; rfl) (by decide) rfl (fun ls hl => ?_)
          refine lv_goto (tgt := 3) hx hb d_Md_cut_53 (by decide) ?_
          exact ih _ _ _ _ _ h hP hD hS (lv_sub hl [1, 2, 3, 4, 5, 0] rfl)
        · rw [if_neg c_37] at h
          refine lv_aload_n hx hb d_Md_cut_32 rfl (lv_at hl 0 rfl) ?_
          refine va_get (D := (dC, dI)) (ci := 8) (v := .ref a_t_digits) (C := R_Md) (T := T_Md) (N := 16) hx hb hts in_Md hown hK hP 0 rfl rfl 4 (by decide) (hts _ g_710) (fun _ h9 => h9) rfl d_Md_cut_33 ?_
          refine lv_sipush (v := 1300) hx hb d_Md_cut_36 (by decide) ?_
          refine lv_iload_n hx hb d_Md_cut_39 rfl (lv_at hl 1 rfl) ?_
          refine lv_imul hx hb d_Md_cut_40 ?_
          refine lv_iload hx hb d_Md_cut_41 (lv_at hl 5 rfl) ?_
          refine lv_iadd hx hb d_Md_cut_43 ?_
          replace h := xg h
          obtain ⟨hg_40, h⟩ := h
          refine va_iald hx hb hK hP 1 0 rfl rfl hg_40 d_Md_cut_44 ?_
          refine lv_goto (tgt := 49) hx hb d_Md_cut_45 (by decide) ?_
          replace h := xg h
          obtain ⟨hg_41, h⟩ := h
          refine va_iast hx hb hK hP hD hS 1 0 rfl rfl hg_41 d_Md_cut_49 (fun H locs hP hD hS => ?_)
          have hP : va_P (dC, dI) x_cl [(a_t, .inr (8, [.int s_t_thrown, .int s_t_length, .ref a_t_text, .int s_t_place, .ref a_t_digits, .ref a_t_counts, .ref a_t_points, .ref a_t_limbs, .int s_t_limbCount, .int s_t_rows, .int s_t_columns, .ref a_t_cells, .int s_t_laid, .ref a_t_lines, .int s_t_size, .ref a_t_draft])), (a_t_digits, .inl (c_t_digits, n_t_digits, .inl ((upd e_t_digits_2 (((1300 : Int32) * x2) + x5_1).toNatClampNeg (e_t_digits_2 (((1300 : Int32) * x1) + x5_1).toNatClampNeg))))), (a_t_counts, .inl (c_t_counts, n_t_counts, .inl e_t_counts)), (a_t_points, .inl (c_t_points, n_t_points, .inl e_t_points))] H := hP
          have hD : va_D A [(a_t, .inr (8, [.int s_t_thrown, .int s_t_length, .ref a_t_text, .int s_t_place, .ref a_t_digits, .ref a_t_counts, .ref a_t_points, .ref a_t_limbs, .int s_t_limbCount, .int s_t_rows, .int s_t_columns, .ref a_t_cells, .int s_t_laid, .ref a_t_lines, .int s_t_size, .ref a_t_draft])), (a_t_digits, .inl (c_t_digits, n_t_digits, .inl ((upd e_t_digits_2 (((1300 : Int32) * x2) + x5_1).toNatClampNeg (e_t_digits_2 (((1300 : Int32) * x1) + x5_1).toNatClampNeg))))), (a_t_counts, .inl (c_t_counts, n_t_counts, .inl e_t_counts)), (a_t_points, .inl (c_t_points, n_t_points, .inl e_t_points))] := hD
          replace h := xnm_s h
          obtain ⟨x5_42, ex5_42, h⟩ := h
          refine lv_iinc (v := x5_42) (lv' := [(5, .int x5_42), (0, .ref a_t), (1, .int x1), (2, .int x2), (3, .int x3), (4, .int x4)]) hx hb d_Md_cut_50 hl (k := 5) rfl (by rw [← ex5_42]; rfl) (by decide) rfl (fun ls hl => ?_)
          refine lv_goto (tgt := 3) hx hb d_Md_cut_53 (by decide) ?_
          exact ih _ _ _ _ _ h hP hD hS (lv_sub hl [1, 2, 3, 4, 5, 0] rfl)
  exact hL_6 xF _ _ _ _ _ hlp_4 hP hD hS (lv_sub hl [1, 2, 3, 4, 5, 0] rfl)
def f_Md_rest (n_t_digits : Nat) (n_t_counts : Nat) (s_t_thrown : Int32) (s_t_length : Int32) (s_t_place : Int32) (s_t_limbCount : Int32) (s_t_rows : Int32) (s_t_columns : Int32) (s_t_laid : Int32) (s_t_size : Int32) (e_t_digits : Nat → Int32) (e_t_counts : Nat → Int32) (x1 : Int32) (x2 : Int32) : Option (Int32) :=
  if (x1 < 0 ∨ n_t_counts ≤ x1.toNatClampNeg) then none else if x2 < (e_t_counts x1.toNatClampNeg) then (if ((((1300 : Int32) * x1) + x2) < 0 ∨ n_t_digits ≤ (((1300 : Int32) * x1) + x2).toNatClampNeg) then none else xnm (e_t_digits (((1300 : Int32) * x1) + x2).toNatClampNeg) fun x3_4 => if x3_4 = (5 : Int32) then (if (x1 < 0 ∨ n_t_counts ≤ x1.toNatClampNeg) then none else if (e_t_counts x1.toNatClampNeg) ≤ (x2 + (1 : Int32)) then (some (0 : Int32)) else (some (1 : Int32))) else (some (x3_4 - (5 : Int32)))) else (some (-1 : Int32))
def rm_Md_rest : Room := { frames := 0, cells := 0, slots := 0, locals := 0 }
set_option maxHeartbeats 4000000 in
set_option maxRecDepth 100000 in
theorem c_Md_rest (l : Launch) (dC : Nat → ClassId) (dI : Nat → Nat → Nat) (a_t a_t_text a_t_digits a_t_counts a_t_points a_t_limbs a_t_cells a_t_lines a_t_draft : Nat) (c_t_digits c_t_counts : ClassId) (n_t_digits : Nat) (n_t_counts : Nat) (s_t_thrown : Int32) (s_t_length : Int32) (s_t_place : Int32) (s_t_limbCount : Int32) (s_t_rows : Int32) (s_t_columns : Int32) (s_t_laid : Int32) (s_t_size : Int32) (e_t_digits : Nat → Int32) (e_t_counts : Nat → Int32) (x1 : Int32) (x2 : Int32) (r_ : Int32) (h : f_Md_rest n_t_digits n_t_counts s_t_thrown s_t_length s_t_place s_t_limbCount s_t_rows s_t_columns s_t_laid s_t_size e_t_digits e_t_counts x1 x2 = some r_) : xM l y_Md_rest (Cond.code y_Md_rest b_Md_rest 4 (some .int) :: xG) rm_Md_rest (dC, dI) x_cl x_nz [.ref a_t, .int x1, .int x2] [(c_t_digits, .int), (c_t_counts, .int)] [(a_t, .inr (8, [.int s_t_thrown, .int s_t_length, .ref a_t_text, .int s_t_place, .ref a_t_digits, .ref a_t_counts, .ref a_t_points, .ref a_t_limbs, .int s_t_limbCount, .int s_t_rows, .int s_t_columns, .ref a_t_cells, .int s_t_laid, .ref a_t_lines, .int s_t_size, .ref a_t_draft])), (a_t_digits, .inl (c_t_digits, n_t_digits, .inl e_t_digits)), (a_t_counts, .inl (c_t_counts, n_t_counts, .inl e_t_counts))] (some (.int r_)) [(a_t, .inr (8, [.int s_t_thrown, .int s_t_length, .ref a_t_text, .int s_t_place, .ref a_t_digits, .ref a_t_counts, .ref a_t_points, .ref a_t_limbs, .int s_t_limbCount, .int s_t_rows, .int s_t_columns, .ref a_t_cells, .int s_t_laid, .ref a_t_lines, .int s_t_size, .ref a_t_draft])), (a_t_digits, .inl (c_t_digits, n_t_digits, .inl e_t_digits)), (a_t_counts, .inl (c_t_counts, n_t_counts, .inl e_t_counts))] := by
  unfold f_Md_rest at h
  refine xM.mkI (cc := b_Md_rest) (maxL := 4)  (by decide +kernel) rfl (Nat.le_of_ble_eq_true rfl) ?_
  intro p e s m args below meth c A Q ls hx hb hml hown hts hNz hA hP hD hK hl hret
  have hS : va_S A s.heap s.heap [] := va_S.rf
  have hl : lv_has ls 4 [(0, .ref a_t), (1, .int x1), (2, .int x2)] := hl
  refine lv_iload_n hx hb d_Md_rest_0 rfl (lv_at hl 2 rfl) ?_
  refine lv_aload_n hx hb d_Md_rest_1 rfl (lv_at hl 0 rfl) ?_
  refine va_get (D := (dC, dI)) (ci := 8) (v := .ref a_t_counts) (C := R_Md) (T := T_Md) (N := 16) hx hb hts in_Md hown hK hP 0 rfl rfl 5 (by decide) (hts _ g_711) (fun _ h9 => h9) rfl d_Md_rest_2 ?_
  refine lv_iload_n hx hb d_Md_rest_5 rfl (lv_at hl 1 rfl) ?_
  replace h := xg h
  obtain ⟨hg_1, h⟩ := h
  refine va_iald hx hb hK hP 2 1 rfl rfl hg_1 d_Md_rest_6 ?_
  refine lv_icmp_lt (tgt := 12) hx hb d_Md_rest_7 (by decide) (fun c_2 => ?_) (fun c_2 => ?_)
  · rw [if_pos c_2] at h
    refine lv_aload_n hx hb d_Md_rest_12 rfl (lv_at hl 0 rfl) ?_
    refine va_get (D := (dC, dI)) (ci := 8) (v := .ref a_t_digits) (C := R_Md) (T := T_Md) (N := 16) hx hb hts in_Md hown hK hP 0 rfl rfl 4 (by decide) (hts _ g_710) (fun _ h9 => h9) rfl d_Md_rest_13 ?_
    refine lv_sipush (v := 1300) hx hb d_Md_rest_16 (by decide) ?_
    refine lv_iload_n hx hb d_Md_rest_19 rfl (lv_at hl 1 rfl) ?_
    refine lv_imul hx hb d_Md_rest_20 ?_
    refine lv_iload_n hx hb d_Md_rest_21 rfl (lv_at hl 2 rfl) ?_
    refine lv_iadd hx hb d_Md_rest_22 ?_
    replace h := xg h
    obtain ⟨hg_3, h⟩ := h
    refine va_iald hx hb hK hP 1 0 rfl rfl hg_3 d_Md_rest_23 ?_
    replace h := xnm_s h
    obtain ⟨x3_4, ex3_4, h⟩ := h
    refine x_topi ex3_4 ?_
    refine lv_istore_n (lv' := [(3, .int x3_4), (0, .ref a_t), (1, .int x1), (2, .int x2)]) hx hb d_Md_rest_24 rfl hl (by decide) rfl (fun ls hl => ?_)
    refine lv_iload_n hx hb d_Md_rest_25 rfl (lv_at hl 0 rfl) ?_
    refine lv_iconst (v := 5) hx hb d_Md_rest_26 (by decide) ?_
    refine lv_icmp_eq (tgt := 36) hx hb d_Md_rest_27 (by decide) (fun c_5 => ?_) (fun c_5 => ?_)
    · rw [if_pos c_5] at h
      refine lv_aload_n hx hb d_Md_rest_36 rfl (lv_at hl 1 rfl) ?_
      refine va_get (D := (dC, dI)) (ci := 8) (v := .ref a_t_counts) (C := R_Md) (T := T_Md) (N := 16) hx hb hts in_Md hown hK hP 0 rfl rfl 5 (by decide) (hts _ g_711) (fun _ h9 => h9) rfl d_Md_rest_37 ?_
      refine lv_iload_n hx hb d_Md_rest_40 rfl (lv_at hl 2 rfl) ?_
      replace h := xg h
      obtain ⟨hg_6, h⟩ := h
      refine va_iald hx hb hK hP 2 1 rfl rfl hg_6 d_Md_rest_41 ?_
      refine lv_iload_n hx hb d_Md_rest_42 rfl (lv_at hl 3 rfl) ?_
      refine lv_iconst (v := 1) hx hb d_Md_rest_43 (by decide) ?_
      refine lv_iadd hx hb d_Md_rest_44 ?_
      refine lv_icmp_le (tgt := 52) hx hb d_Md_rest_45 (by decide) (fun c_7 => ?_) (fun c_7 => ?_)
      · rw [if_pos c_7] at h
        refine lv_iconst (v := 0) hx hb d_Md_rest_52 (by decide) ?_
        replace h := Option.some.inj h
        subst h
        exact hret _ _ hP hD hS _ _ d_Md_rest_53
      · rw [if_neg c_7] at h
        refine lv_iconst (v := 1) hx hb d_Md_rest_48 (by decide) ?_
        refine lv_goto (tgt := 53) hx hb d_Md_rest_49 (by decide) ?_
        replace h := Option.some.inj h
        subst h
        exact hret _ _ hP hD hS _ _ d_Md_rest_53
    · rw [if_neg c_5] at h
      refine lv_iload_n hx hb d_Md_rest_30 rfl (lv_at hl 0 rfl) ?_
      refine lv_iconst (v := 5) hx hb d_Md_rest_31 (by decide) ?_
      refine lv_isub hx hb d_Md_rest_32 ?_
      refine lv_goto (tgt := 53) hx hb d_Md_rest_33 (by decide) ?_
      replace h := Option.some.inj h
      subst h
      exact hret _ _ hP hD hS _ _ d_Md_rest_53
  · rw [if_neg c_2] at h
    refine lv_iconst (v := -1) hx hb d_Md_rest_10 (by decide) ?_
    replace h := Option.some.inj h
    subst h
    exact hret _ _ hP hD hS _ _ d_Md_rest_11
def f_Md_round (n_t_digits : Nat) (n_t_counts : Nat) (n_t_points : Nat) (s_t_thrown : Int32) (s_t_length : Int32) (s_t_place : Int32) (s_t_limbCount : Int32) (s_t_rows : Int32) (s_t_columns : Int32) (s_t_laid : Int32) (s_t_size : Int32) (e_t_digits : Nat → Int32) (e_t_counts : Nat → Int32) (e_t_points : Nat → Int32) (x1 : Int32) (x2 : Int32) (x3 : Int32) : Option ((Nat → Int32) × (Nat → Int32) × (Nat → Int32)) :=
  xob (f_Md_rest n_t_digits n_t_counts s_t_thrown s_t_length s_t_place s_t_limbCount s_t_rows s_t_columns s_t_laid s_t_size e_t_digits e_t_counts x1 x3) fun r_1 => if (x1 < 0 ∨ n_t_counts ≤ x1.toNatClampNeg) then none else xob (if (e_t_counts x1.toNatClampNeg) < x3 then (some (0 : Int32)) else (if (((((1300 : Int32) * x1) + x3) - (1 : Int32)) < 0 ∨ n_t_digits ≤ ((((1300 : Int32) * x1) + x3) - (1 : Int32)).toNatClampNeg) then none else some (e_t_digits ((((1300 : Int32) * x1) + x3) - (1 : Int32)).toNatClampNeg))) fun z_4 => xob (if 0 < r_1 then (some (1 : Int32)) else (if r_1 = 0 then (if (z_4 - z_4 / (2 : Int32) * (2 : Int32)) = (1 : Int32) then (some (1 : Int32)) else (some (0 : Int32))) else (some (0 : Int32)))) fun z_7 => xob (f_Md_cut n_t_digits n_t_counts n_t_points s_t_thrown s_t_length s_t_place s_t_limbCount s_t_rows s_t_columns s_t_laid s_t_size e_t_digits e_t_counts e_t_points x1 x2 x3 z_7) fun (e_t_digits_10, e_t_counts_11, e_t_points_12) => some (e_t_digits_10, e_t_counts_11, e_t_points_12)
def rm_Md_round : Room := { frames := 1, cells := 0, slots := 0, locals := 27 }
set_option maxHeartbeats 4000000 in
set_option maxRecDepth 100000 in
theorem c_Md_round (l : Launch) (dC : Nat → ClassId) (dI : Nat → Nat → Nat) (a_t a_t_text a_t_digits a_t_counts a_t_points a_t_limbs a_t_cells a_t_lines a_t_draft : Nat) (c_t_digits c_t_counts c_t_points : ClassId) (n_t_digits : Nat) (n_t_counts : Nat) (n_t_points : Nat) (s_t_thrown : Int32) (s_t_length : Int32) (s_t_place : Int32) (s_t_limbCount : Int32) (s_t_rows : Int32) (s_t_columns : Int32) (s_t_laid : Int32) (s_t_size : Int32) (e_t_digits : Nat → Int32) (e_t_counts : Nat → Int32) (e_t_points : Nat → Int32) (x1 : Int32) (x2 : Int32) (x3 : Int32) (e_t_digits_o : Nat → Int32) (e_t_counts_o : Nat → Int32) (e_t_points_o : Nat → Int32) (h : f_Md_round n_t_digits n_t_counts n_t_points s_t_thrown s_t_length s_t_place s_t_limbCount s_t_rows s_t_columns s_t_laid s_t_size e_t_digits e_t_counts e_t_points x1 x2 x3 = some (e_t_digits_o, e_t_counts_o, e_t_points_o)) : xM l y_Md_round (Cond.code y_Md_round b_Md_round 6 none :: xG) rm_Md_round (dC, dI) x_cl x_nz [.ref a_t, .int x1, .int x2, .int x3] [(c_t_digits, .int), (c_t_counts, .int), (c_t_points, .int)] [(a_t, .inr (8, [.int s_t_thrown, .int s_t_length, .ref a_t_text, .int s_t_place, .ref a_t_digits, .ref a_t_counts, .ref a_t_points, .ref a_t_limbs, .int s_t_limbCount, .int s_t_rows, .int s_t_columns, .ref a_t_cells, .int s_t_laid, .ref a_t_lines, .int s_t_size, .ref a_t_draft])), (a_t_digits, .inl (c_t_digits, n_t_digits, .inl e_t_digits)), (a_t_counts, .inl (c_t_counts, n_t_counts, .inl e_t_counts)), (a_t_points, .inl (c_t_points, n_t_points, .inl e_t_points))] none [(a_t, .inr (8, [.int s_t_thrown, .int s_t_length, .ref a_t_text, .int s_t_place, .ref a_t_digits, .ref a_t_counts, .ref a_t_points, .ref a_t_limbs, .int s_t_limbCount, .int s_t_rows, .int s_t_columns, .ref a_t_cells, .int s_t_laid, .ref a_t_lines, .int s_t_size, .ref a_t_draft])), (a_t_digits, .inl (c_t_digits, n_t_digits, .inl e_t_digits_o)), (a_t_counts, .inl (c_t_counts, n_t_counts, .inl e_t_counts_o)), (a_t_points, .inl (c_t_points, n_t_points, .inl e_t_points_o))] := by
  unfold f_Md_round at h
  refine xM.mkV (cc := b_Md_round) (maxL := 6)  (by decide +kernel) rfl (Nat.le_of_ble_eq_true rfl) ?_
  intro p e s m args below meth c A Q ls hx hb hml hown hts hNz hA hP hD hK hl hret
  have hS : va_S A s.heap s.heap [] := va_S.rf
  have hl : lv_has ls 6 [(0, .ref a_t), (1, .int x1), (2, .int x2), (3, .int x3)] := hl
  refine lv_aload_n hx hb d_Md_round_0 rfl (lv_at hl 0 rfl) ?_
  refine lv_iload_n hx hb d_Md_round_1 rfl (lv_at hl 1 rfl) ?_
  refine lv_iload_n hx hb d_Md_round_2 rfl (lv_at hl 3 rfl) ?_
  replace h := xob_s h
  obtain ⟨r_1, hc_2, h⟩ := h
  try dsimp only at h
  refine xcV (As := [.int x1, .int x3]) (rest := []) (st1 := [.int r_1]) (wr := [(a_t_points, .inl (c_t_points, n_t_points, .inl e_t_points))]) ⟨hx, hb, hml, hown, hts⟩ (c_Md_rest l dC dI a_t a_t_text a_t_digits a_t_counts a_t_points a_t_limbs a_t_cells a_t_lines a_t_draft c_t_digits c_t_counts n_t_digits n_t_counts s_t_thrown s_t_length s_t_place s_t_limbCount s_t_rows s_t_columns s_t_laid s_t_size e_t_digits e_t_counts x1 x3 r_1 hc_2) (cwV 2 hts (xgoodV g_876 g_878 gp_37 g_10 g_879) rfl rfl rfl (by decide +kernel) ⟨Nat.le_of_ble_eq_true rfl, Nat.le_of_ble_eq_true rfl⟩) hNz (ci := 8) (q0 := 0) rfl rfl hA hP hD hS hK [0, 1, 2] [3] [0, 1] rfl rfl rfl rfl (by decide) rfl rfl rfl rfl hl.1 (Nat.le_of_ble_eq_true rfl) ⟨Nat.zero_le _, Nat.zero_le _⟩ d_Md_round_3 (fun H locs hP hD hS => ?_)
  have hP : va_P (dC, dI) x_cl [(a_t_points, .inl (c_t_points, n_t_points, .inl e_t_points)), (a_t, .inr (8, [.int s_t_thrown, .int s_t_length, .ref a_t_text, .int s_t_place, .ref a_t_digits, .ref a_t_counts, .ref a_t_points, .ref a_t_limbs, .int s_t_limbCount, .int s_t_rows, .int s_t_columns, .ref a_t_cells, .int s_t_laid, .ref a_t_lines, .int s_t_size, .ref a_t_draft])), (a_t_digits, .inl (c_t_digits, n_t_digits, .inl e_t_digits)), (a_t_counts, .inl (c_t_counts, n_t_counts, .inl e_t_counts))] H := hP
  have hD : va_D A [(a_t_points, .inl (c_t_points, n_t_points, .inl e_t_points)), (a_t, .inr (8, [.int s_t_thrown, .int s_t_length, .ref a_t_text, .int s_t_place, .ref a_t_digits, .ref a_t_counts, .ref a_t_points, .ref a_t_limbs, .int s_t_limbCount, .int s_t_rows, .int s_t_columns, .ref a_t_cells, .int s_t_laid, .ref a_t_lines, .int s_t_size, .ref a_t_draft])), (a_t_digits, .inl (c_t_digits, n_t_digits, .inl e_t_digits)), (a_t_counts, .inl (c_t_counts, n_t_counts, .inl e_t_counts))] := hD
  refine lv_istore (lv' := [(4, .int r_1), (0, .ref a_t), (1, .int x1), (2, .int x2), (3, .int x3)]) hx hb d_Md_round_6 hl (by decide) rfl (fun ls hl => ?_)
  refine lv_iload_n hx hb d_Md_round_8 rfl (lv_at hl 4 rfl) ?_
  refine lv_aload_n hx hb d_Md_round_9 rfl (lv_at hl 1 rfl) ?_
  refine va_get (D := (dC, dI)) (ci := 8) (v := .ref a_t_counts) (C := R_Md) (T := T_Md) (N := 16) hx hb hts in_Md hown hK hP 1 rfl rfl 5 (by decide) (hts _ g_711) (fun _ h9 => h9) rfl d_Md_round_10 ?_
  refine lv_iload_n hx hb d_Md_round_13 rfl (lv_at hl 2 rfl) ?_
  replace h := xg h
  obtain ⟨hg_3, h⟩ := h
  refine va_iald hx hb hK hP 3 1 rfl rfl hg_3 d_Md_round_14 ?_
  replace h := xob_s h
  obtain ⟨z_4, hj_5, h⟩ := h
  try dsimp only at h
  have hJ_6 : ∀ (H : Heap) (locs : List Loc) (ls : Array Slot), va_P (dC, dI) x_cl [(a_t, .inr (8, [.int s_t_thrown, .int s_t_length, .ref a_t_text, .int s_t_place, .ref a_t_digits, .ref a_t_counts, .ref a_t_points, .ref a_t_limbs, .int s_t_limbCount, .int s_t_rows, .int s_t_columns, .ref a_t_cells, .int s_t_laid, .ref a_t_lines, .int s_t_size, .ref a_t_draft])), (a_t_digits, .inl (c_t_digits, n_t_digits, .inl e_t_digits)), (a_t_counts, .inl (c_t_counts, n_t_counts, .inl e_t_counts)), (a_t_points, .inl (c_t_points, n_t_points, .inl e_t_points))] H → va_D A [(a_t, .inr (8, [.int s_t_thrown, .int s_t_length, .ref a_t_text, .int s_t_place, .ref a_t_digits, .ref a_t_counts, .ref a_t_points, .ref a_t_limbs, .int s_t_limbCount, .int s_t_rows, .int s_t_columns, .ref a_t_cells, .int s_t_laid, .ref a_t_lines, .int s_t_size, .ref a_t_draft])), (a_t_digits, .inl (c_t_digits, n_t_digits, .inl e_t_digits)), (a_t_counts, .inl (c_t_counts, n_t_counts, .inl e_t_counts)), (a_t_points, .inl (c_t_points, n_t_points, .inl e_t_points))] → va_S A s.heap H locs → lv_has ls 6 [(0, .ref a_t), (1, .int x1), (2, .int x2), (3, .int x3), (4, .int r_1)] → W p l e rm_Md_round s m args below meth c H locs 0 0 Q (F0 m 36 ls [.int z_4]) := by
    intro H locs ls hP hD hS hl
    refine lv_istore (lv' := [(5, .int z_4), (0, .ref a_t), (1, .int x1), (2, .int x2), (3, .int x3), (4, .int r_1)]) hx hb d_Md_round_36 hl (by decide) rfl (fun ls hl => ?_)
    refine lv_aload_n hx hb d_Md_round_38 rfl (lv_at hl 1 rfl) ?_
    refine lv_iload_n hx hb d_Md_round_39 rfl (lv_at hl 2 rfl) ?_
    refine lv_iload_n hx hb d_Md_round_40 rfl (lv_at hl 3 rfl) ?_
    refine lv_iload_n hx hb d_Md_round_41 rfl (lv_at hl 4 rfl) ?_
    refine lv_iload hx hb d_Md_round_42 (lv_at hl 5 rfl) ?_
    replace h := xob_s h
    obtain ⟨z_7, hj_8, h⟩ := h
    try dsimp only at h
    have hJ_9 : ∀ (H : Heap) (locs : List Loc) (ls : Array Slot), va_P (dC, dI) x_cl [(a_t, .inr (8, [.int s_t_thrown, .int s_t_length, .ref a_t_text, .int s_t_place, .ref a_t_digits, .ref a_t_counts, .ref a_t_points, .ref a_t_limbs, .int s_t_limbCount, .int s_t_rows, .int s_t_columns, .ref a_t_cells, .int s_t_laid, .ref a_t_lines, .int s_t_size, .ref a_t_draft])), (a_t_digits, .inl (c_t_digits, n_t_digits, .inl e_t_digits)), (a_t_counts, .inl (c_t_counts, n_t_counts, .inl e_t_counts)), (a_t_points, .inl (c_t_points, n_t_points, .inl e_t_points))] H → va_D A [(a_t, .inr (8, [.int s_t_thrown, .int s_t_length, .ref a_t_text, .int s_t_place, .ref a_t_digits, .ref a_t_counts, .ref a_t_points, .ref a_t_limbs, .int s_t_limbCount, .int s_t_rows, .int s_t_columns, .ref a_t_cells, .int s_t_laid, .ref a_t_lines, .int s_t_size, .ref a_t_draft])), (a_t_digits, .inl (c_t_digits, n_t_digits, .inl e_t_digits)), (a_t_counts, .inl (c_t_counts, n_t_counts, .inl e_t_counts)), (a_t_points, .inl (c_t_points, n_t_points, .inl e_t_points))] → va_S A s.heap H locs → lv_has ls 6 [] → W p l e rm_Md_round s m args below meth c H locs 0 0 Q (F0 m 65 ls [.int z_7, .int x3, .int x2, .int x1, .ref a_t]) := by
      intro H locs ls hP hD hS hl
      replace h := xob_s h
      obtain ⟨⟨e_t_digits_10, e_t_counts_11, e_t_points_12⟩, hc_13, h⟩ := h
      try dsimp only at h
      refine xcV (As := [.int x1, .int x2, .int x3, .int z_7]) (rest := []) (st1 := []) (wr := []) ⟨hx, hb, hml, hown, hts⟩ (c_Md_cut l dC dI a_t a_t_text a_t_digits a_t_counts a_t_points a_t_limbs a_t_cells a_t_lines a_t_draft c_t_digits c_t_counts c_t_points n_t_digits n_t_counts n_t_points s_t_thrown s_t_length s_t_place s_t_limbCount s_t_rows s_t_columns s_t_laid s_t_size e_t_digits e_t_counts e_t_points x1 x2 x3 z_7 e_t_digits_10 e_t_counts_11 e_t_points_12 hc_13) (cwV 4 hts (xgoodV g_872 g_874 gp_36 g_10 g_875) rfl rfl rfl (by decide +kernel) ⟨Nat.le_of_ble_eq_true rfl, Nat.le_of_ble_eq_true rfl⟩) hNz (ci := 8) (q0 := 0) rfl rfl hA hP hD hS hK [0, 1, 2, 3] [] [0, 1, 2] rfl rfl rfl rfl (by decide) rfl rfl rfl rfl hl.1 (Nat.le_of_ble_eq_true rfl) ⟨Nat.zero_le _, Nat.zero_le _⟩ d_Md_round_65 (fun H locs hP hD hS => ?_)
      have hP : va_P (dC, dI) x_cl [(a_t, .inr (8, [.int s_t_thrown, .int s_t_length, .ref a_t_text, .int s_t_place, .ref a_t_digits, .ref a_t_counts, .ref a_t_points, .ref a_t_limbs, .int s_t_limbCount, .int s_t_rows, .int s_t_columns, .ref a_t_cells, .int s_t_laid, .ref a_t_lines, .int s_t_size, .ref a_t_draft])), (a_t_digits, .inl (c_t_digits, n_t_digits, .inl e_t_digits_10)), (a_t_counts, .inl (c_t_counts, n_t_counts, .inl e_t_counts_11)), (a_t_points, .inl (c_t_points, n_t_points, .inl e_t_points_12))] H := hP
      have hD : va_D A [(a_t, .inr (8, [.int s_t_thrown, .int s_t_length, .ref a_t_text, .int s_t_place, .ref a_t_digits, .ref a_t_counts, .ref a_t_points, .ref a_t_limbs, .int s_t_limbCount, .int s_t_rows, .int s_t_columns, .ref a_t_cells, .int s_t_laid, .ref a_t_lines, .int s_t_size, .ref a_t_draft])), (a_t_digits, .inl (c_t_digits, n_t_digits, .inl e_t_digits_10)), (a_t_counts, .inl (c_t_counts, n_t_counts, .inl e_t_counts_11)), (a_t_points, .inl (c_t_points, n_t_points, .inl e_t_points_12))] := hD
      replace h := Option.some.inj h
      replace h := Prod.mk.inj h
      obtain ⟨h1, h⟩ := h
      subst h1
      replace h := Prod.mk.inj h
      obtain ⟨h1, h⟩ := h
      subst h1
      subst h
      exact hret _ _ hP hD hS _ _ d_Md_round_68
    replace h := hj_8
    clear hj_8
    refine lv_if_gt (tgt := 60) hx hb d_Md_round_44 (by decide) (fun c_14 => ?_) (fun c_14 => ?_)
    · rw [if_pos c_14] at h
      refine lv_iconst (v := 1) hx hb d_Md_round_60 (by decide) ?_
      refine lv_goto (tgt := 65) hx hb d_Md_round_61 (by decide) ?_
      replace h := Option.some.inj h
      subst h
      exact hJ_9 _ _ _ hP hD hS (lv_sub hl [] rfl)
    · rw [if_neg c_14] at h
      refine lv_iload hx hb d_Md_round_47 (lv_at hl 5 rfl) ?_
      refine lv_if_ne (tgt := 64) hx hb d_Md_round_49 (by decide) (fun c_15 => ?_) (fun c_15 => ?_)
      · rw [if_neg c_15] at h
        refine lv_iconst (v := 0) hx hb d_Md_round_64 (by decide) ?_
        replace h := Option.some.inj h
        subst h
        exact hJ_9 _ _ _ hP hD hS (lv_sub hl [] rfl)
      · rw [if_pos c_15] at h
        refine lv_iload hx hb d_Md_round_52 (lv_at hl 0 rfl) ?_
        refine lv_iconst (v := 2) hx hb d_Md_round_54 (by decide) ?_
        refine lv_irem hx hb d_Md_round_55 (by decide) ?_
        refine lv_iconst (v := 1) hx hb d_Md_round_56 (by decide) ?_
        refine lv_icmp_ne (tgt := 64) hx hb d_Md_round_57 (by decide) (fun c_16 => ?_) (fun c_16 => ?_)
        · rw [if_neg c_16] at h
          refine lv_iconst (v := 0) hx hb d_Md_round_64 (by decide) ?_
          replace h := Option.some.inj h
          subst h
          exact hJ_9 _ _ _ hP hD hS (lv_sub hl [] rfl)
        · rw [if_pos c_16] at h
          refine lv_iconst (v := 1) hx hb d_Md_round_60 (by decide) ?_
          refine lv_goto (tgt := 65) hx hb d_Md_round_61 (by decide) ?_
          replace h := Option.some.inj h
          subst h
          exact hJ_9 _ _ _ hP hD hS (lv_sub hl [] rfl)
  replace h := hj_5
  clear hj_5
  refine lv_icmp_gt (tgt := 35) hx hb d_Md_round_15 (by decide) (fun c_17 => ?_) (fun c_17 => ?_)
  · rw [if_pos c_17] at h
    refine lv_iconst (v := 0) hx hb d_Md_round_35 (by decide) ?_
    replace h := Option.some.inj h
    subst h
    exact hJ_6 _ _ _ (hP.sub [1, 2, 3, 0] rfl) (hD.sub [1, 2, 3, 0] (by decide) rfl) hS (lv_sub hl [1, 2, 3, 4, 0] rfl)
  · rw [if_neg c_17] at h
    refine lv_aload_n hx hb d_Md_round_18 rfl (lv_at hl 1 rfl) ?_
    refine va_get (D := (dC, dI)) (ci := 8) (v := .ref a_t_digits) (C := R_Md) (T := T_Md) (N := 16) hx hb hts in_Md hown hK hP 1 rfl rfl 4 (by decide) (hts _ g_710) (fun _ h9 => h9) rfl d_Md_round_19 ?_
    refine lv_sipush (v := 1300) hx hb d_Md_round_22 (by decide) ?_
    refine lv_iload_n hx hb d_Md_round_25 rfl (lv_at hl 2 rfl) ?_
    refine lv_imul hx hb d_Md_round_26 ?_
    refine lv_iload_n hx hb d_Md_round_27 rfl (lv_at hl 4 rfl) ?_
    refine lv_iadd hx hb d_Md_round_28 ?_
    refine lv_iconst (v := 1) hx hb d_Md_round_29 (by decide) ?_
    refine lv_isub hx hb d_Md_round_30 ?_
    replace h := xg h
    obtain ⟨hg_18, h⟩ := h
    refine va_iald hx hb hK hP 2 0 rfl rfl hg_18 d_Md_round_31 ?_
    refine lv_goto (tgt := 36) hx hb d_Md_round_32 (by decide) ?_
    replace h := Option.some.inj h
    subst h
    exact hJ_6 _ _ _ (hP.sub [1, 2, 3, 0] rfl) (hD.sub [1, 2, 3, 0] (by decide) rfl) hS (lv_sub hl [1, 2, 3, 4, 0] rfl)
def f_Md_isBetween (n_t_digits : Nat) (n_t_counts : Nat) (n_t_points : Nat) (n_t_limbs : Nat) (s_t_thrown : Int32) (s_t_length : Int32) (s_t_place : Int32) (s_t_limbCount : Int32) (s_t_rows : Int32) (s_t_columns : Int32) (s_t_laid : Int32) (s_t_size : Int32) (e_t_digits : Nat → Int32) (e_t_counts : Nat → Int32) (e_t_points : Nat → Int32) (e_t_limbs : Nat → Int32) (x1 : Int64) (x3 : Int32) (x4 : Int32) (x5 : Int32) : Option (Int32 × Int32 × (Nat → Int32) × (Nat → Int32) × (Nat → Int32) × (Nat → Int32)) :=
  xob (f_Md_value n_t_digits n_t_counts n_t_points n_t_limbs s_t_thrown s_t_length s_t_place s_t_limbCount s_t_rows s_t_columns s_t_laid s_t_size e_t_digits e_t_counts e_t_points e_t_limbs (0 : Int32) x1) fun (s_t_limbCount_1, e_t_digits_2, e_t_counts_3, e_t_points_4, e_t_limbs_5) => if x4 = 0 then (xob (f_Md_cut n_t_digits n_t_counts n_t_points s_t_thrown s_t_length s_t_place s_t_limbCount_1 s_t_rows s_t_columns s_t_laid s_t_size e_t_digits_2 e_t_counts_3 e_t_points_4 (0 : Int32) (2 : Int32) x3 x4) fun (e_t_digits_8, e_t_counts_9, e_t_points_10) => xob (f_Md_cutZeros n_t_digits n_t_counts s_t_thrown s_t_length s_t_place s_t_limbCount_1 s_t_rows s_t_columns s_t_laid s_t_size e_t_digits_8 e_t_counts_9 (2 : Int32)) fun e_t_counts_12 => xob (f_Md_between n_t_digits n_t_counts n_t_points n_t_limbs s_t_thrown s_t_length s_t_place s_t_limbCount_1 s_t_rows s_t_columns s_t_laid s_t_size e_t_digits_8 e_t_counts_12 e_t_points_10 e_t_limbs_5 (1 : Int32) x1) fun (s_t_limbCount_14, e_t_digits_15, e_t_counts_16, e_t_points_17, e_t_limbs_18) => xob (f_Md_against n_t_digits n_t_counts n_t_points s_t_thrown s_t_length s_t_place s_t_limbCount_14 s_t_rows s_t_columns s_t_laid s_t_size e_t_digits_15 e_t_counts_16 e_t_points_17 (2 : Int32) (1 : Int32)) fun r_20 => if 0 < r_20 then (some ((0 : Int32), s_t_limbCount_14, e_t_digits_15, e_t_counts_16, e_t_points_17, e_t_limbs_18)) else (if r_20 = 0 then (if x5 = 0 then (some ((0 : Int32), s_t_limbCount_14, e_t_digits_15, e_t_counts_16, e_t_points_17, e_t_limbs_18)) else (xob (f_Md_between n_t_digits n_t_counts n_t_points n_t_limbs s_t_thrown s_t_length s_t_place s_t_limbCount_14 s_t_rows s_t_columns s_t_laid s_t_size e_t_digits_15 e_t_counts_16 e_t_points_17 e_t_limbs_18 (1 : Int32) (x1 - (1 : Int64))) fun (s_t_limbCount_36, e_t_digits_37, e_t_counts_38, e_t_points_39, e_t_limbs_40) => xob (f_Md_against n_t_digits n_t_counts n_t_points s_t_thrown s_t_length s_t_place s_t_limbCount_36 s_t_rows s_t_columns s_t_laid s_t_size e_t_digits_37 e_t_counts_38 e_t_points_39 (2 : Int32) (1 : Int32)) fun r_42 => if 0 < r_42 then (some ((1 : Int32), s_t_limbCount_36, e_t_digits_37, e_t_counts_38, e_t_points_39, e_t_limbs_40)) else (if r_42 = 0 then (if x5 = 0 then (some ((0 : Int32), s_t_limbCount_36, e_t_digits_37, e_t_counts_38, e_t_points_39, e_t_limbs_40)) else (some ((1 : Int32), s_t_limbCount_36, e_t_digits_37, e_t_counts_38, e_t_points_39, e_t_limbs_40))) else (some ((0 : Int32), s_t_limbCount_36, e_t_digits_37, e_t_counts_38, e_t_points_39, e_t_limbs_40))))) else (xob (f_Md_between n_t_digits n_t_counts n_t_points n_t_limbs s_t_thrown s_t_length s_t_place s_t_limbCount_14 s_t_rows s_t_columns s_t_laid s_t_size e_t_digits_15 e_t_counts_16 e_t_points_17 e_t_limbs_18 (1 : Int32) (x1 - (1 : Int64))) fun (s_t_limbCount_24, e_t_digits_25, e_t_counts_26, e_t_points_27, e_t_limbs_28) => xob (f_Md_against n_t_digits n_t_counts n_t_points s_t_thrown s_t_length s_t_place s_t_limbCount_24 s_t_rows s_t_columns s_t_laid s_t_size e_t_digits_25 e_t_counts_26 e_t_points_27 (2 : Int32) (1 : Int32)) fun r_30 => if 0 < r_30 then (some ((1 : Int32), s_t_limbCount_24, e_t_digits_25, e_t_counts_26, e_t_points_27, e_t_limbs_28)) else (if r_30 = 0 then (if x5 = 0 then (some ((0 : Int32), s_t_limbCount_24, e_t_digits_25, e_t_counts_26, e_t_points_27, e_t_limbs_28)) else (some ((1 : Int32), s_t_limbCount_24, e_t_digits_25, e_t_counts_26, e_t_points_27, e_t_limbs_28))) else (some ((0 : Int32), s_t_limbCount_24, e_t_digits_25, e_t_counts_26, e_t_points_27, e_t_limbs_28)))))) else (if ((0 : Int32) < 0 ∨ n_t_counts ≤ (0 : Int32).toNatClampNeg) then none else if x3 < (e_t_counts_3 (0 : Int32).toNatClampNeg) then (xob (f_Md_cut n_t_digits n_t_counts n_t_points s_t_thrown s_t_length s_t_place s_t_limbCount_1 s_t_rows s_t_columns s_t_laid s_t_size e_t_digits_2 e_t_counts_3 e_t_points_4 (0 : Int32) (2 : Int32) x3 x4) fun (e_t_digits_49, e_t_counts_50, e_t_points_51) => xob (f_Md_cutZeros n_t_digits n_t_counts s_t_thrown s_t_length s_t_place s_t_limbCount_1 s_t_rows s_t_columns s_t_laid s_t_size e_t_digits_49 e_t_counts_50 (2 : Int32)) fun e_t_counts_53 => xob (f_Md_between n_t_digits n_t_counts n_t_points n_t_limbs s_t_thrown s_t_length s_t_place s_t_limbCount_1 s_t_rows s_t_columns s_t_laid s_t_size e_t_digits_49 e_t_counts_53 e_t_points_51 e_t_limbs_5 (1 : Int32) x1) fun (s_t_limbCount_55, e_t_digits_56, e_t_counts_57, e_t_points_58, e_t_limbs_59) => xob (f_Md_against n_t_digits n_t_counts n_t_points s_t_thrown s_t_length s_t_place s_t_limbCount_55 s_t_rows s_t_columns s_t_laid s_t_size e_t_digits_56 e_t_counts_57 e_t_points_58 (2 : Int32) (1 : Int32)) fun r_61 => if 0 < r_61 then (some ((0 : Int32), s_t_limbCount_55, e_t_digits_56, e_t_counts_57, e_t_points_58, e_t_limbs_59)) else (if r_61 = 0 then (if x5 = 0 then (some ((0 : Int32), s_t_limbCount_55, e_t_digits_56, e_t_counts_57, e_t_points_58, e_t_limbs_59)) else (xob (f_Md_between n_t_digits n_t_counts n_t_points n_t_limbs s_t_thrown s_t_length s_t_place s_t_limbCount_55 s_t_rows s_t_columns s_t_laid s_t_size e_t_digits_56 e_t_counts_57 e_t_points_58 e_t_limbs_59 (1 : Int32) (x1 - (1 : Int64))) fun (s_t_limbCount_77, e_t_digits_78, e_t_counts_79, e_t_points_80, e_t_limbs_81) => xob (f_Md_against n_t_digits n_t_counts n_t_points s_t_thrown s_t_length s_t_place s_t_limbCount_77 s_t_rows s_t_columns s_t_laid s_t_size e_t_digits_78 e_t_counts_79 e_t_points_80 (2 : Int32) (1 : Int32)) fun r_83 => if 0 < r_83 then (some ((1 : Int32), s_t_limbCount_77, e_t_digits_78, e_t_counts_79, e_t_points_80, e_t_limbs_81)) else (if r_83 = 0 then (if x5 = 0 then (some ((0 : Int32), s_t_limbCount_77, e_t_digits_78, e_t_counts_79, e_t_points_80, e_t_limbs_81)) else (some ((1 : Int32), s_t_limbCount_77, e_t_digits_78, e_t_counts_79, e_t_points_80, e_t_limbs_81))) else (some ((0 : Int32), s_t_limbCount_77, e_t_digits_78, e_t_counts_79, e_t_points_80, e_t_limbs_81))))) else (xob (f_Md_between n_t_digits n_t_counts n_t_points n_t_limbs s_t_thrown s_t_length s_t_place s_t_limbCount_55 s_t_rows s_t_columns s_t_laid s_t_size e_t_digits_56 e_t_counts_57 e_t_points_58 e_t_limbs_59 (1 : Int32) (x1 - (1 : Int64))) fun (s_t_limbCount_65, e_t_digits_66, e_t_counts_67, e_t_points_68, e_t_limbs_69) => xob (f_Md_against n_t_digits n_t_counts n_t_points s_t_thrown s_t_length s_t_place s_t_limbCount_65 s_t_rows s_t_columns s_t_laid s_t_size e_t_digits_66 e_t_counts_67 e_t_points_68 (2 : Int32) (1 : Int32)) fun r_71 => if 0 < r_71 then (some ((1 : Int32), s_t_limbCount_65, e_t_digits_66, e_t_counts_67, e_t_points_68, e_t_limbs_69)) else (if r_71 = 0 then (if x5 = 0 then (some ((0 : Int32), s_t_limbCount_65, e_t_digits_66, e_t_counts_67, e_t_points_68, e_t_limbs_69)) else (some ((1 : Int32), s_t_limbCount_65, e_t_digits_66, e_t_counts_67, e_t_points_68, e_t_limbs_69))) else (some ((0 : Int32), s_t_limbCount_65, e_t_digits_66, e_t_counts_67, e_t_points_68, e_t_limbs_69)))))) else (some ((0 : Int32), s_t_limbCount_1, e_t_digits_2, e_t_counts_3, e_t_points_4, e_t_limbs_5)))
def rm_Md_isBetween : Room := { frames := 4, cells := 0, slots := 0, locals := 104 }
set_option maxHeartbeats 4000000 in
set_option maxRecDepth 100000 in
theorem c_Md_isBetween (l : Launch) (dC : Nat → ClassId) (dI : Nat → Nat → Nat) (a_t a_t_text a_t_digits a_t_counts a_t_points a_t_limbs a_t_cells a_t_lines a_t_draft : Nat) (c_t_digits c_t_counts c_t_points c_t_limbs : ClassId) (n_t_digits : Nat) (n_t_counts : Nat) (n_t_points : Nat) (n_t_limbs : Nat) (s_t_thrown : Int32) (s_t_length : Int32) (s_t_place : Int32) (s_t_limbCount : Int32) (s_t_rows : Int32) (s_t_columns : Int32) (s_t_laid : Int32) (s_t_size : Int32) (e_t_digits : Nat → Int32) (e_t_counts : Nat → Int32) (e_t_points : Nat → Int32) (e_t_limbs : Nat → Int32) (x1 : Int64) (x3 : Int32) (x4 : Int32) (x5 : Int32) (r_ : Int32) (s_t_limbCount_o : Int32) (e_t_digits_o : Nat → Int32) (e_t_counts_o : Nat → Int32) (e_t_points_o : Nat → Int32) (e_t_limbs_o : Nat → Int32) (h : f_Md_isBetween n_t_digits n_t_counts n_t_points n_t_limbs s_t_thrown s_t_length s_t_place s_t_limbCount s_t_rows s_t_columns s_t_laid s_t_size e_t_digits e_t_counts e_t_points e_t_limbs x1 x3 x4 x5 = some (r_, s_t_limbCount_o, e_t_digits_o, e_t_counts_o, e_t_points_o, e_t_limbs_o)) : xM l y_Md_isBetween (Cond.code y_Md_isBetween b_Md_isBetween 8 (some .boolean) :: xG) rm_Md_isBetween (dC, dI) x_cl x_nz [.ref a_t, .long x1, .int x3, .int x4, .int x5] [(c_t_digits, .int), (c_t_counts, .int), (c_t_points, .int), (c_t_limbs, .int)] [(a_t, .inr (8, [.int s_t_thrown, .int s_t_length, .ref a_t_text, .int s_t_place, .ref a_t_digits, .ref a_t_counts, .ref a_t_points, .ref a_t_limbs, .int s_t_limbCount, .int s_t_rows, .int s_t_columns, .ref a_t_cells, .int s_t_laid, .ref a_t_lines, .int s_t_size, .ref a_t_draft])), (a_t_digits, .inl (c_t_digits, n_t_digits, .inl e_t_digits)), (a_t_counts, .inl (c_t_counts, n_t_counts, .inl e_t_counts)), (a_t_points, .inl (c_t_points, n_t_points, .inl e_t_points)), (a_t_limbs, .inl (c_t_limbs, n_t_limbs, .inl e_t_limbs))] (some (.int r_)) [(a_t, .inr (8, [.int s_t_thrown, .int s_t_length, .ref a_t_text, .int s_t_place, .ref a_t_digits, .ref a_t_counts, .ref a_t_points, .ref a_t_limbs, .int s_t_limbCount_o, .int s_t_rows, .int s_t_columns, .ref a_t_cells, .int s_t_laid, .ref a_t_lines, .int s_t_size, .ref a_t_draft])), (a_t_digits, .inl (c_t_digits, n_t_digits, .inl e_t_digits_o)), (a_t_counts, .inl (c_t_counts, n_t_counts, .inl e_t_counts_o)), (a_t_points, .inl (c_t_points, n_t_points, .inl e_t_points_o)), (a_t_limbs, .inl (c_t_limbs, n_t_limbs, .inl e_t_limbs_o))] := by
  unfold f_Md_isBetween at h
  refine xM.mkZ (cc := b_Md_isBetween) (maxL := 8)  (by decide +kernel) rfl (Nat.le_of_ble_eq_true rfl) ?_
  intro p e s m args below meth c A Q ls hx hb hml hown hts hNz hA hP hD hK hl hret
  have hS : va_S A s.heap s.heap [] := va_S.rf
  have hl : lv_has ls 8 [(0, .ref a_t), (1, .long x1), (3, .int x3), (4, .int x4), (5, .int x5)] := hl
  refine lv_aload_n hx hb d_Md_isBetween_0 rfl (lv_at hl 0 rfl) ?_
  refine lv_iconst (v := 0) hx hb d_Md_isBetween_1 (by decide) ?_
  refine lv_lload_n hx hb d_Md_isBetween_2 rfl (lv_at hl 1 rfl) ?_
  replace h := xob_s h
  obtain ⟨⟨s_t_limbCount_1, e_t_digits_2, e_t_counts_3, e_t_points_4, e_t_limbs_5⟩, hc_6, h⟩ := h
  try dsimp only at h
  refine xcV (As := [.int (0 : Int32), .long x1]) (rest := []) (st1 := []) (wr := []) ⟨hx, hb, hml, hown, hts⟩ (c_Md_value l dC dI a_t a_t_text a_t_digits a_t_counts a_t_points a_t_limbs a_t_cells a_t_lines a_t_draft c_t_digits c_t_counts c_t_points c_t_limbs n_t_digits n_t_counts n_t_points n_t_limbs s_t_thrown s_t_length s_t_place s_t_limbCount s_t_rows s_t_columns s_t_laid s_t_size e_t_digits e_t_counts e_t_points e_t_limbs (0 : Int32) x1 s_t_limbCount_1 e_t_digits_2 e_t_counts_3 e_t_points_4 e_t_limbs_5 hc_6) (cwV 2 hts (xgoodV g_806 g_808 gp_25 g_10 g_809) rfl rfl rfl (by decide +kernel) ⟨Nat.le_of_ble_eq_true rfl, Nat.le_of_ble_eq_true rfl⟩) hNz (ci := 8) (q0 := 0) rfl rfl hA hP hD hS hK [0, 1, 2, 3, 4] [] [0, 1, 2, 3] rfl rfl rfl rfl (by decide) rfl rfl rfl rfl hl.1 (Nat.le_of_ble_eq_true rfl) ⟨Nat.zero_le _, Nat.zero_le _⟩ d_Md_isBetween_3 (fun H locs hP hD hS => ?_)
  have hP : va_P (dC, dI) x_cl [(a_t, .inr (8, [.int s_t_thrown, .int s_t_length, .ref a_t_text, .int s_t_place, .ref a_t_digits, .ref a_t_counts, .ref a_t_points, .ref a_t_limbs, .int s_t_limbCount_1, .int s_t_rows, .int s_t_columns, .ref a_t_cells, .int s_t_laid, .ref a_t_lines, .int s_t_size, .ref a_t_draft])), (a_t_digits, .inl (c_t_digits, n_t_digits, .inl e_t_digits_2)), (a_t_counts, .inl (c_t_counts, n_t_counts, .inl e_t_counts_3)), (a_t_points, .inl (c_t_points, n_t_points, .inl e_t_points_4)), (a_t_limbs, .inl (c_t_limbs, n_t_limbs, .inl e_t_limbs_5))] H := hP
  have hD : va_D A [(a_t, .inr (8, [.int s_t_thrown, .int s_t_length, .ref a_t_text, .int s_t_place, .ref a_t_digits, .ref a_t_counts, .ref a_t_points, .ref a_t_limbs, .int s_t_limbCount_1, .int s_t_rows, .int s_t_columns, .ref a_t_cells, .int s_t_laid, .ref a_t_lines, .int s_t_size, .ref a_t_draft])), (a_t_digits, .inl (c_t_digits, n_t_digits, .inl e_t_digits_2)), (a_t_counts, .inl (c_t_counts, n_t_counts, .inl e_t_counts_3)), (a_t_points, .inl (c_t_points, n_t_points, .inl e_t_points_4)), (a_t_limbs, .inl (c_t_limbs, n_t_limbs, .inl e_t_limbs_5))] := hD
  refine lv_iload hx hb d_Md_isBetween_6 (lv_at hl 3 rfl) ?_
  refine lv_if_eq (tgt := 23) hx hb d_Md_isBetween_8 (by decide) (fun c_7 => ?_) (fun c_7 => ?_)
  · rw [if_pos c_7] at h
    refine lv_aload_n hx hb d_Md_isBetween_23 rfl (lv_at hl 0 rfl) ?_
    refine lv_iconst (v := 0) hx hb d_Md_isBetween_24 (by decide) ?_
    refine lv_iconst (v := 2) hx hb d_Md_isBetween_25 (by decide) ?_
    refine lv_iload_n hx hb d_Md_isBetween_26 rfl (lv_at hl 2 rfl) ?_
    refine lv_iload hx hb d_Md_isBetween_27 (lv_at hl 3 rfl) ?_
    replace h := xob_s h
    obtain ⟨⟨e_t_digits_8, e_t_counts_9, e_t_points_10⟩, hc_11, h⟩ := h
    try dsimp only at h
    refine xcV (As := [.int (0 : Int32), .int (2 : Int32), .int x3, .int x4]) (rest := []) (st1 := []) (wr := [(a_t_limbs, .inl (c_t_limbs, n_t_limbs, .inl e_t_limbs_5))]) ⟨hx, hb, hml, hown, hts⟩ (c_Md_cut l dC dI a_t a_t_text a_t_digits a_t_counts a_t_points a_t_limbs a_t_cells a_t_lines a_t_draft c_t_digits c_t_counts c_t_points n_t_digits n_t_counts n_t_points s_t_thrown s_t_length s_t_place s_t_limbCount_1 s_t_rows s_t_columns s_t_laid s_t_size e_t_digits_2 e_t_counts_3 e_t_points_4 (0 : Int32) (2 : Int32) x3 x4 e_t_digits_8 e_t_counts_9 e_t_points_10 hc_11) (cwV 4 hts (xgoodV g_872 g_874 gp_36 g_10 g_875) rfl rfl rfl (by decide +kernel) ⟨Nat.le_of_ble_eq_true rfl, Nat.le_of_ble_eq_true rfl⟩) hNz (ci := 8) (q0 := 0) rfl rfl hA hP hD hS hK [0, 1, 2, 3] [4] [0, 1, 2] rfl rfl rfl rfl (by decide) rfl rfl rfl rfl hl.1 (Nat.le_of_ble_eq_true rfl) ⟨Nat.zero_le _, Nat.zero_le _⟩ d_Md_isBetween_29 (fun H locs hP hD hS => ?_)
    have hP : va_P (dC, dI) x_cl [(a_t_limbs, .inl (c_t_limbs, n_t_limbs, .inl e_t_limbs_5)), (a_t, .inr (8, [.int s_t_thrown, .int s_t_length, .ref a_t_text, .int s_t_place, .ref a_t_digits, .ref a_t_counts, .ref a_t_points, .ref a_t_limbs, .int s_t_limbCount_1, .int s_t_rows, .int s_t_columns, .ref a_t_cells, .int s_t_laid, .ref a_t_lines, .int s_t_size, .ref a_t_draft])), (a_t_digits, .inl (c_t_digits, n_t_digits, .inl e_t_digits_8)), (a_t_counts, .inl (c_t_counts, n_t_counts, .inl e_t_counts_9)), (a_t_points, .inl (c_t_points, n_t_points, .inl e_t_points_10))] H := hP
    have hD : va_D A [(a_t_limbs, .inl (c_t_limbs, n_t_limbs, .inl e_t_limbs_5)), (a_t, .inr (8, [.int s_t_thrown, .int s_t_length, .ref a_t_text, .int s_t_place, .ref a_t_digits, .ref a_t_counts, .ref a_t_points, .ref a_t_limbs, .int s_t_limbCount_1, .int s_t_rows, .int s_t_columns, .ref a_t_cells, .int s_t_laid, .ref a_t_lines, .int s_t_size, .ref a_t_draft])), (a_t_digits, .inl (c_t_digits, n_t_digits, .inl e_t_digits_8)), (a_t_counts, .inl (c_t_counts, n_t_counts, .inl e_t_counts_9)), (a_t_points, .inl (c_t_points, n_t_points, .inl e_t_points_10))] := hD
    refine lv_aload_n hx hb d_Md_isBetween_32 rfl (lv_at hl 0 rfl) ?_
    refine lv_iconst (v := 2) hx hb d_Md_isBetween_33 (by decide) ?_
    replace h := xob_s h
    obtain ⟨e_t_counts_12, hc_13, h⟩ := h
    try dsimp only at h
    refine xcV (As := [.int (2 : Int32)]) (rest := []) (st1 := []) (wr := [(a_t_limbs, .inl (c_t_limbs, n_t_limbs, .inl e_t_limbs_5)), (a_t_points, .inl (c_t_points, n_t_points, .inl e_t_points_10))]) ⟨hx, hb, hml, hown, hts⟩ (c_Md_cutZeros l dC dI a_t a_t_text a_t_digits a_t_counts a_t_points a_t_limbs a_t_cells a_t_lines a_t_draft c_t_digits c_t_counts n_t_digits n_t_counts s_t_thrown s_t_length s_t_place s_t_limbCount_1 s_t_rows s_t_columns s_t_laid s_t_size e_t_digits_8 e_t_counts_9 (2 : Int32) e_t_counts_12 hc_13) (cwV 1 hts (xgoodV g_797 g_799 gp_23 g_10 g_800) rfl rfl rfl (by decide +kernel) ⟨Nat.le_of_ble_eq_true rfl, Nat.le_of_ble_eq_true rfl⟩) hNz (ci := 8) (q0 := 1) rfl rfl hA hP hD hS hK [1, 2, 3] [0, 4] [0, 1] rfl rfl rfl rfl (by decide) rfl rfl rfl rfl hl.1 (Nat.le_of_ble_eq_true rfl) ⟨Nat.zero_le _, Nat.zero_le _⟩ d_Md_isBetween_34 (fun H locs hP hD hS => ?_)
    have hP : va_P (dC, dI) x_cl [(a_t_limbs, .inl (c_t_limbs, n_t_limbs, .inl e_t_limbs_5)), (a_t_points, .inl (c_t_points, n_t_points, .inl e_t_points_10)), (a_t, .inr (8, [.int s_t_thrown, .int s_t_length, .ref a_t_text, .int s_t_place, .ref a_t_digits, .ref a_t_counts, .ref a_t_points, .ref a_t_limbs, .int s_t_limbCount_1, .int s_t_rows, .int s_t_columns, .ref a_t_cells, .int s_t_laid, .ref a_t_lines, .int s_t_size, .ref a_t_draft])), (a_t_digits, .inl (c_t_digits, n_t_digits, .inl e_t_digits_8)), (a_t_counts, .inl (c_t_counts, n_t_counts, .inl e_t_counts_12))] H := hP
    have hD : va_D A [(a_t_limbs, .inl (c_t_limbs, n_t_limbs, .inl e_t_limbs_5)), (a_t_points, .inl (c_t_points, n_t_points, .inl e_t_points_10)), (a_t, .inr (8, [.int s_t_thrown, .int s_t_length, .ref a_t_text, .int s_t_place, .ref a_t_digits, .ref a_t_counts, .ref a_t_points, .ref a_t_limbs, .int s_t_limbCount_1, .int s_t_rows, .int s_t_columns, .ref a_t_cells, .int s_t_laid, .ref a_t_lines, .int s_t_size, .ref a_t_draft])), (a_t_digits, .inl (c_t_digits, n_t_digits, .inl e_t_digits_8)), (a_t_counts, .inl (c_t_counts, n_t_counts, .inl e_t_counts_12))] := hD
    refine lv_aload_n hx hb d_Md_isBetween_37 rfl (lv_at hl 0 rfl) ?_
    refine lv_iconst (v := 1) hx hb d_Md_isBetween_38 (by decide) ?_
    refine lv_lload_n hx hb d_Md_isBetween_39 rfl (lv_at hl 1 rfl) ?_
    replace h := xob_s h
    obtain ⟨⟨s_t_limbCount_14, e_t_digits_15, e_t_counts_16, e_t_points_17, e_t_limbs_18⟩, hc_19, h⟩ := h
    try dsimp only at h
    refine xcV (As := [.int (1 : Int32), .long x1]) (rest := []) (st1 := []) (wr := []) ⟨hx, hb, hml, hown, hts⟩ (c_Md_between l dC dI a_t a_t_text a_t_digits a_t_counts a_t_points a_t_limbs a_t_cells a_t_lines a_t_draft c_t_digits c_t_counts c_t_points c_t_limbs n_t_digits n_t_counts n_t_points n_t_limbs s_t_thrown s_t_length s_t_place s_t_limbCount_1 s_t_rows s_t_columns s_t_laid s_t_size e_t_digits_8 e_t_counts_12 e_t_points_10 e_t_limbs_5 (1 : Int32) x1 s_t_limbCount_14 e_t_digits_15 e_t_counts_16 e_t_points_17 e_t_limbs_18 hc_19) (cwV 2 hts (xgoodV g_840 g_842 gp_30 g_10 g_843) rfl rfl rfl (by decide +kernel) ⟨Nat.le_of_ble_eq_true rfl, Nat.le_of_ble_eq_true rfl⟩) hNz (ci := 8) (q0 := 2) rfl rfl hA hP hD hS hK [2, 3, 4, 1, 0] [] [0, 1, 2, 3] rfl rfl rfl rfl (by decide) rfl rfl rfl rfl hl.1 (Nat.le_of_ble_eq_true rfl) ⟨Nat.zero_le _, Nat.zero_le _⟩ d_Md_isBetween_40 (fun H locs hP hD hS => ?_)
    have hP : va_P (dC, dI) x_cl [(a_t, .inr (8, [.int s_t_thrown, .int s_t_length, .ref a_t_text, .int s_t_place, .ref a_t_digits, .ref a_t_counts, .ref a_t_points, .ref a_t_limbs, .int s_t_limbCount_14, .int s_t_rows, .int s_t_columns, .ref a_t_cells, .int s_t_laid, .ref a_t_lines, .int s_t_size, .ref a_t_draft])), (a_t_digits, .inl (c_t_digits, n_t_digits, .inl e_t_digits_15)), (a_t_counts, .inl (c_t_counts, n_t_counts, .inl e_t_counts_16)), (a_t_points, .inl (c_t_points, n_t_points, .inl e_t_points_17)), (a_t_limbs, .inl (c_t_limbs, n_t_limbs, .inl e_t_limbs_18))] H := hP
    have hD : va_D A [(a_t, .inr (8, [.int s_t_thrown, .int s_t_length, .ref a_t_text, .int s_t_place, .ref a_t_digits, .ref a_t_counts, .ref a_t_points, .ref a_t_limbs, .int s_t_limbCount_14, .int s_t_rows, .int s_t_columns, .ref a_t_cells, .int s_t_laid, .ref a_t_lines, .int s_t_size, .ref a_t_draft])), (a_t_digits, .inl (c_t_digits, n_t_digits, .inl e_t_digits_15)), (a_t_counts, .inl (c_t_counts, n_t_counts, .inl e_t_counts_16)), (a_t_points, .inl (c_t_points, n_t_points, .inl e_t_points_17)), (a_t_limbs, .inl (c_t_limbs, n_t_limbs, .inl e_t_limbs_18))] := hD
    refine lv_aload_n hx hb d_Md_isBetween_43 rfl (lv_at hl 0 rfl) ?_
    refine lv_iconst (v := 2) hx hb d_Md_isBetween_44 (by decide) ?_
    refine lv_iconst (v := 1) hx hb d_Md_isBetween_45 (by decide) ?_
    replace h := xob_s h
    obtain ⟨r_20, hc_21, h⟩ := h
    try dsimp only at h
    refine xcV (As := [.int (2 : Int32), .int (1 : Int32)]) (rest := []) (st1 := [.int r_20]) (wr := [(a_t_limbs, .inl (c_t_limbs, n_t_limbs, .inl e_t_limbs_18))]) ⟨hx, hb, hml, hown, hts⟩ (c_Md_against l dC dI a_t a_t_text a_t_digits a_t_counts a_t_points a_t_limbs a_t_cells a_t_lines a_t_draft c_t_digits c_t_counts c_t_points n_t_digits n_t_counts n_t_points s_t_thrown s_t_length s_t_place s_t_limbCount_14 s_t_rows s_t_columns s_t_laid s_t_size e_t_digits_15 e_t_counts_16 e_t_points_17 (2 : Int32) (1 : Int32) r_20 hc_21) (cwV 2 hts (xgoodV g_836 g_838 gp_29 g_10 g_839) rfl rfl rfl (by decide +kernel) ⟨Nat.le_of_ble_eq_true rfl, Nat.le_of_ble_eq_true rfl⟩) hNz (ci := 8) (q0 := 0) rfl rfl hA hP hD hS hK [0, 1, 2, 3] [4] [0, 1, 2] rfl rfl rfl rfl (by decide) rfl rfl rfl rfl hl.1 (Nat.le_of_ble_eq_true rfl) ⟨Nat.zero_le _, Nat.zero_le _⟩ d_Md_isBetween_46 (fun H locs hP hD hS => ?_)
    have hP : va_P (dC, dI) x_cl [(a_t_limbs, .inl (c_t_limbs, n_t_limbs, .inl e_t_limbs_18)), (a_t, .inr (8, [.int s_t_thrown, .int s_t_length, .ref a_t_text, .int s_t_place, .ref a_t_digits, .ref a_t_counts, .ref a_t_points, .ref a_t_limbs, .int s_t_limbCount_14, .int s_t_rows, .int s_t_columns, .ref a_t_cells, .int s_t_laid, .ref a_t_lines, .int s_t_size, .ref a_t_draft])), (a_t_digits, .inl (c_t_digits, n_t_digits, .inl e_t_digits_15)), (a_t_counts, .inl (c_t_counts, n_t_counts, .inl e_t_counts_16)), (a_t_points, .inl (c_t_points, n_t_points, .inl e_t_points_17))] H := hP
    have hD : va_D A [(a_t_limbs, .inl (c_t_limbs, n_t_limbs, .inl e_t_limbs_18)), (a_t, .inr (8, [.int s_t_thrown, .int s_t_length, .ref a_t_text, .int s_t_place, .ref a_t_digits, .ref a_t_counts, .ref a_t_points, .ref a_t_limbs, .int s_t_limbCount_14, .int s_t_rows, .int s_t_columns, .ref a_t_cells, .int s_t_laid, .ref a_t_lines, .int s_t_size, .ref a_t_draft])), (a_t_digits, .inl (c_t_digits, n_t_digits, .inl e_t_digits_15)), (a_t_counts, .inl (c_t_counts, n_t_counts, .inl e_t_counts_16)), (a_t_points, .inl (c_t_points, n_t_points, .inl e_t_points_17))] := hD
    refine lv_istore (lv' := [(6, .int r_20), (0, .ref a_t), (1, .long x1), (3, .int x3), (4, .int x4), (5, .int x5)]) hx hb d_Md_isBetween_49 hl (by decide) rfl (fun ls hl => ?_)
    refine lv_iload hx hb d_Md_isBetween_51 (lv_at hl 0 rfl) ?_
    refine lv_if_gt (tgt := 66) hx hb d_Md_isBetween_53 (by decide) (fun c_22 => ?_) (fun c_22 => ?_)
    · rw [if_pos c_22] at h
      refine lv_iconst (v := 0) hx hb d_Md_isBetween_66 (by decide) ?_
      replace h := Option.some.inj h
      replace h := Prod.mk.inj h
      obtain ⟨h1, h⟩ := h
      subst h1
      replace h := Prod.mk.inj h
      obtain ⟨h1, h⟩ := h
      subst h1
      replace h := Prod.mk.inj h
      obtain ⟨h1, h⟩ := h
      subst h1
      replace h := Prod.mk.inj h
      obtain ⟨h1, h⟩ := h
      subst h1
      replace h := Prod.mk.inj h
      obtain ⟨h1, h⟩ := h
      subst h1
      subst h
      exact hret _ _ (hP.sub [1, 2, 3, 4, 0] rfl) (hD.sub [1, 2, 3, 4, 0] (by decide) rfl) hS _ _ d_Md_isBetween_67 rfl
    · rw [if_neg c_22] at h
      refine lv_iload hx hb d_Md_isBetween_56 (lv_at hl 0 rfl) ?_
      refine lv_if_ne (tgt := 68) hx hb d_Md_isBetween_58 (by decide) (fun c_23 => ?_) (fun c_23 => ?_)
      · rw [if_neg c_23] at h
        refine lv_aload_n hx hb d_Md_isBetween_68 rfl (lv_at hl 1 rfl) ?_
        refine lv_iconst (v := 1) hx hb d_Md_isBetween_69 (by decide) ?_
        refine lv_lload_n hx hb d_Md_isBetween_70 rfl (lv_at hl 2 rfl) ?_
        refine lv_lconst (v := 1) hx hb d_Md_isBetween_71 (by decide) ?_
        refine lv_lsub hx hb d_Md_isBetween_72 ?_
        replace h := xob_s h
        obtain ⟨⟨s_t_limbCount_24, e_t_digits_25, e_t_counts_26, e_t_points_27, e_t_limbs_28⟩, hc_29, h⟩ := h
        try dsimp only at h
        refine xcV (As := [.int (1 : Int32), .long (x1 - (1 : Int64))]) (rest := []) (st1 := []) (wr := []) ⟨hx, hb, hml, hown, hts⟩ (c_Md_between l dC dI a_t a_t_text a_t_digits a_t_counts a_t_points a_t_limbs a_t_cells a_t_lines a_t_draft c_t_digits c_t_counts c_t_points c_t_limbs n_t_digits n_t_counts n_t_points n_t_limbs s_t_thrown s_t_length s_t_place s_t_limbCount_14 s_t_rows s_t_columns s_t_laid s_t_size e_t_digits_15 e_t_counts_16 e_t_points_17 e_t_limbs_18 (1 : Int32) (x1 - (1 : Int64)) s_t_limbCount_24 e_t_digits_25 e_t_counts_26 e_t_points_27 e_t_limbs_28 hc_29) (cwV 2 hts (xgoodV g_840 g_842 gp_30 g_10 g_843) rfl rfl rfl (by decide +kernel) ⟨Nat.le_of_ble_eq_true rfl, Nat.le_of_ble_eq_true rfl⟩) hNz (ci := 8) (q0 := 1) rfl rfl hA hP hD hS hK [1, 2, 3, 4, 0] [] [0, 1, 2, 3] rfl rfl rfl rfl (by decide) rfl rfl rfl rfl hl.1 (Nat.le_of_ble_eq_true rfl) ⟨Nat.zero_le _, Nat.zero_le _⟩ d_Md_isBetween_73 (fun H locs hP hD hS => ?_)
        have hP : va_P (dC, dI) x_cl [(a_t, .inr (8, [.int s_t_thrown, .int s_t_length, .ref a_t_text, .int s_t_place, .ref a_t_digits, .ref a_t_counts, .ref a_t_points, .ref a_t_limbs, .int s_t_limbCount_24, .int s_t_rows, .int s_t_columns, .ref a_t_cells, .int s_t_laid, .ref a_t_lines, .int s_t_size, .ref a_t_draft])), (a_t_digits, .inl (c_t_digits, n_t_digits, .inl e_t_digits_25)), (a_t_counts, .inl (c_t_counts, n_t_counts, .inl e_t_counts_26)), (a_t_points, .inl (c_t_points, n_t_points, .inl e_t_points_27)), (a_t_limbs, .inl (c_t_limbs, n_t_limbs, .inl e_t_limbs_28))] H := hP
        have hD : va_D A [(a_t, .inr (8, [.int s_t_thrown, .int s_t_length, .ref a_t_text, .int s_t_place, .ref a_t_digits, .ref a_t_counts, .ref a_t_points, .ref a_t_limbs, .int s_t_limbCount_24, .int s_t_rows, .int s_t_columns, .ref a_t_cells, .int s_t_laid, .ref a_t_lines, .int s_t_size, .ref a_t_draft])), (a_t_digits, .inl (c_t_digits, n_t_digits, .inl e_t_digits_25)), (a_t_counts, .inl (c_t_counts, n_t_counts, .inl e_t_counts_26)), (a_t_points, .inl (c_t_points, n_t_points, .inl e_t_points_27)), (a_t_limbs, .inl (c_t_limbs, n_t_limbs, .inl e_t_limbs_28))] := hD
        refine lv_aload_n hx hb d_Md_isBetween_76 rfl (lv_at hl 1 rfl) ?_
        refine lv_iconst (v := 2) hx hb d_Md_isBetween_77 (by decide) ?_
        refine lv_iconst (v := 1) hx hb d_Md_isBetween_78 (by decide) ?_
        replace h := xob_s h
        obtain ⟨r_30, hc_31, h⟩ := h
        try dsimp only at h
        refine xcV (As := [.int (2 : Int32), .int (1 : Int32)]) (rest := []) (st1 := [.int r_30]) (wr := [(a_t_limbs, .inl (c_t_limbs, n_t_limbs, .inl e_t_limbs_28))]) ⟨hx, hb, hml, hown, hts⟩ (c_Md_against l dC dI a_t a_t_text a_t_digits a_t_counts a_t_points a_t_limbs a_t_cells a_t_lines a_t_draft c_t_digits c_t_counts c_t_points n_t_digits n_t_counts n_t_points s_t_thrown s_t_length s_t_place s_t_limbCount_24 s_t_rows s_t_columns s_t_laid s_t_size e_t_digits_25 e_t_counts_26 e_t_points_27 (2 : Int32) (1 : Int32) r_30 hc_31) (cwV 2 hts (xgoodV g_836 g_838 gp_29 g_10 g_839) rfl rfl rfl (by decide +kernel) ⟨Nat.le_of_ble_eq_true rfl, Nat.le_of_ble_eq_true rfl⟩) hNz (ci := 8) (q0 := 0) rfl rfl hA hP hD hS hK [0, 1, 2, 3] [4] [0, 1, 2] rfl rfl rfl rfl (by decide) rfl rfl rfl rfl hl.1 (Nat.le_of_ble_eq_true rfl) ⟨Nat.zero_le _, Nat.zero_le _⟩ d_Md_isBetween_79 (fun H locs hP hD hS => ?_)
        have hP : va_P (dC, dI) x_cl [(a_t_limbs, .inl (c_t_limbs, n_t_limbs, .inl e_t_limbs_28)), (a_t, .inr (8, [.int s_t_thrown, .int s_t_length, .ref a_t_text, .int s_t_place, .ref a_t_digits, .ref a_t_counts, .ref a_t_points, .ref a_t_limbs, .int s_t_limbCount_24, .int s_t_rows, .int s_t_columns, .ref a_t_cells, .int s_t_laid, .ref a_t_lines, .int s_t_size, .ref a_t_draft])), (a_t_digits, .inl (c_t_digits, n_t_digits, .inl e_t_digits_25)), (a_t_counts, .inl (c_t_counts, n_t_counts, .inl e_t_counts_26)), (a_t_points, .inl (c_t_points, n_t_points, .inl e_t_points_27))] H := hP
        have hD : va_D A [(a_t_limbs, .inl (c_t_limbs, n_t_limbs, .inl e_t_limbs_28)), (a_t, .inr (8, [.int s_t_thrown, .int s_t_length, .ref a_t_text, .int s_t_place, .ref a_t_digits, .ref a_t_counts, .ref a_t_points, .ref a_t_limbs, .int s_t_limbCount_24, .int s_t_rows, .int s_t_columns, .ref a_t_cells, .int s_t_laid, .ref a_t_lines, .int s_t_size, .ref a_t_draft])), (a_t_digits, .inl (c_t_digits, n_t_digits, .inl e_t_digits_25)), (a_t_counts, .inl (c_t_counts, n_t_counts, .inl e_t_counts_26)), (a_t_points, .inl (c_t_points, n_t_points, .inl e_t_points_27))] := hD
        refine lv_istore (lv' := [(7, .int r_30), (6, .int r_20), (0, .ref a_t), (1, .long x1), (3, .int x3), (4, .int x4), (5, .int x5)]) hx hb d_Md_isBetween_82 hl (by decide) rfl (fun ls hl => ?_)
        refine lv_iload hx hb d_Md_isBetween_84 (lv_at hl 0 rfl) ?_
        refine lv_if_gt (tgt := 99) hx hb d_Md_isBetween_86 (by decide) (fun c_32 => ?_) (fun c_32 => ?_)
        · rw [if_pos c_32] at h
          refine lv_iconst (v := 1) hx hb d_Md_isBetween_99 (by decide) ?_
          refine lv_goto (tgt := 104) hx hb d_Md_isBetween_100 (by decide) ?_
          replace h := Option.some.inj h
          replace h := Prod.mk.inj h
          obtain ⟨h1, h⟩ := h
          subst h1
          replace h := Prod.mk.inj h
          obtain ⟨h1, h⟩ := h
          subst h1
          replace h := Prod.mk.inj h
          obtain ⟨h1, h⟩ := h
          subst h1
          replace h := Prod.mk.inj h
          obtain ⟨h1, h⟩ := h
          subst h1
          replace h := Prod.mk.inj h
          obtain ⟨h1, h⟩ := h
          subst h1
          subst h
          exact hret _ _ (hP.sub [1, 2, 3, 4, 0] rfl) (hD.sub [1, 2, 3, 4, 0] (by decide) rfl) hS _ _ d_Md_isBetween_104 rfl
        · rw [if_neg c_32] at h
          refine lv_iload hx hb d_Md_isBetween_89 (lv_at hl 0 rfl) ?_
          refine lv_if_ne (tgt := 103) hx hb d_Md_isBetween_91 (by decide) (fun c_33 => ?_) (fun c_33 => ?_)
          · rw [if_neg c_33] at h
            refine lv_iconst (v := 0) hx hb d_Md_isBetween_103 (by decide) ?_
            replace h := Option.some.inj h
            replace h := Prod.mk.inj h
            obtain ⟨h1, h⟩ := h
            subst h1
            replace h := Prod.mk.inj h
            obtain ⟨h1, h⟩ := h
            subst h1
            replace h := Prod.mk.inj h
            obtain ⟨h1, h⟩ := h
            subst h1
            replace h := Prod.mk.inj h
            obtain ⟨h1, h⟩ := h
            subst h1
            replace h := Prod.mk.inj h
            obtain ⟨h1, h⟩ := h
            subst h1
            subst h
            exact hret _ _ (hP.sub [1, 2, 3, 4, 0] rfl) (hD.sub [1, 2, 3, 4, 0] (by decide) rfl) hS _ _ d_Md_isBetween_104 rfl
          · rw [if_pos c_33] at h
            refine lv_iload hx hb d_Md_isBetween_94 (lv_at hl 6 rfl) ?_
            refine lv_if_eq (tgt := 103) hx hb d_Md_isBetween_96 (by decide) (fun c_34 => ?_) (fun c_34 => ?_)
            · rw [if_pos c_34] at h
              refine lv_iconst (v := 0) hx hb d_Md_isBetween_103 (by decide) ?_
              replace h := Option.some.inj h
              replace h := Prod.mk.inj h
              obtain ⟨h1, h⟩ := h
              subst h1
              replace h := Prod.mk.inj h
              obtain ⟨h1, h⟩ := h
              subst h1
              replace h := Prod.mk.inj h
              obtain ⟨h1, h⟩ := h
              subst h1
              replace h := Prod.mk.inj h
              obtain ⟨h1, h⟩ := h
              subst h1
              replace h := Prod.mk.inj h
              obtain ⟨h1, h⟩ := h
              subst h1
              subst h
              exact hret _ _ (hP.sub [1, 2, 3, 4, 0] rfl) (hD.sub [1, 2, 3, 4, 0] (by decide) rfl) hS _ _ d_Md_isBetween_104 rfl
            · rw [if_neg c_34] at h
              refine lv_iconst (v := 1) hx hb d_Md_isBetween_99 (by decide) ?_
              refine lv_goto (tgt := 104) hx hb d_Md_isBetween_100 (by decide) ?_
              replace h := Option.some.inj h
              replace h := Prod.mk.inj h
              obtain ⟨h1, h⟩ := h
              subst h1
              replace h := Prod.mk.inj h
              obtain ⟨h1, h⟩ := h
              subst h1
              replace h := Prod.mk.inj h
              obtain ⟨h1, h⟩ := h
              subst h1
              replace h := Prod.mk.inj h
              obtain ⟨h1, h⟩ := h
              subst h1
              replace h := Prod.mk.inj h
              obtain ⟨h1, h⟩ := h
              subst h1
              subst h
              exact hret _ _ (hP.sub [1, 2, 3, 4, 0] rfl) (hD.sub [1, 2, 3, 4, 0] (by decide) rfl) hS _ _ d_Md_isBetween_104 rfl
      · rw [if_pos c_23] at h
        refine lv_iload hx hb d_Md_isBetween_61 (lv_at hl 5 rfl) ?_
        refine lv_if_ne (tgt := 68) hx hb d_Md_isBetween_63 (by decide) (fun c_35 => ?_) (fun c_35 => ?_)
        · rw [if_neg c_35] at h
          refine lv_aload_n hx hb d_Md_isBetween_68 rfl (lv_at hl 1 rfl) ?_
          refine lv_iconst (v := 1) hx hb d_Md_isBetween_69 (by decide) ?_
          refine lv_lload_n hx hb d_Md_isBetween_70 rfl (lv_at hl 2 rfl) ?_
          refine lv_lconst (v := 1) hx hb d_Md_isBetween_71 (by decide) ?_
          refine lv_lsub hx hb d_Md_isBetween_72 ?_
          replace h := xob_s h
          obtain ⟨⟨s_t_limbCount_36, e_t_digits_37, e_t_counts_38, e_t_points_39, e_t_limbs_40⟩, hc_41, h⟩ := h
          try dsimp only at h
          refine xcV (As := [.int (1 : Int32), .long (x1 - (1 : Int64))]) (rest := []) (st1 := []) (wr := []) ⟨hx, hb, hml, hown, hts⟩ (c_Md_between l dC dI a_t a_t_text a_t_digits a_t_counts a_t_points a_t_limbs a_t_cells a_t_lines a_t_draft c_t_digits c_t_counts c_t_points c_t_limbs n_t_digits n_t_counts n_t_points n_t_limbs s_t_thrown s_t_length s_t_place s_t_limbCount_14 s_t_rows s_t_columns s_t_laid s_t_size e_t_digits_15 e_t_counts_16 e_t_points_17 e_t_limbs_18 (1 : Int32) (x1 - (1 : Int64)) s_t_limbCount_36 e_t_digits_37 e_t_counts_38 e_t_points_39 e_t_limbs_40 hc_41) (cwV 2 hts (xgoodV g_840 g_842 gp_30 g_10 g_843) rfl rfl rfl (by decide +kernel) ⟨Nat.le_of_ble_eq_true rfl, Nat.le_of_ble_eq_true rfl⟩) hNz (ci := 8) (q0 := 1) rfl rfl hA hP hD hS hK [1, 2, 3, 4, 0] [] [0, 1, 2, 3] rfl rfl rfl rfl (by decide) rfl rfl rfl rfl hl.1 (Nat.le_of_ble_eq_true rfl) ⟨Nat.zero_le _, Nat.zero_le _⟩ d_Md_isBetween_73 (fun H locs hP hD hS => ?_)
          have hP : va_P (dC, dI) x_cl [(a_t, .inr (8, [.int s_t_thrown, .int s_t_length, .ref a_t_text, .int s_t_place, .ref a_t_digits, .ref a_t_counts, .ref a_t_points, .ref a_t_limbs, .int s_t_limbCount_36, .int s_t_rows, .int s_t_columns, .ref a_t_cells, .int s_t_laid, .ref a_t_lines, .int s_t_size, .ref a_t_draft])), (a_t_digits, .inl (c_t_digits, n_t_digits, .inl e_t_digits_37)), (a_t_counts, .inl (c_t_counts, n_t_counts, .inl e_t_counts_38)), (a_t_points, .inl (c_t_points, n_t_points, .inl e_t_points_39)), (a_t_limbs, .inl (c_t_limbs, n_t_limbs, .inl e_t_limbs_40))] H := hP
          have hD : va_D A [(a_t, .inr (8, [.int s_t_thrown, .int s_t_length, .ref a_t_text, .int s_t_place, .ref a_t_digits, .ref a_t_counts, .ref a_t_points, .ref a_t_limbs, .int s_t_limbCount_36, .int s_t_rows, .int s_t_columns, .ref a_t_cells, .int s_t_laid, .ref a_t_lines, .int s_t_size, .ref a_t_draft])), (a_t_digits, .inl (c_t_digits, n_t_digits, .inl e_t_digits_37)), (a_t_counts, .inl (c_t_counts, n_t_counts, .inl e_t_counts_38)), (a_t_points, .inl (c_t_points, n_t_points, .inl e_t_points_39)), (a_t_limbs, .inl (c_t_limbs, n_t_limbs, .inl e_t_limbs_40))] := hD
          refine lv_aload_n hx hb d_Md_isBetween_76 rfl (lv_at hl 1 rfl) ?_
          refine lv_iconst (v := 2) hx hb d_Md_isBetween_77 (by decide) ?_
          refine lv_iconst (v := 1) hx hb d_Md_isBetween_78 (by decide) ?_
          replace h := xob_s h
          obtain ⟨r_42, hc_43, h⟩ := h
          try dsimp only at h
          refine xcV (As := [.int (2 : Int32), .int (1 : Int32)]) (rest := []) (st1 := [.int r_42]) (wr := [(a_t_limbs, .inl (c_t_limbs, n_t_limbs, .inl e_t_limbs_40))]) ⟨hx, hb, hml, hown, hts⟩ (c_Md_against l dC dI a_t a_t_text a_t_digits a_t_counts a_t_points a_t_limbs a_t_cells a_t_lines a_t_draft c_t_digits c_t_counts c_t_points n_t_digits n_t_counts n_t_points s_t_thrown s_t_length s_t_place s_t_limbCount_36 s_t_rows s_t_columns s_t_laid s_t_size e_t_digits_37 e_t_counts_38 e_t_points_39 (2 : Int32) (1 : Int32) r_42 hc_43) (cwV 2 hts (xgoodV g_836 g_838 gp_29 g_10 g_839) rfl rfl rfl (by decide +kernel) ⟨Nat.le_of_ble_eq_true rfl, Nat.le_of_ble_eq_true rfl⟩) hNz (ci := 8) (q0 := 0) rfl rfl hA hP hD hS hK [0, 1, 2, 3] [4] [0, 1, 2] rfl rfl rfl rfl (by decide) rfl rfl rfl rfl hl.1 (Nat.le_of_ble_eq_true rfl) ⟨Nat.zero_le _, Nat.zero_le _⟩ d_Md_isBetween_79 (fun H locs hP hD hS => ?_)
          have hP : va_P (dC, dI) x_cl [(a_t_limbs, .inl (c_t_limbs, n_t_limbs, .inl e_t_limbs_40)), (a_t, .inr (8, [.int s_t_thrown, .int s_t_length, .ref a_t_text, .int s_t_place, .ref a_t_digits, .ref a_t_counts, .ref a_t_points, .ref a_t_limbs, .int s_t_limbCount_36, .int s_t_rows, .int s_t_columns, .ref a_t_cells, .int s_t_laid, .ref a_t_lines, .int s_t_size, .ref a_t_draft])), (a_t_digits, .inl (c_t_digits, n_t_digits, .inl e_t_digits_37)), (a_t_counts, .inl (c_t_counts, n_t_counts, .inl e_t_counts_38)), (a_t_points, .inl (c_t_points, n_t_points, .inl e_t_points_39))] H := hP
          have hD : va_D A [(a_t_limbs, .inl (c_t_limbs, n_t_limbs, .inl e_t_limbs_40)), (a_t, .inr (8, [.int s_t_thrown, .int s_t_length, .ref a_t_text, .int s_t_place, .ref a_t_digits, .ref a_t_counts, .ref a_t_points, .ref a_t_limbs, .int s_t_limbCount_36, .int s_t_rows, .int s_t_columns, .ref a_t_cells, .int s_t_laid, .ref a_t_lines, .int s_t_size, .ref a_t_draft])), (a_t_digits, .inl (c_t_digits, n_t_digits, .inl e_t_digits_37)), (a_t_counts, .inl (c_t_counts, n_t_counts, .inl e_t_counts_38)), (a_t_points, .inl (c_t_points, n_t_points, .inl e_t_points_39))] := hD
          refine lv_istore (lv' := [(7, .int r_42), (6, .int r_20), (0, .ref a_t), (1, .long x1), (3, .int x3), (4, .int x4), (5, .int x5)]) hx hb d_Md_isBetween_82 hl (by decide) rfl (fun ls hl => ?_)
          refine lv_iload hx hb d_Md_isBetween_84 (lv_at hl 0 rfl) ?_
          refine lv_if_gt (tgt := 99) hx hb d_Md_isBetween_86 (by decide) (fun c_44 => ?_) (fun c_44 => ?_)
          · rw [if_pos c_44] at h
            refine lv_iconst (v := 1) hx hb d_Md_isBetween_99 (by decide) ?_
            refine lv_goto (tgt := 104) hx hb d_Md_isBetween_100 (by decide) ?_
            replace h := Option.some.inj h
            replace h := Prod.mk.inj h
            obtain ⟨h1, h⟩ := h
            subst h1
            replace h := Prod.mk.inj h
            obtain ⟨h1, h⟩ := h
            subst h1
            replace h := Prod.mk.inj h
            obtain ⟨h1, h⟩ := h
            subst h1
            replace h := Prod.mk.inj h
            obtain ⟨h1, h⟩ := h
            subst h1
            replace h := Prod.mk.inj h
            obtain ⟨h1, h⟩ := h
            subst h1
            subst h
            exact hret _ _ (hP.sub [1, 2, 3, 4, 0] rfl) (hD.sub [1, 2, 3, 4, 0] (by decide) rfl) hS _ _ d_Md_isBetween_104 rfl
          · rw [if_neg c_44] at h
            refine lv_iload hx hb d_Md_isBetween_89 (lv_at hl 0 rfl) ?_
            refine lv_if_ne (tgt := 103) hx hb d_Md_isBetween_91 (by decide) (fun c_45 => ?_) (fun c_45 => ?_)
            · rw [if_neg c_45] at h
              refine lv_iconst (v := 0) hx hb d_Md_isBetween_103 (by decide) ?_
              replace h := Option.some.inj h
              replace h := Prod.mk.inj h
              obtain ⟨h1, h⟩ := h
              subst h1
              replace h := Prod.mk.inj h
              obtain ⟨h1, h⟩ := h
              subst h1
              replace h := Prod.mk.inj h
              obtain ⟨h1, h⟩ := h
              subst h1
              replace h := Prod.mk.inj h
              obtain ⟨h1, h⟩ := h
              subst h1
              replace h := Prod.mk.inj h
              obtain ⟨h1, h⟩ := h
              subst h1
              subst h
              exact hret _ _ (hP.sub [1, 2, 3, 4, 0] rfl) (hD.sub [1, 2, 3, 4, 0] (by decide) rfl) hS _ _ d_Md_isBetween_104 rfl
            · rw [if_pos c_45] at h
              refine lv_iload hx hb d_Md_isBetween_94 (lv_at hl 6 rfl) ?_
              refine lv_if_eq (tgt := 103) hx hb d_Md_isBetween_96 (by decide) (fun c_46 => ?_) (fun c_46 => ?_)
              · rw [if_pos c_46] at h
                refine lv_iconst (v := 0) hx hb d_Md_isBetween_103 (by decide) ?_
                replace h := Option.some.inj h
                replace h := Prod.mk.inj h
                obtain ⟨h1, h⟩ := h
                subst h1
                replace h := Prod.mk.inj h
                obtain ⟨h1, h⟩ := h
                subst h1
                replace h := Prod.mk.inj h
                obtain ⟨h1, h⟩ := h
                subst h1
                replace h := Prod.mk.inj h
                obtain ⟨h1, h⟩ := h
                subst h1
                replace h := Prod.mk.inj h
                obtain ⟨h1, h⟩ := h
                subst h1
                subst h
                exact hret _ _ (hP.sub [1, 2, 3, 4, 0] rfl) (hD.sub [1, 2, 3, 4, 0] (by decide) rfl) hS _ _ d_Md_isBetween_104 rfl
              · rw [if_neg c_46] at h
                refine lv_iconst (v := 1) hx hb d_Md_isBetween_99 (by decide) ?_
                refine lv_goto (tgt := 104) hx hb d_Md_isBetween_100 (by decide) ?_
                replace h := Option.some.inj h
                replace h := Prod.mk.inj h
                obtain ⟨h1, h⟩ := h
                subst h1
                replace h := Prod.mk.inj h
                obtain ⟨h1, h⟩ := h
                subst h1
                replace h := Prod.mk.inj h
                obtain ⟨h1, h⟩ := h
                subst h1
                replace h := Prod.mk.inj h
                obtain ⟨h1, h⟩ := h
                subst h1
                replace h := Prod.mk.inj h
                obtain ⟨h1, h⟩ := h
                subst h1
                subst h
                exact hret _ _ (hP.sub [1, 2, 3, 4, 0] rfl) (hD.sub [1, 2, 3, 4, 0] (by decide) rfl) hS _ _ d_Md_isBetween_104 rfl
        · rw [if_pos c_35] at h
          refine lv_iconst (v := 0) hx hb d_Md_isBetween_66 (by decide) ?_
          replace h := Option.some.inj h
          replace h := Prod.mk.inj h
          obtain ⟨h1, h⟩ := h
          subst h1
          replace h := Prod.mk.inj h
          obtain ⟨h1, h⟩ := h
          subst h1
          replace h := Prod.mk.inj h
          obtain ⟨h1, h⟩ := h
          subst h1
          replace h := Prod.mk.inj h
          obtain ⟨h1, h⟩ := h
          subst h1
          replace h := Prod.mk.inj h
          obtain ⟨h1, h⟩ := h
          subst h1
          subst h
          exact hret _ _ (hP.sub [1, 2, 3, 4, 0] rfl) (hD.sub [1, 2, 3, 4, 0] (by decide) rfl) hS _ _ d_Md_isBetween_67 rfl
  · rw [if_neg c_7] at h
    refine lv_iload_n hx hb d_Md_isBetween_11 rfl (lv_at hl 2 rfl) ?_
    refine lv_aload_n hx hb d_Md_isBetween_12 rfl (lv_at hl 0 rfl) ?_
    refine va_get (D := (dC, dI)) (ci := 8) (v := .ref a_t_counts) (C := R_Md) (T := T_Md) (N := 16) hx hb hts in_Md hown hK hP 0 rfl rfl 5 (by decide) (hts _ g_711) (fun _ h9 => h9) rfl d_Md_isBetween_13 ?_
    refine lv_iconst (v := 0) hx hb d_Md_isBetween_16 (by decide) ?_
    replace h := xg h
    obtain ⟨hg_47, h⟩ := h
    refine va_iald hx hb hK hP 2 1 rfl rfl hg_47 d_Md_isBetween_17 ?_
    refine lv_icmp_lt (tgt := 23) hx hb d_Md_isBetween_18 (by decide) (fun c_48 => ?_) (fun c_48 => ?_)
    · rw [if_pos c_48] at h
      refine lv_aload_n hx hb d_Md_isBetween_23 rfl (lv_at hl 0 rfl) ?_
      refine lv_iconst (v := 0) hx hb d_Md_isBetween_24 (by decide) ?_
      refine lv_iconst (v := 2) hx hb d_Md_isBetween_25 (by decide) ?_
      refine lv_iload_n hx hb d_Md_isBetween_26 rfl (lv_at hl 2 rfl) ?_
      refine lv_iload hx hb d_Md_isBetween_27 (lv_at hl 3 rfl) ?_
      replace h := xob_s h
      obtain ⟨⟨e_t_digits_49, e_t_counts_50, e_t_points_51⟩, hc_52, h⟩ := h
      try dsimp only at h
      refine xcV (As := [.int (0 : Int32), .int (2 : Int32), .int x3, .int x4]) (rest := []) (st1 := []) (wr := [(a_t_limbs, .inl (c_t_limbs, n_t_limbs, .inl e_t_limbs_5))]) ⟨hx, hb, hml, hown, hts⟩ (c_Md_cut l dC dI a_t a_t_text a_t_digits a_t_counts a_t_points a_t_limbs a_t_cells a_t_lines a_t_draft c_t_digits c_t_counts c_t_points n_t_digits n_t_counts n_t_points s_t_thrown s_t_length s_t_place s_t_limbCount_1 s_t_rows s_t_columns s_t_laid s_t_size e_t_digits_2 e_t_counts_3 e_t_points_4 (0 : Int32) (2 : Int32) x3 x4 e_t_digits_49 e_t_counts_50 e_t_points_51 hc_52) (cwV 4 hts (xgoodV g_872 g_874 gp_36 g_10 g_875) rfl rfl rfl (by decide +kernel) ⟨Nat.le_of_ble_eq_true rfl, Nat.le_of_ble_eq_true rfl⟩) hNz (ci := 8) (q0 := 0) rfl rfl hA hP hD hS hK [0, 1, 2, 3] [4] [0, 1, 2] rfl rfl rfl rfl (by decide) rfl rfl rfl rfl hl.1 (Nat.le_of_ble_eq_true rfl) ⟨Nat.zero_le _, Nat.zero_le _⟩ d_Md_isBetween_29 (fun H locs hP hD hS => ?_)
      have hP : va_P (dC, dI) x_cl [(a_t_limbs, .inl (c_t_limbs, n_t_limbs, .inl e_t_limbs_5)), (a_t, .inr (8, [.int s_t_thrown, .int s_t_length, .ref a_t_text, .int s_t_place, .ref a_t_digits, .ref a_t_counts, .ref a_t_points, .ref a_t_limbs, .int s_t_limbCount_1, .int s_t_rows, .int s_t_columns, .ref a_t_cells, .int s_t_laid, .ref a_t_lines, .int s_t_size, .ref a_t_draft])), (a_t_digits, .inl (c_t_digits, n_t_digits, .inl e_t_digits_49)), (a_t_counts, .inl (c_t_counts, n_t_counts, .inl e_t_counts_50)), (a_t_points, .inl (c_t_points, n_t_points, .inl e_t_points_51))] H := hP
      have hD : va_D A [(a_t_limbs, .inl (c_t_limbs, n_t_limbs, .inl e_t_limbs_5)), (a_t, .inr (8, [.int s_t_thrown, .int s_t_length, .ref a_t_text, .int s_t_place, .ref a_t_digits, .ref a_t_counts, .ref a_t_points, .ref a_t_limbs, .int s_t_limbCount_1, .int s_t_rows, .int s_t_columns, .ref a_t_cells, .int s_t_laid, .ref a_t_lines, .int s_t_size, .ref a_t_draft])), (a_t_digits, .inl (c_t_digits, n_t_digits, .inl e_t_digits_49)), (a_t_counts, .inl (c_t_counts, n_t_counts, .inl e_t_counts_50)), (a_t_points, .inl (c_t_points, n_t_points, .inl e_t_points_51))] := hD
      refine lv_aload_n hx hb d_Md_isBetween_32 rfl (lv_at hl 0 rfl) ?_
      refine lv_iconst (v := 2) hx hb d_Md_isBetween_33 (by decide) ?_
      replace h := xob_s h
      obtain ⟨e_t_counts_53, hc_54, h⟩ := h
      try dsimp only at h
      refine xcV (As := [.int (2 : Int32)]) (rest := []) (st1 := []) (wr := [(a_t_limbs, .inl (c_t_limbs, n_t_limbs, .inl e_t_limbs_5)), (a_t_points, .inl (c_t_points, n_t_points, .inl e_t_points_51))]) ⟨hx, hb, hml, hown, hts⟩ (c_Md_cutZeros l dC dI a_t a_t_text a_t_digits a_t_counts a_t_points a_t_limbs a_t_cells a_t_lines a_t_draft c_t_digits c_t_counts n_t_digits n_t_counts s_t_thrown s_t_length s_t_place s_t_limbCount_1 s_t_rows s_t_columns s_t_laid s_t_size e_t_digits_49 e_t_counts_50 (2 : Int32) e_t_counts_53 hc_54) (cwV 1 hts (xgoodV g_797 g_799 gp_23 g_10 g_800) rfl rfl rfl (by decide +kernel) ⟨Nat.le_of_ble_eq_true rfl, Nat.le_of_ble_eq_true rfl⟩) hNz (ci := 8) (q0 := 1) rfl rfl hA hP hD hS hK [1, 2, 3] [0, 4] [0, 1] rfl rfl rfl rfl (by decide) rfl rfl rfl rfl hl.1 (Nat.le_of_ble_eq_true rfl) ⟨Nat.zero_le _, Nat.zero_le _⟩ d_Md_isBetween_34 (fun H locs hP hD hS => ?_)
      have hP : va_P (dC, dI) x_cl [(a_t_limbs, .inl (c_t_limbs, n_t_limbs, .inl e_t_limbs_5)), (a_t_points, .inl (c_t_points, n_t_points, .inl e_t_points_51)), (a_t, .inr (8, [.int s_t_thrown, .int s_t_length, .ref a_t_text, .int s_t_place, .ref a_t_digits, .ref a_t_counts, .ref a_t_points, .ref a_t_limbs, .int s_t_limbCount_1, .int s_t_rows, .int s_t_columns, .ref a_t_cells, .int s_t_laid, .ref a_t_lines, .int s_t_size, .ref a_t_draft])), (a_t_digits, .inl (c_t_digits, n_t_digits, .inl e_t_digits_49)), (a_t_counts, .inl (c_t_counts, n_t_counts, .inl e_t_counts_53))] H := hP
      have hD : va_D A [(a_t_limbs, .inl (c_t_limbs, n_t_limbs, .inl e_t_limbs_5)), (a_t_points, .inl (c_t_points, n_t_points, .inl e_t_points_51)), (a_t, .inr (8, [.int s_t_thrown, .int s_t_length, .ref a_t_text, .int s_t_place, .ref a_t_digits, .ref a_t_counts, .ref a_t_points, .ref a_t_limbs, .int s_t_limbCount_1, .int s_t_rows, .int s_t_columns, .ref a_t_cells, .int s_t_laid, .ref a_t_lines, .int s_t_size, .ref a_t_draft])), (a_t_digits, .inl (c_t_digits, n_t_digits, .inl e_t_digits_49)), (a_t_counts, .inl (c_t_counts, n_t_counts, .inl e_t_counts_53))] := hD
      refine lv_aload_n hx hb d_Md_isBetween_37 rfl (lv_at hl 0 rfl) ?_
      refine lv_iconst (v := 1) hx hb d_Md_isBetween_38 (by decide) ?_
      refine lv_lload_n hx hb d_Md_isBetween_39 rfl (lv_at hl 1 rfl) ?_
      replace h := xob_s h
      obtain ⟨⟨s_t_limbCount_55, e_t_digits_56, e_t_counts_57, e_t_points_58, e_t_limbs_59⟩, hc_60, h⟩ := h
      try dsimp only at h
      refine xcV (As := [.int (1 : Int32), .long x1]) (rest := []) (st1 := []) (wr := []) ⟨hx, hb, hml, hown, hts⟩ (c_Md_between l dC dI a_t a_t_text a_t_digits a_t_counts a_t_points a_t_limbs a_t_cells a_t_lines a_t_draft c_t_digits c_t_counts c_t_points c_t_limbs n_t_digits n_t_counts n_t_points n_t_limbs s_t_thrown s_t_length s_t_place s_t_limbCount_1 s_t_rows s_t_columns s_t_laid s_t_size e_t_digits_49 e_t_counts_53 e_t_points_51 e_t_limbs_5 (1 : Int32) x1 s_t_limbCount_55 e_t_digits_56 e_t_counts_57 e_t_points_58 e_t_limbs_59 hc_60) (cwV 2 hts (xgoodV g_840 g_842 gp_30 g_10 g_843) rfl rfl rfl (by decide +kernel) ⟨Nat.le_of_ble_eq_true rfl, Nat.le_of_ble_eq_true rfl⟩) hNz (ci := 8) (q0 := 2) rfl rfl hA hP hD hS hK [2, 3, 4, 1, 0] [] [0, 1, 2, 3] rfl rfl rfl rfl (by decide) rfl rfl rfl rfl hl.1 (Nat.le_of_ble_eq_true rfl) ⟨Nat.zero_le _, Nat.zero_le _⟩ d_Md_isBetween_40 (fun H locs hP hD hS => ?_)
      have hP : va_P (dC, dI) x_cl [(a_t, .inr (8, [.int s_t_thrown, .int s_t_length, .ref a_t_text, .int s_t_place, .ref a_t_digits, .ref a_t_counts, .ref a_t_points, .ref a_t_limbs, .int s_t_limbCount_55, .int s_t_rows, .int s_t_columns, .ref a_t_cells, .int s_t_laid, .ref a_t_lines, .int s_t_size, .ref a_t_draft])), (a_t_digits, .inl (c_t_digits, n_t_digits, .inl e_t_digits_56)), (a_t_counts, .inl (c_t_counts, n_t_counts, .inl e_t_counts_57)), (a_t_points, .inl (c_t_points, n_t_points, .inl e_t_points_58)), (a_t_limbs, .inl (c_t_limbs, n_t_limbs, .inl e_t_limbs_59))] H := hP
      have hD : va_D A [(a_t, .inr (8, [.int s_t_thrown, .int s_t_length, .ref a_t_text, .int s_t_place, .ref a_t_digits, .ref a_t_counts, .ref a_t_points, .ref a_t_limbs, .int s_t_limbCount_55, .int s_t_rows, .int s_t_columns, .ref a_t_cells, .int s_t_laid, .ref a_t_lines, .int s_t_size, .ref a_t_draft])), (a_t_digits, .inl (c_t_digits, n_t_digits, .inl e_t_digits_56)), (a_t_counts, .inl (c_t_counts, n_t_counts, .inl e_t_counts_57)), (a_t_points, .inl (c_t_points, n_t_points, .inl e_t_points_58)), (a_t_limbs, .inl (c_t_limbs, n_t_limbs, .inl e_t_limbs_59))] := hD
      refine lv_aload_n hx hb d_Md_isBetween_43 rfl (lv_at hl 0 rfl) ?_
      refine lv_iconst (v := 2) hx hb d_Md_isBetween_44 (by decide) ?_
      refine lv_iconst (v := 1) hx hb d_Md_isBetween_45 (by decide) ?_
      replace h := xob_s h
      obtain ⟨r_61, hc_62, h⟩ := h
      try dsimp only at h
      refine xcV (As := [.int (2 : Int32), .int (1 : Int32)]) (rest := []) (st1 := [.int r_61]) (wr := [(a_t_limbs, .inl (c_t_limbs, n_t_limbs, .inl e_t_limbs_59))]) ⟨hx, hb, hml, hown, hts⟩ (c_Md_against l dC dI a_t a_t_text a_t_digits a_t_counts a_t_points a_t_limbs a_t_cells a_t_lines a_t_draft c_t_digits c_t_counts c_t_points n_t_digits n_t_counts n_t_points s_t_thrown s_t_length s_t_place s_t_limbCount_55 s_t_rows s_t_columns s_t_laid s_t_size e_t_digits_56 e_t_counts_57 e_t_points_58 (2 : Int32) (1 : Int32) r_61 hc_62) (cwV 2 hts (xgoodV g_836 g_838 gp_29 g_10 g_839) rfl rfl rfl (by decide +kernel) ⟨Nat.le_of_ble_eq_true rfl, Nat.le_of_ble_eq_true rfl⟩) hNz (ci := 8) (q0 := 0) rfl rfl hA hP hD hS hK [0, 1, 2, 3] [4] [0, 1, 2] rfl rfl rfl rfl (by decide) rfl rfl rfl rfl hl.1 (Nat.le_of_ble_eq_true rfl) ⟨Nat.zero_le _, Nat.zero_le _⟩ d_Md_isBetween_46 (fun H locs hP hD hS => ?_)
      have hP : va_P (dC, dI) x_cl [(a_t_limbs, .inl (c_t_limbs, n_t_limbs, .inl e_t_limbs_59)), (a_t, .inr (8, [.int s_t_thrown, .int s_t_length, .ref a_t_text, .int s_t_place, .ref a_t_digits, .ref a_t_counts, .ref a_t_points, .ref a_t_limbs, .int s_t_limbCount_55, .int s_t_rows, .int s_t_columns, .ref a_t_cells, .int s_t_laid, .ref a_t_lines, .int s_t_size, .ref a_t_draft])), (a_t_digits, .inl (c_t_digits, n_t_digits, .inl e_t_digits_56)), (a_t_counts, .inl (c_t_counts, n_t_counts, .inl e_t_counts_57)), (a_t_points, .inl (c_t_points, n_t_points, .inl e_t_points_58))] H := hP
      have hD : va_D A [(a_t_limbs, .inl (c_t_limbs, n_t_limbs, .inl e_t_limbs_59)), (a_t, .inr (8, [.int s_t_thrown, .int s_t_length, .ref a_t_text, .int s_t_place, .ref a_t_digits, .ref a_t_counts, .ref a_t_points, .ref a_t_limbs, .int s_t_limbCount_55, .int s_t_rows, .int s_t_columns, .ref a_t_cells, .int s_t_laid, .ref a_t_lines, .int s_t_size, .ref a_t_draft])), (a_t_digits, .inl (c_t_digits, n_t_digits, .inl e_t_digits_56)), (a_t_counts, .inl (c_t_counts, n_t_counts, .inl e_t_counts_57)), (a_t_points, .inl (c_t_points, n_t_points, .inl e_t_points_58))] := hD
      refine lv_istore (lv' := [(6, .int r_61), (0, .ref a_t), (1, .long x1), (3, .int x3), (4, .int x4), (5, .int x5)]) hx hb d_Md_isBetween_49 hl (by decide) rfl (fun ls hl => ?_)
      refine lv_iload hx hb d_Md_isBetween_51 (lv_at hl 0 rfl) ?_
      refine lv_if_gt (tgt := 66) hx hb d_Md_isBetween_53 (by decide) (fun c_63 => ?_) (fun c_63 => ?_)
      · rw [if_pos c_63] at h
        refine lv_iconst (v := 0) hx hb d_Md_isBetween_66 (by decide) ?_
        replace h := Option.some.inj h
        replace h := Prod.mk.inj h
        obtain ⟨h1, h⟩ := h
        subst h1
        replace h := Prod.mk.inj h
        obtain ⟨h1, h⟩ := h
        subst h1
        replace h := Prod.mk.inj h
        obtain ⟨h1, h⟩ := h
        subst h1
        replace h := Prod.mk.inj h
        obtain ⟨h1, h⟩ := h
        subst h1
        replace h := Prod.mk.inj h
        obtain ⟨h1, h⟩ := h
        subst h1
        subst h
        exact hret _ _ (hP.sub [1, 2, 3, 4, 0] rfl) (hD.sub [1, 2, 3, 4, 0] (by decide) rfl) hS _ _ d_Md_isBetween_67 rfl
      · rw [if_neg c_63] at h
        refine lv_iload hx hb d_Md_isBetween_56 (lv_at hl 0 rfl) ?_
        refine lv_if_ne (tgt := 68) hx hb d_Md_isBetween_58 (by decide) (fun c_64 => ?_) (fun c_64 => ?_)
        · rw [if_neg c_64] at h
          refine lv_aload_n hx hb d_Md_isBetween_68 rfl (lv_at hl 1 rfl) ?_
          refine lv_iconst (v := 1) hx hb d_Md_isBetween_69 (by decide) ?_
          refine lv_lload_n hx hb d_Md_isBetween_70 rfl (lv_at hl 2 rfl) ?_
          refine lv_lconst (v := 1) hx hb d_Md_isBetween_71 (by decide) ?_
          refine lv_lsub hx hb d_Md_isBetween_72 ?_
          replace h := xob_s h
          obtain ⟨⟨s_t_limbCount_65, e_t_digits_66, e_t_counts_67, e_t_points_68, e_t_limbs_69⟩, hc_70, h⟩ := h
          try dsimp only at h
          refine xcV (As := [.int (1 : Int32), .long (x1 - (1 : Int64))]) (rest := []) (st1 := []) (wr := []) ⟨hx, hb, hml, hown, hts⟩ (c_Md_between l dC dI a_t a_t_text a_t_digits a_t_counts a_t_points a_t_limbs a_t_cells a_t_lines a_t_draft c_t_digits c_t_counts c_t_points c_t_limbs n_t_digits n_t_counts n_t_points n_t_limbs s_t_thrown s_t_length s_t_place s_t_limbCount_55 s_t_rows s_t_columns s_t_laid s_t_size e_t_digits_56 e_t_counts_57 e_t_points_58 e_t_limbs_59 (1 : Int32) (x1 - (1 : Int64)) s_t_limbCount_65 e_t_digits_66 e_t_counts_67 e_t_points_68 e_t_limbs_69 hc_70) (cwV 2 hts (xgoodV g_840 g_842 gp_30 g_10 g_843) rfl rfl rfl (by decide +kernel) ⟨Nat.le_of_ble_eq_true rfl, Nat.le_of_ble_eq_true rfl⟩) hNz (ci := 8) (q0 := 1) rfl rfl hA hP hD hS hK [1, 2, 3, 4, 0] [] [0, 1, 2, 3] rfl rfl rfl rfl (by decide) rfl rfl rfl rfl hl.1 (Nat.le_of_ble_eq_true rfl) ⟨Nat.zero_le _, Nat.zero_le _⟩ d_Md_isBetween_73 (fun H locs hP hD hS => ?_)
          have hP : va_P (dC, dI) x_cl [(a_t, .inr (8, [.int s_t_thrown, .int s_t_length, .ref a_t_text, .int s_t_place, .ref a_t_digits, .ref a_t_counts, .ref a_t_points, .ref a_t_limbs, .int s_t_limbCount_65, .int s_t_rows, .int s_t_columns, .ref a_t_cells, .int s_t_laid, .ref a_t_lines, .int s_t_size, .ref a_t_draft])), (a_t_digits, .inl (c_t_digits, n_t_digits, .inl e_t_digits_66)), (a_t_counts, .inl (c_t_counts, n_t_counts, .inl e_t_counts_67)), (a_t_points, .inl (c_t_points, n_t_points, .inl e_t_points_68)), (a_t_limbs, .inl (c_t_limbs, n_t_limbs, .inl e_t_limbs_69))] H := hP
          have hD : va_D A [(a_t, .inr (8, [.int s_t_thrown, .int s_t_length, .ref a_t_text, .int s_t_place, .ref a_t_digits, .ref a_t_counts, .ref a_t_points, .ref a_t_limbs, .int s_t_limbCount_65, .int s_t_rows, .int s_t_columns, .ref a_t_cells, .int s_t_laid, .ref a_t_lines, .int s_t_size, .ref a_t_draft])), (a_t_digits, .inl (c_t_digits, n_t_digits, .inl e_t_digits_66)), (a_t_counts, .inl (c_t_counts, n_t_counts, .inl e_t_counts_67)), (a_t_points, .inl (c_t_points, n_t_points, .inl e_t_points_68)), (a_t_limbs, .inl (c_t_limbs, n_t_limbs, .inl e_t_limbs_69))] := hD
          refine lv_aload_n hx hb d_Md_isBetween_76 rfl (lv_at hl 1 rfl) ?_
          refine lv_iconst (v := 2) hx hb d_Md_isBetween_77 (by decide) ?_
          refine lv_iconst (v := 1) hx hb d_Md_isBetween_78 (by decide) ?_
          replace h := xob_s h
          obtain ⟨r_71, hc_72, h⟩ := h
          try dsimp only at h
          refine xcV (As := [.int (2 : Int32), .int (1 : Int32)]) (rest := []) (st1 := [.int r_71]) (wr := [(a_t_limbs, .inl (c_t_limbs, n_t_limbs, .inl e_t_limbs_69))]) ⟨hx, hb, hml, hown, hts⟩ (c_Md_against l dC dI a_t a_t_text a_t_digits a_t_counts a_t_points a_t_limbs a_t_cells a_t_lines a_t_draft c_t_digits c_t_counts c_t_points n_t_digits n_t_counts n_t_points s_t_thrown s_t_length s_t_place s_t_limbCount_65 s_t_rows s_t_columns s_t_laid s_t_size e_t_digits_66 e_t_counts_67 e_t_points_68 (2 : Int32) (1 : Int32) r_71 hc_72) (cwV 2 hts (xgoodV g_836 g_838 gp_29 g_10 g_839) rfl rfl rfl (by decide +kernel) ⟨Nat.le_of_ble_eq_true rfl, Nat.le_of_ble_eq_true rfl⟩) hNz (ci := 8) (q0 := 0) rfl rfl hA hP hD hS hK [0, 1, 2, 3] [4] [0, 1, 2] rfl rfl rfl rfl (by decide) rfl rfl rfl rfl hl.1 (Nat.le_of_ble_eq_true rfl) ⟨Nat.zero_le _, Nat.zero_le _⟩ d_Md_isBetween_79 (fun H locs hP hD hS => ?_)
          have hP : va_P (dC, dI) x_cl [(a_t_limbs, .inl (c_t_limbs, n_t_limbs, .inl e_t_limbs_69)), (a_t, .inr (8, [.int s_t_thrown, .int s_t_length, .ref a_t_text, .int s_t_place, .ref a_t_digits, .ref a_t_counts, .ref a_t_points, .ref a_t_limbs, .int s_t_limbCount_65, .int s_t_rows, .int s_t_columns, .ref a_t_cells, .int s_t_laid, .ref a_t_lines, .int s_t_size, .ref a_t_draft])), (a_t_digits, .inl (c_t_digits, n_t_digits, .inl e_t_digits_66)), (a_t_counts, .inl (c_t_counts, n_t_counts, .inl e_t_counts_67)), (a_t_points, .inl (c_t_points, n_t_points, .inl e_t_points_68))] H := hP
          have hD : va_D A [(a_t_limbs, .inl (c_t_limbs, n_t_limbs, .inl e_t_limbs_69)), (a_t, .inr (8, [.int s_t_thrown, .int s_t_length, .ref a_t_text, .int s_t_place, .ref a_t_digits, .ref a_t_counts, .ref a_t_points, .ref a_t_limbs, .int s_t_limbCount_65, .int s_t_rows, .int s_t_columns, .ref a_t_cells, .int s_t_laid, .ref a_t_lines, .int s_t_size, .ref a_t_draft])), (a_t_digits, .inl (c_t_digits, n_t_digits, .inl e_t_digits_66)), (a_t_counts, .inl (c_t_counts, n_t_counts, .inl e_t_counts_67)), (a_t_points, .inl (c_t_points, n_t_points, .inl e_t_points_68))] := hD
          refine lv_istore (lv' := [(7, .int r_71), (6, .int r_61), (0, .ref a_t), (1, .long x1), (3, .int x3), (4, .int x4), (5, .int x5)]) hx hb d_Md_isBetween_82 hl (by decide) rfl (fun ls hl => ?_)
          refine lv_iload hx hb d_Md_isBetween_84 (lv_at hl 0 rfl) ?_
          refine lv_if_gt (tgt := 99) hx hb d_Md_isBetween_86 (by decide) (fun c_73 => ?_) (fun c_73 => ?_)
          · rw [if_pos c_73] at h
            refine lv_iconst (v := 1) hx hb d_Md_isBetween_99 (by decide) ?_
            refine lv_goto (tgt := 104) hx hb d_Md_isBetween_100 (by decide) ?_
            replace h := Option.some.inj h
            replace h := Prod.mk.inj h
            obtain ⟨h1, h⟩ := h
            subst h1
            replace h := Prod.mk.inj h
            obtain ⟨h1, h⟩ := h
            subst h1
            replace h := Prod.mk.inj h
            obtain ⟨h1, h⟩ := h
            subst h1
            replace h := Prod.mk.inj h
            obtain ⟨h1, h⟩ := h
            subst h1
            replace h := Prod.mk.inj h
            obtain ⟨h1, h⟩ := h
            subst h1
            subst h
            exact hret _ _ (hP.sub [1, 2, 3, 4, 0] rfl) (hD.sub [1, 2, 3, 4, 0] (by decide) rfl) hS _ _ d_Md_isBetween_104 rfl
          · rw [if_neg c_73] at h
            refine lv_iload hx hb d_Md_isBetween_89 (lv_at hl 0 rfl) ?_
            refine lv_if_ne (tgt := 103) hx hb d_Md_isBetween_91 (by decide) (fun c_74 => ?_) (fun c_74 => ?_)
            · rw [if_neg c_74] at h
              refine lv_iconst (v := 0) hx hb d_Md_isBetween_103 (by decide) ?_
              replace h := Option.some.inj h
              replace h := Prod.mk.inj h
              obtain ⟨h1, h⟩ := h
              subst h1
              replace h := Prod.mk.inj h
              obtain ⟨h1, h⟩ := h
              subst h1
              replace h := Prod.mk.inj h
              obtain ⟨h1, h⟩ := h
              subst h1
              replace h := Prod.mk.inj h
              obtain ⟨h1, h⟩ := h
              subst h1
              replace h := Prod.mk.inj h
              obtain ⟨h1, h⟩ := h
              subst h1
              subst h
              exact hret _ _ (hP.sub [1, 2, 3, 4, 0] rfl) (hD.sub [1, 2, 3, 4, 0] (by decide) rfl) hS _ _ d_Md_isBetween_104 rfl
            · rw [if_pos c_74] at h
              refine lv_iload hx hb d_Md_isBetween_94 (lv_at hl 6 rfl) ?_
              refine lv_if_eq (tgt := 103) hx hb d_Md_isBetween_96 (by decide) (fun c_75 => ?_) (fun c_75 => ?_)
              · rw [if_pos c_75] at h
                refine lv_iconst (v := 0) hx hb d_Md_isBetween_103 (by decide) ?_
                replace h := Option.some.inj h
                replace h := Prod.mk.inj h
                obtain ⟨h1, h⟩ := h
                subst h1
                replace h := Prod.mk.inj h
                obtain ⟨h1, h⟩ := h
                subst h1
                replace h := Prod.mk.inj h
                obtain ⟨h1, h⟩ := h
                subst h1
                replace h := Prod.mk.inj h
                obtain ⟨h1, h⟩ := h
                subst h1
                replace h := Prod.mk.inj h
                obtain ⟨h1, h⟩ := h
                subst h1
                subst h
                exact hret _ _ (hP.sub [1, 2, 3, 4, 0] rfl) (hD.sub [1, 2, 3, 4, 0] (by decide) rfl) hS _ _ d_Md_isBetween_104 rfl
              · rw [if_neg c_75] at h
                refine lv_iconst (v := 1) hx hb d_Md_isBetween_99 (by decide) ?_
                refine lv_goto (tgt := 104) hx hb d_Md_isBetween_100 (by decide) ?_
                replace h := Option.some.inj h
                replace h := Prod.mk.inj h
                obtain ⟨h1, h⟩ := h
                subst h1
                replace h := Prod.mk.inj h
                obtain ⟨h1, h⟩ := h
                subst h1
                replace h := Prod.mk.inj h
                obtain ⟨h1, h⟩ := h
                subst h1
                replace h := Prod.mk.inj h
                obtain ⟨h1, h⟩ := h
                subst h1
                replace h := Prod.mk.inj h
                obtain ⟨h1, h⟩ := h
                subst h1
                subst h
                exact hret _ _ (hP.sub [1, 2, 3, 4, 0] rfl) (hD.sub [1, 2, 3, 4, 0] (by decide) rfl) hS _ _ d_Md_isBetween_104 rfl
        · rw [if_pos c_64] at h
          refine lv_iload hx hb d_Md_isBetween_61 (lv_at hl 5 rfl) ?_
          refine lv_if_ne (tgt := 68) hx hb d_Md_isBetween_63 (by decide) (fun c_76 => ?_) (fun c_76 => ?_)
          · rw [if_neg c_76] at h
            refine lv_aload_n hx hb d_Md_isBetween_68 rfl (lv_at hl 1 rfl) ?_
            refine lv_iconst (v := 1) hx hb d_Md_isBetween_69 (by decide) ?_
            refine lv_lload_n hx hb d_Md_isBetween_70 rfl (lv_at hl 2 rfl) ?_
            refine lv_lconst (v := 1) hx hb d_Md_isBetween_71 (by decide) ?_
            refine lv_lsub hx hb d_Md_isBetween_72 ?_
            replace h := xob_s h
            obtain ⟨⟨s_t_limbCount_77, e_t_digits_78, e_t_counts_79, e_t_points_80, e_t_limbs_81⟩, hc_82, h⟩ := h
            try dsimp only at h
            refine xcV (As := [.int (1 : Int32), .long (x1 - (1 : Int64))]) (rest := []) (st1 := []) (wr := []) ⟨hx, hb, hml, hown, hts⟩ (c_Md_between l dC dI a_t a_t_text a_t_digits a_t_counts a_t_points a_t_limbs a_t_cells a_t_lines a_t_draft c_t_digits c_t_counts c_t_points c_t_limbs n_t_digits n_t_counts n_t_points n_t_limbs s_t_thrown s_t_length s_t_place s_t_limbCount_55 s_t_rows s_t_columns s_t_laid s_t_size e_t_digits_56 e_t_counts_57 e_t_points_58 e_t_limbs_59 (1 : Int32) (x1 - (1 : Int64)) s_t_limbCount_77 e_t_digits_78 e_t_counts_79 e_t_points_80 e_t_limbs_81 hc_82) (cwV 2 hts (xgoodV g_840 g_842 gp_30 g_10 g_843) rfl rfl rfl (by decide +kernel) ⟨Nat.le_of_ble_eq_true rfl, Nat.le_of_ble_eq_true rfl⟩) hNz (ci := 8) (q0 := 1) rfl rfl hA hP hD hS hK [1, 2, 3, 4, 0] [] [0, 1, 2, 3] rfl rfl rfl rfl (by decide) rfl rfl rfl rfl hl.1 (Nat.le_of_ble_eq_true rfl) ⟨Nat.zero_le _, Nat.zero_le _⟩ d_Md_isBetween_73 (fun H locs hP hD hS => ?_)
            have hP : va_P (dC, dI) x_cl [(a_t, .inr (8, [.int s_t_thrown, .int s_t_length, .ref a_t_text, .int s_t_place, .ref a_t_digits, .ref a_t_counts, .ref a_t_points, .ref a_t_limbs, .int s_t_limbCount_77, .int s_t_rows, .int s_t_columns, .ref a_t_cells, .int s_t_laid, .ref a_t_lines, .int s_t_size, .ref a_t_draft])), (a_t_digits, .inl (c_t_digits, n_t_digits, .inl e_t_digits_78)), (a_t_counts, .inl (c_t_counts, n_t_counts, .inl e_t_counts_79)), (a_t_points, .inl (c_t_points, n_t_points, .inl e_t_points_80)), (a_t_limbs, .inl (c_t_limbs, n_t_limbs, .inl e_t_limbs_81))] H := hP
            have hD : va_D A [(a_t, .inr (8, [.int s_t_thrown, .int s_t_length, .ref a_t_text, .int s_t_place, .ref a_t_digits, .ref a_t_counts, .ref a_t_points, .ref a_t_limbs, .int s_t_limbCount_77, .int s_t_rows, .int s_t_columns, .ref a_t_cells, .int s_t_laid, .ref a_t_lines, .int s_t_size, .ref a_t_draft])), (a_t_digits, .inl (c_t_digits, n_t_digits, .inl e_t_digits_78)), (a_t_counts, .inl (c_t_counts, n_t_counts, .inl e_t_counts_79)), (a_t_points, .inl (c_t_points, n_t_points, .inl e_t_points_80)), (a_t_limbs, .inl (c_t_limbs, n_t_limbs, .inl e_t_limbs_81))] := hD
            refine lv_aload_n hx hb d_Md_isBetween_76 rfl (lv_at hl 1 rfl) ?_
            refine lv_iconst (v := 2) hx hb d_Md_isBetween_77 (by decide) ?_
            refine lv_iconst (v := 1) hx hb d_Md_isBetween_78 (by decide) ?_
            replace h := xob_s h
            obtain ⟨r_83, hc_84, h⟩ := h
            try dsimp only at h
            refine xcV (As := [.int (2 : Int32), .int (1 : Int32)]) (rest := []) (st1 := [.int r_83]) (wr := [(a_t_limbs, .inl (c_t_limbs, n_t_limbs, .inl e_t_limbs_81))]) ⟨hx, hb, hml, hown, hts⟩ (c_Md_against l dC dI a_t a_t_text a_t_digits a_t_counts a_t_points a_t_limbs a_t_cells a_t_lines a_t_draft c_t_digits c_t_counts c_t_points n_t_digits n_t_counts n_t_points s_t_thrown s_t_length s_t_place s_t_limbCount_77 s_t_rows s_t_columns s_t_laid s_t_size e_t_digits_78 e_t_counts_79 e_t_points_80 (2 : Int32) (1 : Int32) r_83 hc_84) (cwV 2 hts (xgoodV g_836 g_838 gp_29 g_10 g_839) rfl rfl rfl (by decide +kernel) ⟨Nat.le_of_ble_eq_true rfl, Nat.le_of_ble_eq_true rfl⟩) hNz (ci := 8) (q0 := 0) rfl rfl hA hP hD hS hK [0, 1, 2, 3] [4] [0, 1, 2] rfl rfl rfl rfl (by decide) rfl rfl rfl rfl hl.1 (Nat.le_of_ble_eq_true rfl) ⟨Nat.zero_le _, Nat.zero_le _⟩ d_Md_isBetween_79 (fun H locs hP hD hS => ?_)
            have hP : va_P (dC, dI) x_cl [(a_t_limbs, .inl (c_t_limbs, n_t_limbs, .inl e_t_limbs_81)), (a_t, .inr (8, [.int s_t_thrown, .int s_t_length, .ref a_t_text, .int s_t_place, .ref a_t_digits, .ref a_t_counts, .ref a_t_points, .ref a_t_limbs, .int s_t_limbCount_77, .int s_t_rows, .int s_t_columns, .ref a_t_cells, .int s_t_laid, .ref a_t_lines, .int s_t_size, .ref a_t_draft])), (a_t_digits, .inl (c_t_digits, n_t_digits, .inl e_t_digits_78)), (a_t_counts, .inl (c_t_counts, n_t_counts, .inl e_t_counts_79)), (a_t_points, .inl (c_t_points, n_t_points, .inl e_t_points_80))] H := hP
            have hD : va_D A [(a_t_limbs, .inl (c_t_limbs, n_t_limbs, .inl e_t_limbs_81)), (a_t, .inr (8, [.int s_t_thrown, .int s_t_length, .ref a_t_text, .int s_t_place, .ref a_t_digits, .ref a_t_counts, .ref a_t_points, .ref a_t_limbs, .int s_t_limbCount_77, .int s_t_rows, .int s_t_columns, .ref a_t_cells, .int s_t_laid, .ref a_t_lines, .int s_t_size, .ref a_t_draft])), (a_t_digits, .inl (c_t_digits, n_t_digits, .inl e_t_digits_78)), (a_t_counts, .inl (c_t_counts, n_t_counts, .inl e_t_counts_79)), (a_t_points, .inl (c_t_points, n_t_points, .inl e_t_points_80))] := hD
            refine lv_istore (lv' := [(7, .int r_83), (6, .int r_61), (0, .ref a_t), (1, .long x1), (3, .int x3), (4, .int x4), (5, .int x5)]) hx hb d_Md_isBetween_82 hl (by decide) rfl (fun ls hl => ?_)
            refine lv_iload hx hb d_Md_isBetween_84 (lv_at hl 0 rfl) ?_
            refine lv_if_gt (tgt := 99) hx hb d_Md_isBetween_86 (by decide) (fun c_85 => ?_) (fun c_85 => ?_)
            · rw [if_pos c_85] at h
              refine lv_iconst (v := 1) hx hb d_Md_isBetween_99 (by decide) ?_
              refine lv_goto (tgt := 104) hx hb d_Md_isBetween_100 (by decide) ?_
              replace h := Option.some.inj h
              replace h := Prod.mk.inj h
              obtain ⟨h1, h⟩ := h
              subst h1
              replace h := Prod.mk.inj h
              obtain ⟨h1, h⟩ := h
              subst h1
              replace h := Prod.mk.inj h
              obtain ⟨h1, h⟩ := h
              subst h1
              replace h := Prod.mk.inj h
              obtain ⟨h1, h⟩ := h
              subst h1
              replace h := Prod.mk.inj h
              obtain ⟨h1, h⟩ := h
              subst h1
              subst h
              exact hret _ _ (hP.sub [1, 2, 3, 4, 0] rfl) (hD.sub [1, 2, 3, 4, 0] (by decide) rfl) hS _ _ d_Md_isBetween_104 rfl
            · rw [if_neg c_85] at h
              refine lv_iload hx hb d_Md_isBetween_89 (lv_at hl 0 rfl) ?_
              refine lv_if_ne (tgt := 103) hx hb d_Md_isBetween_91 (by decide) (fun c_86 => ?_) (fun c_86 => ?_)
              · rw [if_neg c_86] at h
                refine lv_iconst (v := 0) hx hb d_Md_isBetween_103 (by decide) ?_
                replace h := Option.some.inj h
                replace h := Prod.mk.inj h
                obtain ⟨h1, h⟩ := h
                subst h1
                replace h := Prod.mk.inj h
                obtain ⟨h1, h⟩ := h
                subst h1
                replace h := Prod.mk.inj h
                obtain ⟨h1, h⟩ := h
                subst h1
                replace h := Prod.mk.inj h
                obtain ⟨h1, h⟩ := h
                subst h1
                replace h := Prod.mk.inj h
                obtain ⟨h1, h⟩ := h
                subst h1
                subst h
                exact hret _ _ (hP.sub [1, 2, 3, 4, 0] rfl) (hD.sub [1, 2, 3, 4, 0] (by decide) rfl) hS _ _ d_Md_isBetween_104 rfl
              · rw [if_pos c_86] at h
                refine lv_iload hx hb d_Md_isBetween_94 (lv_at hl 6 rfl) ?_
                refine lv_if_eq (tgt := 103) hx hb d_Md_isBetween_96 (by decide) (fun c_87 => ?_) (fun c_87 => ?_)
                · rw [if_pos c_87] at h
                  refine lv_iconst (v := 0) hx hb d_Md_isBetween_103 (by decide) ?_
                  replace h := Option.some.inj h
                  replace h := Prod.mk.inj h
                  obtain ⟨h1, h⟩ := h
                  subst h1
                  replace h := Prod.mk.inj h
                  obtain ⟨h1, h⟩ := h
                  subst h1
                  replace h := Prod.mk.inj h
                  obtain ⟨h1, h⟩ := h
                  subst h1
                  replace h := Prod.mk.inj h
                  obtain ⟨h1, h⟩ := h
                  subst h1
                  replace h := Prod.mk.inj h
                  obtain ⟨h1, h⟩ := h
                  subst h1
                  subst h
                  exact hret _ _ (hP.sub [1, 2, 3, 4, 0] rfl) (hD.sub [1, 2, 3, 4, 0] (by decide) rfl) hS _ _ d_Md_isBetween_104 rfl
                · rw [if_neg c_87] at h
                  refine lv_iconst (v := 1) hx hb d_Md_isBetween_99 (by decide) ?_
                  refine lv_goto (tgt := 104) hx hb d_Md_isBetween_100 (by decide) ?_
                  replace h := Option.some.inj h
                  replace h := Prod.mk.inj h
                  obtain ⟨h1, h⟩ := h
                  subst h1
                  replace h := Prod.mk.inj h
                  obtain ⟨h1, h⟩ := h
                  subst h1
                  replace h := Prod.mk.inj h
                  obtain ⟨h1, h⟩ := h
                  subst h1
                  replace h := Prod.mk.inj h
                  obtain ⟨h1, h⟩ := h
                  subst h1
                  replace h := Prod.mk.inj h
                  obtain ⟨h1, h⟩ := h
                  subst h1
                  subst h
                  exact hret _ _ (hP.sub [1, 2, 3, 4, 0] rfl) (hD.sub [1, 2, 3, 4, 0] (by decide) rfl) hS _ _ d_Md_isBetween_104 rfl
          · rw [if_pos c_76] at h
            refine lv_iconst (v := 0) hx hb d_Md_isBetween_66 (by decide) ?_
            replace h := Option.some.inj h
            replace h := Prod.mk.inj h
            obtain ⟨h1, h⟩ := h
            subst h1
            replace h := Prod.mk.inj h
            obtain ⟨h1, h⟩ := h
            subst h1
            replace h := Prod.mk.inj h
            obtain ⟨h1, h⟩ := h
            subst h1
            replace h := Prod.mk.inj h
            obtain ⟨h1, h⟩ := h
            subst h1
            replace h := Prod.mk.inj h
            obtain ⟨h1, h⟩ := h
            subst h1
            subst h
            exact hret _ _ (hP.sub [1, 2, 3, 4, 0] rfl) (hD.sub [1, 2, 3, 4, 0] (by decide) rfl) hS _ _ d_Md_isBetween_67 rfl
    · rw [if_neg c_48] at h
      refine lv_iconst (v := 0) hx hb d_Md_isBetween_21 (by decide) ?_
      replace h := Option.some.inj h
      replace h := Prod.mk.inj h
      obtain ⟨h1, h⟩ := h
      subst h1
      replace h := Prod.mk.inj h
      obtain ⟨h1, h⟩ := h
      subst h1
      replace h := Prod.mk.inj h
      obtain ⟨h1, h⟩ := h
      subst h1
      replace h := Prod.mk.inj h
      obtain ⟨h1, h⟩ := h
      subst h1
      replace h := Prod.mk.inj h
      obtain ⟨h1, h⟩ := h
      subst h1
      subst h
      exact hret _ _ hP hD hS _ _ d_Md_isBetween_22 rfl
